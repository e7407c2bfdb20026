/-! the law's larger methods: computations over its state, and their contracts -/
theorem dL_organises_0 : decode cL_organises 0 = .ok (.iload 4, 2) := by decide +kernel
theorem dL_organises_2 : decode cL_organises 2 = .ok (.aload_n 3, 1) := by decide +kernel
theorem dL_organises_3 : decode cL_organises 3 = .ok (.iconst 0, 1) := by decide +kernel
theorem dL_organises_4 : decode cL_organises 4 = .ok (.iaload, 1) := by decide +kernel
theorem dL_organises_5 : decode cL_organises 5 = .ok (.invokestatic 198, 3) := by decide +kernel
theorem dL_organises_8 : decode cL_organises 8 = .ok (.istore 6, 2) := by decide +kernel
theorem dL_organises_10 : decode cL_organises 10 = .ok (.aload_n 1, 1) := by decide +kernel
theorem dL_organises_11 : decode cL_organises 11 = .ok (.iload 6, 2) := by decide +kernel
theorem dL_organises_13 : decode cL_organises 13 = .ok (.iaload, 1) := by decide +kernel
theorem dL_organises_14 : decode cL_organises 14 = .ok (.bipush 8, 2) := by decide +kernel
theorem dL_organises_16 : decode cL_organises 16 = .ok (.irem, 1) := by decide +kernel
theorem dL_organises_17 : decode cL_organises 17 = .ok (.istore 7, 2) := by decide +kernel
theorem dL_organises_19 : decode cL_organises 19 = .ok (.aload_n 1, 1) := by decide +kernel
theorem dL_organises_20 : decode cL_organises 20 = .ok (.iload 6, 2) := by decide +kernel
theorem dL_organises_22 : decode cL_organises 22 = .ok (.iaload, 1) := by decide +kernel
theorem dL_organises_23 : decode cL_organises 23 = .ok (.sipush 4095, 3) := by decide +kernel
theorem dL_organises_26 : decode cL_organises 26 = .ok (.if_icmp .le 7, 3) := by decide +kernel
theorem dL_organises_29 : decode cL_organises 29 = .ok (.iconst 1, 1) := by decide +kernel
theorem dL_organises_30 : decode cL_organises 30 = .ok (.goto 4, 3) := by decide +kernel
theorem dL_organises_33 : decode cL_organises 33 = .ok (.iconst 0, 1) := by decide +kernel
theorem dL_organises_34 : decode cL_organises 34 = .ok (.istore 8, 2) := by decide +kernel
theorem dL_organises_36 : decode cL_organises 36 = .ok (.iload 4, 2) := by decide +kernel
theorem dL_organises_38 : decode cL_organises 38 = .ok (.iconst 3, 1) := by decide +kernel
theorem dL_organises_39 : decode cL_organises 39 = .ok (.ishr, 1) := by decide +kernel
theorem dL_organises_40 : decode cL_organises 40 = .ok (.bipush 16, 2) := by decide +kernel
theorem dL_organises_42 : decode cL_organises 42 = .ok (.invokestatic 198, 3) := by decide +kernel
theorem dL_organises_45 : decode cL_organises 45 = .ok (.istore 9, 2) := by decide +kernel
theorem dL_organises_47 : decode cL_organises 47 = .ok (.iload 5, 2) := by decide +kernel
theorem dL_organises_49 : decode cL_organises 49 = .ok (.bipush 60, 2) := by decide +kernel
theorem dL_organises_51 : decode cL_organises 51 = .ok (.invokestatic 198, 3) := by decide +kernel
theorem dL_organises_54 : decode cL_organises 54 = .ok (.istore 10, 2) := by decide +kernel
theorem dL_organises_56 : decode cL_organises 56 = .ok (.iload 5, 2) := by decide +kernel
theorem dL_organises_58 : decode cL_organises 58 = .ok (.bipush 6, 2) := by decide +kernel
theorem dL_organises_60 : decode cL_organises 60 = .ok (.ishr, 1) := by decide +kernel
theorem dL_organises_61 : decode cL_organises 61 = .ok (.bipush 24, 2) := by decide +kernel
theorem dL_organises_63 : decode cL_organises 63 = .ok (.invokestatic 198, 3) := by decide +kernel
theorem dL_organises_66 : decode cL_organises 66 = .ok (.istore 11, 2) := by decide +kernel
theorem dL_organises_68 : decode cL_organises 68 = .ok (.iload 9, 2) := by decide +kernel
theorem dL_organises_70 : decode cL_organises 70 = .ok (.iconst 2, 1) := by decide +kernel
theorem dL_organises_71 : decode cL_organises 71 = .ok (.if_icmp .ge 134, 3) := by decide +kernel
theorem dL_organises_74 : decode cL_organises 74 = .ok (.iconst 1, 1) := by decide +kernel
theorem dL_organises_75 : decode cL_organises 75 = .ok (.iload 5, 2) := by decide +kernel
theorem dL_organises_77 : decode cL_organises 77 = .ok (.bipush 11, 2) := by decide +kernel
theorem dL_organises_79 : decode cL_organises 79 = .ok (.ishr, 1) := by decide +kernel
theorem dL_organises_80 : decode cL_organises 80 = .ok (.bipush 23, 2) := by decide +kernel
theorem dL_organises_82 : decode cL_organises 82 = .ok (.invokestatic 198, 3) := by decide +kernel
theorem dL_organises_85 : decode cL_organises 85 = .ok (.iadd, 1) := by decide +kernel
theorem dL_organises_86 : decode cL_organises 86 = .ok (.istore 12, 2) := by decide +kernel
theorem dL_organises_88 : decode cL_organises 88 = .ok (.aload_n 0, 1) := by decide +kernel
theorem dL_organises_89 : decode cL_organises 89 = .ok (.iload 6, 2) := by decide +kernel
theorem dL_organises_91 : decode cL_organises 91 = .ok (.iload 10, 2) := by decide +kernel
theorem dL_organises_93 : decode cL_organises 93 = .ok (.iload 11, 2) := by decide +kernel
theorem dL_organises_95 : decode cL_organises 95 = .ok (.iload 12, 2) := by decide +kernel
theorem dL_organises_97 : decode cL_organises 97 = .ok (.invokestatic 237, 3) := by decide +kernel
theorem dL_organises_100 : decode cL_organises 100 = .ok (.istore 13, 2) := by decide +kernel
theorem dL_organises_102 : decode cL_organises 102 = .ok (.iload 13, 2) := by decide +kernel
theorem dL_organises_104 : decode cL_organises 104 = .ok (.ifCond .lt 7, 3) := by decide +kernel
theorem dL_organises_107 : decode cL_organises 107 = .ok (.iconst 1, 1) := by decide +kernel
theorem dL_organises_108 : decode cL_organises 108 = .ok (.goto 4, 3) := by decide +kernel
theorem dL_organises_111 : decode cL_organises 111 = .ok (.iconst 0, 1) := by decide +kernel
theorem dL_organises_112 : decode cL_organises 112 = .ok (.iload 8, 2) := by decide +kernel
theorem dL_organises_114 : decode cL_organises 114 = .ok (.ifCond .ne 7, 3) := by decide +kernel
theorem dL_organises_117 : decode cL_organises 117 = .ok (.iconst 1, 1) := by decide +kernel
theorem dL_organises_118 : decode cL_organises 118 = .ok (.goto 4, 3) := by decide +kernel
theorem dL_organises_121 : decode cL_organises 121 = .ok (.iconst 0, 1) := by decide +kernel
theorem dL_organises_122 : decode cL_organises 122 = .ok (.if_icmp .ne 81, 3) := by decide +kernel
theorem dL_organises_125 : decode cL_organises 125 = .ok (.aload_n 0, 1) := by decide +kernel
theorem dL_organises_126 : decode cL_organises 126 = .ok (.aload_n 1, 1) := by decide +kernel
theorem dL_organises_127 : decode cL_organises 127 = .ok (.aload_n 2, 1) := by decide +kernel
theorem dL_organises_128 : decode cL_organises 128 = .ok (.iload 6, 2) := by decide +kernel
theorem dL_organises_130 : decode cL_organises 130 = .ok (.iload 13, 2) := by decide +kernel
theorem dL_organises_132 : decode cL_organises 132 = .ok (.invokestatic 240, 3) := by decide +kernel
theorem dL_organises_135 : decode cL_organises 135 = .ok (.ifCond .eq 68, 3) := by decide +kernel
theorem dL_organises_138 : decode cL_organises 138 = .ok (.aload_n 0, 1) := by decide +kernel
theorem dL_organises_139 : decode cL_organises 139 = .ok (.iload 6, 2) := by decide +kernel
theorem dL_organises_141 : decode cL_organises 141 = .ok (.bipush 60, 2) := by decide +kernel
theorem dL_organises_143 : decode cL_organises 143 = .ok (.iconst 0, 1) := by decide +kernel
theorem dL_organises_144 : decode cL_organises 144 = .ok (.iconst 1, 1) := by decide +kernel
theorem dL_organises_145 : decode cL_organises 145 = .ok (.invokestatic 237, 3) := by decide +kernel
theorem dL_organises_148 : decode cL_organises 148 = .ok (.ldc 21, 2) := by decide +kernel
theorem dL_organises_150 : decode cL_organises 150 = .ok (.if_icmp .ne 53, 3) := by decide +kernel
theorem dL_organises_153 : decode cL_organises 153 = .ok (.aload_n 0, 1) := by decide +kernel
theorem dL_organises_154 : decode cL_organises 154 = .ok (.iload 6, 2) := by decide +kernel
theorem dL_organises_156 : decode cL_organises 156 = .ok (.iconst 0, 1) := by decide +kernel
theorem dL_organises_157 : decode cL_organises 157 = .ok (.bipush 24, 2) := by decide +kernel
theorem dL_organises_159 : decode cL_organises 159 = .ok (.iconst 1, 1) := by decide +kernel
theorem dL_organises_160 : decode cL_organises 160 = .ok (.invokestatic 237, 3) := by decide +kernel
theorem dL_organises_163 : decode cL_organises 163 = .ok (.ldc 21, 2) := by decide +kernel
theorem dL_organises_165 : decode cL_organises 165 = .ok (.if_icmp .ne 38, 3) := by decide +kernel
theorem dL_organises_168 : decode cL_organises 168 = .ok (.aload_n 0, 1) := by decide +kernel
theorem dL_organises_169 : decode cL_organises 169 = .ok (.iload 6, 2) := by decide +kernel
theorem dL_organises_171 : decode cL_organises 171 = .ok (.iconst 0, 1) := by decide +kernel
theorem dL_organises_172 : decode cL_organises 172 = .ok (.iconst 0, 1) := by decide +kernel
theorem dL_organises_173 : decode cL_organises 173 = .ok (.bipush 24, 2) := by decide +kernel
theorem dL_organises_175 : decode cL_organises 175 = .ok (.invokestatic 237, 3) := by decide +kernel
theorem dL_organises_178 : decode cL_organises 178 = .ok (.ldc 21, 2) := by decide +kernel
theorem dL_organises_180 : decode cL_organises 180 = .ok (.if_icmp .ne 23, 3) := by decide +kernel
theorem dL_organises_183 : decode cL_organises 183 = .ok (.aload_n 0, 1) := by decide +kernel
theorem dL_organises_184 : decode cL_organises 184 = .ok (.aload_n 3, 1) := by decide +kernel
theorem dL_organises_185 : decode cL_organises 185 = .ok (.iconst 0, 1) := by decide +kernel
theorem dL_organises_186 : decode cL_organises 186 = .ok (.iaload, 1) := by decide +kernel
theorem dL_organises_187 : decode cL_organises 187 = .ok (.bipush 60, 2) := by decide +kernel
theorem dL_organises_189 : decode cL_organises 189 = .ok (.iconst 0, 1) := by decide +kernel
theorem dL_organises_190 : decode cL_organises 190 = .ok (.iconst 0, 1) := by decide +kernel
theorem dL_organises_191 : decode cL_organises 191 = .ok (.invokestatic 237, 3) := by decide +kernel
theorem dL_organises_194 : decode cL_organises 194 = .ok (.ldc 18, 2) := by decide +kernel
theorem dL_organises_196 : decode cL_organises 196 = .ok (.if_icmp .ne 7, 3) := by decide +kernel
theorem dL_organises_199 : decode cL_organises 199 = .ok (.iconst 1, 1) := by decide +kernel
theorem dL_organises_200 : decode cL_organises 200 = .ok (.goto 4, 3) := by decide +kernel
theorem dL_organises_203 : decode cL_organises 203 = .ok (.iconst 0, 1) := by decide +kernel
theorem dL_organises_204 : decode cL_organises 204 = .ok (.ireturn, 1) := by decide +kernel
theorem dL_organises_205 : decode cL_organises 205 = .ok (.iload 9, 2) := by decide +kernel
theorem dL_organises_207 : decode cL_organises 207 = .ok (.iconst 5, 1) := by decide +kernel
theorem dL_organises_208 : decode cL_organises 208 = .ok (.if_icmp .ge 158, 3) := by decide +kernel
theorem dL_organises_211 : decode cL_organises 211 = .ok (.aload_n 0, 1) := by decide +kernel
theorem dL_organises_212 : decode cL_organises 212 = .ok (.iload 6, 2) := by decide +kernel
theorem dL_organises_214 : decode cL_organises 214 = .ok (.iconst 1, 1) := by decide +kernel
theorem dL_organises_215 : decode cL_organises 215 = .ok (.iload 5, 2) := by decide +kernel
theorem dL_organises_217 : decode cL_organises 217 = .ok (.bipush 28, 2) := by decide +kernel
theorem dL_organises_219 : decode cL_organises 219 = .ok (.invokestatic 198, 3) := by decide +kernel
theorem dL_organises_222 : decode cL_organises 222 = .ok (.iadd, 1) := by decide +kernel
theorem dL_organises_223 : decode cL_organises 223 = .ok (.iconst 1, 1) := by decide +kernel
theorem dL_organises_224 : decode cL_organises 224 = .ok (.iload 5, 2) := by decide +kernel
theorem dL_organises_226 : decode cL_organises 226 = .ok (.iconst 5, 1) := by decide +kernel
theorem dL_organises_227 : decode cL_organises 227 = .ok (.ishr, 1) := by decide +kernel
theorem dL_organises_228 : decode cL_organises 228 = .ok (.bipush 127, 2) := by decide +kernel
theorem dL_organises_230 : decode cL_organises 230 = .ok (.invokestatic 198, 3) := by decide +kernel
theorem dL_organises_233 : decode cL_organises 233 = .ok (.iadd, 1) := by decide +kernel
theorem dL_organises_234 : decode cL_organises 234 = .ok (.iconst 1, 1) := by decide +kernel
theorem dL_organises_235 : decode cL_organises 235 = .ok (.iload 5, 2) := by decide +kernel
theorem dL_organises_237 : decode cL_organises 237 = .ok (.bipush 12, 2) := by decide +kernel
theorem dL_organises_239 : decode cL_organises 239 = .ok (.ishr, 1) := by decide +kernel
theorem dL_organises_240 : decode cL_organises 240 = .ok (.bipush 10, 2) := by decide +kernel
theorem dL_organises_242 : decode cL_organises 242 = .ok (.invokestatic 198, 3) := by decide +kernel
theorem dL_organises_245 : decode cL_organises 245 = .ok (.iadd, 1) := by decide +kernel
theorem dL_organises_246 : decode cL_organises 246 = .ok (.invokestatic 243, 3) := by decide +kernel
theorem dL_organises_249 : decode cL_organises 249 = .ok (.istore 12, 2) := by decide +kernel
theorem dL_organises_251 : decode cL_organises 251 = .ok (.iload 12, 2) := by decide +kernel
theorem dL_organises_253 : decode cL_organises 253 = .ok (.ifCond .lt 7, 3) := by decide +kernel
theorem dL_organises_256 : decode cL_organises 256 = .ok (.iconst 1, 1) := by decide +kernel
theorem dL_organises_257 : decode cL_organises 257 = .ok (.goto 4, 3) := by decide +kernel
theorem dL_organises_260 : decode cL_organises 260 = .ok (.iconst 0, 1) := by decide +kernel
theorem dL_organises_261 : decode cL_organises 261 = .ok (.iload 8, 2) := by decide +kernel
theorem dL_organises_263 : decode cL_organises 263 = .ok (.ifCond .ne 7, 3) := by decide +kernel
theorem dL_organises_266 : decode cL_organises 266 = .ok (.iconst 1, 1) := by decide +kernel
theorem dL_organises_267 : decode cL_organises 267 = .ok (.goto 4, 3) := by decide +kernel
theorem dL_organises_270 : decode cL_organises 270 = .ok (.iconst 0, 1) := by decide +kernel
theorem dL_organises_271 : decode cL_organises 271 = .ok (.if_icmp .ne 93, 3) := by decide +kernel
theorem dL_organises_274 : decode cL_organises 274 = .ok (.aload_n 0, 1) := by decide +kernel
theorem dL_organises_275 : decode cL_organises 275 = .ok (.aload_n 1, 1) := by decide +kernel
theorem dL_organises_276 : decode cL_organises 276 = .ok (.aload_n 2, 1) := by decide +kernel
theorem dL_organises_277 : decode cL_organises 277 = .ok (.iload 6, 2) := by decide +kernel
theorem dL_organises_279 : decode cL_organises 279 = .ok (.iload 12, 2) := by decide +kernel
theorem dL_organises_281 : decode cL_organises 281 = .ok (.invokestatic 240, 3) := by decide +kernel
theorem dL_organises_284 : decode cL_organises 284 = .ok (.ifCond .eq 80, 3) := by decide +kernel
theorem dL_organises_287 : decode cL_organises 287 = .ok (.aload_n 0, 1) := by decide +kernel
theorem dL_organises_288 : decode cL_organises 288 = .ok (.iload 7, 2) := by decide +kernel
theorem dL_organises_290 : decode cL_organises 290 = .ok (.iload 6, 2) := by decide +kernel
theorem dL_organises_292 : decode cL_organises 292 = .ok (.invokestatic 164, 3) := by decide +kernel
theorem dL_organises_295 : decode cL_organises 295 = .ok (.bipush 60, 2) := by decide +kernel
theorem dL_organises_297 : decode cL_organises 297 = .ok (.if_icmp .gt 67, 3) := by decide +kernel
theorem dL_organises_300 : decode cL_organises 300 = .ok (.aload_n 0, 1) := by decide +kernel
theorem dL_organises_301 : decode cL_organises 301 = .ok (.iload 6, 2) := by decide +kernel
theorem dL_organises_303 : decode cL_organises 303 = .ok (.iconst 0, 1) := by decide +kernel
theorem dL_organises_304 : decode cL_organises 304 = .ok (.iconst 1, 1) := by decide +kernel
theorem dL_organises_305 : decode cL_organises 305 = .ok (.iconst 1, 1) := by decide +kernel
theorem dL_organises_306 : decode cL_organises 306 = .ok (.invokestatic 243, 3) := by decide +kernel
theorem dL_organises_309 : decode cL_organises 309 = .ok (.ldc 21, 2) := by decide +kernel
theorem dL_organises_311 : decode cL_organises 311 = .ok (.if_icmp .ne 53, 3) := by decide +kernel
theorem dL_organises_314 : decode cL_organises 314 = .ok (.aload_n 0, 1) := by decide +kernel
theorem dL_organises_315 : decode cL_organises 315 = .ok (.iload 6, 2) := by decide +kernel
theorem dL_organises_317 : decode cL_organises 317 = .ok (.bipush 29, 2) := by decide +kernel
theorem dL_organises_319 : decode cL_organises 319 = .ok (.iconst 1, 1) := by decide +kernel
theorem dL_organises_320 : decode cL_organises 320 = .ok (.iconst 1, 1) := by decide +kernel
theorem dL_organises_321 : decode cL_organises 321 = .ok (.invokestatic 243, 3) := by decide +kernel
theorem dL_organises_324 : decode cL_organises 324 = .ok (.ldc 21, 2) := by decide +kernel
theorem dL_organises_326 : decode cL_organises 326 = .ok (.if_icmp .ne 38, 3) := by decide +kernel
theorem dL_organises_329 : decode cL_organises 329 = .ok (.aload_n 0, 1) := by decide +kernel
theorem dL_organises_330 : decode cL_organises 330 = .ok (.iload 6, 2) := by decide +kernel
theorem dL_organises_332 : decode cL_organises 332 = .ok (.iconst 1, 1) := by decide +kernel
theorem dL_organises_333 : decode cL_organises 333 = .ok (.sipush 128, 3) := by decide +kernel
theorem dL_organises_336 : decode cL_organises 336 = .ok (.iconst 1, 1) := by decide +kernel
theorem dL_organises_337 : decode cL_organises 337 = .ok (.invokestatic 243, 3) := by decide +kernel
theorem dL_organises_340 : decode cL_organises 340 = .ok (.ldc 21, 2) := by decide +kernel
theorem dL_organises_342 : decode cL_organises 342 = .ok (.if_icmp .ne 22, 3) := by decide +kernel
theorem dL_organises_345 : decode cL_organises 345 = .ok (.aload_n 0, 1) := by decide +kernel
theorem dL_organises_346 : decode cL_organises 346 = .ok (.iload 6, 2) := by decide +kernel
theorem dL_organises_348 : decode cL_organises 348 = .ok (.iconst 1, 1) := by decide +kernel
theorem dL_organises_349 : decode cL_organises 349 = .ok (.iconst 1, 1) := by decide +kernel
theorem dL_organises_350 : decode cL_organises 350 = .ok (.bipush 11, 2) := by decide +kernel
theorem dL_organises_352 : decode cL_organises 352 = .ok (.invokestatic 243, 3) := by decide +kernel
theorem dL_organises_355 : decode cL_organises 355 = .ok (.ldc 21, 2) := by decide +kernel
theorem dL_organises_357 : decode cL_organises 357 = .ok (.if_icmp .ne 7, 3) := by decide +kernel
theorem dL_organises_360 : decode cL_organises 360 = .ok (.iconst 1, 1) := by decide +kernel
theorem dL_organises_361 : decode cL_organises 361 = .ok (.goto 4, 3) := by decide +kernel
theorem dL_organises_364 : decode cL_organises 364 = .ok (.iconst 0, 1) := by decide +kernel
theorem dL_organises_365 : decode cL_organises 365 = .ok (.ireturn, 1) := by decide +kernel
theorem dL_organises_366 : decode cL_organises 366 = .ok (.aload_n 0, 1) := by decide +kernel
theorem dL_organises_367 : decode cL_organises 367 = .ok (.iload 7, 2) := by decide +kernel
theorem dL_organises_369 : decode cL_organises 369 = .ok (.iload 6, 2) := by decide +kernel
theorem dL_organises_371 : decode cL_organises 371 = .ok (.invokestatic 164, 3) := by decide +kernel
theorem dL_organises_374 : decode cL_organises 374 = .ok (.istore 12, 2) := by decide +kernel
theorem dL_organises_376 : decode cL_organises 376 = .ok (.iload 12, 2) := by decide +kernel
theorem dL_organises_378 : decode cL_organises 378 = .ok (.ifCond .le 36, 3) := by decide +kernel
theorem dL_organises_381 : decode cL_organises 381 = .ok (.iload 5, 2) := by decide +kernel
theorem dL_organises_383 : decode cL_organises 383 = .ok (.bipush 13, 2) := by decide +kernel
theorem dL_organises_385 : decode cL_organises 385 = .ok (.ishr, 1) := by decide +kernel
theorem dL_organises_386 : decode cL_organises 386 = .ok (.iconst 3, 1) := by decide +kernel
theorem dL_organises_387 : decode cL_organises 387 = .ok (.invokestatic 198, 3) := by decide +kernel
theorem dL_organises_390 : decode cL_organises 390 = .ok (.ifCond .le 24, 3) := by decide +kernel
theorem dL_organises_393 : decode cL_organises 393 = .ok (.aload_n 0, 1) := by decide +kernel
theorem dL_organises_394 : decode cL_organises 394 = .ok (.iload 7, 2) := by decide +kernel
theorem dL_organises_396 : decode cL_organises 396 = .ok (.iload 6, 2) := by decide +kernel
theorem dL_organises_398 : decode cL_organises 398 = .ok (.iload 5, 2) := by decide +kernel
theorem dL_organises_400 : decode cL_organises 400 = .ok (.bipush 15, 2) := by decide +kernel
theorem dL_organises_402 : decode cL_organises 402 = .ok (.ishr, 1) := by decide +kernel
theorem dL_organises_403 : decode cL_organises 403 = .ok (.iload 12, 2) := by decide +kernel
theorem dL_organises_405 : decode cL_organises 405 = .ok (.invokestatic 198, 3) := by decide +kernel
theorem dL_organises_408 : decode cL_organises 408 = .ok (.invokestatic 166, 3) := by decide +kernel
theorem dL_organises_411 : decode cL_organises 411 = .ok (.goto 5, 3) := by decide +kernel
theorem dL_organises_414 : decode cL_organises 414 = .ok (.iload 10, 2) := by decide +kernel
theorem dL_organises_416 : decode cL_organises 416 = .ok (.istore 10, 2) := by decide +kernel
theorem dL_organises_418 : decode cL_organises 418 = .ok (.aload_n 0, 1) := by decide +kernel
theorem dL_organises_419 : decode cL_organises 419 = .ok (.iload 7, 2) := by decide +kernel
theorem dL_organises_421 : decode cL_organises 421 = .ok (.iload 6, 2) := by decide +kernel
theorem dL_organises_423 : decode cL_organises 423 = .ok (.iload 10, 2) := by decide +kernel
theorem dL_organises_425 : decode cL_organises 425 = .ok (.invokestatic 169, 3) := by decide +kernel
theorem dL_organises_428 : decode cL_organises 428 = .ok (.ldc 245, 2) := by decide +kernel
theorem dL_organises_430 : decode cL_organises 430 = .ok (.if_icmp .le 7, 3) := by decide +kernel
theorem dL_organises_433 : decode cL_organises 433 = .ok (.iconst 1, 1) := by decide +kernel
theorem dL_organises_434 : decode cL_organises 434 = .ok (.goto 4, 3) := by decide +kernel
theorem dL_organises_437 : decode cL_organises 437 = .ok (.iconst 0, 1) := by decide +kernel
theorem dL_organises_438 : decode cL_organises 438 = .ok (.istore 13, 2) := by decide +kernel
theorem dL_organises_440 : decode cL_organises 440 = .ok (.iload 9, 2) := by decide +kernel
theorem dL_organises_442 : decode cL_organises 442 = .ok (.bipush 7, 2) := by decide +kernel
theorem dL_organises_444 : decode cL_organises 444 = .ok (.if_icmp .ge 85, 3) := by decide +kernel
theorem dL_organises_447 : decode cL_organises 447 = .ok (.aload_n 0, 1) := by decide +kernel
theorem dL_organises_448 : decode cL_organises 448 = .ok (.iload 6, 2) := by decide +kernel
theorem dL_organises_450 : decode cL_organises 450 = .ok (.iload 10, 2) := by decide +kernel
theorem dL_organises_452 : decode cL_organises 452 = .ok (.invokestatic 246, 3) := by decide +kernel
theorem dL_organises_455 : decode cL_organises 455 = .ok (.istore 14, 2) := by decide +kernel
theorem dL_organises_457 : decode cL_organises 457 = .ok (.iload 14, 2) := by decide +kernel
theorem dL_organises_459 : decode cL_organises 459 = .ok (.ifCond .lt 7, 3) := by decide +kernel
theorem dL_organises_462 : decode cL_organises 462 = .ok (.iconst 1, 1) := by decide +kernel
theorem dL_organises_463 : decode cL_organises 463 = .ok (.goto 4, 3) := by decide +kernel
theorem dL_organises_466 : decode cL_organises 466 = .ok (.iconst 0, 1) := by decide +kernel
theorem dL_organises_467 : decode cL_organises 467 = .ok (.iload 13, 2) := by decide +kernel
theorem dL_organises_469 : decode cL_organises 469 = .ok (.if_icmp .ne 58, 3) := by decide +kernel
theorem dL_organises_472 : decode cL_organises 472 = .ok (.aload_n 0, 1) := by decide +kernel
theorem dL_organises_473 : decode cL_organises 473 = .ok (.aload_n 1, 1) := by decide +kernel
theorem dL_organises_474 : decode cL_organises 474 = .ok (.aload_n 2, 1) := by decide +kernel
theorem dL_organises_475 : decode cL_organises 475 = .ok (.iload 6, 2) := by decide +kernel
theorem dL_organises_477 : decode cL_organises 477 = .ok (.iload 14, 2) := by decide +kernel
theorem dL_organises_479 : decode cL_organises 479 = .ok (.invokestatic 240, 3) := by decide +kernel
theorem dL_organises_482 : decode cL_organises 482 = .ok (.ifCond .eq 45, 3) := by decide +kernel
theorem dL_organises_485 : decode cL_organises 485 = .ok (.aload_n 0, 1) := by decide +kernel
theorem dL_organises_486 : decode cL_organises 486 = .ok (.iload 7, 2) := by decide +kernel
theorem dL_organises_488 : decode cL_organises 488 = .ok (.iload 6, 2) := by decide +kernel
theorem dL_organises_490 : decode cL_organises 490 = .ok (.invokestatic 164, 3) := by decide +kernel
theorem dL_organises_493 : decode cL_organises 493 = .ok (.iload 13, 2) := by decide +kernel
theorem dL_organises_495 : decode cL_organises 495 = .ok (.ifCond .eq 10, 3) := by decide +kernel
theorem dL_organises_498 : decode cL_organises 498 = .ok (.iload 12, 2) := by decide +kernel
theorem dL_organises_500 : decode cL_organises 500 = .ok (.iconst 1, 1) := by decide +kernel
theorem dL_organises_501 : decode cL_organises 501 = .ok (.isub, 1) := by decide +kernel
theorem dL_organises_502 : decode cL_organises 502 = .ok (.goto 5, 3) := by decide +kernel
theorem dL_organises_505 : decode cL_organises 505 = .ok (.iload 12, 2) := by decide +kernel
theorem dL_organises_507 : decode cL_organises 507 = .ok (.if_icmp .ne 20, 3) := by decide +kernel
theorem dL_organises_510 : decode cL_organises 510 = .ok (.aload_n 0, 1) := by decide +kernel
theorem dL_organises_511 : decode cL_organises 511 = .ok (.iload 6, 2) := by decide +kernel
theorem dL_organises_513 : decode cL_organises 513 = .ok (.bipush 60, 2) := by decide +kernel
theorem dL_organises_515 : decode cL_organises 515 = .ok (.invokestatic 246, 3) := by decide +kernel
theorem dL_organises_518 : decode cL_organises 518 = .ok (.ldc 21, 2) := by decide +kernel
theorem dL_organises_520 : decode cL_organises 520 = .ok (.if_icmp .ne 7, 3) := by decide +kernel
theorem dL_organises_523 : decode cL_organises 523 = .ok (.iconst 1, 1) := by decide +kernel
theorem dL_organises_524 : decode cL_organises 524 = .ok (.goto 4, 3) := by decide +kernel
theorem dL_organises_527 : decode cL_organises 527 = .ok (.iconst 0, 1) := by decide +kernel
theorem dL_organises_528 : decode cL_organises 528 = .ok (.ireturn, 1) := by decide +kernel
theorem dL_organises_529 : decode cL_organises 529 = .ok (.iload 9, 2) := by decide +kernel
theorem dL_organises_531 : decode cL_organises 531 = .ok (.bipush 9, 2) := by decide +kernel
theorem dL_organises_533 : decode cL_organises 533 = .ok (.if_icmp .ge 97, 3) := by decide +kernel
theorem dL_organises_536 : decode cL_organises 536 = .ok (.aload_n 0, 1) := by decide +kernel
theorem dL_organises_537 : decode cL_organises 537 = .ok (.iload 6, 2) := by decide +kernel
theorem dL_organises_539 : decode cL_organises 539 = .ok (.iload 10, 2) := by decide +kernel
theorem dL_organises_541 : decode cL_organises 541 = .ok (.invokestatic 248, 3) := by decide +kernel
theorem dL_organises_544 : decode cL_organises 544 = .ok (.istore 14, 2) := by decide +kernel
theorem dL_organises_546 : decode cL_organises 546 = .ok (.iload 14, 2) := by decide +kernel
theorem dL_organises_548 : decode cL_organises 548 = .ok (.ifCond .lt 7, 3) := by decide +kernel
theorem dL_organises_551 : decode cL_organises 551 = .ok (.iconst 1, 1) := by decide +kernel
theorem dL_organises_552 : decode cL_organises 552 = .ok (.goto 4, 3) := by decide +kernel
theorem dL_organises_555 : decode cL_organises 555 = .ok (.iconst 0, 1) := by decide +kernel
theorem dL_organises_556 : decode cL_organises 556 = .ok (.iload 13, 2) := by decide +kernel
theorem dL_organises_558 : decode cL_organises 558 = .ok (.ifCond .ne 12, 3) := by decide +kernel
theorem dL_organises_561 : decode cL_organises 561 = .ok (.iload 8, 2) := by decide +kernel
theorem dL_organises_563 : decode cL_organises 563 = .ok (.ifCond .ne 7, 3) := by decide +kernel
theorem dL_organises_566 : decode cL_organises 566 = .ok (.iconst 1, 1) := by decide +kernel
theorem dL_organises_567 : decode cL_organises 567 = .ok (.goto 4, 3) := by decide +kernel
theorem dL_organises_570 : decode cL_organises 570 = .ok (.iconst 0, 1) := by decide +kernel
theorem dL_organises_571 : decode cL_organises 571 = .ok (.if_icmp .ne 57, 3) := by decide +kernel
theorem dL_organises_574 : decode cL_organises 574 = .ok (.aload_n 0, 1) := by decide +kernel
theorem dL_organises_575 : decode cL_organises 575 = .ok (.aload_n 1, 1) := by decide +kernel
theorem dL_organises_576 : decode cL_organises 576 = .ok (.aload_n 2, 1) := by decide +kernel
theorem dL_organises_577 : decode cL_organises 577 = .ok (.iload 6, 2) := by decide +kernel
theorem dL_organises_579 : decode cL_organises 579 = .ok (.iload 14, 2) := by decide +kernel
theorem dL_organises_581 : decode cL_organises 581 = .ok (.invokestatic 240, 3) := by decide +kernel
theorem dL_organises_584 : decode cL_organises 584 = .ok (.ifCond .eq 44, 3) := by decide +kernel
theorem dL_organises_587 : decode cL_organises 587 = .ok (.aload_n 0, 1) := by decide +kernel
theorem dL_organises_588 : decode cL_organises 588 = .ok (.iload 7, 2) := by decide +kernel
theorem dL_organises_590 : decode cL_organises 590 = .ok (.iload 6, 2) := by decide +kernel
theorem dL_organises_592 : decode cL_organises 592 = .ok (.invokestatic 164, 3) := by decide +kernel
theorem dL_organises_595 : decode cL_organises 595 = .ok (.iload 14, 2) := by decide +kernel
theorem dL_organises_597 : decode cL_organises 597 = .ok (.ifCond .lt 10, 3) := by decide +kernel
theorem dL_organises_600 : decode cL_organises 600 = .ok (.iload 12, 2) := by decide +kernel
theorem dL_organises_602 : decode cL_organises 602 = .ok (.iconst 1, 1) := by decide +kernel
theorem dL_organises_603 : decode cL_organises 603 = .ok (.iadd, 1) := by decide +kernel
theorem dL_organises_604 : decode cL_organises 604 = .ok (.goto 5, 3) := by decide +kernel
theorem dL_organises_607 : decode cL_organises 607 = .ok (.iload 12, 2) := by decide +kernel
theorem dL_organises_609 : decode cL_organises 609 = .ok (.if_icmp .ne 19, 3) := by decide +kernel
theorem dL_organises_612 : decode cL_organises 612 = .ok (.aload_n 0, 1) := by decide +kernel
theorem dL_organises_613 : decode cL_organises 613 = .ok (.iload 6, 2) := by decide +kernel
theorem dL_organises_615 : decode cL_organises 615 = .ok (.iconst (-1), 1) := by decide +kernel
theorem dL_organises_616 : decode cL_organises 616 = .ok (.invokestatic 248, 3) := by decide +kernel
theorem dL_organises_619 : decode cL_organises 619 = .ok (.ldc 21, 2) := by decide +kernel
theorem dL_organises_621 : decode cL_organises 621 = .ok (.if_icmp .ne 7, 3) := by decide +kernel
theorem dL_organises_624 : decode cL_organises 624 = .ok (.iconst 1, 1) := by decide +kernel
theorem dL_organises_625 : decode cL_organises 625 = .ok (.goto 4, 3) := by decide +kernel
theorem dL_organises_628 : decode cL_organises 628 = .ok (.iconst 0, 1) := by decide +kernel
theorem dL_organises_629 : decode cL_organises 629 = .ok (.ireturn, 1) := by decide +kernel
theorem dL_organises_630 : decode cL_organises 630 = .ok (.iload 9, 2) := by decide +kernel
theorem dL_organises_632 : decode cL_organises 632 = .ok (.bipush 11, 2) := by decide +kernel
theorem dL_organises_634 : decode cL_organises 634 = .ok (.if_icmp .ge 99, 3) := by decide +kernel
theorem dL_organises_637 : decode cL_organises 637 = .ok (.aload_n 0, 1) := by decide +kernel
theorem dL_organises_638 : decode cL_organises 638 = .ok (.iload 6, 2) := by decide +kernel
theorem dL_organises_640 : decode cL_organises 640 = .ok (.iload 10, 2) := by decide +kernel
theorem dL_organises_642 : decode cL_organises 642 = .ok (.iload 5, 2) := by decide +kernel
theorem dL_organises_644 : decode cL_organises 644 = .ok (.sipush 1440, 3) := by decide +kernel
theorem dL_organises_647 : decode cL_organises 647 = .ok (.invokestatic 198, 3) := by decide +kernel
theorem dL_organises_650 : decode cL_organises 650 = .ok (.invokestatic 250, 3) := by decide +kernel
theorem dL_organises_653 : decode cL_organises 653 = .ok (.istore 14, 2) := by decide +kernel
theorem dL_organises_655 : decode cL_organises 655 = .ok (.iload 14, 2) := by decide +kernel
theorem dL_organises_657 : decode cL_organises 657 = .ok (.ifCond .lt 7, 3) := by decide +kernel
theorem dL_organises_660 : decode cL_organises 660 = .ok (.iconst 1, 1) := by decide +kernel
theorem dL_organises_661 : decode cL_organises 661 = .ok (.goto 4, 3) := by decide +kernel
theorem dL_organises_664 : decode cL_organises 664 = .ok (.iconst 0, 1) := by decide +kernel
theorem dL_organises_665 : decode cL_organises 665 = .ok (.iload 13, 2) := by decide +kernel
theorem dL_organises_667 : decode cL_organises 667 = .ok (.if_icmp .ne 64, 3) := by decide +kernel
theorem dL_organises_670 : decode cL_organises 670 = .ok (.aload_n 0, 1) := by decide +kernel
theorem dL_organises_671 : decode cL_organises 671 = .ok (.aload_n 1, 1) := by decide +kernel
theorem dL_organises_672 : decode cL_organises 672 = .ok (.aload_n 2, 1) := by decide +kernel
theorem dL_organises_673 : decode cL_organises 673 = .ok (.iload 6, 2) := by decide +kernel
theorem dL_organises_675 : decode cL_organises 675 = .ok (.iload 14, 2) := by decide +kernel
theorem dL_organises_677 : decode cL_organises 677 = .ok (.invokestatic 240, 3) := by decide +kernel
theorem dL_organises_680 : decode cL_organises 680 = .ok (.ifCond .eq 51, 3) := by decide +kernel
theorem dL_organises_683 : decode cL_organises 683 = .ok (.aload_n 0, 1) := by decide +kernel
theorem dL_organises_684 : decode cL_organises 684 = .ok (.iload 7, 2) := by decide +kernel
theorem dL_organises_686 : decode cL_organises 686 = .ok (.iload 6, 2) := by decide +kernel
theorem dL_organises_688 : decode cL_organises 688 = .ok (.invokestatic 164, 3) := by decide +kernel
theorem dL_organises_691 : decode cL_organises 691 = .ok (.iload 12, 2) := by decide +kernel
theorem dL_organises_693 : decode cL_organises 693 = .ok (.if_icmp .ne 38, 3) := by decide +kernel
theorem dL_organises_696 : decode cL_organises 696 = .ok (.aload_n 0, 1) := by decide +kernel
theorem dL_organises_697 : decode cL_organises 697 = .ok (.iload 6, 2) := by decide +kernel
theorem dL_organises_699 : decode cL_organises 699 = .ok (.iload 10, 2) := by decide +kernel
theorem dL_organises_701 : decode cL_organises 701 = .ok (.sipush 1440, 3) := by decide +kernel
theorem dL_organises_704 : decode cL_organises 704 = .ok (.invokestatic 250, 3) := by decide +kernel
theorem dL_organises_707 : decode cL_organises 707 = .ok (.ldc 21, 2) := by decide +kernel
theorem dL_organises_709 : decode cL_organises 709 = .ok (.if_icmp .ne 22, 3) := by decide +kernel
theorem dL_organises_712 : decode cL_organises 712 = .ok (.aload_n 0, 1) := by decide +kernel
theorem dL_organises_713 : decode cL_organises 713 = .ok (.aload_n 3, 1) := by decide +kernel
theorem dL_organises_714 : decode cL_organises 714 = .ok (.iconst 0, 1) := by decide +kernel
theorem dL_organises_715 : decode cL_organises 715 = .ok (.iaload, 1) := by decide +kernel
theorem dL_organises_716 : decode cL_organises 716 = .ok (.bipush 60, 2) := by decide +kernel
theorem dL_organises_718 : decode cL_organises 718 = .ok (.iconst 0, 1) := by decide +kernel
theorem dL_organises_719 : decode cL_organises 719 = .ok (.invokestatic 250, 3) := by decide +kernel
theorem dL_organises_722 : decode cL_organises 722 = .ok (.ldc 18, 2) := by decide +kernel
theorem dL_organises_724 : decode cL_organises 724 = .ok (.if_icmp .ne 7, 3) := by decide +kernel
theorem dL_organises_727 : decode cL_organises 727 = .ok (.iconst 1, 1) := by decide +kernel
theorem dL_organises_728 : decode cL_organises 728 = .ok (.goto 4, 3) := by decide +kernel
theorem dL_organises_731 : decode cL_organises 731 = .ok (.iconst 0, 1) := by decide +kernel
theorem dL_organises_732 : decode cL_organises 732 = .ok (.ireturn, 1) := by decide +kernel
theorem dL_organises_733 : decode cL_organises 733 = .ok (.iload 9, 2) := by decide +kernel
theorem dL_organises_735 : decode cL_organises 735 = .ok (.bipush 15, 2) := by decide +kernel
theorem dL_organises_737 : decode cL_organises 737 = .ok (.if_icmp .ge 158, 3) := by decide +kernel
theorem dL_organises_740 : decode cL_organises 740 = .ok (.iload 5, 2) := by decide +kernel
theorem dL_organises_742 : decode cL_organises 742 = .ok (.iconst 3, 1) := by decide +kernel
theorem dL_organises_743 : decode cL_organises 743 = .ok (.ishr, 1) := by decide +kernel
theorem dL_organises_744 : decode cL_organises 744 = .ok (.iconst 5, 1) := by decide +kernel
theorem dL_organises_745 : decode cL_organises 745 = .ok (.invokestatic 198, 3) := by decide +kernel
theorem dL_organises_748 : decode cL_organises 748 = .ok (.istore 14, 2) := by decide +kernel
theorem dL_organises_750 : decode cL_organises 750 = .ok (.iload 5, 2) := by decide +kernel
theorem dL_organises_752 : decode cL_organises 752 = .ok (.bipush 6, 2) := by decide +kernel
theorem dL_organises_754 : decode cL_organises 754 = .ok (.ishr, 1) := by decide +kernel
theorem dL_organises_755 : decode cL_organises 755 = .ok (.iconst 4, 1) := by decide +kernel
theorem dL_organises_756 : decode cL_organises 756 = .ok (.invokestatic 198, 3) := by decide +kernel
theorem dL_organises_759 : decode cL_organises 759 = .ok (.ifCond .le 7, 3) := by decide +kernel
theorem dL_organises_762 : decode cL_organises 762 = .ok (.iconst 1, 1) := by decide +kernel
theorem dL_organises_763 : decode cL_organises 763 = .ok (.goto 4, 3) := by decide +kernel
theorem dL_organises_766 : decode cL_organises 766 = .ok (.iconst 0, 1) := by decide +kernel
theorem dL_organises_767 : decode cL_organises 767 = .ok (.istore 15, 2) := by decide +kernel
theorem dL_organises_769 : decode cL_organises 769 = .ok (.aload_n 0, 1) := by decide +kernel
theorem dL_organises_770 : decode cL_organises 770 = .ok (.iload 6, 2) := by decide +kernel
theorem dL_organises_772 : decode cL_organises 772 = .ok (.iload 14, 2) := by decide +kernel
theorem dL_organises_774 : decode cL_organises 774 = .ok (.iload 15, 2) := by decide +kernel
theorem dL_organises_776 : decode cL_organises 776 = .ok (.invokestatic 252, 3) := by decide +kernel
theorem dL_organises_779 : decode cL_organises 779 = .ok (.istore 16, 2) := by decide +kernel
theorem dL_organises_781 : decode cL_organises 781 = .ok (.iload 14, 2) := by decide +kernel
theorem dL_organises_783 : decode cL_organises 783 = .ok (.iload 7, 2) := by decide +kernel
theorem dL_organises_785 : decode cL_organises 785 = .ok (.if_icmp .ne 16, 3) := by decide +kernel
theorem dL_organises_788 : decode cL_organises 788 = .ok (.iload 16, 2) := by decide +kernel
theorem dL_organises_790 : decode cL_organises 790 = .ok (.ldc 21, 2) := by decide +kernel
theorem dL_organises_792 : decode cL_organises 792 = .ok (.if_icmp .ne 7, 3) := by decide +kernel
theorem dL_organises_795 : decode cL_organises 795 = .ok (.iconst 1, 1) := by decide +kernel
theorem dL_organises_796 : decode cL_organises 796 = .ok (.goto 4, 3) := by decide +kernel
theorem dL_organises_799 : decode cL_organises 799 = .ok (.iconst 0, 1) := by decide +kernel
theorem dL_organises_800 : decode cL_organises 800 = .ok (.ireturn, 1) := by decide +kernel
theorem dL_organises_801 : decode cL_organises 801 = .ok (.aload_n 0, 1) := by decide +kernel
theorem dL_organises_802 : decode cL_organises 802 = .ok (.aload_n 1, 1) := by decide +kernel
theorem dL_organises_803 : decode cL_organises 803 = .ok (.aload_n 2, 1) := by decide +kernel
theorem dL_organises_804 : decode cL_organises 804 = .ok (.iload 6, 2) := by decide +kernel
theorem dL_organises_806 : decode cL_organises 806 = .ok (.iload 16, 2) := by decide +kernel
theorem dL_organises_808 : decode cL_organises 808 = .ok (.invokestatic 240, 3) := by decide +kernel
theorem dL_organises_811 : decode cL_organises 811 = .ok (.ifCond .eq 82, 3) := by decide +kernel
theorem dL_organises_814 : decode cL_organises 814 = .ok (.iload 8, 2) := by decide +kernel
theorem dL_organises_816 : decode cL_organises 816 = .ok (.ifCond .eq 11, 3) := by decide +kernel
theorem dL_organises_819 : decode cL_organises 819 = .ok (.iload 16, 2) := by decide +kernel
theorem dL_organises_821 : decode cL_organises 821 = .ok (.ifCond .ge 72, 3) := by decide +kernel
theorem dL_organises_824 : decode cL_organises 824 = .ok (.goto 51, 3) := by decide +kernel
theorem dL_organises_827 : decode cL_organises 827 = .ok (.aload_n 0, 1) := by decide +kernel
theorem dL_organises_828 : decode cL_organises 828 = .ok (.iload 6, 2) := by decide +kernel
theorem dL_organises_830 : decode cL_organises 830 = .ok (.iload 14, 2) := by decide +kernel
theorem dL_organises_832 : decode cL_organises 832 = .ok (.iload 15, 2) := by decide +kernel
theorem dL_organises_834 : decode cL_organises 834 = .ok (.invokestatic 252, 3) := by decide +kernel
theorem dL_organises_837 : decode cL_organises 837 = .ok (.ldc 38, 2) := by decide +kernel
theorem dL_organises_839 : decode cL_organises 839 = .ok (.if_icmp .ne 54, 3) := by decide +kernel
theorem dL_organises_842 : decode cL_organises 842 = .ok (.iload 15, 2) := by decide +kernel
theorem dL_organises_844 : decode cL_organises 844 = .ok (.ifCond .eq 15, 3) := by decide +kernel
theorem dL_organises_847 : decode cL_organises 847 = .ok (.aload_n 0, 1) := by decide +kernel
theorem dL_organises_848 : decode cL_organises 848 = .ok (.iload 6, 2) := by decide +kernel
theorem dL_organises_850 : decode cL_organises 850 = .ok (.iload 14, 2) := by decide +kernel
theorem dL_organises_852 : decode cL_organises 852 = .ok (.invokestatic 175, 3) := by decide +kernel
theorem dL_organises_855 : decode cL_organises 855 = .ok (.iconst 1, 1) := by decide +kernel
theorem dL_organises_856 : decode cL_organises 856 = .ok (.if_icmp .ne 37, 3) := by decide +kernel
theorem dL_organises_859 : decode cL_organises 859 = .ok (.iload 15, 2) := by decide +kernel
theorem dL_organises_861 : decode cL_organises 861 = .ok (.ifCond .ne 14, 3) := by decide +kernel
theorem dL_organises_864 : decode cL_organises 864 = .ok (.aload_n 0, 1) := by decide +kernel
theorem dL_organises_865 : decode cL_organises 865 = .ok (.iload 6, 2) := by decide +kernel
theorem dL_organises_867 : decode cL_organises 867 = .ok (.iload 14, 2) := by decide +kernel
theorem dL_organises_869 : decode cL_organises 869 = .ok (.invokestatic 175, 3) := by decide +kernel
theorem dL_organises_872 : decode cL_organises 872 = .ok (.ifCond .ne 21, 3) := by decide +kernel
theorem dL_organises_875 : decode cL_organises 875 = .ok (.aload_n 0, 1) := by decide +kernel
theorem dL_organises_876 : decode cL_organises 876 = .ok (.iload 6, 2) := by decide +kernel
theorem dL_organises_878 : decode cL_organises 878 = .ok (.iconst 5, 1) := by decide +kernel
theorem dL_organises_879 : decode cL_organises 879 = .ok (.iload 15, 2) := by decide +kernel
theorem dL_organises_881 : decode cL_organises 881 = .ok (.invokestatic 252, 3) := by decide +kernel
theorem dL_organises_884 : decode cL_organises 884 = .ok (.ldc 18, 2) := by decide +kernel
theorem dL_organises_886 : decode cL_organises 886 = .ok (.if_icmp .ne 7, 3) := by decide +kernel
theorem dL_organises_889 : decode cL_organises 889 = .ok (.iconst 1, 1) := by decide +kernel
theorem dL_organises_890 : decode cL_organises 890 = .ok (.goto 4, 3) := by decide +kernel
theorem dL_organises_893 : decode cL_organises 893 = .ok (.iconst 0, 1) := by decide +kernel
theorem dL_organises_894 : decode cL_organises 894 = .ok (.ireturn, 1) := by decide +kernel
theorem dL_organises_895 : decode cL_organises 895 = .ok (.iload 5, 2) := by decide +kernel
theorem dL_organises_897 : decode cL_organises 897 = .ok (.iconst 4, 1) := by decide +kernel
theorem dL_organises_898 : decode cL_organises 898 = .ok (.invokestatic 198, 3) := by decide +kernel
theorem dL_organises_901 : decode cL_organises 901 = .ok (.ifCond .le 7, 3) := by decide +kernel
theorem dL_organises_904 : decode cL_organises 904 = .ok (.iconst (-1), 1) := by decide +kernel
theorem dL_organises_905 : decode cL_organises 905 = .ok (.goto 9, 3) := by decide +kernel
theorem dL_organises_908 : decode cL_organises 908 = .ok (.aload_n 0, 1) := by decide +kernel
theorem dL_organises_909 : decode cL_organises 909 = .ok (.iload 6, 2) := by decide +kernel
theorem dL_organises_911 : decode cL_organises 911 = .ok (.invokestatic 255, 3) := by decide +kernel
theorem dL_organises_914 : decode cL_organises 914 = .ok (.istore 14, 2) := by decide +kernel
theorem dL_organises_916 : decode cL_organises 916 = .ok (.iload 14, 2) := by decide +kernel
theorem dL_organises_918 : decode cL_organises 918 = .ok (.iconst (-1), 1) := by decide +kernel
theorem dL_organises_919 : decode cL_organises 919 = .ok (.if_icmp .ne 5, 3) := by decide +kernel
theorem dL_organises_922 : decode cL_organises 922 = .ok (.iconst 1, 1) := by decide +kernel
theorem dL_organises_923 : decode cL_organises 923 = .ok (.ireturn, 1) := by decide +kernel
theorem dL_organises_924 : decode cL_organises 924 = .ok (.aload_n 0, 1) := by decide +kernel
theorem dL_organises_925 : decode cL_organises 925 = .ok (.aload_n 1, 1) := by decide +kernel
theorem dL_organises_926 : decode cL_organises 926 = .ok (.aload_n 2, 1) := by decide +kernel
theorem dL_organises_927 : decode cL_organises 927 = .ok (.iload 6, 2) := by decide +kernel
theorem dL_organises_929 : decode cL_organises 929 = .ok (.iload 14, 2) := by decide +kernel
theorem dL_organises_931 : decode cL_organises 931 = .ok (.invokestatic 240, 3) := by decide +kernel
theorem dL_organises_934 : decode cL_organises 934 = .ok (.ifCond .eq 30, 3) := by decide +kernel
theorem dL_organises_937 : decode cL_organises 937 = .ok (.iload 14, 2) := by decide +kernel
theorem dL_organises_939 : decode cL_organises 939 = .ok (.ifCond .lt 7, 3) := by decide +kernel
theorem dL_organises_942 : decode cL_organises 942 = .ok (.iconst 1, 1) := by decide +kernel
theorem dL_organises_943 : decode cL_organises 943 = .ok (.goto 4, 3) := by decide +kernel
theorem dL_organises_946 : decode cL_organises 946 = .ok (.iconst 0, 1) := by decide +kernel
theorem dL_organises_947 : decode cL_organises 947 = .ok (.iload 8, 2) := by decide +kernel
theorem dL_organises_949 : decode cL_organises 949 = .ok (.ifCond .ne 7, 3) := by decide +kernel
theorem dL_organises_952 : decode cL_organises 952 = .ok (.iconst 1, 1) := by decide +kernel
theorem dL_organises_953 : decode cL_organises 953 = .ok (.goto 4, 3) := by decide +kernel
theorem dL_organises_956 : decode cL_organises 956 = .ok (.iconst 0, 1) := by decide +kernel
theorem dL_organises_957 : decode cL_organises 957 = .ok (.if_icmp .ne 7, 3) := by decide +kernel
theorem dL_organises_960 : decode cL_organises 960 = .ok (.iconst 1, 1) := by decide +kernel
theorem dL_organises_961 : decode cL_organises 961 = .ok (.goto 4, 3) := by decide +kernel
theorem dL_organises_964 : decode cL_organises 964 = .ok (.iconst 0, 1) := by decide +kernel
theorem dL_organises_965 : decode cL_organises 965 = .ok (.istore 15, 2) := by decide +kernel
theorem dL_organises_967 : decode cL_organises 967 = .ok (.aload_n 1, 1) := by decide +kernel
theorem dL_organises_968 : decode cL_organises 968 = .ok (.iload 6, 2) := by decide +kernel
theorem dL_organises_970 : decode cL_organises 970 = .ok (.dup2, 1) := by decide +kernel
theorem dL_organises_971 : decode cL_organises 971 = .ok (.iaload, 1) := by decide +kernel
theorem dL_organises_972 : decode cL_organises 972 = .ok (.iload 14, 2) := by decide +kernel
theorem dL_organises_974 : decode cL_organises 974 = .ok (.ifCond .lt 9, 3) := by decide +kernel
theorem dL_organises_977 : decode cL_organises 977 = .ok (.sipush 4096, 3) := by decide +kernel
theorem dL_organises_980 : decode cL_organises 980 = .ok (.goto 4, 3) := by decide +kernel
theorem dL_organises_983 : decode cL_organises 983 = .ok (.iconst 0, 1) := by decide +kernel
theorem dL_organises_984 : decode cL_organises 984 = .ok (.iadd, 1) := by decide +kernel
theorem dL_organises_985 : decode cL_organises 985 = .ok (.iastore, 1) := by decide +kernel
theorem dL_organises_986 : decode cL_organises 986 = .ok (.iload 15, 2) := by decide +kernel
theorem dL_organises_988 : decode cL_organises 988 = .ok (.ifCond .eq 41, 3) := by decide +kernel
theorem dL_organises_991 : decode cL_organises 991 = .ok (.aload_n 0, 1) := by decide +kernel
theorem dL_organises_992 : decode cL_organises 992 = .ok (.iload 6, 2) := by decide +kernel
theorem dL_organises_994 : decode cL_organises 994 = .ok (.invokestatic 255, 3) := by decide +kernel
theorem dL_organises_997 : decode cL_organises 997 = .ok (.ldc 38, 2) := by decide +kernel
theorem dL_organises_999 : decode cL_organises 999 = .ok (.if_icmp .ne 30, 3) := by decide +kernel
theorem dL_organises_1002 : decode cL_organises 1002 = .ok (.aload_n 0, 1) := by decide +kernel
theorem dL_organises_1003 : decode cL_organises 1003 = .ok (.aload_n 3, 1) := by decide +kernel
theorem dL_organises_1004 : decode cL_organises 1004 = .ok (.iconst 0, 1) := by decide +kernel
theorem dL_organises_1005 : decode cL_organises 1005 = .ok (.iaload, 1) := by decide +kernel
theorem dL_organises_1006 : decode cL_organises 1006 = .ok (.invokestatic 255, 3) := by decide +kernel
theorem dL_organises_1009 : decode cL_organises 1009 = .ok (.ldc 18, 2) := by decide +kernel
theorem dL_organises_1011 : decode cL_organises 1011 = .ok (.if_icmp .ne 18, 3) := by decide +kernel
theorem dL_organises_1014 : decode cL_organises 1014 = .ok (.aload_n 0, 1) := by decide +kernel
theorem dL_organises_1015 : decode cL_organises 1015 = .ok (.iload 7, 2) := by decide +kernel
theorem dL_organises_1017 : decode cL_organises 1017 = .ok (.iload 6, 2) := by decide +kernel
theorem dL_organises_1019 : decode cL_organises 1019 = .ok (.invokestatic 164, 3) := by decide +kernel
theorem dL_organises_1022 : decode cL_organises 1022 = .ok (.ifCond .ne 7, 3) := by decide +kernel
theorem dL_organises_1025 : decode cL_organises 1025 = .ok (.iconst 1, 1) := by decide +kernel
theorem dL_organises_1026 : decode cL_organises 1026 = .ok (.goto 4, 3) := by decide +kernel
theorem dL_organises_1029 : decode cL_organises 1029 = .ok (.iconst 0, 1) := by decide +kernel
theorem dL_organises_1030 : decode cL_organises 1030 = .ok (.ireturn, 1) := by decide +kernel
set_option maxRecDepth 100000 in
theorem tb_L_organises : Cond.code yL_organises cL_organises 17 (some .boolean) ∈ lw_tbl := List.mem_append_right (k2_sels lw_privs) (show _ ∈ tables_1 from List.mem_append_right tables_1_1 (List.mem_append_right tables_1_2 (List.mem_append_right tables_1_3 (List.mem_append_right tables_1_4 (List.mem_append_left tables_1_6 (List.mem_of_getElem? (l := tables_1_5) (i := 67) rfl))))))
theorem lk_L_organises : LK yL_organises cL_organises 17 (some .boolean) 6 := ⟨qW_of tb_L_organises rfl, qW_at 28 (by decide +kernel) rfl, by decide, by decide, by decide +kernel⟩
theorem st_L_organises : Cond.static yL_organises ∈ qW := qW_at 1054 (by decide +kernel) rfl
def F_L_organises (sv : Nat) (x_ y_ : Int32) : LX Int32 :=
  (lb (lb (lp x_) fun v3 => lb (lb (lp (some (sv + 22))) fun v1 => lb (lp (I 0)) fun v2 => lai sv v1 v2) fun v4 => F_L_low sv v3 v4) fun meeting_5 =>
  (lb (lb (lb (lp (some (sv + 20))) fun v6 => lb (lp meeting_5) fun v7 => lai sv v6 v7) fun v8 => lb (lp (I 8)) fun v9 => (lrem v8 v9)) fun person_10 =>
  (lb (lb (lb (lb (lp (some (sv + 20))) fun v11 => lb (lp meeting_5) fun v12 => lai sv v11 v12) fun v13 => lb (lp (I 4095)) fun v14 => lp (decide (v14 < v13))) fun v15 => lp (b2i v15)) fun cancelled_16 =>
  (lb (lb (lb (lp x_) fun v17 => lb (lp (I 3)) fun v18 => (lp (v17 >>> (v18 &&& 31)))) fun v19 => lb (lp (I 16)) fun v20 => F_L_low sv v19 v20) fun kind_21 =>
  (lb (lb (lp y_) fun v22 => lb (lp (I 60)) fun v23 => F_L_low sv v22 v23) fun day_24 =>
  (lb (lb (lb (lp y_) fun v25 => lb (lp (I 6)) fun v26 => (lp (v25 >>> (v26 &&& 31)))) fun v27 => lb (lp (I 24)) fun v28 => F_L_low sv v27 v28) fun hour_29 =>
  (lb (lb (lp kind_21) fun v30 => lb (lp (I 2)) fun v31 => lp (decide (v30 < v31))) fun v439 => if v439 then (lb (lb (lp (I 1)) fun v36 => lb (lb (lb (lp y_) fun v32 => lb (lp (I 11)) fun v33 => (lp (v32 >>> (v33 &&& 31)))) fun v34 => lb (lp (I 23)) fun v35 => F_L_low sv v34 v35) fun v37 => (lp (v36 + v37))) fun length_38 =>
  (lb (lb (lp (some sv)) fun v39 => lb (lp meeting_5) fun v40 => lb (lp day_24) fun v41 => lb (lp hour_29) fun v42 => lb (lp length_38) fun v43 => lgo v39 sv (w_time v40 v41 v42 v43)) fun told_44 =>
  (lb (lb (lb (lb (lb (lb (lb (lb (lb (lb (lp told_44) fun v45 => lp (decide (0 ≤ v45))) fun v46 => lp (b2i v46)) fun v47 => lb (lb (lb (lb (lp cancelled_16) fun v48 => lp (decide (¬ v48 = 0))) fun v49 => lp (!v49)) fun v50 => lp (b2i v50)) fun v51 => lp (decide (v47 = v51))) fun v58 => if v58 then (lb (lb (lp (some sv)) fun v52 => lb (lp (some (sv + 20))) fun v53 => lb (lp (some (sv + 21))) fun v54 => lb (lp meeting_5) fun v55 => lb (lp told_44) fun v56 => lgo v52 sv (lgo v53 (sv + 20) (lgo v54 (sv + 21) (F_L_changed sv v55 v56)))) fun v57 => lp (decide (¬ v57 = 0))) else lp false) fun v66 => if v66 then (lb (lb (lp (some sv)) fun v59 => lb (lp meeting_5) fun v60 => lb (lp (I 60)) fun v61 => lb (lp (I 0)) fun v62 => lb (lp (I 1)) fun v63 => lgo v59 sv (w_time v60 v61 v62 v63)) fun v64 => lb (lp (I (-1000002))) fun v65 => lp (decide (v64 = v65))) else lp false) fun v74 => if v74 then (lb (lb (lp (some sv)) fun v67 => lb (lp meeting_5) fun v68 => lb (lp (I 0)) fun v69 => lb (lp (I 24)) fun v70 => lb (lp (I 1)) fun v71 => lgo v67 sv (w_time v68 v69 v70 v71)) fun v72 => lb (lp (I (-1000002))) fun v73 => lp (decide (v72 = v73))) else lp false) fun v82 => if v82 then (lb (lb (lp (some sv)) fun v75 => lb (lp meeting_5) fun v76 => lb (lp (I 0)) fun v77 => lb (lp (I 0)) fun v78 => lb (lp (I 24)) fun v79 => lgo v75 sv (w_time v76 v77 v78 v79)) fun v80 => lb (lp (I (-1000002))) fun v81 => lp (decide (v80 = v81))) else lp false) fun v92 => if v92 then (lb (lb (lp (some sv)) fun v85 => lb (lb (lp (some (sv + 22))) fun v83 => lb (lp (I 0)) fun v84 => lai sv v83 v84) fun v86 => lb (lp (I 60)) fun v87 => lb (lp (I 0)) fun v88 => lb (lp (I 0)) fun v89 => lgo v85 sv (w_time v86 v87 v88 v89)) fun v90 => lb (lp (I (-1000001))) fun v91 => lp (decide (v90 = v91))) else lp false) fun v93 => lp (b2i v93)) lz))) else
  (lb (lb (lp kind_21) fun v94 => lb (lp (I 5)) fun v95 => lp (decide (v94 < v95))) fun v438 => if v438 then (lb (lb (lp (some sv)) fun v112 => lb (lp meeting_5) fun v113 => lb (lb (lp (I 1)) fun v98 => lb (lb (lp y_) fun v96 => lb (lp (I 28)) fun v97 => F_L_low sv v96 v97) fun v99 => (lp (v98 + v99))) fun v114 => lb (lb (lp (I 1)) fun v104 => lb (lb (lb (lp y_) fun v100 => lb (lp (I 5)) fun v101 => (lp (v100 >>> (v101 &&& 31)))) fun v102 => lb (lp (I 127)) fun v103 => F_L_low sv v102 v103) fun v105 => (lp (v104 + v105))) fun v115 => lb (lb (lp (I 1)) fun v110 => lb (lb (lb (lp y_) fun v106 => lb (lp (I 12)) fun v107 => (lp (v106 >>> (v107 &&& 31)))) fun v108 => lb (lp (I 10)) fun v109 => F_L_low sv v108 v109) fun v111 => (lp (v110 + v111))) fun v116 => lgo v112 sv (w_repeat v113 v114 v115 v116)) fun told_117 =>
  (lb (lb (lb (lb (lb (lb (lb (lb (lb (lb (lb (lp told_117) fun v118 => lp (decide (0 ≤ v118))) fun v119 => lp (b2i v119)) fun v120 => lb (lb (lb (lb (lp cancelled_16) fun v121 => lp (decide (¬ v121 = 0))) fun v122 => lp (!v122)) fun v123 => lp (b2i v123)) fun v124 => lp (decide (v120 = v124))) fun v131 => if v131 then (lb (lb (lp (some sv)) fun v125 => lb (lp (some (sv + 20))) fun v126 => lb (lp (some (sv + 21))) fun v127 => lb (lp meeting_5) fun v128 => lb (lp told_117) fun v129 => lgo v125 sv (lgo v126 (sv + 20) (lgo v127 (sv + 21) (F_L_changed sv v128 v129)))) fun v130 => lp (decide (¬ v130 = 0))) else lp false) fun v137 => if v137 then (lb (lb (lp (some sv)) fun v132 => lb (lp person_10) fun v133 => lb (lp meeting_5) fun v134 => lgo v132 sv (w_dates v133 v134)) fun v135 => lb (lp (I 60)) fun v136 => lp (decide (v135 ≤ v136))) else lp false) fun v145 => if v145 then (lb (lb (lp (some sv)) fun v138 => lb (lp meeting_5) fun v139 => lb (lp (I 0)) fun v140 => lb (lp (I 1)) fun v141 => lb (lp (I 1)) fun v142 => lgo v138 sv (w_repeat v139 v140 v141 v142)) fun v143 => lb (lp (I (-1000002))) fun v144 => lp (decide (v143 = v144))) else lp false) fun v153 => if v153 then (lb (lb (lp (some sv)) fun v146 => lb (lp meeting_5) fun v147 => lb (lp (I 29)) fun v148 => lb (lp (I 1)) fun v149 => lb (lp (I 1)) fun v150 => lgo v146 sv (w_repeat v147 v148 v149 v150)) fun v151 => lb (lp (I (-1000002))) fun v152 => lp (decide (v151 = v152))) else lp false) fun v161 => if v161 then (lb (lb (lp (some sv)) fun v154 => lb (lp meeting_5) fun v155 => lb (lp (I 1)) fun v156 => lb (lp (I 128)) fun v157 => lb (lp (I 1)) fun v158 => lgo v154 sv (w_repeat v155 v156 v157 v158)) fun v159 => lb (lp (I (-1000002))) fun v160 => lp (decide (v159 = v160))) else lp false) fun v169 => if v169 then (lb (lb (lp (some sv)) fun v162 => lb (lp meeting_5) fun v163 => lb (lp (I 1)) fun v164 => lb (lp (I 1)) fun v165 => lb (lp (I 11)) fun v166 => lgo v162 sv (w_repeat v163 v164 v165 v166)) fun v167 => lb (lp (I (-1000002))) fun v168 => lp (decide (v167 = v168))) else lp false) fun v170 => lp (b2i v170)) lz)) else
  (lb (lb (lp (some sv)) fun v171 => lb (lp person_10) fun v172 => lb (lp meeting_5) fun v173 => lgo v171 sv (w_dates v172 v173)) fun many_174 =>
  (lb (lb (lb (lb (lp many_174) fun v175 => lp (decide (0 < v175))) fun v181 => if v181 then (lb (lb (lb (lp y_) fun v176 => lb (lp (I 13)) fun v177 => (lp (v176 >>> (v177 &&& 31)))) fun v178 => lb (lp (I 3)) fun v179 => F_L_low sv v178 v179) fun v180 => lp (decide (0 < v180))) else lp false) fun v190 => if v190 then (lb (lp (some sv)) fun v186 => lb (lp person_10) fun v187 => lb (lp meeting_5) fun v188 => lb (lb (lb (lp y_) fun v182 => lb (lp (I 15)) fun v183 => (lp (v182 >>> (v183 &&& 31)))) fun v184 => lb (lp many_174) fun v185 => F_L_low sv v184 v185) fun v189 => lgo v186 sv (w_dateAt v187 v188 v189)) else (lp day_24)) fun day_191 =>
  (lb (lb (lb (lb (lp (some sv)) fun v192 => lb (lp person_10) fun v193 => lb (lp meeting_5) fun v194 => lb (lp day_191) fun v195 => lgo v192 sv (w_begin v193 v194 v195)) fun v196 => lb (lp (I (-1000000))) fun v197 => lp (decide (v197 < v196))) fun v198 => lp (b2i v198)) fun is_199 =>
  (lb (lb (lp kind_21) fun v200 => lb (lp (I 7)) fun v201 => lp (decide (v200 < v201))) fun v437 => if v437 then (lb (lb (lp (some sv)) fun v202 => lb (lp meeting_5) fun v203 => lb (lp day_191) fun v204 => lgo v202 sv (w_drop v203 v204)) fun told_205 =>
  (lb (lb (lb (lb (lb (lb (lb (lb (lp told_205) fun v206 => lp (decide (0 ≤ v206))) fun v207 => lp (b2i v207)) fun v208 => lb (lp is_199) fun v209 => lp (decide (v208 = v209))) fun v216 => if v216 then (lb (lb (lp (some sv)) fun v210 => lb (lp (some (sv + 20))) fun v211 => lb (lp (some (sv + 21))) fun v212 => lb (lp meeting_5) fun v213 => lb (lp told_205) fun v214 => lgo v210 sv (lgo v211 (sv + 20) (lgo v212 (sv + 21) (F_L_changed sv v213 v214)))) fun v215 => lp (decide (¬ v215 = 0))) else lp false) fun v226 => if v226 then (lb (lb (lp (some sv)) fun v217 => lb (lp person_10) fun v218 => lb (lp meeting_5) fun v219 => lgo v217 sv (w_dates v218 v219)) fun v220 => lb (lb (lb (lp is_199) fun v221 => lp (decide (¬ v221 = 0))) fun v224 => if v224 then (lb (lp many_174) fun v222 => lb (lp (I 1)) fun v223 => (lp (v222 - v223))) else (lp many_174)) fun v225 => lp (decide (v220 = v225))) else lp false) fun v232 => if v232 then (lb (lb (lp (some sv)) fun v227 => lb (lp meeting_5) fun v228 => lb (lp (I 60)) fun v229 => lgo v227 sv (w_drop v228 v229)) fun v230 => lb (lp (I (-1000002))) fun v231 => lp (decide (v230 = v231))) else lp false) fun v233 => lp (b2i v233)) lz)) else
  (lb (lb (lp kind_21) fun v234 => lb (lp (I 9)) fun v235 => lp (decide (v234 < v235))) fun v436 => if v436 then (lb (lb (lp (some sv)) fun v236 => lb (lp meeting_5) fun v237 => lb (lp day_191) fun v238 => lgo v236 sv (w_add v237 v238)) fun told_239 =>
  (lb (lb (lb (lb (lb (lb (lb (lb (lp told_239) fun v240 => lp (decide (0 ≤ v240))) fun v241 => lp (b2i v241)) fun v242 => lb (lb (lb (lb (lb (lp is_199) fun v243 => lp (decide (¬ v243 = 0))) fun v244 => lp (!v244)) fun v247 => if v247 then (lb (lb (lp cancelled_16) fun v245 => lp (decide (¬ v245 = 0))) fun v246 => lp (!v246)) else lp false) fun v248 => lp (b2i v248)) fun v249 => lp (decide (v242 = v249))) fun v256 => if v256 then (lb (lb (lp (some sv)) fun v250 => lb (lp (some (sv + 20))) fun v251 => lb (lp (some (sv + 21))) fun v252 => lb (lp meeting_5) fun v253 => lb (lp told_239) fun v254 => lgo v250 sv (lgo v251 (sv + 20) (lgo v252 (sv + 21) (F_L_changed sv v253 v254)))) fun v255 => lp (decide (¬ v255 = 0))) else lp false) fun v266 => if v266 then (lb (lb (lp (some sv)) fun v257 => lb (lp person_10) fun v258 => lb (lp meeting_5) fun v259 => lgo v257 sv (w_dates v258 v259)) fun v260 => lb (lb (lb (lp told_239) fun v261 => lp (decide (0 ≤ v261))) fun v264 => if v264 then (lb (lp many_174) fun v262 => lb (lp (I 1)) fun v263 => (lp (v262 + v263))) else (lp many_174)) fun v265 => lp (decide (v260 = v265))) else lp false) fun v272 => if v272 then (lb (lb (lp (some sv)) fun v267 => lb (lp meeting_5) fun v268 => lb (lp (I (-1))) fun v269 => lgo v267 sv (w_add v268 v269)) fun v270 => lb (lp (I (-1000002))) fun v271 => lp (decide (v270 = v271))) else lp false) fun v273 => lp (b2i v273)) lz)) else
  (lb (lb (lp kind_21) fun v274 => lb (lp (I 11)) fun v275 => lp (decide (v274 < v275))) fun v435 => if v435 then (lb (lb (lp (some sv)) fun v278 => lb (lp meeting_5) fun v279 => lb (lp day_191) fun v280 => lb (lb (lp y_) fun v276 => lb (lp (I 1440)) fun v277 => F_L_low sv v276 v277) fun v281 => lgo v278 sv (w_move v279 v280 v281)) fun told_282 =>
  (lb (lb (lb (lb (lb (lb (lb (lb (lb (lp told_282) fun v283 => lp (decide (0 ≤ v283))) fun v284 => lp (b2i v284)) fun v285 => lb (lp is_199) fun v286 => lp (decide (v285 = v286))) fun v293 => if v293 then (lb (lb (lp (some sv)) fun v287 => lb (lp (some (sv + 20))) fun v288 => lb (lp (some (sv + 21))) fun v289 => lb (lp meeting_5) fun v290 => lb (lp told_282) fun v291 => lgo v287 sv (lgo v288 (sv + 20) (lgo v289 (sv + 21) (F_L_changed sv v290 v291)))) fun v292 => lp (decide (¬ v292 = 0))) else lp false) fun v299 => if v299 then (lb (lb (lp (some sv)) fun v294 => lb (lp person_10) fun v295 => lb (lp meeting_5) fun v296 => lgo v294 sv (w_dates v295 v296)) fun v297 => lb (lp many_174) fun v298 => lp (decide (v297 = v298))) else lp false) fun v306 => if v306 then (lb (lb (lp (some sv)) fun v300 => lb (lp meeting_5) fun v301 => lb (lp day_191) fun v302 => lb (lp (I 1440)) fun v303 => lgo v300 sv (w_move v301 v302 v303)) fun v304 => lb (lp (I (-1000002))) fun v305 => lp (decide (v304 = v305))) else lp false) fun v315 => if v315 then (lb (lb (lp (some sv)) fun v309 => lb (lb (lp (some (sv + 22))) fun v307 => lb (lp (I 0)) fun v308 => lai sv v307 v308) fun v310 => lb (lp (I 60)) fun v311 => lb (lp (I 0)) fun v312 => lgo v309 sv (w_move v310 v311 v312)) fun v313 => lb (lp (I (-1000001))) fun v314 => lp (decide (v313 = v314))) else lp false) fun v316 => lp (b2i v316)) lz)) else
  (lb (lb (lp kind_21) fun v317 => lb (lp (I 15)) fun v318 => lp (decide (v317 < v318))) fun v434 => if v434 then (lb (lb (lb (lp y_) fun v319 => lb (lp (I 3)) fun v320 => (lp (v319 >>> (v320 &&& 31)))) fun v321 => lb (lp (I 5)) fun v322 => F_L_low sv v321 v322) fun other_323 =>
  (lb (lb (lb (lb (lb (lp y_) fun v324 => lb (lp (I 6)) fun v325 => (lp (v324 >>> (v325 &&& 31)))) fun v326 => lb (lp (I 4)) fun v327 => F_L_low sv v326 v327) fun v328 => lp (decide (0 < v328))) fun v329 => lp (b2i v329)) fun in_330 =>
  (lb (lb (lp (some sv)) fun v331 => lb (lp meeting_5) fun v332 => lb (lp other_323) fun v333 => lb (lp in_330) fun v334 => lgo v331 sv (w_invite v332 v333 v334)) fun told_335 =>
  (lb (lb (lp other_323) fun v336 => lb (lp person_10) fun v337 => lp (decide (v336 = v337))) fun v381 => if v381 then (lb (lb (lb (lp told_335) fun v338 => lb (lp (I (-1000002))) fun v339 => lp (decide (v338 = v339))) fun v340 => lp (b2i v340)) lz) else
  (lb (lb (lb (lb (lb (lb (lp (some sv)) fun v341 => lb (lp (some (sv + 20))) fun v342 => lb (lp (some (sv + 21))) fun v343 => lb (lp meeting_5) fun v344 => lb (lp told_335) fun v345 => lgo v341 sv (lgo v342 (sv + 20) (lgo v343 (sv + 21) (F_L_changed sv v344 v345)))) fun v346 => lp (decide (¬ v346 = 0))) fun v372 => if v372 then (lb (lb (lp cancelled_16) fun v347 => lp (decide (¬ v347 = 0))) fun v349 => if v349 then (lb (lp told_335) fun v348 => lp (decide (v348 < 0))) else (lb (lb (lb (lb (lp (some sv)) fun v350 => lb (lp meeting_5) fun v351 => lb (lp other_323) fun v352 => lb (lp in_330) fun v353 => lgo v350 sv (w_invite v351 v352 v353)) fun v354 => lb (lp (I (-1000003))) fun v355 => lp (decide (v354 = v355))) fun v364 => if v364 then (lb (lb (lb (lp in_330) fun v356 => lp (decide (¬ v356 = 0))) fun v357 => lp (!v357)) fun v363 => if v363 then lp true else (lb (lb (lp (some sv)) fun v358 => lb (lp meeting_5) fun v359 => lb (lp other_323) fun v360 => lgo v358 sv (w_isAsked v359 v360)) fun v361 => lb (lp (I 1)) fun v362 => lp (decide (v361 = v362)))) else lp false) fun v371 => if v371 then (lb (lb (lp in_330) fun v365 => lp (decide (¬ v365 = 0))) fun v370 => if v370 then lp true else (lb (lb (lp (some sv)) fun v366 => lb (lp meeting_5) fun v367 => lb (lp other_323) fun v368 => lgo v366 sv (w_isAsked v367 v368)) fun v369 => lp (decide (v369 = 0)))) else lp false)) else lp false) fun v379 => if v379 then (lb (lb (lp (some sv)) fun v373 => lb (lp meeting_5) fun v374 => lb (lp (I 5)) fun v375 => lb (lp in_330) fun v376 => lgo v373 sv (w_invite v374 v375 v376)) fun v377 => lb (lp (I (-1000001))) fun v378 => lp (decide (v377 = v378))) else lp false) fun v380 => lp (b2i v380)) lz))))) else
  (lb (lb (lb (lb (lp y_) fun v382 => lb (lp (I 4)) fun v383 => F_L_low sv v382 v383) fun v384 => lp (decide (0 < v384))) fun v387 => if v387 then (lp (I (-1))) else (lb (lp (some sv)) fun v385 => lb (lp meeting_5) fun v386 => lgo v385 sv (w_cancel v386))) fun told_388 =>
  (lb (lb (lp told_388) fun v389 => lb (lp (I (-1))) fun v390 => lp (decide (v389 = v390))) fun v433 => if v433 then (lb (lp (I 1)) lz) else
  (lb (lb (lb (lb (lb (lp (some sv)) fun v391 => lb (lp (some (sv + 20))) fun v392 => lb (lp (some (sv + 21))) fun v393 => lb (lp meeting_5) fun v394 => lb (lp told_388) fun v395 => lgo v391 sv (lgo v392 (sv + 20) (lgo v393 (sv + 21) (F_L_changed sv v394 v395)))) fun v396 => lp (decide (¬ v396 = 0))) fun v404 => if v404 then (lb (lb (lb (lp told_388) fun v397 => lp (decide (0 ≤ v397))) fun v398 => lp (b2i v398)) fun v399 => lb (lb (lb (lb (lp cancelled_16) fun v400 => lp (decide (¬ v400 = 0))) fun v401 => lp (!v401)) fun v402 => lp (b2i v402)) fun v403 => lp (decide (v399 = v403))) else lp false) fun v405 => lp (b2i v405)) fun so_406 =>
  (lb (lb (lp (some (sv + 20))) fun v409 => lb (lp meeting_5) fun v410 => lb (lai sv v409 v410) fun v411 => lb (lb (lb (lp told_388) fun v407 => lp (decide (0 ≤ v407))) fun v408 => if v408 then (lp (I 4096)) else (lp (I 0))) fun v412 => lb (lp (v411 + v412)) fun v413 => lsai sv v409 v410 v413) fun _ =>
  (lb (lb (lb (lb (lb (lb (lp so_406) fun v414 => lp (decide (¬ v414 = 0))) fun v419 => if v419 then (lb (lb (lp (some sv)) fun v415 => lb (lp meeting_5) fun v416 => lgo v415 sv (w_cancel v416)) fun v417 => lb (lp (I (-1000003))) fun v418 => lp (decide (v417 = v418))) else lp false) fun v426 => if v426 then (lb (lb (lp (some sv)) fun v422 => lb (lb (lp (some (sv + 22))) fun v420 => lb (lp (I 0)) fun v421 => lai sv v420 v421) fun v423 => lgo v422 sv (w_cancel v423)) fun v424 => lb (lp (I (-1000001))) fun v425 => lp (decide (v424 = v425))) else lp false) fun v431 => if v431 then (lb (lb (lp (some sv)) fun v427 => lb (lp person_10) fun v428 => lb (lp meeting_5) fun v429 => lgo v427 sv (w_dates v428 v429)) fun v430 => lp (decide (v430 = 0))) else lp false) fun v432 => lp (b2i v432)) lz))))))))))))))))))))
set_option maxRecDepth 100000 in
set_option maxHeartbeats 4000000 in
theorem M_L_organises (sv : Nat) (x_ y_ : Int32) : LM yL_organises cL_organises 17 (some .boolean) 11 195 45 885 [.ref sv, .ref (sv + 20), .ref (sv + 21), .ref (sv + 22), .int x_, .int y_] sv (F_L_organises sv x_ y_) := by
  refine LM_of (env0 := [(0, va_rf (some sv)), (1, va_rf (some (sv + 20))), (2, va_rf (some (sv + 21))), (3, va_rf (some (sv + 22))), (4, .int x_), (5, .int y_)]) (by decide) (by exact Nat.le_of_ble_eq_true rfl) rfl (fun k R X C hR hN hr L0 h0 => ?_)
  have X : CX k cL_organises RL := X
  have htr := C.2.2.2.1
  unfold F_L_organises at h0
  exact KSB_go (KSB_let (KXE_2 (pB := pI) wI (kX (L_iload (x := x_) 4 X dL_organises_0 rfl)) (KXE_2 wR (kX (L_aload_n (r := (some (sv + 22))) 3 X dL_organises_2 rfl rfl)) (kX (L_iconst (v := I 0) X dL_organises_3 (by decide))) (kai X dL_organises_4)) (fun v0 v1 st L a b hd hc hs h => by exact k_callS (st := st) X htr (M_L_low sv v0 v1) lk_L_low st_L_low ml_L_198 rfl (by rw [hR]; exact ⟨Nat.le_of_ble_eq_true rfl, Nat.le_of_ble_eq_true rfl⟩) (Nat.le_trans hd (by decide)) ⟨hc, hs⟩ dL_organises_5 h)) (kS (S_istore (ev := fun meeting_5 => [(6, .int meeting_5), (0, va_rf (some sv)), (1, va_rf (some (sv + 20))), (2, va_rf (some (sv + 21))), (3, va_rf (some (sv + 22))), (4, .int x_), (5, .int y_)]) X dL_organises_8 (by rw [hN]; decide) (fun _ => rfl))) fun meeting_5 =>
  (KSB_let (KXE_2 wI (KXE_2 wR (kX (L_aload_n (r := (some (sv + 20))) 2 X dL_organises_10 rfl rfl)) (kX (L_iload (x := meeting_5) 0 X dL_organises_11 rfl)) (kai X dL_organises_13)) (kX (L_bipush (v := I 8) X dL_organises_14 (by decide))) (krem X dL_organises_16)) (kS (S_istore (ev := fun person_10 => [(7, .int person_10), (6, .int meeting_5), (0, va_rf (some sv)), (1, va_rf (some (sv + 20))), (2, va_rf (some (sv + 21))), (3, va_rf (some (sv + 22))), (4, .int x_), (5, .int y_)]) X dL_organises_17 (by rw [hN]; decide) (fun _ => rfl))) fun person_10 =>
  (KSB_let (KXE_b2i (KCE_2 wI (KXE_2 wR (kX (L_aload_n (r := (some (sv + 20))) 3 X dL_organises_19 rfl rfl)) (kX (L_iload (x := meeting_5) 1 X dL_organises_20 rfl)) (kai X dL_organises_22)) (kX (L_sipush (v := I 4095) X dL_organises_23 (by decide))) (kF2 (C_gt_F X dL_organises_26 (by decide)))) (kB (S_b1 X dL_organises_29 dL_organises_30 (by decide))) (kB (S_b0 X dL_organises_33))) (kS (S_istore (ev := fun cancelled_16 => [(8, .int cancelled_16), (7, .int person_10), (6, .int meeting_5), (0, va_rf (some sv)), (1, va_rf (some (sv + 20))), (2, va_rf (some (sv + 21))), (3, va_rf (some (sv + 22))), (4, .int x_), (5, .int y_)]) X dL_organises_34 (by rw [hN]; decide) (fun _ => rfl))) fun cancelled_16 =>
  (KSB_let (KXE_2 (pB := pI) wI (KXE_2 wI (kX (L_iload (x := x_) 7 X dL_organises_36 rfl)) (kX (L_iconst (v := I 3) X dL_organises_38 (by decide))) (k2 (O_ishr X dL_organises_39))) (kX (L_bipush (v := I 16) X dL_organises_40 (by decide))) (fun v0 v1 st L a b hd hc hs h => by exact k_callS (st := st) X htr (M_L_low sv v0 v1) lk_L_low st_L_low ml_L_198 rfl (by rw [hR]; exact ⟨Nat.le_of_ble_eq_true rfl, Nat.le_of_ble_eq_true rfl⟩) (Nat.le_trans hd (by decide)) ⟨hc, hs⟩ dL_organises_42 h)) (kS (S_istore (ev := fun kind_21 => [(9, .int kind_21), (8, .int cancelled_16), (7, .int person_10), (6, .int meeting_5), (0, va_rf (some sv)), (1, va_rf (some (sv + 20))), (2, va_rf (some (sv + 21))), (3, va_rf (some (sv + 22))), (4, .int x_), (5, .int y_)]) X dL_organises_45 (by rw [hN]; decide) (fun _ => rfl))) fun kind_21 =>
  (KSB_let (KXE_2 (pB := pI) wI (kX (L_iload (x := y_) 9 X dL_organises_47 rfl)) (kX (L_bipush (v := I 60) X dL_organises_49 (by decide))) (fun v0 v1 st L a b hd hc hs h => by exact k_callS (st := st) X htr (M_L_low sv v0 v1) lk_L_low st_L_low ml_L_198 rfl (by rw [hR]; exact ⟨Nat.le_of_ble_eq_true rfl, Nat.le_of_ble_eq_true rfl⟩) (Nat.le_trans hd (by decide)) ⟨hc, hs⟩ dL_organises_51 h)) (kS (S_istore (ev := fun day_24 => [(10, .int day_24), (9, .int kind_21), (8, .int cancelled_16), (7, .int person_10), (6, .int meeting_5), (0, va_rf (some sv)), (1, va_rf (some (sv + 20))), (2, va_rf (some (sv + 21))), (3, va_rf (some (sv + 22))), (4, .int x_), (5, .int y_)]) X dL_organises_54 (by rw [hN]; decide) (fun _ => rfl))) fun day_24 =>
  (KSB_let (KXE_2 (pB := pI) wI (KXE_2 wI (kX (L_iload (x := y_) 10 X dL_organises_56 rfl)) (kX (L_bipush (v := I 6) X dL_organises_58 (by decide))) (k2 (O_ishr X dL_organises_60))) (kX (L_bipush (v := I 24) X dL_organises_61 (by decide))) (fun v0 v1 st L a b hd hc hs h => by exact k_callS (st := st) X htr (M_L_low sv v0 v1) lk_L_low st_L_low ml_L_198 rfl (by rw [hR]; exact ⟨Nat.le_of_ble_eq_true rfl, Nat.le_of_ble_eq_true rfl⟩) (Nat.le_trans hd (by decide)) ⟨hc, hs⟩ dL_organises_63 h)) (kS (S_istore (ev := fun hour_29 => [(11, .int hour_29), (10, .int day_24), (9, .int kind_21), (8, .int cancelled_16), (7, .int person_10), (6, .int meeting_5), (0, va_rf (some sv)), (1, va_rf (some (sv + 20))), (2, va_rf (some (sv + 21))), (3, va_rf (some (sv + 22))), (4, .int x_), (5, .int y_)]) X dL_organises_66 (by rw [hN]; decide) (fun _ => rfl))) fun hour_29 =>
  (KSB_if (KCE_2 wI (kX (L_iload (x := kind_21) 2 X dL_organises_68 rfl)) (kX (L_iconst (v := I 2) X dL_organises_70 (by decide))) (kF2 (C_lt_F X dL_organises_71 (by decide))))
  (KSB_let (KXE_2 wI (kX (L_iconst (v := I 1) X dL_organises_74 (by decide))) (KXE_2 (pB := pI) wI (KXE_2 wI (kX (L_iload (x := y_) 11 X dL_organises_75 rfl)) (kX (L_bipush (v := I 11) X dL_organises_77 (by decide))) (k2 (O_ishr X dL_organises_79))) (kX (L_bipush (v := I 23) X dL_organises_80 (by decide))) (fun v0 v1 st L a b hd hc hs h => by exact k_callS (st := st) X htr (M_L_low sv v0 v1) lk_L_low st_L_low ml_L_198 rfl (by rw [hR]; exact ⟨Nat.le_of_ble_eq_true rfl, Nat.le_of_ble_eq_true rfl⟩) (Nat.le_trans hd (by decide)) ⟨hc, hs⟩ dL_organises_82 h)) (k2 (O_iadd X dL_organises_85))) (kS (S_istore (ev := fun length_38 => [(12, .int length_38), (11, .int hour_29), (10, .int day_24), (9, .int kind_21), (8, .int cancelled_16), (7, .int person_10), (6, .int meeting_5), (0, va_rf (some sv)), (1, va_rf (some (sv + 20))), (2, va_rf (some (sv + 21))), (3, va_rf (some (sv + 22))), (4, .int x_), (5, .int y_)]) X dL_organises_86 (by rw [hN]; decide) (fun _ => rfl))) fun length_38 =>
  (KSB_let (KXE_5 (pB := pI) wR wI wI wI (kX (L_aload_n (r := (some sv)) 7 X dL_organises_88 rfl rfl)) (kX (L_iload (x := meeting_5) 6 X dL_organises_89 rfl)) (kX (L_iload (x := day_24) 2 X dL_organises_91 rfl)) (kX (L_iload (x := hour_29) 1 X dL_organises_93 rfl)) (kX (L_iload (x := length_38) 0 X dL_organises_95 rfl)) (fun v0 v1 v2 v3 v4 st L a b hd hc hs h => by obtain ⟨rfl, h1⟩ := lgo_of h; exact k_callH (st := st) X htr (E_L_time sv v1 v2 v3 v4) lkh_time stl_time ml_L_237 rfl (by rw [hR]; exact ⟨Nat.le_of_ble_eq_true rfl, Nat.le_of_ble_eq_true rfl⟩) (Nat.le_trans hd (by decide)) ⟨hc, hs⟩ dL_organises_97 h1)) (kS (S_istore (ev := fun told_44 => [(13, .int told_44), (12, .int length_38), (11, .int hour_29), (10, .int day_24), (9, .int kind_21), (8, .int cancelled_16), (7, .int person_10), (6, .int meeting_5), (0, va_rf (some sv)), (1, va_rf (some (sv + 20))), (2, va_rf (some (sv + 21))), (3, va_rf (some (sv + 22))), (4, .int x_), (5, .int y_)]) X dL_organises_100 (by rw [hN]; decide) (fun _ => rfl))) fun told_44 =>
  (kretZ X C hr dL_organises_204 (KXE_b2i (KCE_and (KCE_and (KCE_and (KCE_and (KCE_and (KCE_2 wI (KXE_b2i (KCE_1 (kX (L_iload (x := told_44) 0 X dL_organises_102 rfl)) (kF1 (Z_ge_F X dL_organises_104 (by decide)))) (kB (S_b1 X dL_organises_107 dL_organises_108 (by decide))) (kB (S_b0 X dL_organises_111))) (KXE_b2i (KCE_not (KCE_1 (kX (L_iload (x := cancelled_16) 5 X dL_organises_112 rfl)) (kF1 (Z_ne_T X dL_organises_114 (by decide))))) (kB (S_b1 X dL_organises_117 dL_organises_118 (by decide))) (kB (S_b0 X dL_organises_121))) (kF2 (C_eq_F X dL_organises_122 (by decide)))) (KCE_1 (KXE_5 (pB := pI) wR wR wR wI (kX (L_aload_n (r := (some sv)) 8 X dL_organises_125 rfl rfl)) (kX (L_aload_n (r := (some (sv + 20))) 9 X dL_organises_126 rfl rfl)) (kX (L_aload_n (r := (some (sv + 21))) 10 X dL_organises_127 rfl rfl)) (kX (L_iload (x := meeting_5) 7 X dL_organises_128 rfl)) (kX (L_iload (x := told_44) 0 X dL_organises_130 rfl)) (fun v0 v1 v2 v3 v4 st L a b hd hc hs h => by obtain ⟨rfl, h1⟩ := lgo_of h; obtain ⟨rfl, h2⟩ := lgo_of h1; obtain ⟨rfl, h3⟩ := lgo_of h2; exact k_callS (st := st) X htr (M_L_changed sv v3 v4) lk_L_changed st_L_changed ml_L_240 rfl (by rw [hR]; exact ⟨Nat.le_of_ble_eq_true rfl, Nat.le_of_ble_eq_true rfl⟩) (Nat.le_trans hd (by decide)) ⟨hc, hs⟩ dL_organises_132 h3)) (kF1 (Z_ne_F X dL_organises_135 (by decide))))) (KCE_2 wI (KXE_5 (pB := pI) wR wI wI wI (kX (L_aload_n (r := (some sv)) 8 X dL_organises_138 rfl rfl)) (kX (L_iload (x := meeting_5) 7 X dL_organises_139 rfl)) (kX (L_bipush (v := I 60) X dL_organises_141 (by decide))) (kX (L_iconst (v := I 0) X dL_organises_143 (by decide))) (kX (L_iconst (v := I 1) X dL_organises_144 (by decide))) (fun v0 v1 v2 v3 v4 st L a b hd hc hs h => by obtain ⟨rfl, h1⟩ := lgo_of h; exact k_callH (st := st) X htr (E_L_time sv v1 v2 v3 v4) lkh_time stl_time ml_L_237 rfl (by rw [hR]; exact ⟨Nat.le_of_ble_eq_true rfl, Nat.le_of_ble_eq_true rfl⟩) (Nat.le_trans hd (by decide)) ⟨hc, hs⟩ dL_organises_145 h1)) (kX (L_ldc (v := I (-1000002)) X dL_organises_148 kd_L_21)) (kF2 (C_eq_F X dL_organises_150 (by decide))))) (KCE_2 wI (KXE_5 (pB := pI) wR wI wI wI (kX (L_aload_n (r := (some sv)) 8 X dL_organises_153 rfl rfl)) (kX (L_iload (x := meeting_5) 7 X dL_organises_154 rfl)) (kX (L_iconst (v := I 0) X dL_organises_156 (by decide))) (kX (L_bipush (v := I 24) X dL_organises_157 (by decide))) (kX (L_iconst (v := I 1) X dL_organises_159 (by decide))) (fun v0 v1 v2 v3 v4 st L a b hd hc hs h => by obtain ⟨rfl, h1⟩ := lgo_of h; exact k_callH (st := st) X htr (E_L_time sv v1 v2 v3 v4) lkh_time stl_time ml_L_237 rfl (by rw [hR]; exact ⟨Nat.le_of_ble_eq_true rfl, Nat.le_of_ble_eq_true rfl⟩) (Nat.le_trans hd (by decide)) ⟨hc, hs⟩ dL_organises_160 h1)) (kX (L_ldc (v := I (-1000002)) X dL_organises_163 kd_L_21)) (kF2 (C_eq_F X dL_organises_165 (by decide))))) (KCE_2 wI (KXE_5 (pB := pI) wR wI wI wI (kX (L_aload_n (r := (some sv)) 8 X dL_organises_168 rfl rfl)) (kX (L_iload (x := meeting_5) 7 X dL_organises_169 rfl)) (kX (L_iconst (v := I 0) X dL_organises_171 (by decide))) (kX (L_iconst (v := I 0) X dL_organises_172 (by decide))) (kX (L_bipush (v := I 24) X dL_organises_173 (by decide))) (fun v0 v1 v2 v3 v4 st L a b hd hc hs h => by obtain ⟨rfl, h1⟩ := lgo_of h; exact k_callH (st := st) X htr (E_L_time sv v1 v2 v3 v4) lkh_time stl_time ml_L_237 rfl (by rw [hR]; exact ⟨Nat.le_of_ble_eq_true rfl, Nat.le_of_ble_eq_true rfl⟩) (Nat.le_trans hd (by decide)) ⟨hc, hs⟩ dL_organises_175 h1)) (kX (L_ldc (v := I (-1000002)) X dL_organises_178 kd_L_21)) (kF2 (C_eq_F X dL_organises_180 (by decide))))) (KCE_2 wI (KXE_5 (pB := pI) wR wI wI wI (kX (L_aload_n (r := (some sv)) 8 X dL_organises_183 rfl rfl)) (KXE_2 wR (kX (L_aload_n (r := (some (sv + 22))) 11 X dL_organises_184 rfl rfl)) (kX (L_iconst (v := I 0) X dL_organises_185 (by decide))) (kai X dL_organises_186)) (kX (L_bipush (v := I 60) X dL_organises_187 (by decide))) (kX (L_iconst (v := I 0) X dL_organises_189 (by decide))) (kX (L_iconst (v := I 0) X dL_organises_190 (by decide))) (fun v0 v1 v2 v3 v4 st L a b hd hc hs h => by obtain ⟨rfl, h1⟩ := lgo_of h; exact k_callH (st := st) X htr (E_L_time sv v1 v2 v3 v4) lkh_time stl_time ml_L_237 rfl (by rw [hR]; exact ⟨Nat.le_of_ble_eq_true rfl, Nat.le_of_ble_eq_true rfl⟩) (Nat.le_trans hd (by decide)) ⟨hc, hs⟩ dL_organises_191 h1)) (kX (L_ldc (v := I (-1000001)) X dL_organises_194 kd_L_18)) (kF2 (C_eq_F X dL_organises_196 (by decide))))) (kB (S_b1 X dL_organises_199 dL_organises_200 (by decide))) (kB (S_b0 X dL_organises_203))))))
  (KSB_if (KCE_2 wI (kX (L_iload (x := kind_21) 2 X dL_organises_205 rfl)) (kX (L_iconst (v := I 5) X dL_organises_207 (by decide))) (kF2 (C_lt_F X dL_organises_208 (by decide))))
  (KSB_let (KXE_5 (pB := pI) wR wI wI wI (kX (L_aload_n (r := (some sv)) 6 X dL_organises_211 rfl rfl)) (kX (L_iload (x := meeting_5) 5 X dL_organises_212 rfl)) (KXE_2 wI (kX (L_iconst (v := I 1) X dL_organises_214 (by decide))) (KXE_2 (pB := pI) wI (kX (L_iload (x := y_) 11 X dL_organises_215 rfl)) (kX (L_bipush (v := I 28) X dL_organises_217 (by decide))) (fun v0 v1 st L a b hd hc hs h => by exact k_callS (st := st) X htr (M_L_low sv v0 v1) lk_L_low st_L_low ml_L_198 rfl (by rw [hR]; exact ⟨Nat.le_of_ble_eq_true rfl, Nat.le_of_ble_eq_true rfl⟩) (Nat.le_trans hd (by decide)) ⟨hc, hs⟩ dL_organises_219 h)) (k2 (O_iadd X dL_organises_222))) (KXE_2 wI (kX (L_iconst (v := I 1) X dL_organises_223 (by decide))) (KXE_2 (pB := pI) wI (KXE_2 wI (kX (L_iload (x := y_) 11 X dL_organises_224 rfl)) (kX (L_iconst (v := I 5) X dL_organises_226 (by decide))) (k2 (O_ishr X dL_organises_227))) (kX (L_bipush (v := I 127) X dL_organises_228 (by decide))) (fun v0 v1 st L a b hd hc hs h => by exact k_callS (st := st) X htr (M_L_low sv v0 v1) lk_L_low st_L_low ml_L_198 rfl (by rw [hR]; exact ⟨Nat.le_of_ble_eq_true rfl, Nat.le_of_ble_eq_true rfl⟩) (Nat.le_trans hd (by decide)) ⟨hc, hs⟩ dL_organises_230 h)) (k2 (O_iadd X dL_organises_233))) (KXE_2 wI (kX (L_iconst (v := I 1) X dL_organises_234 (by decide))) (KXE_2 (pB := pI) wI (KXE_2 wI (kX (L_iload (x := y_) 11 X dL_organises_235 rfl)) (kX (L_bipush (v := I 12) X dL_organises_237 (by decide))) (k2 (O_ishr X dL_organises_239))) (kX (L_bipush (v := I 10) X dL_organises_240 (by decide))) (fun v0 v1 st L a b hd hc hs h => by exact k_callS (st := st) X htr (M_L_low sv v0 v1) lk_L_low st_L_low ml_L_198 rfl (by rw [hR]; exact ⟨Nat.le_of_ble_eq_true rfl, Nat.le_of_ble_eq_true rfl⟩) (Nat.le_trans hd (by decide)) ⟨hc, hs⟩ dL_organises_242 h)) (k2 (O_iadd X dL_organises_245))) (fun v0 v1 v2 v3 v4 st L a b hd hc hs h => by obtain ⟨rfl, h1⟩ := lgo_of h; exact k_callH (st := st) X htr (E_L_repeat sv v1 v2 v3 v4) lkh_repeat stl_repeat ml_L_243 rfl (by rw [hR]; exact ⟨Nat.le_of_ble_eq_true rfl, Nat.le_of_ble_eq_true rfl⟩) (Nat.le_trans hd (by decide)) ⟨hc, hs⟩ dL_organises_246 h1)) (kS (S_istore (ev := fun told_117 => [(12, .int told_117), (11, .int hour_29), (10, .int day_24), (9, .int kind_21), (8, .int cancelled_16), (7, .int person_10), (6, .int meeting_5), (0, va_rf (some sv)), (1, va_rf (some (sv + 20))), (2, va_rf (some (sv + 21))), (3, va_rf (some (sv + 22))), (4, .int x_), (5, .int y_)]) X dL_organises_249 (by rw [hN]; decide) (fun _ => rfl))) fun told_117 =>
  (kretZ X C hr dL_organises_365 (KXE_b2i (KCE_and (KCE_and (KCE_and (KCE_and (KCE_and (KCE_and (KCE_2 wI (KXE_b2i (KCE_1 (kX (L_iload (x := told_117) 0 X dL_organises_251 rfl)) (kF1 (Z_ge_F X dL_organises_253 (by decide)))) (kB (S_b1 X dL_organises_256 dL_organises_257 (by decide))) (kB (S_b0 X dL_organises_260))) (KXE_b2i (KCE_not (KCE_1 (kX (L_iload (x := cancelled_16) 4 X dL_organises_261 rfl)) (kF1 (Z_ne_T X dL_organises_263 (by decide))))) (kB (S_b1 X dL_organises_266 dL_organises_267 (by decide))) (kB (S_b0 X dL_organises_270))) (kF2 (C_eq_F X dL_organises_271 (by decide)))) (KCE_1 (KXE_5 (pB := pI) wR wR wR wI (kX (L_aload_n (r := (some sv)) 7 X dL_organises_274 rfl rfl)) (kX (L_aload_n (r := (some (sv + 20))) 8 X dL_organises_275 rfl rfl)) (kX (L_aload_n (r := (some (sv + 21))) 9 X dL_organises_276 rfl rfl)) (kX (L_iload (x := meeting_5) 6 X dL_organises_277 rfl)) (kX (L_iload (x := told_117) 0 X dL_organises_279 rfl)) (fun v0 v1 v2 v3 v4 st L a b hd hc hs h => by obtain ⟨rfl, h1⟩ := lgo_of h; obtain ⟨rfl, h2⟩ := lgo_of h1; obtain ⟨rfl, h3⟩ := lgo_of h2; exact k_callS (st := st) X htr (M_L_changed sv v3 v4) lk_L_changed st_L_changed ml_L_240 rfl (by rw [hR]; exact ⟨Nat.le_of_ble_eq_true rfl, Nat.le_of_ble_eq_true rfl⟩) (Nat.le_trans hd (by decide)) ⟨hc, hs⟩ dL_organises_281 h3)) (kF1 (Z_ne_F X dL_organises_284 (by decide))))) (KCE_2 wI (KXE_3 (pB := pI) wR wI (kX (L_aload_n (r := (some sv)) 7 X dL_organises_287 rfl rfl)) (kX (L_iload (x := person_10) 5 X dL_organises_288 rfl)) (kX (L_iload (x := meeting_5) 6 X dL_organises_290 rfl)) (fun v0 v1 v2 st L a b hd hc hs h => by obtain ⟨rfl, h1⟩ := lgo_of h; exact k_callH (st := st) X htr (E_L_dates sv v1 v2) lkh_dates stl_dates ml_L_164 rfl (by rw [hR]; exact ⟨Nat.le_of_ble_eq_true rfl, Nat.le_of_ble_eq_true rfl⟩) (Nat.le_trans hd (by decide)) ⟨hc, hs⟩ dL_organises_292 h1)) (kX (L_bipush (v := I 60) X dL_organises_295 (by decide))) (kF2 (C_le_F X dL_organises_297 (by decide))))) (KCE_2 wI (KXE_5 (pB := pI) wR wI wI wI (kX (L_aload_n (r := (some sv)) 7 X dL_organises_300 rfl rfl)) (kX (L_iload (x := meeting_5) 6 X dL_organises_301 rfl)) (kX (L_iconst (v := I 0) X dL_organises_303 (by decide))) (kX (L_iconst (v := I 1) X dL_organises_304 (by decide))) (kX (L_iconst (v := I 1) X dL_organises_305 (by decide))) (fun v0 v1 v2 v3 v4 st L a b hd hc hs h => by obtain ⟨rfl, h1⟩ := lgo_of h; exact k_callH (st := st) X htr (E_L_repeat sv v1 v2 v3 v4) lkh_repeat stl_repeat ml_L_243 rfl (by rw [hR]; exact ⟨Nat.le_of_ble_eq_true rfl, Nat.le_of_ble_eq_true rfl⟩) (Nat.le_trans hd (by decide)) ⟨hc, hs⟩ dL_organises_306 h1)) (kX (L_ldc (v := I (-1000002)) X dL_organises_309 kd_L_21)) (kF2 (C_eq_F X dL_organises_311 (by decide))))) (KCE_2 wI (KXE_5 (pB := pI) wR wI wI wI (kX (L_aload_n (r := (some sv)) 7 X dL_organises_314 rfl rfl)) (kX (L_iload (x := meeting_5) 6 X dL_organises_315 rfl)) (kX (L_bipush (v := I 29) X dL_organises_317 (by decide))) (kX (L_iconst (v := I 1) X dL_organises_319 (by decide))) (kX (L_iconst (v := I 1) X dL_organises_320 (by decide))) (fun v0 v1 v2 v3 v4 st L a b hd hc hs h => by obtain ⟨rfl, h1⟩ := lgo_of h; exact k_callH (st := st) X htr (E_L_repeat sv v1 v2 v3 v4) lkh_repeat stl_repeat ml_L_243 rfl (by rw [hR]; exact ⟨Nat.le_of_ble_eq_true rfl, Nat.le_of_ble_eq_true rfl⟩) (Nat.le_trans hd (by decide)) ⟨hc, hs⟩ dL_organises_321 h1)) (kX (L_ldc (v := I (-1000002)) X dL_organises_324 kd_L_21)) (kF2 (C_eq_F X dL_organises_326 (by decide))))) (KCE_2 wI (KXE_5 (pB := pI) wR wI wI wI (kX (L_aload_n (r := (some sv)) 7 X dL_organises_329 rfl rfl)) (kX (L_iload (x := meeting_5) 6 X dL_organises_330 rfl)) (kX (L_iconst (v := I 1) X dL_organises_332 (by decide))) (kX (L_sipush (v := I 128) X dL_organises_333 (by decide))) (kX (L_iconst (v := I 1) X dL_organises_336 (by decide))) (fun v0 v1 v2 v3 v4 st L a b hd hc hs h => by obtain ⟨rfl, h1⟩ := lgo_of h; exact k_callH (st := st) X htr (E_L_repeat sv v1 v2 v3 v4) lkh_repeat stl_repeat ml_L_243 rfl (by rw [hR]; exact ⟨Nat.le_of_ble_eq_true rfl, Nat.le_of_ble_eq_true rfl⟩) (Nat.le_trans hd (by decide)) ⟨hc, hs⟩ dL_organises_337 h1)) (kX (L_ldc (v := I (-1000002)) X dL_organises_340 kd_L_21)) (kF2 (C_eq_F X dL_organises_342 (by decide))))) (KCE_2 wI (KXE_5 (pB := pI) wR wI wI wI (kX (L_aload_n (r := (some sv)) 7 X dL_organises_345 rfl rfl)) (kX (L_iload (x := meeting_5) 6 X dL_organises_346 rfl)) (kX (L_iconst (v := I 1) X dL_organises_348 (by decide))) (kX (L_iconst (v := I 1) X dL_organises_349 (by decide))) (kX (L_bipush (v := I 11) X dL_organises_350 (by decide))) (fun v0 v1 v2 v3 v4 st L a b hd hc hs h => by obtain ⟨rfl, h1⟩ := lgo_of h; exact k_callH (st := st) X htr (E_L_repeat sv v1 v2 v3 v4) lkh_repeat stl_repeat ml_L_243 rfl (by rw [hR]; exact ⟨Nat.le_of_ble_eq_true rfl, Nat.le_of_ble_eq_true rfl⟩) (Nat.le_trans hd (by decide)) ⟨hc, hs⟩ dL_organises_352 h1)) (kX (L_ldc (v := I (-1000002)) X dL_organises_355 kd_L_21)) (kF2 (C_eq_F X dL_organises_357 (by decide))))) (kB (S_b1 X dL_organises_360 dL_organises_361 (by decide))) (kB (S_b0 X dL_organises_364)))))
  (KSB_let (KXE_3 (pB := pI) wR wI (kX (L_aload_n (r := (some sv)) 6 X dL_organises_366 rfl rfl)) (kX (L_iload (x := person_10) 4 X dL_organises_367 rfl)) (kX (L_iload (x := meeting_5) 5 X dL_organises_369 rfl)) (fun v0 v1 v2 st L a b hd hc hs h => by obtain ⟨rfl, h1⟩ := lgo_of h; exact k_callH (st := st) X htr (E_L_dates sv v1 v2) lkh_dates stl_dates ml_L_164 rfl (by rw [hR]; exact ⟨Nat.le_of_ble_eq_true rfl, Nat.le_of_ble_eq_true rfl⟩) (Nat.le_trans hd (by decide)) ⟨hc, hs⟩ dL_organises_371 h1)) (kS (S_istore (ev := fun many_174 => [(12, .int many_174), (11, .int hour_29), (10, .int day_24), (9, .int kind_21), (8, .int cancelled_16), (7, .int person_10), (6, .int meeting_5), (0, va_rf (some sv)), (1, va_rf (some (sv + 20))), (2, va_rf (some (sv + 21))), (3, va_rf (some (sv + 22))), (4, .int x_), (5, .int y_)]) X dL_organises_374 (by rw [hN]; decide) (fun _ => rfl))) fun many_174 =>
  (KSB_let (KXE_tern (KCE_and (KCE_1 (kX (L_iload (x := many_174) 0 X dL_organises_376 rfl)) (kF1 (Z_gt_F X dL_organises_378 (by decide)))) (KCE_1 (KXE_2 (pB := pI) wI (KXE_2 wI (kX (L_iload (x := y_) 12 X dL_organises_381 rfl)) (kX (L_bipush (v := I 13) X dL_organises_383 (by decide))) (k2 (O_ishr X dL_organises_385))) (kX (L_iconst (v := I 3) X dL_organises_386 (by decide))) (fun v0 v1 st L a b hd hc hs h => by exact k_callS (st := st) X htr (M_L_low sv v0 v1) lk_L_low st_L_low ml_L_198 rfl (by rw [hR]; exact ⟨Nat.le_of_ble_eq_true rfl, Nat.le_of_ble_eq_true rfl⟩) (Nat.le_trans hd (by decide)) ⟨hc, hs⟩ dL_organises_387 h)) (kF1 (Z_gt_F X dL_organises_390 (by decide))))) (KXE_4 (pB := pI) wR wI wI (kX (L_aload_n (r := (some sv)) 7 X dL_organises_393 rfl rfl)) (kX (L_iload (x := person_10) 5 X dL_organises_394 rfl)) (kX (L_iload (x := meeting_5) 6 X dL_organises_396 rfl)) (KXE_2 (pB := pI) wI (KXE_2 wI (kX (L_iload (x := y_) 12 X dL_organises_398 rfl)) (kX (L_bipush (v := I 15) X dL_organises_400 (by decide))) (k2 (O_ishr X dL_organises_402))) (kX (L_iload (x := many_174) 0 X dL_organises_403 rfl)) (fun v0 v1 st L a b hd hc hs h => by exact k_callS (st := st) X htr (M_L_low sv v0 v1) lk_L_low st_L_low ml_L_198 rfl (by rw [hR]; exact ⟨Nat.le_of_ble_eq_true rfl, Nat.le_of_ble_eq_true rfl⟩) (Nat.le_trans hd (by decide)) ⟨hc, hs⟩ dL_organises_405 h)) (fun v0 v1 v2 v3 st L a b hd hc hs h => by obtain ⟨rfl, h1⟩ := lgo_of h; exact k_callH (st := st) X htr (E_L_dateAt sv v1 v2 v3) lkh_dateAt stl_dateAt ml_L_166 rfl (by rw [hR]; exact ⟨Nat.le_of_ble_eq_true rfl, Nat.le_of_ble_eq_true rfl⟩) (Nat.le_trans hd (by decide)) ⟨hc, hs⟩ dL_organises_408 h1)) (kJ (S_goto X dL_organises_411 (by decide))) (kX (L_iload (x := day_24) 2 X dL_organises_414 rfl))) (kS (S_istore (ev := fun day_191 => [(10, .int day_191), (12, .int many_174), (11, .int hour_29), (9, .int kind_21), (8, .int cancelled_16), (7, .int person_10), (6, .int meeting_5), (0, va_rf (some sv)), (1, va_rf (some (sv + 20))), (2, va_rf (some (sv + 21))), (3, va_rf (some (sv + 22))), (4, .int x_), (5, .int y_)]) X dL_organises_416 (by rw [hN]; decide) (fun _ => rfl))) fun day_191 =>
  (KSB_let (KXE_b2i (KCE_2 wI (KXE_4 (pB := pI) wR wI wI (kX (L_aload_n (r := (some sv)) 7 X dL_organises_418 rfl rfl)) (kX (L_iload (x := person_10) 5 X dL_organises_419 rfl)) (kX (L_iload (x := meeting_5) 6 X dL_organises_421 rfl)) (kX (L_iload (x := day_191) 0 X dL_organises_423 rfl)) (fun v0 v1 v2 v3 st L a b hd hc hs h => by obtain ⟨rfl, h1⟩ := lgo_of h; exact k_callH (st := st) X htr (E_L_begin sv v1 v2 v3) lkh_begin stl_begin ml_L_169 rfl (by rw [hR]; exact ⟨Nat.le_of_ble_eq_true rfl, Nat.le_of_ble_eq_true rfl⟩) (Nat.le_trans hd (by decide)) ⟨hc, hs⟩ dL_organises_425 h1)) (kX (L_ldc (v := I (-1000000)) X dL_organises_428 kd_L_245)) (kF2 (C_gt_F X dL_organises_430 (by decide)))) (kB (S_b1 X dL_organises_433 dL_organises_434 (by decide))) (kB (S_b0 X dL_organises_437))) (kS (S_istore (ev := fun is_199 => [(13, .int is_199), (10, .int day_191), (12, .int many_174), (11, .int hour_29), (9, .int kind_21), (8, .int cancelled_16), (7, .int person_10), (6, .int meeting_5), (0, va_rf (some sv)), (1, va_rf (some (sv + 20))), (2, va_rf (some (sv + 21))), (3, va_rf (some (sv + 22))), (4, .int x_), (5, .int y_)]) X dL_organises_438 (by rw [hN]; decide) (fun _ => rfl))) fun is_199 =>
  (KSB_if (KCE_2 wI (kX (L_iload (x := kind_21) 4 X dL_organises_440 rfl)) (kX (L_bipush (v := I 7) X dL_organises_442 (by decide))) (kF2 (C_lt_F X dL_organises_444 (by decide))))
  (KSB_let (KXE_3 (pB := pI) wR wI (kX (L_aload_n (r := (some sv)) 8 X dL_organises_447 rfl rfl)) (kX (L_iload (x := meeting_5) 7 X dL_organises_448 rfl)) (kX (L_iload (x := day_191) 1 X dL_organises_450 rfl)) (fun v0 v1 v2 st L a b hd hc hs h => by obtain ⟨rfl, h1⟩ := lgo_of h; exact k_callH (st := st) X htr (E_L_drop sv v1 v2) lkh_drop stl_drop ml_L_246 rfl (by rw [hR]; exact ⟨Nat.le_of_ble_eq_true rfl, Nat.le_of_ble_eq_true rfl⟩) (Nat.le_trans hd (by decide)) ⟨hc, hs⟩ dL_organises_452 h1)) (kS (S_istore (ev := fun told_205 => [(14, .int told_205), (13, .int is_199), (10, .int day_191), (12, .int many_174), (11, .int hour_29), (9, .int kind_21), (8, .int cancelled_16), (7, .int person_10), (6, .int meeting_5), (0, va_rf (some sv)), (1, va_rf (some (sv + 20))), (2, va_rf (some (sv + 21))), (3, va_rf (some (sv + 22))), (4, .int x_), (5, .int y_)]) X dL_organises_455 (by rw [hN]; decide) (fun _ => rfl))) fun told_205 =>
  (kretZ X C hr dL_organises_528 (KXE_b2i (KCE_and (KCE_and (KCE_and (KCE_2 wI (KXE_b2i (KCE_1 (kX (L_iload (x := told_205) 0 X dL_organises_457 rfl)) (kF1 (Z_ge_F X dL_organises_459 (by decide)))) (kB (S_b1 X dL_organises_462 dL_organises_463 (by decide))) (kB (S_b0 X dL_organises_466))) (kX (L_iload (x := is_199) 1 X dL_organises_467 rfl)) (kF2 (C_eq_F X dL_organises_469 (by decide)))) (KCE_1 (KXE_5 (pB := pI) wR wR wR wI (kX (L_aload_n (r := (some sv)) 9 X dL_organises_472 rfl rfl)) (kX (L_aload_n (r := (some (sv + 20))) 10 X dL_organises_473 rfl rfl)) (kX (L_aload_n (r := (some (sv + 21))) 11 X dL_organises_474 rfl rfl)) (kX (L_iload (x := meeting_5) 8 X dL_organises_475 rfl)) (kX (L_iload (x := told_205) 0 X dL_organises_477 rfl)) (fun v0 v1 v2 v3 v4 st L a b hd hc hs h => by obtain ⟨rfl, h1⟩ := lgo_of h; obtain ⟨rfl, h2⟩ := lgo_of h1; obtain ⟨rfl, h3⟩ := lgo_of h2; exact k_callS (st := st) X htr (M_L_changed sv v3 v4) lk_L_changed st_L_changed ml_L_240 rfl (by rw [hR]; exact ⟨Nat.le_of_ble_eq_true rfl, Nat.le_of_ble_eq_true rfl⟩) (Nat.le_trans hd (by decide)) ⟨hc, hs⟩ dL_organises_479 h3)) (kF1 (Z_ne_F X dL_organises_482 (by decide))))) (KCE_2 wI (KXE_3 (pB := pI) wR wI (kX (L_aload_n (r := (some sv)) 9 X dL_organises_485 rfl rfl)) (kX (L_iload (x := person_10) 7 X dL_organises_486 rfl)) (kX (L_iload (x := meeting_5) 8 X dL_organises_488 rfl)) (fun v0 v1 v2 st L a b hd hc hs h => by obtain ⟨rfl, h1⟩ := lgo_of h; exact k_callH (st := st) X htr (E_L_dates sv v1 v2) lkh_dates stl_dates ml_L_164 rfl (by rw [hR]; exact ⟨Nat.le_of_ble_eq_true rfl, Nat.le_of_ble_eq_true rfl⟩) (Nat.le_trans hd (by decide)) ⟨hc, hs⟩ dL_organises_490 h1)) (KXE_tern (KCE_1 (kX (L_iload (x := is_199) 1 X dL_organises_493 rfl)) (kF1 (Z_ne_F X dL_organises_495 (by decide)))) (KXE_2 wI (kX (L_iload (x := many_174) 3 X dL_organises_498 rfl)) (kX (L_iconst (v := I 1) X dL_organises_500 (by decide))) (k2 (O_isub X dL_organises_501))) (kJ (S_goto X dL_organises_502 (by decide))) (kX (L_iload (x := many_174) 3 X dL_organises_505 rfl))) (kF2 (C_eq_F X dL_organises_507 (by decide))))) (KCE_2 wI (KXE_3 (pB := pI) wR wI (kX (L_aload_n (r := (some sv)) 9 X dL_organises_510 rfl rfl)) (kX (L_iload (x := meeting_5) 8 X dL_organises_511 rfl)) (kX (L_bipush (v := I 60) X dL_organises_513 (by decide))) (fun v0 v1 v2 st L a b hd hc hs h => by obtain ⟨rfl, h1⟩ := lgo_of h; exact k_callH (st := st) X htr (E_L_drop sv v1 v2) lkh_drop stl_drop ml_L_246 rfl (by rw [hR]; exact ⟨Nat.le_of_ble_eq_true rfl, Nat.le_of_ble_eq_true rfl⟩) (Nat.le_trans hd (by decide)) ⟨hc, hs⟩ dL_organises_515 h1)) (kX (L_ldc (v := I (-1000002)) X dL_organises_518 kd_L_21)) (kF2 (C_eq_F X dL_organises_520 (by decide))))) (kB (S_b1 X dL_organises_523 dL_organises_524 (by decide))) (kB (S_b0 X dL_organises_527)))))
  (KSB_if (KCE_2 wI (kX (L_iload (x := kind_21) 4 X dL_organises_529 rfl)) (kX (L_bipush (v := I 9) X dL_organises_531 (by decide))) (kF2 (C_lt_F X dL_organises_533 (by decide))))
  (KSB_let (KXE_3 (pB := pI) wR wI (kX (L_aload_n (r := (some sv)) 8 X dL_organises_536 rfl rfl)) (kX (L_iload (x := meeting_5) 7 X dL_organises_537 rfl)) (kX (L_iload (x := day_191) 1 X dL_organises_539 rfl)) (fun v0 v1 v2 st L a b hd hc hs h => by obtain ⟨rfl, h1⟩ := lgo_of h; exact k_callH (st := st) X htr (E_L_add sv v1 v2) lkh_add stl_add ml_L_248 rfl (by rw [hR]; exact ⟨Nat.le_of_ble_eq_true rfl, Nat.le_of_ble_eq_true rfl⟩) (Nat.le_trans hd (by decide)) ⟨hc, hs⟩ dL_organises_541 h1)) (kS (S_istore (ev := fun told_239 => [(14, .int told_239), (13, .int is_199), (10, .int day_191), (12, .int many_174), (11, .int hour_29), (9, .int kind_21), (8, .int cancelled_16), (7, .int person_10), (6, .int meeting_5), (0, va_rf (some sv)), (1, va_rf (some (sv + 20))), (2, va_rf (some (sv + 21))), (3, va_rf (some (sv + 22))), (4, .int x_), (5, .int y_)]) X dL_organises_544 (by rw [hN]; decide) (fun _ => rfl))) fun told_239 =>
  (kretZ X C hr dL_organises_629 (KXE_b2i (KCE_and (KCE_and (KCE_and (KCE_2 wI (KXE_b2i (KCE_1 (kX (L_iload (x := told_239) 0 X dL_organises_546 rfl)) (kF1 (Z_ge_F X dL_organises_548 (by decide)))) (kB (S_b1 X dL_organises_551 dL_organises_552 (by decide))) (kB (S_b0 X dL_organises_555))) (KXE_b2i (KCE_and (KCE_not (KCE_1 (kX (L_iload (x := is_199) 1 X dL_organises_556 rfl)) (kF1 (Z_ne_T X dL_organises_558 (by decide))))) (KCE_not (KCE_1 (kX (L_iload (x := cancelled_16) 6 X dL_organises_561 rfl)) (kF1 (Z_ne_T X dL_organises_563 (by decide)))))) (kB (S_b1 X dL_organises_566 dL_organises_567 (by decide))) (kB (S_b0 X dL_organises_570))) (kF2 (C_eq_F X dL_organises_571 (by decide)))) (KCE_1 (KXE_5 (pB := pI) wR wR wR wI (kX (L_aload_n (r := (some sv)) 9 X dL_organises_574 rfl rfl)) (kX (L_aload_n (r := (some (sv + 20))) 10 X dL_organises_575 rfl rfl)) (kX (L_aload_n (r := (some (sv + 21))) 11 X dL_organises_576 rfl rfl)) (kX (L_iload (x := meeting_5) 8 X dL_organises_577 rfl)) (kX (L_iload (x := told_239) 0 X dL_organises_579 rfl)) (fun v0 v1 v2 v3 v4 st L a b hd hc hs h => by obtain ⟨rfl, h1⟩ := lgo_of h; obtain ⟨rfl, h2⟩ := lgo_of h1; obtain ⟨rfl, h3⟩ := lgo_of h2; exact k_callS (st := st) X htr (M_L_changed sv v3 v4) lk_L_changed st_L_changed ml_L_240 rfl (by rw [hR]; exact ⟨Nat.le_of_ble_eq_true rfl, Nat.le_of_ble_eq_true rfl⟩) (Nat.le_trans hd (by decide)) ⟨hc, hs⟩ dL_organises_581 h3)) (kF1 (Z_ne_F X dL_organises_584 (by decide))))) (KCE_2 wI (KXE_3 (pB := pI) wR wI (kX (L_aload_n (r := (some sv)) 9 X dL_organises_587 rfl rfl)) (kX (L_iload (x := person_10) 7 X dL_organises_588 rfl)) (kX (L_iload (x := meeting_5) 8 X dL_organises_590 rfl)) (fun v0 v1 v2 st L a b hd hc hs h => by obtain ⟨rfl, h1⟩ := lgo_of h; exact k_callH (st := st) X htr (E_L_dates sv v1 v2) lkh_dates stl_dates ml_L_164 rfl (by rw [hR]; exact ⟨Nat.le_of_ble_eq_true rfl, Nat.le_of_ble_eq_true rfl⟩) (Nat.le_trans hd (by decide)) ⟨hc, hs⟩ dL_organises_592 h1)) (KXE_tern (KCE_1 (kX (L_iload (x := told_239) 0 X dL_organises_595 rfl)) (kF1 (Z_ge_F X dL_organises_597 (by decide)))) (KXE_2 wI (kX (L_iload (x := many_174) 3 X dL_organises_600 rfl)) (kX (L_iconst (v := I 1) X dL_organises_602 (by decide))) (k2 (O_iadd X dL_organises_603))) (kJ (S_goto X dL_organises_604 (by decide))) (kX (L_iload (x := many_174) 3 X dL_organises_607 rfl))) (kF2 (C_eq_F X dL_organises_609 (by decide))))) (KCE_2 wI (KXE_3 (pB := pI) wR wI (kX (L_aload_n (r := (some sv)) 9 X dL_organises_612 rfl rfl)) (kX (L_iload (x := meeting_5) 8 X dL_organises_613 rfl)) (kX (L_iconst (v := I (-1)) X dL_organises_615 (by decide))) (fun v0 v1 v2 st L a b hd hc hs h => by obtain ⟨rfl, h1⟩ := lgo_of h; exact k_callH (st := st) X htr (E_L_add sv v1 v2) lkh_add stl_add ml_L_248 rfl (by rw [hR]; exact ⟨Nat.le_of_ble_eq_true rfl, Nat.le_of_ble_eq_true rfl⟩) (Nat.le_trans hd (by decide)) ⟨hc, hs⟩ dL_organises_616 h1)) (kX (L_ldc (v := I (-1000002)) X dL_organises_619 kd_L_21)) (kF2 (C_eq_F X dL_organises_621 (by decide))))) (kB (S_b1 X dL_organises_624 dL_organises_625 (by decide))) (kB (S_b0 X dL_organises_628)))))
  (KSB_if (KCE_2 wI (kX (L_iload (x := kind_21) 4 X dL_organises_630 rfl)) (kX (L_bipush (v := I 11) X dL_organises_632 (by decide))) (kF2 (C_lt_F X dL_organises_634 (by decide))))
  (KSB_let (KXE_4 (pB := pI) wR wI wI (kX (L_aload_n (r := (some sv)) 8 X dL_organises_637 rfl rfl)) (kX (L_iload (x := meeting_5) 7 X dL_organises_638 rfl)) (kX (L_iload (x := day_191) 1 X dL_organises_640 rfl)) (KXE_2 (pB := pI) wI (kX (L_iload (x := y_) 13 X dL_organises_642 rfl)) (kX (L_sipush (v := I 1440) X dL_organises_644 (by decide))) (fun v0 v1 st L a b hd hc hs h => by exact k_callS (st := st) X htr (M_L_low sv v0 v1) lk_L_low st_L_low ml_L_198 rfl (by rw [hR]; exact ⟨Nat.le_of_ble_eq_true rfl, Nat.le_of_ble_eq_true rfl⟩) (Nat.le_trans hd (by decide)) ⟨hc, hs⟩ dL_organises_647 h)) (fun v0 v1 v2 v3 st L a b hd hc hs h => by obtain ⟨rfl, h1⟩ := lgo_of h; exact k_callH (st := st) X htr (E_L_move sv v1 v2 v3) lkh_move stl_move ml_L_250 rfl (by rw [hR]; exact ⟨Nat.le_of_ble_eq_true rfl, Nat.le_of_ble_eq_true rfl⟩) (Nat.le_trans hd (by decide)) ⟨hc, hs⟩ dL_organises_650 h1)) (kS (S_istore (ev := fun told_282 => [(14, .int told_282), (13, .int is_199), (10, .int day_191), (12, .int many_174), (11, .int hour_29), (9, .int kind_21), (8, .int cancelled_16), (7, .int person_10), (6, .int meeting_5), (0, va_rf (some sv)), (1, va_rf (some (sv + 20))), (2, va_rf (some (sv + 21))), (3, va_rf (some (sv + 22))), (4, .int x_), (5, .int y_)]) X dL_organises_653 (by rw [hN]; decide) (fun _ => rfl))) fun told_282 =>
  (kretZ X C hr dL_organises_732 (KXE_b2i (KCE_and (KCE_and (KCE_and (KCE_and (KCE_2 wI (KXE_b2i (KCE_1 (kX (L_iload (x := told_282) 0 X dL_organises_655 rfl)) (kF1 (Z_ge_F X dL_organises_657 (by decide)))) (kB (S_b1 X dL_organises_660 dL_organises_661 (by decide))) (kB (S_b0 X dL_organises_664))) (kX (L_iload (x := is_199) 1 X dL_organises_665 rfl)) (kF2 (C_eq_F X dL_organises_667 (by decide)))) (KCE_1 (KXE_5 (pB := pI) wR wR wR wI (kX (L_aload_n (r := (some sv)) 9 X dL_organises_670 rfl rfl)) (kX (L_aload_n (r := (some (sv + 20))) 10 X dL_organises_671 rfl rfl)) (kX (L_aload_n (r := (some (sv + 21))) 11 X dL_organises_672 rfl rfl)) (kX (L_iload (x := meeting_5) 8 X dL_organises_673 rfl)) (kX (L_iload (x := told_282) 0 X dL_organises_675 rfl)) (fun v0 v1 v2 v3 v4 st L a b hd hc hs h => by obtain ⟨rfl, h1⟩ := lgo_of h; obtain ⟨rfl, h2⟩ := lgo_of h1; obtain ⟨rfl, h3⟩ := lgo_of h2; exact k_callS (st := st) X htr (M_L_changed sv v3 v4) lk_L_changed st_L_changed ml_L_240 rfl (by rw [hR]; exact ⟨Nat.le_of_ble_eq_true rfl, Nat.le_of_ble_eq_true rfl⟩) (Nat.le_trans hd (by decide)) ⟨hc, hs⟩ dL_organises_677 h3)) (kF1 (Z_ne_F X dL_organises_680 (by decide))))) (KCE_2 wI (KXE_3 (pB := pI) wR wI (kX (L_aload_n (r := (some sv)) 9 X dL_organises_683 rfl rfl)) (kX (L_iload (x := person_10) 7 X dL_organises_684 rfl)) (kX (L_iload (x := meeting_5) 8 X dL_organises_686 rfl)) (fun v0 v1 v2 st L a b hd hc hs h => by obtain ⟨rfl, h1⟩ := lgo_of h; exact k_callH (st := st) X htr (E_L_dates sv v1 v2) lkh_dates stl_dates ml_L_164 rfl (by rw [hR]; exact ⟨Nat.le_of_ble_eq_true rfl, Nat.le_of_ble_eq_true rfl⟩) (Nat.le_trans hd (by decide)) ⟨hc, hs⟩ dL_organises_688 h1)) (kX (L_iload (x := many_174) 3 X dL_organises_691 rfl)) (kF2 (C_eq_F X dL_organises_693 (by decide))))) (KCE_2 wI (KXE_4 (pB := pI) wR wI wI (kX (L_aload_n (r := (some sv)) 9 X dL_organises_696 rfl rfl)) (kX (L_iload (x := meeting_5) 8 X dL_organises_697 rfl)) (kX (L_iload (x := day_191) 2 X dL_organises_699 rfl)) (kX (L_sipush (v := I 1440) X dL_organises_701 (by decide))) (fun v0 v1 v2 v3 st L a b hd hc hs h => by obtain ⟨rfl, h1⟩ := lgo_of h; exact k_callH (st := st) X htr (E_L_move sv v1 v2 v3) lkh_move stl_move ml_L_250 rfl (by rw [hR]; exact ⟨Nat.le_of_ble_eq_true rfl, Nat.le_of_ble_eq_true rfl⟩) (Nat.le_trans hd (by decide)) ⟨hc, hs⟩ dL_organises_704 h1)) (kX (L_ldc (v := I (-1000002)) X dL_organises_707 kd_L_21)) (kF2 (C_eq_F X dL_organises_709 (by decide))))) (KCE_2 wI (KXE_4 (pB := pI) wR wI wI (kX (L_aload_n (r := (some sv)) 9 X dL_organises_712 rfl rfl)) (KXE_2 wR (kX (L_aload_n (r := (some (sv + 22))) 12 X dL_organises_713 rfl rfl)) (kX (L_iconst (v := I 0) X dL_organises_714 (by decide))) (kai X dL_organises_715)) (kX (L_bipush (v := I 60) X dL_organises_716 (by decide))) (kX (L_iconst (v := I 0) X dL_organises_718 (by decide))) (fun v0 v1 v2 v3 st L a b hd hc hs h => by obtain ⟨rfl, h1⟩ := lgo_of h; exact k_callH (st := st) X htr (E_L_move sv v1 v2 v3) lkh_move stl_move ml_L_250 rfl (by rw [hR]; exact ⟨Nat.le_of_ble_eq_true rfl, Nat.le_of_ble_eq_true rfl⟩) (Nat.le_trans hd (by decide)) ⟨hc, hs⟩ dL_organises_719 h1)) (kX (L_ldc (v := I (-1000001)) X dL_organises_722 kd_L_18)) (kF2 (C_eq_F X dL_organises_724 (by decide))))) (kB (S_b1 X dL_organises_727 dL_organises_728 (by decide))) (kB (S_b0 X dL_organises_731)))))
  (KSB_if (KCE_2 wI (kX (L_iload (x := kind_21) 4 X dL_organises_733 rfl)) (kX (L_bipush (v := I 15) X dL_organises_735 (by decide))) (kF2 (C_lt_F X dL_organises_737 (by decide))))
  (KSB_let (KXE_2 (pB := pI) wI (KXE_2 wI (kX (L_iload (x := y_) 13 X dL_organises_740 rfl)) (kX (L_iconst (v := I 3) X dL_organises_742 (by decide))) (k2 (O_ishr X dL_organises_743))) (kX (L_iconst (v := I 5) X dL_organises_744 (by decide))) (fun v0 v1 st L a b hd hc hs h => by exact k_callS (st := st) X htr (M_L_low sv v0 v1) lk_L_low st_L_low ml_L_198 rfl (by rw [hR]; exact ⟨Nat.le_of_ble_eq_true rfl, Nat.le_of_ble_eq_true rfl⟩) (Nat.le_trans hd (by decide)) ⟨hc, hs⟩ dL_organises_745 h)) (kS (S_istore (ev := fun other_323 => [(14, .int other_323), (13, .int is_199), (10, .int day_191), (12, .int many_174), (11, .int hour_29), (9, .int kind_21), (8, .int cancelled_16), (7, .int person_10), (6, .int meeting_5), (0, va_rf (some sv)), (1, va_rf (some (sv + 20))), (2, va_rf (some (sv + 21))), (3, va_rf (some (sv + 22))), (4, .int x_), (5, .int y_)]) X dL_organises_748 (by rw [hN]; decide) (fun _ => rfl))) fun other_323 =>
  (KSB_let (KXE_b2i (KCE_1 (KXE_2 (pB := pI) wI (KXE_2 wI (kX (L_iload (x := y_) 14 X dL_organises_750 rfl)) (kX (L_bipush (v := I 6) X dL_organises_752 (by decide))) (k2 (O_ishr X dL_organises_754))) (kX (L_iconst (v := I 4) X dL_organises_755 (by decide))) (fun v0 v1 st L a b hd hc hs h => by exact k_callS (st := st) X htr (M_L_low sv v0 v1) lk_L_low st_L_low ml_L_198 rfl (by rw [hR]; exact ⟨Nat.le_of_ble_eq_true rfl, Nat.le_of_ble_eq_true rfl⟩) (Nat.le_trans hd (by decide)) ⟨hc, hs⟩ dL_organises_756 h)) (kF1 (Z_gt_F X dL_organises_759 (by decide)))) (kB (S_b1 X dL_organises_762 dL_organises_763 (by decide))) (kB (S_b0 X dL_organises_766))) (kS (S_istore (ev := fun in_330 => [(15, .int in_330), (14, .int other_323), (13, .int is_199), (10, .int day_191), (12, .int many_174), (11, .int hour_29), (9, .int kind_21), (8, .int cancelled_16), (7, .int person_10), (6, .int meeting_5), (0, va_rf (some sv)), (1, va_rf (some (sv + 20))), (2, va_rf (some (sv + 21))), (3, va_rf (some (sv + 22))), (4, .int x_), (5, .int y_)]) X dL_organises_767 (by rw [hN]; decide) (fun _ => rfl))) fun in_330 =>
  (KSB_let (KXE_4 (pB := pI) wR wI wI (kX (L_aload_n (r := (some sv)) 10 X dL_organises_769 rfl rfl)) (kX (L_iload (x := meeting_5) 9 X dL_organises_770 rfl)) (kX (L_iload (x := other_323) 1 X dL_organises_772 rfl)) (kX (L_iload (x := in_330) 0 X dL_organises_774 rfl)) (fun v0 v1 v2 v3 st L a b hd hc hs h => by obtain ⟨rfl, h1⟩ := lgo_of h; exact k_callH (st := st) X htr (E_L_invite sv v1 v2 v3) lkh_invite stl_invite ml_L_252 rfl (by rw [hR]; exact ⟨Nat.le_of_ble_eq_true rfl, Nat.le_of_ble_eq_true rfl⟩) (Nat.le_trans hd (by decide)) ⟨hc, hs⟩ dL_organises_776 h1)) (kS (S_istore (ev := fun told_335 => [(16, .int told_335), (15, .int in_330), (14, .int other_323), (13, .int is_199), (10, .int day_191), (12, .int many_174), (11, .int hour_29), (9, .int kind_21), (8, .int cancelled_16), (7, .int person_10), (6, .int meeting_5), (0, va_rf (some sv)), (1, va_rf (some (sv + 20))), (2, va_rf (some (sv + 21))), (3, va_rf (some (sv + 22))), (4, .int x_), (5, .int y_)]) X dL_organises_779 (by rw [hN]; decide) (fun _ => rfl))) fun told_335 =>
  (KSB_if (KCE_2 wI (kX (L_iload (x := other_323) 2 X dL_organises_781 rfl)) (kX (L_iload (x := person_10) 9 X dL_organises_783 rfl)) (kF2 (C_eq_F X dL_organises_785 (by decide))))
  (kretZ X C hr dL_organises_800 (KXE_b2i (KCE_2 wI (kX (L_iload (x := told_335) 0 X dL_organises_788 rfl)) (kX (L_ldc (v := I (-1000002)) X dL_organises_790 kd_L_21)) (kF2 (C_eq_F X dL_organises_792 (by decide)))) (kB (S_b1 X dL_organises_795 dL_organises_796 (by decide))) (kB (S_b0 X dL_organises_799))))
  (kretZ X C hr dL_organises_894 (KXE_b2i (KCE_and (KCE_and (KCE_1 (KXE_5 (pB := pI) wR wR wR wI (kX (L_aload_n (r := (some sv)) 11 X dL_organises_801 rfl rfl)) (kX (L_aload_n (r := (some (sv + 20))) 12 X dL_organises_802 rfl rfl)) (kX (L_aload_n (r := (some (sv + 21))) 13 X dL_organises_803 rfl rfl)) (kX (L_iload (x := meeting_5) 10 X dL_organises_804 rfl)) (kX (L_iload (x := told_335) 0 X dL_organises_806 rfl)) (fun v0 v1 v2 v3 v4 st L a b hd hc hs h => by obtain ⟨rfl, h1⟩ := lgo_of h; obtain ⟨rfl, h2⟩ := lgo_of h1; obtain ⟨rfl, h3⟩ := lgo_of h2; exact k_callS (st := st) X htr (M_L_changed sv v3 v4) lk_L_changed st_L_changed ml_L_240 rfl (by rw [hR]; exact ⟨Nat.le_of_ble_eq_true rfl, Nat.le_of_ble_eq_true rfl⟩) (Nat.le_trans hd (by decide)) ⟨hc, hs⟩ dL_organises_808 h3)) (kF1 (Z_ne_F X dL_organises_811 (by decide)))) (KCE_tern (KCE_1 (kX (L_iload (x := cancelled_16) 8 X dL_organises_814 rfl)) (kF1 (Z_ne_F X dL_organises_816 (by decide)))) (KCE_post (KCE_1 (kX (L_iload (x := told_335) 0 X dL_organises_819 rfl)) (kF1 (Z_lt_F X dL_organises_821 (by decide)))) (kJ (S_goto X dL_organises_824 (by decide)))) (KCE_and (KCE_and (KCE_2 wI (KXE_4 (pB := pI) wR wI wI (kX (L_aload_n (r := (some sv)) 11 X dL_organises_827 rfl rfl)) (kX (L_iload (x := meeting_5) 10 X dL_organises_828 rfl)) (kX (L_iload (x := other_323) 2 X dL_organises_830 rfl)) (kX (L_iload (x := in_330) 1 X dL_organises_832 rfl)) (fun v0 v1 v2 v3 st L a b hd hc hs h => by obtain ⟨rfl, h1⟩ := lgo_of h; exact k_callH (st := st) X htr (E_L_invite sv v1 v2 v3) lkh_invite stl_invite ml_L_252 rfl (by rw [hR]; exact ⟨Nat.le_of_ble_eq_true rfl, Nat.le_of_ble_eq_true rfl⟩) (Nat.le_trans hd (by decide)) ⟨hc, hs⟩ dL_organises_834 h1)) (kX (L_ldc (v := I (-1000003)) X dL_organises_837 kd_L_38)) (kF2 (C_eq_F X dL_organises_839 (by decide)))) (KCE_or (KCE_not (KCE_1 (kX (L_iload (x := in_330) 1 X dL_organises_842 rfl)) (kF1 (Z_ne_F X dL_organises_844 (by decide))))) (KCE_2 wI (KXE_3 (pB := pI) wR wI (kX (L_aload_n (r := (some sv)) 11 X dL_organises_847 rfl rfl)) (kX (L_iload (x := meeting_5) 10 X dL_organises_848 rfl)) (kX (L_iload (x := other_323) 2 X dL_organises_850 rfl)) (fun v0 v1 v2 st L a b hd hc hs h => by obtain ⟨rfl, h1⟩ := lgo_of h; exact k_callH (st := st) X htr (E_L_isAsked sv v1 v2) lkh_isAsked stl_isAsked ml_L_175 rfl (by rw [hR]; exact ⟨Nat.le_of_ble_eq_true rfl, Nat.le_of_ble_eq_true rfl⟩) (Nat.le_trans hd (by decide)) ⟨hc, hs⟩ dL_organises_852 h1)) (kX (L_iconst (v := I 1) X dL_organises_855 (by decide))) (kF2 (C_eq_F X dL_organises_856 (by decide)))))) (KCE_or (KCE_1 (kX (L_iload (x := in_330) 1 X dL_organises_859 rfl)) (kF1 (Z_ne_T X dL_organises_861 (by decide)))) (KCE_1 (KXE_3 (pB := pI) wR wI (kX (L_aload_n (r := (some sv)) 11 X dL_organises_864 rfl rfl)) (kX (L_iload (x := meeting_5) 10 X dL_organises_865 rfl)) (kX (L_iload (x := other_323) 2 X dL_organises_867 rfl)) (fun v0 v1 v2 st L a b hd hc hs h => by obtain ⟨rfl, h1⟩ := lgo_of h; exact k_callH (st := st) X htr (E_L_isAsked sv v1 v2) lkh_isAsked stl_isAsked ml_L_175 rfl (by rw [hR]; exact ⟨Nat.le_of_ble_eq_true rfl, Nat.le_of_ble_eq_true rfl⟩) (Nat.le_trans hd (by decide)) ⟨hc, hs⟩ dL_organises_869 h1)) (kF1 (Z_eq_F X dL_organises_872 (by decide)))))))) (KCE_2 wI (KXE_4 (pB := pI) wR wI wI (kX (L_aload_n (r := (some sv)) 11 X dL_organises_875 rfl rfl)) (kX (L_iload (x := meeting_5) 10 X dL_organises_876 rfl)) (kX (L_iconst (v := I 5) X dL_organises_878 (by decide))) (kX (L_iload (x := in_330) 1 X dL_organises_879 rfl)) (fun v0 v1 v2 v3 st L a b hd hc hs h => by obtain ⟨rfl, h1⟩ := lgo_of h; exact k_callH (st := st) X htr (E_L_invite sv v1 v2 v3) lkh_invite stl_invite ml_L_252 rfl (by rw [hR]; exact ⟨Nat.le_of_ble_eq_true rfl, Nat.le_of_ble_eq_true rfl⟩) (Nat.le_trans hd (by decide)) ⟨hc, hs⟩ dL_organises_881 h1)) (kX (L_ldc (v := I (-1000001)) X dL_organises_884 kd_L_18)) (kF2 (C_eq_F X dL_organises_886 (by decide))))) (kB (S_b1 X dL_organises_889 dL_organises_890 (by decide))) (kB (S_b0 X dL_organises_893))))))))
  (KSB_let (KXE_tern (KCE_1 (KXE_2 (pB := pI) wI (kX (L_iload (x := y_) 13 X dL_organises_895 rfl)) (kX (L_iconst (v := I 4) X dL_organises_897 (by decide))) (fun v0 v1 st L a b hd hc hs h => by exact k_callS (st := st) X htr (M_L_low sv v0 v1) lk_L_low st_L_low ml_L_198 rfl (by rw [hR]; exact ⟨Nat.le_of_ble_eq_true rfl, Nat.le_of_ble_eq_true rfl⟩) (Nat.le_trans hd (by decide)) ⟨hc, hs⟩ dL_organises_898 h)) (kF1 (Z_gt_F X dL_organises_901 (by decide)))) (kX (L_iconst (v := I (-1)) X dL_organises_904 (by decide))) (kJ (S_goto X dL_organises_905 (by decide))) (KXE_2 (pB := pI) wR (kX (L_aload_n (r := (some sv)) 8 X dL_organises_908 rfl rfl)) (kX (L_iload (x := meeting_5) 7 X dL_organises_909 rfl)) (fun v0 v1 st L a b hd hc hs h => by obtain ⟨rfl, h1⟩ := lgo_of h; exact k_callH (st := st) X htr (E_L_cancel sv v1) lkh_cancel stl_cancel ml_L_255 rfl (by rw [hR]; exact ⟨Nat.le_of_ble_eq_true rfl, Nat.le_of_ble_eq_true rfl⟩) (Nat.le_trans hd (by decide)) ⟨hc, hs⟩ dL_organises_911 h1))) (kS (S_istore (ev := fun told_388 => [(14, .int told_388), (13, .int is_199), (10, .int day_191), (12, .int many_174), (11, .int hour_29), (9, .int kind_21), (8, .int cancelled_16), (7, .int person_10), (6, .int meeting_5), (0, va_rf (some sv)), (1, va_rf (some (sv + 20))), (2, va_rf (some (sv + 21))), (3, va_rf (some (sv + 22))), (4, .int x_), (5, .int y_)]) X dL_organises_914 (by rw [hN]; decide) (fun _ => rfl))) fun told_388 =>
  (KSB_if (KCE_2 wI (kX (L_iload (x := told_388) 0 X dL_organises_916 rfl)) (kX (L_iconst (v := I (-1)) X dL_organises_918 (by decide))) (kF2 (C_eq_F X dL_organises_919 (by decide))))
  (kretZ X C hr dL_organises_923 (kX (L_iconst (v := I 1) X dL_organises_922 (by decide))))
  (KSB_let (KXE_b2i (KCE_and (KCE_1 (KXE_5 (pB := pI) wR wR wR wI (kX (L_aload_n (r := (some sv)) 9 X dL_organises_924 rfl rfl)) (kX (L_aload_n (r := (some (sv + 20))) 10 X dL_organises_925 rfl rfl)) (kX (L_aload_n (r := (some (sv + 21))) 11 X dL_organises_926 rfl rfl)) (kX (L_iload (x := meeting_5) 8 X dL_organises_927 rfl)) (kX (L_iload (x := told_388) 0 X dL_organises_929 rfl)) (fun v0 v1 v2 v3 v4 st L a b hd hc hs h => by obtain ⟨rfl, h1⟩ := lgo_of h; obtain ⟨rfl, h2⟩ := lgo_of h1; obtain ⟨rfl, h3⟩ := lgo_of h2; exact k_callS (st := st) X htr (M_L_changed sv v3 v4) lk_L_changed st_L_changed ml_L_240 rfl (by rw [hR]; exact ⟨Nat.le_of_ble_eq_true rfl, Nat.le_of_ble_eq_true rfl⟩) (Nat.le_trans hd (by decide)) ⟨hc, hs⟩ dL_organises_931 h3)) (kF1 (Z_ne_F X dL_organises_934 (by decide)))) (KCE_2 wI (KXE_b2i (KCE_1 (kX (L_iload (x := told_388) 0 X dL_organises_937 rfl)) (kF1 (Z_ge_F X dL_organises_939 (by decide)))) (kB (S_b1 X dL_organises_942 dL_organises_943 (by decide))) (kB (S_b0 X dL_organises_946))) (KXE_b2i (KCE_not (KCE_1 (kX (L_iload (x := cancelled_16) 6 X dL_organises_947 rfl)) (kF1 (Z_ne_T X dL_organises_949 (by decide))))) (kB (S_b1 X dL_organises_952 dL_organises_953 (by decide))) (kB (S_b0 X dL_organises_956))) (kF2 (C_eq_F X dL_organises_957 (by decide))))) (kB (S_b1 X dL_organises_960 dL_organises_961 (by decide))) (kB (S_b0 X dL_organises_964))) (kS (S_istore (ev := fun so_406 => [(15, .int so_406), (14, .int told_388), (13, .int is_199), (10, .int day_191), (12, .int many_174), (11, .int hour_29), (9, .int kind_21), (8, .int cancelled_16), (7, .int person_10), (6, .int meeting_5), (0, va_rf (some sv)), (1, va_rf (some (sv + 20))), (2, va_rf (some (sv + 21))), (3, va_rf (some (sv + 22))), (4, .int x_), (5, .int y_)]) X dL_organises_965 (by rw [hN]; decide) (fun _ => rfl))) fun so_406 =>
  (KSB_do (KXE_dup2 wI (kX (L_aload_n (r := (some (sv + 20))) 11 X dL_organises_967 rfl rfl)) (kX (L_iload (x := meeting_5) 9 X dL_organises_968 rfl)) (kD2 (S_dup2 X dL_organises_970)) (kai X dL_organises_971) (KXE_tern (KCE_1 (kX (L_iload (x := told_388) 1 X dL_organises_972 rfl)) (kF1 (Z_ge_F X dL_organises_974 (by decide)))) (kX (L_sipush (v := I 4096) X dL_organises_977 (by decide))) (kJ (S_goto X dL_organises_980 (by decide))) (kX (L_iconst (v := I 0) X dL_organises_983 (by decide)))) (k2 (O_iadd X dL_organises_984)) (ksai X dL_organises_985))
  (kretZ X C hr dL_organises_1030 (KXE_b2i (KCE_and (KCE_and (KCE_and (KCE_1 (kX (L_iload (x := so_406) 0 X dL_organises_986 rfl)) (kF1 (Z_ne_F X dL_organises_988 (by decide)))) (KCE_2 wI (KXE_2 (pB := pI) wR (kX (L_aload_n (r := (some sv)) 10 X dL_organises_991 rfl rfl)) (kX (L_iload (x := meeting_5) 9 X dL_organises_992 rfl)) (fun v0 v1 st L a b hd hc hs h => by obtain ⟨rfl, h1⟩ := lgo_of h; exact k_callH (st := st) X htr (E_L_cancel sv v1) lkh_cancel stl_cancel ml_L_255 rfl (by rw [hR]; exact ⟨Nat.le_of_ble_eq_true rfl, Nat.le_of_ble_eq_true rfl⟩) (Nat.le_trans hd (by decide)) ⟨hc, hs⟩ dL_organises_994 h1)) (kX (L_ldc (v := I (-1000003)) X dL_organises_997 kd_L_38)) (kF2 (C_eq_F X dL_organises_999 (by decide))))) (KCE_2 wI (KXE_2 (pB := pI) wR (kX (L_aload_n (r := (some sv)) 10 X dL_organises_1002 rfl rfl)) (KXE_2 wR (kX (L_aload_n (r := (some (sv + 22))) 13 X dL_organises_1003 rfl rfl)) (kX (L_iconst (v := I 0) X dL_organises_1004 (by decide))) (kai X dL_organises_1005)) (fun v0 v1 st L a b hd hc hs h => by obtain ⟨rfl, h1⟩ := lgo_of h; exact k_callH (st := st) X htr (E_L_cancel sv v1) lkh_cancel stl_cancel ml_L_255 rfl (by rw [hR]; exact ⟨Nat.le_of_ble_eq_true rfl, Nat.le_of_ble_eq_true rfl⟩) (Nat.le_trans hd (by decide)) ⟨hc, hs⟩ dL_organises_1006 h1)) (kX (L_ldc (v := I (-1000001)) X dL_organises_1009 kd_L_18)) (kF2 (C_eq_F X dL_organises_1011 (by decide))))) (KCE_1 (KXE_3 (pB := pI) wR wI (kX (L_aload_n (r := (some sv)) 10 X dL_organises_1014 rfl rfl)) (kX (L_iload (x := person_10) 8 X dL_organises_1015 rfl)) (kX (L_iload (x := meeting_5) 9 X dL_organises_1017 rfl)) (fun v0 v1 v2 st L a b hd hc hs h => by obtain ⟨rfl, h1⟩ := lgo_of h; exact k_callH (st := st) X htr (E_L_dates sv v1 v2) lkh_dates stl_dates ml_L_164 rfl (by rw [hR]; exact ⟨Nat.le_of_ble_eq_true rfl, Nat.le_of_ble_eq_true rfl⟩) (Nat.le_trans hd (by decide)) ⟨hc, hs⟩ dL_organises_1019 h1)) (kF1 (Z_eq_F X dL_organises_1022 (by decide))))) (kB (S_b1 X dL_organises_1025 dL_organises_1026 (by decide))) (kB (S_b0 X dL_organises_1029))))))))))))))))))))))) h0 (by rw [hR]; exact Nat.le_of_ble_eq_true rfl) (by rw [hR]; exact Nat.le_of_ble_eq_true rfl)
