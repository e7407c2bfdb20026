/-! the law's larger methods: computations over its state, and their contracts -/
theorem dL_others_0 : decode cL_others 0 = .ok (.iload 4, 2) := by decide +kernel
theorem dL_others_2 : decode cL_others 2 = .ok (.bipush 12, 2) := by decide +kernel
theorem dL_others_4 : decode cL_others 4 = .ok (.invokestatic 198, 3) := by decide +kernel
theorem dL_others_7 : decode cL_others 7 = .ok (.istore 6, 2) := by decide +kernel
theorem dL_others_9 : decode cL_others 9 = .ok (.iload 4, 2) := by decide +kernel
theorem dL_others_11 : decode cL_others 11 = .ok (.iconst 4, 1) := by decide +kernel
theorem dL_others_12 : decode cL_others 12 = .ok (.ishr, 1) := by decide +kernel
theorem dL_others_13 : decode cL_others 13 = .ok (.aload_n 3, 1) := by decide +kernel
theorem dL_others_14 : decode cL_others 14 = .ok (.iconst 0, 1) := by decide +kernel
theorem dL_others_15 : decode cL_others 15 = .ok (.iaload, 1) := by decide +kernel
theorem dL_others_16 : decode cL_others 16 = .ok (.invokestatic 198, 3) := by decide +kernel
theorem dL_others_19 : decode cL_others 19 = .ok (.istore 7, 2) := by decide +kernel
theorem dL_others_21 : decode cL_others 21 = .ok (.iload 5, 2) := by decide +kernel
theorem dL_others_23 : decode cL_others 23 = .ok (.iconst 5, 1) := by decide +kernel
theorem dL_others_24 : decode cL_others 24 = .ok (.invokestatic 198, 3) := by decide +kernel
theorem dL_others_27 : decode cL_others 27 = .ok (.istore 8, 2) := by decide +kernel
theorem dL_others_29 : decode cL_others 29 = .ok (.iload 6, 2) := by decide +kernel
theorem dL_others_31 : decode cL_others 31 = .ok (.iconst 2, 1) := by decide +kernel
theorem dL_others_32 : decode cL_others 32 = .ok (.if_icmp .ge 86, 3) := by decide +kernel
theorem dL_others_35 : decode cL_others 35 = .ok (.aload_n 0, 1) := by decide +kernel
theorem dL_others_36 : decode cL_others 36 = .ok (.iload 7, 2) := by decide +kernel
theorem dL_others_38 : decode cL_others 38 = .ok (.invokestatic 257, 3) := by decide +kernel
theorem dL_others_41 : decode cL_others 41 = .ok (.istore 9, 2) := by decide +kernel
theorem dL_others_43 : decode cL_others 43 = .ok (.aload_n 3, 1) := by decide +kernel
theorem dL_others_44 : decode cL_others 44 = .ok (.iconst 1, 1) := by decide +kernel
theorem dL_others_45 : decode cL_others 45 = .ok (.dup2, 1) := by decide +kernel
theorem dL_others_46 : decode cL_others 46 = .ok (.iaload, 1) := by decide +kernel
theorem dL_others_47 : decode cL_others 47 = .ok (.iload 9, 2) := by decide +kernel
theorem dL_others_49 : decode cL_others 49 = .ok (.ifCond .ge 7, 3) := by decide +kernel
theorem dL_others_52 : decode cL_others 52 = .ok (.iconst 0, 1) := by decide +kernel
theorem dL_others_53 : decode cL_others 53 = .ok (.goto 5, 3) := by decide +kernel
theorem dL_others_56 : decode cL_others 56 = .ok (.iload 9, 2) := by decide +kernel
theorem dL_others_58 : decode cL_others 58 = .ok (.iadd, 1) := by decide +kernel
theorem dL_others_59 : decode cL_others 59 = .ok (.iastore, 1) := by decide +kernel
theorem dL_others_60 : decode cL_others 60 = .ok (.iload 9, 2) := by decide +kernel
theorem dL_others_62 : decode cL_others 62 = .ok (.ldc 38, 2) := by decide +kernel
theorem dL_others_64 : decode cL_others 64 = .ok (.if_icmp .ne 15, 3) := by decide +kernel
theorem dL_others_67 : decode cL_others 67 = .ok (.aload_n 3, 1) := by decide +kernel
theorem dL_others_68 : decode cL_others 68 = .ok (.iconst 1, 1) := by decide +kernel
theorem dL_others_69 : decode cL_others 69 = .ok (.iaload, 1) := by decide +kernel
theorem dL_others_70 : decode cL_others 70 = .ok (.sipush 145, 3) := by decide +kernel
theorem dL_others_73 : decode cL_others 73 = .ok (.if_icmp .le 43, 3) := by decide +kernel
theorem dL_others_76 : decode cL_others 76 = .ok (.goto 14, 3) := by decide +kernel
theorem dL_others_79 : decode cL_others 79 = .ok (.iload 9, 2) := by decide +kernel
theorem dL_others_81 : decode cL_others 81 = .ok (.ifCond .lt 35, 3) := by decide +kernel
theorem dL_others_84 : decode cL_others 84 = .ok (.iload 9, 2) := by decide +kernel
theorem dL_others_86 : decode cL_others 86 = .ok (.iconst 5, 1) := by decide +kernel
theorem dL_others_87 : decode cL_others 87 = .ok (.if_icmp .ge 29, 3) := by decide +kernel
theorem dL_others_90 : decode cL_others 90 = .ok (.aload_n 0, 1) := by decide +kernel
theorem dL_others_91 : decode cL_others 91 = .ok (.invokevirtual 209, 3) := by decide +kernel
theorem dL_others_94 : decode cL_others 94 = .ok (.aload_n 3, 1) := by decide +kernel
theorem dL_others_95 : decode cL_others 95 = .ok (.iconst 1, 1) := by decide +kernel
theorem dL_others_96 : decode cL_others 96 = .ok (.iaload, 1) := by decide +kernel
theorem dL_others_97 : decode cL_others 97 = .ok (.if_icmp .ne 19, 3) := by decide +kernel
theorem dL_others_100 : decode cL_others 100 = .ok (.aload_n 0, 1) := by decide +kernel
theorem dL_others_101 : decode cL_others 101 = .ok (.aload_n 3, 1) := by decide +kernel
theorem dL_others_102 : decode cL_others 102 = .ok (.iconst 0, 1) := by decide +kernel
theorem dL_others_103 : decode cL_others 103 = .ok (.iaload, 1) := by decide +kernel
theorem dL_others_104 : decode cL_others 104 = .ok (.invokestatic 257, 3) := by decide +kernel
theorem dL_others_107 : decode cL_others 107 = .ok (.ldc 18, 2) := by decide +kernel
theorem dL_others_109 : decode cL_others 109 = .ok (.if_icmp .ne 7, 3) := by decide +kernel
theorem dL_others_112 : decode cL_others 112 = .ok (.iconst 1, 1) := by decide +kernel
theorem dL_others_113 : decode cL_others 113 = .ok (.goto 4, 3) := by decide +kernel
theorem dL_others_116 : decode cL_others 116 = .ok (.iconst 0, 1) := by decide +kernel
theorem dL_others_117 : decode cL_others 117 = .ok (.ireturn, 1) := by decide +kernel
theorem dL_others_118 : decode cL_others 118 = .ok (.iload 6, 2) := by decide +kernel
theorem dL_others_120 : decode cL_others 120 = .ok (.bipush 7, 2) := by decide +kernel
theorem dL_others_122 : decode cL_others 122 = .ok (.if_icmp .ge 156, 3) := by decide +kernel
theorem dL_others_125 : decode cL_others 125 = .ok (.aload_n 3, 1) := by decide +kernel
theorem dL_others_126 : decode cL_others 126 = .ok (.iconst 1, 1) := by decide +kernel
theorem dL_others_127 : decode cL_others 127 = .ok (.iaload, 1) := by decide +kernel
theorem dL_others_128 : decode cL_others 128 = .ok (.ifCond .le 150, 3) := by decide +kernel
theorem dL_others_131 : decode cL_others 131 = .ok (.iload 5, 2) := by decide +kernel
theorem dL_others_133 : decode cL_others 133 = .ok (.iconst 2, 1) := by decide +kernel
theorem dL_others_134 : decode cL_others 134 = .ok (.invokestatic 198, 3) := by decide +kernel
theorem dL_others_137 : decode cL_others 137 = .ok (.ifCond .ne 16, 3) := by decide +kernel
theorem dL_others_140 : decode cL_others 140 = .ok (.iload 5, 2) := by decide +kernel
theorem dL_others_142 : decode cL_others 142 = .ok (.iconst 1, 1) := by decide +kernel
theorem dL_others_143 : decode cL_others 143 = .ok (.ishr, 1) := by decide +kernel
theorem dL_others_144 : decode cL_others 144 = .ok (.aload_n 3, 1) := by decide +kernel
theorem dL_others_145 : decode cL_others 145 = .ok (.iconst 1, 1) := by decide +kernel
theorem dL_others_146 : decode cL_others 146 = .ok (.iaload, 1) := by decide +kernel
theorem dL_others_147 : decode cL_others 147 = .ok (.invokestatic 198, 3) := by decide +kernel
theorem dL_others_150 : decode cL_others 150 = .ok (.goto 32, 3) := by decide +kernel
theorem dL_others_153 : decode cL_others 153 = .ok (.aload_n 3, 1) := by decide +kernel
theorem dL_others_154 : decode cL_others 154 = .ok (.iconst 1, 1) := by decide +kernel
theorem dL_others_155 : decode cL_others 155 = .ok (.iaload, 1) := by decide +kernel
theorem dL_others_156 : decode cL_others 156 = .ok (.iconst 1, 1) := by decide +kernel
theorem dL_others_157 : decode cL_others 157 = .ok (.isub, 1) := by decide +kernel
theorem dL_others_158 : decode cL_others 158 = .ok (.iload 5, 2) := by decide +kernel
theorem dL_others_160 : decode cL_others 160 = .ok (.iconst 1, 1) := by decide +kernel
theorem dL_others_161 : decode cL_others 161 = .ok (.ishr, 1) := by decide +kernel
theorem dL_others_162 : decode cL_others 162 = .ok (.aload_n 3, 1) := by decide +kernel
theorem dL_others_163 : decode cL_others 163 = .ok (.iconst 1, 1) := by decide +kernel
theorem dL_others_164 : decode cL_others 164 = .ok (.iaload, 1) := by decide +kernel
theorem dL_others_165 : decode cL_others 165 = .ok (.bipush 6, 2) := by decide +kernel
theorem dL_others_167 : decode cL_others 167 = .ok (.if_icmp .ge 9, 3) := by decide +kernel
theorem dL_others_170 : decode cL_others 170 = .ok (.aload_n 3, 1) := by decide +kernel
theorem dL_others_171 : decode cL_others 171 = .ok (.iconst 1, 1) := by decide +kernel
theorem dL_others_172 : decode cL_others 172 = .ok (.iaload, 1) := by decide +kernel
theorem dL_others_173 : decode cL_others 173 = .ok (.goto 5, 3) := by decide +kernel
theorem dL_others_176 : decode cL_others 176 = .ok (.bipush 6, 2) := by decide +kernel
theorem dL_others_178 : decode cL_others 178 = .ok (.invokestatic 198, 3) := by decide +kernel
theorem dL_others_181 : decode cL_others 181 = .ok (.isub, 1) := by decide +kernel
theorem dL_others_182 : decode cL_others 182 = .ok (.istore 9, 2) := by decide +kernel
theorem dL_others_184 : decode cL_others 184 = .ok (.aload_n 0, 1) := by decide +kernel
theorem dL_others_185 : decode cL_others 185 = .ok (.iload 9, 2) := by decide +kernel
theorem dL_others_187 : decode cL_others 187 = .ok (.invokestatic 188, 3) := by decide +kernel
theorem dL_others_190 : decode cL_others 190 = .ok (.istore 10, 2) := by decide +kernel
theorem dL_others_192 : decode cL_others 192 = .ok (.aload_n 0, 1) := by decide +kernel
theorem dL_others_193 : decode cL_others 193 = .ok (.iload 9, 2) := by decide +kernel
theorem dL_others_195 : decode cL_others 195 = .ok (.invokestatic 186, 3) := by decide +kernel
theorem dL_others_198 : decode cL_others 198 = .ok (.istore 11, 2) := by decide +kernel
theorem dL_others_200 : decode cL_others 200 = .ok (.aload_n 0, 1) := by decide +kernel
theorem dL_others_201 : decode cL_others 201 = .ok (.iload 9, 2) := by decide +kernel
theorem dL_others_203 : decode cL_others 203 = .ok (.invokestatic 231, 3) := by decide +kernel
theorem dL_others_206 : decode cL_others 206 = .ok (.istore 12, 2) := by decide +kernel
theorem dL_others_208 : decode cL_others 208 = .ok (.aload_n 2, 1) := by decide +kernel
theorem dL_others_209 : decode cL_others 209 = .ok (.iload 10, 2) := by decide +kernel
theorem dL_others_211 : decode cL_others 211 = .ok (.dup2, 1) := by decide +kernel
theorem dL_others_212 : decode cL_others 212 = .ok (.iaload, 1) := by decide +kernel
theorem dL_others_213 : decode cL_others 213 = .ok (.iload 12, 2) := by decide +kernel
theorem dL_others_215 : decode cL_others 215 = .ok (.iconst 1, 1) := by decide +kernel
theorem dL_others_216 : decode cL_others 216 = .ok (.if_icmp .ne 13, 3) := by decide +kernel
theorem dL_others_219 : decode cL_others 219 = .ok (.iload 11, 2) := by decide +kernel
theorem dL_others_221 : decode cL_others 221 = .ok (.iconst 2, 1) := by decide +kernel
theorem dL_others_222 : decode cL_others 222 = .ok (.if_icmp .ge 7, 3) := by decide +kernel
theorem dL_others_225 : decode cL_others 225 = .ok (.iconst 1, 1) := by decide +kernel
theorem dL_others_226 : decode cL_others 226 = .ok (.goto 4, 3) := by decide +kernel
theorem dL_others_229 : decode cL_others 229 = .ok (.iconst 0, 1) := by decide +kernel
theorem dL_others_230 : decode cL_others 230 = .ok (.iadd, 1) := by decide +kernel
theorem dL_others_231 : decode cL_others 231 = .ok (.iastore, 1) := by decide +kernel
theorem dL_others_232 : decode cL_others 232 = .ok (.iload 12, 2) := by decide +kernel
theorem dL_others_234 : decode cL_others 234 = .ok (.ifCond .lt 42, 3) := by decide +kernel
theorem dL_others_237 : decode cL_others 237 = .ok (.aload_n 0, 1) := by decide +kernel
theorem dL_others_238 : decode cL_others 238 = .ok (.iload 10, 2) := by decide +kernel
theorem dL_others_240 : decode cL_others 240 = .ok (.invokestatic 196, 3) := by decide +kernel
theorem dL_others_243 : decode cL_others 243 = .ok (.aload_n 2, 1) := by decide +kernel
theorem dL_others_244 : decode cL_others 244 = .ok (.iload 10, 2) := by decide +kernel
theorem dL_others_246 : decode cL_others 246 = .ok (.iaload, 1) := by decide +kernel
theorem dL_others_247 : decode cL_others 247 = .ok (.if_icmp .ne 29, 3) := by decide +kernel
theorem dL_others_250 : decode cL_others 250 = .ok (.aload_n 0, 1) := by decide +kernel
theorem dL_others_251 : decode cL_others 251 = .ok (.iload 9, 2) := by decide +kernel
theorem dL_others_253 : decode cL_others 253 = .ok (.invokestatic 231, 3) := by decide +kernel
theorem dL_others_256 : decode cL_others 256 = .ok (.ifCond .ne 20, 3) := by decide +kernel
theorem dL_others_259 : decode cL_others 259 = .ok (.aload_n 0, 1) := by decide +kernel
theorem dL_others_260 : decode cL_others 260 = .ok (.iload 10, 2) := by decide +kernel
theorem dL_others_262 : decode cL_others 262 = .ok (.invokestatic 196, 3) := by decide +kernel
theorem dL_others_265 : decode cL_others 265 = .ok (.aload_n 2, 1) := by decide +kernel
theorem dL_others_266 : decode cL_others 266 = .ok (.iload 10, 2) := by decide +kernel
theorem dL_others_268 : decode cL_others 268 = .ok (.iaload, 1) := by decide +kernel
theorem dL_others_269 : decode cL_others 269 = .ok (.if_icmp .ne 7, 3) := by decide +kernel
theorem dL_others_272 : decode cL_others 272 = .ok (.iconst 1, 1) := by decide +kernel
theorem dL_others_273 : decode cL_others 273 = .ok (.goto 4, 3) := by decide +kernel
theorem dL_others_276 : decode cL_others 276 = .ok (.iconst 0, 1) := by decide +kernel
theorem dL_others_277 : decode cL_others 277 = .ok (.ireturn, 1) := by decide +kernel
theorem dL_others_278 : decode cL_others 278 = .ok (.aload_n 0, 1) := by decide +kernel
theorem dL_others_279 : decode cL_others 279 = .ok (.iload 8, 2) := by decide +kernel
theorem dL_others_281 : decode cL_others 281 = .ok (.iload 7, 2) := by decide +kernel
theorem dL_others_283 : decode cL_others 283 = .ok (.invokestatic 164, 3) := by decide +kernel
theorem dL_others_286 : decode cL_others 286 = .ok (.istore 9, 2) := by decide +kernel
theorem dL_others_288 : decode cL_others 288 = .ok (.aload_n 0, 1) := by decide +kernel
theorem dL_others_289 : decode cL_others 289 = .ok (.iload 8, 2) := by decide +kernel
theorem dL_others_291 : decode cL_others 291 = .ok (.iload 7, 2) := by decide +kernel
theorem dL_others_293 : decode cL_others 293 = .ok (.invokestatic 162, 3) := by decide +kernel
theorem dL_others_296 : decode cL_others 296 = .ok (.iconst 1, 1) := by decide +kernel
theorem dL_others_297 : decode cL_others 297 = .ok (.if_icmp .ne 19, 3) := by decide +kernel
theorem dL_others_300 : decode cL_others 300 = .ok (.aload_n 1, 1) := by decide +kernel
theorem dL_others_301 : decode cL_others 301 = .ok (.iload 7, 2) := by decide +kernel
theorem dL_others_303 : decode cL_others 303 = .ok (.iaload, 1) := by decide +kernel
theorem dL_others_304 : decode cL_others 304 = .ok (.bipush 8, 2) := by decide +kernel
theorem dL_others_306 : decode cL_others 306 = .ok (.irem, 1) := by decide +kernel
theorem dL_others_307 : decode cL_others 307 = .ok (.iload 8, 2) := by decide +kernel
theorem dL_others_309 : decode cL_others 309 = .ok (.if_icmp .eq 7, 3) := by decide +kernel
theorem dL_others_312 : decode cL_others 312 = .ok (.iconst 1, 1) := by decide +kernel
theorem dL_others_313 : decode cL_others 313 = .ok (.goto 4, 3) := by decide +kernel
theorem dL_others_316 : decode cL_others 316 = .ok (.iconst 0, 1) := by decide +kernel
theorem dL_others_317 : decode cL_others 317 = .ok (.istore 10, 2) := by decide +kernel
theorem dL_others_319 : decode cL_others 319 = .ok (.iload 9, 2) := by decide +kernel
theorem dL_others_321 : decode cL_others 321 = .ok (.ifCond .le 23, 3) := by decide +kernel
theorem dL_others_324 : decode cL_others 324 = .ok (.aload_n 0, 1) := by decide +kernel
theorem dL_others_325 : decode cL_others 325 = .ok (.iload 8, 2) := by decide +kernel
theorem dL_others_327 : decode cL_others 327 = .ok (.iload 7, 2) := by decide +kernel
theorem dL_others_329 : decode cL_others 329 = .ok (.iload 5, 2) := by decide +kernel
theorem dL_others_331 : decode cL_others 331 = .ok (.iconst 3, 1) := by decide +kernel
theorem dL_others_332 : decode cL_others 332 = .ok (.ishr, 1) := by decide +kernel
theorem dL_others_333 : decode cL_others 333 = .ok (.iload 9, 2) := by decide +kernel
theorem dL_others_335 : decode cL_others 335 = .ok (.invokestatic 198, 3) := by decide +kernel
theorem dL_others_338 : decode cL_others 338 = .ok (.invokestatic 166, 3) := by decide +kernel
theorem dL_others_341 : decode cL_others 341 = .ok (.goto 12, 3) := by decide +kernel
theorem dL_others_344 : decode cL_others 344 = .ok (.iload 5, 2) := by decide +kernel
theorem dL_others_346 : decode cL_others 346 = .ok (.iconst 3, 1) := by decide +kernel
theorem dL_others_347 : decode cL_others 347 = .ok (.ishr, 1) := by decide +kernel
theorem dL_others_348 : decode cL_others 348 = .ok (.bipush 60, 2) := by decide +kernel
theorem dL_others_350 : decode cL_others 350 = .ok (.invokestatic 198, 3) := by decide +kernel
theorem dL_others_353 : decode cL_others 353 = .ok (.istore 11, 2) := by decide +kernel
theorem dL_others_355 : decode cL_others 355 = .ok (.iload 6, 2) := by decide +kernel
theorem dL_others_357 : decode cL_others 357 = .ok (.bipush 10, 2) := by decide +kernel
theorem dL_others_359 : decode cL_others 359 = .ok (.if_icmp .ge 305, 3) := by decide +kernel
theorem dL_others_362 : decode cL_others 362 = .ok (.iload 5, 2) := by decide +kernel
theorem dL_others_364 : decode cL_others 364 = .ok (.bipush 10, 2) := by decide +kernel
theorem dL_others_366 : decode cL_others 366 = .ok (.ishr, 1) := by decide +kernel
theorem dL_others_367 : decode cL_others 367 = .ok (.iconst 2, 1) := by decide +kernel
theorem dL_others_368 : decode cL_others 368 = .ok (.invokestatic 198, 3) := by decide +kernel
theorem dL_others_371 : decode cL_others 371 = .ok (.ifCond .ne 7, 3) := by decide +kernel
theorem dL_others_374 : decode cL_others 374 = .ok (.iconst (-1), 1) := by decide +kernel
theorem dL_others_375 : decode cL_others 375 = .ok (.goto 5, 3) := by decide +kernel
theorem dL_others_378 : decode cL_others 378 = .ok (.iload 11, 2) := by decide +kernel
theorem dL_others_380 : decode cL_others 380 = .ok (.istore 12, 2) := by decide +kernel
theorem dL_others_382 : decode cL_others 382 = .ok (.iconst 1, 1) := by decide +kernel
theorem dL_others_383 : decode cL_others 383 = .ok (.iload 5, 2) := by decide +kernel
theorem dL_others_385 : decode cL_others 385 = .ok (.bipush 11, 2) := by decide +kernel
theorem dL_others_387 : decode cL_others 387 = .ok (.ishr, 1) := by decide +kernel
theorem dL_others_388 : decode cL_others 388 = .ok (.iconst 3, 1) := by decide +kernel
theorem dL_others_389 : decode cL_others 389 = .ok (.invokestatic 198, 3) := by decide +kernel
theorem dL_others_392 : decode cL_others 392 = .ok (.iadd, 1) := by decide +kernel
theorem dL_others_393 : decode cL_others 393 = .ok (.istore 13, 2) := by decide +kernel
theorem dL_others_395 : decode cL_others 395 = .ok (.aload_n 0, 1) := by decide +kernel
theorem dL_others_396 : decode cL_others 396 = .ok (.iload 8, 2) := by decide +kernel
theorem dL_others_398 : decode cL_others 398 = .ok (.iload 7, 2) := by decide +kernel
theorem dL_others_400 : decode cL_others 400 = .ok (.iload 12, 2) := by decide +kernel
theorem dL_others_402 : decode cL_others 402 = .ok (.iload 13, 2) := by decide +kernel
theorem dL_others_404 : decode cL_others 404 = .ok (.invokestatic 259, 3) := by decide +kernel
theorem dL_others_407 : decode cL_others 407 = .ok (.istore 14, 2) := by decide +kernel
theorem dL_others_409 : decode cL_others 409 = .ok (.iload 10, 2) := by decide +kernel
theorem dL_others_411 : decode cL_others 411 = .ok (.ifCond .eq 26, 3) := by decide +kernel
theorem dL_others_414 : decode cL_others 414 = .ok (.iload 12, 2) := by decide +kernel
theorem dL_others_416 : decode cL_others 416 = .ok (.ifCond .lt 8, 3) := by decide +kernel
theorem dL_others_419 : decode cL_others 419 = .ok (.iload 9, 2) := by decide +kernel
theorem dL_others_421 : decode cL_others 421 = .ok (.ifCond .le 16, 3) := by decide +kernel
theorem dL_others_424 : decode cL_others 424 = .ok (.aload_n 3, 1) := by decide +kernel
theorem dL_others_425 : decode cL_others 425 = .ok (.iconst 1, 1) := by decide +kernel
theorem dL_others_426 : decode cL_others 426 = .ok (.iaload, 1) := by decide +kernel
theorem dL_others_427 : decode cL_others 427 = .ok (.sipush 150, 3) := by decide +kernel
theorem dL_others_430 : decode cL_others 430 = .ok (.if_icmp .ge 7, 3) := by decide +kernel
theorem dL_others_433 : decode cL_others 433 = .ok (.iconst 1, 1) := by decide +kernel
theorem dL_others_434 : decode cL_others 434 = .ok (.goto 4, 3) := by decide +kernel
theorem dL_others_437 : decode cL_others 437 = .ok (.iconst 0, 1) := by decide +kernel
theorem dL_others_438 : decode cL_others 438 = .ok (.istore 15, 2) := by decide +kernel
theorem dL_others_440 : decode cL_others 440 = .ok (.iload 14, 2) := by decide +kernel
theorem dL_others_442 : decode cL_others 442 = .ok (.iload 15, 2) := by decide +kernel
theorem dL_others_444 : decode cL_others 444 = .ok (.ifCond .eq 9, 3) := by decide +kernel
theorem dL_others_447 : decode cL_others 447 = .ok (.aload_n 3, 1) := by decide +kernel
theorem dL_others_448 : decode cL_others 448 = .ok (.iconst 1, 1) := by decide +kernel
theorem dL_others_449 : decode cL_others 449 = .ok (.iaload, 1) := by decide +kernel
theorem dL_others_450 : decode cL_others 450 = .ok (.goto 5, 3) := by decide +kernel
theorem dL_others_453 : decode cL_others 453 = .ok (.ldc 38, 2) := by decide +kernel
theorem dL_others_455 : decode cL_others 455 = .ok (.if_icmp .ne 53, 3) := by decide +kernel
theorem dL_others_458 : decode cL_others 458 = .ok (.aload_n 0, 1) := by decide +kernel
theorem dL_others_459 : decode cL_others 459 = .ok (.iload 8, 2) := by decide +kernel
theorem dL_others_461 : decode cL_others 461 = .ok (.iload 7, 2) := by decide +kernel
theorem dL_others_463 : decode cL_others 463 = .ok (.bipush 60, 2) := by decide +kernel
theorem dL_others_465 : decode cL_others 465 = .ok (.iconst 1, 1) := by decide +kernel
theorem dL_others_466 : decode cL_others 466 = .ok (.invokestatic 259, 3) := by decide +kernel
theorem dL_others_469 : decode cL_others 469 = .ok (.ldc 21, 2) := by decide +kernel
theorem dL_others_471 : decode cL_others 471 = .ok (.if_icmp .ne 37, 3) := by decide +kernel
theorem dL_others_474 : decode cL_others 474 = .ok (.aload_n 0, 1) := by decide +kernel
theorem dL_others_475 : decode cL_others 475 = .ok (.iload 8, 2) := by decide +kernel
theorem dL_others_477 : decode cL_others 477 = .ok (.iload 7, 2) := by decide +kernel
theorem dL_others_479 : decode cL_others 479 = .ok (.iconst (-1), 1) := by decide +kernel
theorem dL_others_480 : decode cL_others 480 = .ok (.iconst 4, 1) := by decide +kernel
theorem dL_others_481 : decode cL_others 481 = .ok (.invokestatic 259, 3) := by decide +kernel
theorem dL_others_484 : decode cL_others 484 = .ok (.ldc 21, 2) := by decide +kernel
theorem dL_others_486 : decode cL_others 486 = .ok (.if_icmp .ne 22, 3) := by decide +kernel
theorem dL_others_489 : decode cL_others 489 = .ok (.aload_n 0, 1) := by decide +kernel
theorem dL_others_490 : decode cL_others 490 = .ok (.iconst 5, 1) := by decide +kernel
theorem dL_others_491 : decode cL_others 491 = .ok (.iload 7, 2) := by decide +kernel
theorem dL_others_493 : decode cL_others 493 = .ok (.bipush 60, 2) := by decide +kernel
theorem dL_others_495 : decode cL_others 495 = .ok (.iconst 0, 1) := by decide +kernel
theorem dL_others_496 : decode cL_others 496 = .ok (.invokestatic 259, 3) := by decide +kernel
theorem dL_others_499 : decode cL_others 499 = .ok (.ldc 18, 2) := by decide +kernel
theorem dL_others_501 : decode cL_others 501 = .ok (.if_icmp .ne 7, 3) := by decide +kernel
theorem dL_others_504 : decode cL_others 504 = .ok (.iconst 1, 1) := by decide +kernel
theorem dL_others_505 : decode cL_others 505 = .ok (.goto 4, 3) := by decide +kernel
theorem dL_others_508 : decode cL_others 508 = .ok (.iconst 0, 1) := by decide +kernel
theorem dL_others_509 : decode cL_others 509 = .ok (.istore 16, 2) := by decide +kernel
theorem dL_others_511 : decode cL_others 511 = .ok (.aload_n 3, 1) := by decide +kernel
theorem dL_others_512 : decode cL_others 512 = .ok (.iconst 1, 1) := by decide +kernel
theorem dL_others_513 : decode cL_others 513 = .ok (.dup2, 1) := by decide +kernel
theorem dL_others_514 : decode cL_others 514 = .ok (.iaload, 1) := by decide +kernel
theorem dL_others_515 : decode cL_others 515 = .ok (.iload 15, 2) := by decide +kernel
theorem dL_others_517 : decode cL_others 517 = .ok (.ifCond .eq 7, 3) := by decide +kernel
theorem dL_others_520 : decode cL_others 520 = .ok (.iconst 1, 1) := by decide +kernel
theorem dL_others_521 : decode cL_others 521 = .ok (.goto 4, 3) := by decide +kernel
theorem dL_others_524 : decode cL_others 524 = .ok (.iconst 0, 1) := by decide +kernel
theorem dL_others_525 : decode cL_others 525 = .ok (.iadd, 1) := by decide +kernel
theorem dL_others_526 : decode cL_others 526 = .ok (.iastore, 1) := by decide +kernel
theorem dL_others_527 : decode cL_others 527 = .ok (.aload_n 2, 1) := by decide +kernel
theorem dL_others_528 : decode cL_others 528 = .ok (.iload 8, 2) := by decide +kernel
theorem dL_others_530 : decode cL_others 530 = .ok (.dup2, 1) := by decide +kernel
theorem dL_others_531 : decode cL_others 531 = .ok (.iaload, 1) := by decide +kernel
theorem dL_others_532 : decode cL_others 532 = .ok (.iload 15, 2) := by decide +kernel
theorem dL_others_534 : decode cL_others 534 = .ok (.ifCond .eq 7, 3) := by decide +kernel
theorem dL_others_537 : decode cL_others 537 = .ok (.iconst 1, 1) := by decide +kernel
theorem dL_others_538 : decode cL_others 538 = .ok (.goto 4, 3) := by decide +kernel
theorem dL_others_541 : decode cL_others 541 = .ok (.iconst 0, 1) := by decide +kernel
theorem dL_others_542 : decode cL_others 542 = .ok (.iadd, 1) := by decide +kernel
theorem dL_others_543 : decode cL_others 543 = .ok (.iastore, 1) := by decide +kernel
theorem dL_others_544 : decode cL_others 544 = .ok (.iload 16, 2) := by decide +kernel
theorem dL_others_546 : decode cL_others 546 = .ok (.ifCond .eq 116, 3) := by decide +kernel
theorem dL_others_549 : decode cL_others 549 = .ok (.aload_n 0, 1) := by decide +kernel
theorem dL_others_550 : decode cL_others 550 = .ok (.iload 8, 2) := by decide +kernel
theorem dL_others_552 : decode cL_others 552 = .ok (.invokestatic 196, 3) := by decide +kernel
theorem dL_others_555 : decode cL_others 555 = .ok (.aload_n 2, 1) := by decide +kernel
theorem dL_others_556 : decode cL_others 556 = .ok (.iload 8, 2) := by decide +kernel
theorem dL_others_558 : decode cL_others 558 = .ok (.iaload, 1) := by decide +kernel
theorem dL_others_559 : decode cL_others 559 = .ok (.if_icmp .ne 103, 3) := by decide +kernel
theorem dL_others_562 : decode cL_others 562 = .ok (.iload 15, 2) := by decide +kernel
theorem dL_others_564 : decode cL_others 564 = .ok (.ifCond .eq 69, 3) := by decide +kernel
theorem dL_others_567 : decode cL_others 567 = .ok (.aload_n 0, 1) := by decide +kernel
theorem dL_others_568 : decode cL_others 568 = .ok (.iload 14, 2) := by decide +kernel
theorem dL_others_570 : decode cL_others 570 = .ok (.invokestatic 186, 3) := by decide +kernel
theorem dL_others_573 : decode cL_others 573 = .ok (.iconst 1, 1) := by decide +kernel
theorem dL_others_574 : decode cL_others 574 = .ok (.if_icmp .ne 88, 3) := by decide +kernel
theorem dL_others_577 : decode cL_others 577 = .ok (.aload_n 0, 1) := by decide +kernel
theorem dL_others_578 : decode cL_others 578 = .ok (.iload 14, 2) := by decide +kernel
theorem dL_others_580 : decode cL_others 580 = .ok (.invokestatic 188, 3) := by decide +kernel
theorem dL_others_583 : decode cL_others 583 = .ok (.aload_n 1, 1) := by decide +kernel
theorem dL_others_584 : decode cL_others 584 = .ok (.iload 7, 2) := by decide +kernel
theorem dL_others_586 : decode cL_others 586 = .ok (.iaload, 1) := by decide +kernel
theorem dL_others_587 : decode cL_others 587 = .ok (.bipush 8, 2) := by decide +kernel
theorem dL_others_589 : decode cL_others 589 = .ok (.irem, 1) := by decide +kernel
theorem dL_others_590 : decode cL_others 590 = .ok (.if_icmp .ne 72, 3) := by decide +kernel
theorem dL_others_593 : decode cL_others 593 = .ok (.aload_n 0, 1) := by decide +kernel
theorem dL_others_594 : decode cL_others 594 = .ok (.iload 14, 2) := by decide +kernel
theorem dL_others_596 : decode cL_others 596 = .ok (.invokestatic 233, 3) := by decide +kernel
theorem dL_others_599 : decode cL_others 599 = .ok (.bipush 20, 2) := by decide +kernel
theorem dL_others_601 : decode cL_others 601 = .ok (.if_icmp .le 61, 3) := by decide +kernel
theorem dL_others_604 : decode cL_others 604 = .ok (.aload_n 0, 1) := by decide +kernel
theorem dL_others_605 : decode cL_others 605 = .ok (.iload 14, 2) := by decide +kernel
theorem dL_others_607 : decode cL_others 607 = .ok (.iconst 0, 1) := by decide +kernel
theorem dL_others_608 : decode cL_others 608 = .ok (.invokestatic 235, 3) := by decide +kernel
theorem dL_others_611 : decode cL_others 611 = .ok (.bipush 114, 2) := by decide +kernel
theorem dL_others_613 : decode cL_others 613 = .ok (.if_icmp .ne 49, 3) := by decide +kernel
theorem dL_others_616 : decode cL_others 616 = .ok (.aload_n 0, 1) := by decide +kernel
theorem dL_others_617 : decode cL_others 617 = .ok (.iload 14, 2) := by decide +kernel
theorem dL_others_619 : decode cL_others 619 = .ok (.aload_n 0, 1) := by decide +kernel
theorem dL_others_620 : decode cL_others 620 = .ok (.iload 14, 2) := by decide +kernel
theorem dL_others_622 : decode cL_others 622 = .ok (.invokestatic 233, 3) := by decide +kernel
theorem dL_others_625 : decode cL_others 625 = .ok (.invokestatic 235, 3) := by decide +kernel
theorem dL_others_628 : decode cL_others 628 = .ok (.ldc 18, 2) := by decide +kernel
theorem dL_others_630 : decode cL_others 630 = .ok (.if_icmp .ne 32, 3) := by decide +kernel
theorem dL_others_633 : decode cL_others 633 = .ok (.iload 15, 2) := by decide +kernel
theorem dL_others_635 : decode cL_others 635 = .ok (.ifCond .eq 23, 3) := by decide +kernel
theorem dL_others_638 : decode cL_others 638 = .ok (.iload 12, 2) := by decide +kernel
theorem dL_others_640 : decode cL_others 640 = .ok (.ifCond .lt 18, 3) := by decide +kernel
theorem dL_others_643 : decode cL_others 643 = .ok (.aload_n 0, 1) := by decide +kernel
theorem dL_others_644 : decode cL_others 644 = .ok (.iload 8, 2) := by decide +kernel
theorem dL_others_646 : decode cL_others 646 = .ok (.iload 7, 2) := by decide +kernel
theorem dL_others_648 : decode cL_others 648 = .ok (.iload 11, 2) := by decide +kernel
theorem dL_others_650 : decode cL_others 650 = .ok (.invokestatic 171, 3) := by decide +kernel
theorem dL_others_653 : decode cL_others 653 = .ok (.iload 13, 2) := by decide +kernel
theorem dL_others_655 : decode cL_others 655 = .ok (.if_icmp .ne 7, 3) := by decide +kernel
theorem dL_others_658 : decode cL_others 658 = .ok (.iconst 1, 1) := by decide +kernel
theorem dL_others_659 : decode cL_others 659 = .ok (.goto 4, 3) := by decide +kernel
theorem dL_others_662 : decode cL_others 662 = .ok (.iconst 0, 1) := by decide +kernel
theorem dL_others_663 : decode cL_others 663 = .ok (.ireturn, 1) := by decide +kernel
theorem dL_others_664 : decode cL_others 664 = .ok (.iload 6, 2) := by decide +kernel
theorem dL_others_666 : decode cL_others 666 = .ok (.bipush 10, 2) := by decide +kernel
theorem dL_others_668 : decode cL_others 668 = .ok (.if_icmp .ne 211, 3) := by decide +kernel
theorem dL_others_671 : decode cL_others 671 = .ok (.iload 5, 2) := by decide +kernel
theorem dL_others_673 : decode cL_others 673 = .ok (.bipush 10, 2) := by decide +kernel
theorem dL_others_675 : decode cL_others 675 = .ok (.ishr, 1) := by decide +kernel
theorem dL_others_676 : decode cL_others 676 = .ok (.iconst 5, 1) := by decide +kernel
theorem dL_others_677 : decode cL_others 677 = .ok (.invokestatic 198, 3) := by decide +kernel
theorem dL_others_680 : decode cL_others 680 = .ok (.istore 12, 2) := by decide +kernel
theorem dL_others_682 : decode cL_others 682 = .ok (.aload_n 0, 1) := by decide +kernel
theorem dL_others_683 : decode cL_others 683 = .ok (.iload 8, 2) := by decide +kernel
theorem dL_others_685 : decode cL_others 685 = .ok (.iload 7, 2) := by decide +kernel
theorem dL_others_687 : decode cL_others 687 = .ok (.iload 12, 2) := by decide +kernel
theorem dL_others_689 : decode cL_others 689 = .ok (.invokestatic 261, 3) := by decide +kernel
theorem dL_others_692 : decode cL_others 692 = .ok (.istore 13, 2) := by decide +kernel
theorem dL_others_694 : decode cL_others 694 = .ok (.iload 12, 2) := by decide +kernel
theorem dL_others_696 : decode cL_others 696 = .ok (.iload 8, 2) := by decide +kernel
theorem dL_others_698 : decode cL_others 698 = .ok (.if_icmp .eq 15, 3) := by decide +kernel
theorem dL_others_701 : decode cL_others 701 = .ok (.iload 12, 2) := by decide +kernel
theorem dL_others_703 : decode cL_others 703 = .ok (.aload_n 1, 1) := by decide +kernel
theorem dL_others_704 : decode cL_others 704 = .ok (.iload 7, 2) := by decide +kernel
theorem dL_others_706 : decode cL_others 706 = .ok (.iaload, 1) := by decide +kernel
theorem dL_others_707 : decode cL_others 707 = .ok (.bipush 8, 2) := by decide +kernel
theorem dL_others_709 : decode cL_others 709 = .ok (.irem, 1) := by decide +kernel
theorem dL_others_710 : decode cL_others 710 = .ok (.if_icmp .ne 16, 3) := by decide +kernel
theorem dL_others_713 : decode cL_others 713 = .ok (.iload 13, 2) := by decide +kernel
theorem dL_others_715 : decode cL_others 715 = .ok (.ldc 21, 2) := by decide +kernel
theorem dL_others_717 : decode cL_others 717 = .ok (.if_icmp .ne 7, 3) := by decide +kernel
theorem dL_others_720 : decode cL_others 720 = .ok (.iconst 1, 1) := by decide +kernel
theorem dL_others_721 : decode cL_others 721 = .ok (.goto 4, 3) := by decide +kernel
theorem dL_others_724 : decode cL_others 724 = .ok (.iconst 0, 1) := by decide +kernel
theorem dL_others_725 : decode cL_others 725 = .ok (.ireturn, 1) := by decide +kernel
theorem dL_others_726 : decode cL_others 726 = .ok (.iload 10, 2) := by decide +kernel
theorem dL_others_728 : decode cL_others 728 = .ok (.ifCond .eq 16, 3) := by decide +kernel
theorem dL_others_731 : decode cL_others 731 = .ok (.aload_n 3, 1) := by decide +kernel
theorem dL_others_732 : decode cL_others 732 = .ok (.iconst 1, 1) := by decide +kernel
theorem dL_others_733 : decode cL_others 733 = .ok (.iaload, 1) := by decide +kernel
theorem dL_others_734 : decode cL_others 734 = .ok (.sipush 149, 3) := by decide +kernel
theorem dL_others_737 : decode cL_others 737 = .ok (.if_icmp .ge 7, 3) := by decide +kernel
theorem dL_others_740 : decode cL_others 740 = .ok (.iconst 1, 1) := by decide +kernel
theorem dL_others_741 : decode cL_others 741 = .ok (.goto 4, 3) := by decide +kernel
theorem dL_others_744 : decode cL_others 744 = .ok (.iconst 0, 1) := by decide +kernel
theorem dL_others_745 : decode cL_others 745 = .ok (.istore 14, 2) := by decide +kernel
theorem dL_others_747 : decode cL_others 747 = .ok (.iload 13, 2) := by decide +kernel
theorem dL_others_749 : decode cL_others 749 = .ok (.iload 14, 2) := by decide +kernel
theorem dL_others_751 : decode cL_others 751 = .ok (.ifCond .eq 9, 3) := by decide +kernel
theorem dL_others_754 : decode cL_others 754 = .ok (.aload_n 3, 1) := by decide +kernel
theorem dL_others_755 : decode cL_others 755 = .ok (.iconst 1, 1) := by decide +kernel
theorem dL_others_756 : decode cL_others 756 = .ok (.iaload, 1) := by decide +kernel
theorem dL_others_757 : decode cL_others 757 = .ok (.goto 5, 3) := by decide +kernel
theorem dL_others_760 : decode cL_others 760 = .ok (.ldc 38, 2) := by decide +kernel
theorem dL_others_762 : decode cL_others 762 = .ok (.if_icmp .ne 21, 3) := by decide +kernel
theorem dL_others_765 : decode cL_others 765 = .ok (.aload_n 0, 1) := by decide +kernel
theorem dL_others_766 : decode cL_others 766 = .ok (.iload 8, 2) := by decide +kernel
theorem dL_others_768 : decode cL_others 768 = .ok (.iload 7, 2) := by decide +kernel
theorem dL_others_770 : decode cL_others 770 = .ok (.iconst 5, 1) := by decide +kernel
theorem dL_others_771 : decode cL_others 771 = .ok (.invokestatic 261, 3) := by decide +kernel
theorem dL_others_774 : decode cL_others 774 = .ok (.ldc 18, 2) := by decide +kernel
theorem dL_others_776 : decode cL_others 776 = .ok (.if_icmp .ne 7, 3) := by decide +kernel
theorem dL_others_779 : decode cL_others 779 = .ok (.iconst 1, 1) := by decide +kernel
theorem dL_others_780 : decode cL_others 780 = .ok (.goto 4, 3) := by decide +kernel
theorem dL_others_783 : decode cL_others 783 = .ok (.iconst 0, 1) := by decide +kernel
theorem dL_others_784 : decode cL_others 784 = .ok (.istore 15, 2) := by decide +kernel
theorem dL_others_786 : decode cL_others 786 = .ok (.aload_n 3, 1) := by decide +kernel
theorem dL_others_787 : decode cL_others 787 = .ok (.iconst 1, 1) := by decide +kernel
theorem dL_others_788 : decode cL_others 788 = .ok (.dup2, 1) := by decide +kernel
theorem dL_others_789 : decode cL_others 789 = .ok (.iaload, 1) := by decide +kernel
theorem dL_others_790 : decode cL_others 790 = .ok (.iload 14, 2) := by decide +kernel
theorem dL_others_792 : decode cL_others 792 = .ok (.ifCond .eq 7, 3) := by decide +kernel
theorem dL_others_795 : decode cL_others 795 = .ok (.iconst 2, 1) := by decide +kernel
theorem dL_others_796 : decode cL_others 796 = .ok (.goto 4, 3) := by decide +kernel
theorem dL_others_799 : decode cL_others 799 = .ok (.iconst 0, 1) := by decide +kernel
theorem dL_others_800 : decode cL_others 800 = .ok (.iadd, 1) := by decide +kernel
theorem dL_others_801 : decode cL_others 801 = .ok (.iastore, 1) := by decide +kernel
theorem dL_others_802 : decode cL_others 802 = .ok (.aload_n 2, 1) := by decide +kernel
theorem dL_others_803 : decode cL_others 803 = .ok (.iload 8, 2) := by decide +kernel
theorem dL_others_805 : decode cL_others 805 = .ok (.dup2, 1) := by decide +kernel
theorem dL_others_806 : decode cL_others 806 = .ok (.iaload, 1) := by decide +kernel
theorem dL_others_807 : decode cL_others 807 = .ok (.iload 14, 2) := by decide +kernel
theorem dL_others_809 : decode cL_others 809 = .ok (.ifCond .eq 7, 3) := by decide +kernel
theorem dL_others_812 : decode cL_others 812 = .ok (.iconst 1, 1) := by decide +kernel
theorem dL_others_813 : decode cL_others 813 = .ok (.goto 4, 3) := by decide +kernel
theorem dL_others_816 : decode cL_others 816 = .ok (.iconst 0, 1) := by decide +kernel
theorem dL_others_817 : decode cL_others 817 = .ok (.iadd, 1) := by decide +kernel
theorem dL_others_818 : decode cL_others 818 = .ok (.iastore, 1) := by decide +kernel
theorem dL_others_819 : decode cL_others 819 = .ok (.iload 15, 2) := by decide +kernel
theorem dL_others_821 : decode cL_others 821 = .ok (.ifCond .eq 56, 3) := by decide +kernel
theorem dL_others_824 : decode cL_others 824 = .ok (.iload 14, 2) := by decide +kernel
theorem dL_others_826 : decode cL_others 826 = .ok (.ifCond .eq 37, 3) := by decide +kernel
theorem dL_others_829 : decode cL_others 829 = .ok (.aload_n 0, 1) := by decide +kernel
theorem dL_others_830 : decode cL_others 830 = .ok (.iload 13, 2) := by decide +kernel
theorem dL_others_832 : decode cL_others 832 = .ok (.iconst 1, 1) := by decide +kernel
theorem dL_others_833 : decode cL_others 833 = .ok (.iadd, 1) := by decide +kernel
theorem dL_others_834 : decode cL_others 834 = .ok (.invokestatic 186, 3) := by decide +kernel
theorem dL_others_837 : decode cL_others 837 = .ok (.ifCond .ne 40, 3) := by decide +kernel
theorem dL_others_840 : decode cL_others 840 = .ok (.aload_n 0, 1) := by decide +kernel
theorem dL_others_841 : decode cL_others 841 = .ok (.iload 13, 2) := by decide +kernel
theorem dL_others_843 : decode cL_others 843 = .ok (.iconst 1, 1) := by decide +kernel
theorem dL_others_844 : decode cL_others 844 = .ok (.iadd, 1) := by decide +kernel
theorem dL_others_845 : decode cL_others 845 = .ok (.invokestatic 188, 3) := by decide +kernel
theorem dL_others_848 : decode cL_others 848 = .ok (.iload 12, 2) := by decide +kernel
theorem dL_others_850 : decode cL_others 850 = .ok (.if_icmp .ne 27, 3) := by decide +kernel
theorem dL_others_853 : decode cL_others 853 = .ok (.aload_n 0, 1) := by decide +kernel
theorem dL_others_854 : decode cL_others 854 = .ok (.iload 13, 2) := by decide +kernel
theorem dL_others_856 : decode cL_others 856 = .ok (.invokestatic 186, 3) := by decide +kernel
theorem dL_others_859 : decode cL_others 859 = .ok (.iconst 1, 1) := by decide +kernel
theorem dL_others_860 : decode cL_others 860 = .ok (.if_icmp .ne 17, 3) := by decide +kernel
theorem dL_others_863 : decode cL_others 863 = .ok (.aload_n 0, 1) := by decide +kernel
theorem dL_others_864 : decode cL_others 864 = .ok (.invokevirtual 209, 3) := by decide +kernel
theorem dL_others_867 : decode cL_others 867 = .ok (.aload_n 3, 1) := by decide +kernel
theorem dL_others_868 : decode cL_others 868 = .ok (.iconst 1, 1) := by decide +kernel
theorem dL_others_869 : decode cL_others 869 = .ok (.iaload, 1) := by decide +kernel
theorem dL_others_870 : decode cL_others 870 = .ok (.if_icmp .ne 7, 3) := by decide +kernel
theorem dL_others_873 : decode cL_others 873 = .ok (.iconst 1, 1) := by decide +kernel
theorem dL_others_874 : decode cL_others 874 = .ok (.goto 4, 3) := by decide +kernel
theorem dL_others_877 : decode cL_others 877 = .ok (.iconst 0, 1) := by decide +kernel
theorem dL_others_878 : decode cL_others 878 = .ok (.ireturn, 1) := by decide +kernel
theorem dL_others_879 : decode cL_others 879 = .ok (.aload_n 0, 1) := by decide +kernel
theorem dL_others_880 : decode cL_others 880 = .ok (.iload 7, 2) := by decide +kernel
theorem dL_others_882 : decode cL_others 882 = .ok (.invokestatic 181, 3) := by decide +kernel
theorem dL_others_885 : decode cL_others 885 = .ok (.istore 12, 2) := by decide +kernel
theorem dL_others_887 : decode cL_others 887 = .ok (.iload 12, 2) := by decide +kernel
theorem dL_others_889 : decode cL_others 889 = .ok (.ifCond .le 119, 3) := by decide +kernel
theorem dL_others_892 : decode cL_others 892 = .ok (.aload_n 0, 1) := by decide +kernel
theorem dL_others_893 : decode cL_others 893 = .ok (.iload 7, 2) := by decide +kernel
theorem dL_others_895 : decode cL_others 895 = .ok (.iload 5, 2) := by decide +kernel
theorem dL_others_897 : decode cL_others 897 = .ok (.bipush 10, 2) := by decide +kernel
theorem dL_others_899 : decode cL_others 899 = .ok (.ishr, 1) := by decide +kernel
theorem dL_others_900 : decode cL_others 900 = .ok (.iload 12, 2) := by decide +kernel
theorem dL_others_902 : decode cL_others 902 = .ok (.invokestatic 198, 3) := by decide +kernel
theorem dL_others_905 : decode cL_others 905 = .ok (.invokestatic 184, 3) := by decide +kernel
theorem dL_others_908 : decode cL_others 908 = .ok (.istore 13, 2) := by decide +kernel
theorem dL_others_910 : decode cL_others 910 = .ok (.iload 5, 2) := by decide +kernel
theorem dL_others_912 : decode cL_others 912 = .ok (.bipush 13, 2) := by decide +kernel
theorem dL_others_914 : decode cL_others 914 = .ok (.ishr, 1) := by decide +kernel
theorem dL_others_915 : decode cL_others 915 = .ok (.iconst 2, 1) := by decide +kernel
theorem dL_others_916 : decode cL_others 916 = .ok (.invokestatic 198, 3) := by decide +kernel
theorem dL_others_919 : decode cL_others 919 = .ok (.ifCond .ne 44, 3) := by decide +kernel
theorem dL_others_922 : decode cL_others 922 = .ok (.aload_n 0, 1) := by decide +kernel
theorem dL_others_923 : decode cL_others 923 = .ok (.iload 13, 2) := by decide +kernel
theorem dL_others_925 : decode cL_others 925 = .ok (.invokestatic 263, 3) := by decide +kernel
theorem dL_others_928 : decode cL_others 928 = .ok (.iload 12, 2) := by decide +kernel
theorem dL_others_930 : decode cL_others 930 = .ok (.iconst 1, 1) := by decide +kernel
theorem dL_others_931 : decode cL_others 931 = .ok (.isub, 1) := by decide +kernel
theorem dL_others_932 : decode cL_others 932 = .ok (.if_icmp .ne 29, 3) := by decide +kernel
theorem dL_others_935 : decode cL_others 935 = .ok (.aload_n 0, 1) := by decide +kernel
theorem dL_others_936 : decode cL_others 936 = .ok (.iload 13, 2) := by decide +kernel
theorem dL_others_938 : decode cL_others 938 = .ok (.invokestatic 263, 3) := by decide +kernel
theorem dL_others_941 : decode cL_others 941 = .ok (.ldc 38, 2) := by decide +kernel
theorem dL_others_943 : decode cL_others 943 = .ok (.if_icmp .ne 18, 3) := by decide +kernel
theorem dL_others_946 : decode cL_others 946 = .ok (.aload_n 0, 1) := by decide +kernel
theorem dL_others_947 : decode cL_others 947 = .ok (.iload 13, 2) := by decide +kernel
theorem dL_others_949 : decode cL_others 949 = .ok (.invokestatic 265, 3) := by decide +kernel
theorem dL_others_952 : decode cL_others 952 = .ok (.ldc 38, 2) := by decide +kernel
theorem dL_others_954 : decode cL_others 954 = .ok (.if_icmp .ne 7, 3) := by decide +kernel
theorem dL_others_957 : decode cL_others 957 = .ok (.iconst 1, 1) := by decide +kernel
theorem dL_others_958 : decode cL_others 958 = .ok (.goto 4, 3) := by decide +kernel
theorem dL_others_961 : decode cL_others 961 = .ok (.iconst 0, 1) := by decide +kernel
theorem dL_others_962 : decode cL_others 962 = .ok (.ireturn, 1) := by decide +kernel
theorem dL_others_963 : decode cL_others 963 = .ok (.aload_n 0, 1) := by decide +kernel
theorem dL_others_964 : decode cL_others 964 = .ok (.aload_n 1, 1) := by decide +kernel
theorem dL_others_965 : decode cL_others 965 = .ok (.aload_n 2, 1) := by decide +kernel
theorem dL_others_966 : decode cL_others 966 = .ok (.iload 7, 2) := by decide +kernel
theorem dL_others_968 : decode cL_others 968 = .ok (.aload_n 0, 1) := by decide +kernel
theorem dL_others_969 : decode cL_others 969 = .ok (.iload 13, 2) := by decide +kernel
theorem dL_others_971 : decode cL_others 971 = .ok (.invokestatic 265, 3) := by decide +kernel
theorem dL_others_974 : decode cL_others 974 = .ok (.invokestatic 240, 3) := by decide +kernel
theorem dL_others_977 : decode cL_others 977 = .ok (.ifCond .eq 29, 3) := by decide +kernel
theorem dL_others_980 : decode cL_others 980 = .ok (.aload_n 0, 1) := by decide +kernel
theorem dL_others_981 : decode cL_others 981 = .ok (.iload 13, 2) := by decide +kernel
theorem dL_others_983 : decode cL_others 983 = .ok (.invokestatic 265, 3) := by decide +kernel
theorem dL_others_986 : decode cL_others 986 = .ok (.ldc 38, 2) := by decide +kernel
theorem dL_others_988 : decode cL_others 988 = .ok (.if_icmp .ne 18, 3) := by decide +kernel
theorem dL_others_991 : decode cL_others 991 = .ok (.aload_n 0, 1) := by decide +kernel
theorem dL_others_992 : decode cL_others 992 = .ok (.iload 7, 2) := by decide +kernel
theorem dL_others_994 : decode cL_others 994 = .ok (.invokestatic 181, 3) := by decide +kernel
theorem dL_others_997 : decode cL_others 997 = .ok (.iload 12, 2) := by decide +kernel
theorem dL_others_999 : decode cL_others 999 = .ok (.if_icmp .ge 7, 3) := by decide +kernel
theorem dL_others_1002 : decode cL_others 1002 = .ok (.iconst 1, 1) := by decide +kernel
theorem dL_others_1003 : decode cL_others 1003 = .ok (.goto 4, 3) := by decide +kernel
theorem dL_others_1006 : decode cL_others 1006 = .ok (.iconst 0, 1) := by decide +kernel
theorem dL_others_1007 : decode cL_others 1007 = .ok (.ireturn, 1) := by decide +kernel
theorem dL_others_1008 : decode cL_others 1008 = .ok (.aload_n 0, 1) := by decide +kernel
theorem dL_others_1009 : decode cL_others 1009 = .ok (.iload 8, 2) := by decide +kernel
theorem dL_others_1011 : decode cL_others 1011 = .ok (.iload 7, 2) := by decide +kernel
theorem dL_others_1013 : decode cL_others 1013 = .ok (.iload 11, 2) := by decide +kernel
theorem dL_others_1015 : decode cL_others 1015 = .ok (.iload 5, 2) := by decide +kernel
theorem dL_others_1017 : decode cL_others 1017 = .ok (.bipush 9, 2) := by decide +kernel
theorem dL_others_1019 : decode cL_others 1019 = .ok (.ishr, 1) := by decide +kernel
theorem dL_others_1020 : decode cL_others 1020 = .ok (.sipush 1440, 3) := by decide +kernel
theorem dL_others_1023 : decode cL_others 1023 = .ok (.invokestatic 198, 3) := by decide +kernel
theorem dL_others_1026 : decode cL_others 1026 = .ok (.invokestatic 267, 3) := by decide +kernel
theorem dL_others_1029 : decode cL_others 1029 = .ok (.istore 13, 2) := by decide +kernel
theorem dL_others_1031 : decode cL_others 1031 = .ok (.iload 10, 2) := by decide +kernel
theorem dL_others_1033 : decode cL_others 1033 = .ok (.ifCond .eq 21, 3) := by decide +kernel
theorem dL_others_1036 : decode cL_others 1036 = .ok (.iload 9, 2) := by decide +kernel
theorem dL_others_1038 : decode cL_others 1038 = .ok (.ifCond .le 16, 3) := by decide +kernel
theorem dL_others_1041 : decode cL_others 1041 = .ok (.aload_n 3, 1) := by decide +kernel
theorem dL_others_1042 : decode cL_others 1042 = .ok (.iconst 1, 1) := by decide +kernel
theorem dL_others_1043 : decode cL_others 1043 = .ok (.iaload, 1) := by decide +kernel
theorem dL_others_1044 : decode cL_others 1044 = .ok (.sipush 150, 3) := by decide +kernel
theorem dL_others_1047 : decode cL_others 1047 = .ok (.if_icmp .ge 7, 3) := by decide +kernel
theorem dL_others_1050 : decode cL_others 1050 = .ok (.iconst 1, 1) := by decide +kernel
theorem dL_others_1051 : decode cL_others 1051 = .ok (.goto 4, 3) := by decide +kernel
theorem dL_others_1054 : decode cL_others 1054 = .ok (.iconst 0, 1) := by decide +kernel
theorem dL_others_1055 : decode cL_others 1055 = .ok (.istore 14, 2) := by decide +kernel
theorem dL_others_1057 : decode cL_others 1057 = .ok (.iload 13, 2) := by decide +kernel
theorem dL_others_1059 : decode cL_others 1059 = .ok (.iload 14, 2) := by decide +kernel
theorem dL_others_1061 : decode cL_others 1061 = .ok (.ifCond .eq 9, 3) := by decide +kernel
theorem dL_others_1064 : decode cL_others 1064 = .ok (.aload_n 3, 1) := by decide +kernel
theorem dL_others_1065 : decode cL_others 1065 = .ok (.iconst 1, 1) := by decide +kernel
theorem dL_others_1066 : decode cL_others 1066 = .ok (.iaload, 1) := by decide +kernel
theorem dL_others_1067 : decode cL_others 1067 = .ok (.goto 5, 3) := by decide +kernel
theorem dL_others_1070 : decode cL_others 1070 = .ok (.ldc 38, 2) := by decide +kernel
theorem dL_others_1072 : decode cL_others 1072 = .ok (.if_icmp .ne 39, 3) := by decide +kernel
theorem dL_others_1075 : decode cL_others 1075 = .ok (.aload_n 0, 1) := by decide +kernel
theorem dL_others_1076 : decode cL_others 1076 = .ok (.iload 8, 2) := by decide +kernel
theorem dL_others_1078 : decode cL_others 1078 = .ok (.iload 7, 2) := by decide +kernel
theorem dL_others_1080 : decode cL_others 1080 = .ok (.iload 11, 2) := by decide +kernel
theorem dL_others_1082 : decode cL_others 1082 = .ok (.sipush 1440, 3) := by decide +kernel
theorem dL_others_1085 : decode cL_others 1085 = .ok (.invokestatic 267, 3) := by decide +kernel
theorem dL_others_1088 : decode cL_others 1088 = .ok (.ldc 21, 2) := by decide +kernel
theorem dL_others_1090 : decode cL_others 1090 = .ok (.if_icmp .ne 21, 3) := by decide +kernel
theorem dL_others_1093 : decode cL_others 1093 = .ok (.aload_n 0, 1) := by decide +kernel
theorem dL_others_1094 : decode cL_others 1094 = .ok (.aload_n 3, 1) := by decide +kernel
theorem dL_others_1095 : decode cL_others 1095 = .ok (.iconst 1, 1) := by decide +kernel
theorem dL_others_1096 : decode cL_others 1096 = .ok (.iaload, 1) := by decide +kernel
theorem dL_others_1097 : decode cL_others 1097 = .ok (.iconst 1, 1) := by decide +kernel
theorem dL_others_1098 : decode cL_others 1098 = .ok (.iadd, 1) := by decide +kernel
theorem dL_others_1099 : decode cL_others 1099 = .ok (.invokestatic 265, 3) := by decide +kernel
theorem dL_others_1102 : decode cL_others 1102 = .ok (.ldc 18, 2) := by decide +kernel
theorem dL_others_1104 : decode cL_others 1104 = .ok (.if_icmp .ne 7, 3) := by decide +kernel
theorem dL_others_1107 : decode cL_others 1107 = .ok (.iconst 1, 1) := by decide +kernel
theorem dL_others_1108 : decode cL_others 1108 = .ok (.goto 4, 3) := by decide +kernel
theorem dL_others_1111 : decode cL_others 1111 = .ok (.iconst 0, 1) := by decide +kernel
theorem dL_others_1112 : decode cL_others 1112 = .ok (.istore 15, 2) := by decide +kernel
theorem dL_others_1114 : decode cL_others 1114 = .ok (.aload_n 3, 1) := by decide +kernel
theorem dL_others_1115 : decode cL_others 1115 = .ok (.iconst 1, 1) := by decide +kernel
theorem dL_others_1116 : decode cL_others 1116 = .ok (.dup2, 1) := by decide +kernel
theorem dL_others_1117 : decode cL_others 1117 = .ok (.iaload, 1) := by decide +kernel
theorem dL_others_1118 : decode cL_others 1118 = .ok (.iload 14, 2) := by decide +kernel
theorem dL_others_1120 : decode cL_others 1120 = .ok (.ifCond .eq 7, 3) := by decide +kernel
theorem dL_others_1123 : decode cL_others 1123 = .ok (.iconst 1, 1) := by decide +kernel
theorem dL_others_1124 : decode cL_others 1124 = .ok (.goto 4, 3) := by decide +kernel
theorem dL_others_1127 : decode cL_others 1127 = .ok (.iconst 0, 1) := by decide +kernel
theorem dL_others_1128 : decode cL_others 1128 = .ok (.iadd, 1) := by decide +kernel
theorem dL_others_1129 : decode cL_others 1129 = .ok (.iastore, 1) := by decide +kernel
theorem dL_others_1130 : decode cL_others 1130 = .ok (.iload 15, 2) := by decide +kernel
theorem dL_others_1132 : decode cL_others 1132 = .ok (.ifCond .eq 61, 3) := by decide +kernel
theorem dL_others_1135 : decode cL_others 1135 = .ok (.iload 14, 2) := by decide +kernel
theorem dL_others_1137 : decode cL_others 1137 = .ok (.ifCond .eq 52, 3) := by decide +kernel
theorem dL_others_1140 : decode cL_others 1140 = .ok (.aload_n 0, 1) := by decide +kernel
theorem dL_others_1141 : decode cL_others 1141 = .ok (.iload 13, 2) := by decide +kernel
theorem dL_others_1143 : decode cL_others 1143 = .ok (.invokestatic 186, 3) := by decide +kernel
theorem dL_others_1146 : decode cL_others 1146 = .ok (.iconst 2, 1) := by decide +kernel
theorem dL_others_1147 : decode cL_others 1147 = .ok (.if_icmp .ne 46, 3) := by decide +kernel
theorem dL_others_1150 : decode cL_others 1150 = .ok (.aload_n 0, 1) := by decide +kernel
theorem dL_others_1151 : decode cL_others 1151 = .ok (.iload 7, 2) := by decide +kernel
theorem dL_others_1153 : decode cL_others 1153 = .ok (.invokestatic 181, 3) := by decide +kernel
theorem dL_others_1156 : decode cL_others 1156 = .ok (.ifCond .ne 37, 3) := by decide +kernel
theorem dL_others_1159 : decode cL_others 1159 = .ok (.aload_n 0, 1) := by decide +kernel
theorem dL_others_1160 : decode cL_others 1160 = .ok (.iload 13, 2) := by decide +kernel
theorem dL_others_1162 : decode cL_others 1162 = .ok (.invokestatic 263, 3) := by decide +kernel
theorem dL_others_1165 : decode cL_others 1165 = .ok (.ldc 38, 2) := by decide +kernel
theorem dL_others_1167 : decode cL_others 1167 = .ok (.if_icmp .ne 26, 3) := by decide +kernel
theorem dL_others_1170 : decode cL_others 1170 = .ok (.aload_n 0, 1) := by decide +kernel
theorem dL_others_1171 : decode cL_others 1171 = .ok (.iload 13, 2) := by decide +kernel
theorem dL_others_1173 : decode cL_others 1173 = .ok (.invokestatic 231, 3) := by decide +kernel
theorem dL_others_1176 : decode cL_others 1176 = .ok (.iconst 1, 1) := by decide +kernel
theorem dL_others_1177 : decode cL_others 1177 = .ok (.if_icmp .ne 16, 3) := by decide +kernel
theorem dL_others_1180 : decode cL_others 1180 = .ok (.aload_n 0, 1) := by decide +kernel
theorem dL_others_1181 : decode cL_others 1181 = .ok (.iload 13, 2) := by decide +kernel
theorem dL_others_1183 : decode cL_others 1183 = .ok (.invokestatic 231, 3) := by decide +kernel
theorem dL_others_1186 : decode cL_others 1186 = .ok (.ifCond .ne 7, 3) := by decide +kernel
theorem dL_others_1189 : decode cL_others 1189 = .ok (.iconst 1, 1) := by decide +kernel
theorem dL_others_1190 : decode cL_others 1190 = .ok (.goto 4, 3) := by decide +kernel
theorem dL_others_1193 : decode cL_others 1193 = .ok (.iconst 0, 1) := by decide +kernel
theorem dL_others_1194 : decode cL_others 1194 = .ok (.ireturn, 1) := by decide +kernel
set_option maxRecDepth 100000 in
theorem tb_L_others : Cond.code yL_others cL_others 17 (some .boolean) ∈ lw_tbl := List.mem_append_right (k2_sels lw_privs) (show _ ∈ tables_1 from List.mem_append_right tables_1_1 (List.mem_append_right tables_1_2 (List.mem_append_right tables_1_3 (List.mem_append_right tables_1_4 (List.mem_append_left tables_1_6 (List.mem_of_getElem? (l := tables_1_5) (i := 179) rfl))))))
theorem lk_L_others : LK yL_others cL_others 17 (some .boolean) 6 := ⟨qW_of tb_L_others rfl, qW_at 28 (by decide +kernel) rfl, by decide, by decide, by decide +kernel⟩
theorem st_L_others : Cond.static yL_others ∈ qW := qW_at 1166 (by decide +kernel) rfl
def F_L_others (sv : Nat) (x_ y_ : Int32) : LX Int32 :=
  (lb (lb (lp x_) fun v1 => lb (lp (I 12)) fun v2 => F_L_low sv v1 v2) fun kind_3 =>
  (lb (lb (lb (lp x_) fun v4 => lb (lp (I 4)) fun v5 => (lp (v4 >>> (v5 &&& 31)))) fun v8 => lb (lb (lp (some (sv + 22))) fun v6 => lb (lp (I 0)) fun v7 => lai sv v6 v7) fun v9 => F_L_low sv v8 v9) fun meeting_10 =>
  (lb (lb (lp y_) fun v11 => lb (lp (I 5)) fun v12 => F_L_low sv v11 v12) fun person_13 =>
  (lb (lb (lp kind_3) fun v14 => lb (lp (I 2)) fun v15 => lp (decide (v14 < v15))) fun v524 => if v524 then (lb (lb (lp (some sv)) fun v16 => lb (lp meeting_10) fun v17 => lgo v16 sv (w_send v17)) fun told_18 =>
  (lb (lb (lp (some (sv + 22))) fun v21 => lb (lp (I 1)) fun v22 => lb (lai sv v21 v22) fun v23 => lb (lb (lb (lp told_18) fun v19 => lp (decide (v19 < 0))) fun v20 => if v20 then (lp (I 0)) else (lp told_18)) fun v24 => lb (lp (v23 + v24)) fun v25 => lsai sv v21 v22 v25) fun _ =>
  (lb (lb (lb (lb (lb (lb (lp told_18) fun v26 => lb (lp (I (-1000003))) fun v27 => lp (decide (v26 = v27))) fun v32 => if v32 then (lb (lb (lp (some (sv + 22))) fun v28 => lb (lp (I 1)) fun v29 => lai sv v28 v29) fun v30 => lb (lp (I 145)) fun v31 => lp (decide (v31 < v30))) else (lb (lb (lp told_18) fun v33 => lp (decide (0 ≤ v33))) fun v36 => if v36 then (lb (lp told_18) fun v34 => lb (lp (I 5)) fun v35 => lp (decide (v34 < v35))) else lp false)) fun v42 => if v42 then (lb (lb (lp (some sv)) fun v37 => lgo v37 sv (lq fun S => I (mf S 29))) fun v38 => lb (lb (lp (some (sv + 22))) fun v39 => lb (lp (I 1)) fun v40 => lai sv v39 v40) fun v41 => lp (decide (v38 = v41))) else lp false) fun v49 => if v49 then (lb (lb (lp (some sv)) fun v45 => lb (lb (lp (some (sv + 22))) fun v43 => lb (lp (I 0)) fun v44 => lai sv v43 v44) fun v46 => lgo v45 sv (w_send v46)) fun v47 => lb (lp (I (-1000001))) fun v48 => lp (decide (v47 = v48))) else lp false) fun v50 => lp (b2i v50)) lz))) else
  (lb (lb (lb (lp kind_3) fun v51 => lb (lp (I 7)) fun v52 => lp (decide (v51 < v52))) fun v56 => if v56 then (lb (lb (lp (some (sv + 22))) fun v53 => lb (lp (I 1)) fun v54 => lai sv v53 v54) fun v55 => lp (decide (0 < v55))) else lp false) fun v523 => if v523 then (lb (lb (lb (lb (lp y_) fun v57 => lb (lp (I 2)) fun v58 => F_L_low sv v57 v58) fun v59 => lp (decide (v59 = 0))) fun v83 => if v83 then (lb (lb (lp y_) fun v60 => lb (lp (I 1)) fun v61 => (lp (v60 >>> (v61 &&& 31)))) fun v64 => lb (lb (lp (some (sv + 22))) fun v62 => lb (lp (I 1)) fun v63 => lai sv v62 v63) fun v65 => F_L_low sv v64 v65) else (lb (lb (lb (lp (some (sv + 22))) fun v66 => lb (lp (I 1)) fun v67 => lai sv v66 v67) fun v68 => lb (lp (I 1)) fun v69 => (lp (v68 - v69))) fun v81 => lb (lb (lb (lp y_) fun v70 => lb (lp (I 1)) fun v71 => (lp (v70 >>> (v71 &&& 31)))) fun v79 => lb (lb (lb (lb (lp (some (sv + 22))) fun v72 => lb (lp (I 1)) fun v73 => lai sv v72 v73) fun v74 => lb (lp (I 6)) fun v75 => lp (decide (v74 < v75))) fun v78 => if v78 then (lb (lp (some (sv + 22))) fun v76 => lb (lp (I 1)) fun v77 => lai sv v76 v77) else (lp (I 6))) fun v80 => F_L_low sv v79 v80) fun v82 => (lp (v81 - v82)))) fun message_84 =>
  (lb (lb (lp (some sv)) fun v85 => lb (lp message_84) fun v86 => lgo v85 sv (w_receiver v86)) fun to_87 =>
  (lb (lb (lp (some sv)) fun v88 => lb (lp message_84) fun v89 => lgo v88 sv (w_kindOf v89)) fun type_90 =>
  (lb (lb (lp (some sv)) fun v91 => lb (lp message_84) fun v92 => lgo v91 sv (w_deliver v92)) fun told_93 =>
  (lb (lb (lp (some (sv + 21))) fun v100 => lb (lp to_87) fun v101 => lb (lai sv v100 v101) fun v102 => lb (lb (lb (lb (lp told_93) fun v94 => lb (lp (I 1)) fun v95 => lp (decide (v94 = v95))) fun v98 => if v98 then (lb (lp type_90) fun v96 => lb (lp (I 2)) fun v97 => lp (decide (v96 < v97))) else lp false) fun v99 => if v99 then (lp (I 1)) else (lp (I 0))) fun v103 => lb (lp (v102 + v103)) fun v104 => lsai sv v100 v101 v104) fun _ =>
  (lb (lb (lb (lb (lb (lb (lp told_93) fun v105 => lp (decide (0 ≤ v105))) fun v112 => if v112 then (lb (lb (lp (some sv)) fun v106 => lb (lp to_87) fun v107 => lgo v106 sv (w_mark v107)) fun v108 => lb (lb (lp (some (sv + 21))) fun v109 => lb (lp to_87) fun v110 => lai sv v109 v110) fun v111 => lp (decide (v108 = v111))) else lp false) fun v116 => if v116 then (lb (lb (lp (some sv)) fun v113 => lb (lp message_84) fun v114 => lgo v113 sv (w_deliver v114)) fun v115 => lp (decide (v115 = 0))) else lp false) fun v123 => if v123 then (lb (lb (lp (some sv)) fun v117 => lb (lp to_87) fun v118 => lgo v117 sv (w_mark v118)) fun v119 => lb (lb (lp (some (sv + 21))) fun v120 => lb (lp to_87) fun v121 => lai sv v120 v121) fun v122 => lp (decide (v119 = v122))) else lp false) fun v124 => lp (b2i v124)) lz)))))) else
  (lb (lb (lp (some sv)) fun v125 => lb (lp person_13) fun v126 => lb (lp meeting_10) fun v127 => lgo v125 sv (w_dates v126 v127)) fun dates_128 =>
  (lb (lb (lb (lb (lb (lp (some sv)) fun v129 => lb (lp person_13) fun v130 => lb (lp meeting_10) fun v131 => lgo v129 sv (w_isThere v130 v131)) fun v132 => lb (lp (I 1)) fun v133 => lp (decide (v132 = v133))) fun v140 => if v140 then (lb (lb (lb (lp (some (sv + 20))) fun v134 => lb (lp meeting_10) fun v135 => lai sv v134 v135) fun v136 => lb (lp (I 8)) fun v137 => (lrem v136 v137)) fun v138 => lb (lp person_13) fun v139 => lp (decide (¬ v138 = v139))) else lp false) fun v141 => lp (b2i v141)) fun can_142 =>
  (lb (lb (lb (lp dates_128) fun v143 => lp (decide (0 < v143))) fun v156 => if v156 then (lb (lp (some sv)) fun v148 => lb (lp person_13) fun v149 => lb (lp meeting_10) fun v150 => lb (lb (lb (lp y_) fun v144 => lb (lp (I 3)) fun v145 => (lp (v144 >>> (v145 &&& 31)))) fun v146 => lb (lp dates_128) fun v147 => F_L_low sv v146 v147) fun v151 => lgo v148 sv (w_dateAt v149 v150 v151)) else (lb (lb (lp y_) fun v152 => lb (lp (I 3)) fun v153 => (lp (v152 >>> (v153 &&& 31)))) fun v154 => lb (lp (I 60)) fun v155 => F_L_low sv v154 v155)) fun day_157 =>
  (lb (lb (lp kind_3) fun v158 => lb (lp (I 10)) fun v159 => lp (decide (v158 < v159))) fun v522 => if v522 then (lb (lb (lb (lb (lb (lp y_) fun v160 => lb (lp (I 10)) fun v161 => (lp (v160 >>> (v161 &&& 31)))) fun v162 => lb (lp (I 2)) fun v163 => F_L_low sv v162 v163) fun v164 => lp (decide (v164 = 0))) fun v165 => if v165 then (lp (I (-1))) else (lp day_157)) fun when_166 =>
  (lb (lb (lp (I 1)) fun v171 => lb (lb (lb (lp y_) fun v167 => lb (lp (I 11)) fun v168 => (lp (v167 >>> (v168 &&& 31)))) fun v169 => lb (lp (I 3)) fun v170 => F_L_low sv v169 v170) fun v172 => (lp (v171 + v172))) fun answer_173 =>
  (lb (lb (lp (some sv)) fun v174 => lb (lp person_13) fun v175 => lb (lp meeting_10) fun v176 => lb (lp when_166) fun v177 => lb (lp answer_173) fun v178 => lgo v174 sv (w_answer v175 v176 v177 v178)) fun told_179 =>
  (lb (lb (lb (lb (lb (lp can_142) fun v180 => lp (decide (¬ v180 = 0))) fun v184 => if v184 then (lb (lb (lp when_166) fun v181 => lp (decide (v181 < 0))) fun v183 => if v183 then lp true else (lb (lp dates_128) fun v182 => lp (decide (0 < v182)))) else lp false) fun v189 => if v189 then (lb (lb (lp (some (sv + 22))) fun v185 => lb (lp (I 1)) fun v186 => lai sv v185 v186) fun v187 => lb (lp (I 150)) fun v188 => lp (decide (v187 < v188))) else lp false) fun v190 => lp (b2i v190)) fun may_191 =>
  (lb (lb (lb (lb (lb (lb (lp told_179) fun v192 => lb (lb (lb (lp may_191) fun v193 => lp (decide (¬ v193 = 0))) fun v196 => if v196 then (lb (lp (some (sv + 22))) fun v194 => lb (lp (I 1)) fun v195 => lai sv v194 v195) else (lp (I (-1000003)))) fun v197 => lp (decide (v192 = v197))) fun v205 => if v205 then (lb (lb (lp (some sv)) fun v198 => lb (lp person_13) fun v199 => lb (lp meeting_10) fun v200 => lb (lp (I 60)) fun v201 => lb (lp (I 1)) fun v202 => lgo v198 sv (w_answer v199 v200 v201 v202)) fun v203 => lb (lp (I (-1000002))) fun v204 => lp (decide (v203 = v204))) else lp false) fun v213 => if v213 then (lb (lb (lp (some sv)) fun v206 => lb (lp person_13) fun v207 => lb (lp meeting_10) fun v208 => lb (lp (I (-1))) fun v209 => lb (lp (I 4)) fun v210 => lgo v206 sv (w_answer v207 v208 v209 v210)) fun v211 => lb (lp (I (-1000002))) fun v212 => lp (decide (v211 = v212))) else lp false) fun v221 => if v221 then (lb (lb (lp (some sv)) fun v214 => lb (lp (I 5)) fun v215 => lb (lp meeting_10) fun v216 => lb (lp (I 60)) fun v217 => lb (lp (I 0)) fun v218 => lgo v214 sv (w_answer v215 v216 v217 v218)) fun v219 => lb (lp (I (-1000001))) fun v220 => lp (decide (v219 = v220))) else lp false) fun v222 => lp (b2i v222)) fun is_223 =>
  (lb (lb (lp (some (sv + 22))) fun v226 => lb (lp (I 1)) fun v227 => lb (lai sv v226 v227) fun v228 => lb (lb (lb (lp may_191) fun v224 => lp (decide (¬ v224 = 0))) fun v225 => if v225 then (lp (I 1)) else (lp (I 0))) fun v229 => lb (lp (v228 + v229)) fun v230 => lsai sv v226 v227 v230) fun _ =>
  (lb (lb (lp (some (sv + 21))) fun v233 => lb (lp person_13) fun v234 => lb (lai sv v233 v234) fun v235 => lb (lb (lb (lp may_191) fun v231 => lp (decide (¬ v231 = 0))) fun v232 => if v232 then (lp (I 1)) else (lp (I 0))) fun v236 => lb (lp (v235 + v236)) fun v237 => lsai sv v233 v234 v237) fun _ =>
  (lb (lb (lb (lb (lb (lb (lp is_223) fun v238 => lp (decide (¬ v238 = 0))) fun v245 => if v245 then (lb (lb (lp (some sv)) fun v239 => lb (lp person_13) fun v240 => lgo v239 sv (w_mark v240)) fun v241 => lb (lb (lp (some (sv + 21))) fun v242 => lb (lp person_13) fun v243 => lai sv v242 v243) fun v244 => lp (decide (v241 = v244))) else lp false) fun v281 => if v281 then (lb (lb (lb (lp may_191) fun v246 => lp (decide (¬ v246 = 0))) fun v247 => lp (!v247)) fun v280 => if v280 then lp true else (lb (lb (lb (lb (lb (lb (lp (some sv)) fun v248 => lb (lp told_179) fun v249 => lgo v248 sv (w_kindOf v249)) fun v250 => lb (lp (I 1)) fun v251 => lp (decide (v250 = v251))) fun v260 => if v260 then (lb (lb (lp (some sv)) fun v252 => lb (lp told_179) fun v253 => lgo v252 sv (w_receiver v253)) fun v254 => lb (lb (lb (lp (some (sv + 20))) fun v255 => lb (lp meeting_10) fun v256 => lai sv v255 v256) fun v257 => lb (lp (I 8)) fun v258 => (lrem v257 v258)) fun v259 => lp (decide (v254 = v259))) else lp false) fun v265 => if v265 then (lb (lb (lp (some sv)) fun v261 => lb (lp told_179) fun v262 => lgo v261 sv (w_lineLength v262)) fun v263 => lb (lp (I 20)) fun v264 => lp (decide (v264 < v263))) else lp false) fun v271 => if v271 then (lb (lb (lp (some sv)) fun v266 => lb (lp told_179) fun v267 => lb (lp (I 0)) fun v268 => lgo v266 sv (w_lineChar v267 v268)) fun v269 => lb (lp (I 114)) fun v270 => lp (decide (v269 = v270))) else lp false) fun v279 => if v279 then (lb (lb (lp (some sv)) fun v274 => lb (lp told_179) fun v275 => lb (lb (lp (some sv)) fun v272 => lb (lp told_179) fun v273 => lgo v272 sv (w_lineLength v273)) fun v276 => lgo v274 sv (w_lineChar v275 v276)) fun v277 => lb (lp (I (-1000001))) fun v278 => lp (decide (v277 = v278))) else lp false)) else lp false) fun v293 => if v293 then (lb (lb (lb (lb (lp may_191) fun v282 => lp (decide (¬ v282 = 0))) fun v283 => lp (!v283)) fun v285 => if v285 then lp true else (lb (lp when_166) fun v284 => lp (decide (v284 < 0)))) fun v292 => if v292 then lp true else (lb (lb (lp (some sv)) fun v286 => lb (lp person_13) fun v287 => lb (lp meeting_10) fun v288 => lb (lp day_157) fun v289 => lgo v286 sv (w_ownAnswer v287 v288 v289)) fun v290 => lb (lp answer_173) fun v291 => lp (decide (v290 = v291)))) else lp false) fun v294 => lp (b2i v294)) lz)))))))) else
  (lb (lb (lp kind_3) fun v295 => lb (lp (I 10)) fun v296 => lp (decide (v295 = v296))) fun v521 => if v521 then (lb (lb (lb (lp y_) fun v297 => lb (lp (I 10)) fun v298 => (lp (v297 >>> (v298 &&& 31)))) fun v299 => lb (lp (I 5)) fun v300 => F_L_low sv v299 v300) fun other_301 =>
  (lb (lb (lp (some sv)) fun v302 => lb (lp person_13) fun v303 => lb (lp meeting_10) fun v304 => lb (lp other_301) fun v305 => lgo v302 sv (w_delegate v303 v304 v305)) fun told_306 =>
  (lb (lb (lb (lp other_301) fun v307 => lb (lp person_13) fun v308 => lp (decide (v307 = v308))) fun v315 => if v315 then lp true else (lb (lp other_301) fun v309 => lb (lb (lb (lp (some (sv + 20))) fun v310 => lb (lp meeting_10) fun v311 => lai sv v310 v311) fun v312 => lb (lp (I 8)) fun v313 => (lrem v312 v313)) fun v314 => lp (decide (v309 = v314)))) fun v385 => if v385 then (lb (lb (lb (lp told_306) fun v316 => lb (lp (I (-1000002))) fun v317 => lp (decide (v316 = v317))) fun v318 => lp (b2i v318)) lz) else
  (lb (lb (lb (lb (lp can_142) fun v319 => lp (decide (¬ v319 = 0))) fun v324 => if v324 then (lb (lb (lp (some (sv + 22))) fun v320 => lb (lp (I 1)) fun v321 => lai sv v320 v321) fun v322 => lb (lp (I 149)) fun v323 => lp (decide (v322 < v323))) else lp false) fun v325 => lp (b2i v325)) fun may_326 =>
  (lb (lb (lb (lb (lp told_306) fun v327 => lb (lb (lb (lp may_326) fun v328 => lp (decide (¬ v328 = 0))) fun v331 => if v331 then (lb (lp (some (sv + 22))) fun v329 => lb (lp (I 1)) fun v330 => lai sv v329 v330) else (lp (I (-1000003)))) fun v332 => lp (decide (v327 = v332))) fun v339 => if v339 then (lb (lb (lp (some sv)) fun v333 => lb (lp person_13) fun v334 => lb (lp meeting_10) fun v335 => lb (lp (I 5)) fun v336 => lgo v333 sv (w_delegate v334 v335 v336)) fun v337 => lb (lp (I (-1000001))) fun v338 => lp (decide (v337 = v338))) else lp false) fun v340 => lp (b2i v340)) fun is_341 =>
  (lb (lb (lp (some (sv + 22))) fun v344 => lb (lp (I 1)) fun v345 => lb (lai sv v344 v345) fun v346 => lb (lb (lb (lp may_326) fun v342 => lp (decide (¬ v342 = 0))) fun v343 => if v343 then (lp (I 2)) else (lp (I 0))) fun v347 => lb (lp (v346 + v347)) fun v348 => lsai sv v344 v345 v348) fun _ =>
  (lb (lb (lp (some (sv + 21))) fun v351 => lb (lp person_13) fun v352 => lb (lai sv v351 v352) fun v353 => lb (lb (lb (lp may_326) fun v349 => lp (decide (¬ v349 = 0))) fun v350 => if v350 then (lp (I 1)) else (lp (I 0))) fun v354 => lb (lp (v353 + v354)) fun v355 => lsai sv v351 v352 v355) fun _ =>
  (lb (lb (lb (lb (lb (lp is_341) fun v356 => lp (decide (¬ v356 = 0))) fun v377 => if v377 then (lb (lb (lb (lp may_326) fun v357 => lp (decide (¬ v357 = 0))) fun v358 => lp (!v358)) fun v376 => if v376 then lp true else (lb (lb (lb (lb (lp (some sv)) fun v361 => lb (lb (lp told_306) fun v359 => lb (lp (I 1)) fun v360 => (lp (v359 + v360))) fun v362 => lgo v361 sv (w_kindOf v362)) fun v363 => lp (decide (v363 = 0))) fun v370 => if v370 then (lb (lb (lp (some sv)) fun v366 => lb (lb (lp told_306) fun v364 => lb (lp (I 1)) fun v365 => (lp (v364 + v365))) fun v367 => lgo v366 sv (w_receiver v367)) fun v368 => lb (lp other_301) fun v369 => lp (decide (v368 = v369))) else lp false) fun v375 => if v375 then (lb (lb (lp (some sv)) fun v371 => lb (lp told_306) fun v372 => lgo v371 sv (w_kindOf v372)) fun v373 => lb (lp (I 1)) fun v374 => lp (decide (v373 = v374))) else lp false)) else lp false) fun v383 => if v383 then (lb (lb (lp (some sv)) fun v378 => lgo v378 sv (lq fun S => I (mf S 29))) fun v379 => lb (lb (lp (some (sv + 22))) fun v380 => lb (lp (I 1)) fun v381 => lai sv v380 v381) fun v382 => lp (decide (v379 = v382))) else lp false) fun v384 => lp (b2i v384)) lz)))))))) else
  (lb (lb (lp (some sv)) fun v386 => lb (lp meeting_10) fun v387 => lgo v386 sv (w_proposals v387)) fun open_388 =>
  (lb (lb (lp open_388) fun v389 => lp (decide (0 < v389))) fun v520 => if v520 then (lb (lb (lp (some sv)) fun v394 => lb (lp meeting_10) fun v395 => lb (lb (lb (lp y_) fun v390 => lb (lp (I 10)) fun v391 => (lp (v390 >>> (v391 &&& 31)))) fun v392 => lb (lp open_388) fun v393 => F_L_low sv v392 v393) fun v396 => lgo v394 sv (w_proposalAt v395 v396)) fun message_397 =>
  (lb (lb (lb (lb (lp y_) fun v398 => lb (lp (I 13)) fun v399 => (lp (v398 >>> (v399 &&& 31)))) fun v400 => lb (lp (I 2)) fun v401 => F_L_low sv v400 v401) fun v402 => lp (decide (v402 = 0))) fun v439 => if v439 then (lb (lb (lb (lb (lb (lb (lp (some sv)) fun v403 => lb (lp message_397) fun v404 => lgo v403 sv (w_refuse v404)) fun v405 => lb (lb (lp open_388) fun v406 => lb (lp (I 1)) fun v407 => (lp (v406 - v407))) fun v408 => lp (decide (v405 = v408))) fun v413 => if v413 then (lb (lb (lp (some sv)) fun v409 => lb (lp message_397) fun v410 => lgo v409 sv (w_refuse v410)) fun v411 => lb (lp (I (-1000003))) fun v412 => lp (decide (v411 = v412))) else lp false) fun v418 => if v418 then (lb (lb (lp (some sv)) fun v414 => lb (lp message_397) fun v415 => lgo v414 sv (w_take v415)) fun v416 => lb (lp (I (-1000003))) fun v417 => lp (decide (v416 = v417))) else lp false) fun v419 => lp (b2i v419)) lz) else
  (lb (lb (lb (lb (lb (lb (lp (some sv)) fun v422 => lb (lp (some (sv + 20))) fun v423 => lb (lp (some (sv + 21))) fun v424 => lb (lp meeting_10) fun v425 => lb (lb (lp (some sv)) fun v420 => lb (lp message_397) fun v421 => lgo v420 sv (w_take v421)) fun v426 => lgo v422 sv (lgo v423 (sv + 20) (lgo v424 (sv + 21) (F_L_changed sv v425 v426)))) fun v427 => lp (decide (¬ v427 = 0))) fun v432 => if v432 then (lb (lb (lp (some sv)) fun v428 => lb (lp message_397) fun v429 => lgo v428 sv (w_take v429)) fun v430 => lb (lp (I (-1000003))) fun v431 => lp (decide (v430 = v431))) else lp false) fun v437 => if v437 then (lb (lb (lp (some sv)) fun v433 => lb (lp meeting_10) fun v434 => lgo v433 sv (w_proposals v434)) fun v435 => lb (lp open_388) fun v436 => lp (decide (v435 < v436))) else lp false) fun v438 => lp (b2i v438)) lz))) else
  (lb (lb (lp (some sv)) fun v444 => lb (lp person_13) fun v445 => lb (lp meeting_10) fun v446 => lb (lp day_157) fun v447 => lb (lb (lb (lp y_) fun v440 => lb (lp (I 9)) fun v441 => (lp (v440 >>> (v441 &&& 31)))) fun v442 => lb (lp (I 1440)) fun v443 => F_L_low sv v442 v443) fun v448 => lgo v444 sv (w_propose v445 v446 v447 v448)) fun told_449 =>
  (lb (lb (lb (lb (lb (lp can_142) fun v450 => lp (decide (¬ v450 = 0))) fun v452 => if v452 then (lb (lp dates_128) fun v451 => lp (decide (0 < v451))) else lp false) fun v457 => if v457 then (lb (lb (lp (some (sv + 22))) fun v453 => lb (lp (I 1)) fun v454 => lai sv v453 v454) fun v455 => lb (lp (I 150)) fun v456 => lp (decide (v455 < v456))) else lp false) fun v458 => lp (b2i v458)) fun may_459 =>
  (lb (lb (lb (lb (lb (lp told_449) fun v460 => lb (lb (lb (lp may_459) fun v461 => lp (decide (¬ v461 = 0))) fun v464 => if v464 then (lb (lp (some (sv + 22))) fun v462 => lb (lp (I 1)) fun v463 => lai sv v462 v463) else (lp (I (-1000003)))) fun v465 => lp (decide (v460 = v465))) fun v473 => if v473 then (lb (lb (lp (some sv)) fun v466 => lb (lp person_13) fun v467 => lb (lp meeting_10) fun v468 => lb (lp day_157) fun v469 => lb (lp (I 1440)) fun v470 => lgo v466 sv (w_propose v467 v468 v469 v470)) fun v471 => lb (lp (I (-1000002))) fun v472 => lp (decide (v471 = v472))) else lp false) fun v482 => if v482 then (lb (lb (lp (some sv)) fun v478 => lb (lb (lb (lp (some (sv + 22))) fun v474 => lb (lp (I 1)) fun v475 => lai sv v474 v475) fun v476 => lb (lp (I 1)) fun v477 => (lp (v476 + v477))) fun v479 => lgo v478 sv (w_take v479)) fun v480 => lb (lp (I (-1000001))) fun v481 => lp (decide (v480 = v481))) else lp false) fun v483 => lp (b2i v483)) fun is_484 =>
  (lb (lb (lp (some (sv + 22))) fun v487 => lb (lp (I 1)) fun v488 => lb (lai sv v487 v488) fun v489 => lb (lb (lb (lp may_459) fun v485 => lp (decide (¬ v485 = 0))) fun v486 => if v486 then (lp (I 1)) else (lp (I 0))) fun v490 => lb (lp (v489 + v490)) fun v491 => lsai sv v487 v488 v491) fun _ =>
  (lb (lb (lb (lb (lp is_484) fun v492 => lp (decide (¬ v492 = 0))) fun v518 => if v518 then (lb (lb (lb (lp may_459) fun v493 => lp (decide (¬ v493 = 0))) fun v494 => lp (!v494)) fun v517 => if v517 then lp true else (lb (lb (lb (lb (lb (lb (lp (some sv)) fun v495 => lb (lp told_449) fun v496 => lgo v495 sv (w_kindOf v496)) fun v497 => lb (lp (I 2)) fun v498 => lp (decide (v497 = v498))) fun v502 => if v502 then (lb (lb (lp (some sv)) fun v499 => lb (lp meeting_10) fun v500 => lgo v499 sv (w_proposals v500)) fun v501 => lp (decide (v501 = 0))) else lp false) fun v507 => if v507 then (lb (lb (lp (some sv)) fun v503 => lb (lp told_449) fun v504 => lgo v503 sv (w_refuse v504)) fun v505 => lb (lp (I (-1000003))) fun v506 => lp (decide (v505 = v506))) else lp false) fun v512 => if v512 then (lb (lb (lp (some sv)) fun v508 => lb (lp told_449) fun v509 => lgo v508 sv (w_deliver v509)) fun v510 => lb (lp (I 1)) fun v511 => lp (decide (v510 = v511))) else lp false) fun v516 => if v516 then (lb (lb (lp (some sv)) fun v513 => lb (lp told_449) fun v514 => lgo v513 sv (w_deliver v514)) fun v515 => lp (decide (v515 = 0))) else lp false)) else lp false) fun v519 => lp (b2i v519)) lz)))))))))))))))))
set_option maxRecDepth 100000 in
set_option maxHeartbeats 4000000 in
theorem M_L_others (sv : Nat) (x_ y_ : Int32) : LM yL_others cL_others 17 (some .boolean) 11 201 100 1776 [.ref sv, .ref (sv + 20), .ref (sv + 21), .ref (sv + 22), .int x_, .int y_] sv (F_L_others sv x_ y_) := by
  refine LM_of (env0 := [(0, va_rf (some sv)), (1, va_rf (some (sv + 20))), (2, va_rf (some (sv + 21))), (3, va_rf (some (sv + 22))), (4, .int x_), (5, .int y_)]) (by decide) (by exact Nat.le_of_ble_eq_true rfl) rfl (fun k R X C hR hN hr L0 h0 => ?_)
  have X : CX k cL_others RL := X
  have htr := C.2.2.2.1
  unfold F_L_others at h0
  exact KSB_go (KSB_let (KXE_2 (pB := pI) wI (kX (L_iload (x := x_) 4 X dL_others_0 rfl)) (kX (L_bipush (v := I 12) X dL_others_2 (by decide))) (fun v0 v1 st L a b hd hc hs h => by exact k_callS (st := st) X htr (M_L_low sv v0 v1) lk_L_low st_L_low ml_L_198 rfl (by rw [hR]; exact ⟨Nat.le_of_ble_eq_true rfl, Nat.le_of_ble_eq_true rfl⟩) (Nat.le_trans hd (by decide)) ⟨hc, hs⟩ dL_others_4 h)) (kS (S_istore (ev := fun kind_3 => [(6, .int kind_3), (0, va_rf (some sv)), (1, va_rf (some (sv + 20))), (2, va_rf (some (sv + 21))), (3, va_rf (some (sv + 22))), (4, .int x_), (5, .int y_)]) X dL_others_7 (by rw [hN]; decide) (fun _ => rfl))) fun kind_3 =>
  (KSB_let (KXE_2 (pB := pI) wI (KXE_2 wI (kX (L_iload (x := x_) 5 X dL_others_9 rfl)) (kX (L_iconst (v := I 4) X dL_others_11 (by decide))) (k2 (O_ishr X dL_others_12))) (KXE_2 wR (kX (L_aload_n (r := (some (sv + 22))) 4 X dL_others_13 rfl rfl)) (kX (L_iconst (v := I 0) X dL_others_14 (by decide))) (kai X dL_others_15)) (fun v0 v1 st L a b hd hc hs h => by exact k_callS (st := st) X htr (M_L_low sv v0 v1) lk_L_low st_L_low ml_L_198 rfl (by rw [hR]; exact ⟨Nat.le_of_ble_eq_true rfl, Nat.le_of_ble_eq_true rfl⟩) (Nat.le_trans hd (by decide)) ⟨hc, hs⟩ dL_others_16 h)) (kS (S_istore (ev := fun meeting_10 => [(7, .int meeting_10), (6, .int kind_3), (0, va_rf (some sv)), (1, va_rf (some (sv + 20))), (2, va_rf (some (sv + 21))), (3, va_rf (some (sv + 22))), (4, .int x_), (5, .int y_)]) X dL_others_19 (by rw [hN]; decide) (fun _ => rfl))) fun meeting_10 =>
  (KSB_let (KXE_2 (pB := pI) wI (kX (L_iload (x := y_) 7 X dL_others_21 rfl)) (kX (L_iconst (v := I 5) X dL_others_23 (by decide))) (fun v0 v1 st L a b hd hc hs h => by exact k_callS (st := st) X htr (M_L_low sv v0 v1) lk_L_low st_L_low ml_L_198 rfl (by rw [hR]; exact ⟨Nat.le_of_ble_eq_true rfl, Nat.le_of_ble_eq_true rfl⟩) (Nat.le_trans hd (by decide)) ⟨hc, hs⟩ dL_others_24 h)) (kS (S_istore (ev := fun person_13 => [(8, .int person_13), (7, .int meeting_10), (6, .int kind_3), (0, va_rf (some sv)), (1, va_rf (some (sv + 20))), (2, va_rf (some (sv + 21))), (3, va_rf (some (sv + 22))), (4, .int x_), (5, .int y_)]) X dL_others_27 (by rw [hN]; decide) (fun _ => rfl))) fun person_13 =>
  (KSB_if (KCE_2 wI (kX (L_iload (x := kind_3) 2 X dL_others_29 rfl)) (kX (L_iconst (v := I 2) X dL_others_31 (by decide))) (kF2 (C_lt_F X dL_others_32 (by decide))))
  (KSB_let (KXE_2 (pB := pI) wR (kX (L_aload_n (r := (some sv)) 3 X dL_others_35 rfl rfl)) (kX (L_iload (x := meeting_10) 1 X dL_others_36 rfl)) (fun v0 v1 st L a b hd hc hs h => by obtain ⟨rfl, h1⟩ := lgo_of h; exact k_callH (st := st) X htr (E_L_send sv v1) lkh_send stl_send ml_L_257 rfl (by rw [hR]; exact ⟨Nat.le_of_ble_eq_true rfl, Nat.le_of_ble_eq_true rfl⟩) (Nat.le_trans hd (by decide)) ⟨hc, hs⟩ dL_others_38 h1)) (kS (S_istore (ev := fun told_18 => [(9, .int told_18), (8, .int person_13), (7, .int meeting_10), (6, .int kind_3), (0, va_rf (some sv)), (1, va_rf (some (sv + 20))), (2, va_rf (some (sv + 21))), (3, va_rf (some (sv + 22))), (4, .int x_), (5, .int y_)]) X dL_others_41 (by rw [hN]; decide) (fun _ => rfl))) fun told_18 =>
  (KSB_do (KXE_dup2 wI (kX (L_aload_n (r := (some (sv + 22))) 7 X dL_others_43 rfl rfl)) (kX (L_iconst (v := I 1) X dL_others_44 (by decide))) (kD2 (S_dup2 X dL_others_45)) (kai X dL_others_46) (KXE_tern (KCE_1 (kX (L_iload (x := told_18) 0 X dL_others_47 rfl)) (kF1 (Z_lt_F X dL_others_49 (by decide)))) (kX (L_iconst (v := I 0) X dL_others_52 (by decide))) (kJ (S_goto X dL_others_53 (by decide))) (kX (L_iload (x := told_18) 0 X dL_others_56 rfl))) (k2 (O_iadd X dL_others_58)) (ksai X dL_others_59))
  (kretZ X C hr dL_others_117 (KXE_b2i (KCE_and (KCE_and (KCE_tern (KCE_2 wI (kX (L_iload (x := told_18) 0 X dL_others_60 rfl)) (kX (L_ldc (v := I (-1000003)) X dL_others_62 kd_L_38)) (kF2 (C_eq_F X dL_others_64 (by decide)))) (KCE_post (KCE_2 wI (KXE_2 wR (kX (L_aload_n (r := (some (sv + 22))) 7 X dL_others_67 rfl rfl)) (kX (L_iconst (v := I 1) X dL_others_68 (by decide))) (kai X dL_others_69)) (kX (L_sipush (v := I 145) X dL_others_70 (by decide))) (kF2 (C_gt_F X dL_others_73 (by decide)))) (kJ (S_goto X dL_others_76 (by decide)))) (KCE_and (KCE_1 (kX (L_iload (x := told_18) 0 X dL_others_79 rfl)) (kF1 (Z_ge_F X dL_others_81 (by decide)))) (KCE_2 wI (kX (L_iload (x := told_18) 0 X dL_others_84 rfl)) (kX (L_iconst (v := I 5) X dL_others_86 (by decide))) (kF2 (C_lt_F X dL_others_87 (by decide)))))) (KCE_2 wI (KXE_1 (pB := pI) (kX (L_aload_n (r := (some sv)) 4 X dL_others_90 rfl rfl)) (fun r st L a b hd hc hs h => by obtain ⟨rfl, h1⟩ := lgo_of h; exact k_callQ (st := st) X htr (M_X6_messages sv) (fun G S m hC => q_messages hC) lk_X6_messages im_X6_messages se_X6_messages ml_L_209 (by rw [hR]; exact ⟨Nat.le_of_ble_eq_true rfl, Nat.le_of_ble_eq_true rfl⟩) (Nat.le_trans hd (by decide)) ⟨hc, hs⟩ dL_others_91 h1)) (KXE_2 wR (kX (L_aload_n (r := (some (sv + 22))) 7 X dL_others_94 rfl rfl)) (kX (L_iconst (v := I 1) X dL_others_95 (by decide))) (kai X dL_others_96)) (kF2 (C_eq_F X dL_others_97 (by decide))))) (KCE_2 wI (KXE_2 (pB := pI) wR (kX (L_aload_n (r := (some sv)) 4 X dL_others_100 rfl rfl)) (KXE_2 wR (kX (L_aload_n (r := (some (sv + 22))) 7 X dL_others_101 rfl rfl)) (kX (L_iconst (v := I 0) X dL_others_102 (by decide))) (kai X dL_others_103)) (fun v0 v1 st L a b hd hc hs h => by obtain ⟨rfl, h1⟩ := lgo_of h; exact k_callH (st := st) X htr (E_L_send sv v1) lkh_send stl_send ml_L_257 rfl (by rw [hR]; exact ⟨Nat.le_of_ble_eq_true rfl, Nat.le_of_ble_eq_true rfl⟩) (Nat.le_trans hd (by decide)) ⟨hc, hs⟩ dL_others_104 h1)) (kX (L_ldc (v := I (-1000001)) X dL_others_107 kd_L_18)) (kF2 (C_eq_F X dL_others_109 (by decide))))) (kB (S_b1 X dL_others_112 dL_others_113 (by decide))) (kB (S_b0 X dL_others_116))))))
  (KSB_if (KCE_and (KCE_2 wI (kX (L_iload (x := kind_3) 2 X dL_others_118 rfl)) (kX (L_bipush (v := I 7) X dL_others_120 (by decide))) (kF2 (C_lt_F X dL_others_122 (by decide)))) (KCE_1 (KXE_2 wR (kX (L_aload_n (r := (some (sv + 22))) 6 X dL_others_125 rfl rfl)) (kX (L_iconst (v := I 1) X dL_others_126 (by decide))) (kai X dL_others_127)) (kF1 (Z_gt_F X dL_others_128 (by decide)))))
  (KSB_let (KXE_tern (KCE_1 (KXE_2 (pB := pI) wI (kX (L_iload (x := y_) 8 X dL_others_131 rfl)) (kX (L_iconst (v := I 2) X dL_others_133 (by decide))) (fun v0 v1 st L a b hd hc hs h => by exact k_callS (st := st) X htr (M_L_low sv v0 v1) lk_L_low st_L_low ml_L_198 rfl (by rw [hR]; exact ⟨Nat.le_of_ble_eq_true rfl, Nat.le_of_ble_eq_true rfl⟩) (Nat.le_trans hd (by decide)) ⟨hc, hs⟩ dL_others_134 h)) (kF1 (Z_eq_F X dL_others_137 (by decide)))) (KXE_2 (pB := pI) wI (KXE_2 wI (kX (L_iload (x := y_) 8 X dL_others_140 rfl)) (kX (L_iconst (v := I 1) X dL_others_142 (by decide))) (k2 (O_ishr X dL_others_143))) (KXE_2 wR (kX (L_aload_n (r := (some (sv + 22))) 6 X dL_others_144 rfl rfl)) (kX (L_iconst (v := I 1) X dL_others_145 (by decide))) (kai X dL_others_146)) (fun v0 v1 st L a b hd hc hs h => by exact k_callS (st := st) X htr (M_L_low sv v0 v1) lk_L_low st_L_low ml_L_198 rfl (by rw [hR]; exact ⟨Nat.le_of_ble_eq_true rfl, Nat.le_of_ble_eq_true rfl⟩) (Nat.le_trans hd (by decide)) ⟨hc, hs⟩ dL_others_147 h)) (kJ (S_goto X dL_others_150 (by decide))) (KXE_2 wI (KXE_2 wI (KXE_2 wR (kX (L_aload_n (r := (some (sv + 22))) 6 X dL_others_153 rfl rfl)) (kX (L_iconst (v := I 1) X dL_others_154 (by decide))) (kai X dL_others_155)) (kX (L_iconst (v := I 1) X dL_others_156 (by decide))) (k2 (O_isub X dL_others_157))) (KXE_2 (pB := pI) wI (KXE_2 wI (kX (L_iload (x := y_) 8 X dL_others_158 rfl)) (kX (L_iconst (v := I 1) X dL_others_160 (by decide))) (k2 (O_ishr X dL_others_161))) (KXE_tern (KCE_2 wI (KXE_2 wR (kX (L_aload_n (r := (some (sv + 22))) 6 X dL_others_162 rfl rfl)) (kX (L_iconst (v := I 1) X dL_others_163 (by decide))) (kai X dL_others_164)) (kX (L_bipush (v := I 6) X dL_others_165 (by decide))) (kF2 (C_lt_F X dL_others_167 (by decide)))) (KXE_2 wR (kX (L_aload_n (r := (some (sv + 22))) 6 X dL_others_170 rfl rfl)) (kX (L_iconst (v := I 1) X dL_others_171 (by decide))) (kai X dL_others_172)) (kJ (S_goto X dL_others_173 (by decide))) (kX (L_bipush (v := I 6) X dL_others_176 (by decide)))) (fun v0 v1 st L a b hd hc hs h => by exact k_callS (st := st) X htr (M_L_low sv v0 v1) lk_L_low st_L_low ml_L_198 rfl (by rw [hR]; exact ⟨Nat.le_of_ble_eq_true rfl, Nat.le_of_ble_eq_true rfl⟩) (Nat.le_trans hd (by decide)) ⟨hc, hs⟩ dL_others_178 h)) (k2 (O_isub X dL_others_181)))) (kS (S_istore (ev := fun message_84 => [(9, .int message_84), (8, .int person_13), (7, .int meeting_10), (6, .int kind_3), (0, va_rf (some sv)), (1, va_rf (some (sv + 20))), (2, va_rf (some (sv + 21))), (3, va_rf (some (sv + 22))), (4, .int x_), (5, .int y_)]) X dL_others_182 (by rw [hN]; decide) (fun _ => rfl))) fun message_84 =>
  (KSB_let (KXE_2 (pB := pI) wR (kX (L_aload_n (r := (some sv)) 4 X dL_others_184 rfl rfl)) (kX (L_iload (x := message_84) 0 X dL_others_185 rfl)) (fun v0 v1 st L a b hd hc hs h => by obtain ⟨rfl, h1⟩ := lgo_of h; exact k_callH (st := st) X htr (E_L_receiver sv v1) lkh_receiver stl_receiver ml_L_188 rfl (by rw [hR]; exact ⟨Nat.le_of_ble_eq_true rfl, Nat.le_of_ble_eq_true rfl⟩) (Nat.le_trans hd (by decide)) ⟨hc, hs⟩ dL_others_187 h1)) (kS (S_istore (ev := fun to_87 => [(10, .int to_87), (9, .int message_84), (8, .int person_13), (7, .int meeting_10), (6, .int kind_3), (0, va_rf (some sv)), (1, va_rf (some (sv + 20))), (2, va_rf (some (sv + 21))), (3, va_rf (some (sv + 22))), (4, .int x_), (5, .int y_)]) X dL_others_190 (by rw [hN]; decide) (fun _ => rfl))) fun to_87 =>
  (KSB_let (KXE_2 (pB := pI) wR (kX (L_aload_n (r := (some sv)) 5 X dL_others_192 rfl rfl)) (kX (L_iload (x := message_84) 1 X dL_others_193 rfl)) (fun v0 v1 st L a b hd hc hs h => by obtain ⟨rfl, h1⟩ := lgo_of h; exact k_callH (st := st) X htr (E_L_kindOf sv v1) lkh_kindOf stl_kindOf ml_L_186 rfl (by rw [hR]; exact ⟨Nat.le_of_ble_eq_true rfl, Nat.le_of_ble_eq_true rfl⟩) (Nat.le_trans hd (by decide)) ⟨hc, hs⟩ dL_others_195 h1)) (kS (S_istore (ev := fun type_90 => [(11, .int type_90), (10, .int to_87), (9, .int message_84), (8, .int person_13), (7, .int meeting_10), (6, .int kind_3), (0, va_rf (some sv)), (1, va_rf (some (sv + 20))), (2, va_rf (some (sv + 21))), (3, va_rf (some (sv + 22))), (4, .int x_), (5, .int y_)]) X dL_others_198 (by rw [hN]; decide) (fun _ => rfl))) fun type_90 =>
  (KSB_let (KXE_2 (pB := pI) wR (kX (L_aload_n (r := (some sv)) 6 X dL_others_200 rfl rfl)) (kX (L_iload (x := message_84) 2 X dL_others_201 rfl)) (fun v0 v1 st L a b hd hc hs h => by obtain ⟨rfl, h1⟩ := lgo_of h; exact k_callH (st := st) X htr (E_L_deliver sv v1) lkh_deliver stl_deliver ml_L_231 rfl (by rw [hR]; exact ⟨Nat.le_of_ble_eq_true rfl, Nat.le_of_ble_eq_true rfl⟩) (Nat.le_trans hd (by decide)) ⟨hc, hs⟩ dL_others_203 h1)) (kS (S_istore (ev := fun told_93 => [(12, .int told_93), (11, .int type_90), (10, .int to_87), (9, .int message_84), (8, .int person_13), (7, .int meeting_10), (6, .int kind_3), (0, va_rf (some sv)), (1, va_rf (some (sv + 20))), (2, va_rf (some (sv + 21))), (3, va_rf (some (sv + 22))), (4, .int x_), (5, .int y_)]) X dL_others_206 (by rw [hN]; decide) (fun _ => rfl))) fun told_93 =>
  (KSB_do (KXE_dup2 wI (kX (L_aload_n (r := (some (sv + 21))) 9 X dL_others_208 rfl rfl)) (kX (L_iload (x := to_87) 2 X dL_others_209 rfl)) (kD2 (S_dup2 X dL_others_211)) (kai X dL_others_212) (KXE_tern (KCE_and (KCE_2 wI (kX (L_iload (x := told_93) 0 X dL_others_213 rfl)) (kX (L_iconst (v := I 1) X dL_others_215 (by decide))) (kF2 (C_eq_F X dL_others_216 (by decide)))) (KCE_2 wI (kX (L_iload (x := type_90) 1 X dL_others_219 rfl)) (kX (L_iconst (v := I 2) X dL_others_221 (by decide))) (kF2 (C_lt_F X dL_others_222 (by decide))))) (kX (L_iconst (v := I 1) X dL_others_225 (by decide))) (kJ (S_goto X dL_others_226 (by decide))) (kX (L_iconst (v := I 0) X dL_others_229 (by decide)))) (k2 (O_iadd X dL_others_230)) (ksai X dL_others_231))
  (kretZ X C hr dL_others_277 (KXE_b2i (KCE_and (KCE_and (KCE_and (KCE_1 (kX (L_iload (x := told_93) 0 X dL_others_232 rfl)) (kF1 (Z_ge_F X dL_others_234 (by decide)))) (KCE_2 wI (KXE_2 (pB := pI) wR (kX (L_aload_n (r := (some sv)) 7 X dL_others_237 rfl rfl)) (kX (L_iload (x := to_87) 2 X dL_others_238 rfl)) (fun v0 v1 st L a b hd hc hs h => by obtain ⟨rfl, h1⟩ := lgo_of h; exact k_callH (st := st) X htr (E_L_mark sv v1) lkh_mark stl_mark ml_L_196 rfl (by rw [hR]; exact ⟨Nat.le_of_ble_eq_true rfl, Nat.le_of_ble_eq_true rfl⟩) (Nat.le_trans hd (by decide)) ⟨hc, hs⟩ dL_others_240 h1)) (KXE_2 wR (kX (L_aload_n (r := (some (sv + 21))) 9 X dL_others_243 rfl rfl)) (kX (L_iload (x := to_87) 2 X dL_others_244 rfl)) (kai X dL_others_246)) (kF2 (C_eq_F X dL_others_247 (by decide))))) (KCE_1 (KXE_2 (pB := pI) wR (kX (L_aload_n (r := (some sv)) 7 X dL_others_250 rfl rfl)) (kX (L_iload (x := message_84) 3 X dL_others_251 rfl)) (fun v0 v1 st L a b hd hc hs h => by obtain ⟨rfl, h1⟩ := lgo_of h; exact k_callH (st := st) X htr (E_L_deliver sv v1) lkh_deliver stl_deliver ml_L_231 rfl (by rw [hR]; exact ⟨Nat.le_of_ble_eq_true rfl, Nat.le_of_ble_eq_true rfl⟩) (Nat.le_trans hd (by decide)) ⟨hc, hs⟩ dL_others_253 h1)) (kF1 (Z_eq_F X dL_others_256 (by decide))))) (KCE_2 wI (KXE_2 (pB := pI) wR (kX (L_aload_n (r := (some sv)) 7 X dL_others_259 rfl rfl)) (kX (L_iload (x := to_87) 2 X dL_others_260 rfl)) (fun v0 v1 st L a b hd hc hs h => by obtain ⟨rfl, h1⟩ := lgo_of h; exact k_callH (st := st) X htr (E_L_mark sv v1) lkh_mark stl_mark ml_L_196 rfl (by rw [hR]; exact ⟨Nat.le_of_ble_eq_true rfl, Nat.le_of_ble_eq_true rfl⟩) (Nat.le_trans hd (by decide)) ⟨hc, hs⟩ dL_others_262 h1)) (KXE_2 wR (kX (L_aload_n (r := (some (sv + 21))) 9 X dL_others_265 rfl rfl)) (kX (L_iload (x := to_87) 2 X dL_others_266 rfl)) (kai X dL_others_268)) (kF2 (C_eq_F X dL_others_269 (by decide))))) (kB (S_b1 X dL_others_272 dL_others_273 (by decide))) (kB (S_b0 X dL_others_276)))))))))
  (KSB_let (KXE_3 (pB := pI) wR wI (kX (L_aload_n (r := (some sv)) 3 X dL_others_278 rfl rfl)) (kX (L_iload (x := person_13) 0 X dL_others_279 rfl)) (kX (L_iload (x := meeting_10) 1 X dL_others_281 rfl)) (fun v0 v1 v2 st L a b hd hc hs h => by obtain ⟨rfl, h1⟩ := lgo_of h; exact k_callH (st := st) X htr (E_L_dates sv v1 v2) lkh_dates stl_dates ml_L_164 rfl (by rw [hR]; exact ⟨Nat.le_of_ble_eq_true rfl, Nat.le_of_ble_eq_true rfl⟩) (Nat.le_trans hd (by decide)) ⟨hc, hs⟩ dL_others_283 h1)) (kS (S_istore (ev := fun dates_128 => [(9, .int dates_128), (8, .int person_13), (7, .int meeting_10), (6, .int kind_3), (0, va_rf (some sv)), (1, va_rf (some (sv + 20))), (2, va_rf (some (sv + 21))), (3, va_rf (some (sv + 22))), (4, .int x_), (5, .int y_)]) X dL_others_286 (by rw [hN]; decide) (fun _ => rfl))) fun dates_128 =>
  (KSB_let (KXE_b2i (KCE_and (KCE_2 wI (KXE_3 (pB := pI) wR wI (kX (L_aload_n (r := (some sv)) 4 X dL_others_288 rfl rfl)) (kX (L_iload (x := person_13) 1 X dL_others_289 rfl)) (kX (L_iload (x := meeting_10) 2 X dL_others_291 rfl)) (fun v0 v1 v2 st L a b hd hc hs h => by obtain ⟨rfl, h1⟩ := lgo_of h; exact k_callH (st := st) X htr (E_L_isThere sv v1 v2) lkh_isThere stl_isThere ml_L_162 rfl (by rw [hR]; exact ⟨Nat.le_of_ble_eq_true rfl, Nat.le_of_ble_eq_true rfl⟩) (Nat.le_trans hd (by decide)) ⟨hc, hs⟩ dL_others_293 h1)) (kX (L_iconst (v := I 1) X dL_others_296 (by decide))) (kF2 (C_eq_F X dL_others_297 (by decide)))) (KCE_2 wI (KXE_2 wI (KXE_2 wR (kX (L_aload_n (r := (some (sv + 20))) 5 X dL_others_300 rfl rfl)) (kX (L_iload (x := meeting_10) 2 X dL_others_301 rfl)) (kai X dL_others_303)) (kX (L_bipush (v := I 8) X dL_others_304 (by decide))) (krem X dL_others_306)) (kX (L_iload (x := person_13) 1 X dL_others_307 rfl)) (kF2 (C_ne_F X dL_others_309 (by decide))))) (kB (S_b1 X dL_others_312 dL_others_313 (by decide))) (kB (S_b0 X dL_others_316))) (kS (S_istore (ev := fun can_142 => [(10, .int can_142), (9, .int dates_128), (8, .int person_13), (7, .int meeting_10), (6, .int kind_3), (0, va_rf (some sv)), (1, va_rf (some (sv + 20))), (2, va_rf (some (sv + 21))), (3, va_rf (some (sv + 22))), (4, .int x_), (5, .int y_)]) X dL_others_317 (by rw [hN]; decide) (fun _ => rfl))) fun can_142 =>
  (KSB_let (KXE_tern (KCE_1 (kX (L_iload (x := dates_128) 1 X dL_others_319 rfl)) (kF1 (Z_gt_F X dL_others_321 (by decide)))) (KXE_4 (pB := pI) wR wI wI (kX (L_aload_n (r := (some sv)) 5 X dL_others_324 rfl rfl)) (kX (L_iload (x := person_13) 2 X dL_others_325 rfl)) (kX (L_iload (x := meeting_10) 3 X dL_others_327 rfl)) (KXE_2 (pB := pI) wI (KXE_2 wI (kX (L_iload (x := y_) 10 X dL_others_329 rfl)) (kX (L_iconst (v := I 3) X dL_others_331 (by decide))) (k2 (O_ishr X dL_others_332))) (kX (L_iload (x := dates_128) 1 X dL_others_333 rfl)) (fun v0 v1 st L a b hd hc hs h => by exact k_callS (st := st) X htr (M_L_low sv v0 v1) lk_L_low st_L_low ml_L_198 rfl (by rw [hR]; exact ⟨Nat.le_of_ble_eq_true rfl, Nat.le_of_ble_eq_true rfl⟩) (Nat.le_trans hd (by decide)) ⟨hc, hs⟩ dL_others_335 h)) (fun v0 v1 v2 v3 st L a b hd hc hs h => by obtain ⟨rfl, h1⟩ := lgo_of h; exact k_callH (st := st) X htr (E_L_dateAt sv v1 v2 v3) lkh_dateAt stl_dateAt ml_L_166 rfl (by rw [hR]; exact ⟨Nat.le_of_ble_eq_true rfl, Nat.le_of_ble_eq_true rfl⟩) (Nat.le_trans hd (by decide)) ⟨hc, hs⟩ dL_others_338 h1)) (kJ (S_goto X dL_others_341 (by decide))) (KXE_2 (pB := pI) wI (KXE_2 wI (kX (L_iload (x := y_) 10 X dL_others_344 rfl)) (kX (L_iconst (v := I 3) X dL_others_346 (by decide))) (k2 (O_ishr X dL_others_347))) (kX (L_bipush (v := I 60) X dL_others_348 (by decide))) (fun v0 v1 st L a b hd hc hs h => by exact k_callS (st := st) X htr (M_L_low sv v0 v1) lk_L_low st_L_low ml_L_198 rfl (by rw [hR]; exact ⟨Nat.le_of_ble_eq_true rfl, Nat.le_of_ble_eq_true rfl⟩) (Nat.le_trans hd (by decide)) ⟨hc, hs⟩ dL_others_350 h))) (kS (S_istore (ev := fun day_157 => [(11, .int day_157), (10, .int can_142), (9, .int dates_128), (8, .int person_13), (7, .int meeting_10), (6, .int kind_3), (0, va_rf (some sv)), (1, va_rf (some (sv + 20))), (2, va_rf (some (sv + 21))), (3, va_rf (some (sv + 22))), (4, .int x_), (5, .int y_)]) X dL_others_353 (by rw [hN]; decide) (fun _ => rfl))) fun day_157 =>
  (KSB_if (KCE_2 wI (kX (L_iload (x := kind_3) 5 X dL_others_355 rfl)) (kX (L_bipush (v := I 10) X dL_others_357 (by decide))) (kF2 (C_lt_F X dL_others_359 (by decide))))
  (KSB_let (KXE_tern (KCE_1 (KXE_2 (pB := pI) wI (KXE_2 wI (kX (L_iload (x := y_) 11 X dL_others_362 rfl)) (kX (L_bipush (v := I 10) X dL_others_364 (by decide))) (k2 (O_ishr X dL_others_366))) (kX (L_iconst (v := I 2) X dL_others_367 (by decide))) (fun v0 v1 st L a b hd hc hs h => by exact k_callS (st := st) X htr (M_L_low sv v0 v1) lk_L_low st_L_low ml_L_198 rfl (by rw [hR]; exact ⟨Nat.le_of_ble_eq_true rfl, Nat.le_of_ble_eq_true rfl⟩) (Nat.le_trans hd (by decide)) ⟨hc, hs⟩ dL_others_368 h)) (kF1 (Z_eq_F X dL_others_371 (by decide)))) (kX (L_iconst (v := I (-1)) X dL_others_374 (by decide))) (kJ (S_goto X dL_others_375 (by decide))) (kX (L_iload (x := day_157) 0 X dL_others_378 rfl))) (kS (S_istore (ev := fun when_166 => [(12, .int when_166), (11, .int day_157), (10, .int can_142), (9, .int dates_128), (8, .int person_13), (7, .int meeting_10), (6, .int kind_3), (0, va_rf (some sv)), (1, va_rf (some (sv + 20))), (2, va_rf (some (sv + 21))), (3, va_rf (some (sv + 22))), (4, .int x_), (5, .int y_)]) X dL_others_380 (by rw [hN]; decide) (fun _ => rfl))) fun when_166 =>
  (KSB_let (KXE_2 wI (kX (L_iconst (v := I 1) X dL_others_382 (by decide))) (KXE_2 (pB := pI) wI (KXE_2 wI (kX (L_iload (x := y_) 12 X dL_others_383 rfl)) (kX (L_bipush (v := I 11) X dL_others_385 (by decide))) (k2 (O_ishr X dL_others_387))) (kX (L_iconst (v := I 3) X dL_others_388 (by decide))) (fun v0 v1 st L a b hd hc hs h => by exact k_callS (st := st) X htr (M_L_low sv v0 v1) lk_L_low st_L_low ml_L_198 rfl (by rw [hR]; exact ⟨Nat.le_of_ble_eq_true rfl, Nat.le_of_ble_eq_true rfl⟩) (Nat.le_trans hd (by decide)) ⟨hc, hs⟩ dL_others_389 h)) (k2 (O_iadd X dL_others_392))) (kS (S_istore (ev := fun answer_173 => [(13, .int answer_173), (12, .int when_166), (11, .int day_157), (10, .int can_142), (9, .int dates_128), (8, .int person_13), (7, .int meeting_10), (6, .int kind_3), (0, va_rf (some sv)), (1, va_rf (some (sv + 20))), (2, va_rf (some (sv + 21))), (3, va_rf (some (sv + 22))), (4, .int x_), (5, .int y_)]) X dL_others_393 (by rw [hN]; decide) (fun _ => rfl))) fun answer_173 =>
  (KSB_let (KXE_5 (pB := pI) wR wI wI wI (kX (L_aload_n (r := (some sv)) 8 X dL_others_395 rfl rfl)) (kX (L_iload (x := person_13) 5 X dL_others_396 rfl)) (kX (L_iload (x := meeting_10) 6 X dL_others_398 rfl)) (kX (L_iload (x := when_166) 1 X dL_others_400 rfl)) (kX (L_iload (x := answer_173) 0 X dL_others_402 rfl)) (fun v0 v1 v2 v3 v4 st L a b hd hc hs h => by obtain ⟨rfl, h1⟩ := lgo_of h; exact k_callH (st := st) X htr (E_L_answer sv v1 v2 v3 v4) lkh_answer stl_answer ml_L_259 rfl (by rw [hR]; exact ⟨Nat.le_of_ble_eq_true rfl, Nat.le_of_ble_eq_true rfl⟩) (Nat.le_trans hd (by decide)) ⟨hc, hs⟩ dL_others_404 h1)) (kS (S_istore (ev := fun told_179 => [(14, .int told_179), (13, .int answer_173), (12, .int when_166), (11, .int day_157), (10, .int can_142), (9, .int dates_128), (8, .int person_13), (7, .int meeting_10), (6, .int kind_3), (0, va_rf (some sv)), (1, va_rf (some (sv + 20))), (2, va_rf (some (sv + 21))), (3, va_rf (some (sv + 22))), (4, .int x_), (5, .int y_)]) X dL_others_407 (by rw [hN]; decide) (fun _ => rfl))) fun told_179 =>
  (KSB_let (KXE_b2i (KCE_and (KCE_and (KCE_1 (kX (L_iload (x := can_142) 4 X dL_others_409 rfl)) (kF1 (Z_ne_F X dL_others_411 (by decide)))) (KCE_or (KCE_1 (kX (L_iload (x := when_166) 2 X dL_others_414 rfl)) (kF1 (Z_lt_T X dL_others_416 (by decide)))) (KCE_1 (kX (L_iload (x := dates_128) 5 X dL_others_419 rfl)) (kF1 (Z_gt_F X dL_others_421 (by decide)))))) (KCE_2 wI (KXE_2 wR (kX (L_aload_n (r := (some (sv + 22))) 12 X dL_others_424 rfl rfl)) (kX (L_iconst (v := I 1) X dL_others_425 (by decide))) (kai X dL_others_426)) (kX (L_sipush (v := I 150) X dL_others_427 (by decide))) (kF2 (C_lt_F X dL_others_430 (by decide))))) (kB (S_b1 X dL_others_433 dL_others_434 (by decide))) (kB (S_b0 X dL_others_437))) (kS (S_istore (ev := fun may_191 => [(15, .int may_191), (14, .int told_179), (13, .int answer_173), (12, .int when_166), (11, .int day_157), (10, .int can_142), (9, .int dates_128), (8, .int person_13), (7, .int meeting_10), (6, .int kind_3), (0, va_rf (some sv)), (1, va_rf (some (sv + 20))), (2, va_rf (some (sv + 21))), (3, va_rf (some (sv + 22))), (4, .int x_), (5, .int y_)]) X dL_others_438 (by rw [hN]; decide) (fun _ => rfl))) fun may_191 =>
  (KSB_let (KXE_b2i (KCE_and (KCE_and (KCE_and (KCE_2 wI (kX (L_iload (x := told_179) 1 X dL_others_440 rfl)) (KXE_tern (KCE_1 (kX (L_iload (x := may_191) 0 X dL_others_442 rfl)) (kF1 (Z_ne_F X dL_others_444 (by decide)))) (KXE_2 wR (kX (L_aload_n (r := (some (sv + 22))) 13 X dL_others_447 rfl rfl)) (kX (L_iconst (v := I 1) X dL_others_448 (by decide))) (kai X dL_others_449)) (kJ (S_goto X dL_others_450 (by decide))) (kX (L_ldc (v := I (-1000003)) X dL_others_453 kd_L_38))) (kF2 (C_eq_F X dL_others_455 (by decide)))) (KCE_2 wI (KXE_5 (pB := pI) wR wI wI wI (kX (L_aload_n (r := (some sv)) 10 X dL_others_458 rfl rfl)) (kX (L_iload (x := person_13) 7 X dL_others_459 rfl)) (kX (L_iload (x := meeting_10) 8 X dL_others_461 rfl)) (kX (L_bipush (v := I 60) X dL_others_463 (by decide))) (kX (L_iconst (v := I 1) X dL_others_465 (by decide))) (fun v0 v1 v2 v3 v4 st L a b hd hc hs h => by obtain ⟨rfl, h1⟩ := lgo_of h; exact k_callH (st := st) X htr (E_L_answer sv v1 v2 v3 v4) lkh_answer stl_answer ml_L_259 rfl (by rw [hR]; exact ⟨Nat.le_of_ble_eq_true rfl, Nat.le_of_ble_eq_true rfl⟩) (Nat.le_trans hd (by decide)) ⟨hc, hs⟩ dL_others_466 h1)) (kX (L_ldc (v := I (-1000002)) X dL_others_469 kd_L_21)) (kF2 (C_eq_F X dL_others_471 (by decide))))) (KCE_2 wI (KXE_5 (pB := pI) wR wI wI wI (kX (L_aload_n (r := (some sv)) 10 X dL_others_474 rfl rfl)) (kX (L_iload (x := person_13) 7 X dL_others_475 rfl)) (kX (L_iload (x := meeting_10) 8 X dL_others_477 rfl)) (kX (L_iconst (v := I (-1)) X dL_others_479 (by decide))) (kX (L_iconst (v := I 4) X dL_others_480 (by decide))) (fun v0 v1 v2 v3 v4 st L a b hd hc hs h => by obtain ⟨rfl, h1⟩ := lgo_of h; exact k_callH (st := st) X htr (E_L_answer sv v1 v2 v3 v4) lkh_answer stl_answer ml_L_259 rfl (by rw [hR]; exact ⟨Nat.le_of_ble_eq_true rfl, Nat.le_of_ble_eq_true rfl⟩) (Nat.le_trans hd (by decide)) ⟨hc, hs⟩ dL_others_481 h1)) (kX (L_ldc (v := I (-1000002)) X dL_others_484 kd_L_21)) (kF2 (C_eq_F X dL_others_486 (by decide))))) (KCE_2 wI (KXE_5 (pB := pI) wR wI wI wI (kX (L_aload_n (r := (some sv)) 10 X dL_others_489 rfl rfl)) (kX (L_iconst (v := I 5) X dL_others_490 (by decide))) (kX (L_iload (x := meeting_10) 8 X dL_others_491 rfl)) (kX (L_bipush (v := I 60) X dL_others_493 (by decide))) (kX (L_iconst (v := I 0) X dL_others_495 (by decide))) (fun v0 v1 v2 v3 v4 st L a b hd hc hs h => by obtain ⟨rfl, h1⟩ := lgo_of h; exact k_callH (st := st) X htr (E_L_answer sv v1 v2 v3 v4) lkh_answer stl_answer ml_L_259 rfl (by rw [hR]; exact ⟨Nat.le_of_ble_eq_true rfl, Nat.le_of_ble_eq_true rfl⟩) (Nat.le_trans hd (by decide)) ⟨hc, hs⟩ dL_others_496 h1)) (kX (L_ldc (v := I (-1000001)) X dL_others_499 kd_L_18)) (kF2 (C_eq_F X dL_others_501 (by decide))))) (kB (S_b1 X dL_others_504 dL_others_505 (by decide))) (kB (S_b0 X dL_others_508))) (kS (S_istore (ev := fun is_223 => [(16, .int is_223), (15, .int may_191), (14, .int told_179), (13, .int answer_173), (12, .int when_166), (11, .int day_157), (10, .int can_142), (9, .int dates_128), (8, .int person_13), (7, .int meeting_10), (6, .int kind_3), (0, va_rf (some sv)), (1, va_rf (some (sv + 20))), (2, va_rf (some (sv + 21))), (3, va_rf (some (sv + 22))), (4, .int x_), (5, .int y_)]) X dL_others_509 (by rw [hN]; decide) (fun _ => rfl))) fun is_223 =>
  (KSB_do (KXE_dup2 wI (kX (L_aload_n (r := (some (sv + 22))) 14 X dL_others_511 rfl rfl)) (kX (L_iconst (v := I 1) X dL_others_512 (by decide))) (kD2 (S_dup2 X dL_others_513)) (kai X dL_others_514) (KXE_tern (KCE_1 (kX (L_iload (x := may_191) 1 X dL_others_515 rfl)) (kF1 (Z_ne_F X dL_others_517 (by decide)))) (kX (L_iconst (v := I 1) X dL_others_520 (by decide))) (kJ (S_goto X dL_others_521 (by decide))) (kX (L_iconst (v := I 0) X dL_others_524 (by decide)))) (k2 (O_iadd X dL_others_525)) (ksai X dL_others_526))
  (KSB_do (KXE_dup2 wI (kX (L_aload_n (r := (some (sv + 21))) 13 X dL_others_527 rfl rfl)) (kX (L_iload (x := person_13) 8 X dL_others_528 rfl)) (kD2 (S_dup2 X dL_others_530)) (kai X dL_others_531) (KXE_tern (KCE_1 (kX (L_iload (x := may_191) 1 X dL_others_532 rfl)) (kF1 (Z_ne_F X dL_others_534 (by decide)))) (kX (L_iconst (v := I 1) X dL_others_537 (by decide))) (kJ (S_goto X dL_others_538 (by decide))) (kX (L_iconst (v := I 0) X dL_others_541 (by decide)))) (k2 (O_iadd X dL_others_542)) (ksai X dL_others_543))
  (kretZ X C hr dL_others_663 (KXE_b2i (KCE_and (KCE_and (KCE_and (KCE_1 (kX (L_iload (x := is_223) 0 X dL_others_544 rfl)) (kF1 (Z_ne_F X dL_others_546 (by decide)))) (KCE_2 wI (KXE_2 (pB := pI) wR (kX (L_aload_n (r := (some sv)) 11 X dL_others_549 rfl rfl)) (kX (L_iload (x := person_13) 8 X dL_others_550 rfl)) (fun v0 v1 st L a b hd hc hs h => by obtain ⟨rfl, h1⟩ := lgo_of h; exact k_callH (st := st) X htr (E_L_mark sv v1) lkh_mark stl_mark ml_L_196 rfl (by rw [hR]; exact ⟨Nat.le_of_ble_eq_true rfl, Nat.le_of_ble_eq_true rfl⟩) (Nat.le_trans hd (by decide)) ⟨hc, hs⟩ dL_others_552 h1)) (KXE_2 wR (kX (L_aload_n (r := (some (sv + 21))) 13 X dL_others_555 rfl rfl)) (kX (L_iload (x := person_13) 8 X dL_others_556 rfl)) (kai X dL_others_558)) (kF2 (C_eq_F X dL_others_559 (by decide))))) (KCE_or (KCE_not (KCE_1 (kX (L_iload (x := may_191) 1 X dL_others_562 rfl)) (kF1 (Z_ne_F X dL_others_564 (by decide))))) (KCE_and (KCE_and (KCE_and (KCE_and (KCE_2 wI (KXE_2 (pB := pI) wR (kX (L_aload_n (r := (some sv)) 11 X dL_others_567 rfl rfl)) (kX (L_iload (x := told_179) 2 X dL_others_568 rfl)) (fun v0 v1 st L a b hd hc hs h => by obtain ⟨rfl, h1⟩ := lgo_of h; exact k_callH (st := st) X htr (E_L_kindOf sv v1) lkh_kindOf stl_kindOf ml_L_186 rfl (by rw [hR]; exact ⟨Nat.le_of_ble_eq_true rfl, Nat.le_of_ble_eq_true rfl⟩) (Nat.le_trans hd (by decide)) ⟨hc, hs⟩ dL_others_570 h1)) (kX (L_iconst (v := I 1) X dL_others_573 (by decide))) (kF2 (C_eq_F X dL_others_574 (by decide)))) (KCE_2 wI (KXE_2 (pB := pI) wR (kX (L_aload_n (r := (some sv)) 11 X dL_others_577 rfl rfl)) (kX (L_iload (x := told_179) 2 X dL_others_578 rfl)) (fun v0 v1 st L a b hd hc hs h => by obtain ⟨rfl, h1⟩ := lgo_of h; exact k_callH (st := st) X htr (E_L_receiver sv v1) lkh_receiver stl_receiver ml_L_188 rfl (by rw [hR]; exact ⟨Nat.le_of_ble_eq_true rfl, Nat.le_of_ble_eq_true rfl⟩) (Nat.le_trans hd (by decide)) ⟨hc, hs⟩ dL_others_580 h1)) (KXE_2 wI (KXE_2 wR (kX (L_aload_n (r := (some (sv + 20))) 12 X dL_others_583 rfl rfl)) (kX (L_iload (x := meeting_10) 9 X dL_others_584 rfl)) (kai X dL_others_586)) (kX (L_bipush (v := I 8) X dL_others_587 (by decide))) (krem X dL_others_589)) (kF2 (C_eq_F X dL_others_590 (by decide))))) (KCE_2 wI (KXE_2 (pB := pI) wR (kX (L_aload_n (r := (some sv)) 11 X dL_others_593 rfl rfl)) (kX (L_iload (x := told_179) 2 X dL_others_594 rfl)) (fun v0 v1 st L a b hd hc hs h => by obtain ⟨rfl, h1⟩ := lgo_of h; exact k_callH (st := st) X htr (E_L_lineLength sv v1) lkh_lineLength stl_lineLength ml_L_233 rfl (by rw [hR]; exact ⟨Nat.le_of_ble_eq_true rfl, Nat.le_of_ble_eq_true rfl⟩) (Nat.le_trans hd (by decide)) ⟨hc, hs⟩ dL_others_596 h1)) (kX (L_bipush (v := I 20) X dL_others_599 (by decide))) (kF2 (C_gt_F X dL_others_601 (by decide))))) (KCE_2 wI (KXE_3 (pB := pI) wR wI (kX (L_aload_n (r := (some sv)) 11 X dL_others_604 rfl rfl)) (kX (L_iload (x := told_179) 2 X dL_others_605 rfl)) (kX (L_iconst (v := I 0) X dL_others_607 (by decide))) (fun v0 v1 v2 st L a b hd hc hs h => by obtain ⟨rfl, h1⟩ := lgo_of h; exact k_callH (st := st) X htr (E_L_lineChar sv v1 v2) lkh_lineChar stl_lineChar ml_L_235 rfl (by rw [hR]; exact ⟨Nat.le_of_ble_eq_true rfl, Nat.le_of_ble_eq_true rfl⟩) (Nat.le_trans hd (by decide)) ⟨hc, hs⟩ dL_others_608 h1)) (kX (L_bipush (v := I 114) X dL_others_611 (by decide))) (kF2 (C_eq_F X dL_others_613 (by decide))))) (KCE_2 wI (KXE_3 (pB := pI) wR wI (kX (L_aload_n (r := (some sv)) 11 X dL_others_616 rfl rfl)) (kX (L_iload (x := told_179) 2 X dL_others_617 rfl)) (KXE_2 (pB := pI) wR (kX (L_aload_n (r := (some sv)) 11 X dL_others_619 rfl rfl)) (kX (L_iload (x := told_179) 2 X dL_others_620 rfl)) (fun v0 v1 st L a b hd hc hs h => by obtain ⟨rfl, h1⟩ := lgo_of h; exact k_callH (st := st) X htr (E_L_lineLength sv v1) lkh_lineLength stl_lineLength ml_L_233 rfl (by rw [hR]; exact ⟨Nat.le_of_ble_eq_true rfl, Nat.le_of_ble_eq_true rfl⟩) (Nat.le_trans hd (by decide)) ⟨hc, hs⟩ dL_others_622 h1)) (fun v0 v1 v2 st L a b hd hc hs h => by obtain ⟨rfl, h1⟩ := lgo_of h; exact k_callH (st := st) X htr (E_L_lineChar sv v1 v2) lkh_lineChar stl_lineChar ml_L_235 rfl (by rw [hR]; exact ⟨Nat.le_of_ble_eq_true rfl, Nat.le_of_ble_eq_true rfl⟩) (Nat.le_trans hd (by decide)) ⟨hc, hs⟩ dL_others_625 h1)) (kX (L_ldc (v := I (-1000001)) X dL_others_628 kd_L_18)) (kF2 (C_eq_F X dL_others_630 (by decide))))))) (KCE_or (KCE_or (KCE_not (KCE_1 (kX (L_iload (x := may_191) 1 X dL_others_633 rfl)) (kF1 (Z_ne_F X dL_others_635 (by decide))))) (KCE_1 (kX (L_iload (x := when_166) 4 X dL_others_638 rfl)) (kF1 (Z_lt_T X dL_others_640 (by decide))))) (KCE_2 wI (KXE_4 (pB := pI) wR wI wI (kX (L_aload_n (r := (some sv)) 11 X dL_others_643 rfl rfl)) (kX (L_iload (x := person_13) 8 X dL_others_644 rfl)) (kX (L_iload (x := meeting_10) 9 X dL_others_646 rfl)) (kX (L_iload (x := day_157) 5 X dL_others_648 rfl)) (fun v0 v1 v2 v3 st L a b hd hc hs h => by obtain ⟨rfl, h1⟩ := lgo_of h; exact k_callH (st := st) X htr (E_L_ownAnswer sv v1 v2 v3) lkh_ownAnswer stl_ownAnswer ml_L_171 rfl (by rw [hR]; exact ⟨Nat.le_of_ble_eq_true rfl, Nat.le_of_ble_eq_true rfl⟩) (Nat.le_trans hd (by decide)) ⟨hc, hs⟩ dL_others_650 h1)) (kX (L_iload (x := answer_173) 3 X dL_others_653 rfl)) (kF2 (C_eq_F X dL_others_655 (by decide)))))) (kB (S_b1 X dL_others_658 dL_others_659 (by decide))) (kB (S_b0 X dL_others_662)))))))))))
  (KSB_if (KCE_2 wI (kX (L_iload (x := kind_3) 5 X dL_others_664 rfl)) (kX (L_bipush (v := I 10) X dL_others_666 (by decide))) (kF2 (C_eq_F X dL_others_668 (by decide))))
  (KSB_let (KXE_2 (pB := pI) wI (KXE_2 wI (kX (L_iload (x := y_) 11 X dL_others_671 rfl)) (kX (L_bipush (v := I 10) X dL_others_673 (by decide))) (k2 (O_ishr X dL_others_675))) (kX (L_iconst (v := I 5) X dL_others_676 (by decide))) (fun v0 v1 st L a b hd hc hs h => by exact k_callS (st := st) X htr (M_L_low sv v0 v1) lk_L_low st_L_low ml_L_198 rfl (by rw [hR]; exact ⟨Nat.le_of_ble_eq_true rfl, Nat.le_of_ble_eq_true rfl⟩) (Nat.le_trans hd (by decide)) ⟨hc, hs⟩ dL_others_677 h)) (kS (S_istore (ev := fun other_301 => [(12, .int other_301), (11, .int day_157), (10, .int can_142), (9, .int dates_128), (8, .int person_13), (7, .int meeting_10), (6, .int kind_3), (0, va_rf (some sv)), (1, va_rf (some (sv + 20))), (2, va_rf (some (sv + 21))), (3, va_rf (some (sv + 22))), (4, .int x_), (5, .int y_)]) X dL_others_680 (by rw [hN]; decide) (fun _ => rfl))) fun other_301 =>
  (KSB_let (KXE_4 (pB := pI) wR wI wI (kX (L_aload_n (r := (some sv)) 7 X dL_others_682 rfl rfl)) (kX (L_iload (x := person_13) 4 X dL_others_683 rfl)) (kX (L_iload (x := meeting_10) 5 X dL_others_685 rfl)) (kX (L_iload (x := other_301) 0 X dL_others_687 rfl)) (fun v0 v1 v2 v3 st L a b hd hc hs h => by obtain ⟨rfl, h1⟩ := lgo_of h; exact k_callH (st := st) X htr (E_L_delegate sv v1 v2 v3) lkh_delegate stl_delegate ml_L_261 rfl (by rw [hR]; exact ⟨Nat.le_of_ble_eq_true rfl, Nat.le_of_ble_eq_true rfl⟩) (Nat.le_trans hd (by decide)) ⟨hc, hs⟩ dL_others_689 h1)) (kS (S_istore (ev := fun told_306 => [(13, .int told_306), (12, .int other_301), (11, .int day_157), (10, .int can_142), (9, .int dates_128), (8, .int person_13), (7, .int meeting_10), (6, .int kind_3), (0, va_rf (some sv)), (1, va_rf (some (sv + 20))), (2, va_rf (some (sv + 21))), (3, va_rf (some (sv + 22))), (4, .int x_), (5, .int y_)]) X dL_others_692 (by rw [hN]; decide) (fun _ => rfl))) fun told_306 =>
  (KSB_if (KCE_or (KCE_2 wI (kX (L_iload (x := other_301) 1 X dL_others_694 rfl)) (kX (L_iload (x := person_13) 5 X dL_others_696 rfl)) (kF2 (C_eq_T X dL_others_698 (by decide)))) (KCE_2 wI (kX (L_iload (x := other_301) 1 X dL_others_701 rfl)) (KXE_2 wI (KXE_2 wR (kX (L_aload_n (r := (some (sv + 20))) 9 X dL_others_703 rfl rfl)) (kX (L_iload (x := meeting_10) 6 X dL_others_704 rfl)) (kai X dL_others_706)) (kX (L_bipush (v := I 8) X dL_others_707 (by decide))) (krem X dL_others_709)) (kF2 (C_eq_F X dL_others_710 (by decide)))))
  (kretZ X C hr dL_others_725 (KXE_b2i (KCE_2 wI (kX (L_iload (x := told_306) 0 X dL_others_713 rfl)) (kX (L_ldc (v := I (-1000002)) X dL_others_715 kd_L_21)) (kF2 (C_eq_F X dL_others_717 (by decide)))) (kB (S_b1 X dL_others_720 dL_others_721 (by decide))) (kB (S_b0 X dL_others_724))))
  (KSB_let (KXE_b2i (KCE_and (KCE_1 (kX (L_iload (x := can_142) 3 X dL_others_726 rfl)) (kF1 (Z_ne_F X dL_others_728 (by decide)))) (KCE_2 wI (KXE_2 wR (kX (L_aload_n (r := (some (sv + 22))) 11 X dL_others_731 rfl rfl)) (kX (L_iconst (v := I 1) X dL_others_732 (by decide))) (kai X dL_others_733)) (kX (L_sipush (v := I 149) X dL_others_734 (by decide))) (kF2 (C_lt_F X dL_others_737 (by decide))))) (kB (S_b1 X dL_others_740 dL_others_741 (by decide))) (kB (S_b0 X dL_others_744))) (kS (S_istore (ev := fun may_326 => [(14, .int may_326), (13, .int told_306), (12, .int other_301), (11, .int day_157), (10, .int can_142), (9, .int dates_128), (8, .int person_13), (7, .int meeting_10), (6, .int kind_3), (0, va_rf (some sv)), (1, va_rf (some (sv + 20))), (2, va_rf (some (sv + 21))), (3, va_rf (some (sv + 22))), (4, .int x_), (5, .int y_)]) X dL_others_745 (by rw [hN]; decide) (fun _ => rfl))) fun may_326 =>
  (KSB_let (KXE_b2i (KCE_and (KCE_2 wI (kX (L_iload (x := told_306) 1 X dL_others_747 rfl)) (KXE_tern (KCE_1 (kX (L_iload (x := may_326) 0 X dL_others_749 rfl)) (kF1 (Z_ne_F X dL_others_751 (by decide)))) (KXE_2 wR (kX (L_aload_n (r := (some (sv + 22))) 12 X dL_others_754 rfl rfl)) (kX (L_iconst (v := I 1) X dL_others_755 (by decide))) (kai X dL_others_756)) (kJ (S_goto X dL_others_757 (by decide))) (kX (L_ldc (v := I (-1000003)) X dL_others_760 kd_L_38))) (kF2 (C_eq_F X dL_others_762 (by decide)))) (KCE_2 wI (KXE_4 (pB := pI) wR wI wI (kX (L_aload_n (r := (some sv)) 9 X dL_others_765 rfl rfl)) (kX (L_iload (x := person_13) 6 X dL_others_766 rfl)) (kX (L_iload (x := meeting_10) 7 X dL_others_768 rfl)) (kX (L_iconst (v := I 5) X dL_others_770 (by decide))) (fun v0 v1 v2 v3 st L a b hd hc hs h => by obtain ⟨rfl, h1⟩ := lgo_of h; exact k_callH (st := st) X htr (E_L_delegate sv v1 v2 v3) lkh_delegate stl_delegate ml_L_261 rfl (by rw [hR]; exact ⟨Nat.le_of_ble_eq_true rfl, Nat.le_of_ble_eq_true rfl⟩) (Nat.le_trans hd (by decide)) ⟨hc, hs⟩ dL_others_771 h1)) (kX (L_ldc (v := I (-1000001)) X dL_others_774 kd_L_18)) (kF2 (C_eq_F X dL_others_776 (by decide))))) (kB (S_b1 X dL_others_779 dL_others_780 (by decide))) (kB (S_b0 X dL_others_783))) (kS (S_istore (ev := fun is_341 => [(15, .int is_341), (14, .int may_326), (13, .int told_306), (12, .int other_301), (11, .int day_157), (10, .int can_142), (9, .int dates_128), (8, .int person_13), (7, .int meeting_10), (6, .int kind_3), (0, va_rf (some sv)), (1, va_rf (some (sv + 20))), (2, va_rf (some (sv + 21))), (3, va_rf (some (sv + 22))), (4, .int x_), (5, .int y_)]) X dL_others_784 (by rw [hN]; decide) (fun _ => rfl))) fun is_341 =>
  (KSB_do (KXE_dup2 wI (kX (L_aload_n (r := (some (sv + 22))) 13 X dL_others_786 rfl rfl)) (kX (L_iconst (v := I 1) X dL_others_787 (by decide))) (kD2 (S_dup2 X dL_others_788)) (kai X dL_others_789) (KXE_tern (KCE_1 (kX (L_iload (x := may_326) 1 X dL_others_790 rfl)) (kF1 (Z_ne_F X dL_others_792 (by decide)))) (kX (L_iconst (v := I 2) X dL_others_795 (by decide))) (kJ (S_goto X dL_others_796 (by decide))) (kX (L_iconst (v := I 0) X dL_others_799 (by decide)))) (k2 (O_iadd X dL_others_800)) (ksai X dL_others_801))
  (KSB_do (KXE_dup2 wI (kX (L_aload_n (r := (some (sv + 21))) 12 X dL_others_802 rfl rfl)) (kX (L_iload (x := person_13) 7 X dL_others_803 rfl)) (kD2 (S_dup2 X dL_others_805)) (kai X dL_others_806) (KXE_tern (KCE_1 (kX (L_iload (x := may_326) 1 X dL_others_807 rfl)) (kF1 (Z_ne_F X dL_others_809 (by decide)))) (kX (L_iconst (v := I 1) X dL_others_812 (by decide))) (kJ (S_goto X dL_others_813 (by decide))) (kX (L_iconst (v := I 0) X dL_others_816 (by decide)))) (k2 (O_iadd X dL_others_817)) (ksai X dL_others_818))
  (kretZ X C hr dL_others_878 (KXE_b2i (KCE_and (KCE_and (KCE_1 (kX (L_iload (x := is_341) 0 X dL_others_819 rfl)) (kF1 (Z_ne_F X dL_others_821 (by decide)))) (KCE_or (KCE_not (KCE_1 (kX (L_iload (x := may_326) 1 X dL_others_824 rfl)) (kF1 (Z_ne_F X dL_others_826 (by decide))))) (KCE_and (KCE_and (KCE_1 (KXE_2 (pB := pI) wR (kX (L_aload_n (r := (some sv)) 10 X dL_others_829 rfl rfl)) (KXE_2 wI (kX (L_iload (x := told_306) 2 X dL_others_830 rfl)) (kX (L_iconst (v := I 1) X dL_others_832 (by decide))) (k2 (O_iadd X dL_others_833))) (fun v0 v1 st L a b hd hc hs h => by obtain ⟨rfl, h1⟩ := lgo_of h; exact k_callH (st := st) X htr (E_L_kindOf sv v1) lkh_kindOf stl_kindOf ml_L_186 rfl (by rw [hR]; exact ⟨Nat.le_of_ble_eq_true rfl, Nat.le_of_ble_eq_true rfl⟩) (Nat.le_trans hd (by decide)) ⟨hc, hs⟩ dL_others_834 h1)) (kF1 (Z_eq_F X dL_others_837 (by decide)))) (KCE_2 wI (KXE_2 (pB := pI) wR (kX (L_aload_n (r := (some sv)) 10 X dL_others_840 rfl rfl)) (KXE_2 wI (kX (L_iload (x := told_306) 2 X dL_others_841 rfl)) (kX (L_iconst (v := I 1) X dL_others_843 (by decide))) (k2 (O_iadd X dL_others_844))) (fun v0 v1 st L a b hd hc hs h => by obtain ⟨rfl, h1⟩ := lgo_of h; exact k_callH (st := st) X htr (E_L_receiver sv v1) lkh_receiver stl_receiver ml_L_188 rfl (by rw [hR]; exact ⟨Nat.le_of_ble_eq_true rfl, Nat.le_of_ble_eq_true rfl⟩) (Nat.le_trans hd (by decide)) ⟨hc, hs⟩ dL_others_845 h1)) (kX (L_iload (x := other_301) 3 X dL_others_848 rfl)) (kF2 (C_eq_F X dL_others_850 (by decide))))) (KCE_2 wI (KXE_2 (pB := pI) wR (kX (L_aload_n (r := (some sv)) 10 X dL_others_853 rfl rfl)) (kX (L_iload (x := told_306) 2 X dL_others_854 rfl)) (fun v0 v1 st L a b hd hc hs h => by obtain ⟨rfl, h1⟩ := lgo_of h; exact k_callH (st := st) X htr (E_L_kindOf sv v1) lkh_kindOf stl_kindOf ml_L_186 rfl (by rw [hR]; exact ⟨Nat.le_of_ble_eq_true rfl, Nat.le_of_ble_eq_true rfl⟩) (Nat.le_trans hd (by decide)) ⟨hc, hs⟩ dL_others_856 h1)) (kX (L_iconst (v := I 1) X dL_others_859 (by decide))) (kF2 (C_eq_F X dL_others_860 (by decide))))))) (KCE_2 wI (KXE_1 (pB := pI) (kX (L_aload_n (r := (some sv)) 10 X dL_others_863 rfl rfl)) (fun r st L a b hd hc hs h => by obtain ⟨rfl, h1⟩ := lgo_of h; exact k_callQ (st := st) X htr (M_X6_messages sv) (fun G S m hC => q_messages hC) lk_X6_messages im_X6_messages se_X6_messages ml_L_209 (by rw [hR]; exact ⟨Nat.le_of_ble_eq_true rfl, Nat.le_of_ble_eq_true rfl⟩) (Nat.le_trans hd (by decide)) ⟨hc, hs⟩ dL_others_864 h1)) (KXE_2 wR (kX (L_aload_n (r := (some (sv + 22))) 13 X dL_others_867 rfl rfl)) (kX (L_iconst (v := I 1) X dL_others_868 (by decide))) (kai X dL_others_869)) (kF2 (C_eq_F X dL_others_870 (by decide))))) (kB (S_b1 X dL_others_873 dL_others_874 (by decide))) (kB (S_b0 X dL_others_877)))))))))))
  (KSB_let (KXE_2 (pB := pI) wR (kX (L_aload_n (r := (some sv)) 6 X dL_others_879 rfl rfl)) (kX (L_iload (x := meeting_10) 4 X dL_others_880 rfl)) (fun v0 v1 st L a b hd hc hs h => by obtain ⟨rfl, h1⟩ := lgo_of h; exact k_callH (st := st) X htr (E_L_proposals sv v1) lkh_proposals stl_proposals ml_L_181 rfl (by rw [hR]; exact ⟨Nat.le_of_ble_eq_true rfl, Nat.le_of_ble_eq_true rfl⟩) (Nat.le_trans hd (by decide)) ⟨hc, hs⟩ dL_others_882 h1)) (kS (S_istore (ev := fun open_388 => [(12, .int open_388), (11, .int day_157), (10, .int can_142), (9, .int dates_128), (8, .int person_13), (7, .int meeting_10), (6, .int kind_3), (0, va_rf (some sv)), (1, va_rf (some (sv + 20))), (2, va_rf (some (sv + 21))), (3, va_rf (some (sv + 22))), (4, .int x_), (5, .int y_)]) X dL_others_885 (by rw [hN]; decide) (fun _ => rfl))) fun open_388 =>
  (KSB_if (KCE_1 (kX (L_iload (x := open_388) 0 X dL_others_887 rfl)) (kF1 (Z_gt_F X dL_others_889 (by decide))))
  (KSB_let (KXE_3 (pB := pI) wR wI (kX (L_aload_n (r := (some sv)) 7 X dL_others_892 rfl rfl)) (kX (L_iload (x := meeting_10) 5 X dL_others_893 rfl)) (KXE_2 (pB := pI) wI (KXE_2 wI (kX (L_iload (x := y_) 12 X dL_others_895 rfl)) (kX (L_bipush (v := I 10) X dL_others_897 (by decide))) (k2 (O_ishr X dL_others_899))) (kX (L_iload (x := open_388) 0 X dL_others_900 rfl)) (fun v0 v1 st L a b hd hc hs h => by exact k_callS (st := st) X htr (M_L_low sv v0 v1) lk_L_low st_L_low ml_L_198 rfl (by rw [hR]; exact ⟨Nat.le_of_ble_eq_true rfl, Nat.le_of_ble_eq_true rfl⟩) (Nat.le_trans hd (by decide)) ⟨hc, hs⟩ dL_others_902 h)) (fun v0 v1 v2 st L a b hd hc hs h => by obtain ⟨rfl, h1⟩ := lgo_of h; exact k_callH (st := st) X htr (E_L_proposalAt sv v1 v2) lkh_proposalAt stl_proposalAt ml_L_184 rfl (by rw [hR]; exact ⟨Nat.le_of_ble_eq_true rfl, Nat.le_of_ble_eq_true rfl⟩) (Nat.le_trans hd (by decide)) ⟨hc, hs⟩ dL_others_905 h1)) (kS (S_istore (ev := fun message_397 => [(13, .int message_397), (12, .int open_388), (11, .int day_157), (10, .int can_142), (9, .int dates_128), (8, .int person_13), (7, .int meeting_10), (6, .int kind_3), (0, va_rf (some sv)), (1, va_rf (some (sv + 20))), (2, va_rf (some (sv + 21))), (3, va_rf (some (sv + 22))), (4, .int x_), (5, .int y_)]) X dL_others_908 (by rw [hN]; decide) (fun _ => rfl))) fun message_397 =>
  (KSB_if (KCE_1 (KXE_2 (pB := pI) wI (KXE_2 wI (kX (L_iload (x := y_) 13 X dL_others_910 rfl)) (kX (L_bipush (v := I 13) X dL_others_912 (by decide))) (k2 (O_ishr X dL_others_914))) (kX (L_iconst (v := I 2) X dL_others_915 (by decide))) (fun v0 v1 st L a b hd hc hs h => by exact k_callS (st := st) X htr (M_L_low sv v0 v1) lk_L_low st_L_low ml_L_198 rfl (by rw [hR]; exact ⟨Nat.le_of_ble_eq_true rfl, Nat.le_of_ble_eq_true rfl⟩) (Nat.le_trans hd (by decide)) ⟨hc, hs⟩ dL_others_916 h)) (kF1 (Z_eq_F X dL_others_919 (by decide))))
  (kretZ X C hr dL_others_962 (KXE_b2i (KCE_and (KCE_and (KCE_2 wI (KXE_2 (pB := pI) wR (kX (L_aload_n (r := (some sv)) 8 X dL_others_922 rfl rfl)) (kX (L_iload (x := message_397) 0 X dL_others_923 rfl)) (fun v0 v1 st L a b hd hc hs h => by obtain ⟨rfl, h1⟩ := lgo_of h; exact k_callH (st := st) X htr (E_L_refuse sv v1) lkh_refuse stl_refuse ml_L_263 rfl (by rw [hR]; exact ⟨Nat.le_of_ble_eq_true rfl, Nat.le_of_ble_eq_true rfl⟩) (Nat.le_trans hd (by decide)) ⟨hc, hs⟩ dL_others_925 h1)) (KXE_2 wI (kX (L_iload (x := open_388) 1 X dL_others_928 rfl)) (kX (L_iconst (v := I 1) X dL_others_930 (by decide))) (k2 (O_isub X dL_others_931))) (kF2 (C_eq_F X dL_others_932 (by decide)))) (KCE_2 wI (KXE_2 (pB := pI) wR (kX (L_aload_n (r := (some sv)) 8 X dL_others_935 rfl rfl)) (kX (L_iload (x := message_397) 0 X dL_others_936 rfl)) (fun v0 v1 st L a b hd hc hs h => by obtain ⟨rfl, h1⟩ := lgo_of h; exact k_callH (st := st) X htr (E_L_refuse sv v1) lkh_refuse stl_refuse ml_L_263 rfl (by rw [hR]; exact ⟨Nat.le_of_ble_eq_true rfl, Nat.le_of_ble_eq_true rfl⟩) (Nat.le_trans hd (by decide)) ⟨hc, hs⟩ dL_others_938 h1)) (kX (L_ldc (v := I (-1000003)) X dL_others_941 kd_L_38)) (kF2 (C_eq_F X dL_others_943 (by decide))))) (KCE_2 wI (KXE_2 (pB := pI) wR (kX (L_aload_n (r := (some sv)) 8 X dL_others_946 rfl rfl)) (kX (L_iload (x := message_397) 0 X dL_others_947 rfl)) (fun v0 v1 st L a b hd hc hs h => by obtain ⟨rfl, h1⟩ := lgo_of h; exact k_callH (st := st) X htr (E_L_take sv v1) lkh_take stl_take ml_L_265 rfl (by rw [hR]; exact ⟨Nat.le_of_ble_eq_true rfl, Nat.le_of_ble_eq_true rfl⟩) (Nat.le_trans hd (by decide)) ⟨hc, hs⟩ dL_others_949 h1)) (kX (L_ldc (v := I (-1000003)) X dL_others_952 kd_L_38)) (kF2 (C_eq_F X dL_others_954 (by decide))))) (kB (S_b1 X dL_others_957 dL_others_958 (by decide))) (kB (S_b0 X dL_others_961))))
  (kretZ X C hr dL_others_1007 (KXE_b2i (KCE_and (KCE_and (KCE_1 (KXE_5 (pB := pI) wR wR wR wI (kX (L_aload_n (r := (some sv)) 8 X dL_others_963 rfl rfl)) (kX (L_aload_n (r := (some (sv + 20))) 9 X dL_others_964 rfl rfl)) (kX (L_aload_n (r := (some (sv + 21))) 10 X dL_others_965 rfl rfl)) (kX (L_iload (x := meeting_10) 6 X dL_others_966 rfl)) (KXE_2 (pB := pI) wR (kX (L_aload_n (r := (some sv)) 8 X dL_others_968 rfl rfl)) (kX (L_iload (x := message_397) 0 X dL_others_969 rfl)) (fun v0 v1 st L a b hd hc hs h => by obtain ⟨rfl, h1⟩ := lgo_of h; exact k_callH (st := st) X htr (E_L_take sv v1) lkh_take stl_take ml_L_265 rfl (by rw [hR]; exact ⟨Nat.le_of_ble_eq_true rfl, Nat.le_of_ble_eq_true rfl⟩) (Nat.le_trans hd (by decide)) ⟨hc, hs⟩ dL_others_971 h1)) (fun v0 v1 v2 v3 v4 st L a b hd hc hs h => by obtain ⟨rfl, h1⟩ := lgo_of h; obtain ⟨rfl, h2⟩ := lgo_of h1; obtain ⟨rfl, h3⟩ := lgo_of h2; exact k_callS (st := st) X htr (M_L_changed sv v3 v4) lk_L_changed st_L_changed ml_L_240 rfl (by rw [hR]; exact ⟨Nat.le_of_ble_eq_true rfl, Nat.le_of_ble_eq_true rfl⟩) (Nat.le_trans hd (by decide)) ⟨hc, hs⟩ dL_others_974 h3)) (kF1 (Z_ne_F X dL_others_977 (by decide)))) (KCE_2 wI (KXE_2 (pB := pI) wR (kX (L_aload_n (r := (some sv)) 8 X dL_others_980 rfl rfl)) (kX (L_iload (x := message_397) 0 X dL_others_981 rfl)) (fun v0 v1 st L a b hd hc hs h => by obtain ⟨rfl, h1⟩ := lgo_of h; exact k_callH (st := st) X htr (E_L_take sv v1) lkh_take stl_take ml_L_265 rfl (by rw [hR]; exact ⟨Nat.le_of_ble_eq_true rfl, Nat.le_of_ble_eq_true rfl⟩) (Nat.le_trans hd (by decide)) ⟨hc, hs⟩ dL_others_983 h1)) (kX (L_ldc (v := I (-1000003)) X dL_others_986 kd_L_38)) (kF2 (C_eq_F X dL_others_988 (by decide))))) (KCE_2 wI (KXE_2 (pB := pI) wR (kX (L_aload_n (r := (some sv)) 8 X dL_others_991 rfl rfl)) (kX (L_iload (x := meeting_10) 6 X dL_others_992 rfl)) (fun v0 v1 st L a b hd hc hs h => by obtain ⟨rfl, h1⟩ := lgo_of h; exact k_callH (st := st) X htr (E_L_proposals sv v1) lkh_proposals stl_proposals ml_L_181 rfl (by rw [hR]; exact ⟨Nat.le_of_ble_eq_true rfl, Nat.le_of_ble_eq_true rfl⟩) (Nat.le_trans hd (by decide)) ⟨hc, hs⟩ dL_others_994 h1)) (kX (L_iload (x := open_388) 1 X dL_others_997 rfl)) (kF2 (C_lt_F X dL_others_999 (by decide))))) (kB (S_b1 X dL_others_1002 dL_others_1003 (by decide))) (kB (S_b0 X dL_others_1006))))))
  (KSB_let (KXE_5 (pB := pI) wR wI wI wI (kX (L_aload_n (r := (some sv)) 7 X dL_others_1008 rfl rfl)) (kX (L_iload (x := person_13) 4 X dL_others_1009 rfl)) (kX (L_iload (x := meeting_10) 5 X dL_others_1011 rfl)) (kX (L_iload (x := day_157) 1 X dL_others_1013 rfl)) (KXE_2 (pB := pI) wI (KXE_2 wI (kX (L_iload (x := y_) 12 X dL_others_1015 rfl)) (kX (L_bipush (v := I 9) X dL_others_1017 (by decide))) (k2 (O_ishr X dL_others_1019))) (kX (L_sipush (v := I 1440) X dL_others_1020 (by decide))) (fun v0 v1 st L a b hd hc hs h => by exact k_callS (st := st) X htr (M_L_low sv v0 v1) lk_L_low st_L_low ml_L_198 rfl (by rw [hR]; exact ⟨Nat.le_of_ble_eq_true rfl, Nat.le_of_ble_eq_true rfl⟩) (Nat.le_trans hd (by decide)) ⟨hc, hs⟩ dL_others_1023 h)) (fun v0 v1 v2 v3 v4 st L a b hd hc hs h => by obtain ⟨rfl, h1⟩ := lgo_of h; exact k_callH (st := st) X htr (E_L_propose sv v1 v2 v3 v4) lkh_propose stl_propose ml_L_267 rfl (by rw [hR]; exact ⟨Nat.le_of_ble_eq_true rfl, Nat.le_of_ble_eq_true rfl⟩) (Nat.le_trans hd (by decide)) ⟨hc, hs⟩ dL_others_1026 h1)) (kS (S_istore (ev := fun told_449 => [(13, .int told_449), (12, .int open_388), (11, .int day_157), (10, .int can_142), (9, .int dates_128), (8, .int person_13), (7, .int meeting_10), (6, .int kind_3), (0, va_rf (some sv)), (1, va_rf (some (sv + 20))), (2, va_rf (some (sv + 21))), (3, va_rf (some (sv + 22))), (4, .int x_), (5, .int y_)]) X dL_others_1029 (by rw [hN]; decide) (fun _ => rfl))) fun told_449 =>
  (KSB_let (KXE_b2i (KCE_and (KCE_and (KCE_1 (kX (L_iload (x := can_142) 3 X dL_others_1031 rfl)) (kF1 (Z_ne_F X dL_others_1033 (by decide)))) (KCE_1 (kX (L_iload (x := dates_128) 4 X dL_others_1036 rfl)) (kF1 (Z_gt_F X dL_others_1038 (by decide))))) (KCE_2 wI (KXE_2 wR (kX (L_aload_n (r := (some (sv + 22))) 11 X dL_others_1041 rfl rfl)) (kX (L_iconst (v := I 1) X dL_others_1042 (by decide))) (kai X dL_others_1043)) (kX (L_sipush (v := I 150) X dL_others_1044 (by decide))) (kF2 (C_lt_F X dL_others_1047 (by decide))))) (kB (S_b1 X dL_others_1050 dL_others_1051 (by decide))) (kB (S_b0 X dL_others_1054))) (kS (S_istore (ev := fun may_459 => [(14, .int may_459), (13, .int told_449), (12, .int open_388), (11, .int day_157), (10, .int can_142), (9, .int dates_128), (8, .int person_13), (7, .int meeting_10), (6, .int kind_3), (0, va_rf (some sv)), (1, va_rf (some (sv + 20))), (2, va_rf (some (sv + 21))), (3, va_rf (some (sv + 22))), (4, .int x_), (5, .int y_)]) X dL_others_1055 (by rw [hN]; decide) (fun _ => rfl))) fun may_459 =>
  (KSB_let (KXE_b2i (KCE_and (KCE_and (KCE_2 wI (kX (L_iload (x := told_449) 1 X dL_others_1057 rfl)) (KXE_tern (KCE_1 (kX (L_iload (x := may_459) 0 X dL_others_1059 rfl)) (kF1 (Z_ne_F X dL_others_1061 (by decide)))) (KXE_2 wR (kX (L_aload_n (r := (some (sv + 22))) 12 X dL_others_1064 rfl rfl)) (kX (L_iconst (v := I 1) X dL_others_1065 (by decide))) (kai X dL_others_1066)) (kJ (S_goto X dL_others_1067 (by decide))) (kX (L_ldc (v := I (-1000003)) X dL_others_1070 kd_L_38))) (kF2 (C_eq_F X dL_others_1072 (by decide)))) (KCE_2 wI (KXE_5 (pB := pI) wR wI wI wI (kX (L_aload_n (r := (some sv)) 9 X dL_others_1075 rfl rfl)) (kX (L_iload (x := person_13) 6 X dL_others_1076 rfl)) (kX (L_iload (x := meeting_10) 7 X dL_others_1078 rfl)) (kX (L_iload (x := day_157) 3 X dL_others_1080 rfl)) (kX (L_sipush (v := I 1440) X dL_others_1082 (by decide))) (fun v0 v1 v2 v3 v4 st L a b hd hc hs h => by obtain ⟨rfl, h1⟩ := lgo_of h; exact k_callH (st := st) X htr (E_L_propose sv v1 v2 v3 v4) lkh_propose stl_propose ml_L_267 rfl (by rw [hR]; exact ⟨Nat.le_of_ble_eq_true rfl, Nat.le_of_ble_eq_true rfl⟩) (Nat.le_trans hd (by decide)) ⟨hc, hs⟩ dL_others_1085 h1)) (kX (L_ldc (v := I (-1000002)) X dL_others_1088 kd_L_21)) (kF2 (C_eq_F X dL_others_1090 (by decide))))) (KCE_2 wI (KXE_2 (pB := pI) wR (kX (L_aload_n (r := (some sv)) 9 X dL_others_1093 rfl rfl)) (KXE_2 wI (KXE_2 wR (kX (L_aload_n (r := (some (sv + 22))) 12 X dL_others_1094 rfl rfl)) (kX (L_iconst (v := I 1) X dL_others_1095 (by decide))) (kai X dL_others_1096)) (kX (L_iconst (v := I 1) X dL_others_1097 (by decide))) (k2 (O_iadd X dL_others_1098))) (fun v0 v1 st L a b hd hc hs h => by obtain ⟨rfl, h1⟩ := lgo_of h; exact k_callH (st := st) X htr (E_L_take sv v1) lkh_take stl_take ml_L_265 rfl (by rw [hR]; exact ⟨Nat.le_of_ble_eq_true rfl, Nat.le_of_ble_eq_true rfl⟩) (Nat.le_trans hd (by decide)) ⟨hc, hs⟩ dL_others_1099 h1)) (kX (L_ldc (v := I (-1000001)) X dL_others_1102 kd_L_18)) (kF2 (C_eq_F X dL_others_1104 (by decide))))) (kB (S_b1 X dL_others_1107 dL_others_1108 (by decide))) (kB (S_b0 X dL_others_1111))) (kS (S_istore (ev := fun is_484 => [(15, .int is_484), (14, .int may_459), (13, .int told_449), (12, .int open_388), (11, .int day_157), (10, .int can_142), (9, .int dates_128), (8, .int person_13), (7, .int meeting_10), (6, .int kind_3), (0, va_rf (some sv)), (1, va_rf (some (sv + 20))), (2, va_rf (some (sv + 21))), (3, va_rf (some (sv + 22))), (4, .int x_), (5, .int y_)]) X dL_others_1112 (by rw [hN]; decide) (fun _ => rfl))) fun is_484 =>
  (KSB_do (KXE_dup2 wI (kX (L_aload_n (r := (some (sv + 22))) 13 X dL_others_1114 rfl rfl)) (kX (L_iconst (v := I 1) X dL_others_1115 (by decide))) (kD2 (S_dup2 X dL_others_1116)) (kai X dL_others_1117) (KXE_tern (KCE_1 (kX (L_iload (x := may_459) 1 X dL_others_1118 rfl)) (kF1 (Z_ne_F X dL_others_1120 (by decide)))) (kX (L_iconst (v := I 1) X dL_others_1123 (by decide))) (kJ (S_goto X dL_others_1124 (by decide))) (kX (L_iconst (v := I 0) X dL_others_1127 (by decide)))) (k2 (O_iadd X dL_others_1128)) (ksai X dL_others_1129))
  (kretZ X C hr dL_others_1194 (KXE_b2i (KCE_and (KCE_1 (kX (L_iload (x := is_484) 0 X dL_others_1130 rfl)) (kF1 (Z_ne_F X dL_others_1132 (by decide)))) (KCE_or (KCE_not (KCE_1 (kX (L_iload (x := may_459) 1 X dL_others_1135 rfl)) (kF1 (Z_ne_F X dL_others_1137 (by decide))))) (KCE_and (KCE_and (KCE_and (KCE_and (KCE_2 wI (KXE_2 (pB := pI) wR (kX (L_aload_n (r := (some sv)) 10 X dL_others_1140 rfl rfl)) (kX (L_iload (x := told_449) 2 X dL_others_1141 rfl)) (fun v0 v1 st L a b hd hc hs h => by obtain ⟨rfl, h1⟩ := lgo_of h; exact k_callH (st := st) X htr (E_L_kindOf sv v1) lkh_kindOf stl_kindOf ml_L_186 rfl (by rw [hR]; exact ⟨Nat.le_of_ble_eq_true rfl, Nat.le_of_ble_eq_true rfl⟩) (Nat.le_trans hd (by decide)) ⟨hc, hs⟩ dL_others_1143 h1)) (kX (L_iconst (v := I 2) X dL_others_1146 (by decide))) (kF2 (C_eq_F X dL_others_1147 (by decide)))) (KCE_1 (KXE_2 (pB := pI) wR (kX (L_aload_n (r := (some sv)) 10 X dL_others_1150 rfl rfl)) (kX (L_iload (x := meeting_10) 8 X dL_others_1151 rfl)) (fun v0 v1 st L a b hd hc hs h => by obtain ⟨rfl, h1⟩ := lgo_of h; exact k_callH (st := st) X htr (E_L_proposals sv v1) lkh_proposals stl_proposals ml_L_181 rfl (by rw [hR]; exact ⟨Nat.le_of_ble_eq_true rfl, Nat.le_of_ble_eq_true rfl⟩) (Nat.le_trans hd (by decide)) ⟨hc, hs⟩ dL_others_1153 h1)) (kF1 (Z_eq_F X dL_others_1156 (by decide))))) (KCE_2 wI (KXE_2 (pB := pI) wR (kX (L_aload_n (r := (some sv)) 10 X dL_others_1159 rfl rfl)) (kX (L_iload (x := told_449) 2 X dL_others_1160 rfl)) (fun v0 v1 st L a b hd hc hs h => by obtain ⟨rfl, h1⟩ := lgo_of h; exact k_callH (st := st) X htr (E_L_refuse sv v1) lkh_refuse stl_refuse ml_L_263 rfl (by rw [hR]; exact ⟨Nat.le_of_ble_eq_true rfl, Nat.le_of_ble_eq_true rfl⟩) (Nat.le_trans hd (by decide)) ⟨hc, hs⟩ dL_others_1162 h1)) (kX (L_ldc (v := I (-1000003)) X dL_others_1165 kd_L_38)) (kF2 (C_eq_F X dL_others_1167 (by decide))))) (KCE_2 wI (KXE_2 (pB := pI) wR (kX (L_aload_n (r := (some sv)) 10 X dL_others_1170 rfl rfl)) (kX (L_iload (x := told_449) 2 X dL_others_1171 rfl)) (fun v0 v1 st L a b hd hc hs h => by obtain ⟨rfl, h1⟩ := lgo_of h; exact k_callH (st := st) X htr (E_L_deliver sv v1) lkh_deliver stl_deliver ml_L_231 rfl (by rw [hR]; exact ⟨Nat.le_of_ble_eq_true rfl, Nat.le_of_ble_eq_true rfl⟩) (Nat.le_trans hd (by decide)) ⟨hc, hs⟩ dL_others_1173 h1)) (kX (L_iconst (v := I 1) X dL_others_1176 (by decide))) (kF2 (C_eq_F X dL_others_1177 (by decide))))) (KCE_1 (KXE_2 (pB := pI) wR (kX (L_aload_n (r := (some sv)) 10 X dL_others_1180 rfl rfl)) (kX (L_iload (x := told_449) 2 X dL_others_1181 rfl)) (fun v0 v1 st L a b hd hc hs h => by obtain ⟨rfl, h1⟩ := lgo_of h; exact k_callH (st := st) X htr (E_L_deliver sv v1) lkh_deliver stl_deliver ml_L_231 rfl (by rw [hR]; exact ⟨Nat.le_of_ble_eq_true rfl, Nat.le_of_ble_eq_true rfl⟩) (Nat.le_trans hd (by decide)) ⟨hc, hs⟩ dL_others_1183 h1)) (kF1 (Z_eq_F X dL_others_1186 (by decide))))))) (kB (S_b1 X dL_others_1189 dL_others_1190 (by decide))) (kB (S_b0 X dL_others_1193)))))))))))))))))))) h0 (by rw [hR]; exact Nat.le_of_ble_eq_true rfl) (by rw [hR]; exact Nat.le_of_ble_eq_true rfl)
