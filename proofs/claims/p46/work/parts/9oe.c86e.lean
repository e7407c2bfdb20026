/-! the law's larger methods: computations over its state, and their contracts -/
theorem dL_acts_0 : decode cL_acts 0 = .ok (.iload 4, 2) := by decide +kernel
theorem dL_acts_2 : decode cL_acts 2 = .ok (.bipush 20, 2) := by decide +kernel
theorem dL_acts_4 : decode cL_acts 4 = .ok (.invokestatic 198, 3) := by decide +kernel
theorem dL_acts_7 : decode cL_acts 7 = .ok (.istore 6, 2) := by decide +kernel
theorem dL_acts_9 : decode cL_acts 9 = .ok (.aload_n 3, 1) := by decide +kernel
theorem dL_acts_10 : decode cL_acts 10 = .ok (.iconst 0, 1) := by decide +kernel
theorem dL_acts_11 : decode cL_acts 11 = .ok (.iaload, 1) := by decide +kernel
theorem dL_acts_12 : decode cL_acts 12 = .ok (.iconst 2, 1) := by decide +kernel
theorem dL_acts_13 : decode cL_acts 13 = .ok (.if_icmp .lt 8, 3) := by decide +kernel
theorem dL_acts_16 : decode cL_acts 16 = .ok (.iload 6, 2) := by decide +kernel
theorem dL_acts_18 : decode cL_acts 18 = .ok (.ifCond .ne 195, 3) := by decide +kernel
theorem dL_acts_21 : decode cL_acts 21 = .ok (.iload 5, 2) := by decide +kernel
theorem dL_acts_23 : decode cL_acts 23 = .ok (.iconst 5, 1) := by decide +kernel
theorem dL_acts_24 : decode cL_acts 24 = .ok (.invokestatic 198, 3) := by decide +kernel
theorem dL_acts_27 : decode cL_acts 27 = .ok (.istore 7, 2) := by decide +kernel
theorem dL_acts_29 : decode cL_acts 29 = .ok (.aload_n 3, 1) := by decide +kernel
theorem dL_acts_30 : decode cL_acts 30 = .ok (.iconst 0, 1) := by decide +kernel
theorem dL_acts_31 : decode cL_acts 31 = .ok (.iaload, 1) := by decide +kernel
theorem dL_acts_32 : decode cL_acts 32 = .ok (.bipush 8, 2) := by decide +kernel
theorem dL_acts_34 : decode cL_acts 34 = .ok (.if_icmp .ge 9, 3) := by decide +kernel
theorem dL_acts_37 : decode cL_acts 37 = .ok (.aload_n 3, 1) := by decide +kernel
theorem dL_acts_38 : decode cL_acts 38 = .ok (.iconst 0, 1) := by decide +kernel
theorem dL_acts_39 : decode cL_acts 39 = .ok (.iaload, 1) := by decide +kernel
theorem dL_acts_40 : decode cL_acts 40 = .ok (.goto 5, 3) := by decide +kernel
theorem dL_acts_43 : decode cL_acts 43 = .ok (.ldc 38, 2) := by decide +kernel
theorem dL_acts_45 : decode cL_acts 45 = .ok (.istore 8, 2) := by decide +kernel
theorem dL_acts_47 : decode cL_acts 47 = .ok (.iload 8, 2) := by decide +kernel
theorem dL_acts_49 : decode cL_acts 49 = .ok (.ifCond .lt 24, 3) := by decide +kernel
theorem dL_acts_52 : decode cL_acts 52 = .ok (.aload_n 1, 1) := by decide +kernel
theorem dL_acts_53 : decode cL_acts 53 = .ok (.iload 8, 2) := by decide +kernel
theorem dL_acts_55 : decode cL_acts 55 = .ok (.iload 7, 2) := by decide +kernel
theorem dL_acts_57 : decode cL_acts 57 = .ok (.iastore, 1) := by decide +kernel
theorem dL_acts_58 : decode cL_acts 58 = .ok (.aload_n 2, 1) := by decide +kernel
theorem dL_acts_59 : decode cL_acts 59 = .ok (.iload 7, 2) := by decide +kernel
theorem dL_acts_61 : decode cL_acts 61 = .ok (.dup2, 1) := by decide +kernel
theorem dL_acts_62 : decode cL_acts 62 = .ok (.iaload, 1) := by decide +kernel
theorem dL_acts_63 : decode cL_acts 63 = .ok (.iconst 1, 1) := by decide +kernel
theorem dL_acts_64 : decode cL_acts 64 = .ok (.iadd, 1) := by decide +kernel
theorem dL_acts_65 : decode cL_acts 65 = .ok (.iastore, 1) := by decide +kernel
theorem dL_acts_66 : decode cL_acts 66 = .ok (.aload_n 3, 1) := by decide +kernel
theorem dL_acts_67 : decode cL_acts 67 = .ok (.iconst 0, 1) := by decide +kernel
theorem dL_acts_68 : decode cL_acts 68 = .ok (.dup2, 1) := by decide +kernel
theorem dL_acts_69 : decode cL_acts 69 = .ok (.iaload, 1) := by decide +kernel
theorem dL_acts_70 : decode cL_acts 70 = .ok (.iconst 1, 1) := by decide +kernel
theorem dL_acts_71 : decode cL_acts 71 = .ok (.iadd, 1) := by decide +kernel
theorem dL_acts_72 : decode cL_acts 72 = .ok (.iastore, 1) := by decide +kernel
theorem dL_acts_73 : decode cL_acts 73 = .ok (.aload_n 0, 1) := by decide +kernel
theorem dL_acts_74 : decode cL_acts 74 = .ok (.iload 7, 2) := by decide +kernel
theorem dL_acts_76 : decode cL_acts 76 = .ok (.iload 5, 2) := by decide +kernel
theorem dL_acts_78 : decode cL_acts 78 = .ok (.iconst 3, 1) := by decide +kernel
theorem dL_acts_79 : decode cL_acts 79 = .ok (.ishr, 1) := by decide +kernel
theorem dL_acts_80 : decode cL_acts 80 = .ok (.iconst 3, 1) := by decide +kernel
theorem dL_acts_81 : decode cL_acts 81 = .ok (.invokestatic 198, 3) := by decide +kernel
theorem dL_acts_84 : decode cL_acts 84 = .ok (.iload 5, 2) := by decide +kernel
theorem dL_acts_86 : decode cL_acts 86 = .ok (.iconst 5, 1) := by decide +kernel
theorem dL_acts_87 : decode cL_acts 87 = .ok (.ishr, 1) := by decide +kernel
theorem dL_acts_88 : decode cL_acts 88 = .ok (.bipush 60, 2) := by decide +kernel
theorem dL_acts_90 : decode cL_acts 90 = .ok (.invokestatic 198, 3) := by decide +kernel
theorem dL_acts_93 : decode cL_acts 93 = .ok (.iload 5, 2) := by decide +kernel
theorem dL_acts_95 : decode cL_acts 95 = .ok (.bipush 11, 2) := by decide +kernel
theorem dL_acts_97 : decode cL_acts 97 = .ok (.ishr, 1) := by decide +kernel
theorem dL_acts_98 : decode cL_acts 98 = .ok (.bipush 24, 2) := by decide +kernel
theorem dL_acts_100 : decode cL_acts 100 = .ok (.invokestatic 198, 3) := by decide +kernel
theorem dL_acts_103 : decode cL_acts 103 = .ok (.iconst 1, 1) := by decide +kernel
theorem dL_acts_104 : decode cL_acts 104 = .ok (.iload 5, 2) := by decide +kernel
theorem dL_acts_106 : decode cL_acts 106 = .ok (.bipush 16, 2) := by decide +kernel
theorem dL_acts_108 : decode cL_acts 108 = .ok (.ishr, 1) := by decide +kernel
theorem dL_acts_109 : decode cL_acts 109 = .ok (.bipush 23, 2) := by decide +kernel
theorem dL_acts_111 : decode cL_acts 111 = .ok (.invokestatic 198, 3) := by decide +kernel
theorem dL_acts_114 : decode cL_acts 114 = .ok (.iadd, 1) := by decide +kernel
theorem dL_acts_115 : decode cL_acts 115 = .ok (.invokestatic 269, 3) := by decide +kernel
theorem dL_acts_118 : decode cL_acts 118 = .ok (.iload 8, 2) := by decide +kernel
theorem dL_acts_120 : decode cL_acts 120 = .ok (.if_icmp .ne 91, 3) := by decide +kernel
theorem dL_acts_123 : decode cL_acts 123 = .ok (.aload_n 0, 1) := by decide +kernel
theorem dL_acts_124 : decode cL_acts 124 = .ok (.iconst 5, 1) := by decide +kernel
theorem dL_acts_125 : decode cL_acts 125 = .ok (.iconst 0, 1) := by decide +kernel
theorem dL_acts_126 : decode cL_acts 126 = .ok (.bipush 60, 2) := by decide +kernel
theorem dL_acts_128 : decode cL_acts 128 = .ok (.iconst 0, 1) := by decide +kernel
theorem dL_acts_129 : decode cL_acts 129 = .ok (.iconst 0, 1) := by decide +kernel
theorem dL_acts_130 : decode cL_acts 130 = .ok (.invokestatic 269, 3) := by decide +kernel
theorem dL_acts_133 : decode cL_acts 133 = .ok (.ldc 18, 2) := by decide +kernel
theorem dL_acts_135 : decode cL_acts 135 = .ok (.if_icmp .ne 76, 3) := by decide +kernel
theorem dL_acts_138 : decode cL_acts 138 = .ok (.aload_n 0, 1) := by decide +kernel
theorem dL_acts_139 : decode cL_acts 139 = .ok (.iconst 0, 1) := by decide +kernel
theorem dL_acts_140 : decode cL_acts 140 = .ok (.iconst 3, 1) := by decide +kernel
theorem dL_acts_141 : decode cL_acts 141 = .ok (.iconst 0, 1) := by decide +kernel
theorem dL_acts_142 : decode cL_acts 142 = .ok (.iconst 0, 1) := by decide +kernel
theorem dL_acts_143 : decode cL_acts 143 = .ok (.iconst 1, 1) := by decide +kernel
theorem dL_acts_144 : decode cL_acts 144 = .ok (.invokestatic 269, 3) := by decide +kernel
theorem dL_acts_147 : decode cL_acts 147 = .ok (.ldc 18, 2) := by decide +kernel
theorem dL_acts_149 : decode cL_acts 149 = .ok (.if_icmp .ne 62, 3) := by decide +kernel
theorem dL_acts_152 : decode cL_acts 152 = .ok (.aload_n 0, 1) := by decide +kernel
theorem dL_acts_153 : decode cL_acts 153 = .ok (.iconst 0, 1) := by decide +kernel
theorem dL_acts_154 : decode cL_acts 154 = .ok (.iconst 0, 1) := by decide +kernel
theorem dL_acts_155 : decode cL_acts 155 = .ok (.iconst 0, 1) := by decide +kernel
theorem dL_acts_156 : decode cL_acts 156 = .ok (.iconst 0, 1) := by decide +kernel
theorem dL_acts_157 : decode cL_acts 157 = .ok (.iconst 0, 1) := by decide +kernel
theorem dL_acts_158 : decode cL_acts 158 = .ok (.invokestatic 269, 3) := by decide +kernel
theorem dL_acts_161 : decode cL_acts 161 = .ok (.ldc 21, 2) := by decide +kernel
theorem dL_acts_163 : decode cL_acts 163 = .ok (.if_icmp .ne 48, 3) := by decide +kernel
theorem dL_acts_166 : decode cL_acts 166 = .ok (.iload 8, 2) := by decide +kernel
theorem dL_acts_168 : decode cL_acts 168 = .ok (.ifCond .lt 39, 3) := by decide +kernel
theorem dL_acts_171 : decode cL_acts 171 = .ok (.aload_n 0, 1) := by decide +kernel
theorem dL_acts_172 : decode cL_acts 172 = .ok (.iload 7, 2) := by decide +kernel
theorem dL_acts_174 : decode cL_acts 174 = .ok (.iload 8, 2) := by decide +kernel
theorem dL_acts_176 : decode cL_acts 176 = .ok (.invokestatic 164, 3) := by decide +kernel
theorem dL_acts_179 : decode cL_acts 179 = .ok (.iconst 1, 1) := by decide +kernel
theorem dL_acts_180 : decode cL_acts 180 = .ok (.if_icmp .ne 31, 3) := by decide +kernel
theorem dL_acts_183 : decode cL_acts 183 = .ok (.aload_n 0, 1) := by decide +kernel
theorem dL_acts_184 : decode cL_acts 184 = .ok (.iload 7, 2) := by decide +kernel
theorem dL_acts_186 : decode cL_acts 186 = .ok (.iload 8, 2) := by decide +kernel
theorem dL_acts_188 : decode cL_acts 188 = .ok (.invokestatic 160, 3) := by decide +kernel
theorem dL_acts_191 : decode cL_acts 191 = .ok (.ifCond .ne 20, 3) := by decide +kernel
theorem dL_acts_194 : decode cL_acts 194 = .ok (.aload_n 0, 1) := by decide +kernel
theorem dL_acts_195 : decode cL_acts 195 = .ok (.iload 7, 2) := by decide +kernel
theorem dL_acts_197 : decode cL_acts 197 = .ok (.invokestatic 196, 3) := by decide +kernel
theorem dL_acts_200 : decode cL_acts 200 = .ok (.aload_n 2, 1) := by decide +kernel
theorem dL_acts_201 : decode cL_acts 201 = .ok (.iload 7, 2) := by decide +kernel
theorem dL_acts_203 : decode cL_acts 203 = .ok (.iaload, 1) := by decide +kernel
theorem dL_acts_204 : decode cL_acts 204 = .ok (.if_icmp .ne 7, 3) := by decide +kernel
theorem dL_acts_207 : decode cL_acts 207 = .ok (.iconst 1, 1) := by decide +kernel
theorem dL_acts_208 : decode cL_acts 208 = .ok (.goto 4, 3) := by decide +kernel
theorem dL_acts_211 : decode cL_acts 211 = .ok (.iconst 0, 1) := by decide +kernel
theorem dL_acts_212 : decode cL_acts 212 = .ok (.ireturn, 1) := by decide +kernel
theorem dL_acts_213 : decode cL_acts 213 = .ok (.iload 6, 2) := by decide +kernel
theorem dL_acts_215 : decode cL_acts 215 = .ok (.iconst 1, 1) := by decide +kernel
theorem dL_acts_216 : decode cL_acts 216 = .ok (.if_icmp .ne 216, 3) := by decide +kernel
theorem dL_acts_219 : decode cL_acts 219 = .ok (.iload 5, 2) := by decide +kernel
theorem dL_acts_221 : decode cL_acts 221 = .ok (.iconst 3, 1) := by decide +kernel
theorem dL_acts_222 : decode cL_acts 222 = .ok (.invokestatic 198, 3) := by decide +kernel
theorem dL_acts_225 : decode cL_acts 225 = .ok (.istore 7, 2) := by decide +kernel
theorem dL_acts_227 : decode cL_acts 227 = .ok (.iload 5, 2) := by decide +kernel
theorem dL_acts_229 : decode cL_acts 229 = .ok (.iconst 2, 1) := by decide +kernel
theorem dL_acts_230 : decode cL_acts 230 = .ok (.ishr, 1) := by decide +kernel
theorem dL_acts_231 : decode cL_acts 231 = .ok (.bipush 25, 2) := by decide +kernel
theorem dL_acts_233 : decode cL_acts 233 = .ok (.invokestatic 198, 3) := by decide +kernel
theorem dL_acts_236 : decode cL_acts 236 = .ok (.bipush 12, 2) := by decide +kernel
theorem dL_acts_238 : decode cL_acts 238 = .ok (.isub, 1) := by decide +kernel
theorem dL_acts_239 : decode cL_acts 239 = .ok (.istore 8, 2) := by decide +kernel
theorem dL_acts_241 : decode cL_acts 241 = .ok (.iload 5, 2) := by decide +kernel
theorem dL_acts_243 : decode cL_acts 243 = .ok (.bipush 7, 2) := by decide +kernel
theorem dL_acts_245 : decode cL_acts 245 = .ok (.ishr, 1) := by decide +kernel
theorem dL_acts_246 : decode cL_acts 246 = .ok (.bipush 60, 2) := by decide +kernel
theorem dL_acts_248 : decode cL_acts 248 = .ok (.invokestatic 198, 3) := by decide +kernel
theorem dL_acts_251 : decode cL_acts 251 = .ok (.istore 9, 2) := by decide +kernel
theorem dL_acts_253 : decode cL_acts 253 = .ok (.iload 9, 2) := by decide +kernel
theorem dL_acts_255 : decode cL_acts 255 = .ok (.iconst 1, 1) := by decide +kernel
theorem dL_acts_256 : decode cL_acts 256 = .ok (.iadd, 1) := by decide +kernel
theorem dL_acts_257 : decode cL_acts 257 = .ok (.iload 5, 2) := by decide +kernel
theorem dL_acts_259 : decode cL_acts 259 = .ok (.bipush 13, 2) := by decide +kernel
theorem dL_acts_261 : decode cL_acts 261 = .ok (.ishr, 1) := by decide +kernel
theorem dL_acts_262 : decode cL_acts 262 = .ok (.bipush 60, 2) := by decide +kernel
theorem dL_acts_264 : decode cL_acts 264 = .ok (.iload 9, 2) := by decide +kernel
theorem dL_acts_266 : decode cL_acts 266 = .ok (.isub, 1) := by decide +kernel
theorem dL_acts_267 : decode cL_acts 267 = .ok (.invokestatic 198, 3) := by decide +kernel
theorem dL_acts_270 : decode cL_acts 270 = .ok (.iadd, 1) := by decide +kernel
theorem dL_acts_271 : decode cL_acts 271 = .ok (.istore 10, 2) := by decide +kernel
theorem dL_acts_273 : decode cL_acts 273 = .ok (.iload 5, 2) := by decide +kernel
theorem dL_acts_275 : decode cL_acts 275 = .ok (.bipush 20, 2) := by decide +kernel
theorem dL_acts_277 : decode cL_acts 277 = .ok (.ishr, 1) := by decide +kernel
theorem dL_acts_278 : decode cL_acts 278 = .ok (.iconst 3, 1) := by decide +kernel
theorem dL_acts_279 : decode cL_acts 279 = .ok (.invokestatic 198, 3) := by decide +kernel
theorem dL_acts_282 : decode cL_acts 282 = .ok (.ifCond .ne 7, 3) := by decide +kernel
theorem dL_acts_285 : decode cL_acts 285 = .ok (.iconst 1, 1) := by decide +kernel
theorem dL_acts_286 : decode cL_acts 286 = .ok (.goto 4, 3) := by decide +kernel
theorem dL_acts_289 : decode cL_acts 289 = .ok (.iconst 0, 1) := by decide +kernel
theorem dL_acts_290 : decode cL_acts 290 = .ok (.istore 11, 2) := by decide +kernel
theorem dL_acts_292 : decode cL_acts 292 = .ok (.aload_n 0, 1) := by decide +kernel
theorem dL_acts_293 : decode cL_acts 293 = .ok (.iload 7, 2) := by decide +kernel
theorem dL_acts_295 : decode cL_acts 295 = .ok (.iload 8, 2) := by decide +kernel
theorem dL_acts_297 : decode cL_acts 297 = .ok (.invokestatic 272, 3) := by decide +kernel
theorem dL_acts_300 : decode cL_acts 300 = .ok (.bipush (-12), 2) := by decide +kernel
theorem dL_acts_302 : decode cL_acts 302 = .ok (.if_icmp .lt 128, 3) := by decide +kernel
theorem dL_acts_305 : decode cL_acts 305 = .ok (.aload_n 0, 1) := by decide +kernel
theorem dL_acts_306 : decode cL_acts 306 = .ok (.iload 7, 2) := by decide +kernel
theorem dL_acts_308 : decode cL_acts 308 = .ok (.iload 8, 2) := by decide +kernel
theorem dL_acts_310 : decode cL_acts 310 = .ok (.invokestatic 272, 3) := by decide +kernel
theorem dL_acts_313 : decode cL_acts 313 = .ok (.iload 8, 2) := by decide +kernel
theorem dL_acts_315 : decode cL_acts 315 = .ok (.if_icmp .ne 115, 3) := by decide +kernel
theorem dL_acts_318 : decode cL_acts 318 = .ok (.aload_n 0, 1) := by decide +kernel
theorem dL_acts_319 : decode cL_acts 319 = .ok (.iload 7, 2) := by decide +kernel
theorem dL_acts_321 : decode cL_acts 321 = .ok (.iload 11, 2) := by decide +kernel
theorem dL_acts_323 : decode cL_acts 323 = .ok (.ifCond .eq 7, 3) := by decide +kernel
theorem dL_acts_326 : decode cL_acts 326 = .ok (.iconst (-1), 1) := by decide +kernel
theorem dL_acts_327 : decode cL_acts 327 = .ok (.goto 5, 3) := by decide +kernel
theorem dL_acts_330 : decode cL_acts 330 = .ok (.iload 9, 2) := by decide +kernel
theorem dL_acts_332 : decode cL_acts 332 = .ok (.iload 10, 2) := by decide +kernel
theorem dL_acts_334 : decode cL_acts 334 = .ok (.invokestatic 274, 3) := by decide +kernel
theorem dL_acts_337 : decode cL_acts 337 = .ok (.iconst (-1), 1) := by decide +kernel
theorem dL_acts_338 : decode cL_acts 338 = .ok (.if_icmp .lt 92, 3) := by decide +kernel
theorem dL_acts_341 : decode cL_acts 341 = .ok (.aload_n 0, 1) := by decide +kernel
theorem dL_acts_342 : decode cL_acts 342 = .ok (.iload 7, 2) := by decide +kernel
theorem dL_acts_344 : decode cL_acts 344 = .ok (.iload 11, 2) := by decide +kernel
theorem dL_acts_346 : decode cL_acts 346 = .ok (.ifCond .eq 7, 3) := by decide +kernel
theorem dL_acts_349 : decode cL_acts 349 = .ok (.iconst (-1), 1) := by decide +kernel
theorem dL_acts_350 : decode cL_acts 350 = .ok (.goto 5, 3) := by decide +kernel
theorem dL_acts_353 : decode cL_acts 353 = .ok (.iload 9, 2) := by decide +kernel
theorem dL_acts_355 : decode cL_acts 355 = .ok (.iload 10, 2) := by decide +kernel
theorem dL_acts_357 : decode cL_acts 357 = .ok (.invokestatic 274, 3) := by decide +kernel
theorem dL_acts_360 : decode cL_acts 360 = .ok (.iload 11, 2) := by decide +kernel
theorem dL_acts_362 : decode cL_acts 362 = .ok (.ifCond .eq 7, 3) := by decide +kernel
theorem dL_acts_365 : decode cL_acts 365 = .ok (.iconst (-1), 1) := by decide +kernel
theorem dL_acts_366 : decode cL_acts 366 = .ok (.goto 5, 3) := by decide +kernel
theorem dL_acts_369 : decode cL_acts 369 = .ok (.iload 9, 2) := by decide +kernel
theorem dL_acts_371 : decode cL_acts 371 = .ok (.if_icmp .ne 59, 3) := by decide +kernel
theorem dL_acts_374 : decode cL_acts 374 = .ok (.aload_n 0, 1) := by decide +kernel
theorem dL_acts_375 : decode cL_acts 375 = .ok (.iconst 3, 1) := by decide +kernel
theorem dL_acts_376 : decode cL_acts 376 = .ok (.iconst 0, 1) := by decide +kernel
theorem dL_acts_377 : decode cL_acts 377 = .ok (.invokestatic 272, 3) := by decide +kernel
theorem dL_acts_380 : decode cL_acts 380 = .ok (.ldc 18, 2) := by decide +kernel
theorem dL_acts_382 : decode cL_acts 382 = .ok (.if_icmp .ne 48, 3) := by decide +kernel
theorem dL_acts_385 : decode cL_acts 385 = .ok (.aload_n 0, 1) := by decide +kernel
theorem dL_acts_386 : decode cL_acts 386 = .ok (.iload 7, 2) := by decide +kernel
theorem dL_acts_388 : decode cL_acts 388 = .ok (.bipush 13, 2) := by decide +kernel
theorem dL_acts_390 : decode cL_acts 390 = .ok (.invokestatic 272, 3) := by decide +kernel
theorem dL_acts_393 : decode cL_acts 393 = .ok (.ldc 21, 2) := by decide +kernel
theorem dL_acts_395 : decode cL_acts 395 = .ok (.if_icmp .ne 35, 3) := by decide +kernel
theorem dL_acts_398 : decode cL_acts 398 = .ok (.aload_n 0, 1) := by decide +kernel
theorem dL_acts_399 : decode cL_acts 399 = .ok (.iload 7, 2) := by decide +kernel
theorem dL_acts_401 : decode cL_acts 401 = .ok (.iconst 5, 1) := by decide +kernel
theorem dL_acts_402 : decode cL_acts 402 = .ok (.iconst 5, 1) := by decide +kernel
theorem dL_acts_403 : decode cL_acts 403 = .ok (.invokestatic 274, 3) := by decide +kernel
theorem dL_acts_406 : decode cL_acts 406 = .ok (.ldc 21, 2) := by decide +kernel
theorem dL_acts_408 : decode cL_acts 408 = .ok (.if_icmp .ne 22, 3) := by decide +kernel
theorem dL_acts_411 : decode cL_acts 411 = .ok (.aload_n 0, 1) := by decide +kernel
theorem dL_acts_412 : decode cL_acts 412 = .ok (.iload 7, 2) := by decide +kernel
theorem dL_acts_414 : decode cL_acts 414 = .ok (.bipush 60, 2) := by decide +kernel
theorem dL_acts_416 : decode cL_acts 416 = .ok (.bipush 61, 2) := by decide +kernel
theorem dL_acts_418 : decode cL_acts 418 = .ok (.invokestatic 274, 3) := by decide +kernel
theorem dL_acts_421 : decode cL_acts 421 = .ok (.ldc 21, 2) := by decide +kernel
theorem dL_acts_423 : decode cL_acts 423 = .ok (.if_icmp .ne 7, 3) := by decide +kernel
theorem dL_acts_426 : decode cL_acts 426 = .ok (.iconst 1, 1) := by decide +kernel
theorem dL_acts_427 : decode cL_acts 427 = .ok (.goto 4, 3) := by decide +kernel
theorem dL_acts_430 : decode cL_acts 430 = .ok (.iconst 0, 1) := by decide +kernel
theorem dL_acts_431 : decode cL_acts 431 = .ok (.ireturn, 1) := by decide +kernel
theorem dL_acts_432 : decode cL_acts 432 = .ok (.iload 6, 2) := by decide +kernel
theorem dL_acts_434 : decode cL_acts 434 = .ok (.bipush 8, 2) := by decide +kernel
theorem dL_acts_436 : decode cL_acts 436 = .ok (.if_icmp .ge 19, 3) := by decide +kernel
theorem dL_acts_439 : decode cL_acts 439 = .ok (.aload_n 0, 1) := by decide +kernel
theorem dL_acts_440 : decode cL_acts 440 = .ok (.aload_n 1, 1) := by decide +kernel
theorem dL_acts_441 : decode cL_acts 441 = .ok (.aload_n 2, 1) := by decide +kernel
theorem dL_acts_442 : decode cL_acts 442 = .ok (.aload_n 3, 1) := by decide +kernel
theorem dL_acts_443 : decode cL_acts 443 = .ok (.iload 4, 2) := by decide +kernel
theorem dL_acts_445 : decode cL_acts 445 = .ok (.iconst 5, 1) := by decide +kernel
theorem dL_acts_446 : decode cL_acts 446 = .ok (.ishr, 1) := by decide +kernel
theorem dL_acts_447 : decode cL_acts 447 = .ok (.iload 5, 2) := by decide +kernel
theorem dL_acts_449 : decode cL_acts 449 = .ok (.invokestatic 276, 3) := by decide +kernel
theorem dL_acts_452 : decode cL_acts 452 = .ok (.goto 16, 3) := by decide +kernel
theorem dL_acts_455 : decode cL_acts 455 = .ok (.aload_n 0, 1) := by decide +kernel
theorem dL_acts_456 : decode cL_acts 456 = .ok (.aload_n 1, 1) := by decide +kernel
theorem dL_acts_457 : decode cL_acts 457 = .ok (.aload_n 2, 1) := by decide +kernel
theorem dL_acts_458 : decode cL_acts 458 = .ok (.aload_n 3, 1) := by decide +kernel
theorem dL_acts_459 : decode cL_acts 459 = .ok (.iload 4, 2) := by decide +kernel
theorem dL_acts_461 : decode cL_acts 461 = .ok (.iconst 5, 1) := by decide +kernel
theorem dL_acts_462 : decode cL_acts 462 = .ok (.ishr, 1) := by decide +kernel
theorem dL_acts_463 : decode cL_acts 463 = .ok (.iload 5, 2) := by decide +kernel
theorem dL_acts_465 : decode cL_acts 465 = .ok (.invokestatic 280, 3) := by decide +kernel
theorem dL_acts_468 : decode cL_acts 468 = .ok (.ireturn, 1) := by decide +kernel
theorem lk_L_acts : LK yL_acts cL_acts 12 (some .boolean) 6 := ⟨qW_at 890 (by decide +kernel) rfl, qW_at 28 (by decide +kernel) rfl, by decide, by decide, by decide +kernel⟩
theorem st_L_acts : Cond.static yL_acts ∈ qW := qW_at 889 (by decide +kernel) rfl
def F_L_acts (sv : Nat) (x_ y_ : Int32) : LX Int32 :=
  (lb (lb (lp x_) fun v1 => lb (lp (I 20)) fun v2 => F_L_low sv v1 v2) fun kind_3 =>
  (lb (lb (lb (lb (lp (some (sv + 22))) fun v4 => lb (lp (I 0)) fun v5 => lai sv v4 v5) fun v6 => lb (lp (I 2)) fun v7 => lp (decide (v6 < v7))) fun v9 => if v9 then lp true else (lb (lp kind_3) fun v8 => lp (decide (v8 = 0)))) fun v224 => if v224 then (lb (lb (lp y_) fun v10 => lb (lp (I 5)) fun v11 => F_L_low sv v10 v11) fun person_12 =>
  (lb (lb (lb (lb (lp (some (sv + 22))) fun v13 => lb (lp (I 0)) fun v14 => lai sv v13 v14) fun v15 => lb (lp (I 8)) fun v16 => lp (decide (v15 < v16))) fun v19 => if v19 then (lb (lp (some (sv + 22))) fun v17 => lb (lp (I 0)) fun v18 => lai sv v17 v18) else (lp (I (-1000003)))) fun due_20 =>
  (lb (lb (lb (lp due_20) fun v21 => lp (decide (0 ≤ v21))) fun v35 => if v35 then (lb (lb (lp (some (sv + 20))) fun v22 => lb (lp due_20) fun v23 => lb (lp person_12) fun v24 => lsai sv v22 v23 v24) fun _ =>
  (lb (lb (lp (some (sv + 21))) fun v25 => lb (lp person_12) fun v26 => lb (lai sv v25 v26) fun v27 => lb (lp (I 1)) fun v28 => lb (lp (v27 + v28)) fun v29 => lsai sv v25 v26 v29) fun _ =>
  (lb (lb (lp (some (sv + 22))) fun v30 => lb (lp (I 0)) fun v31 => lb (lai sv v30 v31) fun v32 => lb (lp (I 1)) fun v33 => lb (lp (v32 + v33)) fun v34 => lsai sv v30 v31 v34) fun _ =>
  (lp ())))) else (lp ())) fun s36 =>
  (lb (lb (lb (lb (lb (lb (lb (lb (lp (some sv)) fun v55 => lb (lp person_12) fun v56 => lb (lb (lb (lp y_) fun v37 => lb (lp (I 3)) fun v38 => (lp (v37 >>> (v38 &&& 31)))) fun v39 => lb (lp (I 3)) fun v40 => F_L_low sv v39 v40) fun v57 => lb (lb (lb (lp y_) fun v41 => lb (lp (I 5)) fun v42 => (lp (v41 >>> (v42 &&& 31)))) fun v43 => lb (lp (I 60)) fun v44 => F_L_low sv v43 v44) fun v58 => lb (lb (lb (lp y_) fun v45 => lb (lp (I 11)) fun v46 => (lp (v45 >>> (v46 &&& 31)))) fun v47 => lb (lp (I 24)) fun v48 => F_L_low sv v47 v48) fun v59 => lb (lb (lp (I 1)) fun v53 => lb (lb (lb (lp y_) fun v49 => lb (lp (I 16)) fun v50 => (lp (v49 >>> (v50 &&& 31)))) fun v51 => lb (lp (I 23)) fun v52 => F_L_low sv v51 v52) fun v54 => (lp (v53 + v54))) fun v60 => lgo v55 sv (w_make v56 v57 v58 v59 v60)) fun v61 => lb (lp due_20) fun v62 => lp (decide (v61 = v62))) fun v71 => if v71 then (lb (lb (lp (some sv)) fun v63 => lb (lp (I 5)) fun v64 => lb (lp (I 0)) fun v65 => lb (lp (I 60)) fun v66 => lb (lp (I 0)) fun v67 => lb (lp (I 0)) fun v68 => lgo v63 sv (w_make v64 v65 v66 v67 v68)) fun v69 => lb (lp (I (-1000001))) fun v70 => lp (decide (v69 = v70))) else lp false) fun v80 => if v80 then (lb (lb (lp (some sv)) fun v72 => lb (lp (I 0)) fun v73 => lb (lp (I 3)) fun v74 => lb (lp (I 0)) fun v75 => lb (lp (I 0)) fun v76 => lb (lp (I 1)) fun v77 => lgo v72 sv (w_make v73 v74 v75 v76 v77)) fun v78 => lb (lp (I (-1000001))) fun v79 => lp (decide (v78 = v79))) else lp false) fun v89 => if v89 then (lb (lb (lp (some sv)) fun v81 => lb (lp (I 0)) fun v82 => lb (lp (I 0)) fun v83 => lb (lp (I 0)) fun v84 => lb (lp (I 0)) fun v85 => lb (lp (I 0)) fun v86 => lgo v81 sv (w_make v82 v83 v84 v85 v86)) fun v87 => lb (lp (I (-1000002))) fun v88 => lp (decide (v87 = v88))) else lp false) fun v109 => if v109 then (lb (lb (lp due_20) fun v90 => lp (decide (v90 < 0))) fun v108 => if v108 then lp true else (lb (lb (lb (lb (lp (some sv)) fun v91 => lb (lp person_12) fun v92 => lb (lp due_20) fun v93 => lgo v91 sv (w_dates v92 v93)) fun v94 => lb (lp (I 1)) fun v95 => lp (decide (v94 = v95))) fun v100 => if v100 then (lb (lb (lp (some sv)) fun v96 => lb (lp person_12) fun v97 => lb (lp due_20) fun v98 => lgo v96 sv (w_sequence v97 v98)) fun v99 => lp (decide (v99 = 0))) else lp false) fun v107 => if v107 then (lb (lb (lp (some sv)) fun v101 => lb (lp person_12) fun v102 => lgo v101 sv (w_mark v102)) fun v103 => lb (lb (lp (some (sv + 21))) fun v104 => lb (lp person_12) fun v105 => lai sv v104 v105) fun v106 => lp (decide (v103 = v106))) else lp false)) else lp false) fun v110 => lp (b2i v110)) lz)))) else
  (lb (lb (lp kind_3) fun v111 => lb (lp (I 1)) fun v112 => lp (decide (v111 = v112))) fun v223 => if v223 then (lb (lb (lp y_) fun v113 => lb (lp (I 3)) fun v114 => F_L_low sv v113 v114) fun zone_115 =>
  (lb (lb (lb (lb (lp y_) fun v116 => lb (lp (I 2)) fun v117 => (lp (v116 >>> (v117 &&& 31)))) fun v118 => lb (lp (I 25)) fun v119 => F_L_low sv v118 v119) fun v120 => lb (lp (I 12)) fun v121 => (lp (v120 - v121))) fun offset_122 =>
  (lb (lb (lb (lp y_) fun v123 => lb (lp (I 7)) fun v124 => (lp (v123 >>> (v124 &&& 31)))) fun v125 => lb (lp (I 60)) fun v126 => F_L_low sv v125 v126) fun first_127 =>
  (lb (lb (lb (lp first_127) fun v128 => lb (lp (I 1)) fun v129 => (lp (v128 + v129))) fun v136 => lb (lb (lb (lp y_) fun v130 => lb (lp (I 13)) fun v131 => (lp (v130 >>> (v131 &&& 31)))) fun v134 => lb (lb (lp (I 60)) fun v132 => lb (lp first_127) fun v133 => (lp (v132 - v133))) fun v135 => F_L_low sv v134 v135) fun v137 => (lp (v136 + v137))) fun last_138 =>
  (lb (lb (lb (lb (lb (lp y_) fun v139 => lb (lp (I 20)) fun v140 => (lp (v139 >>> (v140 &&& 31)))) fun v141 => lb (lp (I 3)) fun v142 => F_L_low sv v141 v142) fun v143 => lp (decide (v143 = 0))) fun v144 => lp (b2i v144)) fun none_145 =>
  (lb (lb (lb (lb (lb (lb (lb (lb (lb (lb (lb (lp (some sv)) fun v146 => lb (lp zone_115) fun v147 => lb (lp offset_122) fun v148 => lgo v146 sv (w_setOffset v147 v148)) fun v149 => lb (lp (I (-12))) fun v150 => lp (decide (v150 ≤ v149))) fun v156 => if v156 then (lb (lb (lp (some sv)) fun v151 => lb (lp zone_115) fun v152 => lb (lp offset_122) fun v153 => lgo v151 sv (w_setOffset v152 v153)) fun v154 => lb (lp offset_122) fun v155 => lp (decide (v154 = v155))) else lp false) fun v165 => if v165 then (lb (lb (lp (some sv)) fun v159 => lb (lp zone_115) fun v160 => lb (lb (lb (lp none_145) fun v157 => lp (decide (¬ v157 = 0))) fun v158 => if v158 then (lp (I (-1))) else (lp first_127)) fun v161 => lb (lp last_138) fun v162 => lgo v159 sv (w_setSummer v160 v161 v162)) fun v163 => lb (lp (I (-1))) fun v164 => lp (decide (v164 ≤ v163))) else lp false) fun v176 => if v176 then (lb (lb (lp (some sv)) fun v168 => lb (lp zone_115) fun v169 => lb (lb (lb (lp none_145) fun v166 => lp (decide (¬ v166 = 0))) fun v167 => if v167 then (lp (I (-1))) else (lp first_127)) fun v170 => lb (lp last_138) fun v171 => lgo v168 sv (w_setSummer v169 v170 v171)) fun v172 => lb (lb (lb (lp none_145) fun v173 => lp (decide (¬ v173 = 0))) fun v174 => if v174 then (lp (I (-1))) else (lp first_127)) fun v175 => lp (decide (v172 = v175))) else lp false) fun v182 => if v182 then (lb (lb (lp (some sv)) fun v177 => lb (lp (I 3)) fun v178 => lb (lp (I 0)) fun v179 => lgo v177 sv (w_setOffset v178 v179)) fun v180 => lb (lp (I (-1000001))) fun v181 => lp (decide (v180 = v181))) else lp false) fun v188 => if v188 then (lb (lb (lp (some sv)) fun v183 => lb (lp zone_115) fun v184 => lb (lp (I 13)) fun v185 => lgo v183 sv (w_setOffset v184 v185)) fun v186 => lb (lp (I (-1000002))) fun v187 => lp (decide (v186 = v187))) else lp false) fun v195 => if v195 then (lb (lb (lp (some sv)) fun v189 => lb (lp zone_115) fun v190 => lb (lp (I 5)) fun v191 => lb (lp (I 5)) fun v192 => lgo v189 sv (w_setSummer v190 v191 v192)) fun v193 => lb (lp (I (-1000002))) fun v194 => lp (decide (v193 = v194))) else lp false) fun v202 => if v202 then (lb (lb (lp (some sv)) fun v196 => lb (lp zone_115) fun v197 => lb (lp (I 60)) fun v198 => lb (lp (I 61)) fun v199 => lgo v196 sv (w_setSummer v197 v198 v199)) fun v200 => lb (lp (I (-1000002))) fun v201 => lp (decide (v200 = v201))) else lp false) fun v203 => lp (b2i v203)) lz)))))) else
  (lb (lb (lb (lp kind_3) fun v204 => lb (lp (I 8)) fun v205 => lp (decide (v204 < v205))) fun v222 => if v222 then (lb (lp (some sv)) fun v208 => lb (lp (some (sv + 20))) fun v209 => lb (lp (some (sv + 21))) fun v210 => lb (lp (some (sv + 22))) fun v211 => lb (lb (lp x_) fun v206 => lb (lp (I 5)) fun v207 => (lp (v206 >>> (v207 &&& 31)))) fun v212 => lb (lp y_) fun v213 => lgo v208 sv (lgo v209 (sv + 20) (lgo v210 (sv + 21) (lgo v211 (sv + 22) (F_L_organises sv v212 v213))))) else (lb (lp (some sv)) fun v216 => lb (lp (some (sv + 20))) fun v217 => lb (lp (some (sv + 21))) fun v218 => lb (lp (some (sv + 22))) fun v219 => lb (lb (lp x_) fun v214 => lb (lp (I 5)) fun v215 => (lp (v214 >>> (v215 &&& 31)))) fun v220 => lb (lp y_) fun v221 => lgo v216 sv (lgo v217 (sv + 20) (lgo v218 (sv + 21) (lgo v219 (sv + 22) (F_L_others sv v220 v221)))))) lz))))
set_option maxRecDepth 100000 in
set_option maxHeartbeats 4000000 in
theorem M_L_acts (sv : Nat) (x_ y_ : Int32) : LM yL_acts cL_acts 12 (some .boolean) 12 237 100 3474 [.ref sv, .ref (sv + 20), .ref (sv + 21), .ref (sv + 22), .int x_, .int y_] sv (F_L_acts sv x_ y_) := by
  refine LM_of (env0 := [(0, va_rf (some sv)), (1, va_rf (some (sv + 20))), (2, va_rf (some (sv + 21))), (3, va_rf (some (sv + 22))), (4, .int x_), (5, .int y_)]) (by decide) (by exact Nat.le_of_ble_eq_true rfl) rfl (fun k R X C hR hN hr L0 h0 => ?_)
  have X : CX k cL_acts RL := X
  have htr := C.2.2.2.1
  unfold F_L_acts at h0
  exact KSB_go (KSB_let (KXE_2 (pB := pI) wI (kX (L_iload (x := x_) 4 X dL_acts_0 rfl)) (kX (L_bipush (v := I 20) X dL_acts_2 (by decide))) (fun v0 v1 st L a b hd hc hs h => by exact k_callS (st := st) X htr (M_L_low sv v0 v1) lk_L_low st_L_low ml_L_198 rfl (by rw [hR]; exact ⟨Nat.le_of_ble_eq_true rfl, Nat.le_of_ble_eq_true rfl⟩) (Nat.le_trans hd (by decide)) ⟨hc, hs⟩ dL_acts_4 h)) (kS (S_istore (ev := fun kind_3 => [(6, .int kind_3), (0, va_rf (some sv)), (1, va_rf (some (sv + 20))), (2, va_rf (some (sv + 21))), (3, va_rf (some (sv + 22))), (4, .int x_), (5, .int y_)]) X dL_acts_7 (by rw [hN]; decide) (fun _ => rfl))) fun kind_3 =>
  (KSB_if (KCE_or (KCE_2 wI (KXE_2 wR (kX (L_aload_n (r := (some (sv + 22))) 4 X dL_acts_9 rfl rfl)) (kX (L_iconst (v := I 0) X dL_acts_10 (by decide))) (kai X dL_acts_11)) (kX (L_iconst (v := I 2) X dL_acts_12 (by decide))) (kF2 (C_lt_T X dL_acts_13 (by decide)))) (KCE_1 (kX (L_iload (x := kind_3) 0 X dL_acts_16 rfl)) (kF1 (Z_eq_F X dL_acts_18 (by decide)))))
  (KSB_let (KXE_2 (pB := pI) wI (kX (L_iload (x := y_) 6 X dL_acts_21 rfl)) (kX (L_iconst (v := I 5) X dL_acts_23 (by decide))) (fun v0 v1 st L a b hd hc hs h => by exact k_callS (st := st) X htr (M_L_low sv v0 v1) lk_L_low st_L_low ml_L_198 rfl (by rw [hR]; exact ⟨Nat.le_of_ble_eq_true rfl, Nat.le_of_ble_eq_true rfl⟩) (Nat.le_trans hd (by decide)) ⟨hc, hs⟩ dL_acts_24 h)) (kS (S_istore (ev := fun person_12 => [(7, .int person_12), (6, .int kind_3), (0, va_rf (some sv)), (1, va_rf (some (sv + 20))), (2, va_rf (some (sv + 21))), (3, va_rf (some (sv + 22))), (4, .int x_), (5, .int y_)]) X dL_acts_27 (by rw [hN]; decide) (fun _ => rfl))) fun person_12 =>
  (KSB_let (KXE_tern (KCE_2 wI (KXE_2 wR (kX (L_aload_n (r := (some (sv + 22))) 5 X dL_acts_29 rfl rfl)) (kX (L_iconst (v := I 0) X dL_acts_30 (by decide))) (kai X dL_acts_31)) (kX (L_bipush (v := I 8) X dL_acts_32 (by decide))) (kF2 (C_lt_F X dL_acts_34 (by decide)))) (KXE_2 wR (kX (L_aload_n (r := (some (sv + 22))) 5 X dL_acts_37 rfl rfl)) (kX (L_iconst (v := I 0) X dL_acts_38 (by decide))) (kai X dL_acts_39)) (kJ (S_goto X dL_acts_40 (by decide))) (kX (L_ldc (v := I (-1000003)) X dL_acts_43 kd_L_38))) (kS (S_istore (ev := fun due_20 => [(8, .int due_20), (7, .int person_12), (6, .int kind_3), (0, va_rf (some sv)), (1, va_rf (some (sv + 20))), (2, va_rf (some (sv + 21))), (3, va_rf (some (sv + 22))), (4, .int x_), (5, .int y_)]) X dL_acts_45 (by rw [hN]; decide) (fun _ => rfl))) fun due_20 =>
  (KSB_seq (KST_if (KCE_1 (kX (L_iload (x := due_20) 0 X dL_acts_47 rfl)) (kF1 (Z_ge_F X dL_acts_49 (by decide))))
  (KST_do (KXE_3 wR wI (kX (L_aload_n (r := (some (sv + 20))) 4 X dL_acts_52 rfl rfl)) (kX (L_iload (x := due_20) 0 X dL_acts_53 rfl)) (kX (L_iload (x := person_12) 1 X dL_acts_55 rfl)) (ksai X dL_acts_57))
  (KST_do (KXE_dup2 wI (kX (L_aload_n (r := (some (sv + 21))) 5 X dL_acts_58 rfl rfl)) (kX (L_iload (x := person_12) 1 X dL_acts_59 rfl)) (kD2 (S_dup2 X dL_acts_61)) (kai X dL_acts_62) (kX (L_iconst (v := I 1) X dL_acts_63 (by decide))) (k2 (O_iadd X dL_acts_64)) (ksai X dL_acts_65))
  (KST_do (KXE_dup2 wI (kX (L_aload_n (r := (some (sv + 22))) 6 X dL_acts_66 rfl rfl)) (kX (L_iconst (v := I 0) X dL_acts_67 (by decide))) (kD2 (S_dup2 X dL_acts_68)) (kai X dL_acts_69) (kX (L_iconst (v := I 1) X dL_acts_70 (by decide))) (k2 (O_iadd X dL_acts_71)) (ksai X dL_acts_72))
  (KST_done (upd := (fun (s : Unit) => [(8, .int due_20), (7, .int person_12), (6, .int kind_3), (0, va_rf (some sv)), (1, va_rf (some (sv + 20))), (2, va_rf (some (sv + 21))), (3, va_rf (some (sv + 22))), (4, .int x_), (5, .int y_)])) (s := ()) [0, 1, 2, 3, 4, 5, 6, 7, 8] rfl))))
  (KST_done (upd := (fun (s : Unit) => [(8, .int due_20), (7, .int person_12), (6, .int kind_3), (0, va_rf (some sv)), (1, va_rf (some (sv + 20))), (2, va_rf (some (sv + 21))), (3, va_rf (some (sv + 22))), (4, .int x_), (5, .int y_)])) (s := ()) [0, 1, 2, 3, 4, 5, 6, 7, 8] rfl)) fun s36 =>
  (kretZ X C hr dL_acts_212 (KXE_b2i (KCE_and (KCE_and (KCE_and (KCE_and (KCE_2 wI (KXE_6 (pB := pI) wR wI wI wI wI (kX (L_aload_n (r := (some sv)) 3 X dL_acts_73 rfl rfl)) (kX (L_iload (x := person_12) 1 X dL_acts_74 rfl)) (KXE_2 (pB := pI) wI (KXE_2 wI (kX (L_iload (x := y_) 8 X dL_acts_76 rfl)) (kX (L_iconst (v := I 3) X dL_acts_78 (by decide))) (k2 (O_ishr X dL_acts_79))) (kX (L_iconst (v := I 3) X dL_acts_80 (by decide))) (fun v0 v1 st L a b hd hc hs h => by exact k_callS (st := st) X htr (M_L_low sv v0 v1) lk_L_low st_L_low ml_L_198 rfl (by rw [hR]; exact ⟨Nat.le_of_ble_eq_true rfl, Nat.le_of_ble_eq_true rfl⟩) (Nat.le_trans hd (by decide)) ⟨hc, hs⟩ dL_acts_81 h)) (KXE_2 (pB := pI) wI (KXE_2 wI (kX (L_iload (x := y_) 8 X dL_acts_84 rfl)) (kX (L_iconst (v := I 5) X dL_acts_86 (by decide))) (k2 (O_ishr X dL_acts_87))) (kX (L_bipush (v := I 60) X dL_acts_88 (by decide))) (fun v0 v1 st L a b hd hc hs h => by exact k_callS (st := st) X htr (M_L_low sv v0 v1) lk_L_low st_L_low ml_L_198 rfl (by rw [hR]; exact ⟨Nat.le_of_ble_eq_true rfl, Nat.le_of_ble_eq_true rfl⟩) (Nat.le_trans hd (by decide)) ⟨hc, hs⟩ dL_acts_90 h)) (KXE_2 (pB := pI) wI (KXE_2 wI (kX (L_iload (x := y_) 8 X dL_acts_93 rfl)) (kX (L_bipush (v := I 11) X dL_acts_95 (by decide))) (k2 (O_ishr X dL_acts_97))) (kX (L_bipush (v := I 24) X dL_acts_98 (by decide))) (fun v0 v1 st L a b hd hc hs h => by exact k_callS (st := st) X htr (M_L_low sv v0 v1) lk_L_low st_L_low ml_L_198 rfl (by rw [hR]; exact ⟨Nat.le_of_ble_eq_true rfl, Nat.le_of_ble_eq_true rfl⟩) (Nat.le_trans hd (by decide)) ⟨hc, hs⟩ dL_acts_100 h)) (KXE_2 wI (kX (L_iconst (v := I 1) X dL_acts_103 (by decide))) (KXE_2 (pB := pI) wI (KXE_2 wI (kX (L_iload (x := y_) 8 X dL_acts_104 rfl)) (kX (L_bipush (v := I 16) X dL_acts_106 (by decide))) (k2 (O_ishr X dL_acts_108))) (kX (L_bipush (v := I 23) X dL_acts_109 (by decide))) (fun v0 v1 st L a b hd hc hs h => by exact k_callS (st := st) X htr (M_L_low sv v0 v1) lk_L_low st_L_low ml_L_198 rfl (by rw [hR]; exact ⟨Nat.le_of_ble_eq_true rfl, Nat.le_of_ble_eq_true rfl⟩) (Nat.le_trans hd (by decide)) ⟨hc, hs⟩ dL_acts_111 h)) (k2 (O_iadd X dL_acts_114))) (fun v0 v1 v2 v3 v4 v5 st L a b hd hc hs h => by obtain ⟨rfl, h1⟩ := lgo_of h; exact k_callH (st := st) X htr (E_L_make sv v1 v2 v3 v4 v5) lkh_make stl_make ml_L_269 rfl (by rw [hR]; exact ⟨Nat.le_of_ble_eq_true rfl, Nat.le_of_ble_eq_true rfl⟩) (Nat.le_trans hd (by decide)) ⟨hc, hs⟩ dL_acts_115 h1)) (kX (L_iload (x := due_20) 0 X dL_acts_118 rfl)) (kF2 (C_eq_F X dL_acts_120 (by decide)))) (KCE_2 wI (KXE_6 (pB := pI) wR wI wI wI wI (kX (L_aload_n (r := (some sv)) 3 X dL_acts_123 rfl rfl)) (kX (L_iconst (v := I 5) X dL_acts_124 (by decide))) (kX (L_iconst (v := I 0) X dL_acts_125 (by decide))) (kX (L_bipush (v := I 60) X dL_acts_126 (by decide))) (kX (L_iconst (v := I 0) X dL_acts_128 (by decide))) (kX (L_iconst (v := I 0) X dL_acts_129 (by decide))) (fun v0 v1 v2 v3 v4 v5 st L a b hd hc hs h => by obtain ⟨rfl, h1⟩ := lgo_of h; exact k_callH (st := st) X htr (E_L_make sv v1 v2 v3 v4 v5) lkh_make stl_make ml_L_269 rfl (by rw [hR]; exact ⟨Nat.le_of_ble_eq_true rfl, Nat.le_of_ble_eq_true rfl⟩) (Nat.le_trans hd (by decide)) ⟨hc, hs⟩ dL_acts_130 h1)) (kX (L_ldc (v := I (-1000001)) X dL_acts_133 kd_L_18)) (kF2 (C_eq_F X dL_acts_135 (by decide))))) (KCE_2 wI (KXE_6 (pB := pI) wR wI wI wI wI (kX (L_aload_n (r := (some sv)) 3 X dL_acts_138 rfl rfl)) (kX (L_iconst (v := I 0) X dL_acts_139 (by decide))) (kX (L_iconst (v := I 3) X dL_acts_140 (by decide))) (kX (L_iconst (v := I 0) X dL_acts_141 (by decide))) (kX (L_iconst (v := I 0) X dL_acts_142 (by decide))) (kX (L_iconst (v := I 1) X dL_acts_143 (by decide))) (fun v0 v1 v2 v3 v4 v5 st L a b hd hc hs h => by obtain ⟨rfl, h1⟩ := lgo_of h; exact k_callH (st := st) X htr (E_L_make sv v1 v2 v3 v4 v5) lkh_make stl_make ml_L_269 rfl (by rw [hR]; exact ⟨Nat.le_of_ble_eq_true rfl, Nat.le_of_ble_eq_true rfl⟩) (Nat.le_trans hd (by decide)) ⟨hc, hs⟩ dL_acts_144 h1)) (kX (L_ldc (v := I (-1000001)) X dL_acts_147 kd_L_18)) (kF2 (C_eq_F X dL_acts_149 (by decide))))) (KCE_2 wI (KXE_6 (pB := pI) wR wI wI wI wI (kX (L_aload_n (r := (some sv)) 3 X dL_acts_152 rfl rfl)) (kX (L_iconst (v := I 0) X dL_acts_153 (by decide))) (kX (L_iconst (v := I 0) X dL_acts_154 (by decide))) (kX (L_iconst (v := I 0) X dL_acts_155 (by decide))) (kX (L_iconst (v := I 0) X dL_acts_156 (by decide))) (kX (L_iconst (v := I 0) X dL_acts_157 (by decide))) (fun v0 v1 v2 v3 v4 v5 st L a b hd hc hs h => by obtain ⟨rfl, h1⟩ := lgo_of h; exact k_callH (st := st) X htr (E_L_make sv v1 v2 v3 v4 v5) lkh_make stl_make ml_L_269 rfl (by rw [hR]; exact ⟨Nat.le_of_ble_eq_true rfl, Nat.le_of_ble_eq_true rfl⟩) (Nat.le_trans hd (by decide)) ⟨hc, hs⟩ dL_acts_158 h1)) (kX (L_ldc (v := I (-1000002)) X dL_acts_161 kd_L_21)) (kF2 (C_eq_F X dL_acts_163 (by decide))))) (KCE_or (KCE_1 (kX (L_iload (x := due_20) 0 X dL_acts_166 rfl)) (kF1 (Z_lt_T X dL_acts_168 (by decide)))) (KCE_and (KCE_and (KCE_2 wI (KXE_3 (pB := pI) wR wI (kX (L_aload_n (r := (some sv)) 3 X dL_acts_171 rfl rfl)) (kX (L_iload (x := person_12) 1 X dL_acts_172 rfl)) (kX (L_iload (x := due_20) 0 X dL_acts_174 rfl)) (fun v0 v1 v2 st L a b hd hc hs h => by obtain ⟨rfl, h1⟩ := lgo_of h; exact k_callH (st := st) X htr (E_L_dates sv v1 v2) lkh_dates stl_dates ml_L_164 rfl (by rw [hR]; exact ⟨Nat.le_of_ble_eq_true rfl, Nat.le_of_ble_eq_true rfl⟩) (Nat.le_trans hd (by decide)) ⟨hc, hs⟩ dL_acts_176 h1)) (kX (L_iconst (v := I 1) X dL_acts_179 (by decide))) (kF2 (C_eq_F X dL_acts_180 (by decide)))) (KCE_1 (KXE_3 (pB := pI) wR wI (kX (L_aload_n (r := (some sv)) 3 X dL_acts_183 rfl rfl)) (kX (L_iload (x := person_12) 1 X dL_acts_184 rfl)) (kX (L_iload (x := due_20) 0 X dL_acts_186 rfl)) (fun v0 v1 v2 st L a b hd hc hs h => by obtain ⟨rfl, h1⟩ := lgo_of h; exact k_callH (st := st) X htr (E_L_sequence sv v1 v2) lkh_sequence stl_sequence ml_L_160 rfl (by rw [hR]; exact ⟨Nat.le_of_ble_eq_true rfl, Nat.le_of_ble_eq_true rfl⟩) (Nat.le_trans hd (by decide)) ⟨hc, hs⟩ dL_acts_188 h1)) (kF1 (Z_eq_F X dL_acts_191 (by decide))))) (KCE_2 wI (KXE_2 (pB := pI) wR (kX (L_aload_n (r := (some sv)) 3 X dL_acts_194 rfl rfl)) (kX (L_iload (x := person_12) 1 X dL_acts_195 rfl)) (fun v0 v1 st L a b hd hc hs h => by obtain ⟨rfl, h1⟩ := lgo_of h; exact k_callH (st := st) X htr (E_L_mark sv v1) lkh_mark stl_mark ml_L_196 rfl (by rw [hR]; exact ⟨Nat.le_of_ble_eq_true rfl, Nat.le_of_ble_eq_true rfl⟩) (Nat.le_trans hd (by decide)) ⟨hc, hs⟩ dL_acts_197 h1)) (KXE_2 wR (kX (L_aload_n (r := (some (sv + 21))) 5 X dL_acts_200 rfl rfl)) (kX (L_iload (x := person_12) 1 X dL_acts_201 rfl)) (kai X dL_acts_203)) (kF2 (C_eq_F X dL_acts_204 (by decide))))))) (kB (S_b1 X dL_acts_207 dL_acts_208 (by decide))) (kB (S_b0 X dL_acts_211)))))))
  (KSB_if (KCE_2 wI (kX (L_iload (x := kind_3) 0 X dL_acts_213 rfl)) (kX (L_iconst (v := I 1) X dL_acts_215 (by decide))) (kF2 (C_eq_F X dL_acts_216 (by decide))))
  (KSB_let (KXE_2 (pB := pI) wI (kX (L_iload (x := y_) 6 X dL_acts_219 rfl)) (kX (L_iconst (v := I 3) X dL_acts_221 (by decide))) (fun v0 v1 st L a b hd hc hs h => by exact k_callS (st := st) X htr (M_L_low sv v0 v1) lk_L_low st_L_low ml_L_198 rfl (by rw [hR]; exact ⟨Nat.le_of_ble_eq_true rfl, Nat.le_of_ble_eq_true rfl⟩) (Nat.le_trans hd (by decide)) ⟨hc, hs⟩ dL_acts_222 h)) (kS (S_istore (ev := fun zone_115 => [(7, .int zone_115), (6, .int kind_3), (0, va_rf (some sv)), (1, va_rf (some (sv + 20))), (2, va_rf (some (sv + 21))), (3, va_rf (some (sv + 22))), (4, .int x_), (5, .int y_)]) X dL_acts_225 (by rw [hN]; decide) (fun _ => rfl))) fun zone_115 =>
  (KSB_let (KXE_2 wI (KXE_2 (pB := pI) wI (KXE_2 wI (kX (L_iload (x := y_) 7 X dL_acts_227 rfl)) (kX (L_iconst (v := I 2) X dL_acts_229 (by decide))) (k2 (O_ishr X dL_acts_230))) (kX (L_bipush (v := I 25) X dL_acts_231 (by decide))) (fun v0 v1 st L a b hd hc hs h => by exact k_callS (st := st) X htr (M_L_low sv v0 v1) lk_L_low st_L_low ml_L_198 rfl (by rw [hR]; exact ⟨Nat.le_of_ble_eq_true rfl, Nat.le_of_ble_eq_true rfl⟩) (Nat.le_trans hd (by decide)) ⟨hc, hs⟩ dL_acts_233 h)) (kX (L_bipush (v := I 12) X dL_acts_236 (by decide))) (k2 (O_isub X dL_acts_238))) (kS (S_istore (ev := fun offset_122 => [(8, .int offset_122), (7, .int zone_115), (6, .int kind_3), (0, va_rf (some sv)), (1, va_rf (some (sv + 20))), (2, va_rf (some (sv + 21))), (3, va_rf (some (sv + 22))), (4, .int x_), (5, .int y_)]) X dL_acts_239 (by rw [hN]; decide) (fun _ => rfl))) fun offset_122 =>
  (KSB_let (KXE_2 (pB := pI) wI (KXE_2 wI (kX (L_iload (x := y_) 8 X dL_acts_241 rfl)) (kX (L_bipush (v := I 7) X dL_acts_243 (by decide))) (k2 (O_ishr X dL_acts_245))) (kX (L_bipush (v := I 60) X dL_acts_246 (by decide))) (fun v0 v1 st L a b hd hc hs h => by exact k_callS (st := st) X htr (M_L_low sv v0 v1) lk_L_low st_L_low ml_L_198 rfl (by rw [hR]; exact ⟨Nat.le_of_ble_eq_true rfl, Nat.le_of_ble_eq_true rfl⟩) (Nat.le_trans hd (by decide)) ⟨hc, hs⟩ dL_acts_248 h)) (kS (S_istore (ev := fun first_127 => [(9, .int first_127), (8, .int offset_122), (7, .int zone_115), (6, .int kind_3), (0, va_rf (some sv)), (1, va_rf (some (sv + 20))), (2, va_rf (some (sv + 21))), (3, va_rf (some (sv + 22))), (4, .int x_), (5, .int y_)]) X dL_acts_251 (by rw [hN]; decide) (fun _ => rfl))) fun first_127 =>
  (KSB_let (KXE_2 wI (KXE_2 wI (kX (L_iload (x := first_127) 0 X dL_acts_253 rfl)) (kX (L_iconst (v := I 1) X dL_acts_255 (by decide))) (k2 (O_iadd X dL_acts_256))) (KXE_2 (pB := pI) wI (KXE_2 wI (kX (L_iload (x := y_) 9 X dL_acts_257 rfl)) (kX (L_bipush (v := I 13) X dL_acts_259 (by decide))) (k2 (O_ishr X dL_acts_261))) (KXE_2 wI (kX (L_bipush (v := I 60) X dL_acts_262 (by decide))) (kX (L_iload (x := first_127) 0 X dL_acts_264 rfl)) (k2 (O_isub X dL_acts_266))) (fun v0 v1 st L a b hd hc hs h => by exact k_callS (st := st) X htr (M_L_low sv v0 v1) lk_L_low st_L_low ml_L_198 rfl (by rw [hR]; exact ⟨Nat.le_of_ble_eq_true rfl, Nat.le_of_ble_eq_true rfl⟩) (Nat.le_trans hd (by decide)) ⟨hc, hs⟩ dL_acts_267 h)) (k2 (O_iadd X dL_acts_270))) (kS (S_istore (ev := fun last_138 => [(10, .int last_138), (9, .int first_127), (8, .int offset_122), (7, .int zone_115), (6, .int kind_3), (0, va_rf (some sv)), (1, va_rf (some (sv + 20))), (2, va_rf (some (sv + 21))), (3, va_rf (some (sv + 22))), (4, .int x_), (5, .int y_)]) X dL_acts_271 (by rw [hN]; decide) (fun _ => rfl))) fun last_138 =>
  (KSB_let (KXE_b2i (KCE_1 (KXE_2 (pB := pI) wI (KXE_2 wI (kX (L_iload (x := y_) 10 X dL_acts_273 rfl)) (kX (L_bipush (v := I 20) X dL_acts_275 (by decide))) (k2 (O_ishr X dL_acts_277))) (kX (L_iconst (v := I 3) X dL_acts_278 (by decide))) (fun v0 v1 st L a b hd hc hs h => by exact k_callS (st := st) X htr (M_L_low sv v0 v1) lk_L_low st_L_low ml_L_198 rfl (by rw [hR]; exact ⟨Nat.le_of_ble_eq_true rfl, Nat.le_of_ble_eq_true rfl⟩) (Nat.le_trans hd (by decide)) ⟨hc, hs⟩ dL_acts_279 h)) (kF1 (Z_eq_F X dL_acts_282 (by decide)))) (kB (S_b1 X dL_acts_285 dL_acts_286 (by decide))) (kB (S_b0 X dL_acts_289))) (kS (S_istore (ev := fun none_145 => [(11, .int none_145), (10, .int last_138), (9, .int first_127), (8, .int offset_122), (7, .int zone_115), (6, .int kind_3), (0, va_rf (some sv)), (1, va_rf (some (sv + 20))), (2, va_rf (some (sv + 21))), (3, va_rf (some (sv + 22))), (4, .int x_), (5, .int y_)]) X dL_acts_290 (by rw [hN]; decide) (fun _ => rfl))) fun none_145 =>
  (kretZ X C hr dL_acts_431 (KXE_b2i (KCE_and (KCE_and (KCE_and (KCE_and (KCE_and (KCE_and (KCE_and (KCE_2 wI (KXE_3 (pB := pI) wR wI (kX (L_aload_n (r := (some sv)) 6 X dL_acts_292 rfl rfl)) (kX (L_iload (x := zone_115) 4 X dL_acts_293 rfl)) (kX (L_iload (x := offset_122) 3 X dL_acts_295 rfl)) (fun v0 v1 v2 st L a b hd hc hs h => by obtain ⟨rfl, h1⟩ := lgo_of h; exact k_callH (st := st) X htr (E_L_setOffset sv v1 v2) lkh_setOffset stl_setOffset ml_L_272 rfl (by rw [hR]; exact ⟨Nat.le_of_ble_eq_true rfl, Nat.le_of_ble_eq_true rfl⟩) (Nat.le_trans hd (by decide)) ⟨hc, hs⟩ dL_acts_297 h1)) (kX (L_bipush (v := I (-12)) X dL_acts_300 (by decide))) (kF2 (C_ge_F X dL_acts_302 (by decide)))) (KCE_2 wI (KXE_3 (pB := pI) wR wI (kX (L_aload_n (r := (some sv)) 6 X dL_acts_305 rfl rfl)) (kX (L_iload (x := zone_115) 4 X dL_acts_306 rfl)) (kX (L_iload (x := offset_122) 3 X dL_acts_308 rfl)) (fun v0 v1 v2 st L a b hd hc hs h => by obtain ⟨rfl, h1⟩ := lgo_of h; exact k_callH (st := st) X htr (E_L_setOffset sv v1 v2) lkh_setOffset stl_setOffset ml_L_272 rfl (by rw [hR]; exact ⟨Nat.le_of_ble_eq_true rfl, Nat.le_of_ble_eq_true rfl⟩) (Nat.le_trans hd (by decide)) ⟨hc, hs⟩ dL_acts_310 h1)) (kX (L_iload (x := offset_122) 3 X dL_acts_313 rfl)) (kF2 (C_eq_F X dL_acts_315 (by decide))))) (KCE_2 wI (KXE_4 (pB := pI) wR wI wI (kX (L_aload_n (r := (some sv)) 6 X dL_acts_318 rfl rfl)) (kX (L_iload (x := zone_115) 4 X dL_acts_319 rfl)) (KXE_tern (KCE_1 (kX (L_iload (x := none_145) 0 X dL_acts_321 rfl)) (kF1 (Z_ne_F X dL_acts_323 (by decide)))) (kX (L_iconst (v := I (-1)) X dL_acts_326 (by decide))) (kJ (S_goto X dL_acts_327 (by decide))) (kX (L_iload (x := first_127) 2 X dL_acts_330 rfl))) (kX (L_iload (x := last_138) 1 X dL_acts_332 rfl)) (fun v0 v1 v2 v3 st L a b hd hc hs h => by obtain ⟨rfl, h1⟩ := lgo_of h; exact k_callH (st := st) X htr (E_L_setSummer sv v1 v2 v3) lkh_setSummer stl_setSummer ml_L_274 rfl (by rw [hR]; exact ⟨Nat.le_of_ble_eq_true rfl, Nat.le_of_ble_eq_true rfl⟩) (Nat.le_trans hd (by decide)) ⟨hc, hs⟩ dL_acts_334 h1)) (kX (L_iconst (v := I (-1)) X dL_acts_337 (by decide))) (kF2 (C_ge_F X dL_acts_338 (by decide))))) (KCE_2 wI (KXE_4 (pB := pI) wR wI wI (kX (L_aload_n (r := (some sv)) 6 X dL_acts_341 rfl rfl)) (kX (L_iload (x := zone_115) 4 X dL_acts_342 rfl)) (KXE_tern (KCE_1 (kX (L_iload (x := none_145) 0 X dL_acts_344 rfl)) (kF1 (Z_ne_F X dL_acts_346 (by decide)))) (kX (L_iconst (v := I (-1)) X dL_acts_349 (by decide))) (kJ (S_goto X dL_acts_350 (by decide))) (kX (L_iload (x := first_127) 2 X dL_acts_353 rfl))) (kX (L_iload (x := last_138) 1 X dL_acts_355 rfl)) (fun v0 v1 v2 v3 st L a b hd hc hs h => by obtain ⟨rfl, h1⟩ := lgo_of h; exact k_callH (st := st) X htr (E_L_setSummer sv v1 v2 v3) lkh_setSummer stl_setSummer ml_L_274 rfl (by rw [hR]; exact ⟨Nat.le_of_ble_eq_true rfl, Nat.le_of_ble_eq_true rfl⟩) (Nat.le_trans hd (by decide)) ⟨hc, hs⟩ dL_acts_357 h1)) (KXE_tern (KCE_1 (kX (L_iload (x := none_145) 0 X dL_acts_360 rfl)) (kF1 (Z_ne_F X dL_acts_362 (by decide)))) (kX (L_iconst (v := I (-1)) X dL_acts_365 (by decide))) (kJ (S_goto X dL_acts_366 (by decide))) (kX (L_iload (x := first_127) 2 X dL_acts_369 rfl))) (kF2 (C_eq_F X dL_acts_371 (by decide))))) (KCE_2 wI (KXE_3 (pB := pI) wR wI (kX (L_aload_n (r := (some sv)) 6 X dL_acts_374 rfl rfl)) (kX (L_iconst (v := I 3) X dL_acts_375 (by decide))) (kX (L_iconst (v := I 0) X dL_acts_376 (by decide))) (fun v0 v1 v2 st L a b hd hc hs h => by obtain ⟨rfl, h1⟩ := lgo_of h; exact k_callH (st := st) X htr (E_L_setOffset sv v1 v2) lkh_setOffset stl_setOffset ml_L_272 rfl (by rw [hR]; exact ⟨Nat.le_of_ble_eq_true rfl, Nat.le_of_ble_eq_true rfl⟩) (Nat.le_trans hd (by decide)) ⟨hc, hs⟩ dL_acts_377 h1)) (kX (L_ldc (v := I (-1000001)) X dL_acts_380 kd_L_18)) (kF2 (C_eq_F X dL_acts_382 (by decide))))) (KCE_2 wI (KXE_3 (pB := pI) wR wI (kX (L_aload_n (r := (some sv)) 6 X dL_acts_385 rfl rfl)) (kX (L_iload (x := zone_115) 4 X dL_acts_386 rfl)) (kX (L_bipush (v := I 13) X dL_acts_388 (by decide))) (fun v0 v1 v2 st L a b hd hc hs h => by obtain ⟨rfl, h1⟩ := lgo_of h; exact k_callH (st := st) X htr (E_L_setOffset sv v1 v2) lkh_setOffset stl_setOffset ml_L_272 rfl (by rw [hR]; exact ⟨Nat.le_of_ble_eq_true rfl, Nat.le_of_ble_eq_true rfl⟩) (Nat.le_trans hd (by decide)) ⟨hc, hs⟩ dL_acts_390 h1)) (kX (L_ldc (v := I (-1000002)) X dL_acts_393 kd_L_21)) (kF2 (C_eq_F X dL_acts_395 (by decide))))) (KCE_2 wI (KXE_4 (pB := pI) wR wI wI (kX (L_aload_n (r := (some sv)) 6 X dL_acts_398 rfl rfl)) (kX (L_iload (x := zone_115) 4 X dL_acts_399 rfl)) (kX (L_iconst (v := I 5) X dL_acts_401 (by decide))) (kX (L_iconst (v := I 5) X dL_acts_402 (by decide))) (fun v0 v1 v2 v3 st L a b hd hc hs h => by obtain ⟨rfl, h1⟩ := lgo_of h; exact k_callH (st := st) X htr (E_L_setSummer sv v1 v2 v3) lkh_setSummer stl_setSummer ml_L_274 rfl (by rw [hR]; exact ⟨Nat.le_of_ble_eq_true rfl, Nat.le_of_ble_eq_true rfl⟩) (Nat.le_trans hd (by decide)) ⟨hc, hs⟩ dL_acts_403 h1)) (kX (L_ldc (v := I (-1000002)) X dL_acts_406 kd_L_21)) (kF2 (C_eq_F X dL_acts_408 (by decide))))) (KCE_2 wI (KXE_4 (pB := pI) wR wI wI (kX (L_aload_n (r := (some sv)) 6 X dL_acts_411 rfl rfl)) (kX (L_iload (x := zone_115) 4 X dL_acts_412 rfl)) (kX (L_bipush (v := I 60) X dL_acts_414 (by decide))) (kX (L_bipush (v := I 61) X dL_acts_416 (by decide))) (fun v0 v1 v2 v3 st L a b hd hc hs h => by obtain ⟨rfl, h1⟩ := lgo_of h; exact k_callH (st := st) X htr (E_L_setSummer sv v1 v2 v3) lkh_setSummer stl_setSummer ml_L_274 rfl (by rw [hR]; exact ⟨Nat.le_of_ble_eq_true rfl, Nat.le_of_ble_eq_true rfl⟩) (Nat.le_trans hd (by decide)) ⟨hc, hs⟩ dL_acts_418 h1)) (kX (L_ldc (v := I (-1000002)) X dL_acts_421 kd_L_21)) (kF2 (C_eq_F X dL_acts_423 (by decide))))) (kB (S_b1 X dL_acts_426 dL_acts_427 (by decide))) (kB (S_b0 X dL_acts_430)))))))))
  (kretZ X C hr dL_acts_468 (KXE_tern (KCE_2 wI (kX (L_iload (x := kind_3) 0 X dL_acts_432 rfl)) (kX (L_bipush (v := I 8) X dL_acts_434 (by decide))) (kF2 (C_lt_F X dL_acts_436 (by decide)))) (KXE_6 (pB := pI) wR wR wR wR wI (kX (L_aload_n (r := (some sv)) 1 X dL_acts_439 rfl rfl)) (kX (L_aload_n (r := (some (sv + 20))) 2 X dL_acts_440 rfl rfl)) (kX (L_aload_n (r := (some (sv + 21))) 3 X dL_acts_441 rfl rfl)) (kX (L_aload_n (r := (some (sv + 22))) 4 X dL_acts_442 rfl rfl)) (KXE_2 wI (kX (L_iload (x := x_) 5 X dL_acts_443 rfl)) (kX (L_iconst (v := I 5) X dL_acts_445 (by decide))) (k2 (O_ishr X dL_acts_446))) (kX (L_iload (x := y_) 6 X dL_acts_447 rfl)) (fun v0 v1 v2 v3 v4 v5 st L a b hd hc hs h => by obtain ⟨rfl, h1⟩ := lgo_of h; obtain ⟨rfl, h2⟩ := lgo_of h1; obtain ⟨rfl, h3⟩ := lgo_of h2; obtain ⟨rfl, h4⟩ := lgo_of h3; exact k_callS (st := st) X htr (M_L_organises sv v4 v5) lk_L_organises st_L_organises ml_L_276 rfl (by rw [hR]; exact ⟨Nat.le_of_ble_eq_true rfl, Nat.le_of_ble_eq_true rfl⟩) (Nat.le_trans hd (by decide)) ⟨hc, hs⟩ dL_acts_449 h4)) (kJ (S_goto X dL_acts_452 (by decide))) (KXE_6 (pB := pI) wR wR wR wR wI (kX (L_aload_n (r := (some sv)) 1 X dL_acts_455 rfl rfl)) (kX (L_aload_n (r := (some (sv + 20))) 2 X dL_acts_456 rfl rfl)) (kX (L_aload_n (r := (some (sv + 21))) 3 X dL_acts_457 rfl rfl)) (kX (L_aload_n (r := (some (sv + 22))) 4 X dL_acts_458 rfl rfl)) (KXE_2 wI (kX (L_iload (x := x_) 5 X dL_acts_459 rfl)) (kX (L_iconst (v := I 5) X dL_acts_461 (by decide))) (k2 (O_ishr X dL_acts_462))) (kX (L_iload (x := y_) 6 X dL_acts_463 rfl)) (fun v0 v1 v2 v3 v4 v5 st L a b hd hc hs h => by obtain ⟨rfl, h1⟩ := lgo_of h; obtain ⟨rfl, h2⟩ := lgo_of h1; obtain ⟨rfl, h3⟩ := lgo_of h2; obtain ⟨rfl, h4⟩ := lgo_of h3; exact k_callS (st := st) X htr (M_L_others sv v4 v5) lk_L_others st_L_others ml_L_280 rfl (by rw [hR]; exact ⟨Nat.le_of_ble_eq_true rfl, Nat.le_of_ble_eq_true rfl⟩) (Nat.le_trans hd (by decide)) ⟨hc, hs⟩ dL_acts_465 h4))))))) h0 (by rw [hR]; exact Nat.le_of_ble_eq_true rfl) (by rw [hR]; exact Nat.le_of_ble_eq_true rfl)
