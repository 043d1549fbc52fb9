theorem dX10_init_0 : decode cX10_init 0 = .ok (.aload_n 0, 1) := by decide +kernel
theorem dX10_init_1 : decode cX10_init 1 = .ok (.invokespecial 3, 3) := by decide +kernel
theorem dX10_init_4 : decode cX10_init 4 = .ok (.aload_n 0, 1) := by decide +kernel
theorem dX10_init_5 : decode cX10_init 5 = .ok (.iconst 5, 1) := by decide +kernel
theorem dX10_init_6 : decode cX10_init 6 = .ok (.anewarray 9, 3) := by decide +kernel
theorem dX10_init_9 : decode cX10_init 9 = .ok (.dup, 1) := by decide +kernel
theorem dX10_init_10 : decode cX10_init 10 = .ok (.iconst 0, 1) := by decide +kernel
theorem dX10_init_11 : decode cX10_init 11 = .ok (.ldc 11, 2) := by decide +kernel
theorem dX10_init_13 : decode cX10_init 13 = .ok (.aastore, 1) := by decide +kernel
theorem dX10_init_14 : decode cX10_init 14 = .ok (.dup, 1) := by decide +kernel
theorem dX10_init_15 : decode cX10_init 15 = .ok (.iconst 1, 1) := by decide +kernel
theorem dX10_init_16 : decode cX10_init 16 = .ok (.ldc 13, 2) := by decide +kernel
theorem dX10_init_18 : decode cX10_init 18 = .ok (.aastore, 1) := by decide +kernel
theorem dX10_init_19 : decode cX10_init 19 = .ok (.dup, 1) := by decide +kernel
theorem dX10_init_20 : decode cX10_init 20 = .ok (.iconst 2, 1) := by decide +kernel
theorem dX10_init_21 : decode cX10_init 21 = .ok (.ldc 15, 2) := by decide +kernel
theorem dX10_init_23 : decode cX10_init 23 = .ok (.aastore, 1) := by decide +kernel
theorem dX10_init_24 : decode cX10_init 24 = .ok (.dup, 1) := by decide +kernel
theorem dX10_init_25 : decode cX10_init 25 = .ok (.iconst 3, 1) := by decide +kernel
theorem dX10_init_26 : decode cX10_init 26 = .ok (.ldc 17, 2) := by decide +kernel
theorem dX10_init_28 : decode cX10_init 28 = .ok (.aastore, 1) := by decide +kernel
theorem dX10_init_29 : decode cX10_init 29 = .ok (.dup, 1) := by decide +kernel
theorem dX10_init_30 : decode cX10_init 30 = .ok (.iconst 4, 1) := by decide +kernel
theorem dX10_init_31 : decode cX10_init 31 = .ok (.ldc 19, 2) := by decide +kernel
theorem dX10_init_33 : decode cX10_init 33 = .ok (.aastore, 1) := by decide +kernel
theorem dX10_init_34 : decode cX10_init 34 = .ok (.putfield 21, 3) := by decide +kernel
theorem dX10_init_37 : decode cX10_init 37 = .ok (.aload_n 0, 1) := by decide +kernel
theorem dX10_init_38 : decode cX10_init 38 = .ok (.iconst 5, 1) := by decide +kernel
theorem dX10_init_39 : decode cX10_init 39 = .ok (.anewarray 9, 3) := by decide +kernel
theorem dX10_init_42 : decode cX10_init 42 = .ok (.dup, 1) := by decide +kernel
theorem dX10_init_43 : decode cX10_init 43 = .ok (.iconst 0, 1) := by decide +kernel
theorem dX10_init_44 : decode cX10_init 44 = .ok (.ldc 25, 2) := by decide +kernel
theorem dX10_init_46 : decode cX10_init 46 = .ok (.aastore, 1) := by decide +kernel
theorem dX10_init_47 : decode cX10_init 47 = .ok (.dup, 1) := by decide +kernel
theorem dX10_init_48 : decode cX10_init 48 = .ok (.iconst 1, 1) := by decide +kernel
theorem dX10_init_49 : decode cX10_init 49 = .ok (.ldc 27, 2) := by decide +kernel
theorem dX10_init_51 : decode cX10_init 51 = .ok (.aastore, 1) := by decide +kernel
theorem dX10_init_52 : decode cX10_init 52 = .ok (.dup, 1) := by decide +kernel
theorem dX10_init_53 : decode cX10_init 53 = .ok (.iconst 2, 1) := by decide +kernel
theorem dX10_init_54 : decode cX10_init 54 = .ok (.ldc 29, 2) := by decide +kernel
theorem dX10_init_56 : decode cX10_init 56 = .ok (.aastore, 1) := by decide +kernel
theorem dX10_init_57 : decode cX10_init 57 = .ok (.dup, 1) := by decide +kernel
theorem dX10_init_58 : decode cX10_init 58 = .ok (.iconst 3, 1) := by decide +kernel
theorem dX10_init_59 : decode cX10_init 59 = .ok (.ldc 31, 2) := by decide +kernel
theorem dX10_init_61 : decode cX10_init 61 = .ok (.aastore, 1) := by decide +kernel
theorem dX10_init_62 : decode cX10_init 62 = .ok (.dup, 1) := by decide +kernel
theorem dX10_init_63 : decode cX10_init 63 = .ok (.iconst 4, 1) := by decide +kernel
theorem dX10_init_64 : decode cX10_init 64 = .ok (.ldc 19, 2) := by decide +kernel
theorem dX10_init_66 : decode cX10_init 66 = .ok (.aastore, 1) := by decide +kernel
theorem dX10_init_67 : decode cX10_init 67 = .ok (.putfield 33, 3) := by decide +kernel
theorem dX10_init_70 : decode cX10_init 70 = .ok (.aload_n 0, 1) := by decide +kernel
theorem dX10_init_71 : decode cX10_init 71 = .ok (.aload_n 0, 1) := by decide +kernel
theorem dX10_init_72 : decode cX10_init 72 = .ok (.getfield 21, 3) := by decide +kernel
theorem dX10_init_75 : decode cX10_init 75 = .ok (.putfield 36, 3) := by decide +kernel
theorem dX10_init_78 : decode cX10_init 78 = .ok (.aload_n 0, 1) := by decide +kernel
theorem dX10_init_79 : decode cX10_init 79 = .ok (.bipush 10, 2) := by decide +kernel
theorem dX10_init_81 : decode cX10_init 81 = .ok (.newarray .int, 2) := by decide +kernel
theorem dX10_init_83 : decode cX10_init 83 = .ok (.putfield 39, 3) := by decide +kernel
theorem dX10_init_86 : decode cX10_init 86 = .ok (.aload_n 0, 1) := by decide +kernel
theorem dX10_init_87 : decode cX10_init 87 = .ok (.bipush 16, 2) := by decide +kernel
theorem dX10_init_89 : decode cX10_init 89 = .ok (.newarray .int, 2) := by decide +kernel
theorem dX10_init_91 : decode cX10_init 91 = .ok (.putfield 43, 3) := by decide +kernel
theorem dX10_init_94 : decode cX10_init 94 = .ok (.aload_n 0, 1) := by decide +kernel
theorem dX10_init_95 : decode cX10_init 95 = .ok (.bipush 16, 2) := by decide +kernel
theorem dX10_init_97 : decode cX10_init 97 = .ok (.newarray .int, 2) := by decide +kernel
theorem dX10_init_99 : decode cX10_init 99 = .ok (.putfield 45, 3) := by decide +kernel
theorem dX10_init_102 : decode cX10_init 102 = .ok (.aload_n 0, 1) := by decide +kernel
theorem dX10_init_103 : decode cX10_init 103 = .ok (.bipush 96, 2) := by decide +kernel
theorem dX10_init_105 : decode cX10_init 105 = .ok (.newarray .int, 2) := by decide +kernel
theorem dX10_init_107 : decode cX10_init 107 = .ok (.putfield 48, 3) := by decide +kernel
theorem dX10_init_110 : decode cX10_init 110 = .ok (.aload_n 0, 1) := by decide +kernel
theorem dX10_init_111 : decode cX10_init 111 = .ok (.sipush 128, 3) := by decide +kernel
theorem dX10_init_114 : decode cX10_init 114 = .ok (.newarray .int, 2) := by decide +kernel
theorem dX10_init_116 : decode cX10_init 116 = .ok (.putfield 50, 3) := by decide +kernel
theorem dX10_init_119 : decode cX10_init 119 = .ok (.aload_n 0, 1) := by decide +kernel
theorem dX10_init_120 : decode cX10_init 120 = .ok (.bipush 72, 2) := by decide +kernel
theorem dX10_init_122 : decode cX10_init 122 = .ok (.newarray .int, 2) := by decide +kernel
theorem dX10_init_124 : decode cX10_init 124 = .ok (.putfield 53, 3) := by decide +kernel
theorem dX10_init_127 : decode cX10_init 127 = .ok (.aload_n 0, 1) := by decide +kernel
theorem dX10_init_128 : decode cX10_init 128 = .ok (.bipush 12, 2) := by decide +kernel
theorem dX10_init_130 : decode cX10_init 130 = .ok (.newarray .int, 2) := by decide +kernel
theorem dX10_init_132 : decode cX10_init 132 = .ok (.putfield 56, 3) := by decide +kernel
theorem dX10_init_135 : decode cX10_init 135 = .ok (.aload_n 0, 1) := by decide +kernel
theorem dX10_init_136 : decode cX10_init 136 = .ok (.bipush 12, 2) := by decide +kernel
theorem dX10_init_138 : decode cX10_init 138 = .ok (.newarray .int, 2) := by decide +kernel
theorem dX10_init_140 : decode cX10_init 140 = .ok (.putfield 59, 3) := by decide +kernel
theorem dX10_init_143 : decode cX10_init 143 = .ok (.aload_n 0, 1) := by decide +kernel
theorem dX10_init_144 : decode cX10_init 144 = .ok (.bipush 16, 2) := by decide +kernel
theorem dX10_init_146 : decode cX10_init 146 = .ok (.newarray .int, 2) := by decide +kernel
theorem dX10_init_148 : decode cX10_init 148 = .ok (.putfield 62, 3) := by decide +kernel
theorem dX10_init_151 : decode cX10_init 151 = .ok (.aload_n 0, 1) := by decide +kernel
theorem dX10_init_152 : decode cX10_init 152 = .ok (.sipush 1400, 3) := by decide +kernel
theorem dX10_init_155 : decode cX10_init 155 = .ok (.newarray .int, 2) := by decide +kernel
theorem dX10_init_157 : decode cX10_init 157 = .ok (.putfield 65, 3) := by decide +kernel
theorem dX10_init_160 : decode cX10_init 160 = .ok (.aload_n 0, 1) := by decide +kernel
theorem dX10_init_161 : decode cX10_init 161 = .ok (.sipush 1400, 3) := by decide +kernel
theorem dX10_init_164 : decode cX10_init 164 = .ok (.newarray .int, 2) := by decide +kernel
theorem dX10_init_166 : decode cX10_init 166 = .ok (.putfield 68, 3) := by decide +kernel
theorem dX10_init_169 : decode cX10_init 169 = .ok (.aload_n 0, 1) := by decide +kernel
theorem dX10_init_170 : decode cX10_init 170 = .ok (.iconst 3, 1) := by decide +kernel
theorem dX10_init_171 : decode cX10_init 171 = .ok (.newarray .int, 2) := by decide +kernel
theorem dX10_init_173 : decode cX10_init 173 = .ok (.putfield 71, 3) := by decide +kernel
theorem dX10_init_176 : decode cX10_init 176 = .ok (.aload_n 0, 1) := by decide +kernel
theorem dX10_init_177 : decode cX10_init 177 = .ok (.sipush 700, 3) := by decide +kernel
theorem dX10_init_180 : decode cX10_init 180 = .ok (.newarray .int, 2) := by decide +kernel
theorem dX10_init_182 : decode cX10_init 182 = .ok (.putfield 74, 3) := by decide +kernel
theorem dX10_init_185 : decode cX10_init 185 = .ok (.aload_n 0, 1) := by decide +kernel
theorem dX10_init_186 : decode cX10_init 186 = .ok (.iconst (-1), 1) := by decide +kernel
theorem dX10_init_187 : decode cX10_init 187 = .ok (.putfield 77, 3) := by decide +kernel
theorem dX10_init_190 : decode cX10_init 190 = .ok (.aload_n 0, 1) := by decide +kernel
theorem dX10_init_191 : decode cX10_init 191 = .ok (.bipush 6, 2) := by decide +kernel
theorem dX10_init_193 : decode cX10_init 193 = .ok (.newarray .int, 2) := by decide +kernel
theorem dX10_init_195 : decode cX10_init 195 = .ok (.putfield 81, 3) := by decide +kernel
theorem dX10_init_198 : decode cX10_init 198 = .ok (.aload_n 0, 1) := by decide +kernel
theorem dX10_init_199 : decode cX10_init 199 = .ok (.bipush 6, 2) := by decide +kernel
theorem dX10_init_201 : decode cX10_init 201 = .ok (.newarray .int, 2) := by decide +kernel
theorem dX10_init_203 : decode cX10_init 203 = .ok (.putfield 83, 3) := by decide +kernel
theorem dX10_init_206 : decode cX10_init 206 = .ok (.aload_n 0, 1) := by decide +kernel
theorem dX10_init_207 : decode cX10_init 207 = .ok (.bipush 48, 2) := by decide +kernel
theorem dX10_init_209 : decode cX10_init 209 = .ok (.newarray .int, 2) := by decide +kernel
theorem dX10_init_211 : decode cX10_init 211 = .ok (.putfield 86, 3) := by decide +kernel
theorem dX10_init_214 : decode cX10_init 214 = .ok (.aload_n 0, 1) := by decide +kernel
theorem dX10_init_215 : decode cX10_init 215 = .ok (.bipush 36, 2) := by decide +kernel
theorem dX10_init_217 : decode cX10_init 217 = .ok (.newarray .int, 2) := by decide +kernel
theorem dX10_init_219 : decode cX10_init 219 = .ok (.putfield 89, 3) := by decide +kernel
theorem dX10_init_222 : decode cX10_init 222 = .ok (.aload_n 0, 1) := by decide +kernel
theorem dX10_init_223 : decode cX10_init 223 = .ok (.bipush 8, 2) := by decide +kernel
theorem dX10_init_225 : decode cX10_init 225 = .ok (.newarray .int, 2) := by decide +kernel
theorem dX10_init_227 : decode cX10_init 227 = .ok (.putfield 92, 3) := by decide +kernel
theorem dX10_init_230 : decode cX10_init 230 = .ok (.aload_n 0, 1) := by decide +kernel
theorem dX10_init_231 : decode cX10_init 231 = .ok (.sipush 4240, 3) := by decide +kernel
theorem dX10_init_234 : decode cX10_init 234 = .ok (.newarray .int, 2) := by decide +kernel
theorem dX10_init_236 : decode cX10_init 236 = .ok (.putfield 95, 3) := by decide +kernel
theorem dX10_init_239 : decode cX10_init 239 = .ok (.aload_n 0, 1) := by decide +kernel
theorem dX10_init_240 : decode cX10_init 240 = .ok (.bipush 64, 2) := by decide +kernel
theorem dX10_init_242 : decode cX10_init 242 = .ok (.newarray .int, 2) := by decide +kernel
theorem dX10_init_244 : decode cX10_init 244 = .ok (.putfield 98, 3) := by decide +kernel
theorem dX10_init_247 : decode cX10_init 247 = .ok (.aload_n 0, 1) := by decide +kernel
theorem dX10_init_248 : decode cX10_init 248 = .ok (.iconst 5, 1) := by decide +kernel
theorem dX10_init_249 : decode cX10_init 249 = .ok (.newarray .int, 2) := by decide +kernel
theorem dX10_init_251 : decode cX10_init 251 = .ok (.putfield 101, 3) := by decide +kernel
theorem dX10_init_254 : decode cX10_init 254 = .ok (.aload_n 0, 1) := by decide +kernel
theorem dX10_init_255 : decode cX10_init 255 = .ok (.bipush 64, 2) := by decide +kernel
theorem dX10_init_257 : decode cX10_init 257 = .ok (.newarray .int, 2) := by decide +kernel
theorem dX10_init_259 : decode cX10_init 259 = .ok (.putfield 104, 3) := by decide +kernel
theorem dX10_init_262 : decode cX10_init 262 = .ok (.aload_n 0, 1) := by decide +kernel
theorem dX10_init_263 : decode cX10_init 263 = .ok (.iconst (-1), 1) := by decide +kernel
theorem dX10_init_264 : decode cX10_init 264 = .ok (.putfield 107, 3) := by decide +kernel
theorem dX10_init_267 : decode cX10_init 267 = .ok (.aload_n 0, 1) := by decide +kernel
theorem dX10_init_268 : decode cX10_init 268 = .ok (.bipush 6, 2) := by decide +kernel
theorem dX10_init_270 : decode cX10_init 270 = .ok (.newarray .int, 2) := by decide +kernel
theorem dX10_init_272 : decode cX10_init 272 = .ok (.putfield 110, 3) := by decide +kernel
theorem dX10_init_275 : decode cX10_init 275 = .ok (.aload_n 0, 1) := by decide +kernel
theorem dX10_init_276 : decode cX10_init 276 = .ok (.bipush 6, 2) := by decide +kernel
theorem dX10_init_278 : decode cX10_init 278 = .ok (.newarray .int, 2) := by decide +kernel
theorem dX10_init_280 : decode cX10_init 280 = .ok (.putfield 113, 3) := by decide +kernel
theorem dX10_init_283 : decode cX10_init 283 = .ok (.aload_n 0, 1) := by decide +kernel
theorem dX10_init_284 : decode cX10_init 284 = .ok (.bipush 106, 2) := by decide +kernel
theorem dX10_init_286 : decode cX10_init 286 = .ok (.newarray .int, 2) := by decide +kernel
theorem dX10_init_288 : decode cX10_init 288 = .ok (.putfield 116, 3) := by decide +kernel
theorem dX10_init_291 : decode cX10_init 291 = .ok (.aload_n 0, 1) := by decide +kernel
theorem dX10_init_292 : decode cX10_init 292 = .ok (.bipush 7, 2) := by decide +kernel
theorem dX10_init_294 : decode cX10_init 294 = .ok (.newarray .int, 2) := by decide +kernel
theorem dX10_init_296 : decode cX10_init 296 = .ok (.putfield 119, 3) := by decide +kernel
theorem dX10_init_299 : decode cX10_init 299 = .ok (.aload_n 0, 1) := by decide +kernel
theorem dX10_init_300 : decode cX10_init 300 = .ok (.sipush 2048, 3) := by decide +kernel
theorem dX10_init_303 : decode cX10_init 303 = .ok (.newarray .int, 2) := by decide +kernel
theorem dX10_init_305 : decode cX10_init 305 = .ok (.putfield 122, 3) := by decide +kernel
theorem dX10_init_308 : decode cX10_init 308 = .ok (.aload_n 0, 1) := by decide +kernel
theorem dX10_init_309 : decode cX10_init 309 = .ok (.iconst 4, 1) := by decide +kernel
theorem dX10_init_310 : decode cX10_init 310 = .ok (.newarray .int, 2) := by decide +kernel
theorem dX10_init_312 : decode cX10_init 312 = .ok (.putfield 125, 3) := by decide +kernel
theorem dX10_init_315 : decode cX10_init 315 = .ok (.aload_n 0, 1) := by decide +kernel
theorem dX10_init_316 : decode cX10_init 316 = .ok (.bipush 8, 2) := by decide +kernel
theorem dX10_init_318 : decode cX10_init 318 = .ok (.newarray .int, 2) := by decide +kernel
theorem dX10_init_320 : decode cX10_init 320 = .ok (.putfield 128, 3) := by decide +kernel
theorem dX10_init_323 : decode cX10_init 323 = .ok (.aload_n 0, 1) := by decide +kernel
theorem dX10_init_324 : decode cX10_init 324 = .ok (.bipush 8, 2) := by decide +kernel
theorem dX10_init_326 : decode cX10_init 326 = .ok (.newarray .int, 2) := by decide +kernel
theorem dX10_init_328 : decode cX10_init 328 = .ok (.putfield 131, 3) := by decide +kernel
theorem dX10_init_331 : decode cX10_init 331 = .ok (.aload_n 0, 1) := by decide +kernel
theorem dX10_init_332 : decode cX10_init 332 = .ok (.bipush 8, 2) := by decide +kernel
theorem dX10_init_334 : decode cX10_init 334 = .ok (.newarray .int, 2) := by decide +kernel
theorem dX10_init_336 : decode cX10_init 336 = .ok (.putfield 134, 3) := by decide +kernel
theorem dX10_init_339 : decode cX10_init 339 = .ok (.aload_n 0, 1) := by decide +kernel
theorem dX10_init_340 : decode cX10_init 340 = .ok (.bipush 106, 2) := by decide +kernel
theorem dX10_init_342 : decode cX10_init 342 = .ok (.newarray .int, 2) := by decide +kernel
theorem dX10_init_344 : decode cX10_init 344 = .ok (.putfield 137, 3) := by decide +kernel
theorem dX10_init_347 : decode cX10_init 347 = .ok (.aload_n 0, 1) := by decide +kernel
theorem dX10_init_348 : decode cX10_init 348 = .ok (.bipush 8, 2) := by decide +kernel
theorem dX10_init_350 : decode cX10_init 350 = .ok (.newarray .int, 2) := by decide +kernel
theorem dX10_init_352 : decode cX10_init 352 = .ok (.putfield 140, 3) := by decide +kernel
theorem dX10_init_355 : decode cX10_init 355 = .ok (.aload_n 0, 1) := by decide +kernel
theorem dX10_init_356 : decode cX10_init 356 = .ok (.sipush 288, 3) := by decide +kernel
theorem dX10_init_359 : decode cX10_init 359 = .ok (.newarray .int, 2) := by decide +kernel
theorem dX10_init_361 : decode cX10_init 361 = .ok (.putfield 143, 3) := by decide +kernel
theorem dX10_init_364 : decode cX10_init 364 = .ok (.aload_n 0, 1) := by decide +kernel
theorem dX10_init_365 : decode cX10_init 365 = .ok (.sipush 2304, 3) := by decide +kernel
theorem dX10_init_368 : decode cX10_init 368 = .ok (.newarray .int, 2) := by decide +kernel
theorem dX10_init_370 : decode cX10_init 370 = .ok (.putfield 146, 3) := by decide +kernel
theorem dX10_init_373 : decode cX10_init 373 = .ok (.aload_n 0, 1) := by decide +kernel
theorem dX10_init_374 : decode cX10_init 374 = .ok (.bipush 106, 2) := by decide +kernel
theorem dX10_init_376 : decode cX10_init 376 = .ok (.newarray .int, 2) := by decide +kernel
theorem dX10_init_378 : decode cX10_init 378 = .ok (.putfield 149, 3) := by decide +kernel
theorem dX10_init_381 : decode cX10_init 381 = .ok (.aload_n 0, 1) := by decide +kernel
theorem dX10_init_382 : decode cX10_init 382 = .ok (.sipush 4240, 3) := by decide +kernel
theorem dX10_init_385 : decode cX10_init 385 = .ok (.newarray .int, 2) := by decide +kernel
theorem dX10_init_387 : decode cX10_init 387 = .ok (.putfield 152, 3) := by decide +kernel
theorem dX10_init_390 : decode cX10_init 390 = .ok (.aload_n 0, 1) := by decide +kernel
theorem dX10_init_391 : decode cX10_init 391 = .ok (.bipush 8, 2) := by decide +kernel
theorem dX10_init_393 : decode cX10_init 393 = .ok (.newarray .int, 2) := by decide +kernel
theorem dX10_init_395 : decode cX10_init 395 = .ok (.putfield 155, 3) := by decide +kernel
theorem dX10_init_398 : decode cX10_init 398 = .ok (.aload_n 0, 1) := by decide +kernel
theorem dX10_init_399 : decode cX10_init 399 = .ok (.bipush 8, 2) := by decide +kernel
theorem dX10_init_401 : decode cX10_init 401 = .ok (.newarray .int, 2) := by decide +kernel
theorem dX10_init_403 : decode cX10_init 403 = .ok (.putfield 158, 3) := by decide +kernel
theorem dX10_init_406 : decode cX10_init 406 = .ok (.aload_n 0, 1) := by decide +kernel
theorem dX10_init_407 : decode cX10_init 407 = .ok (.bipush 8, 2) := by decide +kernel
theorem dX10_init_409 : decode cX10_init 409 = .ok (.newarray .int, 2) := by decide +kernel
theorem dX10_init_411 : decode cX10_init 411 = .ok (.putfield 161, 3) := by decide +kernel
theorem dX10_init_414 : decode cX10_init 414 = .ok (.aload_n 0, 1) := by decide +kernel
theorem dX10_init_415 : decode cX10_init 415 = .ok (.iconst 3, 1) := by decide +kernel
theorem dX10_init_416 : decode cX10_init 416 = .ok (.newarray .int, 2) := by decide +kernel
theorem dX10_init_418 : decode cX10_init 418 = .ok (.putfield 164, 3) := by decide +kernel
theorem dX10_init_421 : decode cX10_init 421 = .ok (.return_, 1) := by decide +kernel
theorem dX10_thrown_0 : decode cX10_thrown 0 = .ok (.aload_n 0, 1) := by decide +kernel
theorem dX10_thrown_1 : decode cX10_thrown 1 = .ok (.getfield 167, 3) := by decide +kernel
theorem dX10_thrown_4 : decode cX10_thrown 4 = .ok (.ireturn, 1) := by decide +kernel
theorem dX10_fail_0 : decode cX10_fail 0 = .ok (.aload_n 0, 1) := by decide +kernel
theorem dX10_fail_1 : decode cX10_fail 1 = .ok (.iload_n 1, 1) := by decide +kernel
theorem dX10_fail_2 : decode cX10_fail 2 = .ok (.putfield 167, 3) := by decide +kernel
theorem dX10_fail_5 : decode cX10_fail 5 = .ok (.iconst 0, 1) := by decide +kernel
theorem dX10_fail_6 : decode cX10_fail 6 = .ok (.ireturn, 1) := by decide +kernel
theorem dX10_failing_0 : decode cX10_failing 0 = .ok (.aload_n 0, 1) := by decide +kernel
theorem dX10_failing_1 : decode cX10_failing 1 = .ok (.iload_n 1, 1) := by decide +kernel
theorem dX10_failing_2 : decode cX10_failing 2 = .ok (.putfield 167, 3) := by decide +kernel
theorem dX10_failing_5 : decode cX10_failing 5 = .ok (.iconst 0, 1) := by decide +kernel
theorem dX10_failing_6 : decode cX10_failing 6 = .ok (.ireturn, 1) := by decide +kernel
theorem dX10_isIn_0 : decode cX10_isIn 0 = .ok (.lload_n 0, 1) := by decide +kernel
theorem dX10_isIn_1 : decode cX10_isIn 1 = .ok (.lload_n 2, 1) := by decide +kernel
theorem dX10_isIn_2 : decode cX10_isIn 2 = .ok (.lcmp, 1) := by decide +kernel
theorem dX10_isIn_3 : decode cX10_isIn 3 = .ok (.ifCond .lt 14, 3) := by decide +kernel
theorem dX10_isIn_6 : decode cX10_isIn 6 = .ok (.lload_n 0, 1) := by decide +kernel
theorem dX10_isIn_7 : decode cX10_isIn 7 = .ok (.lload 4, 2) := by decide +kernel
theorem dX10_isIn_9 : decode cX10_isIn 9 = .ok (.lcmp, 1) := by decide +kernel
theorem dX10_isIn_10 : decode cX10_isIn 10 = .ok (.ifCond .gt 7, 3) := by decide +kernel
theorem dX10_isIn_13 : decode cX10_isIn 13 = .ok (.iconst 1, 1) := by decide +kernel
theorem dX10_isIn_14 : decode cX10_isIn 14 = .ok (.goto 4, 3) := by decide +kernel
theorem dX10_isIn_17 : decode cX10_isIn 17 = .ok (.iconst 0, 1) := by decide +kernel
theorem dX10_isIn_18 : decode cX10_isIn 18 = .ok (.ireturn, 1) := by decide +kernel
theorem dX10_isOf_0 : decode cX10_isOf 0 = .ok (.iload_n 0, 1) := by decide +kernel
theorem dX10_isOf_1 : decode cX10_isOf 1 = .ok (.iload_n 1, 1) := by decide +kernel
theorem dX10_isOf_2 : decode cX10_isOf 2 = .ok (.ishr, 1) := by decide +kernel
theorem dX10_isOf_3 : decode cX10_isOf 3 = .ok (.iconst 1, 1) := by decide +kernel
theorem dX10_isOf_4 : decode cX10_isOf 4 = .ok (.iand, 1) := by decide +kernel
theorem dX10_isOf_5 : decode cX10_isOf 5 = .ok (.iconst 1, 1) := by decide +kernel
theorem dX10_isOf_6 : decode cX10_isOf 6 = .ok (.if_icmp .ne 7, 3) := by decide +kernel
theorem dX10_isOf_9 : decode cX10_isOf 9 = .ok (.iconst 1, 1) := by decide +kernel
theorem dX10_isOf_10 : decode cX10_isOf 10 = .ok (.goto 4, 3) := by decide +kernel
theorem dX10_isOf_13 : decode cX10_isOf 13 = .ok (.iconst 0, 1) := by decide +kernel
theorem dX10_isOf_14 : decode cX10_isOf 14 = .ok (.ireturn, 1) := by decide +kernel
theorem dX10_bitsOf_0 : decode cX10_bitsOf 0 = .ok (.iconst 0, 1) := by decide +kernel
theorem dX10_bitsOf_1 : decode cX10_bitsOf 1 = .ok (.istore_n 1, 1) := by decide +kernel
theorem dX10_bitsOf_2 : decode cX10_bitsOf 2 = .ok (.iload_n 0, 1) := by decide +kernel
theorem dX10_bitsOf_3 : decode cX10_bitsOf 3 = .ok (.istore_n 2, 1) := by decide +kernel
theorem dX10_bitsOf_4 : decode cX10_bitsOf 4 = .ok (.iload_n 2, 1) := by decide +kernel
theorem dX10_bitsOf_5 : decode cX10_bitsOf 5 = .ok (.ifCond .eq 15, 3) := by decide +kernel
theorem dX10_bitsOf_8 : decode cX10_bitsOf 8 = .ok (.iinc 1 1, 3) := by decide +kernel
theorem dX10_bitsOf_11 : decode cX10_bitsOf 11 = .ok (.iload_n 2, 1) := by decide +kernel
theorem dX10_bitsOf_12 : decode cX10_bitsOf 12 = .ok (.iload_n 2, 1) := by decide +kernel
theorem dX10_bitsOf_13 : decode cX10_bitsOf 13 = .ok (.iconst 1, 1) := by decide +kernel
theorem dX10_bitsOf_14 : decode cX10_bitsOf 14 = .ok (.isub, 1) := by decide +kernel
theorem dX10_bitsOf_15 : decode cX10_bitsOf 15 = .ok (.iand, 1) := by decide +kernel
theorem dX10_bitsOf_16 : decode cX10_bitsOf 16 = .ok (.istore_n 2, 1) := by decide +kernel
theorem dX10_bitsOf_17 : decode cX10_bitsOf 17 = .ok (.goto (-13), 3) := by decide +kernel
theorem dX10_bitsOf_20 : decode cX10_bitsOf 20 = .ok (.iload_n 1, 1) := by decide +kernel
theorem dX10_bitsOf_21 : decode cX10_bitsOf 21 = .ok (.ireturn, 1) := by decide +kernel
theorem dX10_isField_0 : decode cX10_isField 0 = .ok (.iload_n 1, 1) := by decide +kernel
theorem dX10_isField_1 : decode cX10_isField 1 = .ok (.i2l, 1) := by decide +kernel
theorem dX10_isField_2 : decode cX10_isField 2 = .ok (.lconst 0, 1) := by decide +kernel
theorem dX10_isField_3 : decode cX10_isField 3 = .ok (.aload_n 0, 1) := by decide +kernel
theorem dX10_isField_4 : decode cX10_isField 4 = .ok (.getfield 39, 3) := by decide +kernel
theorem dX10_isField_7 : decode cX10_isField 7 = .ok (.iconst 0, 1) := by decide +kernel
theorem dX10_isField_8 : decode cX10_isField 8 = .ok (.iaload, 1) := by decide +kernel
theorem dX10_isField_9 : decode cX10_isField 9 = .ok (.iconst 1, 1) := by decide +kernel
theorem dX10_isField_10 : decode cX10_isField 10 = .ok (.isub, 1) := by decide +kernel
theorem dX10_isField_11 : decode cX10_isField 11 = .ok (.i2l, 1) := by decide +kernel
theorem dX10_isField_12 : decode cX10_isField 12 = .ok (.invokestatic 170, 3) := by decide +kernel
theorem dX10_isField_15 : decode cX10_isField 15 = .ok (.ireturn, 1) := by decide +kernel
theorem dX10_isSinger_0 : decode cX10_isSinger 0 = .ok (.iload_n 1, 1) := by decide +kernel
theorem dX10_isSinger_1 : decode cX10_isSinger 1 = .ok (.i2l, 1) := by decide +kernel
theorem dX10_isSinger_2 : decode cX10_isSinger 2 = .ok (.lconst 0, 1) := by decide +kernel
theorem dX10_isSinger_3 : decode cX10_isSinger 3 = .ok (.aload_n 0, 1) := by decide +kernel
theorem dX10_isSinger_4 : decode cX10_isSinger 4 = .ok (.getfield 39, 3) := by decide +kernel
theorem dX10_isSinger_7 : decode cX10_isSinger 7 = .ok (.iconst 2, 1) := by decide +kernel
theorem dX10_isSinger_8 : decode cX10_isSinger 8 = .ok (.iaload, 1) := by decide +kernel
theorem dX10_isSinger_9 : decode cX10_isSinger 9 = .ok (.iconst 1, 1) := by decide +kernel
theorem dX10_isSinger_10 : decode cX10_isSinger 10 = .ok (.isub, 1) := by decide +kernel
theorem dX10_isSinger_11 : decode cX10_isSinger 11 = .ok (.i2l, 1) := by decide +kernel
theorem dX10_isSinger_12 : decode cX10_isSinger 12 = .ok (.invokestatic 170, 3) := by decide +kernel
theorem dX10_isSinger_15 : decode cX10_isSinger 15 = .ok (.ireturn, 1) := by decide +kernel
theorem dX10_feed_0 : decode cX10_feed 0 = .ok (.aload_n 0, 1) := by decide +kernel
theorem dX10_feed_1 : decode cX10_feed 1 = .ok (.iconst 0, 1) := by decide +kernel
theorem dX10_feed_2 : decode cX10_feed 2 = .ok (.putfield 167, 3) := by decide +kernel
theorem dX10_feed_5 : decode cX10_feed 5 = .ok (.aload_n 0, 1) := by decide +kernel
theorem dX10_feed_6 : decode cX10_feed 6 = .ok (.getfield 174, 3) := by decide +kernel
theorem dX10_feed_9 : decode cX10_feed 9 = .ok (.bipush 20, 2) := by decide +kernel
theorem dX10_feed_11 : decode cX10_feed 11 = .ok (.iadd, 1) := by decide +kernel
theorem dX10_feed_12 : decode cX10_feed 12 = .ok (.sipush 700, 3) := by decide +kernel
theorem dX10_feed_15 : decode cX10_feed 15 = .ok (.if_icmp .le 5, 3) := by decide +kernel
theorem dX10_feed_18 : decode cX10_feed 18 = .ok (.iconst (-1), 1) := by decide +kernel
theorem dX10_feed_19 : decode cX10_feed 19 = .ok (.ireturn, 1) := by decide +kernel
theorem dX10_feed_20 : decode cX10_feed 20 = .ok (.iconst 0, 1) := by decide +kernel
theorem dX10_feed_21 : decode cX10_feed 21 = .ok (.istore 6, 2) := by decide +kernel
theorem dX10_feed_23 : decode cX10_feed 23 = .ok (.iload 6, 2) := by decide +kernel
theorem dX10_feed_25 : decode cX10_feed 25 = .ok (.bipush 20, 2) := by decide +kernel
theorem dX10_feed_27 : decode cX10_feed 27 = .ok (.if_icmp .ge 93, 3) := by decide +kernel
theorem dX10_feed_30 : decode cX10_feed 30 = .ok (.iload 6, 2) := by decide +kernel
theorem dX10_feed_32 : decode cX10_feed 32 = .ok (.iconst 4, 1) := by decide +kernel
theorem dX10_feed_33 : decode cX10_feed 33 = .ok (.if_icmp .ge 7, 3) := by decide +kernel
theorem dX10_feed_36 : decode cX10_feed 36 = .ok (.iload_n 1, 1) := by decide +kernel
theorem dX10_feed_37 : decode cX10_feed 37 = .ok (.goto 39, 3) := by decide +kernel
theorem dX10_feed_40 : decode cX10_feed 40 = .ok (.iload 6, 2) := by decide +kernel
theorem dX10_feed_42 : decode cX10_feed 42 = .ok (.bipush 8, 2) := by decide +kernel
theorem dX10_feed_44 : decode cX10_feed 44 = .ok (.if_icmp .ge 7, 3) := by decide +kernel
theorem dX10_feed_47 : decode cX10_feed 47 = .ok (.iload_n 2, 1) := by decide +kernel
theorem dX10_feed_48 : decode cX10_feed 48 = .ok (.goto 28, 3) := by decide +kernel
theorem dX10_feed_51 : decode cX10_feed 51 = .ok (.iload 6, 2) := by decide +kernel
theorem dX10_feed_53 : decode cX10_feed 53 = .ok (.bipush 12, 2) := by decide +kernel
theorem dX10_feed_55 : decode cX10_feed 55 = .ok (.if_icmp .ge 7, 3) := by decide +kernel
theorem dX10_feed_58 : decode cX10_feed 58 = .ok (.iload_n 3, 1) := by decide +kernel
theorem dX10_feed_59 : decode cX10_feed 59 = .ok (.goto 17, 3) := by decide +kernel
theorem dX10_feed_62 : decode cX10_feed 62 = .ok (.iload 6, 2) := by decide +kernel
theorem dX10_feed_64 : decode cX10_feed 64 = .ok (.bipush 16, 2) := by decide +kernel
theorem dX10_feed_66 : decode cX10_feed 66 = .ok (.if_icmp .ge 8, 3) := by decide +kernel
theorem dX10_feed_69 : decode cX10_feed 69 = .ok (.iload 4, 2) := by decide +kernel
theorem dX10_feed_71 : decode cX10_feed 71 = .ok (.goto 5, 3) := by decide +kernel
theorem dX10_feed_74 : decode cX10_feed 74 = .ok (.iload 5, 2) := by decide +kernel
theorem dX10_feed_76 : decode cX10_feed 76 = .ok (.istore 7, 2) := by decide +kernel
theorem dX10_feed_78 : decode cX10_feed 78 = .ok (.aload_n 0, 1) := by decide +kernel
theorem dX10_feed_79 : decode cX10_feed 79 = .ok (.getfield 74, 3) := by decide +kernel
theorem dX10_feed_82 : decode cX10_feed 82 = .ok (.aload_n 0, 1) := by decide +kernel
theorem dX10_feed_83 : decode cX10_feed 83 = .ok (.getfield 174, 3) := by decide +kernel
theorem dX10_feed_86 : decode cX10_feed 86 = .ok (.iload 7, 2) := by decide +kernel
theorem dX10_feed_88 : decode cX10_feed 88 = .ok (.bipush 24, 2) := by decide +kernel
theorem dX10_feed_90 : decode cX10_feed 90 = .ok (.bipush 8, 2) := by decide +kernel
theorem dX10_feed_92 : decode cX10_feed 92 = .ok (.iload 6, 2) := by decide +kernel
theorem dX10_feed_94 : decode cX10_feed 94 = .ok (.iconst 4, 1) := by decide +kernel
theorem dX10_feed_95 : decode cX10_feed 95 = .ok (.irem, 1) := by decide +kernel
theorem dX10_feed_96 : decode cX10_feed 96 = .ok (.imul, 1) := by decide +kernel
theorem dX10_feed_97 : decode cX10_feed 97 = .ok (.isub, 1) := by decide +kernel
theorem dX10_feed_98 : decode cX10_feed 98 = .ok (.ishr, 1) := by decide +kernel
theorem dX10_feed_99 : decode cX10_feed 99 = .ok (.sipush 255, 3) := by decide +kernel
theorem dX10_feed_102 : decode cX10_feed 102 = .ok (.iand, 1) := by decide +kernel
theorem dX10_feed_103 : decode cX10_feed 103 = .ok (.iastore, 1) := by decide +kernel
theorem dX10_feed_104 : decode cX10_feed 104 = .ok (.aload_n 0, 1) := by decide +kernel
theorem dX10_feed_105 : decode cX10_feed 105 = .ok (.dup, 1) := by decide +kernel
theorem dX10_feed_106 : decode cX10_feed 106 = .ok (.getfield 174, 3) := by decide +kernel
theorem dX10_feed_109 : decode cX10_feed 109 = .ok (.iconst 1, 1) := by decide +kernel
theorem dX10_feed_110 : decode cX10_feed 110 = .ok (.iadd, 1) := by decide +kernel
theorem dX10_feed_111 : decode cX10_feed 111 = .ok (.putfield 174, 3) := by decide +kernel
theorem dX10_feed_114 : decode cX10_feed 114 = .ok (.iinc 6 1, 3) := by decide +kernel
theorem dX10_feed_117 : decode cX10_feed 117 = .ok (.goto (-94), 3) := by decide +kernel
theorem dX10_feed_120 : decode cX10_feed 120 = .ok (.aload_n 0, 1) := by decide +kernel
theorem dX10_feed_121 : decode cX10_feed 121 = .ok (.getfield 174, 3) := by decide +kernel
theorem dX10_feed_124 : decode cX10_feed 124 = .ok (.ireturn, 1) := by decide +kernel
theorem dX10_byteAt_0 : decode cX10_byteAt 0 = .ok (.iload_n 1, 1) := by decide +kernel
theorem dX10_byteAt_1 : decode cX10_byteAt 1 = .ok (.aload_n 0, 1) := by decide +kernel
theorem dX10_byteAt_2 : decode cX10_byteAt 2 = .ok (.getfield 177, 3) := by decide +kernel
theorem dX10_byteAt_5 : decode cX10_byteAt 5 = .ok (.if_icmp .ge 12, 3) := by decide +kernel
theorem dX10_byteAt_8 : decode cX10_byteAt 8 = .ok (.aload_n 0, 1) := by decide +kernel
theorem dX10_byteAt_9 : decode cX10_byteAt 9 = .ok (.getfield 74, 3) := by decide +kernel
theorem dX10_byteAt_12 : decode cX10_byteAt 12 = .ok (.iload_n 1, 1) := by decide +kernel
theorem dX10_byteAt_13 : decode cX10_byteAt 13 = .ok (.iaload, 1) := by decide +kernel
theorem dX10_byteAt_14 : decode cX10_byteAt 14 = .ok (.goto 4, 3) := by decide +kernel
theorem dX10_byteAt_17 : decode cX10_byteAt 17 = .ok (.iconst (-1), 1) := by decide +kernel
theorem dX10_byteAt_18 : decode cX10_byteAt 18 = .ok (.ireturn, 1) := by decide +kernel
theorem dX10_isLetter_0 : decode cX10_isLetter 0 = .ok (.iload_n 0, 1) := by decide +kernel
theorem dX10_isLetter_1 : decode cX10_isLetter 1 = .ok (.bipush 97, 2) := by decide +kernel
theorem dX10_isLetter_3 : decode cX10_isLetter 3 = .ok (.if_icmp .lt 13, 3) := by decide +kernel
theorem dX10_isLetter_6 : decode cX10_isLetter 6 = .ok (.iload_n 0, 1) := by decide +kernel
theorem dX10_isLetter_7 : decode cX10_isLetter 7 = .ok (.bipush 122, 2) := by decide +kernel
theorem dX10_isLetter_9 : decode cX10_isLetter 9 = .ok (.if_icmp .gt 7, 3) := by decide +kernel
theorem dX10_isLetter_12 : decode cX10_isLetter 12 = .ok (.iconst 1, 1) := by decide +kernel
theorem dX10_isLetter_13 : decode cX10_isLetter 13 = .ok (.goto 4, 3) := by decide +kernel
theorem dX10_isLetter_16 : decode cX10_isLetter 16 = .ok (.iconst 0, 1) := by decide +kernel
theorem dX10_isLetter_17 : decode cX10_isLetter 17 = .ok (.ireturn, 1) := by decide +kernel
theorem dX10_isDigit_0 : decode cX10_isDigit 0 = .ok (.iload_n 0, 1) := by decide +kernel
theorem dX10_isDigit_1 : decode cX10_isDigit 1 = .ok (.bipush 48, 2) := by decide +kernel
theorem dX10_isDigit_3 : decode cX10_isDigit 3 = .ok (.if_icmp .lt 13, 3) := by decide +kernel
theorem dX10_isDigit_6 : decode cX10_isDigit 6 = .ok (.iload_n 0, 1) := by decide +kernel
theorem dX10_isDigit_7 : decode cX10_isDigit 7 = .ok (.bipush 57, 2) := by decide +kernel
theorem dX10_isDigit_9 : decode cX10_isDigit 9 = .ok (.if_icmp .gt 7, 3) := by decide +kernel
theorem dX10_isDigit_12 : decode cX10_isDigit 12 = .ok (.iconst 1, 1) := by decide +kernel
theorem dX10_isDigit_13 : decode cX10_isDigit 13 = .ok (.goto 4, 3) := by decide +kernel
theorem dX10_isDigit_16 : decode cX10_isDigit 16 = .ok (.iconst 0, 1) := by decide +kernel
theorem dX10_isDigit_17 : decode cX10_isDigit 17 = .ok (.ireturn, 1) := by decide +kernel
theorem dX10_isMark_0 : decode cX10_isMark 0 = .ok (.iload_n 0, 1) := by decide +kernel
theorem dX10_isMark_1 : decode cX10_isMark 1 = .ok (.bipush 59, 2) := by decide +kernel
theorem dX10_isMark_3 : decode cX10_isMark 3 = .ok (.if_icmp .eq 51, 3) := by decide +kernel
theorem dX10_isMark_6 : decode cX10_isMark 6 = .ok (.iload_n 0, 1) := by decide +kernel
theorem dX10_isMark_7 : decode cX10_isMark 7 = .ok (.bipush 40, 2) := by decide +kernel
theorem dX10_isMark_9 : decode cX10_isMark 9 = .ok (.if_icmp .eq 45, 3) := by decide +kernel
theorem dX10_isMark_12 : decode cX10_isMark 12 = .ok (.iload_n 0, 1) := by decide +kernel
theorem dX10_isMark_13 : decode cX10_isMark 13 = .ok (.bipush 41, 2) := by decide +kernel
theorem dX10_isMark_15 : decode cX10_isMark 15 = .ok (.if_icmp .eq 39, 3) := by decide +kernel
theorem dX10_isMark_18 : decode cX10_isMark 18 = .ok (.iload_n 0, 1) := by decide +kernel
theorem dX10_isMark_19 : decode cX10_isMark 19 = .ok (.bipush 43, 2) := by decide +kernel
theorem dX10_isMark_21 : decode cX10_isMark 21 = .ok (.if_icmp .eq 33, 3) := by decide +kernel
theorem dX10_isMark_24 : decode cX10_isMark 24 = .ok (.iload_n 0, 1) := by decide +kernel
theorem dX10_isMark_25 : decode cX10_isMark 25 = .ok (.bipush 45, 2) := by decide +kernel
theorem dX10_isMark_27 : decode cX10_isMark 27 = .ok (.if_icmp .eq 27, 3) := by decide +kernel
theorem dX10_isMark_30 : decode cX10_isMark 30 = .ok (.iload_n 0, 1) := by decide +kernel
theorem dX10_isMark_31 : decode cX10_isMark 31 = .ok (.bipush 42, 2) := by decide +kernel
theorem dX10_isMark_33 : decode cX10_isMark 33 = .ok (.if_icmp .eq 21, 3) := by decide +kernel
theorem dX10_isMark_36 : decode cX10_isMark 36 = .ok (.iload_n 0, 1) := by decide +kernel
theorem dX10_isMark_37 : decode cX10_isMark 37 = .ok (.bipush 47, 2) := by decide +kernel
theorem dX10_isMark_39 : decode cX10_isMark 39 = .ok (.if_icmp .eq 15, 3) := by decide +kernel
theorem dX10_isMark_42 : decode cX10_isMark 42 = .ok (.iload_n 0, 1) := by decide +kernel
theorem dX10_isMark_43 : decode cX10_isMark 43 = .ok (.bipush 60, 2) := by decide +kernel
theorem dX10_isMark_45 : decode cX10_isMark 45 = .ok (.if_icmp .eq 9, 3) := by decide +kernel
theorem dX10_isMark_48 : decode cX10_isMark 48 = .ok (.iload_n 0, 1) := by decide +kernel
theorem dX10_isMark_49 : decode cX10_isMark 49 = .ok (.bipush 61, 2) := by decide +kernel
theorem dX10_isMark_51 : decode cX10_isMark 51 = .ok (.if_icmp .ne 7, 3) := by decide +kernel
theorem dX10_isMark_54 : decode cX10_isMark 54 = .ok (.iconst 1, 1) := by decide +kernel
theorem dX10_isMark_55 : decode cX10_isMark 55 = .ok (.goto 4, 3) := by decide +kernel
theorem dX10_isMark_58 : decode cX10_isMark 58 = .ok (.iconst 0, 1) := by decide +kernel
theorem dX10_isMark_59 : decode cX10_isMark 59 = .ok (.ireturn, 1) := by decide +kernel
theorem dX10_stepOn_0 : decode cX10_stepOn 0 = .ok (.aload_n 0, 1) := by decide +kernel
theorem dX10_stepOn_1 : decode cX10_stepOn 1 = .ok (.aload_n 0, 1) := by decide +kernel
theorem dX10_stepOn_2 : decode cX10_stepOn 2 = .ok (.getfield 180, 3) := by decide +kernel
theorem dX10_stepOn_5 : decode cX10_stepOn 5 = .ok (.invokevirtual 183, 3) := by decide +kernel
theorem dX10_stepOn_8 : decode cX10_stepOn 8 = .ok (.bipush 32, 2) := by decide +kernel
theorem dX10_stepOn_10 : decode cX10_stepOn 10 = .ok (.if_icmp .eq 16, 3) := by decide +kernel
theorem dX10_stepOn_13 : decode cX10_stepOn 13 = .ok (.aload_n 0, 1) := by decide +kernel
theorem dX10_stepOn_14 : decode cX10_stepOn 14 = .ok (.aload_n 0, 1) := by decide +kernel
theorem dX10_stepOn_15 : decode cX10_stepOn 15 = .ok (.getfield 180, 3) := by decide +kernel
theorem dX10_stepOn_18 : decode cX10_stepOn 18 = .ok (.invokevirtual 183, 3) := by decide +kernel
theorem dX10_stepOn_21 : decode cX10_stepOn 21 = .ok (.bipush 10, 2) := by decide +kernel
theorem dX10_stepOn_23 : decode cX10_stepOn 23 = .ok (.if_icmp .ne 16, 3) := by decide +kernel
theorem dX10_stepOn_26 : decode cX10_stepOn 26 = .ok (.aload_n 0, 1) := by decide +kernel
theorem dX10_stepOn_27 : decode cX10_stepOn 27 = .ok (.dup, 1) := by decide +kernel
theorem dX10_stepOn_28 : decode cX10_stepOn 28 = .ok (.getfield 180, 3) := by decide +kernel
theorem dX10_stepOn_31 : decode cX10_stepOn 31 = .ok (.iconst 1, 1) := by decide +kernel
theorem dX10_stepOn_32 : decode cX10_stepOn 32 = .ok (.iadd, 1) := by decide +kernel
theorem dX10_stepOn_33 : decode cX10_stepOn 33 = .ok (.putfield 180, 3) := by decide +kernel
theorem dX10_stepOn_36 : decode cX10_stepOn 36 = .ok (.goto (-36), 3) := by decide +kernel
theorem dX10_stepOn_39 : decode cX10_stepOn 39 = .ok (.aload_n 0, 1) := by decide +kernel
theorem dX10_stepOn_40 : decode cX10_stepOn 40 = .ok (.aload_n 0, 1) := by decide +kernel
theorem dX10_stepOn_41 : decode cX10_stepOn 41 = .ok (.getfield 180, 3) := by decide +kernel
theorem dX10_stepOn_44 : decode cX10_stepOn 44 = .ok (.putfield 187, 3) := by decide +kernel
theorem dX10_stepOn_47 : decode cX10_stepOn 47 = .ok (.aload_n 0, 1) := by decide +kernel
theorem dX10_stepOn_48 : decode cX10_stepOn 48 = .ok (.aload_n 0, 1) := by decide +kernel
theorem dX10_stepOn_49 : decode cX10_stepOn 49 = .ok (.getfield 180, 3) := by decide +kernel
theorem dX10_stepOn_52 : decode cX10_stepOn 52 = .ok (.invokevirtual 183, 3) := by decide +kernel
theorem dX10_stepOn_55 : decode cX10_stepOn 55 = .ok (.istore_n 1, 1) := by decide +kernel
theorem dX10_stepOn_56 : decode cX10_stepOn 56 = .ok (.iload_n 1, 1) := by decide +kernel
theorem dX10_stepOn_57 : decode cX10_stepOn 57 = .ok (.iconst (-1), 1) := by decide +kernel
theorem dX10_stepOn_58 : decode cX10_stepOn 58 = .ok (.if_icmp .ne 11, 3) := by decide +kernel
theorem dX10_stepOn_61 : decode cX10_stepOn 61 = .ok (.aload_n 0, 1) := by decide +kernel
theorem dX10_stepOn_62 : decode cX10_stepOn 62 = .ok (.iconst 0, 1) := by decide +kernel
theorem dX10_stepOn_63 : decode cX10_stepOn 63 = .ok (.putfield 190, 3) := by decide +kernel
theorem dX10_stepOn_66 : decode cX10_stepOn 66 = .ok (.goto 146, 3) := by decide +kernel
theorem dX10_stepOn_69 : decode cX10_stepOn 69 = .ok (.iload_n 1, 1) := by decide +kernel
theorem dX10_stepOn_70 : decode cX10_stepOn 70 = .ok (.invokestatic 193, 3) := by decide +kernel
theorem dX10_stepOn_73 : decode cX10_stepOn 73 = .ok (.ifCond .eq 38, 3) := by decide +kernel
theorem dX10_stepOn_76 : decode cX10_stepOn 76 = .ok (.aload_n 0, 1) := by decide +kernel
theorem dX10_stepOn_77 : decode cX10_stepOn 77 = .ok (.aload_n 0, 1) := by decide +kernel
theorem dX10_stepOn_78 : decode cX10_stepOn 78 = .ok (.getfield 180, 3) := by decide +kernel
theorem dX10_stepOn_81 : decode cX10_stepOn 81 = .ok (.invokevirtual 183, 3) := by decide +kernel
theorem dX10_stepOn_84 : decode cX10_stepOn 84 = .ok (.invokestatic 193, 3) := by decide +kernel
theorem dX10_stepOn_87 : decode cX10_stepOn 87 = .ok (.ifCond .eq 16, 3) := by decide +kernel
theorem dX10_stepOn_90 : decode cX10_stepOn 90 = .ok (.aload_n 0, 1) := by decide +kernel
theorem dX10_stepOn_91 : decode cX10_stepOn 91 = .ok (.dup, 1) := by decide +kernel
theorem dX10_stepOn_92 : decode cX10_stepOn 92 = .ok (.getfield 180, 3) := by decide +kernel
theorem dX10_stepOn_95 : decode cX10_stepOn 95 = .ok (.iconst 1, 1) := by decide +kernel
theorem dX10_stepOn_96 : decode cX10_stepOn 96 = .ok (.iadd, 1) := by decide +kernel
theorem dX10_stepOn_97 : decode cX10_stepOn 97 = .ok (.putfield 180, 3) := by decide +kernel
theorem dX10_stepOn_100 : decode cX10_stepOn 100 = .ok (.goto (-24), 3) := by decide +kernel
theorem dX10_stepOn_103 : decode cX10_stepOn 103 = .ok (.aload_n 0, 1) := by decide +kernel
theorem dX10_stepOn_104 : decode cX10_stepOn 104 = .ok (.iconst 1, 1) := by decide +kernel
theorem dX10_stepOn_105 : decode cX10_stepOn 105 = .ok (.putfield 190, 3) := by decide +kernel
theorem dX10_stepOn_108 : decode cX10_stepOn 108 = .ok (.goto 104, 3) := by decide +kernel
theorem dX10_stepOn_111 : decode cX10_stepOn 111 = .ok (.iload_n 1, 1) := by decide +kernel
theorem dX10_stepOn_112 : decode cX10_stepOn 112 = .ok (.invokestatic 197, 3) := by decide +kernel
theorem dX10_stepOn_115 : decode cX10_stepOn 115 = .ok (.ifCond .eq 71, 3) := by decide +kernel
theorem dX10_stepOn_118 : decode cX10_stepOn 118 = .ok (.aload_n 0, 1) := by decide +kernel
theorem dX10_stepOn_119 : decode cX10_stepOn 119 = .ok (.iconst 0, 1) := by decide +kernel
theorem dX10_stepOn_120 : decode cX10_stepOn 120 = .ok (.putfield 200, 3) := by decide +kernel
theorem dX10_stepOn_123 : decode cX10_stepOn 123 = .ok (.aload_n 0, 1) := by decide +kernel
theorem dX10_stepOn_124 : decode cX10_stepOn 124 = .ok (.aload_n 0, 1) := by decide +kernel
theorem dX10_stepOn_125 : decode cX10_stepOn 125 = .ok (.getfield 180, 3) := by decide +kernel
theorem dX10_stepOn_128 : decode cX10_stepOn 128 = .ok (.invokevirtual 183, 3) := by decide +kernel
theorem dX10_stepOn_131 : decode cX10_stepOn 131 = .ok (.invokestatic 197, 3) := by decide +kernel
theorem dX10_stepOn_134 : decode cX10_stepOn 134 = .ok (.ifCond .eq 44, 3) := by decide +kernel
theorem dX10_stepOn_137 : decode cX10_stepOn 137 = .ok (.aload_n 0, 1) := by decide +kernel
theorem dX10_stepOn_138 : decode cX10_stepOn 138 = .ok (.ldc 203, 2) := by decide +kernel
theorem dX10_stepOn_140 : decode cX10_stepOn 140 = .ok (.bipush 10, 2) := by decide +kernel
theorem dX10_stepOn_142 : decode cX10_stepOn 142 = .ok (.aload_n 0, 1) := by decide +kernel
theorem dX10_stepOn_143 : decode cX10_stepOn 143 = .ok (.getfield 200, 3) := by decide +kernel
theorem dX10_stepOn_146 : decode cX10_stepOn 146 = .ok (.imul, 1) := by decide +kernel
theorem dX10_stepOn_147 : decode cX10_stepOn 147 = .ok (.aload_n 0, 1) := by decide +kernel
theorem dX10_stepOn_148 : decode cX10_stepOn 148 = .ok (.aload_n 0, 1) := by decide +kernel
theorem dX10_stepOn_149 : decode cX10_stepOn 149 = .ok (.getfield 180, 3) := by decide +kernel
theorem dX10_stepOn_152 : decode cX10_stepOn 152 = .ok (.invokevirtual 183, 3) := by decide +kernel
theorem dX10_stepOn_155 : decode cX10_stepOn 155 = .ok (.iadd, 1) := by decide +kernel
theorem dX10_stepOn_156 : decode cX10_stepOn 156 = .ok (.bipush 48, 2) := by decide +kernel
theorem dX10_stepOn_158 : decode cX10_stepOn 158 = .ok (.isub, 1) := by decide +kernel
theorem dX10_stepOn_159 : decode cX10_stepOn 159 = .ok (.invokestatic 204, 3) := by decide +kernel
theorem dX10_stepOn_162 : decode cX10_stepOn 162 = .ok (.putfield 200, 3) := by decide +kernel
theorem dX10_stepOn_165 : decode cX10_stepOn 165 = .ok (.aload_n 0, 1) := by decide +kernel
theorem dX10_stepOn_166 : decode cX10_stepOn 166 = .ok (.dup, 1) := by decide +kernel
theorem dX10_stepOn_167 : decode cX10_stepOn 167 = .ok (.getfield 180, 3) := by decide +kernel
theorem dX10_stepOn_170 : decode cX10_stepOn 170 = .ok (.iconst 1, 1) := by decide +kernel
theorem dX10_stepOn_171 : decode cX10_stepOn 171 = .ok (.iadd, 1) := by decide +kernel
theorem dX10_stepOn_172 : decode cX10_stepOn 172 = .ok (.putfield 180, 3) := by decide +kernel
theorem dX10_stepOn_175 : decode cX10_stepOn 175 = .ok (.goto (-52), 3) := by decide +kernel
theorem dX10_stepOn_178 : decode cX10_stepOn 178 = .ok (.aload_n 0, 1) := by decide +kernel
theorem dX10_stepOn_179 : decode cX10_stepOn 179 = .ok (.iconst 2, 1) := by decide +kernel
theorem dX10_stepOn_180 : decode cX10_stepOn 180 = .ok (.putfield 190, 3) := by decide +kernel
theorem dX10_stepOn_183 : decode cX10_stepOn 183 = .ok (.goto 29, 3) := by decide +kernel
theorem dX10_stepOn_186 : decode cX10_stepOn 186 = .ok (.aload_n 0, 1) := by decide +kernel
theorem dX10_stepOn_187 : decode cX10_stepOn 187 = .ok (.dup, 1) := by decide +kernel
theorem dX10_stepOn_188 : decode cX10_stepOn 188 = .ok (.getfield 180, 3) := by decide +kernel
theorem dX10_stepOn_191 : decode cX10_stepOn 191 = .ok (.iconst 1, 1) := by decide +kernel
theorem dX10_stepOn_192 : decode cX10_stepOn 192 = .ok (.iadd, 1) := by decide +kernel
theorem dX10_stepOn_193 : decode cX10_stepOn 193 = .ok (.putfield 180, 3) := by decide +kernel
theorem dX10_stepOn_196 : decode cX10_stepOn 196 = .ok (.aload_n 0, 1) := by decide +kernel
theorem dX10_stepOn_197 : decode cX10_stepOn 197 = .ok (.iload_n 1, 1) := by decide +kernel
theorem dX10_stepOn_198 : decode cX10_stepOn 198 = .ok (.invokestatic 210, 3) := by decide +kernel
theorem dX10_stepOn_201 : decode cX10_stepOn 201 = .ok (.ifCond .eq 7, 3) := by decide +kernel
theorem dX10_stepOn_204 : decode cX10_stepOn 204 = .ok (.iconst 3, 1) := by decide +kernel
theorem dX10_stepOn_205 : decode cX10_stepOn 205 = .ok (.goto 4, 3) := by decide +kernel
theorem dX10_stepOn_208 : decode cX10_stepOn 208 = .ok (.iconst 4, 1) := by decide +kernel
theorem dX10_stepOn_209 : decode cX10_stepOn 209 = .ok (.putfield 190, 3) := by decide +kernel
theorem dX10_stepOn_212 : decode cX10_stepOn 212 = .ok (.aload_n 0, 1) := by decide +kernel
theorem dX10_stepOn_213 : decode cX10_stepOn 213 = .ok (.aload_n 0, 1) := by decide +kernel
theorem dX10_stepOn_214 : decode cX10_stepOn 214 = .ok (.getfield 180, 3) := by decide +kernel
theorem dX10_stepOn_217 : decode cX10_stepOn 217 = .ok (.putfield 213, 3) := by decide +kernel
theorem dX10_stepOn_220 : decode cX10_stepOn 220 = .ok (.return_, 1) := by decide +kernel
theorem dX10_wrong_0 : decode cX10_wrong 0 = .ok (.aload_n 0, 1) := by decide +kernel
theorem dX10_wrong_1 : decode cX10_wrong 1 = .ok (.getfield 216, 3) := by decide +kernel
theorem dX10_wrong_4 : decode cX10_wrong 4 = .ok (.ifCond .eq 4, 3) := by decide +kernel
theorem dX10_wrong_7 : decode cX10_wrong 7 = .ok (.return_, 1) := by decide +kernel
theorem dX10_wrong_8 : decode cX10_wrong 8 = .ok (.aload_n 0, 1) := by decide +kernel
theorem dX10_wrong_9 : decode cX10_wrong 9 = .ok (.iload_n 1, 1) := by decide +kernel
theorem dX10_wrong_10 : decode cX10_wrong 10 = .ok (.putfield 216, 3) := by decide +kernel
theorem dX10_wrong_13 : decode cX10_wrong 13 = .ok (.aload_n 0, 1) := by decide +kernel
theorem dX10_wrong_14 : decode cX10_wrong 14 = .ok (.aload_n 0, 1) := by decide +kernel
theorem dX10_wrong_15 : decode cX10_wrong 15 = .ok (.getfield 187, 3) := by decide +kernel
theorem dX10_wrong_18 : decode cX10_wrong 18 = .ok (.putfield 219, 3) := by decide +kernel
theorem dX10_wrong_21 : decode cX10_wrong 21 = .ok (.return_, 1) := by decide +kernel
theorem dX10_is_0 : decode cX10_is 0 = .ok (.aload_n 0, 1) := by decide +kernel
theorem dX10_is_1 : decode cX10_is 1 = .ok (.getfield 216, 3) := by decide +kernel
theorem dX10_is_4 : decode cX10_is 4 = .ok (.ifCond .ne 31, 3) := by decide +kernel
theorem dX10_is_7 : decode cX10_is 7 = .ok (.aload_n 0, 1) := by decide +kernel
theorem dX10_is_8 : decode cX10_is 8 = .ok (.getfield 190, 3) := by decide +kernel
theorem dX10_is_11 : decode cX10_is 11 = .ok (.iconst 1, 1) := by decide +kernel
theorem dX10_is_12 : decode cX10_is 12 = .ok (.if_icmp .ne 23, 3) := by decide +kernel
theorem dX10_is_15 : decode cX10_is 15 = .ok (.aload_n 1, 1) := by decide +kernel
theorem dX10_is_16 : decode cX10_is 16 = .ok (.invokevirtual 222, 3) := by decide +kernel
theorem dX10_is_19 : decode cX10_is 19 = .ok (.aload_n 0, 1) := by decide +kernel
theorem dX10_is_20 : decode cX10_is 20 = .ok (.getfield 213, 3) := by decide +kernel
theorem dX10_is_23 : decode cX10_is 23 = .ok (.aload_n 0, 1) := by decide +kernel
theorem dX10_is_24 : decode cX10_is 24 = .ok (.getfield 187, 3) := by decide +kernel
theorem dX10_is_27 : decode cX10_is 27 = .ok (.isub, 1) := by decide +kernel
theorem dX10_is_28 : decode cX10_is 28 = .ok (.if_icmp .ne 7, 3) := by decide +kernel
theorem dX10_is_31 : decode cX10_is 31 = .ok (.iconst 1, 1) := by decide +kernel
theorem dX10_is_32 : decode cX10_is 32 = .ok (.goto 4, 3) := by decide +kernel
theorem dX10_is_35 : decode cX10_is 35 = .ok (.iconst 0, 1) := by decide +kernel
theorem dX10_is_36 : decode cX10_is 36 = .ok (.istore_n 2, 1) := by decide +kernel
theorem dX10_is_37 : decode cX10_is 37 = .ok (.iconst 0, 1) := by decide +kernel
theorem dX10_is_38 : decode cX10_is 38 = .ok (.istore_n 3, 1) := by decide +kernel
theorem dX10_is_39 : decode cX10_is 39 = .ok (.iload_n 2, 1) := by decide +kernel
theorem dX10_is_40 : decode cX10_is 40 = .ok (.ifCond .eq 42, 3) := by decide +kernel
theorem dX10_is_43 : decode cX10_is 43 = .ok (.iload_n 3, 1) := by decide +kernel
theorem dX10_is_44 : decode cX10_is 44 = .ok (.aload_n 1, 1) := by decide +kernel
theorem dX10_is_45 : decode cX10_is 45 = .ok (.invokevirtual 222, 3) := by decide +kernel
theorem dX10_is_48 : decode cX10_is 48 = .ok (.if_icmp .ge 34, 3) := by decide +kernel
theorem dX10_is_51 : decode cX10_is 51 = .ok (.aload_n 1, 1) := by decide +kernel
theorem dX10_is_52 : decode cX10_is 52 = .ok (.iload_n 3, 1) := by decide +kernel
theorem dX10_is_53 : decode cX10_is 53 = .ok (.invokevirtual 226, 3) := by decide +kernel
theorem dX10_is_56 : decode cX10_is 56 = .ok (.aload_n 0, 1) := by decide +kernel
theorem dX10_is_57 : decode cX10_is 57 = .ok (.getfield 74, 3) := by decide +kernel
theorem dX10_is_60 : decode cX10_is 60 = .ok (.aload_n 0, 1) := by decide +kernel
theorem dX10_is_61 : decode cX10_is 61 = .ok (.getfield 187, 3) := by decide +kernel
theorem dX10_is_64 : decode cX10_is 64 = .ok (.iload_n 3, 1) := by decide +kernel
theorem dX10_is_65 : decode cX10_is 65 = .ok (.iadd, 1) := by decide +kernel
theorem dX10_is_66 : decode cX10_is 66 = .ok (.iaload, 1) := by decide +kernel
theorem dX10_is_67 : decode cX10_is 67 = .ok (.if_icmp .ne 7, 3) := by decide +kernel
theorem dX10_is_70 : decode cX10_is 70 = .ok (.iconst 1, 1) := by decide +kernel
theorem dX10_is_71 : decode cX10_is 71 = .ok (.goto 4, 3) := by decide +kernel
theorem dX10_is_74 : decode cX10_is 74 = .ok (.iconst 0, 1) := by decide +kernel
theorem dX10_is_75 : decode cX10_is 75 = .ok (.istore_n 2, 1) := by decide +kernel
theorem dX10_is_76 : decode cX10_is 76 = .ok (.iinc 3 1, 3) := by decide +kernel
theorem dX10_is_79 : decode cX10_is 79 = .ok (.goto (-40), 3) := by decide +kernel
theorem dX10_is_82 : decode cX10_is 82 = .ok (.iload_n 2, 1) := by decide +kernel
theorem dX10_is_83 : decode cX10_is 83 = .ok (.ireturn, 1) := by decide +kernel
theorem dX10_which_0 : decode cX10_which 0 = .ok (.iconst 0, 1) := by decide +kernel
theorem dX10_which_1 : decode cX10_which 1 = .ok (.istore_n 2, 1) := by decide +kernel
theorem dX10_which_2 : decode cX10_which 2 = .ok (.iload_n 2, 1) := by decide +kernel
theorem dX10_which_3 : decode cX10_which 3 = .ok (.aload_n 1, 1) := by decide +kernel
theorem dX10_which_4 : decode cX10_which 4 = .ok (.arraylength, 1) := by decide +kernel
theorem dX10_which_5 : decode cX10_which 5 = .ok (.if_icmp .ge 21, 3) := by decide +kernel
theorem dX10_which_8 : decode cX10_which 8 = .ok (.aload_n 0, 1) := by decide +kernel
theorem dX10_which_9 : decode cX10_which 9 = .ok (.aload_n 1, 1) := by decide +kernel
theorem dX10_which_10 : decode cX10_which 10 = .ok (.iload_n 2, 1) := by decide +kernel
theorem dX10_which_11 : decode cX10_which 11 = .ok (.aaload, 1) := by decide +kernel
theorem dX10_which_12 : decode cX10_which 12 = .ok (.invokevirtual 230, 3) := by decide +kernel
theorem dX10_which_15 : decode cX10_which 15 = .ok (.ifCond .eq 5, 3) := by decide +kernel
theorem dX10_which_18 : decode cX10_which 18 = .ok (.iload_n 2, 1) := by decide +kernel
theorem dX10_which_19 : decode cX10_which 19 = .ok (.ireturn, 1) := by decide +kernel
theorem dX10_which_20 : decode cX10_which 20 = .ok (.iinc 2 1, 3) := by decide +kernel
theorem dX10_which_23 : decode cX10_which 23 = .ok (.goto (-21), 3) := by decide +kernel
theorem dX10_which_26 : decode cX10_which 26 = .ok (.iconst (-1), 1) := by decide +kernel
theorem dX10_which_27 : decode cX10_which 27 = .ok (.ireturn, 1) := by decide +kernel
theorem dX10_isMarked_0 : decode cX10_isMarked 0 = .ok (.aload_n 0, 1) := by decide +kernel
theorem dX10_isMarked_1 : decode cX10_isMarked 1 = .ok (.getfield 216, 3) := by decide +kernel
theorem dX10_isMarked_4 : decode cX10_isMarked 4 = .ok (.ifCond .ne 28, 3) := by decide +kernel
theorem dX10_isMarked_7 : decode cX10_isMarked 7 = .ok (.aload_n 0, 1) := by decide +kernel
theorem dX10_isMarked_8 : decode cX10_isMarked 8 = .ok (.getfield 190, 3) := by decide +kernel
theorem dX10_isMarked_11 : decode cX10_isMarked 11 = .ok (.iconst 3, 1) := by decide +kernel
theorem dX10_isMarked_12 : decode cX10_isMarked 12 = .ok (.if_icmp .ne 20, 3) := by decide +kernel
theorem dX10_isMarked_15 : decode cX10_isMarked 15 = .ok (.aload_n 0, 1) := by decide +kernel
theorem dX10_isMarked_16 : decode cX10_isMarked 16 = .ok (.getfield 74, 3) := by decide +kernel
theorem dX10_isMarked_19 : decode cX10_isMarked 19 = .ok (.aload_n 0, 1) := by decide +kernel
theorem dX10_isMarked_20 : decode cX10_isMarked 20 = .ok (.getfield 187, 3) := by decide +kernel
theorem dX10_isMarked_23 : decode cX10_isMarked 23 = .ok (.iaload, 1) := by decide +kernel
theorem dX10_isMarked_24 : decode cX10_isMarked 24 = .ok (.iload_n 1, 1) := by decide +kernel
theorem dX10_isMarked_25 : decode cX10_isMarked 25 = .ok (.if_icmp .ne 7, 3) := by decide +kernel
theorem dX10_isMarked_28 : decode cX10_isMarked 28 = .ok (.iconst 1, 1) := by decide +kernel
theorem dX10_isMarked_29 : decode cX10_isMarked 29 = .ok (.goto 4, 3) := by decide +kernel
theorem dX10_isMarked_32 : decode cX10_isMarked 32 = .ok (.iconst 0, 1) := by decide +kernel
theorem dX10_isMarked_33 : decode cX10_isMarked 33 = .ok (.ireturn, 1) := by decide +kernel
theorem dX10_mark_0 : decode cX10_mark 0 = .ok (.aload_n 0, 1) := by decide +kernel
theorem dX10_mark_1 : decode cX10_mark 1 = .ok (.getfield 216, 3) := by decide +kernel
theorem dX10_mark_4 : decode cX10_mark 4 = .ok (.ifCond .ne 16, 3) := by decide +kernel
theorem dX10_mark_7 : decode cX10_mark 7 = .ok (.aload_n 0, 1) := by decide +kernel
theorem dX10_mark_8 : decode cX10_mark 8 = .ok (.iload_n 1, 1) := by decide +kernel
theorem dX10_mark_9 : decode cX10_mark 9 = .ok (.invokevirtual 234, 3) := by decide +kernel
theorem dX10_mark_12 : decode cX10_mark 12 = .ok (.ifCond .ne 8, 3) := by decide +kernel
theorem dX10_mark_15 : decode cX10_mark 15 = .ok (.aload_n 0, 1) := by decide +kernel
theorem dX10_mark_16 : decode cX10_mark 16 = .ok (.iconst 1, 1) := by decide +kernel
theorem dX10_mark_17 : decode cX10_mark 17 = .ok (.invokevirtual 237, 3) := by decide +kernel
theorem dX10_mark_20 : decode cX10_mark 20 = .ok (.aload_n 0, 1) := by decide +kernel
theorem dX10_mark_21 : decode cX10_mark 21 = .ok (.getfield 216, 3) := by decide +kernel
theorem dX10_mark_24 : decode cX10_mark 24 = .ok (.ifCond .ne 7, 3) := by decide +kernel
theorem dX10_mark_27 : decode cX10_mark 27 = .ok (.aload_n 0, 1) := by decide +kernel
theorem dX10_mark_28 : decode cX10_mark 28 = .ok (.invokevirtual 241, 3) := by decide +kernel
theorem dX10_mark_31 : decode cX10_mark 31 = .ok (.return_, 1) := by decide +kernel
theorem dX10_numberNow_0 : decode cX10_numberNow 0 = .ok (.aload_n 0, 1) := by decide +kernel
theorem dX10_numberNow_1 : decode cX10_numberNow 1 = .ok (.getfield 216, 3) := by decide +kernel
theorem dX10_numberNow_4 : decode cX10_numberNow 4 = .ok (.ifCond .eq 5, 3) := by decide +kernel
theorem dX10_numberNow_7 : decode cX10_numberNow 7 = .ok (.iconst 0, 1) := by decide +kernel
theorem dX10_numberNow_8 : decode cX10_numberNow 8 = .ok (.ireturn, 1) := by decide +kernel
theorem dX10_numberNow_9 : decode cX10_numberNow 9 = .ok (.aload_n 0, 1) := by decide +kernel
theorem dX10_numberNow_10 : decode cX10_numberNow 10 = .ok (.getfield 190, 3) := by decide +kernel
theorem dX10_numberNow_13 : decode cX10_numberNow 13 = .ok (.iconst 2, 1) := by decide +kernel
theorem dX10_numberNow_14 : decode cX10_numberNow 14 = .ok (.if_icmp .eq 11, 3) := by decide +kernel
theorem dX10_numberNow_17 : decode cX10_numberNow 17 = .ok (.aload_n 0, 1) := by decide +kernel
theorem dX10_numberNow_18 : decode cX10_numberNow 18 = .ok (.iconst 1, 1) := by decide +kernel
theorem dX10_numberNow_19 : decode cX10_numberNow 19 = .ok (.invokevirtual 237, 3) := by decide +kernel
theorem dX10_numberNow_22 : decode cX10_numberNow 22 = .ok (.goto 37, 3) := by decide +kernel
theorem dX10_numberNow_25 : decode cX10_numberNow 25 = .ok (.aload_n 0, 1) := by decide +kernel
theorem dX10_numberNow_26 : decode cX10_numberNow 26 = .ok (.getfield 213, 3) := by decide +kernel
theorem dX10_numberNow_29 : decode cX10_numberNow 29 = .ok (.aload_n 0, 1) := by decide +kernel
theorem dX10_numberNow_30 : decode cX10_numberNow 30 = .ok (.getfield 187, 3) := by decide +kernel
theorem dX10_numberNow_33 : decode cX10_numberNow 33 = .ok (.isub, 1) := by decide +kernel
theorem dX10_numberNow_34 : decode cX10_numberNow 34 = .ok (.iconst 4, 1) := by decide +kernel
theorem dX10_numberNow_35 : decode cX10_numberNow 35 = .ok (.if_icmp .gt 19, 3) := by decide +kernel
theorem dX10_numberNow_38 : decode cX10_numberNow 38 = .ok (.aload_n 0, 1) := by decide +kernel
theorem dX10_numberNow_39 : decode cX10_numberNow 39 = .ok (.getfield 200, 3) := by decide +kernel
theorem dX10_numberNow_42 : decode cX10_numberNow 42 = .ok (.iload_n 1, 1) := by decide +kernel
theorem dX10_numberNow_43 : decode cX10_numberNow 43 = .ok (.if_icmp .lt 11, 3) := by decide +kernel
theorem dX10_numberNow_46 : decode cX10_numberNow 46 = .ok (.aload_n 0, 1) := by decide +kernel
theorem dX10_numberNow_47 : decode cX10_numberNow 47 = .ok (.getfield 200, 3) := by decide +kernel
theorem dX10_numberNow_50 : decode cX10_numberNow 50 = .ok (.iload_n 2, 1) := by decide +kernel
theorem dX10_numberNow_51 : decode cX10_numberNow 51 = .ok (.if_icmp .le 8, 3) := by decide +kernel
theorem dX10_numberNow_54 : decode cX10_numberNow 54 = .ok (.aload_n 0, 1) := by decide +kernel
theorem dX10_numberNow_55 : decode cX10_numberNow 55 = .ok (.iconst 2, 1) := by decide +kernel
theorem dX10_numberNow_56 : decode cX10_numberNow 56 = .ok (.invokevirtual 237, 3) := by decide +kernel
theorem dX10_numberNow_59 : decode cX10_numberNow 59 = .ok (.aload_n 0, 1) := by decide +kernel
theorem dX10_numberNow_60 : decode cX10_numberNow 60 = .ok (.getfield 216, 3) := by decide +kernel
theorem dX10_numberNow_63 : decode cX10_numberNow 63 = .ok (.ifCond .ne 10, 3) := by decide +kernel
theorem dX10_numberNow_66 : decode cX10_numberNow 66 = .ok (.aload_n 0, 1) := by decide +kernel
theorem dX10_numberNow_67 : decode cX10_numberNow 67 = .ok (.getfield 200, 3) := by decide +kernel
theorem dX10_numberNow_70 : decode cX10_numberNow 70 = .ok (.goto 4, 3) := by decide +kernel
theorem dX10_numberNow_73 : decode cX10_numberNow 73 = .ok (.iconst 0, 1) := by decide +kernel
theorem dX10_numberNow_74 : decode cX10_numberNow 74 = .ok (.ireturn, 1) := by decide +kernel
theorem dX10_readNumber_0 : decode cX10_readNumber 0 = .ok (.aload_n 0, 1) := by decide +kernel
theorem dX10_readNumber_1 : decode cX10_readNumber 1 = .ok (.iload_n 1, 1) := by decide +kernel
theorem dX10_readNumber_2 : decode cX10_readNumber 2 = .ok (.iload_n 2, 1) := by decide +kernel
theorem dX10_readNumber_3 : decode cX10_readNumber 3 = .ok (.invokevirtual 244, 3) := by decide +kernel
theorem dX10_readNumber_6 : decode cX10_readNumber 6 = .ok (.istore_n 3, 1) := by decide +kernel
theorem dX10_readNumber_7 : decode cX10_readNumber 7 = .ok (.aload_n 0, 1) := by decide +kernel
theorem dX10_readNumber_8 : decode cX10_readNumber 8 = .ok (.getfield 216, 3) := by decide +kernel
theorem dX10_readNumber_11 : decode cX10_readNumber 11 = .ok (.ifCond .ne 7, 3) := by decide +kernel
theorem dX10_readNumber_14 : decode cX10_readNumber 14 = .ok (.aload_n 0, 1) := by decide +kernel
theorem dX10_readNumber_15 : decode cX10_readNumber 15 = .ok (.invokevirtual 241, 3) := by decide +kernel
theorem dX10_readNumber_18 : decode cX10_readNumber 18 = .ok (.iload_n 3, 1) := by decide +kernel
theorem dX10_readNumber_19 : decode cX10_readNumber 19 = .ok (.ireturn, 1) := by decide +kernel
theorem dX10_oneNow_0 : decode cX10_oneNow 0 = .ok (.aload_n 0, 1) := by decide +kernel
theorem dX10_oneNow_1 : decode cX10_oneNow 1 = .ok (.iconst 0, 1) := by decide +kernel
theorem dX10_oneNow_2 : decode cX10_oneNow 2 = .ok (.sipush 9999, 3) := by decide +kernel
theorem dX10_oneNow_5 : decode cX10_oneNow 5 = .ok (.invokevirtual 244, 3) := by decide +kernel
theorem dX10_oneNow_8 : decode cX10_oneNow 8 = .ok (.istore_n 2, 1) := by decide +kernel
theorem dX10_oneNow_9 : decode cX10_oneNow 9 = .ok (.aload_n 0, 1) := by decide +kernel
theorem dX10_oneNow_10 : decode cX10_oneNow 10 = .ok (.getfield 216, 3) := by decide +kernel
theorem dX10_oneNow_13 : decode cX10_oneNow 13 = .ok (.ifCond .ne 20, 3) := by decide +kernel
theorem dX10_oneNow_16 : decode cX10_oneNow 16 = .ok (.iload_n 2, 1) := by decide +kernel
theorem dX10_oneNow_17 : decode cX10_oneNow 17 = .ok (.aload_n 0, 1) := by decide +kernel
theorem dX10_oneNow_18 : decode cX10_oneNow 18 = .ok (.getfield 39, 3) := by decide +kernel
theorem dX10_oneNow_21 : decode cX10_oneNow 21 = .ok (.iconst 5, 1) := by decide +kernel
theorem dX10_oneNow_22 : decode cX10_oneNow 22 = .ok (.iload_n 1, 1) := by decide +kernel
theorem dX10_oneNow_23 : decode cX10_oneNow 23 = .ok (.iadd, 1) := by decide +kernel
theorem dX10_oneNow_24 : decode cX10_oneNow 24 = .ok (.iaload, 1) := by decide +kernel
theorem dX10_oneNow_25 : decode cX10_oneNow 25 = .ok (.if_icmp .lt 8, 3) := by decide +kernel
theorem dX10_oneNow_28 : decode cX10_oneNow 28 = .ok (.aload_n 0, 1) := by decide +kernel
theorem dX10_oneNow_29 : decode cX10_oneNow 29 = .ok (.iconst 3, 1) := by decide +kernel
theorem dX10_oneNow_30 : decode cX10_oneNow 30 = .ok (.invokevirtual 237, 3) := by decide +kernel
theorem dX10_oneNow_33 : decode cX10_oneNow 33 = .ok (.aload_n 0, 1) := by decide +kernel
theorem dX10_oneNow_34 : decode cX10_oneNow 34 = .ok (.getfield 216, 3) := by decide +kernel
theorem dX10_oneNow_37 : decode cX10_oneNow 37 = .ok (.ifCond .ne 7, 3) := by decide +kernel
theorem dX10_oneNow_40 : decode cX10_oneNow 40 = .ok (.iload_n 2, 1) := by decide +kernel
theorem dX10_oneNow_41 : decode cX10_oneNow 41 = .ok (.goto 4, 3) := by decide +kernel
theorem dX10_oneNow_44 : decode cX10_oneNow 44 = .ok (.iconst 0, 1) := by decide +kernel
theorem dX10_oneNow_45 : decode cX10_oneNow 45 = .ok (.ireturn, 1) := by decide +kernel
theorem dX10_readOne_0 : decode cX10_readOne 0 = .ok (.aload_n 0, 1) := by decide +kernel
theorem dX10_readOne_1 : decode cX10_readOne 1 = .ok (.iload_n 1, 1) := by decide +kernel
theorem dX10_readOne_2 : decode cX10_readOne 2 = .ok (.invokevirtual 247, 3) := by decide +kernel
theorem dX10_readOne_5 : decode cX10_readOne 5 = .ok (.istore_n 2, 1) := by decide +kernel
theorem dX10_readOne_6 : decode cX10_readOne 6 = .ok (.aload_n 0, 1) := by decide +kernel
theorem dX10_readOne_7 : decode cX10_readOne 7 = .ok (.getfield 216, 3) := by decide +kernel
theorem dX10_readOne_10 : decode cX10_readOne 10 = .ok (.ifCond .ne 7, 3) := by decide +kernel
theorem dX10_readOne_13 : decode cX10_readOne 13 = .ok (.aload_n 0, 1) := by decide +kernel
theorem dX10_readOne_14 : decode cX10_readOne 14 = .ok (.invokevirtual 241, 3) := by decide +kernel
theorem dX10_readOne_17 : decode cX10_readOne 17 = .ok (.iload_n 2, 1) := by decide +kernel
theorem dX10_readOne_18 : decode cX10_readOne 18 = .ok (.ireturn, 1) := by decide +kernel
theorem dX10_lay_0 : decode cX10_lay 0 = .ok (.aload_n 0, 1) := by decide +kernel
theorem dX10_lay_1 : decode cX10_lay 1 = .ok (.getfield 216, 3) := by decide +kernel
theorem dX10_lay_4 : decode cX10_lay 4 = .ok (.ifCond .eq 4, 3) := by decide +kernel
theorem dX10_lay_7 : decode cX10_lay 7 = .ok (.return_, 1) := by decide +kernel
theorem dX10_lay_8 : decode cX10_lay 8 = .ok (.iconst 5, 1) := by decide +kernel
theorem dX10_lay_9 : decode cX10_lay 9 = .ok (.aload_n 0, 1) := by decide +kernel
theorem dX10_lay_10 : decode cX10_lay 10 = .ok (.getfield 250, 3) := by decide +kernel
theorem dX10_lay_13 : decode cX10_lay 13 = .ok (.ifCond .eq 7, 3) := by decide +kernel
theorem dX10_lay_16 : decode cX10_lay 16 = .ok (.iconst 4, 1) := by decide +kernel
theorem dX10_lay_17 : decode cX10_lay 17 = .ok (.goto 4, 3) := by decide +kernel
theorem dX10_lay_20 : decode cX10_lay 20 = .ok (.iconst 3, 1) := by decide +kernel
theorem dX10_lay_21 : decode cX10_lay 21 = .ok (.iadd, 1) := by decide +kernel
theorem dX10_lay_22 : decode cX10_lay 22 = .ok (.istore_n 2, 1) := by decide +kernel
theorem dX10_lay_23 : decode cX10_lay 23 = .ok (.aload_n 0, 1) := by decide +kernel
theorem dX10_lay_24 : decode cX10_lay 24 = .ok (.getfield 250, 3) := by decide +kernel
theorem dX10_lay_27 : decode cX10_lay 27 = .ok (.ifCond .eq 10, 3) := by decide +kernel
theorem dX10_lay_30 : decode cX10_lay 30 = .ok (.aload_n 0, 1) := by decide +kernel
theorem dX10_lay_31 : decode cX10_lay 31 = .ok (.getfield 68, 3) := by decide +kernel
theorem dX10_lay_34 : decode cX10_lay 34 = .ok (.goto 7, 3) := by decide +kernel
theorem dX10_lay_37 : decode cX10_lay 37 = .ok (.aload_n 0, 1) := by decide +kernel
theorem dX10_lay_38 : decode cX10_lay 38 = .ok (.getfield 65, 3) := by decide +kernel
theorem dX10_lay_41 : decode cX10_lay 41 = .ok (.astore_n 3, 1) := by decide +kernel
theorem dX10_lay_42 : decode cX10_lay 42 = .ok (.aload_n 3, 1) := by decide +kernel
theorem dX10_lay_43 : decode cX10_lay 43 = .ok (.sipush 700, 3) := by decide +kernel
theorem dX10_lay_46 : decode cX10_lay 46 = .ok (.aload_n 0, 1) := by decide +kernel
theorem dX10_lay_47 : decode cX10_lay 47 = .ok (.getfield 39, 3) := by decide +kernel
theorem dX10_lay_50 : decode cX10_lay 50 = .ok (.iload_n 2, 1) := by decide +kernel
theorem dX10_lay_51 : decode cX10_lay 51 = .ok (.iaload, 1) := by decide +kernel
theorem dX10_lay_52 : decode cX10_lay 52 = .ok (.iadd, 1) := by decide +kernel
theorem dX10_lay_53 : decode cX10_lay 53 = .ok (.iload_n 1, 1) := by decide +kernel
theorem dX10_lay_54 : decode cX10_lay 54 = .ok (.iastore, 1) := by decide +kernel
theorem dX10_lay_55 : decode cX10_lay 55 = .ok (.aload_n 0, 1) := by decide +kernel
theorem dX10_lay_56 : decode cX10_lay 56 = .ok (.getfield 39, 3) := by decide +kernel
theorem dX10_lay_59 : decode cX10_lay 59 = .ok (.iload_n 2, 1) := by decide +kernel
theorem dX10_lay_60 : decode cX10_lay 60 = .ok (.dup2, 1) := by decide +kernel
theorem dX10_lay_61 : decode cX10_lay 61 = .ok (.iaload, 1) := by decide +kernel
theorem dX10_lay_62 : decode cX10_lay 62 = .ok (.iconst 1, 1) := by decide +kernel
theorem dX10_lay_63 : decode cX10_lay 63 = .ok (.iadd, 1) := by decide +kernel
theorem dX10_lay_64 : decode cX10_lay 64 = .ok (.iastore, 1) := by decide +kernel
theorem dX10_lay_65 : decode cX10_lay 65 = .ok (.return_, 1) := by decide +kernel
theorem dX10_readPart_0 : decode cX10_readPart 0 = .ok (.aload_n 0, 1) := by decide +kernel
theorem dX10_readPart_1 : decode cX10_readPart 1 = .ok (.getfield 216, 3) := by decide +kernel
theorem dX10_readPart_4 : decode cX10_readPart 4 = .ok (.ifCond .eq 4, 3) := by decide +kernel
theorem dX10_readPart_7 : decode cX10_readPart 7 = .ok (.return_, 1) := by decide +kernel
theorem dX10_readPart_8 : decode cX10_readPart 8 = .ok (.aload_n 0, 1) := by decide +kernel
theorem dX10_readPart_9 : decode cX10_readPart 9 = .ok (.getfield 190, 3) := by decide +kernel
theorem dX10_readPart_12 : decode cX10_readPart 12 = .ok (.iconst 2, 1) := by decide +kernel
theorem dX10_readPart_13 : decode cX10_readPart 13 = .ok (.if_icmp .ne 16, 3) := by decide +kernel
theorem dX10_readPart_16 : decode cX10_readPart 16 = .ok (.aload_n 0, 1) := by decide +kernel
theorem dX10_readPart_17 : decode cX10_readPart 17 = .ok (.aload_n 0, 1) := by decide +kernel
theorem dX10_readPart_18 : decode cX10_readPart 18 = .ok (.iconst 0, 1) := by decide +kernel
theorem dX10_readPart_19 : decode cX10_readPart 19 = .ok (.sipush 9999, 3) := by decide +kernel
theorem dX10_readPart_22 : decode cX10_readPart 22 = .ok (.invokevirtual 254, 3) := by decide +kernel
theorem dX10_readPart_25 : decode cX10_readPart 25 = .ok (.invokevirtual 257, 3) := by decide +kernel
theorem dX10_readPart_28 : decode cX10_readPart 28 = .ok (.return_, 1) := by decide +kernel
theorem dX10_readPart_29 : decode cX10_readPart 29 = .ok (.aload_n 0, 1) := by decide +kernel
theorem dX10_readPart_30 : decode cX10_readPart 30 = .ok (.getfield 190, 3) := by decide +kernel
theorem dX10_readPart_33 : decode cX10_readPart 33 = .ok (.iconst 1, 1) := by decide +kernel
theorem dX10_readPart_34 : decode cX10_readPart 34 = .ok (.if_icmp .ne 41, 3) := by decide +kernel
theorem dX10_readPart_37 : decode cX10_readPart 37 = .ok (.aload_n 0, 1) := by decide +kernel
theorem dX10_readPart_38 : decode cX10_readPart 38 = .ok (.aload_n 0, 1) := by decide +kernel
theorem dX10_readPart_39 : decode cX10_readPart 39 = .ok (.getfield 36, 3) := by decide +kernel
theorem dX10_readPart_42 : decode cX10_readPart 42 = .ok (.invokevirtual 260, 3) := by decide +kernel
theorem dX10_readPart_45 : decode cX10_readPart 45 = .ok (.istore_n 2, 1) := by decide +kernel
theorem dX10_readPart_46 : decode cX10_readPart 46 = .ok (.iload_n 2, 1) := by decide +kernel
theorem dX10_readPart_47 : decode cX10_readPart 47 = .ok (.iconst (-1), 1) := by decide +kernel
theorem dX10_readPart_48 : decode cX10_readPart 48 = .ok (.if_icmp .ne 8, 3) := by decide +kernel
theorem dX10_readPart_51 : decode cX10_readPart 51 = .ok (.aload_n 0, 1) := by decide +kernel
theorem dX10_readPart_52 : decode cX10_readPart 52 = .ok (.iconst 3, 1) := by decide +kernel
theorem dX10_readPart_53 : decode cX10_readPart 53 = .ok (.invokevirtual 237, 3) := by decide +kernel
theorem dX10_readPart_56 : decode cX10_readPart 56 = .ok (.aload_n 0, 1) := by decide +kernel
theorem dX10_readPart_57 : decode cX10_readPart 57 = .ok (.iconst (-1), 1) := by decide +kernel
theorem dX10_readPart_58 : decode cX10_readPart 58 = .ok (.iload_n 2, 1) := by decide +kernel
theorem dX10_readPart_59 : decode cX10_readPart 59 = .ok (.isub, 1) := by decide +kernel
theorem dX10_readPart_60 : decode cX10_readPart 60 = .ok (.invokevirtual 257, 3) := by decide +kernel
theorem dX10_readPart_63 : decode cX10_readPart 63 = .ok (.aload_n 0, 1) := by decide +kernel
theorem dX10_readPart_64 : decode cX10_readPart 64 = .ok (.getfield 216, 3) := by decide +kernel
theorem dX10_readPart_67 : decode cX10_readPart 67 = .ok (.ifCond .ne 7, 3) := by decide +kernel
theorem dX10_readPart_70 : decode cX10_readPart 70 = .ok (.aload_n 0, 1) := by decide +kernel
theorem dX10_readPart_71 : decode cX10_readPart 71 = .ok (.invokevirtual 241, 3) := by decide +kernel
theorem dX10_readPart_74 : decode cX10_readPart 74 = .ok (.return_, 1) := by decide +kernel
theorem dX10_readPart_75 : decode cX10_readPart 75 = .ok (.aload_n 0, 1) := by decide +kernel
theorem dX10_readPart_76 : decode cX10_readPart 76 = .ok (.bipush 40, 2) := by decide +kernel
theorem dX10_readPart_78 : decode cX10_readPart 78 = .ok (.invokevirtual 264, 3) := by decide +kernel
theorem dX10_readPart_81 : decode cX10_readPart 81 = .ok (.aload_n 0, 1) := by decide +kernel
theorem dX10_readPart_82 : decode cX10_readPart 82 = .ok (.iload_n 1, 1) := by decide +kernel
theorem dX10_readPart_83 : decode cX10_readPart 83 = .ok (.iconst 1, 1) := by decide +kernel
theorem dX10_readPart_84 : decode cX10_readPart 84 = .ok (.iadd, 1) := by decide +kernel
theorem dX10_readPart_85 : decode cX10_readPart 85 = .ok (.invokevirtual 267, 3) := by decide +kernel
theorem dX10_readPart_88 : decode cX10_readPart 88 = .ok (.aload_n 0, 1) := by decide +kernel
theorem dX10_readPart_89 : decode cX10_readPart 89 = .ok (.bipush 41, 2) := by decide +kernel
theorem dX10_readPart_91 : decode cX10_readPart 91 = .ok (.invokevirtual 264, 3) := by decide +kernel
theorem dX10_readPart_94 : decode cX10_readPart 94 = .ok (.return_, 1) := by decide +kernel
theorem dX10_readProduct_0 : decode cX10_readProduct 0 = .ok (.aload_n 0, 1) := by decide +kernel
theorem dX10_readProduct_1 : decode cX10_readProduct 1 = .ok (.iload_n 1, 1) := by decide +kernel
theorem dX10_readProduct_2 : decode cX10_readProduct 2 = .ok (.invokevirtual 270, 3) := by decide +kernel
theorem dX10_readProduct_5 : decode cX10_readProduct 5 = .ok (.aload_n 0, 1) := by decide +kernel
theorem dX10_readProduct_6 : decode cX10_readProduct 6 = .ok (.bipush 42, 2) := by decide +kernel
theorem dX10_readProduct_8 : decode cX10_readProduct 8 = .ok (.invokevirtual 234, 3) := by decide +kernel
theorem dX10_readProduct_11 : decode cX10_readProduct 11 = .ok (.ifCond .ne 12, 3) := by decide +kernel
theorem dX10_readProduct_14 : decode cX10_readProduct 14 = .ok (.aload_n 0, 1) := by decide +kernel
theorem dX10_readProduct_15 : decode cX10_readProduct 15 = .ok (.bipush 47, 2) := by decide +kernel
theorem dX10_readProduct_17 : decode cX10_readProduct 17 = .ok (.invokevirtual 234, 3) := by decide +kernel
theorem dX10_readProduct_20 : decode cX10_readProduct 20 = .ok (.ifCond .eq 37, 3) := by decide +kernel
theorem dX10_readProduct_23 : decode cX10_readProduct 23 = .ok (.aload_n 0, 1) := by decide +kernel
theorem dX10_readProduct_24 : decode cX10_readProduct 24 = .ok (.bipush 42, 2) := by decide +kernel
theorem dX10_readProduct_26 : decode cX10_readProduct 26 = .ok (.invokevirtual 234, 3) := by decide +kernel
theorem dX10_readProduct_29 : decode cX10_readProduct 29 = .ok (.ifCond .eq 8, 3) := by decide +kernel
theorem dX10_readProduct_32 : decode cX10_readProduct 32 = .ok (.bipush (-22), 2) := by decide +kernel
theorem dX10_readProduct_34 : decode cX10_readProduct 34 = .ok (.goto 5, 3) := by decide +kernel
theorem dX10_readProduct_37 : decode cX10_readProduct 37 = .ok (.bipush (-23), 2) := by decide +kernel
theorem dX10_readProduct_39 : decode cX10_readProduct 39 = .ok (.istore_n 2, 1) := by decide +kernel
theorem dX10_readProduct_40 : decode cX10_readProduct 40 = .ok (.aload_n 0, 1) := by decide +kernel
theorem dX10_readProduct_41 : decode cX10_readProduct 41 = .ok (.invokevirtual 241, 3) := by decide +kernel
theorem dX10_readProduct_44 : decode cX10_readProduct 44 = .ok (.aload_n 0, 1) := by decide +kernel
theorem dX10_readProduct_45 : decode cX10_readProduct 45 = .ok (.iload_n 1, 1) := by decide +kernel
theorem dX10_readProduct_46 : decode cX10_readProduct 46 = .ok (.invokevirtual 270, 3) := by decide +kernel
theorem dX10_readProduct_49 : decode cX10_readProduct 49 = .ok (.aload_n 0, 1) := by decide +kernel
theorem dX10_readProduct_50 : decode cX10_readProduct 50 = .ok (.iload_n 2, 1) := by decide +kernel
theorem dX10_readProduct_51 : decode cX10_readProduct 51 = .ok (.invokevirtual 257, 3) := by decide +kernel
theorem dX10_readProduct_54 : decode cX10_readProduct 54 = .ok (.goto (-49), 3) := by decide +kernel
theorem dX10_readProduct_57 : decode cX10_readProduct 57 = .ok (.return_, 1) := by decide +kernel
theorem dX10_readSum_0 : decode cX10_readSum 0 = .ok (.aload_n 0, 1) := by decide +kernel
theorem dX10_readSum_1 : decode cX10_readSum 1 = .ok (.iload_n 1, 1) := by decide +kernel
theorem dX10_readSum_2 : decode cX10_readSum 2 = .ok (.invokevirtual 273, 3) := by decide +kernel
theorem dX10_readSum_5 : decode cX10_readSum 5 = .ok (.aload_n 0, 1) := by decide +kernel
theorem dX10_readSum_6 : decode cX10_readSum 6 = .ok (.bipush 43, 2) := by decide +kernel
theorem dX10_readSum_8 : decode cX10_readSum 8 = .ok (.invokevirtual 234, 3) := by decide +kernel
theorem dX10_readSum_11 : decode cX10_readSum 11 = .ok (.ifCond .ne 12, 3) := by decide +kernel
theorem dX10_readSum_14 : decode cX10_readSum 14 = .ok (.aload_n 0, 1) := by decide +kernel
theorem dX10_readSum_15 : decode cX10_readSum 15 = .ok (.bipush 45, 2) := by decide +kernel
theorem dX10_readSum_17 : decode cX10_readSum 17 = .ok (.invokevirtual 234, 3) := by decide +kernel
theorem dX10_readSum_20 : decode cX10_readSum 20 = .ok (.ifCond .eq 37, 3) := by decide +kernel
theorem dX10_readSum_23 : decode cX10_readSum 23 = .ok (.aload_n 0, 1) := by decide +kernel
theorem dX10_readSum_24 : decode cX10_readSum 24 = .ok (.bipush 43, 2) := by decide +kernel
theorem dX10_readSum_26 : decode cX10_readSum 26 = .ok (.invokevirtual 234, 3) := by decide +kernel
theorem dX10_readSum_29 : decode cX10_readSum 29 = .ok (.ifCond .eq 8, 3) := by decide +kernel
theorem dX10_readSum_32 : decode cX10_readSum 32 = .ok (.bipush (-20), 2) := by decide +kernel
theorem dX10_readSum_34 : decode cX10_readSum 34 = .ok (.goto 5, 3) := by decide +kernel
theorem dX10_readSum_37 : decode cX10_readSum 37 = .ok (.bipush (-21), 2) := by decide +kernel
theorem dX10_readSum_39 : decode cX10_readSum 39 = .ok (.istore_n 2, 1) := by decide +kernel
theorem dX10_readSum_40 : decode cX10_readSum 40 = .ok (.aload_n 0, 1) := by decide +kernel
theorem dX10_readSum_41 : decode cX10_readSum 41 = .ok (.invokevirtual 241, 3) := by decide +kernel
theorem dX10_readSum_44 : decode cX10_readSum 44 = .ok (.aload_n 0, 1) := by decide +kernel
theorem dX10_readSum_45 : decode cX10_readSum 45 = .ok (.iload_n 1, 1) := by decide +kernel
theorem dX10_readSum_46 : decode cX10_readSum 46 = .ok (.invokevirtual 273, 3) := by decide +kernel
theorem dX10_readSum_49 : decode cX10_readSum 49 = .ok (.aload_n 0, 1) := by decide +kernel
theorem dX10_readSum_50 : decode cX10_readSum 50 = .ok (.iload_n 2, 1) := by decide +kernel
theorem dX10_readSum_51 : decode cX10_readSum 51 = .ok (.invokevirtual 257, 3) := by decide +kernel
theorem dX10_readSum_54 : decode cX10_readSum 54 = .ok (.goto (-49), 3) := by decide +kernel
theorem dX10_readSum_57 : decode cX10_readSum 57 = .ok (.return_, 1) := by decide +kernel
theorem dX10_readNot_0 : decode cX10_readNot 0 = .ok (.iconst 0, 1) := by decide +kernel
theorem dX10_readNot_1 : decode cX10_readNot 1 = .ok (.istore_n 2, 1) := by decide +kernel
theorem dX10_readNot_2 : decode cX10_readNot 2 = .ok (.aload_n 0, 1) := by decide +kernel
theorem dX10_readNot_3 : decode cX10_readNot 3 = .ok (.ldc_w 276, 3) := by decide +kernel
theorem dX10_readNot_6 : decode cX10_readNot 6 = .ok (.invokevirtual 230, 3) := by decide +kernel
theorem dX10_readNot_9 : decode cX10_readNot 9 = .ok (.ifCond .eq 31, 3) := by decide +kernel
theorem dX10_readNot_12 : decode cX10_readNot 12 = .ok (.iload_n 2, 1) := by decide +kernel
theorem dX10_readNot_13 : decode cX10_readNot 13 = .ok (.bipush 6, 2) := by decide +kernel
theorem dX10_readNot_15 : decode cX10_readNot 15 = .ok (.if_icmp .ne 8, 3) := by decide +kernel
theorem dX10_readNot_18 : decode cX10_readNot 18 = .ok (.aload_n 0, 1) := by decide +kernel
theorem dX10_readNot_19 : decode cX10_readNot 19 = .ok (.iconst 2, 1) := by decide +kernel
theorem dX10_readNot_20 : decode cX10_readNot 20 = .ok (.invokevirtual 237, 3) := by decide +kernel
theorem dX10_readNot_23 : decode cX10_readNot 23 = .ok (.iinc 2 1, 3) := by decide +kernel
theorem dX10_readNot_26 : decode cX10_readNot 26 = .ok (.aload_n 0, 1) := by decide +kernel
theorem dX10_readNot_27 : decode cX10_readNot 27 = .ok (.getfield 216, 3) := by decide +kernel
theorem dX10_readNot_30 : decode cX10_readNot 30 = .ok (.ifCond .ne (-28), 3) := by decide +kernel
theorem dX10_readNot_33 : decode cX10_readNot 33 = .ok (.aload_n 0, 1) := by decide +kernel
theorem dX10_readNot_34 : decode cX10_readNot 34 = .ok (.invokevirtual 241, 3) := by decide +kernel
theorem dX10_readNot_37 : decode cX10_readNot 37 = .ok (.goto (-35), 3) := by decide +kernel
theorem dX10_readNot_40 : decode cX10_readNot 40 = .ok (.aload_n 0, 1) := by decide +kernel
theorem dX10_readNot_41 : decode cX10_readNot 41 = .ok (.iload_n 1, 1) := by decide +kernel
theorem dX10_readNot_42 : decode cX10_readNot 42 = .ok (.invokevirtual 278, 3) := by decide +kernel
theorem dX10_readNot_45 : decode cX10_readNot 45 = .ok (.aload_n 0, 1) := by decide +kernel
theorem dX10_readNot_46 : decode cX10_readNot 46 = .ok (.bipush 60, 2) := by decide +kernel
theorem dX10_readNot_48 : decode cX10_readNot 48 = .ok (.invokevirtual 234, 3) := by decide +kernel
theorem dX10_readNot_51 : decode cX10_readNot 51 = .ok (.ifCond .ne 12, 3) := by decide +kernel
theorem dX10_readNot_54 : decode cX10_readNot 54 = .ok (.aload_n 0, 1) := by decide +kernel
theorem dX10_readNot_55 : decode cX10_readNot 55 = .ok (.bipush 61, 2) := by decide +kernel
theorem dX10_readNot_57 : decode cX10_readNot 57 = .ok (.invokevirtual 234, 3) := by decide +kernel
theorem dX10_readNot_60 : decode cX10_readNot 60 = .ok (.ifCond .eq 34, 3) := by decide +kernel
theorem dX10_readNot_63 : decode cX10_readNot 63 = .ok (.aload_n 0, 1) := by decide +kernel
theorem dX10_readNot_64 : decode cX10_readNot 64 = .ok (.bipush 60, 2) := by decide +kernel
theorem dX10_readNot_66 : decode cX10_readNot 66 = .ok (.invokevirtual 234, 3) := by decide +kernel
theorem dX10_readNot_69 : decode cX10_readNot 69 = .ok (.ifCond .eq 8, 3) := by decide +kernel
theorem dX10_readNot_72 : decode cX10_readNot 72 = .ok (.bipush (-24), 2) := by decide +kernel
theorem dX10_readNot_74 : decode cX10_readNot 74 = .ok (.goto 5, 3) := by decide +kernel
theorem dX10_readNot_77 : decode cX10_readNot 77 = .ok (.bipush (-25), 2) := by decide +kernel
theorem dX10_readNot_79 : decode cX10_readNot 79 = .ok (.istore_n 3, 1) := by decide +kernel
theorem dX10_readNot_80 : decode cX10_readNot 80 = .ok (.aload_n 0, 1) := by decide +kernel
theorem dX10_readNot_81 : decode cX10_readNot 81 = .ok (.invokevirtual 241, 3) := by decide +kernel
theorem dX10_readNot_84 : decode cX10_readNot 84 = .ok (.aload_n 0, 1) := by decide +kernel
theorem dX10_readNot_85 : decode cX10_readNot 85 = .ok (.iload_n 1, 1) := by decide +kernel
theorem dX10_readNot_86 : decode cX10_readNot 86 = .ok (.invokevirtual 278, 3) := by decide +kernel
theorem dX10_readNot_89 : decode cX10_readNot 89 = .ok (.aload_n 0, 1) := by decide +kernel
theorem dX10_readNot_90 : decode cX10_readNot 90 = .ok (.iload_n 3, 1) := by decide +kernel
theorem dX10_readNot_91 : decode cX10_readNot 91 = .ok (.invokevirtual 257, 3) := by decide +kernel
theorem dX10_readNot_94 : decode cX10_readNot 94 = .ok (.iconst 0, 1) := by decide +kernel
theorem dX10_readNot_95 : decode cX10_readNot 95 = .ok (.istore_n 3, 1) := by decide +kernel
theorem dX10_readNot_96 : decode cX10_readNot 96 = .ok (.iload_n 3, 1) := by decide +kernel
theorem dX10_readNot_97 : decode cX10_readNot 97 = .ok (.iload_n 2, 1) := by decide +kernel
theorem dX10_readNot_98 : decode cX10_readNot 98 = .ok (.if_icmp .ge 15, 3) := by decide +kernel
theorem dX10_readNot_101 : decode cX10_readNot 101 = .ok (.aload_n 0, 1) := by decide +kernel
theorem dX10_readNot_102 : decode cX10_readNot 102 = .ok (.bipush (-28), 2) := by decide +kernel
theorem dX10_readNot_104 : decode cX10_readNot 104 = .ok (.invokevirtual 257, 3) := by decide +kernel
theorem dX10_readNot_107 : decode cX10_readNot 107 = .ok (.iinc 3 1, 3) := by decide +kernel
theorem dX10_readNot_110 : decode cX10_readNot 110 = .ok (.goto (-14), 3) := by decide +kernel
theorem dX10_readNot_113 : decode cX10_readNot 113 = .ok (.return_, 1) := by decide +kernel
theorem dX10_readAnd_0 : decode cX10_readAnd 0 = .ok (.aload_n 0, 1) := by decide +kernel
theorem dX10_readAnd_1 : decode cX10_readAnd 1 = .ok (.iload_n 1, 1) := by decide +kernel
theorem dX10_readAnd_2 : decode cX10_readAnd 2 = .ok (.invokevirtual 281, 3) := by decide +kernel
theorem dX10_readAnd_5 : decode cX10_readAnd 5 = .ok (.aload_n 0, 1) := by decide +kernel
theorem dX10_readAnd_6 : decode cX10_readAnd 6 = .ok (.ldc_w 284, 3) := by decide +kernel
theorem dX10_readAnd_9 : decode cX10_readAnd 9 = .ok (.invokevirtual 230, 3) := by decide +kernel
theorem dX10_readAnd_12 : decode cX10_readAnd 12 = .ok (.ifCond .eq 21, 3) := by decide +kernel
theorem dX10_readAnd_15 : decode cX10_readAnd 15 = .ok (.aload_n 0, 1) := by decide +kernel
theorem dX10_readAnd_16 : decode cX10_readAnd 16 = .ok (.invokevirtual 241, 3) := by decide +kernel
theorem dX10_readAnd_19 : decode cX10_readAnd 19 = .ok (.aload_n 0, 1) := by decide +kernel
theorem dX10_readAnd_20 : decode cX10_readAnd 20 = .ok (.iload_n 1, 1) := by decide +kernel
theorem dX10_readAnd_21 : decode cX10_readAnd 21 = .ok (.invokevirtual 281, 3) := by decide +kernel
theorem dX10_readAnd_24 : decode cX10_readAnd 24 = .ok (.aload_n 0, 1) := by decide +kernel
theorem dX10_readAnd_25 : decode cX10_readAnd 25 = .ok (.bipush (-26), 2) := by decide +kernel
theorem dX10_readAnd_27 : decode cX10_readAnd 27 = .ok (.invokevirtual 257, 3) := by decide +kernel
theorem dX10_readAnd_30 : decode cX10_readAnd 30 = .ok (.goto (-25), 3) := by decide +kernel
theorem dX10_readAnd_33 : decode cX10_readAnd 33 = .ok (.return_, 1) := by decide +kernel
theorem dX10_readExpression_0 : decode cX10_readExpression 0 = .ok (.aload_n 0, 1) := by decide +kernel
theorem dX10_readExpression_1 : decode cX10_readExpression 1 = .ok (.getfield 216, 3) := by decide +kernel
theorem dX10_readExpression_4 : decode cX10_readExpression 4 = .ok (.ifCond .eq 4, 3) := by decide +kernel
theorem dX10_readExpression_7 : decode cX10_readExpression 7 = .ok (.return_, 1) := by decide +kernel
theorem dX10_readExpression_8 : decode cX10_readExpression 8 = .ok (.aload_n 0, 1) := by decide +kernel
theorem dX10_readExpression_9 : decode cX10_readExpression 9 = .ok (.getfield 190, 3) := by decide +kernel
theorem dX10_readExpression_12 : decode cX10_readExpression 12 = .ok (.iconst 2, 1) := by decide +kernel
theorem dX10_readExpression_13 : decode cX10_readExpression 13 = .ok (.if_icmp .eq 20, 3) := by decide +kernel
theorem dX10_readExpression_16 : decode cX10_readExpression 16 = .ok (.aload_n 0, 1) := by decide +kernel
theorem dX10_readExpression_17 : decode cX10_readExpression 17 = .ok (.getfield 190, 3) := by decide +kernel
theorem dX10_readExpression_20 : decode cX10_readExpression 20 = .ok (.iconst 1, 1) := by decide +kernel
theorem dX10_readExpression_21 : decode cX10_readExpression 21 = .ok (.if_icmp .eq 12, 3) := by decide +kernel
theorem dX10_readExpression_24 : decode cX10_readExpression 24 = .ok (.aload_n 0, 1) := by decide +kernel
theorem dX10_readExpression_25 : decode cX10_readExpression 25 = .ok (.bipush 40, 2) := by decide +kernel
theorem dX10_readExpression_27 : decode cX10_readExpression 27 = .ok (.invokevirtual 234, 3) := by decide +kernel
theorem dX10_readExpression_30 : decode cX10_readExpression 30 = .ok (.ifCond .eq 7, 3) := by decide +kernel
theorem dX10_readExpression_33 : decode cX10_readExpression 33 = .ok (.iconst 1, 1) := by decide +kernel
theorem dX10_readExpression_34 : decode cX10_readExpression 34 = .ok (.goto 4, 3) := by decide +kernel
theorem dX10_readExpression_37 : decode cX10_readExpression 37 = .ok (.iconst 0, 1) := by decide +kernel
theorem dX10_readExpression_38 : decode cX10_readExpression 38 = .ok (.istore_n 2, 1) := by decide +kernel
theorem dX10_readExpression_39 : decode cX10_readExpression 39 = .ok (.iload_n 2, 1) := by decide +kernel
theorem dX10_readExpression_40 : decode cX10_readExpression 40 = .ok (.ifCond .ne 11, 3) := by decide +kernel
theorem dX10_readExpression_43 : decode cX10_readExpression 43 = .ok (.aload_n 0, 1) := by decide +kernel
theorem dX10_readExpression_44 : decode cX10_readExpression 44 = .ok (.iconst 1, 1) := by decide +kernel
theorem dX10_readExpression_45 : decode cX10_readExpression 45 = .ok (.invokevirtual 237, 3) := by decide +kernel
theorem dX10_readExpression_48 : decode cX10_readExpression 48 = .ok (.goto 14, 3) := by decide +kernel
theorem dX10_readExpression_51 : decode cX10_readExpression 51 = .ok (.iload_n 1, 1) := by decide +kernel
theorem dX10_readExpression_52 : decode cX10_readExpression 52 = .ok (.bipush 6, 2) := by decide +kernel
theorem dX10_readExpression_54 : decode cX10_readExpression 54 = .ok (.if_icmp .ne 8, 3) := by decide +kernel
theorem dX10_readExpression_57 : decode cX10_readExpression 57 = .ok (.aload_n 0, 1) := by decide +kernel
theorem dX10_readExpression_58 : decode cX10_readExpression 58 = .ok (.iconst 2, 1) := by decide +kernel
theorem dX10_readExpression_59 : decode cX10_readExpression 59 = .ok (.invokevirtual 237, 3) := by decide +kernel
theorem dX10_readExpression_62 : decode cX10_readExpression 62 = .ok (.aload_n 0, 1) := by decide +kernel
theorem dX10_readExpression_63 : decode cX10_readExpression 63 = .ok (.iload_n 1, 1) := by decide +kernel
theorem dX10_readExpression_64 : decode cX10_readExpression 64 = .ok (.invokevirtual 286, 3) := by decide +kernel
theorem dX10_readExpression_67 : decode cX10_readExpression 67 = .ok (.aload_n 0, 1) := by decide +kernel
theorem dX10_readExpression_68 : decode cX10_readExpression 68 = .ok (.ldc_w 289, 3) := by decide +kernel
theorem dX10_readExpression_71 : decode cX10_readExpression 71 = .ok (.invokevirtual 230, 3) := by decide +kernel
theorem dX10_readExpression_74 : decode cX10_readExpression 74 = .ok (.ifCond .eq 21, 3) := by decide +kernel
theorem dX10_readExpression_77 : decode cX10_readExpression 77 = .ok (.aload_n 0, 1) := by decide +kernel
theorem dX10_readExpression_78 : decode cX10_readExpression 78 = .ok (.invokevirtual 241, 3) := by decide +kernel
theorem dX10_readExpression_81 : decode cX10_readExpression 81 = .ok (.aload_n 0, 1) := by decide +kernel
theorem dX10_readExpression_82 : decode cX10_readExpression 82 = .ok (.iload_n 1, 1) := by decide +kernel
theorem dX10_readExpression_83 : decode cX10_readExpression 83 = .ok (.invokevirtual 286, 3) := by decide +kernel
theorem dX10_readExpression_86 : decode cX10_readExpression 86 = .ok (.aload_n 0, 1) := by decide +kernel
theorem dX10_readExpression_87 : decode cX10_readExpression 87 = .ok (.bipush (-27), 2) := by decide +kernel
theorem dX10_readExpression_89 : decode cX10_readExpression 89 = .ok (.invokevirtual 257, 3) := by decide +kernel
theorem dX10_readExpression_92 : decode cX10_readExpression 92 = .ok (.goto (-25), 3) := by decide +kernel
theorem dX10_readExpression_95 : decode cX10_readExpression 95 = .ok (.return_, 1) := by decide +kernel
theorem dX10_another_0 : decode cX10_another 0 = .ok (.aload_n 0, 1) := by decide +kernel
theorem dX10_another_1 : decode cX10_another 1 = .ok (.getfield 39, 3) := by decide +kernel
theorem dX10_another_4 : decode cX10_another 4 = .ok (.iconst 5, 1) := by decide +kernel
theorem dX10_another_5 : decode cX10_another 5 = .ok (.iload_n 1, 1) := by decide +kernel
theorem dX10_another_6 : decode cX10_another 6 = .ok (.iadd, 1) := by decide +kernel
theorem dX10_another_7 : decode cX10_another 7 = .ok (.iaload, 1) := by decide +kernel
theorem dX10_another_8 : decode cX10_another 8 = .ok (.iload_n 2, 1) := by decide +kernel
theorem dX10_another_9 : decode cX10_another 9 = .ok (.if_icmp .ne 8, 3) := by decide +kernel
theorem dX10_another_12 : decode cX10_another 12 = .ok (.aload_n 0, 1) := by decide +kernel
theorem dX10_another_13 : decode cX10_another 13 = .ok (.iconst 2, 1) := by decide +kernel
theorem dX10_another_14 : decode cX10_another 14 = .ok (.invokevirtual 237, 3) := by decide +kernel
theorem dX10_another_17 : decode cX10_another 17 = .ok (.aload_n 0, 1) := by decide +kernel
theorem dX10_another_18 : decode cX10_another 18 = .ok (.getfield 216, 3) := by decide +kernel
theorem dX10_another_21 : decode cX10_another 21 = .ok (.ifCond .eq 5, 3) := by decide +kernel
theorem dX10_another_24 : decode cX10_another 24 = .ok (.iconst 0, 1) := by decide +kernel
theorem dX10_another_25 : decode cX10_another 25 = .ok (.ireturn, 1) := by decide +kernel
theorem dX10_another_26 : decode cX10_another 26 = .ok (.aload_n 0, 1) := by decide +kernel
theorem dX10_another_27 : decode cX10_another 27 = .ok (.invokevirtual 241, 3) := by decide +kernel
theorem dX10_another_30 : decode cX10_another 30 = .ok (.iconst 1, 1) := by decide +kernel
theorem dX10_another_31 : decode cX10_another 31 = .ok (.ireturn, 1) := by decide +kernel
theorem dX10_sayField_0 : decode cX10_sayField 0 = .ok (.aload_n 0, 1) := by decide +kernel
theorem dX10_sayField_1 : decode cX10_sayField 1 = .ok (.iconst 0, 1) := by decide +kernel
theorem dX10_sayField_2 : decode cX10_sayField 2 = .ok (.bipush 8, 2) := by decide +kernel
theorem dX10_sayField_4 : decode cX10_sayField 4 = .ok (.invokevirtual 291, 3) := by decide +kernel
theorem dX10_sayField_7 : decode cX10_sayField 7 = .ok (.ifCond .ne 4, 3) := by decide +kernel
theorem dX10_sayField_10 : decode cX10_sayField 10 = .ok (.return_, 1) := by decide +kernel
theorem dX10_sayField_11 : decode cX10_sayField 11 = .ok (.bipush 8, 2) := by decide +kernel
theorem dX10_sayField_13 : decode cX10_sayField 13 = .ok (.aload_n 0, 1) := by decide +kernel
theorem dX10_sayField_14 : decode cX10_sayField 14 = .ok (.getfield 39, 3) := by decide +kernel
theorem dX10_sayField_17 : decode cX10_sayField 17 = .ok (.iconst 5, 1) := by decide +kernel
theorem dX10_sayField_18 : decode cX10_sayField 18 = .ok (.iaload, 1) := by decide +kernel
theorem dX10_sayField_19 : decode cX10_sayField 19 = .ok (.iadd, 1) := by decide +kernel
theorem dX10_sayField_20 : decode cX10_sayField 20 = .ok (.istore_n 1, 1) := by decide +kernel
theorem dX10_sayField_21 : decode cX10_sayField 21 = .ok (.aload_n 0, 1) := by decide +kernel
theorem dX10_sayField_22 : decode cX10_sayField 22 = .ok (.getfield 43, 3) := by decide +kernel
theorem dX10_sayField_25 : decode cX10_sayField 25 = .ok (.iload_n 1, 1) := by decide +kernel
theorem dX10_sayField_26 : decode cX10_sayField 26 = .ok (.aload_n 0, 1) := by decide +kernel
theorem dX10_sayField_27 : decode cX10_sayField 27 = .ok (.iconst 1, 1) := by decide +kernel
theorem dX10_sayField_28 : decode cX10_sayField 28 = .ok (.bipush 99, 2) := by decide +kernel
theorem dX10_sayField_30 : decode cX10_sayField 30 = .ok (.invokevirtual 254, 3) := by decide +kernel
theorem dX10_sayField_33 : decode cX10_sayField 33 = .ok (.iastore, 1) := by decide +kernel
theorem dX10_sayField_34 : decode cX10_sayField 34 = .ok (.iconst 0, 1) := by decide +kernel
theorem dX10_sayField_35 : decode cX10_sayField 35 = .ok (.istore_n 2, 1) := by decide +kernel
theorem dX10_sayField_36 : decode cX10_sayField 36 = .ok (.aload_n 0, 1) := by decide +kernel
theorem dX10_sayField_37 : decode cX10_sayField 37 = .ok (.getfield 216, 3) := by decide +kernel
theorem dX10_sayField_40 : decode cX10_sayField 40 = .ok (.ifCond .ne 69, 3) := by decide +kernel
theorem dX10_sayField_43 : decode cX10_sayField 43 = .ok (.iload_n 2, 1) := by decide +kernel
theorem dX10_sayField_44 : decode cX10_sayField 44 = .ok (.iconst 2, 1) := by decide +kernel
theorem dX10_sayField_45 : decode cX10_sayField 45 = .ok (.if_icmp .lt 11, 3) := by decide +kernel
theorem dX10_sayField_48 : decode cX10_sayField 48 = .ok (.aload_n 0, 1) := by decide +kernel
theorem dX10_sayField_49 : decode cX10_sayField 49 = .ok (.getfield 190, 3) := by decide +kernel
theorem dX10_sayField_52 : decode cX10_sayField 52 = .ok (.iconst 2, 1) := by decide +kernel
theorem dX10_sayField_53 : decode cX10_sayField 53 = .ok (.if_icmp .ne 56, 3) := by decide +kernel
theorem dX10_sayField_56 : decode cX10_sayField 56 = .ok (.aload_n 0, 1) := by decide +kernel
theorem dX10_sayField_57 : decode cX10_sayField 57 = .ok (.getfield 190, 3) := by decide +kernel
theorem dX10_sayField_60 : decode cX10_sayField 60 = .ok (.iconst 2, 1) := by decide +kernel
theorem dX10_sayField_61 : decode cX10_sayField 61 = .ok (.if_icmp .ne 14, 3) := by decide +kernel
theorem dX10_sayField_64 : decode cX10_sayField 64 = .ok (.iload_n 2, 1) := by decide +kernel
theorem dX10_sayField_65 : decode cX10_sayField 65 = .ok (.bipush 6, 2) := by decide +kernel
theorem dX10_sayField_67 : decode cX10_sayField 67 = .ok (.if_icmp .ne 8, 3) := by decide +kernel
theorem dX10_sayField_70 : decode cX10_sayField 70 = .ok (.aload_n 0, 1) := by decide +kernel
theorem dX10_sayField_71 : decode cX10_sayField 71 = .ok (.iconst 2, 1) := by decide +kernel
theorem dX10_sayField_72 : decode cX10_sayField 72 = .ok (.invokevirtual 237, 3) := by decide +kernel
theorem dX10_sayField_75 : decode cX10_sayField 75 = .ok (.aload_n 0, 1) := by decide +kernel
theorem dX10_sayField_76 : decode cX10_sayField 76 = .ok (.iconst 0, 1) := by decide +kernel
theorem dX10_sayField_77 : decode cX10_sayField 77 = .ok (.bipush 9, 2) := by decide +kernel
theorem dX10_sayField_79 : decode cX10_sayField 79 = .ok (.invokevirtual 254, 3) := by decide +kernel
theorem dX10_sayField_82 : decode cX10_sayField 82 = .ok (.istore_n 3, 1) := by decide +kernel
theorem dX10_sayField_83 : decode cX10_sayField 83 = .ok (.aload_n 0, 1) := by decide +kernel
theorem dX10_sayField_84 : decode cX10_sayField 84 = .ok (.getfield 216, 3) := by decide +kernel
theorem dX10_sayField_87 : decode cX10_sayField 87 = .ok (.ifCond .eq 4, 3) := by decide +kernel
theorem dX10_sayField_90 : decode cX10_sayField 90 = .ok (.return_, 1) := by decide +kernel
theorem dX10_sayField_91 : decode cX10_sayField 91 = .ok (.aload_n 0, 1) := by decide +kernel
theorem dX10_sayField_92 : decode cX10_sayField 92 = .ok (.getfield 48, 3) := by decide +kernel
theorem dX10_sayField_95 : decode cX10_sayField 95 = .ok (.bipush 6, 2) := by decide +kernel
theorem dX10_sayField_97 : decode cX10_sayField 97 = .ok (.iload_n 1, 1) := by decide +kernel
theorem dX10_sayField_98 : decode cX10_sayField 98 = .ok (.imul, 1) := by decide +kernel
theorem dX10_sayField_99 : decode cX10_sayField 99 = .ok (.iload_n 2, 1) := by decide +kernel
theorem dX10_sayField_100 : decode cX10_sayField 100 = .ok (.iadd, 1) := by decide +kernel
theorem dX10_sayField_101 : decode cX10_sayField 101 = .ok (.iload_n 3, 1) := by decide +kernel
theorem dX10_sayField_102 : decode cX10_sayField 102 = .ok (.iastore, 1) := by decide +kernel
theorem dX10_sayField_103 : decode cX10_sayField 103 = .ok (.iinc 2 1, 3) := by decide +kernel
theorem dX10_sayField_106 : decode cX10_sayField 106 = .ok (.goto (-70), 3) := by decide +kernel
theorem dX10_sayField_109 : decode cX10_sayField 109 = .ok (.aload_n 0, 1) := by decide +kernel
theorem dX10_sayField_110 : decode cX10_sayField 110 = .ok (.getfield 45, 3) := by decide +kernel
theorem dX10_sayField_113 : decode cX10_sayField 113 = .ok (.iload_n 1, 1) := by decide +kernel
theorem dX10_sayField_114 : decode cX10_sayField 114 = .ok (.iload_n 2, 1) := by decide +kernel
theorem dX10_sayField_115 : decode cX10_sayField 115 = .ok (.iastore, 1) := by decide +kernel
theorem dX10_sayField_116 : decode cX10_sayField 116 = .ok (.aload_n 0, 1) := by decide +kernel
theorem dX10_sayField_117 : decode cX10_sayField 117 = .ok (.getfield 62, 3) := by decide +kernel
theorem dX10_sayField_120 : decode cX10_sayField 120 = .ok (.iload_n 1, 1) := by decide +kernel
theorem dX10_sayField_121 : decode cX10_sayField 121 = .ok (.iconst (-1), 1) := by decide +kernel
theorem dX10_sayField_122 : decode cX10_sayField 122 = .ok (.iastore, 1) := by decide +kernel
theorem dX10_sayField_123 : decode cX10_sayField 123 = .ok (.aload_n 0, 1) := by decide +kernel
theorem dX10_sayField_124 : decode cX10_sayField 124 = .ok (.getfield 39, 3) := by decide +kernel
theorem dX10_sayField_127 : decode cX10_sayField 127 = .ok (.iconst 5, 1) := by decide +kernel
theorem dX10_sayField_128 : decode cX10_sayField 128 = .ok (.dup2, 1) := by decide +kernel
theorem dX10_sayField_129 : decode cX10_sayField 129 = .ok (.iaload, 1) := by decide +kernel
theorem dX10_sayField_130 : decode cX10_sayField 130 = .ok (.iconst 1, 1) := by decide +kernel
theorem dX10_sayField_131 : decode cX10_sayField 131 = .ok (.iadd, 1) := by decide +kernel
theorem dX10_sayField_132 : decode cX10_sayField 132 = .ok (.iastore, 1) := by decide +kernel
theorem dX10_sayField_133 : decode cX10_sayField 133 = .ok (.return_, 1) := by decide +kernel
theorem dX10_sayPath_0 : decode cX10_sayPath 0 = .ok (.aload_n 0, 1) := by decide +kernel
theorem dX10_sayPath_1 : decode cX10_sayPath 1 = .ok (.iconst 1, 1) := by decide +kernel
theorem dX10_sayPath_2 : decode cX10_sayPath 2 = .ok (.bipush 14, 2) := by decide +kernel
theorem dX10_sayPath_4 : decode cX10_sayPath 4 = .ok (.invokevirtual 291, 3) := by decide +kernel
theorem dX10_sayPath_7 : decode cX10_sayPath 7 = .ok (.ifCond .ne 4, 3) := by decide +kernel
theorem dX10_sayPath_10 : decode cX10_sayPath 10 = .ok (.return_, 1) := by decide +kernel
theorem dX10_sayPath_11 : decode cX10_sayPath 11 = .ok (.aload_n 0, 1) := by decide +kernel
theorem dX10_sayPath_12 : decode cX10_sayPath 12 = .ok (.iconst 0, 1) := by decide +kernel
theorem dX10_sayPath_13 : decode cX10_sayPath 13 = .ok (.invokevirtual 295, 3) := by decide +kernel
theorem dX10_sayPath_16 : decode cX10_sayPath 16 = .ok (.istore_n 1, 1) := by decide +kernel
theorem dX10_sayPath_17 : decode cX10_sayPath 17 = .ok (.aload_n 0, 1) := by decide +kernel
theorem dX10_sayPath_18 : decode cX10_sayPath 18 = .ok (.iconst 0, 1) := by decide +kernel
theorem dX10_sayPath_19 : decode cX10_sayPath 19 = .ok (.invokevirtual 247, 3) := by decide +kernel
theorem dX10_sayPath_22 : decode cX10_sayPath 22 = .ok (.istore_n 2, 1) := by decide +kernel
theorem dX10_sayPath_23 : decode cX10_sayPath 23 = .ok (.bipush 64, 2) := by decide +kernel
theorem dX10_sayPath_25 : decode cX10_sayPath 25 = .ok (.istore_n 3, 1) := by decide +kernel
theorem dX10_sayPath_26 : decode cX10_sayPath 26 = .ok (.aload_n 0, 1) := by decide +kernel
theorem dX10_sayPath_27 : decode cX10_sayPath 27 = .ok (.getfield 216, 3) := by decide +kernel
theorem dX10_sayPath_30 : decode cX10_sayPath 30 = .ok (.ifCond .ne 29, 3) := by decide +kernel
theorem dX10_sayPath_33 : decode cX10_sayPath 33 = .ok (.iload_n 1, 1) := by decide +kernel
theorem dX10_sayPath_34 : decode cX10_sayPath 34 = .ok (.iload_n 2, 1) := by decide +kernel
theorem dX10_sayPath_35 : decode cX10_sayPath 35 = .ok (.if_icmp .eq 19, 3) := by decide +kernel
theorem dX10_sayPath_38 : decode cX10_sayPath 38 = .ok (.aload_n 0, 1) := by decide +kernel
theorem dX10_sayPath_39 : decode cX10_sayPath 39 = .ok (.getfield 50, 3) := by decide +kernel
theorem dX10_sayPath_42 : decode cX10_sayPath 42 = .ok (.iload_n 3, 1) := by decide +kernel
theorem dX10_sayPath_43 : decode cX10_sayPath 43 = .ok (.bipush 8, 2) := by decide +kernel
theorem dX10_sayPath_45 : decode cX10_sayPath 45 = .ok (.iload_n 1, 1) := by decide +kernel
theorem dX10_sayPath_46 : decode cX10_sayPath 46 = .ok (.imul, 1) := by decide +kernel
theorem dX10_sayPath_47 : decode cX10_sayPath 47 = .ok (.iadd, 1) := by decide +kernel
theorem dX10_sayPath_48 : decode cX10_sayPath 48 = .ok (.iload_n 2, 1) := by decide +kernel
theorem dX10_sayPath_49 : decode cX10_sayPath 49 = .ok (.iadd, 1) := by decide +kernel
theorem dX10_sayPath_50 : decode cX10_sayPath 50 = .ok (.iaload, 1) := by decide +kernel
theorem dX10_sayPath_51 : decode cX10_sayPath 51 = .ok (.ifCond .eq 8, 3) := by decide +kernel
theorem dX10_sayPath_54 : decode cX10_sayPath 54 = .ok (.aload_n 0, 1) := by decide +kernel
theorem dX10_sayPath_55 : decode cX10_sayPath 55 = .ok (.iconst 4, 1) := by decide +kernel
theorem dX10_sayPath_56 : decode cX10_sayPath 56 = .ok (.invokevirtual 237, 3) := by decide +kernel
theorem dX10_sayPath_59 : decode cX10_sayPath 59 = .ok (.aload_n 0, 1) := by decide +kernel
theorem dX10_sayPath_60 : decode cX10_sayPath 60 = .ok (.getfield 216, 3) := by decide +kernel
theorem dX10_sayPath_63 : decode cX10_sayPath 63 = .ok (.ifCond .ne 7, 3) := by decide +kernel
theorem dX10_sayPath_66 : decode cX10_sayPath 66 = .ok (.aload_n 0, 1) := by decide +kernel
theorem dX10_sayPath_67 : decode cX10_sayPath 67 = .ok (.invokevirtual 241, 3) := by decide +kernel
theorem dX10_sayPath_70 : decode cX10_sayPath 70 = .ok (.aload_n 0, 1) := by decide +kernel
theorem dX10_sayPath_71 : decode cX10_sayPath 71 = .ok (.iconst 1, 1) := by decide +kernel
theorem dX10_sayPath_72 : decode cX10_sayPath 72 = .ok (.bipush 20, 2) := by decide +kernel
theorem dX10_sayPath_74 : decode cX10_sayPath 74 = .ok (.invokevirtual 254, 3) := by decide +kernel
theorem dX10_sayPath_77 : decode cX10_sayPath 77 = .ok (.istore 4, 2) := by decide +kernel
theorem dX10_sayPath_79 : decode cX10_sayPath 79 = .ok (.aload_n 0, 1) := by decide +kernel
theorem dX10_sayPath_80 : decode cX10_sayPath 80 = .ok (.getfield 216, 3) := by decide +kernel
theorem dX10_sayPath_83 : decode cX10_sayPath 83 = .ok (.ifCond .eq 4, 3) := by decide +kernel
theorem dX10_sayPath_86 : decode cX10_sayPath 86 = .ok (.return_, 1) := by decide +kernel
theorem dX10_sayPath_87 : decode cX10_sayPath 87 = .ok (.aload_n 0, 1) := by decide +kernel
theorem dX10_sayPath_88 : decode cX10_sayPath 88 = .ok (.getfield 50, 3) := by decide +kernel
theorem dX10_sayPath_91 : decode cX10_sayPath 91 = .ok (.iload_n 3, 1) := by decide +kernel
theorem dX10_sayPath_92 : decode cX10_sayPath 92 = .ok (.bipush 8, 2) := by decide +kernel
theorem dX10_sayPath_94 : decode cX10_sayPath 94 = .ok (.iload_n 1, 1) := by decide +kernel
theorem dX10_sayPath_95 : decode cX10_sayPath 95 = .ok (.imul, 1) := by decide +kernel
theorem dX10_sayPath_96 : decode cX10_sayPath 96 = .ok (.iadd, 1) := by decide +kernel
theorem dX10_sayPath_97 : decode cX10_sayPath 97 = .ok (.iload_n 2, 1) := by decide +kernel
theorem dX10_sayPath_98 : decode cX10_sayPath 98 = .ok (.iadd, 1) := by decide +kernel
theorem dX10_sayPath_99 : decode cX10_sayPath 99 = .ok (.iload 4, 2) := by decide +kernel
theorem dX10_sayPath_101 : decode cX10_sayPath 101 = .ok (.iastore, 1) := by decide +kernel
theorem dX10_sayPath_102 : decode cX10_sayPath 102 = .ok (.aload_n 0, 1) := by decide +kernel
theorem dX10_sayPath_103 : decode cX10_sayPath 103 = .ok (.getfield 50, 3) := by decide +kernel
theorem dX10_sayPath_106 : decode cX10_sayPath 106 = .ok (.iload_n 3, 1) := by decide +kernel
theorem dX10_sayPath_107 : decode cX10_sayPath 107 = .ok (.bipush 8, 2) := by decide +kernel
theorem dX10_sayPath_109 : decode cX10_sayPath 109 = .ok (.iload_n 2, 1) := by decide +kernel
theorem dX10_sayPath_110 : decode cX10_sayPath 110 = .ok (.imul, 1) := by decide +kernel
theorem dX10_sayPath_111 : decode cX10_sayPath 111 = .ok (.iadd, 1) := by decide +kernel
theorem dX10_sayPath_112 : decode cX10_sayPath 112 = .ok (.iload_n 1, 1) := by decide +kernel
theorem dX10_sayPath_113 : decode cX10_sayPath 113 = .ok (.iadd, 1) := by decide +kernel
theorem dX10_sayPath_114 : decode cX10_sayPath 114 = .ok (.iload 4, 2) := by decide +kernel
theorem dX10_sayPath_116 : decode cX10_sayPath 116 = .ok (.iastore, 1) := by decide +kernel
theorem dX10_sayPath_117 : decode cX10_sayPath 117 = .ok (.aload_n 0, 1) := by decide +kernel
theorem dX10_sayPath_118 : decode cX10_sayPath 118 = .ok (.getfield 39, 3) := by decide +kernel
theorem dX10_sayPath_121 : decode cX10_sayPath 121 = .ok (.bipush 6, 2) := by decide +kernel
theorem dX10_sayPath_123 : decode cX10_sayPath 123 = .ok (.dup2, 1) := by decide +kernel
theorem dX10_sayPath_124 : decode cX10_sayPath 124 = .ok (.iaload, 1) := by decide +kernel
theorem dX10_sayPath_125 : decode cX10_sayPath 125 = .ok (.iconst 1, 1) := by decide +kernel
theorem dX10_sayPath_126 : decode cX10_sayPath 126 = .ok (.iadd, 1) := by decide +kernel
theorem dX10_sayPath_127 : decode cX10_sayPath 127 = .ok (.iastore, 1) := by decide +kernel
theorem dX10_sayPath_128 : decode cX10_sayPath 128 = .ok (.return_, 1) := by decide +kernel
theorem dX10_saySinger_0 : decode cX10_saySinger 0 = .ok (.aload_n 0, 1) := by decide +kernel
theorem dX10_saySinger_1 : decode cX10_saySinger 1 = .ok (.iconst 2, 1) := by decide +kernel
theorem dX10_saySinger_2 : decode cX10_saySinger 2 = .ok (.bipush 6, 2) := by decide +kernel
theorem dX10_saySinger_4 : decode cX10_saySinger 4 = .ok (.invokevirtual 291, 3) := by decide +kernel
theorem dX10_saySinger_7 : decode cX10_saySinger 7 = .ok (.ifCond .ne 4, 3) := by decide +kernel
theorem dX10_saySinger_10 : decode cX10_saySinger 10 = .ok (.return_, 1) := by decide +kernel
theorem dX10_saySinger_11 : decode cX10_saySinger 11 = .ok (.bipush 6, 2) := by decide +kernel
theorem dX10_saySinger_13 : decode cX10_saySinger 13 = .ok (.aload_n 0, 1) := by decide +kernel
theorem dX10_saySinger_14 : decode cX10_saySinger 14 = .ok (.getfield 39, 3) := by decide +kernel
theorem dX10_saySinger_17 : decode cX10_saySinger 17 = .ok (.bipush 7, 2) := by decide +kernel
theorem dX10_saySinger_19 : decode cX10_saySinger 19 = .ok (.iaload, 1) := by decide +kernel
theorem dX10_saySinger_20 : decode cX10_saySinger 20 = .ok (.iadd, 1) := by decide +kernel
theorem dX10_saySinger_21 : decode cX10_saySinger 21 = .ok (.istore_n 1, 1) := by decide +kernel
theorem dX10_saySinger_22 : decode cX10_saySinger 22 = .ok (.iconst 0, 1) := by decide +kernel
theorem dX10_saySinger_23 : decode cX10_saySinger 23 = .ok (.istore_n 2, 1) := by decide +kernel
theorem dX10_saySinger_24 : decode cX10_saySinger 24 = .ok (.aload_n 0, 1) := by decide +kernel
theorem dX10_saySinger_25 : decode cX10_saySinger 25 = .ok (.getfield 216, 3) := by decide +kernel
theorem dX10_saySinger_28 : decode cX10_saySinger 28 = .ok (.ifCond .ne 66, 3) := by decide +kernel
theorem dX10_saySinger_31 : decode cX10_saySinger 31 = .ok (.iload_n 2, 1) := by decide +kernel
theorem dX10_saySinger_32 : decode cX10_saySinger 32 = .ok (.ifCond .eq 11, 3) := by decide +kernel
theorem dX10_saySinger_35 : decode cX10_saySinger 35 = .ok (.aload_n 0, 1) := by decide +kernel
theorem dX10_saySinger_36 : decode cX10_saySinger 36 = .ok (.getfield 190, 3) := by decide +kernel
theorem dX10_saySinger_39 : decode cX10_saySinger 39 = .ok (.iconst 2, 1) := by decide +kernel
theorem dX10_saySinger_40 : decode cX10_saySinger 40 = .ok (.if_icmp .ne 54, 3) := by decide +kernel
theorem dX10_saySinger_43 : decode cX10_saySinger 43 = .ok (.aload_n 0, 1) := by decide +kernel
theorem dX10_saySinger_44 : decode cX10_saySinger 44 = .ok (.getfield 190, 3) := by decide +kernel
theorem dX10_saySinger_47 : decode cX10_saySinger 47 = .ok (.iconst 2, 1) := by decide +kernel
theorem dX10_saySinger_48 : decode cX10_saySinger 48 = .ok (.if_icmp .ne 14, 3) := by decide +kernel
theorem dX10_saySinger_51 : decode cX10_saySinger 51 = .ok (.iload_n 2, 1) := by decide +kernel
theorem dX10_saySinger_52 : decode cX10_saySinger 52 = .ok (.bipush 6, 2) := by decide +kernel
theorem dX10_saySinger_54 : decode cX10_saySinger 54 = .ok (.if_icmp .ne 8, 3) := by decide +kernel
theorem dX10_saySinger_57 : decode cX10_saySinger 57 = .ok (.aload_n 0, 1) := by decide +kernel
theorem dX10_saySinger_58 : decode cX10_saySinger 58 = .ok (.iconst 2, 1) := by decide +kernel
theorem dX10_saySinger_59 : decode cX10_saySinger 59 = .ok (.invokevirtual 237, 3) := by decide +kernel
theorem dX10_saySinger_62 : decode cX10_saySinger 62 = .ok (.aload_n 0, 1) := by decide +kernel
theorem dX10_saySinger_63 : decode cX10_saySinger 63 = .ok (.iconst 0, 1) := by decide +kernel
theorem dX10_saySinger_64 : decode cX10_saySinger 64 = .ok (.invokevirtual 295, 3) := by decide +kernel
theorem dX10_saySinger_67 : decode cX10_saySinger 67 = .ok (.istore_n 3, 1) := by decide +kernel
theorem dX10_saySinger_68 : decode cX10_saySinger 68 = .ok (.aload_n 0, 1) := by decide +kernel
theorem dX10_saySinger_69 : decode cX10_saySinger 69 = .ok (.getfield 216, 3) := by decide +kernel
theorem dX10_saySinger_72 : decode cX10_saySinger 72 = .ok (.ifCond .eq 4, 3) := by decide +kernel
theorem dX10_saySinger_75 : decode cX10_saySinger 75 = .ok (.return_, 1) := by decide +kernel
theorem dX10_saySinger_76 : decode cX10_saySinger 76 = .ok (.aload_n 0, 1) := by decide +kernel
theorem dX10_saySinger_77 : decode cX10_saySinger 77 = .ok (.getfield 53, 3) := by decide +kernel
theorem dX10_saySinger_80 : decode cX10_saySinger 80 = .ok (.bipush 6, 2) := by decide +kernel
theorem dX10_saySinger_82 : decode cX10_saySinger 82 = .ok (.iload_n 1, 1) := by decide +kernel
theorem dX10_saySinger_83 : decode cX10_saySinger 83 = .ok (.imul, 1) := by decide +kernel
theorem dX10_saySinger_84 : decode cX10_saySinger 84 = .ok (.iload_n 2, 1) := by decide +kernel
theorem dX10_saySinger_85 : decode cX10_saySinger 85 = .ok (.iadd, 1) := by decide +kernel
theorem dX10_saySinger_86 : decode cX10_saySinger 86 = .ok (.iload_n 3, 1) := by decide +kernel
theorem dX10_saySinger_87 : decode cX10_saySinger 87 = .ok (.iastore, 1) := by decide +kernel
theorem dX10_saySinger_88 : decode cX10_saySinger 88 = .ok (.iinc 2 1, 3) := by decide +kernel
theorem dX10_saySinger_91 : decode cX10_saySinger 91 = .ok (.goto (-67), 3) := by decide +kernel
theorem dX10_saySinger_94 : decode cX10_saySinger 94 = .ok (.aload_n 0, 1) := by decide +kernel
theorem dX10_saySinger_95 : decode cX10_saySinger 95 = .ok (.getfield 216, 3) := by decide +kernel
theorem dX10_saySinger_98 : decode cX10_saySinger 98 = .ok (.ifCond .eq 4, 3) := by decide +kernel
theorem dX10_saySinger_101 : decode cX10_saySinger 101 = .ok (.return_, 1) := by decide +kernel
theorem dX10_saySinger_102 : decode cX10_saySinger 102 = .ok (.aload_n 0, 1) := by decide +kernel
theorem dX10_saySinger_103 : decode cX10_saySinger 103 = .ok (.getfield 56, 3) := by decide +kernel
theorem dX10_saySinger_106 : decode cX10_saySinger 106 = .ok (.iload_n 1, 1) := by decide +kernel
theorem dX10_saySinger_107 : decode cX10_saySinger 107 = .ok (.iload_n 2, 1) := by decide +kernel
theorem dX10_saySinger_108 : decode cX10_saySinger 108 = .ok (.iastore, 1) := by decide +kernel
theorem dX10_saySinger_109 : decode cX10_saySinger 109 = .ok (.aload_n 0, 1) := by decide +kernel
theorem dX10_saySinger_110 : decode cX10_saySinger 110 = .ok (.getfield 59, 3) := by decide +kernel
theorem dX10_saySinger_113 : decode cX10_saySinger 113 = .ok (.iload_n 1, 1) := by decide +kernel
theorem dX10_saySinger_114 : decode cX10_saySinger 114 = .ok (.iconst 1, 1) := by decide +kernel
theorem dX10_saySinger_115 : decode cX10_saySinger 115 = .ok (.aload_n 0, 1) := by decide +kernel
theorem dX10_saySinger_116 : decode cX10_saySinger 116 = .ok (.getfield 53, 3) := by decide +kernel
theorem dX10_saySinger_119 : decode cX10_saySinger 119 = .ok (.bipush 6, 2) := by decide +kernel
theorem dX10_saySinger_121 : decode cX10_saySinger 121 = .ok (.iload_n 1, 1) := by decide +kernel
theorem dX10_saySinger_122 : decode cX10_saySinger 122 = .ok (.imul, 1) := by decide +kernel
theorem dX10_saySinger_123 : decode cX10_saySinger 123 = .ok (.iaload, 1) := by decide +kernel
theorem dX10_saySinger_124 : decode cX10_saySinger 124 = .ok (.ishl, 1) := by decide +kernel
theorem dX10_saySinger_125 : decode cX10_saySinger 125 = .ok (.iastore, 1) := by decide +kernel
theorem dX10_saySinger_126 : decode cX10_saySinger 126 = .ok (.aload_n 0, 1) := by decide +kernel
theorem dX10_saySinger_127 : decode cX10_saySinger 127 = .ok (.getfield 39, 3) := by decide +kernel
theorem dX10_saySinger_130 : decode cX10_saySinger 130 = .ok (.bipush 7, 2) := by decide +kernel
theorem dX10_saySinger_132 : decode cX10_saySinger 132 = .ok (.dup2, 1) := by decide +kernel
theorem dX10_saySinger_133 : decode cX10_saySinger 133 = .ok (.iaload, 1) := by decide +kernel
theorem dX10_saySinger_134 : decode cX10_saySinger 134 = .ok (.iconst 1, 1) := by decide +kernel
theorem dX10_saySinger_135 : decode cX10_saySinger 135 = .ok (.iadd, 1) := by decide +kernel
theorem dX10_saySinger_136 : decode cX10_saySinger 136 = .ok (.iastore, 1) := by decide +kernel
theorem dX10_saySinger_137 : decode cX10_saySinger 137 = .ok (.return_, 1) := by decide +kernel
theorem dX10_sayKnows_0 : decode cX10_sayKnows 0 = .ok (.aload_n 0, 1) := by decide +kernel
theorem dX10_sayKnows_1 : decode cX10_sayKnows 1 = .ok (.getfield 216, 3) := by decide +kernel
theorem dX10_sayKnows_4 : decode cX10_sayKnows 4 = .ok (.ifCond .ne 7, 3) := by decide +kernel
theorem dX10_sayKnows_7 : decode cX10_sayKnows 7 = .ok (.aload_n 0, 1) := by decide +kernel
theorem dX10_sayKnows_8 : decode cX10_sayKnows 8 = .ok (.invokevirtual 241, 3) := by decide +kernel
theorem dX10_sayKnows_11 : decode cX10_sayKnows 11 = .ok (.aload_n 0, 1) := by decide +kernel
theorem dX10_sayKnows_12 : decode cX10_sayKnows 12 = .ok (.iconst 2, 1) := by decide +kernel
theorem dX10_sayKnows_13 : decode cX10_sayKnows 13 = .ok (.invokevirtual 295, 3) := by decide +kernel
theorem dX10_sayKnows_16 : decode cX10_sayKnows 16 = .ok (.istore_n 1, 1) := by decide +kernel
theorem dX10_sayKnows_17 : decode cX10_sayKnows 17 = .ok (.aload_n 0, 1) := by decide +kernel
theorem dX10_sayKnows_18 : decode cX10_sayKnows 18 = .ok (.iconst 0, 1) := by decide +kernel
theorem dX10_sayKnows_19 : decode cX10_sayKnows 19 = .ok (.invokevirtual 247, 3) := by decide +kernel
theorem dX10_sayKnows_22 : decode cX10_sayKnows 22 = .ok (.istore_n 2, 1) := by decide +kernel
theorem dX10_sayKnows_23 : decode cX10_sayKnows 23 = .ok (.aload_n 0, 1) := by decide +kernel
theorem dX10_sayKnows_24 : decode cX10_sayKnows 24 = .ok (.getfield 216, 3) := by decide +kernel
theorem dX10_sayKnows_27 : decode cX10_sayKnows 27 = .ok (.ifCond .ne 24, 3) := by decide +kernel
theorem dX10_sayKnows_30 : decode cX10_sayKnows 30 = .ok (.aload_n 0, 1) := by decide +kernel
theorem dX10_sayKnows_31 : decode cX10_sayKnows 31 = .ok (.getfield 59, 3) := by decide +kernel
theorem dX10_sayKnows_34 : decode cX10_sayKnows 34 = .ok (.bipush 6, 2) := by decide +kernel
theorem dX10_sayKnows_36 : decode cX10_sayKnows 36 = .ok (.iload_n 1, 1) := by decide +kernel
theorem dX10_sayKnows_37 : decode cX10_sayKnows 37 = .ok (.iadd, 1) := by decide +kernel
theorem dX10_sayKnows_38 : decode cX10_sayKnows 38 = .ok (.iaload, 1) := by decide +kernel
theorem dX10_sayKnows_39 : decode cX10_sayKnows 39 = .ok (.iload_n 2, 1) := by decide +kernel
theorem dX10_sayKnows_40 : decode cX10_sayKnows 40 = .ok (.invokestatic 298, 3) := by decide +kernel
theorem dX10_sayKnows_43 : decode cX10_sayKnows 43 = .ok (.ifCond .eq 8, 3) := by decide +kernel
theorem dX10_sayKnows_46 : decode cX10_sayKnows 46 = .ok (.aload_n 0, 1) := by decide +kernel
theorem dX10_sayKnows_47 : decode cX10_sayKnows 47 = .ok (.iconst 4, 1) := by decide +kernel
theorem dX10_sayKnows_48 : decode cX10_sayKnows 48 = .ok (.invokevirtual 237, 3) := by decide +kernel
theorem dX10_sayKnows_51 : decode cX10_sayKnows 51 = .ok (.aload_n 0, 1) := by decide +kernel
theorem dX10_sayKnows_52 : decode cX10_sayKnows 52 = .ok (.getfield 216, 3) := by decide +kernel
theorem dX10_sayKnows_55 : decode cX10_sayKnows 55 = .ok (.ifCond .eq 4, 3) := by decide +kernel
theorem dX10_sayKnows_58 : decode cX10_sayKnows 58 = .ok (.return_, 1) := by decide +kernel
theorem dX10_sayKnows_59 : decode cX10_sayKnows 59 = .ok (.aload_n 0, 1) := by decide +kernel
theorem dX10_sayKnows_60 : decode cX10_sayKnows 60 = .ok (.invokevirtual 241, 3) := by decide +kernel
theorem dX10_sayKnows_63 : decode cX10_sayKnows 63 = .ok (.aload_n 0, 1) := by decide +kernel
theorem dX10_sayKnows_64 : decode cX10_sayKnows 64 = .ok (.getfield 59, 3) := by decide +kernel
theorem dX10_sayKnows_67 : decode cX10_sayKnows 67 = .ok (.bipush 6, 2) := by decide +kernel
theorem dX10_sayKnows_69 : decode cX10_sayKnows 69 = .ok (.iload_n 1, 1) := by decide +kernel
theorem dX10_sayKnows_70 : decode cX10_sayKnows 70 = .ok (.iadd, 1) := by decide +kernel
theorem dX10_sayKnows_71 : decode cX10_sayKnows 71 = .ok (.dup2, 1) := by decide +kernel
theorem dX10_sayKnows_72 : decode cX10_sayKnows 72 = .ok (.iaload, 1) := by decide +kernel
theorem dX10_sayKnows_73 : decode cX10_sayKnows 73 = .ok (.iconst 1, 1) := by decide +kernel
theorem dX10_sayKnows_74 : decode cX10_sayKnows 74 = .ok (.iload_n 2, 1) := by decide +kernel
theorem dX10_sayKnows_75 : decode cX10_sayKnows 75 = .ok (.ishl, 1) := by decide +kernel
theorem dX10_sayKnows_76 : decode cX10_sayKnows 76 = .ok (.ior, 1) := by decide +kernel
theorem dX10_sayKnows_77 : decode cX10_sayKnows 77 = .ok (.iastore, 1) := by decide +kernel
theorem dX10_sayKnows_78 : decode cX10_sayKnows 78 = .ok (.return_, 1) := by decide +kernel
theorem dX10_sayOwns_0 : decode cX10_sayOwns 0 = .ok (.aload_n 0, 1) := by decide +kernel
theorem dX10_sayOwns_1 : decode cX10_sayOwns 1 = .ok (.getfield 216, 3) := by decide +kernel
theorem dX10_sayOwns_4 : decode cX10_sayOwns 4 = .ok (.ifCond .ne 7, 3) := by decide +kernel
theorem dX10_sayOwns_7 : decode cX10_sayOwns 7 = .ok (.aload_n 0, 1) := by decide +kernel
theorem dX10_sayOwns_8 : decode cX10_sayOwns 8 = .ok (.invokevirtual 241, 3) := by decide +kernel
theorem dX10_sayOwns_11 : decode cX10_sayOwns 11 = .ok (.aload_n 0, 1) := by decide +kernel
theorem dX10_sayOwns_12 : decode cX10_sayOwns 12 = .ok (.iconst 2, 1) := by decide +kernel
theorem dX10_sayOwns_13 : decode cX10_sayOwns 13 = .ok (.invokevirtual 295, 3) := by decide +kernel
theorem dX10_sayOwns_16 : decode cX10_sayOwns 16 = .ok (.istore_n 1, 1) := by decide +kernel
theorem dX10_sayOwns_17 : decode cX10_sayOwns 17 = .ok (.aload_n 0, 1) := by decide +kernel
theorem dX10_sayOwns_18 : decode cX10_sayOwns 18 = .ok (.iconst 0, 1) := by decide +kernel
theorem dX10_sayOwns_19 : decode cX10_sayOwns 19 = .ok (.invokevirtual 247, 3) := by decide +kernel
theorem dX10_sayOwns_22 : decode cX10_sayOwns 22 = .ok (.istore_n 2, 1) := by decide +kernel
theorem dX10_sayOwns_23 : decode cX10_sayOwns 23 = .ok (.aload_n 0, 1) := by decide +kernel
theorem dX10_sayOwns_24 : decode cX10_sayOwns 24 = .ok (.getfield 216, 3) := by decide +kernel
theorem dX10_sayOwns_27 : decode cX10_sayOwns 27 = .ok (.ifCond .ne 21, 3) := by decide +kernel
theorem dX10_sayOwns_30 : decode cX10_sayOwns 30 = .ok (.aload_n 0, 1) := by decide +kernel
theorem dX10_sayOwns_31 : decode cX10_sayOwns 31 = .ok (.getfield 62, 3) := by decide +kernel
theorem dX10_sayOwns_34 : decode cX10_sayOwns 34 = .ok (.bipush 8, 2) := by decide +kernel
theorem dX10_sayOwns_36 : decode cX10_sayOwns 36 = .ok (.iload_n 2, 1) := by decide +kernel
theorem dX10_sayOwns_37 : decode cX10_sayOwns 37 = .ok (.iadd, 1) := by decide +kernel
theorem dX10_sayOwns_38 : decode cX10_sayOwns 38 = .ok (.iaload, 1) := by decide +kernel
theorem dX10_sayOwns_39 : decode cX10_sayOwns 39 = .ok (.iconst (-1), 1) := by decide +kernel
theorem dX10_sayOwns_40 : decode cX10_sayOwns 40 = .ok (.if_icmp .eq 8, 3) := by decide +kernel
theorem dX10_sayOwns_43 : decode cX10_sayOwns 43 = .ok (.aload_n 0, 1) := by decide +kernel
theorem dX10_sayOwns_44 : decode cX10_sayOwns 44 = .ok (.iconst 4, 1) := by decide +kernel
theorem dX10_sayOwns_45 : decode cX10_sayOwns 45 = .ok (.invokevirtual 237, 3) := by decide +kernel
theorem dX10_sayOwns_48 : decode cX10_sayOwns 48 = .ok (.aload_n 0, 1) := by decide +kernel
theorem dX10_sayOwns_49 : decode cX10_sayOwns 49 = .ok (.getfield 216, 3) := by decide +kernel
theorem dX10_sayOwns_52 : decode cX10_sayOwns 52 = .ok (.ifCond .eq 4, 3) := by decide +kernel
theorem dX10_sayOwns_55 : decode cX10_sayOwns 55 = .ok (.return_, 1) := by decide +kernel
theorem dX10_sayOwns_56 : decode cX10_sayOwns 56 = .ok (.aload_n 0, 1) := by decide +kernel
theorem dX10_sayOwns_57 : decode cX10_sayOwns 57 = .ok (.invokevirtual 241, 3) := by decide +kernel
theorem dX10_sayOwns_60 : decode cX10_sayOwns 60 = .ok (.aload_n 0, 1) := by decide +kernel
theorem dX10_sayOwns_61 : decode cX10_sayOwns 61 = .ok (.getfield 62, 3) := by decide +kernel
theorem dX10_sayOwns_64 : decode cX10_sayOwns 64 = .ok (.bipush 8, 2) := by decide +kernel
theorem dX10_sayOwns_66 : decode cX10_sayOwns 66 = .ok (.iload_n 2, 1) := by decide +kernel
theorem dX10_sayOwns_67 : decode cX10_sayOwns 67 = .ok (.iadd, 1) := by decide +kernel
theorem dX10_sayOwns_68 : decode cX10_sayOwns 68 = .ok (.iload_n 1, 1) := by decide +kernel
theorem dX10_sayOwns_69 : decode cX10_sayOwns 69 = .ok (.iastore, 1) := by decide +kernel
theorem dX10_sayOwns_70 : decode cX10_sayOwns 70 = .ok (.return_, 1) := by decide +kernel
theorem dX10_readLine_0 : decode cX10_readLine 0 = .ok (.aload_n 0, 1) := by decide +kernel
theorem dX10_readLine_1 : decode cX10_readLine 1 = .ok (.ldc_w 301, 3) := by decide +kernel
theorem dX10_readLine_4 : decode cX10_readLine 4 = .ok (.invokevirtual 230, 3) := by decide +kernel
theorem dX10_readLine_7 : decode cX10_readLine 7 = .ok (.ifCond .eq 7, 3) := by decide +kernel
theorem dX10_readLine_10 : decode cX10_readLine 10 = .ok (.iconst 1, 1) := by decide +kernel
theorem dX10_readLine_11 : decode cX10_readLine 11 = .ok (.goto 18, 3) := by decide +kernel
theorem dX10_readLine_14 : decode cX10_readLine 14 = .ok (.aload_n 0, 1) := by decide +kernel
theorem dX10_readLine_15 : decode cX10_readLine 15 = .ok (.ldc_w 303, 3) := by decide +kernel
theorem dX10_readLine_18 : decode cX10_readLine 18 = .ok (.invokevirtual 230, 3) := by decide +kernel
theorem dX10_readLine_21 : decode cX10_readLine 21 = .ok (.ifCond .eq 7, 3) := by decide +kernel
theorem dX10_readLine_24 : decode cX10_readLine 24 = .ok (.iconst 2, 1) := by decide +kernel
theorem dX10_readLine_25 : decode cX10_readLine 25 = .ok (.goto 4, 3) := by decide +kernel
theorem dX10_readLine_28 : decode cX10_readLine 28 = .ok (.iconst 0, 1) := by decide +kernel
theorem dX10_readLine_29 : decode cX10_readLine 29 = .ok (.istore_n 2, 1) := by decide +kernel
theorem dX10_readLine_30 : decode cX10_readLine 30 = .ok (.iload_n 2, 1) := by decide +kernel
theorem dX10_readLine_31 : decode cX10_readLine 31 = .ok (.iload_n 1, 1) := by decide +kernel
theorem dX10_readLine_32 : decode cX10_readLine 32 = .ok (.iand, 1) := by decide +kernel
theorem dX10_readLine_33 : decode cX10_readLine 33 = .ok (.ifCond .eq 8, 3) := by decide +kernel
theorem dX10_readLine_36 : decode cX10_readLine 36 = .ok (.aload_n 0, 1) := by decide +kernel
theorem dX10_readLine_37 : decode cX10_readLine 37 = .ok (.iconst 5, 1) := by decide +kernel
theorem dX10_readLine_38 : decode cX10_readLine 38 = .ok (.invokevirtual 237, 3) := by decide +kernel
theorem dX10_readLine_41 : decode cX10_readLine 41 = .ok (.iload_n 2, 1) := by decide +kernel
theorem dX10_readLine_42 : decode cX10_readLine 42 = .ok (.ifCond .le 58, 3) := by decide +kernel
theorem dX10_readLine_45 : decode cX10_readLine 45 = .ok (.aload_n 0, 1) := by decide +kernel
theorem dX10_readLine_46 : decode cX10_readLine 46 = .ok (.getfield 216, 3) := by decide +kernel
theorem dX10_readLine_49 : decode cX10_readLine 49 = .ok (.ifCond .ne 7, 3) := by decide +kernel
theorem dX10_readLine_52 : decode cX10_readLine 52 = .ok (.aload_n 0, 1) := by decide +kernel
theorem dX10_readLine_53 : decode cX10_readLine 53 = .ok (.invokevirtual 241, 3) := by decide +kernel
theorem dX10_readLine_56 : decode cX10_readLine 56 = .ok (.aload_n 0, 1) := by decide +kernel
theorem dX10_readLine_57 : decode cX10_readLine 57 = .ok (.iload_n 2, 1) := by decide +kernel
theorem dX10_readLine_58 : decode cX10_readLine 58 = .ok (.iconst 2, 1) := by decide +kernel
theorem dX10_readLine_59 : decode cX10_readLine 59 = .ok (.if_icmp .ne 7, 3) := by decide +kernel
theorem dX10_readLine_62 : decode cX10_readLine 62 = .ok (.iconst 1, 1) := by decide +kernel
theorem dX10_readLine_63 : decode cX10_readLine 63 = .ok (.goto 4, 3) := by decide +kernel
theorem dX10_readLine_66 : decode cX10_readLine 66 = .ok (.iconst 0, 1) := by decide +kernel
theorem dX10_readLine_67 : decode cX10_readLine 67 = .ok (.putfield 250, 3) := by decide +kernel
theorem dX10_readLine_70 : decode cX10_readLine 70 = .ok (.aload_n 0, 1) := by decide +kernel
theorem dX10_readLine_71 : decode cX10_readLine 71 = .ok (.aload_n 0, 1) := by decide +kernel
theorem dX10_readLine_72 : decode cX10_readLine 72 = .ok (.getfield 250, 3) := by decide +kernel
theorem dX10_readLine_75 : decode cX10_readLine 75 = .ok (.ifCond .eq 10, 3) := by decide +kernel
theorem dX10_readLine_78 : decode cX10_readLine 78 = .ok (.aload_n 0, 1) := by decide +kernel
theorem dX10_readLine_79 : decode cX10_readLine 79 = .ok (.getfield 33, 3) := by decide +kernel
theorem dX10_readLine_82 : decode cX10_readLine 82 = .ok (.goto 7, 3) := by decide +kernel
theorem dX10_readLine_85 : decode cX10_readLine 85 = .ok (.aload_n 0, 1) := by decide +kernel
theorem dX10_readLine_86 : decode cX10_readLine 86 = .ok (.getfield 21, 3) := by decide +kernel
theorem dX10_readLine_89 : decode cX10_readLine 89 = .ok (.putfield 36, 3) := by decide +kernel
theorem dX10_readLine_92 : decode cX10_readLine 92 = .ok (.aload_n 0, 1) := by decide +kernel
theorem dX10_readLine_93 : decode cX10_readLine 93 = .ok (.iconst 0, 1) := by decide +kernel
theorem dX10_readLine_94 : decode cX10_readLine 94 = .ok (.invokevirtual 267, 3) := by decide +kernel
theorem dX10_readLine_97 : decode cX10_readLine 97 = .ok (.goto 91, 3) := by decide +kernel
theorem dX10_readLine_100 : decode cX10_readLine 100 = .ok (.aload_n 0, 1) := by decide +kernel
theorem dX10_readLine_101 : decode cX10_readLine 101 = .ok (.ldc 15, 2) := by decide +kernel
theorem dX10_readLine_103 : decode cX10_readLine 103 = .ok (.invokevirtual 230, 3) := by decide +kernel
theorem dX10_readLine_106 : decode cX10_readLine 106 = .ok (.ifCond .eq 10, 3) := by decide +kernel
theorem dX10_readLine_109 : decode cX10_readLine 109 = .ok (.aload_n 0, 1) := by decide +kernel
theorem dX10_readLine_110 : decode cX10_readLine 110 = .ok (.invokevirtual 305, 3) := by decide +kernel
theorem dX10_readLine_113 : decode cX10_readLine 113 = .ok (.goto 75, 3) := by decide +kernel
theorem dX10_readLine_116 : decode cX10_readLine 116 = .ok (.aload_n 0, 1) := by decide +kernel
theorem dX10_readLine_117 : decode cX10_readLine 117 = .ok (.ldc_w 308, 3) := by decide +kernel
theorem dX10_readLine_120 : decode cX10_readLine 120 = .ok (.invokevirtual 230, 3) := by decide +kernel
theorem dX10_readLine_123 : decode cX10_readLine 123 = .ok (.ifCond .eq 10, 3) := by decide +kernel
theorem dX10_readLine_126 : decode cX10_readLine 126 = .ok (.aload_n 0, 1) := by decide +kernel
theorem dX10_readLine_127 : decode cX10_readLine 127 = .ok (.invokevirtual 309, 3) := by decide +kernel
theorem dX10_readLine_130 : decode cX10_readLine 130 = .ok (.goto 58, 3) := by decide +kernel
theorem dX10_readLine_133 : decode cX10_readLine 133 = .ok (.aload_n 0, 1) := by decide +kernel
theorem dX10_readLine_134 : decode cX10_readLine 134 = .ok (.ldc 13, 2) := by decide +kernel
theorem dX10_readLine_136 : decode cX10_readLine 136 = .ok (.invokevirtual 230, 3) := by decide +kernel
theorem dX10_readLine_139 : decode cX10_readLine 139 = .ok (.ifCond .eq 10, 3) := by decide +kernel
theorem dX10_readLine_142 : decode cX10_readLine 142 = .ok (.aload_n 0, 1) := by decide +kernel
theorem dX10_readLine_143 : decode cX10_readLine 143 = .ok (.invokevirtual 312, 3) := by decide +kernel
theorem dX10_readLine_146 : decode cX10_readLine 146 = .ok (.goto 42, 3) := by decide +kernel
theorem dX10_readLine_149 : decode cX10_readLine 149 = .ok (.aload_n 0, 1) := by decide +kernel
theorem dX10_readLine_150 : decode cX10_readLine 150 = .ok (.ldc_w 315, 3) := by decide +kernel
theorem dX10_readLine_153 : decode cX10_readLine 153 = .ok (.invokevirtual 230, 3) := by decide +kernel
theorem dX10_readLine_156 : decode cX10_readLine 156 = .ok (.ifCond .eq 10, 3) := by decide +kernel
theorem dX10_readLine_159 : decode cX10_readLine 159 = .ok (.aload_n 0, 1) := by decide +kernel
theorem dX10_readLine_160 : decode cX10_readLine 160 = .ok (.invokevirtual 317, 3) := by decide +kernel
theorem dX10_readLine_163 : decode cX10_readLine 163 = .ok (.goto 25, 3) := by decide +kernel
theorem dX10_readLine_166 : decode cX10_readLine 166 = .ok (.aload_n 0, 1) := by decide +kernel
theorem dX10_readLine_167 : decode cX10_readLine 167 = .ok (.ldc_w 320, 3) := by decide +kernel
theorem dX10_readLine_170 : decode cX10_readLine 170 = .ok (.invokevirtual 230, 3) := by decide +kernel
theorem dX10_readLine_173 : decode cX10_readLine 173 = .ok (.ifCond .eq 10, 3) := by decide +kernel
theorem dX10_readLine_176 : decode cX10_readLine 176 = .ok (.aload_n 0, 1) := by decide +kernel
theorem dX10_readLine_177 : decode cX10_readLine 177 = .ok (.invokevirtual 322, 3) := by decide +kernel
theorem dX10_readLine_180 : decode cX10_readLine 180 = .ok (.goto 8, 3) := by decide +kernel
theorem dX10_readLine_183 : decode cX10_readLine 183 = .ok (.aload_n 0, 1) := by decide +kernel
theorem dX10_readLine_184 : decode cX10_readLine 184 = .ok (.iconst 1, 1) := by decide +kernel
theorem dX10_readLine_185 : decode cX10_readLine 185 = .ok (.invokevirtual 237, 3) := by decide +kernel
theorem dX10_readLine_188 : decode cX10_readLine 188 = .ok (.aload_n 0, 1) := by decide +kernel
theorem dX10_readLine_189 : decode cX10_readLine 189 = .ok (.bipush 59, 2) := by decide +kernel
theorem dX10_readLine_191 : decode cX10_readLine 191 = .ok (.invokevirtual 264, 3) := by decide +kernel
theorem dX10_readLine_194 : decode cX10_readLine 194 = .ok (.iload_n 1, 1) := by decide +kernel
theorem dX10_readLine_195 : decode cX10_readLine 195 = .ok (.iload_n 2, 1) := by decide +kernel
theorem dX10_readLine_196 : decode cX10_readLine 196 = .ok (.ior, 1) := by decide +kernel
theorem dX10_readLine_197 : decode cX10_readLine 197 = .ok (.ireturn, 1) := by decide +kernel
theorem dX10_valley_0 : decode cX10_valley 0 = .ok (.aload_n 0, 1) := by decide +kernel
theorem dX10_valley_1 : decode cX10_valley 1 = .ok (.iconst 0, 1) := by decide +kernel
theorem dX10_valley_2 : decode cX10_valley 2 = .ok (.putfield 167, 3) := by decide +kernel
theorem dX10_valley_5 : decode cX10_valley 5 = .ok (.iload_n 1, 1) := by decide +kernel
theorem dX10_valley_6 : decode cX10_valley 6 = .ok (.ifCond .lt 11, 3) := by decide +kernel
theorem dX10_valley_9 : decode cX10_valley 9 = .ok (.iload_n 1, 1) := by decide +kernel
theorem dX10_valley_10 : decode cX10_valley 10 = .ok (.aload_n 0, 1) := by decide +kernel
theorem dX10_valley_11 : decode cX10_valley 11 = .ok (.getfield 174, 3) := by decide +kernel
theorem dX10_valley_14 : decode cX10_valley 14 = .ok (.if_icmp .le 9, 3) := by decide +kernel
theorem dX10_valley_17 : decode cX10_valley 17 = .ok (.aload_n 0, 1) := by decide +kernel
theorem dX10_valley_18 : decode cX10_valley 18 = .ok (.iconst 1, 1) := by decide +kernel
theorem dX10_valley_19 : decode cX10_valley 19 = .ok (.invokevirtual 325, 3) := by decide +kernel
theorem dX10_valley_22 : decode cX10_valley 22 = .ok (.ireturn, 1) := by decide +kernel
theorem dX10_valley_23 : decode cX10_valley 23 = .ok (.aload_n 0, 1) := by decide +kernel
theorem dX10_valley_24 : decode cX10_valley 24 = .ok (.iconst 0, 1) := by decide +kernel
theorem dX10_valley_25 : decode cX10_valley 25 = .ok (.putfield 174, 3) := by decide +kernel
theorem dX10_valley_28 : decode cX10_valley 28 = .ok (.aload_n 0, 1) := by decide +kernel
theorem dX10_valley_29 : decode cX10_valley 29 = .ok (.iload_n 1, 1) := by decide +kernel
theorem dX10_valley_30 : decode cX10_valley 30 = .ok (.putfield 177, 3) := by decide +kernel
theorem dX10_valley_33 : decode cX10_valley 33 = .ok (.aload_n 0, 1) := by decide +kernel
theorem dX10_valley_34 : decode cX10_valley 34 = .ok (.iconst 0, 1) := by decide +kernel
theorem dX10_valley_35 : decode cX10_valley 35 = .ok (.putfield 180, 3) := by decide +kernel
theorem dX10_valley_38 : decode cX10_valley 38 = .ok (.aload_n 0, 1) := by decide +kernel
theorem dX10_valley_39 : decode cX10_valley 39 = .ok (.iconst 0, 1) := by decide +kernel
theorem dX10_valley_40 : decode cX10_valley 40 = .ok (.putfield 216, 3) := by decide +kernel
theorem dX10_valley_43 : decode cX10_valley 43 = .ok (.aload_n 0, 1) := by decide +kernel
theorem dX10_valley_44 : decode cX10_valley 44 = .ok (.iconst (-1), 1) := by decide +kernel
theorem dX10_valley_45 : decode cX10_valley 45 = .ok (.putfield 77, 3) := by decide +kernel
theorem dX10_valley_48 : decode cX10_valley 48 = .ok (.iconst 0, 1) := by decide +kernel
theorem dX10_valley_49 : decode cX10_valley 49 = .ok (.istore_n 2, 1) := by decide +kernel
theorem dX10_valley_50 : decode cX10_valley 50 = .ok (.iload_n 2, 1) := by decide +kernel
theorem dX10_valley_51 : decode cX10_valley 51 = .ok (.iconst 5, 1) := by decide +kernel
theorem dX10_valley_52 : decode cX10_valley 52 = .ok (.if_icmp .ge 18, 3) := by decide +kernel
theorem dX10_valley_55 : decode cX10_valley 55 = .ok (.aload_n 0, 1) := by decide +kernel
theorem dX10_valley_56 : decode cX10_valley 56 = .ok (.getfield 39, 3) := by decide +kernel
theorem dX10_valley_59 : decode cX10_valley 59 = .ok (.iconst 5, 1) := by decide +kernel
theorem dX10_valley_60 : decode cX10_valley 60 = .ok (.iload_n 2, 1) := by decide +kernel
theorem dX10_valley_61 : decode cX10_valley 61 = .ok (.iadd, 1) := by decide +kernel
theorem dX10_valley_62 : decode cX10_valley 62 = .ok (.iconst 0, 1) := by decide +kernel
theorem dX10_valley_63 : decode cX10_valley 63 = .ok (.iastore, 1) := by decide +kernel
theorem dX10_valley_64 : decode cX10_valley 64 = .ok (.iinc 2 1, 3) := by decide +kernel
theorem dX10_valley_67 : decode cX10_valley 67 = .ok (.goto (-17), 3) := by decide +kernel
theorem dX10_valley_70 : decode cX10_valley 70 = .ok (.iconst 0, 1) := by decide +kernel
theorem dX10_valley_71 : decode cX10_valley 71 = .ok (.istore_n 2, 1) := by decide +kernel
theorem dX10_valley_72 : decode cX10_valley 72 = .ok (.iload_n 2, 1) := by decide +kernel
theorem dX10_valley_73 : decode cX10_valley 73 = .ok (.bipush 64, 2) := by decide +kernel
theorem dX10_valley_75 : decode cX10_valley 75 = .ok (.if_icmp .ge 19, 3) := by decide +kernel
theorem dX10_valley_78 : decode cX10_valley 78 = .ok (.aload_n 0, 1) := by decide +kernel
theorem dX10_valley_79 : decode cX10_valley 79 = .ok (.getfield 50, 3) := by decide +kernel
theorem dX10_valley_82 : decode cX10_valley 82 = .ok (.bipush 64, 2) := by decide +kernel
theorem dX10_valley_84 : decode cX10_valley 84 = .ok (.iload_n 2, 1) := by decide +kernel
theorem dX10_valley_85 : decode cX10_valley 85 = .ok (.iadd, 1) := by decide +kernel
theorem dX10_valley_86 : decode cX10_valley 86 = .ok (.iconst 0, 1) := by decide +kernel
theorem dX10_valley_87 : decode cX10_valley 87 = .ok (.iastore, 1) := by decide +kernel
theorem dX10_valley_88 : decode cX10_valley 88 = .ok (.iinc 2 1, 3) := by decide +kernel
theorem dX10_valley_91 : decode cX10_valley 91 = .ok (.goto (-19), 3) := by decide +kernel
theorem dX10_valley_94 : decode cX10_valley 94 = .ok (.aload_n 0, 1) := by decide +kernel
theorem dX10_valley_95 : decode cX10_valley 95 = .ok (.invokevirtual 241, 3) := by decide +kernel
theorem dX10_valley_98 : decode cX10_valley 98 = .ok (.iconst 0, 1) := by decide +kernel
theorem dX10_valley_99 : decode cX10_valley 99 = .ok (.istore_n 2, 1) := by decide +kernel
theorem dX10_valley_100 : decode cX10_valley 100 = .ok (.aload_n 0, 1) := by decide +kernel
theorem dX10_valley_101 : decode cX10_valley 101 = .ok (.getfield 216, 3) := by decide +kernel
theorem dX10_valley_104 : decode cX10_valley 104 = .ok (.ifCond .ne 19, 3) := by decide +kernel
theorem dX10_valley_107 : decode cX10_valley 107 = .ok (.aload_n 0, 1) := by decide +kernel
theorem dX10_valley_108 : decode cX10_valley 108 = .ok (.getfield 190, 3) := by decide +kernel
theorem dX10_valley_111 : decode cX10_valley 111 = .ok (.ifCond .eq 12, 3) := by decide +kernel
theorem dX10_valley_114 : decode cX10_valley 114 = .ok (.aload_n 0, 1) := by decide +kernel
theorem dX10_valley_115 : decode cX10_valley 115 = .ok (.iload_n 2, 1) := by decide +kernel
theorem dX10_valley_116 : decode cX10_valley 116 = .ok (.invokevirtual 328, 3) := by decide +kernel
theorem dX10_valley_119 : decode cX10_valley 119 = .ok (.istore_n 2, 1) := by decide +kernel
theorem dX10_valley_120 : decode cX10_valley 120 = .ok (.goto (-20), 3) := by decide +kernel
theorem dX10_valley_123 : decode cX10_valley 123 = .ok (.aload_n 0, 1) := by decide +kernel
theorem dX10_valley_124 : decode cX10_valley 124 = .ok (.getfield 216, 3) := by decide +kernel
theorem dX10_valley_127 : decode cX10_valley 127 = .ok (.ifCond .eq 26, 3) := by decide +kernel
theorem dX10_valley_130 : decode cX10_valley 130 = .ok (.aload_n 0, 1) := by decide +kernel
theorem dX10_valley_131 : decode cX10_valley 131 = .ok (.aload_n 0, 1) := by decide +kernel
theorem dX10_valley_132 : decode cX10_valley 132 = .ok (.getfield 219, 3) := by decide +kernel
theorem dX10_valley_135 : decode cX10_valley 135 = .ok (.putfield 77, 3) := by decide +kernel
theorem dX10_valley_138 : decode cX10_valley 138 = .ok (.aload_n 0, 1) := by decide +kernel
theorem dX10_valley_139 : decode cX10_valley 139 = .ok (.getfield 71, 3) := by decide +kernel
theorem dX10_valley_142 : decode cX10_valley 142 = .ok (.iconst 0, 1) := by decide +kernel
theorem dX10_valley_143 : decode cX10_valley 143 = .ok (.dup2, 1) := by decide +kernel
theorem dX10_valley_144 : decode cX10_valley 144 = .ok (.iaload, 1) := by decide +kernel
theorem dX10_valley_145 : decode cX10_valley 145 = .ok (.iconst 1, 1) := by decide +kernel
theorem dX10_valley_146 : decode cX10_valley 146 = .ok (.iadd, 1) := by decide +kernel
theorem dX10_valley_147 : decode cX10_valley 147 = .ok (.iastore, 1) := by decide +kernel
theorem dX10_valley_148 : decode cX10_valley 148 = .ok (.aload_n 0, 1) := by decide +kernel
theorem dX10_valley_149 : decode cX10_valley 149 = .ok (.getfield 216, 3) := by decide +kernel
theorem dX10_valley_152 : decode cX10_valley 152 = .ok (.ireturn, 1) := by decide +kernel
theorem dX10_valley_153 : decode cX10_valley 153 = .ok (.aload_n 0, 1) := by decide +kernel
theorem dX10_valley_154 : decode cX10_valley 154 = .ok (.invokevirtual 331, 3) := by decide +kernel
theorem dX10_valley_157 : decode cX10_valley 157 = .ok (.iconst 0, 1) := by decide +kernel
theorem dX10_valley_158 : decode cX10_valley 158 = .ok (.ireturn, 1) := by decide +kernel
theorem dX10_takeHalf_0 : decode cX10_takeHalf 0 = .ok (.iconst 0, 1) := by decide +kernel
theorem dX10_takeHalf_1 : decode cX10_takeHalf 1 = .ok (.istore_n 1, 1) := by decide +kernel
theorem dX10_takeHalf_2 : decode cX10_takeHalf 2 = .ok (.iload_n 1, 1) := by decide +kernel
theorem dX10_takeHalf_3 : decode cX10_takeHalf 3 = .ok (.aload_n 0, 1) := by decide +kernel
theorem dX10_takeHalf_4 : decode cX10_takeHalf 4 = .ok (.arraylength, 1) := by decide +kernel
theorem dX10_takeHalf_5 : decode cX10_takeHalf 5 = .ok (.iconst 2, 1) := by decide +kernel
theorem dX10_takeHalf_6 : decode cX10_takeHalf 6 = .ok (.idiv, 1) := by decide +kernel
theorem dX10_takeHalf_7 : decode cX10_takeHalf 7 = .ok (.if_icmp .ge 20, 3) := by decide +kernel
theorem dX10_takeHalf_10 : decode cX10_takeHalf 10 = .ok (.aload_n 0, 1) := by decide +kernel
theorem dX10_takeHalf_11 : decode cX10_takeHalf 11 = .ok (.iload_n 1, 1) := by decide +kernel
theorem dX10_takeHalf_12 : decode cX10_takeHalf 12 = .ok (.aload_n 0, 1) := by decide +kernel
theorem dX10_takeHalf_13 : decode cX10_takeHalf 13 = .ok (.aload_n 0, 1) := by decide +kernel
theorem dX10_takeHalf_14 : decode cX10_takeHalf 14 = .ok (.arraylength, 1) := by decide +kernel
theorem dX10_takeHalf_15 : decode cX10_takeHalf 15 = .ok (.iconst 2, 1) := by decide +kernel
theorem dX10_takeHalf_16 : decode cX10_takeHalf 16 = .ok (.idiv, 1) := by decide +kernel
theorem dX10_takeHalf_17 : decode cX10_takeHalf 17 = .ok (.iload_n 1, 1) := by decide +kernel
theorem dX10_takeHalf_18 : decode cX10_takeHalf 18 = .ok (.iadd, 1) := by decide +kernel
theorem dX10_takeHalf_19 : decode cX10_takeHalf 19 = .ok (.iaload, 1) := by decide +kernel
theorem dX10_takeHalf_20 : decode cX10_takeHalf 20 = .ok (.iastore, 1) := by decide +kernel
theorem dX10_takeHalf_21 : decode cX10_takeHalf 21 = .ok (.iinc 1 1, 3) := by decide +kernel
theorem dX10_takeHalf_24 : decode cX10_takeHalf 24 = .ok (.goto (-22), 3) := by decide +kernel
theorem dX10_takeHalf_27 : decode cX10_takeHalf 27 = .ok (.return_, 1) := by decide +kernel
theorem dX10_takeOver_0 : decode cX10_takeOver 0 = .ok (.aload_n 0, 1) := by decide +kernel
theorem dX10_takeOver_1 : decode cX10_takeOver 1 = .ok (.getfield 39, 3) := by decide +kernel
theorem dX10_takeOver_4 : decode cX10_takeOver 4 = .ok (.invokestatic 334, 3) := by decide +kernel
theorem dX10_takeOver_7 : decode cX10_takeOver 7 = .ok (.aload_n 0, 1) := by decide +kernel
theorem dX10_takeOver_8 : decode cX10_takeOver 8 = .ok (.getfield 43, 3) := by decide +kernel
theorem dX10_takeOver_11 : decode cX10_takeOver 11 = .ok (.invokestatic 334, 3) := by decide +kernel
theorem dX10_takeOver_14 : decode cX10_takeOver 14 = .ok (.aload_n 0, 1) := by decide +kernel
theorem dX10_takeOver_15 : decode cX10_takeOver 15 = .ok (.getfield 45, 3) := by decide +kernel
theorem dX10_takeOver_18 : decode cX10_takeOver 18 = .ok (.invokestatic 334, 3) := by decide +kernel
theorem dX10_takeOver_21 : decode cX10_takeOver 21 = .ok (.aload_n 0, 1) := by decide +kernel
theorem dX10_takeOver_22 : decode cX10_takeOver 22 = .ok (.getfield 48, 3) := by decide +kernel
theorem dX10_takeOver_25 : decode cX10_takeOver 25 = .ok (.invokestatic 334, 3) := by decide +kernel
theorem dX10_takeOver_28 : decode cX10_takeOver 28 = .ok (.aload_n 0, 1) := by decide +kernel
theorem dX10_takeOver_29 : decode cX10_takeOver 29 = .ok (.getfield 50, 3) := by decide +kernel
theorem dX10_takeOver_32 : decode cX10_takeOver 32 = .ok (.invokestatic 334, 3) := by decide +kernel
theorem dX10_takeOver_35 : decode cX10_takeOver 35 = .ok (.aload_n 0, 1) := by decide +kernel
theorem dX10_takeOver_36 : decode cX10_takeOver 36 = .ok (.getfield 53, 3) := by decide +kernel
theorem dX10_takeOver_39 : decode cX10_takeOver 39 = .ok (.invokestatic 334, 3) := by decide +kernel
theorem dX10_takeOver_42 : decode cX10_takeOver 42 = .ok (.aload_n 0, 1) := by decide +kernel
theorem dX10_takeOver_43 : decode cX10_takeOver 43 = .ok (.getfield 56, 3) := by decide +kernel
theorem dX10_takeOver_46 : decode cX10_takeOver 46 = .ok (.invokestatic 334, 3) := by decide +kernel
theorem dX10_takeOver_49 : decode cX10_takeOver 49 = .ok (.aload_n 0, 1) := by decide +kernel
theorem dX10_takeOver_50 : decode cX10_takeOver 50 = .ok (.getfield 59, 3) := by decide +kernel
theorem dX10_takeOver_53 : decode cX10_takeOver 53 = .ok (.invokestatic 334, 3) := by decide +kernel
theorem dX10_takeOver_56 : decode cX10_takeOver 56 = .ok (.aload_n 0, 1) := by decide +kernel
theorem dX10_takeOver_57 : decode cX10_takeOver 57 = .ok (.getfield 62, 3) := by decide +kernel
theorem dX10_takeOver_60 : decode cX10_takeOver 60 = .ok (.invokestatic 334, 3) := by decide +kernel
theorem dX10_takeOver_63 : decode cX10_takeOver 63 = .ok (.aload_n 0, 1) := by decide +kernel
theorem dX10_takeOver_64 : decode cX10_takeOver 64 = .ok (.getfield 65, 3) := by decide +kernel
theorem dX10_takeOver_67 : decode cX10_takeOver 67 = .ok (.invokestatic 334, 3) := by decide +kernel
theorem dX10_takeOver_70 : decode cX10_takeOver 70 = .ok (.aload_n 0, 1) := by decide +kernel
theorem dX10_takeOver_71 : decode cX10_takeOver 71 = .ok (.getfield 68, 3) := by decide +kernel
theorem dX10_takeOver_74 : decode cX10_takeOver 74 = .ok (.invokestatic 334, 3) := by decide +kernel
theorem dX10_takeOver_77 : decode cX10_takeOver 77 = .ok (.aload_n 0, 1) := by decide +kernel
theorem dX10_takeOver_78 : decode cX10_takeOver 78 = .ok (.iconst 0, 1) := by decide +kernel
theorem dX10_takeOver_79 : decode cX10_takeOver 79 = .ok (.putfield 338, 3) := by decide +kernel
theorem dX10_takeOver_82 : decode cX10_takeOver 82 = .ok (.aload_n 0, 1) := by decide +kernel
theorem dX10_takeOver_83 : decode cX10_takeOver 83 = .ok (.iconst 0, 1) := by decide +kernel
theorem dX10_takeOver_84 : decode cX10_takeOver 84 = .ok (.putfield 340, 3) := by decide +kernel
theorem dX10_takeOver_87 : decode cX10_takeOver 87 = .ok (.iconst 0, 1) := by decide +kernel
theorem dX10_takeOver_88 : decode cX10_takeOver 88 = .ok (.istore_n 1, 1) := by decide +kernel
theorem dX10_takeOver_89 : decode cX10_takeOver 89 = .ok (.iload_n 1, 1) := by decide +kernel
theorem dX10_takeOver_90 : decode cX10_takeOver 90 = .ok (.bipush 6, 2) := by decide +kernel
theorem dX10_takeOver_92 : decode cX10_takeOver 92 = .ok (.if_icmp .ge 104, 3) := by decide +kernel
theorem dX10_takeOver_95 : decode cX10_takeOver 95 = .ok (.aload_n 0, 1) := by decide +kernel
theorem dX10_takeOver_96 : decode cX10_takeOver 96 = .ok (.getfield 81, 3) := by decide +kernel
theorem dX10_takeOver_99 : decode cX10_takeOver 99 = .ok (.iload_n 1, 1) := by decide +kernel
theorem dX10_takeOver_100 : decode cX10_takeOver 100 = .ok (.iload_n 1, 1) := by decide +kernel
theorem dX10_takeOver_101 : decode cX10_takeOver 101 = .ok (.aload_n 0, 1) := by decide +kernel
theorem dX10_takeOver_102 : decode cX10_takeOver 102 = .ok (.getfield 39, 3) := by decide +kernel
theorem dX10_takeOver_105 : decode cX10_takeOver 105 = .ok (.iconst 2, 1) := by decide +kernel
theorem dX10_takeOver_106 : decode cX10_takeOver 106 = .ok (.iaload, 1) := by decide +kernel
theorem dX10_takeOver_107 : decode cX10_takeOver 107 = .ok (.if_icmp .ge 12, 3) := by decide +kernel
theorem dX10_takeOver_110 : decode cX10_takeOver 110 = .ok (.aload_n 0, 1) := by decide +kernel
theorem dX10_takeOver_111 : decode cX10_takeOver 111 = .ok (.getfield 59, 3) := by decide +kernel
theorem dX10_takeOver_114 : decode cX10_takeOver 114 = .ok (.iload_n 1, 1) := by decide +kernel
theorem dX10_takeOver_115 : decode cX10_takeOver 115 = .ok (.iaload, 1) := by decide +kernel
theorem dX10_takeOver_116 : decode cX10_takeOver 116 = .ok (.goto 4, 3) := by decide +kernel
theorem dX10_takeOver_119 : decode cX10_takeOver 119 = .ok (.iconst 0, 1) := by decide +kernel
theorem dX10_takeOver_120 : decode cX10_takeOver 120 = .ok (.iastore, 1) := by decide +kernel
theorem dX10_takeOver_121 : decode cX10_takeOver 121 = .ok (.aload_n 0, 1) := by decide +kernel
theorem dX10_takeOver_122 : decode cX10_takeOver 122 = .ok (.getfield 83, 3) := by decide +kernel
theorem dX10_takeOver_125 : decode cX10_takeOver 125 = .ok (.iload_n 1, 1) := by decide +kernel
theorem dX10_takeOver_126 : decode cX10_takeOver 126 = .ok (.iconst 0, 1) := by decide +kernel
theorem dX10_takeOver_127 : decode cX10_takeOver 127 = .ok (.iastore, 1) := by decide +kernel
theorem dX10_takeOver_128 : decode cX10_takeOver 128 = .ok (.iconst 0, 1) := by decide +kernel
theorem dX10_takeOver_129 : decode cX10_takeOver 129 = .ok (.istore_n 2, 1) := by decide +kernel
theorem dX10_takeOver_130 : decode cX10_takeOver 130 = .ok (.iload_n 2, 1) := by decide +kernel
theorem dX10_takeOver_131 : decode cX10_takeOver 131 = .ok (.bipush 8, 2) := by decide +kernel
theorem dX10_takeOver_133 : decode cX10_takeOver 133 = .ok (.if_icmp .ge 21, 3) := by decide +kernel
theorem dX10_takeOver_136 : decode cX10_takeOver 136 = .ok (.aload_n 0, 1) := by decide +kernel
theorem dX10_takeOver_137 : decode cX10_takeOver 137 = .ok (.getfield 86, 3) := by decide +kernel
theorem dX10_takeOver_140 : decode cX10_takeOver 140 = .ok (.bipush 8, 2) := by decide +kernel
theorem dX10_takeOver_142 : decode cX10_takeOver 142 = .ok (.iload_n 1, 1) := by decide +kernel
theorem dX10_takeOver_143 : decode cX10_takeOver 143 = .ok (.imul, 1) := by decide +kernel
theorem dX10_takeOver_144 : decode cX10_takeOver 144 = .ok (.iload_n 2, 1) := by decide +kernel
theorem dX10_takeOver_145 : decode cX10_takeOver 145 = .ok (.iadd, 1) := by decide +kernel
theorem dX10_takeOver_146 : decode cX10_takeOver 146 = .ok (.iconst 0, 1) := by decide +kernel
theorem dX10_takeOver_147 : decode cX10_takeOver 147 = .ok (.iastore, 1) := by decide +kernel
theorem dX10_takeOver_148 : decode cX10_takeOver 148 = .ok (.iinc 2 1, 3) := by decide +kernel
theorem dX10_takeOver_151 : decode cX10_takeOver 151 = .ok (.goto (-21), 3) := by decide +kernel
theorem dX10_takeOver_154 : decode cX10_takeOver 154 = .ok (.iconst 0, 1) := by decide +kernel
theorem dX10_takeOver_155 : decode cX10_takeOver 155 = .ok (.istore_n 2, 1) := by decide +kernel
theorem dX10_takeOver_156 : decode cX10_takeOver 156 = .ok (.iload_n 2, 1) := by decide +kernel
theorem dX10_takeOver_157 : decode cX10_takeOver 157 = .ok (.bipush 6, 2) := by decide +kernel
theorem dX10_takeOver_159 : decode cX10_takeOver 159 = .ok (.if_icmp .ge 31, 3) := by decide +kernel
theorem dX10_takeOver_162 : decode cX10_takeOver 162 = .ok (.aload_n 0, 1) := by decide +kernel
theorem dX10_takeOver_163 : decode cX10_takeOver 163 = .ok (.getfield 89, 3) := by decide +kernel
theorem dX10_takeOver_166 : decode cX10_takeOver 166 = .ok (.bipush 6, 2) := by decide +kernel
theorem dX10_takeOver_168 : decode cX10_takeOver 168 = .ok (.iload_n 1, 1) := by decide +kernel
theorem dX10_takeOver_169 : decode cX10_takeOver 169 = .ok (.imul, 1) := by decide +kernel
theorem dX10_takeOver_170 : decode cX10_takeOver 170 = .ok (.iload_n 2, 1) := by decide +kernel
theorem dX10_takeOver_171 : decode cX10_takeOver 171 = .ok (.iadd, 1) := by decide +kernel
theorem dX10_takeOver_172 : decode cX10_takeOver 172 = .ok (.aload_n 0, 1) := by decide +kernel
theorem dX10_takeOver_173 : decode cX10_takeOver 173 = .ok (.getfield 53, 3) := by decide +kernel
theorem dX10_takeOver_176 : decode cX10_takeOver 176 = .ok (.bipush 6, 2) := by decide +kernel
theorem dX10_takeOver_178 : decode cX10_takeOver 178 = .ok (.iload_n 1, 1) := by decide +kernel
theorem dX10_takeOver_179 : decode cX10_takeOver 179 = .ok (.imul, 1) := by decide +kernel
theorem dX10_takeOver_180 : decode cX10_takeOver 180 = .ok (.iload_n 2, 1) := by decide +kernel
theorem dX10_takeOver_181 : decode cX10_takeOver 181 = .ok (.iadd, 1) := by decide +kernel
theorem dX10_takeOver_182 : decode cX10_takeOver 182 = .ok (.iaload, 1) := by decide +kernel
theorem dX10_takeOver_183 : decode cX10_takeOver 183 = .ok (.iastore, 1) := by decide +kernel
theorem dX10_takeOver_184 : decode cX10_takeOver 184 = .ok (.iinc 2 1, 3) := by decide +kernel
theorem dX10_takeOver_187 : decode cX10_takeOver 187 = .ok (.goto (-31), 3) := by decide +kernel
theorem dX10_takeOver_190 : decode cX10_takeOver 190 = .ok (.iinc 1 1, 3) := by decide +kernel
theorem dX10_takeOver_193 : decode cX10_takeOver 193 = .ok (.goto (-104), 3) := by decide +kernel
theorem dX10_takeOver_196 : decode cX10_takeOver 196 = .ok (.iconst 0, 1) := by decide +kernel
theorem dX10_takeOver_197 : decode cX10_takeOver 197 = .ok (.istore_n 1, 1) := by decide +kernel
theorem dX10_takeOver_198 : decode cX10_takeOver 198 = .ok (.iload_n 1, 1) := by decide +kernel
theorem dX10_takeOver_199 : decode cX10_takeOver 199 = .ok (.bipush 8, 2) := by decide +kernel
theorem dX10_takeOver_201 : decode cX10_takeOver 201 = .ok (.if_icmp .ge 35, 3) := by decide +kernel
theorem dX10_takeOver_204 : decode cX10_takeOver 204 = .ok (.aload_n 0, 1) := by decide +kernel
theorem dX10_takeOver_205 : decode cX10_takeOver 205 = .ok (.getfield 92, 3) := by decide +kernel
theorem dX10_takeOver_208 : decode cX10_takeOver 208 = .ok (.iload_n 1, 1) := by decide +kernel
theorem dX10_takeOver_209 : decode cX10_takeOver 209 = .ok (.iload_n 1, 1) := by decide +kernel
theorem dX10_takeOver_210 : decode cX10_takeOver 210 = .ok (.aload_n 0, 1) := by decide +kernel
theorem dX10_takeOver_211 : decode cX10_takeOver 211 = .ok (.getfield 39, 3) := by decide +kernel
theorem dX10_takeOver_214 : decode cX10_takeOver 214 = .ok (.iconst 0, 1) := by decide +kernel
theorem dX10_takeOver_215 : decode cX10_takeOver 215 = .ok (.iaload, 1) := by decide +kernel
theorem dX10_takeOver_216 : decode cX10_takeOver 216 = .ok (.if_icmp .ge 12, 3) := by decide +kernel
theorem dX10_takeOver_219 : decode cX10_takeOver 219 = .ok (.aload_n 0, 1) := by decide +kernel
theorem dX10_takeOver_220 : decode cX10_takeOver 220 = .ok (.getfield 62, 3) := by decide +kernel
theorem dX10_takeOver_223 : decode cX10_takeOver 223 = .ok (.iload_n 1, 1) := by decide +kernel
theorem dX10_takeOver_224 : decode cX10_takeOver 224 = .ok (.iaload, 1) := by decide +kernel
theorem dX10_takeOver_225 : decode cX10_takeOver 225 = .ok (.goto 4, 3) := by decide +kernel
theorem dX10_takeOver_228 : decode cX10_takeOver 228 = .ok (.iconst (-1), 1) := by decide +kernel
theorem dX10_takeOver_229 : decode cX10_takeOver 229 = .ok (.iastore, 1) := by decide +kernel
theorem dX10_takeOver_230 : decode cX10_takeOver 230 = .ok (.iinc 1 1, 3) := by decide +kernel
theorem dX10_takeOver_233 : decode cX10_takeOver 233 = .ok (.goto (-35), 3) := by decide +kernel
theorem dX10_takeOver_236 : decode cX10_takeOver 236 = .ok (.aload_n 0, 1) := by decide +kernel
theorem dX10_takeOver_237 : decode cX10_takeOver 237 = .ok (.invokevirtual 343, 3) := by decide +kernel
theorem dX10_takeOver_240 : decode cX10_takeOver 240 = .ok (.aload_n 0, 1) := by decide +kernel
theorem dX10_takeOver_241 : decode cX10_takeOver 241 = .ok (.iconst 0, 1) := by decide +kernel
theorem dX10_takeOver_242 : decode cX10_takeOver 242 = .ok (.putfield 346, 3) := by decide +kernel
theorem dX10_takeOver_245 : decode cX10_takeOver 245 = .ok (.aload_n 0, 1) := by decide +kernel
theorem dX10_takeOver_246 : decode cX10_takeOver 246 = .ok (.iconst 0, 1) := by decide +kernel
theorem dX10_takeOver_247 : decode cX10_takeOver 247 = .ok (.putfield 349, 3) := by decide +kernel
theorem dX10_takeOver_250 : decode cX10_takeOver 250 = .ok (.aload_n 0, 1) := by decide +kernel
theorem dX10_takeOver_251 : decode cX10_takeOver 251 = .ok (.iconst 0, 1) := by decide +kernel
theorem dX10_takeOver_252 : decode cX10_takeOver 252 = .ok (.putfield 352, 3) := by decide +kernel
theorem dX10_takeOver_255 : decode cX10_takeOver 255 = .ok (.return_, 1) := by decide +kernel
theorem dX10_fault_0 : decode cX10_fault 0 = .ok (.aload_n 0, 1) := by decide +kernel
theorem dX10_fault_1 : decode cX10_fault 1 = .ok (.iconst 0, 1) := by decide +kernel
theorem dX10_fault_2 : decode cX10_fault 2 = .ok (.putfield 167, 3) := by decide +kernel
theorem dX10_fault_5 : decode cX10_fault 5 = .ok (.aload_n 0, 1) := by decide +kernel
theorem dX10_fault_6 : decode cX10_fault 6 = .ok (.getfield 77, 3) := by decide +kernel
theorem dX10_fault_9 : decode cX10_fault 9 = .ok (.ireturn, 1) := by decide +kernel
theorem dX10_pack_0 : decode cX10_pack 0 = .ok (.aload_n 1, 1) := by decide +kernel
theorem dX10_pack_1 : decode cX10_pack 1 = .ok (.iload_n 2, 1) := by decide +kernel
theorem dX10_pack_2 : decode cX10_pack 2 = .ok (.aload_n 0, 1) := by decide +kernel
theorem dX10_pack_3 : decode cX10_pack 3 = .ok (.getfield 338, 3) := by decide +kernel
theorem dX10_pack_6 : decode cX10_pack 6 = .ok (.iastore, 1) := by decide +kernel
theorem dX10_pack_7 : decode cX10_pack 7 = .ok (.aload_n 1, 1) := by decide +kernel
theorem dX10_pack_8 : decode cX10_pack 8 = .ok (.iload_n 2, 1) := by decide +kernel
theorem dX10_pack_9 : decode cX10_pack 9 = .ok (.iconst 1, 1) := by decide +kernel
theorem dX10_pack_10 : decode cX10_pack 10 = .ok (.iadd, 1) := by decide +kernel
theorem dX10_pack_11 : decode cX10_pack 11 = .ok (.aload_n 0, 1) := by decide +kernel
theorem dX10_pack_12 : decode cX10_pack 12 = .ok (.getfield 340, 3) := by decide +kernel
theorem dX10_pack_15 : decode cX10_pack 15 = .ok (.iastore, 1) := by decide +kernel
theorem dX10_pack_16 : decode cX10_pack 16 = .ok (.iload_n 2, 1) := by decide +kernel
theorem dX10_pack_17 : decode cX10_pack 17 = .ok (.iconst 2, 1) := by decide +kernel
theorem dX10_pack_18 : decode cX10_pack 18 = .ok (.iadd, 1) := by decide +kernel
theorem dX10_pack_19 : decode cX10_pack 19 = .ok (.istore_n 3, 1) := by decide +kernel
theorem dX10_pack_20 : decode cX10_pack 20 = .ok (.iconst 0, 1) := by decide +kernel
theorem dX10_pack_21 : decode cX10_pack 21 = .ok (.istore 4, 2) := by decide +kernel
theorem dX10_pack_23 : decode cX10_pack 23 = .ok (.iload 4, 2) := by decide +kernel
theorem dX10_pack_25 : decode cX10_pack 25 = .ok (.bipush 6, 2) := by decide +kernel
theorem dX10_pack_27 : decode cX10_pack 27 = .ok (.if_icmp .ge 38, 3) := by decide +kernel
theorem dX10_pack_30 : decode cX10_pack 30 = .ok (.aload_n 1, 1) := by decide +kernel
theorem dX10_pack_31 : decode cX10_pack 31 = .ok (.iload_n 3, 1) := by decide +kernel
theorem dX10_pack_32 : decode cX10_pack 32 = .ok (.iload 4, 2) := by decide +kernel
theorem dX10_pack_34 : decode cX10_pack 34 = .ok (.iadd, 1) := by decide +kernel
theorem dX10_pack_35 : decode cX10_pack 35 = .ok (.aload_n 0, 1) := by decide +kernel
theorem dX10_pack_36 : decode cX10_pack 36 = .ok (.getfield 81, 3) := by decide +kernel
theorem dX10_pack_39 : decode cX10_pack 39 = .ok (.iload 4, 2) := by decide +kernel
theorem dX10_pack_41 : decode cX10_pack 41 = .ok (.iaload, 1) := by decide +kernel
theorem dX10_pack_42 : decode cX10_pack 42 = .ok (.iastore, 1) := by decide +kernel
theorem dX10_pack_43 : decode cX10_pack 43 = .ok (.aload_n 1, 1) := by decide +kernel
theorem dX10_pack_44 : decode cX10_pack 44 = .ok (.iload_n 3, 1) := by decide +kernel
theorem dX10_pack_45 : decode cX10_pack 45 = .ok (.bipush 6, 2) := by decide +kernel
theorem dX10_pack_47 : decode cX10_pack 47 = .ok (.iadd, 1) := by decide +kernel
theorem dX10_pack_48 : decode cX10_pack 48 = .ok (.iload 4, 2) := by decide +kernel
theorem dX10_pack_50 : decode cX10_pack 50 = .ok (.iadd, 1) := by decide +kernel
theorem dX10_pack_51 : decode cX10_pack 51 = .ok (.aload_n 0, 1) := by decide +kernel
theorem dX10_pack_52 : decode cX10_pack 52 = .ok (.getfield 83, 3) := by decide +kernel
theorem dX10_pack_55 : decode cX10_pack 55 = .ok (.iload 4, 2) := by decide +kernel
theorem dX10_pack_57 : decode cX10_pack 57 = .ok (.iaload, 1) := by decide +kernel
theorem dX10_pack_58 : decode cX10_pack 58 = .ok (.iastore, 1) := by decide +kernel
theorem dX10_pack_59 : decode cX10_pack 59 = .ok (.iinc 4 1, 3) := by decide +kernel
theorem dX10_pack_62 : decode cX10_pack 62 = .ok (.goto (-39), 3) := by decide +kernel
theorem dX10_pack_65 : decode cX10_pack 65 = .ok (.iinc 3 12, 3) := by decide +kernel
theorem dX10_pack_68 : decode cX10_pack 68 = .ok (.iconst 0, 1) := by decide +kernel
theorem dX10_pack_69 : decode cX10_pack 69 = .ok (.istore 4, 2) := by decide +kernel
theorem dX10_pack_71 : decode cX10_pack 71 = .ok (.iload 4, 2) := by decide +kernel
theorem dX10_pack_73 : decode cX10_pack 73 = .ok (.aload_n 0, 1) := by decide +kernel
theorem dX10_pack_74 : decode cX10_pack 74 = .ok (.getfield 86, 3) := by decide +kernel
theorem dX10_pack_77 : decode cX10_pack 77 = .ok (.arraylength, 1) := by decide +kernel
theorem dX10_pack_78 : decode cX10_pack 78 = .ok (.if_icmp .ge 22, 3) := by decide +kernel
theorem dX10_pack_81 : decode cX10_pack 81 = .ok (.aload_n 1, 1) := by decide +kernel
theorem dX10_pack_82 : decode cX10_pack 82 = .ok (.iload_n 3, 1) := by decide +kernel
theorem dX10_pack_83 : decode cX10_pack 83 = .ok (.iload 4, 2) := by decide +kernel
theorem dX10_pack_85 : decode cX10_pack 85 = .ok (.iadd, 1) := by decide +kernel
theorem dX10_pack_86 : decode cX10_pack 86 = .ok (.aload_n 0, 1) := by decide +kernel
theorem dX10_pack_87 : decode cX10_pack 87 = .ok (.getfield 86, 3) := by decide +kernel
theorem dX10_pack_90 : decode cX10_pack 90 = .ok (.iload 4, 2) := by decide +kernel
theorem dX10_pack_92 : decode cX10_pack 92 = .ok (.iaload, 1) := by decide +kernel
theorem dX10_pack_93 : decode cX10_pack 93 = .ok (.iastore, 1) := by decide +kernel
theorem dX10_pack_94 : decode cX10_pack 94 = .ok (.iinc 4 1, 3) := by decide +kernel
theorem dX10_pack_97 : decode cX10_pack 97 = .ok (.goto (-26), 3) := by decide +kernel
theorem dX10_pack_100 : decode cX10_pack 100 = .ok (.iload_n 3, 1) := by decide +kernel
theorem dX10_pack_101 : decode cX10_pack 101 = .ok (.aload_n 0, 1) := by decide +kernel
theorem dX10_pack_102 : decode cX10_pack 102 = .ok (.getfield 86, 3) := by decide +kernel
theorem dX10_pack_105 : decode cX10_pack 105 = .ok (.arraylength, 1) := by decide +kernel
theorem dX10_pack_106 : decode cX10_pack 106 = .ok (.iadd, 1) := by decide +kernel
theorem dX10_pack_107 : decode cX10_pack 107 = .ok (.istore_n 3, 1) := by decide +kernel
theorem dX10_pack_108 : decode cX10_pack 108 = .ok (.iconst 0, 1) := by decide +kernel
theorem dX10_pack_109 : decode cX10_pack 109 = .ok (.istore 4, 2) := by decide +kernel
theorem dX10_pack_111 : decode cX10_pack 111 = .ok (.iload 4, 2) := by decide +kernel
theorem dX10_pack_113 : decode cX10_pack 113 = .ok (.aload_n 0, 1) := by decide +kernel
theorem dX10_pack_114 : decode cX10_pack 114 = .ok (.getfield 89, 3) := by decide +kernel
theorem dX10_pack_117 : decode cX10_pack 117 = .ok (.arraylength, 1) := by decide +kernel
theorem dX10_pack_118 : decode cX10_pack 118 = .ok (.if_icmp .ge 22, 3) := by decide +kernel
theorem dX10_pack_121 : decode cX10_pack 121 = .ok (.aload_n 1, 1) := by decide +kernel
theorem dX10_pack_122 : decode cX10_pack 122 = .ok (.iload_n 3, 1) := by decide +kernel
