theorem dX9_init_0 : decode cX9_init 0 = .ok (.aload_n 0, 1) := by decide +kernel
theorem dX9_init_1 : decode cX9_init 1 = .ok (.invokespecial 7, 3) := by decide +kernel
theorem dX9_init_4 : decode cX9_init 4 = .ok (.aload_n 0, 1) := by decide +kernel
theorem dX9_init_5 : decode cX9_init 5 = .ok (.sipush 2000, 3) := by decide +kernel
theorem dX9_init_8 : decode cX9_init 8 = .ok (.newarray .byte, 2) := by decide +kernel
theorem dX9_init_10 : decode cX9_init 10 = .ok (.putfield 13, 3) := by decide +kernel
theorem dX9_init_13 : decode cX9_init 13 = .ok (.aload_n 0, 1) := by decide +kernel
theorem dX9_init_14 : decode cX9_init 14 = .ok (.sipush 2000, 3) := by decide +kernel
theorem dX9_init_17 : decode cX9_init 17 = .ok (.newarray .byte, 2) := by decide +kernel
theorem dX9_init_19 : decode cX9_init 19 = .ok (.putfield 17, 3) := by decide +kernel
theorem dX9_init_22 : decode cX9_init 22 = .ok (.aload_n 0, 1) := by decide +kernel
theorem dX9_init_23 : decode cX9_init 23 = .ok (.sipush 403, 3) := by decide +kernel
theorem dX9_init_26 : decode cX9_init 26 = .ok (.newarray .int, 2) := by decide +kernel
theorem dX9_init_28 : decode cX9_init 28 = .ok (.putfield 20, 3) := by decide +kernel
theorem dX9_init_31 : decode cX9_init 31 = .ok (.aload_n 0, 1) := by decide +kernel
theorem dX9_init_32 : decode cX9_init 32 = .ok (.sipush 403, 3) := by decide +kernel
theorem dX9_init_35 : decode cX9_init 35 = .ok (.newarray .int, 2) := by decide +kernel
theorem dX9_init_37 : decode cX9_init 37 = .ok (.putfield 24, 3) := by decide +kernel
theorem dX9_init_40 : decode cX9_init 40 = .ok (.aload_n 0, 1) := by decide +kernel
theorem dX9_init_41 : decode cX9_init 41 = .ok (.sipush 403, 3) := by decide +kernel
theorem dX9_init_44 : decode cX9_init 44 = .ok (.newarray .int, 2) := by decide +kernel
theorem dX9_init_46 : decode cX9_init 46 = .ok (.putfield 27, 3) := by decide +kernel
theorem dX9_init_49 : decode cX9_init 49 = .ok (.aload_n 0, 1) := by decide +kernel
theorem dX9_init_50 : decode cX9_init 50 = .ok (.sipush 403, 3) := by decide +kernel
theorem dX9_init_53 : decode cX9_init 53 = .ok (.newarray .long, 2) := by decide +kernel
theorem dX9_init_55 : decode cX9_init 55 = .ok (.putfield 30, 3) := by decide +kernel
theorem dX9_init_58 : decode cX9_init 58 = .ok (.aload_n 0, 1) := by decide +kernel
theorem dX9_init_59 : decode cX9_init 59 = .ok (.bipush 25, 2) := by decide +kernel
theorem dX9_init_61 : decode cX9_init 61 = .ok (.newarray .long, 2) := by decide +kernel
theorem dX9_init_63 : decode cX9_init 63 = .ok (.putfield 34, 3) := by decide +kernel
theorem dX9_init_66 : decode cX9_init 66 = .ok (.aload_n 0, 1) := by decide +kernel
theorem dX9_init_67 : decode cX9_init 67 = .ok (.iconst (-1), 1) := by decide +kernel
theorem dX9_init_68 : decode cX9_init 68 = .ok (.putfield 37, 3) := by decide +kernel
theorem dX9_init_71 : decode cX9_init 71 = .ok (.aload_n 0, 1) := by decide +kernel
theorem dX9_init_72 : decode cX9_init 72 = .ok (.bipush 6, 2) := by decide +kernel
theorem dX9_init_74 : decode cX9_init 74 = .ok (.newarray .long, 2) := by decide +kernel
theorem dX9_init_76 : decode cX9_init 76 = .ok (.putfield 40, 3) := by decide +kernel
theorem dX9_init_79 : decode cX9_init 79 = .ok (.aload_n 0, 1) := by decide +kernel
theorem dX9_init_80 : decode cX9_init 80 = .ok (.bipush 8, 2) := by decide +kernel
theorem dX9_init_82 : decode cX9_init 82 = .ok (.newarray .int, 2) := by decide +kernel
theorem dX9_init_84 : decode cX9_init 84 = .ok (.putfield 43, 3) := by decide +kernel
theorem dX9_init_87 : decode cX9_init 87 = .ok (.aload_n 0, 1) := by decide +kernel
theorem dX9_init_88 : decode cX9_init 88 = .ok (.iconst 2, 1) := by decide +kernel
theorem dX9_init_89 : decode cX9_init 89 = .ok (.newarray .int, 2) := by decide +kernel
theorem dX9_init_91 : decode cX9_init 91 = .ok (.putfield 46, 3) := by decide +kernel
theorem dX9_init_94 : decode cX9_init 94 = .ok (.aload_n 0, 1) := by decide +kernel
theorem dX9_init_95 : decode cX9_init 95 = .ok (.bipush 12, 2) := by decide +kernel
theorem dX9_init_97 : decode cX9_init 97 = .ok (.newarray .int, 2) := by decide +kernel
theorem dX9_init_99 : decode cX9_init 99 = .ok (.putfield 49, 3) := by decide +kernel
theorem dX9_init_102 : decode cX9_init 102 = .ok (.aload_n 0, 1) := by decide +kernel
theorem dX9_init_103 : decode cX9_init 103 = .ok (.bipush 12, 2) := by decide +kernel
theorem dX9_init_105 : decode cX9_init 105 = .ok (.newarray .int, 2) := by decide +kernel
theorem dX9_init_107 : decode cX9_init 107 = .ok (.putfield 52, 3) := by decide +kernel
theorem dX9_init_110 : decode cX9_init 110 = .ok (.aload_n 0, 1) := by decide +kernel
theorem dX9_init_111 : decode cX9_init 111 = .ok (.bipush 12, 2) := by decide +kernel
theorem dX9_init_113 : decode cX9_init 113 = .ok (.newarray .int, 2) := by decide +kernel
theorem dX9_init_115 : decode cX9_init 115 = .ok (.putfield 55, 3) := by decide +kernel
theorem dX9_init_118 : decode cX9_init 118 = .ok (.aload_n 0, 1) := by decide +kernel
theorem dX9_init_119 : decode cX9_init 119 = .ok (.bipush 12, 2) := by decide +kernel
theorem dX9_init_121 : decode cX9_init 121 = .ok (.newarray .int, 2) := by decide +kernel
theorem dX9_init_123 : decode cX9_init 123 = .ok (.putfield 58, 3) := by decide +kernel
theorem dX9_init_126 : decode cX9_init 126 = .ok (.aload_n 0, 1) := by decide +kernel
theorem dX9_init_127 : decode cX9_init 127 = .ok (.bipush 12, 2) := by decide +kernel
theorem dX9_init_129 : decode cX9_init 129 = .ok (.newarray .boolean, 2) := by decide +kernel
theorem dX9_init_131 : decode cX9_init 131 = .ok (.putfield 61, 3) := by decide +kernel
theorem dX9_init_134 : decode cX9_init 134 = .ok (.aload_n 0, 1) := by decide +kernel
theorem dX9_init_135 : decode cX9_init 135 = .ok (.iconst 2, 1) := by decide +kernel
theorem dX9_init_136 : decode cX9_init 136 = .ok (.newarray .int, 2) := by decide +kernel
theorem dX9_init_138 : decode cX9_init 138 = .ok (.putfield 65, 3) := by decide +kernel
theorem dX9_init_141 : decode cX9_init 141 = .ok (.aload_n 0, 1) := by decide +kernel
theorem dX9_init_142 : decode cX9_init 142 = .ok (.iconst 2, 1) := by decide +kernel
theorem dX9_init_143 : decode cX9_init 143 = .ok (.newarray .int, 2) := by decide +kernel
theorem dX9_init_145 : decode cX9_init 145 = .ok (.putfield 68, 3) := by decide +kernel
theorem dX9_init_148 : decode cX9_init 148 = .ok (.aload_n 0, 1) := by decide +kernel
theorem dX9_init_149 : decode cX9_init 149 = .ok (.iconst 2, 1) := by decide +kernel
theorem dX9_init_150 : decode cX9_init 150 = .ok (.newarray .int, 2) := by decide +kernel
theorem dX9_init_152 : decode cX9_init 152 = .ok (.putfield 71, 3) := by decide +kernel
theorem dX9_init_155 : decode cX9_init 155 = .ok (.aload_n 0, 1) := by decide +kernel
theorem dX9_init_156 : decode cX9_init 156 = .ok (.bipush 14, 2) := by decide +kernel
theorem dX9_init_158 : decode cX9_init 158 = .ok (.newarray .int, 2) := by decide +kernel
theorem dX9_init_160 : decode cX9_init 160 = .ok (.putfield 74, 3) := by decide +kernel
theorem dX9_init_163 : decode cX9_init 163 = .ok (.aload_n 0, 1) := by decide +kernel
theorem dX9_init_164 : decode cX9_init 164 = .ok (.bipush 14, 2) := by decide +kernel
theorem dX9_init_166 : decode cX9_init 166 = .ok (.newarray .int, 2) := by decide +kernel
theorem dX9_init_168 : decode cX9_init 168 = .ok (.putfield 77, 3) := by decide +kernel
theorem dX9_init_171 : decode cX9_init 171 = .ok (.aload_n 0, 1) := by decide +kernel
theorem dX9_init_172 : decode cX9_init 172 = .ok (.sipush 260, 3) := by decide +kernel
theorem dX9_init_175 : decode cX9_init 175 = .ok (.newarray .boolean, 2) := by decide +kernel
theorem dX9_init_177 : decode cX9_init 177 = .ok (.putfield 80, 3) := by decide +kernel
theorem dX9_init_180 : decode cX9_init 180 = .ok (.aload_n 0, 1) := by decide +kernel
theorem dX9_init_181 : decode cX9_init 181 = .ok (.sipush 260, 3) := by decide +kernel
theorem dX9_init_184 : decode cX9_init 184 = .ok (.newarray .int, 2) := by decide +kernel
theorem dX9_init_186 : decode cX9_init 186 = .ok (.putfield 83, 3) := by decide +kernel
theorem dX9_init_189 : decode cX9_init 189 = .ok (.aload_n 0, 1) := by decide +kernel
theorem dX9_init_190 : decode cX9_init 190 = .ok (.sipush 260, 3) := by decide +kernel
theorem dX9_init_193 : decode cX9_init 193 = .ok (.newarray .int, 2) := by decide +kernel
theorem dX9_init_195 : decode cX9_init 195 = .ok (.putfield 86, 3) := by decide +kernel
theorem dX9_init_198 : decode cX9_init 198 = .ok (.aload_n 0, 1) := by decide +kernel
theorem dX9_init_199 : decode cX9_init 199 = .ok (.sipush 260, 3) := by decide +kernel
theorem dX9_init_202 : decode cX9_init 202 = .ok (.newarray .int, 2) := by decide +kernel
theorem dX9_init_204 : decode cX9_init 204 = .ok (.putfield 89, 3) := by decide +kernel
theorem dX9_init_207 : decode cX9_init 207 = .ok (.aload_n 0, 1) := by decide +kernel
theorem dX9_init_208 : decode cX9_init 208 = .ok (.sipush 260, 3) := by decide +kernel
theorem dX9_init_211 : decode cX9_init 211 = .ok (.newarray .int, 2) := by decide +kernel
theorem dX9_init_213 : decode cX9_init 213 = .ok (.putfield 92, 3) := by decide +kernel
theorem dX9_init_216 : decode cX9_init 216 = .ok (.aload_n 0, 1) := by decide +kernel
theorem dX9_init_217 : decode cX9_init 217 = .ok (.sipush 840, 3) := by decide +kernel
theorem dX9_init_220 : decode cX9_init 220 = .ok (.newarray .int, 2) := by decide +kernel
theorem dX9_init_222 : decode cX9_init 222 = .ok (.putfield 95, 3) := by decide +kernel
theorem dX9_init_225 : decode cX9_init 225 = .ok (.aload_n 0, 1) := by decide +kernel
theorem dX9_init_226 : decode cX9_init 226 = .ok (.sipush 840, 3) := by decide +kernel
theorem dX9_init_229 : decode cX9_init 229 = .ok (.newarray .int, 2) := by decide +kernel
theorem dX9_init_231 : decode cX9_init 231 = .ok (.putfield 98, 3) := by decide +kernel
theorem dX9_init_234 : decode cX9_init 234 = .ok (.aload_n 0, 1) := by decide +kernel
theorem dX9_init_235 : decode cX9_init 235 = .ok (.bipush 64, 2) := by decide +kernel
theorem dX9_init_237 : decode cX9_init 237 = .ok (.newarray .int, 2) := by decide +kernel
theorem dX9_init_239 : decode cX9_init 239 = .ok (.putfield 101, 3) := by decide +kernel
theorem dX9_init_242 : decode cX9_init 242 = .ok (.aload_n 0, 1) := by decide +kernel
theorem dX9_init_243 : decode cX9_init 243 = .ok (.bipush 9, 2) := by decide +kernel
theorem dX9_init_245 : decode cX9_init 245 = .ok (.newarray .int, 2) := by decide +kernel
theorem dX9_init_247 : decode cX9_init 247 = .ok (.putfield 104, 3) := by decide +kernel
theorem dX9_init_250 : decode cX9_init 250 = .ok (.aload_n 0, 1) := by decide +kernel
theorem dX9_init_251 : decode cX9_init 251 = .ok (.sipush 400, 3) := by decide +kernel
theorem dX9_init_254 : decode cX9_init 254 = .ok (.newarray .int, 2) := by decide +kernel
theorem dX9_init_256 : decode cX9_init 256 = .ok (.putfield 107, 3) := by decide +kernel
theorem dX9_init_259 : decode cX9_init 259 = .ok (.aload_n 0, 1) := by decide +kernel
theorem dX9_init_260 : decode cX9_init 260 = .ok (.bipush 60, 2) := by decide +kernel
theorem dX9_init_262 : decode cX9_init 262 = .ok (.newarray .int, 2) := by decide +kernel
theorem dX9_init_264 : decode cX9_init 264 = .ok (.putfield 110, 3) := by decide +kernel
theorem dX9_init_267 : decode cX9_init 267 = .ok (.aload_n 0, 1) := by decide +kernel
theorem dX9_init_268 : decode cX9_init 268 = .ok (.bipush 60, 2) := by decide +kernel
theorem dX9_init_270 : decode cX9_init 270 = .ok (.newarray .int, 2) := by decide +kernel
theorem dX9_init_272 : decode cX9_init 272 = .ok (.putfield 113, 3) := by decide +kernel
theorem dX9_init_275 : decode cX9_init 275 = .ok (.aload_n 0, 1) := by decide +kernel
theorem dX9_init_276 : decode cX9_init 276 = .ok (.iconst 4, 1) := by decide +kernel
theorem dX9_init_277 : decode cX9_init 277 = .ok (.newarray .int, 2) := by decide +kernel
theorem dX9_init_279 : decode cX9_init 279 = .ok (.putfield 116, 3) := by decide +kernel
theorem dX9_init_282 : decode cX9_init 282 = .ok (.aload_n 0, 1) := by decide +kernel
theorem dX9_init_283 : decode cX9_init 283 = .ok (.sipush 3000, 3) := by decide +kernel
theorem dX9_init_286 : decode cX9_init 286 = .ok (.newarray .int, 2) := by decide +kernel
theorem dX9_init_288 : decode cX9_init 288 = .ok (.putfield 119, 3) := by decide +kernel
theorem dX9_init_291 : decode cX9_init 291 = .ok (.aload_n 0, 1) := by decide +kernel
theorem dX9_init_292 : decode cX9_init 292 = .ok (.bipush 6, 2) := by decide +kernel
theorem dX9_init_294 : decode cX9_init 294 = .ok (.newarray .int, 2) := by decide +kernel
theorem dX9_init_296 : decode cX9_init 296 = .ok (.putfield 122, 3) := by decide +kernel
theorem dX9_init_299 : decode cX9_init 299 = .ok (.aload_n 0, 1) := by decide +kernel
theorem dX9_init_300 : decode cX9_init 300 = .ok (.bipush 6, 2) := by decide +kernel
theorem dX9_init_302 : decode cX9_init 302 = .ok (.newarray .int, 2) := by decide +kernel
theorem dX9_init_304 : decode cX9_init 304 = .ok (.putfield 125, 3) := by decide +kernel
theorem dX9_init_307 : decode cX9_init 307 = .ok (.aload_n 0, 1) := by decide +kernel
theorem dX9_init_308 : decode cX9_init 308 = .ok (.bipush 6, 2) := by decide +kernel
theorem dX9_init_310 : decode cX9_init 310 = .ok (.newarray .int, 2) := by decide +kernel
theorem dX9_init_312 : decode cX9_init 312 = .ok (.putfield 128, 3) := by decide +kernel
theorem dX9_init_315 : decode cX9_init 315 = .ok (.aload_n 0, 1) := by decide +kernel
theorem dX9_init_316 : decode cX9_init 316 = .ok (.bipush 6, 2) := by decide +kernel
theorem dX9_init_318 : decode cX9_init 318 = .ok (.newarray .int, 2) := by decide +kernel
theorem dX9_init_320 : decode cX9_init 320 = .ok (.putfield 131, 3) := by decide +kernel
theorem dX9_init_323 : decode cX9_init 323 = .ok (.aload_n 0, 1) := by decide +kernel
theorem dX9_init_324 : decode cX9_init 324 = .ok (.bipush 6, 2) := by decide +kernel
theorem dX9_init_326 : decode cX9_init 326 = .ok (.newarray .int, 2) := by decide +kernel
theorem dX9_init_328 : decode cX9_init 328 = .ok (.putfield 134, 3) := by decide +kernel
theorem dX9_init_331 : decode cX9_init 331 = .ok (.aload_n 0, 1) := by decide +kernel
theorem dX9_init_332 : decode cX9_init 332 = .ok (.sipush 384, 3) := by decide +kernel
theorem dX9_init_335 : decode cX9_init 335 = .ok (.newarray .int, 2) := by decide +kernel
theorem dX9_init_337 : decode cX9_init 337 = .ok (.putfield 137, 3) := by decide +kernel
theorem dX9_init_340 : decode cX9_init 340 = .ok (.aload_n 0, 1) := by decide +kernel
theorem dX9_init_341 : decode cX9_init 341 = .ok (.bipush 20, 2) := by decide +kernel
theorem dX9_init_343 : decode cX9_init 343 = .ok (.newarray .int, 2) := by decide +kernel
theorem dX9_init_345 : decode cX9_init 345 = .ok (.putfield 140, 3) := by decide +kernel
theorem dX9_init_348 : decode cX9_init 348 = .ok (.aload_n 0, 1) := by decide +kernel
theorem dX9_init_349 : decode cX9_init 349 = .ok (.bipush 20, 2) := by decide +kernel
theorem dX9_init_351 : decode cX9_init 351 = .ok (.newarray .int, 2) := by decide +kernel
theorem dX9_init_353 : decode cX9_init 353 = .ok (.putfield 143, 3) := by decide +kernel
theorem dX9_init_356 : decode cX9_init 356 = .ok (.aload_n 0, 1) := by decide +kernel
theorem dX9_init_357 : decode cX9_init 357 = .ok (.iconst 3, 1) := by decide +kernel
theorem dX9_init_358 : decode cX9_init 358 = .ok (.newarray .boolean, 2) := by decide +kernel
theorem dX9_init_360 : decode cX9_init 360 = .ok (.putfield 146, 3) := by decide +kernel
theorem dX9_init_363 : decode cX9_init 363 = .ok (.aload_n 0, 1) := by decide +kernel
theorem dX9_init_364 : decode cX9_init 364 = .ok (.sipush 180, 3) := by decide +kernel
theorem dX9_init_367 : decode cX9_init 367 = .ok (.newarray .int, 2) := by decide +kernel
theorem dX9_init_369 : decode cX9_init 369 = .ok (.putfield 149, 3) := by decide +kernel
theorem dX9_init_372 : decode cX9_init 372 = .ok (.aload_n 0, 1) := by decide +kernel
theorem dX9_init_373 : decode cX9_init 373 = .ok (.iconst 0, 1) := by decide +kernel
theorem dX9_init_374 : decode cX9_init 374 = .ok (.invokevirtual 152, 3) := by decide +kernel
theorem dX9_init_377 : decode cX9_init 377 = .ok (.aload_n 0, 1) := by decide +kernel
theorem dX9_init_378 : decode cX9_init 378 = .ok (.getfield 34, 3) := by decide +kernel
theorem dX9_init_381 : decode cX9_init 381 = .ok (.iconst 0, 1) := by decide +kernel
theorem dX9_init_382 : decode cX9_init 382 = .ok (.bipush 98, 2) := by decide +kernel
theorem dX9_init_384 : decode cX9_init 384 = .ok (.bipush 97, 2) := by decide +kernel
theorem dX9_init_386 : decode cX9_init 386 = .ok (.bipush 98, 2) := by decide +kernel
theorem dX9_init_388 : decode cX9_init 388 = .ok (.bipush 121, 2) := by decide +kernel
theorem dX9_init_390 : decode cX9_init 390 = .ok (.iconst 0, 1) := by decide +kernel
theorem dX9_init_391 : decode cX9_init 391 = .ok (.iconst 0, 1) := by decide +kernel
theorem dX9_init_392 : decode cX9_init 392 = .ok (.iconst 0, 1) := by decide +kernel
theorem dX9_init_393 : decode cX9_init 393 = .ok (.invokestatic 156, 3) := by decide +kernel
theorem dX9_init_396 : decode cX9_init 396 = .ok (.lastore, 1) := by decide +kernel
theorem dX9_init_397 : decode cX9_init 397 = .ok (.aload_n 0, 1) := by decide +kernel
theorem dX9_init_398 : decode cX9_init 398 = .ok (.getfield 34, 3) := by decide +kernel
theorem dX9_init_401 : decode cX9_init 401 = .ok (.iconst 1, 1) := by decide +kernel
theorem dX9_init_402 : decode cX9_init 402 = .ok (.bipush 97, 2) := by decide +kernel
theorem dX9_init_404 : decode cX9_init 404 = .ok (.bipush 117, 2) := by decide +kernel
theorem dX9_init_406 : decode cX9_init 406 = .ok (.bipush 110, 2) := by decide +kernel
theorem dX9_init_408 : decode cX9_init 408 = .ok (.bipush 116, 2) := by decide +kernel
theorem dX9_init_410 : decode cX9_init 410 = .ok (.iconst 0, 1) := by decide +kernel
theorem dX9_init_411 : decode cX9_init 411 = .ok (.iconst 0, 1) := by decide +kernel
theorem dX9_init_412 : decode cX9_init 412 = .ok (.iconst 0, 1) := by decide +kernel
theorem dX9_init_413 : decode cX9_init 413 = .ok (.invokestatic 156, 3) := by decide +kernel
theorem dX9_init_416 : decode cX9_init 416 = .ok (.lastore, 1) := by decide +kernel
theorem dX9_init_417 : decode cX9_init 417 = .ok (.aload_n 0, 1) := by decide +kernel
theorem dX9_init_418 : decode cX9_init 418 = .ok (.getfield 34, 3) := by decide +kernel
theorem dX9_init_421 : decode cX9_init 421 = .ok (.iconst 2, 1) := by decide +kernel
theorem dX9_init_422 : decode cX9_init 422 = .ok (.bipush 115, 2) := by decide +kernel
theorem dX9_init_424 : decode cX9_init 424 = .ok (.bipush 105, 2) := by decide +kernel
theorem dX9_init_426 : decode cX9_init 426 = .ok (.bipush 116, 2) := by decide +kernel
theorem dX9_init_428 : decode cX9_init 428 = .ok (.bipush 115, 2) := by decide +kernel
theorem dX9_init_430 : decode cX9_init 430 = .ok (.iconst 0, 1) := by decide +kernel
theorem dX9_init_431 : decode cX9_init 431 = .ok (.iconst 0, 1) := by decide +kernel
theorem dX9_init_432 : decode cX9_init 432 = .ok (.iconst 0, 1) := by decide +kernel
theorem dX9_init_433 : decode cX9_init 433 = .ok (.invokestatic 156, 3) := by decide +kernel
theorem dX9_init_436 : decode cX9_init 436 = .ok (.lastore, 1) := by decide +kernel
theorem dX9_init_437 : decode cX9_init 437 = .ok (.aload_n 0, 1) := by decide +kernel
theorem dX9_init_438 : decode cX9_init 438 = .ok (.getfield 34, 3) := by decide +kernel
theorem dX9_init_441 : decode cX9_init 441 = .ok (.iconst 3, 1) := by decide +kernel
theorem dX9_init_442 : decode cX9_init 442 = .ok (.bipush 104, 2) := by decide +kernel
theorem dX9_init_444 : decode cX9_init 444 = .ok (.bipush 117, 2) := by decide +kernel
theorem dX9_init_446 : decode cX9_init 446 = .ok (.bipush 110, 2) := by decide +kernel
theorem dX9_init_448 : decode cX9_init 448 = .ok (.bipush 103, 2) := by decide +kernel
theorem dX9_init_450 : decode cX9_init 450 = .ok (.bipush 101, 2) := by decide +kernel
theorem dX9_init_452 : decode cX9_init 452 = .ok (.bipush 114, 2) := by decide +kernel
theorem dX9_init_454 : decode cX9_init 454 = .ok (.bipush 115, 2) := by decide +kernel
theorem dX9_init_456 : decode cX9_init 456 = .ok (.invokestatic 156, 3) := by decide +kernel
theorem dX9_init_459 : decode cX9_init 459 = .ok (.lastore, 1) := by decide +kernel
theorem dX9_init_460 : decode cX9_init 460 = .ok (.aload_n 0, 1) := by decide +kernel
theorem dX9_init_461 : decode cX9_init 461 = .ok (.getfield 34, 3) := by decide +kernel
theorem dX9_init_464 : decode cX9_init 464 = .ok (.iconst 4, 1) := by decide +kernel
theorem dX9_init_465 : decode cX9_init 465 = .ok (.bipush 116, 2) := by decide +kernel
theorem dX9_init_467 : decode cX9_init 467 = .ok (.bipush 105, 2) := by decide +kernel
theorem dX9_init_469 : decode cX9_init 469 = .ok (.bipush 114, 2) := by decide +kernel
theorem dX9_init_471 : decode cX9_init 471 = .ok (.bipush 101, 2) := by decide +kernel
theorem dX9_init_473 : decode cX9_init 473 = .ok (.bipush 115, 2) := by decide +kernel
theorem dX9_init_475 : decode cX9_init 475 = .ok (.iconst 0, 1) := by decide +kernel
theorem dX9_init_476 : decode cX9_init 476 = .ok (.iconst 0, 1) := by decide +kernel
theorem dX9_init_477 : decode cX9_init 477 = .ok (.invokestatic 156, 3) := by decide +kernel
theorem dX9_init_480 : decode cX9_init 480 = .ok (.lastore, 1) := by decide +kernel
theorem dX9_init_481 : decode cX9_init 481 = .ok (.aload_n 0, 1) := by decide +kernel
theorem dX9_init_482 : decode cX9_init 482 = .ok (.getfield 34, 3) := by decide +kernel
theorem dX9_init_485 : decode cX9_init 485 = .ok (.iconst 5, 1) := by decide +kernel
theorem dX9_init_486 : decode cX9_init 486 = .ok (.bipush 119, 2) := by decide +kernel
theorem dX9_init_488 : decode cX9_init 488 = .ok (.bipush 111, 2) := by decide +kernel
theorem dX9_init_490 : decode cX9_init 490 = .ok (.bipush 110, 2) := by decide +kernel
theorem dX9_init_492 : decode cX9_init 492 = .ok (.bipush 100, 2) := by decide +kernel
theorem dX9_init_494 : decode cX9_init 494 = .ok (.bipush 101, 2) := by decide +kernel
theorem dX9_init_496 : decode cX9_init 496 = .ok (.bipush 114, 2) := by decide +kernel
theorem dX9_init_498 : decode cX9_init 498 = .ok (.bipush 115, 2) := by decide +kernel
theorem dX9_init_500 : decode cX9_init 500 = .ok (.invokestatic 156, 3) := by decide +kernel
theorem dX9_init_503 : decode cX9_init 503 = .ok (.lastore, 1) := by decide +kernel
theorem dX9_init_504 : decode cX9_init 504 = .ok (.aload_n 0, 1) := by decide +kernel
theorem dX9_init_505 : decode cX9_init 505 = .ok (.getfield 34, 3) := by decide +kernel
theorem dX9_init_508 : decode cX9_init 508 = .ok (.bipush 6, 2) := by decide +kernel
theorem dX9_init_510 : decode cX9_init 510 = .ok (.bipush 119, 2) := by decide +kernel
theorem dX9_init_512 : decode cX9_init 512 = .ok (.bipush 105, 2) := by decide +kernel
theorem dX9_init_514 : decode cX9_init 514 = .ok (.bipush 110, 2) := by decide +kernel
theorem dX9_init_516 : decode cX9_init 516 = .ok (.bipush 100, 2) := by decide +kernel
theorem dX9_init_518 : decode cX9_init 518 = .ok (.bipush 115, 2) := by decide +kernel
theorem dX9_init_520 : decode cX9_init 520 = .ok (.iconst 0, 1) := by decide +kernel
theorem dX9_init_521 : decode cX9_init 521 = .ok (.iconst 0, 1) := by decide +kernel
theorem dX9_init_522 : decode cX9_init 522 = .ok (.invokestatic 156, 3) := by decide +kernel
theorem dX9_init_525 : decode cX9_init 525 = .ok (.lastore, 1) := by decide +kernel
theorem dX9_init_526 : decode cX9_init 526 = .ok (.aload_n 0, 1) := by decide +kernel
theorem dX9_init_527 : decode cX9_init 527 = .ok (.getfield 34, 3) := by decide +kernel
theorem dX9_init_530 : decode cX9_init 530 = .ok (.bipush 7, 2) := by decide +kernel
theorem dX9_init_532 : decode cX9_init 532 = .ok (.bipush 99, 2) := by decide +kernel
theorem dX9_init_534 : decode cX9_init 534 = .ok (.bipush 114, 2) := by decide +kernel
theorem dX9_init_536 : decode cX9_init 536 = .ok (.bipush 105, 2) := by decide +kernel
theorem dX9_init_538 : decode cX9_init 538 = .ok (.bipush 101, 2) := by decide +kernel
theorem dX9_init_540 : decode cX9_init 540 = .ok (.bipush 115, 2) := by decide +kernel
theorem dX9_init_542 : decode cX9_init 542 = .ok (.iconst 0, 1) := by decide +kernel
theorem dX9_init_543 : decode cX9_init 543 = .ok (.iconst 0, 1) := by decide +kernel
theorem dX9_init_544 : decode cX9_init 544 = .ok (.invokestatic 156, 3) := by decide +kernel
theorem dX9_init_547 : decode cX9_init 547 = .ok (.lastore, 1) := by decide +kernel
theorem dX9_init_548 : decode cX9_init 548 = .ok (.aload_n 0, 1) := by decide +kernel
theorem dX9_init_549 : decode cX9_init 549 = .ok (.getfield 34, 3) := by decide +kernel
theorem dX9_init_552 : decode cX9_init 552 = .ok (.bipush 8, 2) := by decide +kernel
theorem dX9_init_554 : decode cX9_init 554 = .ok (.bipush 115, 2) := by decide +kernel
theorem dX9_init_556 : decode cX9_init 556 = .ok (.bipush 108, 2) := by decide +kernel
theorem dX9_init_558 : decode cX9_init 558 = .ok (.bipush 101, 2) := by decide +kernel
theorem dX9_init_560 : decode cX9_init 560 = .ok (.bipush 101, 2) := by decide +kernel
theorem dX9_init_562 : decode cX9_init 562 = .ok (.bipush 112, 2) := by decide +kernel
theorem dX9_init_564 : decode cX9_init 564 = .ok (.bipush 115, 2) := by decide +kernel
theorem dX9_init_566 : decode cX9_init 566 = .ok (.iconst 0, 1) := by decide +kernel
theorem dX9_init_567 : decode cX9_init 567 = .ok (.invokestatic 156, 3) := by decide +kernel
theorem dX9_init_570 : decode cX9_init 570 = .ok (.lastore, 1) := by decide +kernel
theorem dX9_init_571 : decode cX9_init 571 = .ok (.aload_n 0, 1) := by decide +kernel
theorem dX9_init_572 : decode cX9_init 572 = .ok (.getfield 34, 3) := by decide +kernel
theorem dX9_init_575 : decode cX9_init 575 = .ok (.bipush 9, 2) := by decide +kernel
theorem dX9_init_577 : decode cX9_init 577 = .ok (.bipush 115, 2) := by decide +kernel
theorem dX9_init_579 : decode cX9_init 579 = .ok (.bipush 112, 2) := by decide +kernel
theorem dX9_init_581 : decode cX9_init 581 = .ok (.bipush 105, 2) := by decide +kernel
theorem dX9_init_583 : decode cX9_init 583 = .ok (.bipush 116, 2) := by decide +kernel
theorem dX9_init_585 : decode cX9_init 585 = .ok (.bipush 115, 2) := by decide +kernel
theorem dX9_init_587 : decode cX9_init 587 = .ok (.iconst 0, 1) := by decide +kernel
theorem dX9_init_588 : decode cX9_init 588 = .ok (.iconst 0, 1) := by decide +kernel
theorem dX9_init_589 : decode cX9_init 589 = .ok (.invokestatic 156, 3) := by decide +kernel
theorem dX9_init_592 : decode cX9_init 592 = .ok (.lastore, 1) := by decide +kernel
theorem dX9_init_593 : decode cX9_init 593 = .ok (.aload_n 0, 1) := by decide +kernel
theorem dX9_init_594 : decode cX9_init 594 = .ok (.getfield 34, 3) := by decide +kernel
theorem dX9_init_597 : decode cX9_init 597 = .ok (.bipush 10, 2) := by decide +kernel
theorem dX9_init_599 : decode cX9_init 599 = .ok (.bipush 102, 2) := by decide +kernel
theorem dX9_init_601 : decode cX9_init 601 = .ok (.bipush 114, 2) := by decide +kernel
theorem dX9_init_603 : decode cX9_init 603 = .ok (.bipush 101, 2) := by decide +kernel
theorem dX9_init_605 : decode cX9_init 605 = .ok (.bipush 115, 2) := by decide +kernel
theorem dX9_init_607 : decode cX9_init 607 = .ok (.bipush 104, 2) := by decide +kernel
theorem dX9_init_609 : decode cX9_init 609 = .ok (.iconst 0, 1) := by decide +kernel
theorem dX9_init_610 : decode cX9_init 610 = .ok (.iconst 0, 1) := by decide +kernel
theorem dX9_init_611 : decode cX9_init 611 = .ok (.invokestatic 156, 3) := by decide +kernel
theorem dX9_init_614 : decode cX9_init 614 = .ok (.lastore, 1) := by decide +kernel
theorem dX9_init_615 : decode cX9_init 615 = .ok (.aload_n 0, 1) := by decide +kernel
theorem dX9_init_616 : decode cX9_init 616 = .ok (.getfield 34, 3) := by decide +kernel
theorem dX9_init_619 : decode cX9_init 619 = .ok (.bipush 11, 2) := by decide +kernel
theorem dX9_init_621 : decode cX9_init 621 = .ok (.bipush 102, 2) := by decide +kernel
theorem dX9_init_623 : decode cX9_init 623 = .ok (.bipush 101, 2) := by decide +kernel
theorem dX9_init_625 : decode cX9_init 625 = .ok (.bipush 101, 2) := by decide +kernel
theorem dX9_init_627 : decode cX9_init 627 = .ok (.bipush 100, 2) := by decide +kernel
theorem dX9_init_629 : decode cX9_init 629 = .ok (.bipush 115, 2) := by decide +kernel
theorem dX9_init_631 : decode cX9_init 631 = .ok (.iconst 0, 1) := by decide +kernel
theorem dX9_init_632 : decode cX9_init 632 = .ok (.iconst 0, 1) := by decide +kernel
theorem dX9_init_633 : decode cX9_init 633 = .ok (.invokestatic 156, 3) := by decide +kernel
theorem dX9_init_636 : decode cX9_init 636 = .ok (.lastore, 1) := by decide +kernel
theorem dX9_init_637 : decode cX9_init 637 = .ok (.aload_n 0, 1) := by decide +kernel
theorem dX9_init_638 : decode cX9_init 638 = .ok (.getfield 34, 3) := by decide +kernel
theorem dX9_init_641 : decode cX9_init 641 = .ok (.bipush 12, 2) := by decide +kernel
theorem dX9_init_643 : decode cX9_init 643 = .ok (.bipush 115, 2) := by decide +kernel
theorem dX9_init_645 : decode cX9_init 645 = .ok (.bipush 101, 2) := by decide +kernel
theorem dX9_init_647 : decode cX9_init 647 = .ok (.bipush 101, 2) := by decide +kernel
theorem dX9_init_649 : decode cX9_init 649 = .ok (.bipush 100, 2) := by decide +kernel
theorem dX9_init_651 : decode cX9_init 651 = .ok (.iconst 0, 1) := by decide +kernel
theorem dX9_init_652 : decode cX9_init 652 = .ok (.iconst 0, 1) := by decide +kernel
theorem dX9_init_653 : decode cX9_init 653 = .ok (.iconst 0, 1) := by decide +kernel
theorem dX9_init_654 : decode cX9_init 654 = .ok (.invokestatic 156, 3) := by decide +kernel
theorem dX9_init_657 : decode cX9_init 657 = .ok (.lastore, 1) := by decide +kernel
theorem dX9_init_658 : decode cX9_init 658 = .ok (.aload_n 0, 1) := by decide +kernel
theorem dX9_init_659 : decode cX9_init 659 = .ok (.getfield 34, 3) := by decide +kernel
theorem dX9_init_662 : decode cX9_init 662 = .ok (.bipush 13, 2) := by decide +kernel
theorem dX9_init_664 : decode cX9_init 664 = .ok (.bipush 105, 2) := by decide +kernel
theorem dX9_init_666 : decode cX9_init 666 = .ok (.bipush 102, 2) := by decide +kernel
theorem dX9_init_668 : decode cX9_init 668 = .ok (.iconst 0, 1) := by decide +kernel
theorem dX9_init_669 : decode cX9_init 669 = .ok (.iconst 0, 1) := by decide +kernel
theorem dX9_init_670 : decode cX9_init 670 = .ok (.iconst 0, 1) := by decide +kernel
theorem dX9_init_671 : decode cX9_init 671 = .ok (.iconst 0, 1) := by decide +kernel
theorem dX9_init_672 : decode cX9_init 672 = .ok (.iconst 0, 1) := by decide +kernel
theorem dX9_init_673 : decode cX9_init 673 = .ok (.invokestatic 156, 3) := by decide +kernel
theorem dX9_init_676 : decode cX9_init 676 = .ok (.lastore, 1) := by decide +kernel
theorem dX9_init_677 : decode cX9_init 677 = .ok (.aload_n 0, 1) := by decide +kernel
theorem dX9_init_678 : decode cX9_init 678 = .ok (.getfield 34, 3) := by decide +kernel
theorem dX9_init_681 : decode cX9_init 681 = .ok (.bipush 14, 2) := by decide +kernel
theorem dX9_init_683 : decode cX9_init 683 = .ok (.bipush 116, 2) := by decide +kernel
theorem dX9_init_685 : decode cX9_init 685 = .ok (.bipush 104, 2) := by decide +kernel
theorem dX9_init_687 : decode cX9_init 687 = .ok (.bipush 101, 2) := by decide +kernel
theorem dX9_init_689 : decode cX9_init 689 = .ok (.bipush 110, 2) := by decide +kernel
theorem dX9_init_691 : decode cX9_init 691 = .ok (.iconst 0, 1) := by decide +kernel
theorem dX9_init_692 : decode cX9_init 692 = .ok (.iconst 0, 1) := by decide +kernel
theorem dX9_init_693 : decode cX9_init 693 = .ok (.iconst 0, 1) := by decide +kernel
theorem dX9_init_694 : decode cX9_init 694 = .ok (.invokestatic 156, 3) := by decide +kernel
theorem dX9_init_697 : decode cX9_init 697 = .ok (.lastore, 1) := by decide +kernel
theorem dX9_init_698 : decode cX9_init 698 = .ok (.aload_n 0, 1) := by decide +kernel
theorem dX9_init_699 : decode cX9_init 699 = .ok (.getfield 34, 3) := by decide +kernel
theorem dX9_init_702 : decode cX9_init 702 = .ok (.bipush 15, 2) := by decide +kernel
theorem dX9_init_704 : decode cX9_init 704 = .ok (.bipush 101, 2) := by decide +kernel
theorem dX9_init_706 : decode cX9_init 706 = .ok (.bipush 108, 2) := by decide +kernel
theorem dX9_init_708 : decode cX9_init 708 = .ok (.bipush 115, 2) := by decide +kernel
theorem dX9_init_710 : decode cX9_init 710 = .ok (.bipush 101, 2) := by decide +kernel
theorem dX9_init_712 : decode cX9_init 712 = .ok (.iconst 0, 1) := by decide +kernel
theorem dX9_init_713 : decode cX9_init 713 = .ok (.iconst 0, 1) := by decide +kernel
theorem dX9_init_714 : decode cX9_init 714 = .ok (.iconst 0, 1) := by decide +kernel
theorem dX9_init_715 : decode cX9_init 715 = .ok (.invokestatic 156, 3) := by decide +kernel
theorem dX9_init_718 : decode cX9_init 718 = .ok (.lastore, 1) := by decide +kernel
theorem dX9_init_719 : decode cX9_init 719 = .ok (.aload_n 0, 1) := by decide +kernel
theorem dX9_init_720 : decode cX9_init 720 = .ok (.getfield 34, 3) := by decide +kernel
theorem dX9_init_723 : decode cX9_init 723 = .ok (.bipush 16, 2) := by decide +kernel
theorem dX9_init_725 : decode cX9_init 725 = .ok (.bipush 104, 2) := by decide +kernel
theorem dX9_init_727 : decode cX9_init 727 = .ok (.bipush 117, 2) := by decide +kernel
theorem dX9_init_729 : decode cX9_init 729 = .ok (.bipush 110, 2) := by decide +kernel
theorem dX9_init_731 : decode cX9_init 731 = .ok (.bipush 103, 2) := by decide +kernel
theorem dX9_init_733 : decode cX9_init 733 = .ok (.bipush 101, 2) := by decide +kernel
theorem dX9_init_735 : decode cX9_init 735 = .ok (.bipush 114, 2) := by decide +kernel
theorem dX9_init_737 : decode cX9_init 737 = .ok (.iconst 0, 1) := by decide +kernel
theorem dX9_init_738 : decode cX9_init 738 = .ok (.invokestatic 156, 3) := by decide +kernel
theorem dX9_init_741 : decode cX9_init 741 = .ok (.lastore, 1) := by decide +kernel
theorem dX9_init_742 : decode cX9_init 742 = .ok (.aload_n 0, 1) := by decide +kernel
theorem dX9_init_743 : decode cX9_init 743 = .ok (.getfield 34, 3) := by decide +kernel
theorem dX9_init_746 : decode cX9_init 746 = .ok (.bipush 17, 2) := by decide +kernel
theorem dX9_init_748 : decode cX9_init 748 = .ok (.bipush 116, 2) := by decide +kernel
theorem dX9_init_750 : decode cX9_init 750 = .ok (.bipush 105, 2) := by decide +kernel
theorem dX9_init_752 : decode cX9_init 752 = .ok (.bipush 114, 2) := by decide +kernel
theorem dX9_init_754 : decode cX9_init 754 = .ok (.bipush 101, 2) := by decide +kernel
theorem dX9_init_756 : decode cX9_init 756 = .ok (.bipush 100, 2) := by decide +kernel
theorem dX9_init_758 : decode cX9_init 758 = .ok (.iconst 0, 1) := by decide +kernel
theorem dX9_init_759 : decode cX9_init 759 = .ok (.iconst 0, 1) := by decide +kernel
theorem dX9_init_760 : decode cX9_init 760 = .ok (.invokestatic 156, 3) := by decide +kernel
theorem dX9_init_763 : decode cX9_init 763 = .ok (.lastore, 1) := by decide +kernel
theorem dX9_init_764 : decode cX9_init 764 = .ok (.aload_n 0, 1) := by decide +kernel
theorem dX9_init_765 : decode cX9_init 765 = .ok (.getfield 34, 3) := by decide +kernel
theorem dX9_init_768 : decode cX9_init 768 = .ok (.bipush 18, 2) := by decide +kernel
theorem dX9_init_770 : decode cX9_init 770 = .ok (.bipush 119, 2) := by decide +kernel
theorem dX9_init_772 : decode cX9_init 772 = .ok (.bipush 111, 2) := by decide +kernel
theorem dX9_init_774 : decode cX9_init 774 = .ok (.bipush 110, 2) := by decide +kernel
theorem dX9_init_776 : decode cX9_init 776 = .ok (.bipush 100, 2) := by decide +kernel
theorem dX9_init_778 : decode cX9_init 778 = .ok (.bipush 101, 2) := by decide +kernel
theorem dX9_init_780 : decode cX9_init 780 = .ok (.bipush 114, 2) := by decide +kernel
theorem dX9_init_782 : decode cX9_init 782 = .ok (.iconst 0, 1) := by decide +kernel
theorem dX9_init_783 : decode cX9_init 783 = .ok (.invokestatic 156, 3) := by decide +kernel
theorem dX9_init_786 : decode cX9_init 786 = .ok (.lastore, 1) := by decide +kernel
theorem dX9_init_787 : decode cX9_init 787 = .ok (.aload_n 0, 1) := by decide +kernel
theorem dX9_init_788 : decode cX9_init 788 = .ok (.getfield 34, 3) := by decide +kernel
theorem dX9_init_791 : decode cX9_init 791 = .ok (.bipush 19, 2) := by decide +kernel
theorem dX9_init_793 : decode cX9_init 793 = .ok (.bipush 119, 2) := by decide +kernel
theorem dX9_init_795 : decode cX9_init 795 = .ok (.bipush 105, 2) := by decide +kernel
theorem dX9_init_797 : decode cX9_init 797 = .ok (.bipush 110, 2) := by decide +kernel
theorem dX9_init_799 : decode cX9_init 799 = .ok (.bipush 100, 2) := by decide +kernel
theorem dX9_init_801 : decode cX9_init 801 = .ok (.iconst 0, 1) := by decide +kernel
theorem dX9_init_802 : decode cX9_init 802 = .ok (.iconst 0, 1) := by decide +kernel
theorem dX9_init_803 : decode cX9_init 803 = .ok (.iconst 0, 1) := by decide +kernel
theorem dX9_init_804 : decode cX9_init 804 = .ok (.invokestatic 156, 3) := by decide +kernel
theorem dX9_init_807 : decode cX9_init 807 = .ok (.lastore, 1) := by decide +kernel
theorem dX9_init_808 : decode cX9_init 808 = .ok (.aload_n 0, 1) := by decide +kernel
theorem dX9_init_809 : decode cX9_init 809 = .ok (.getfield 34, 3) := by decide +kernel
theorem dX9_init_812 : decode cX9_init 812 = .ok (.bipush 20, 2) := by decide +kernel
theorem dX9_init_814 : decode cX9_init 814 = .ok (.bipush 104, 2) := by decide +kernel
theorem dX9_init_816 : decode cX9_init 816 = .ok (.bipush 101, 2) := by decide +kernel
theorem dX9_init_818 : decode cX9_init 818 = .ok (.bipush 108, 2) := by decide +kernel
theorem dX9_init_820 : decode cX9_init 820 = .ok (.bipush 100, 2) := by decide +kernel
theorem dX9_init_822 : decode cX9_init 822 = .ok (.iconst 0, 1) := by decide +kernel
theorem dX9_init_823 : decode cX9_init 823 = .ok (.iconst 0, 1) := by decide +kernel
theorem dX9_init_824 : decode cX9_init 824 = .ok (.iconst 0, 1) := by decide +kernel
theorem dX9_init_825 : decode cX9_init 825 = .ok (.invokestatic 156, 3) := by decide +kernel
theorem dX9_init_828 : decode cX9_init 828 = .ok (.lastore, 1) := by decide +kernel
theorem dX9_init_829 : decode cX9_init 829 = .ok (.aload_n 0, 1) := by decide +kernel
theorem dX9_init_830 : decode cX9_init 830 = .ok (.getfield 34, 3) := by decide +kernel
theorem dX9_init_833 : decode cX9_init 833 = .ok (.bipush 21, 2) := by decide +kernel
theorem dX9_init_835 : decode cX9_init 835 = .ok (.bipush 114, 2) := by decide +kernel
theorem dX9_init_837 : decode cX9_init 837 = .ok (.bipush 111, 2) := by decide +kernel
theorem dX9_init_839 : decode cX9_init 839 = .ok (.bipush 99, 2) := by decide +kernel
theorem dX9_init_841 : decode cX9_init 841 = .ok (.bipush 107, 2) := by decide +kernel
theorem dX9_init_843 : decode cX9_init 843 = .ok (.iconst 0, 1) := by decide +kernel
theorem dX9_init_844 : decode cX9_init 844 = .ok (.iconst 0, 1) := by decide +kernel
theorem dX9_init_845 : decode cX9_init 845 = .ok (.iconst 0, 1) := by decide +kernel
theorem dX9_init_846 : decode cX9_init 846 = .ok (.invokestatic 156, 3) := by decide +kernel
theorem dX9_init_849 : decode cX9_init 849 = .ok (.lastore, 1) := by decide +kernel
theorem dX9_init_850 : decode cX9_init 850 = .ok (.aload_n 0, 1) := by decide +kernel
theorem dX9_init_851 : decode cX9_init 851 = .ok (.getfield 34, 3) := by decide +kernel
theorem dX9_init_854 : decode cX9_init 854 = .ok (.bipush 22, 2) := by decide +kernel
theorem dX9_init_856 : decode cX9_init 856 = .ok (.bipush 115, 2) := by decide +kernel
theorem dX9_init_858 : decode cX9_init 858 = .ok (.bipush 104, 2) := by decide +kernel
theorem dX9_init_860 : decode cX9_init 860 = .ok (.bipush 111, 2) := by decide +kernel
theorem dX9_init_862 : decode cX9_init 862 = .ok (.bipush 119, 2) := by decide +kernel
theorem dX9_init_864 : decode cX9_init 864 = .ok (.iconst 0, 1) := by decide +kernel
theorem dX9_init_865 : decode cX9_init 865 = .ok (.iconst 0, 1) := by decide +kernel
theorem dX9_init_866 : decode cX9_init 866 = .ok (.iconst 0, 1) := by decide +kernel
theorem dX9_init_867 : decode cX9_init 867 = .ok (.invokestatic 156, 3) := by decide +kernel
theorem dX9_init_870 : decode cX9_init 870 = .ok (.lastore, 1) := by decide +kernel
theorem dX9_init_871 : decode cX9_init 871 = .ok (.aload_n 0, 1) := by decide +kernel
theorem dX9_init_872 : decode cX9_init 872 = .ok (.getfield 34, 3) := by decide +kernel
theorem dX9_init_875 : decode cX9_init 875 = .ok (.bipush 23, 2) := by decide +kernel
theorem dX9_init_877 : decode cX9_init 877 = .ok (.bipush 98, 2) := by decide +kernel
theorem dX9_init_879 : decode cX9_init 879 = .ok (.bipush 101, 2) := by decide +kernel
theorem dX9_init_881 : decode cX9_init 881 = .ok (.bipush 97, 2) := by decide +kernel
theorem dX9_init_883 : decode cX9_init 883 = .ok (.bipush 114, 2) := by decide +kernel
theorem dX9_init_885 : decode cX9_init 885 = .ok (.bipush 100, 2) := by decide +kernel
theorem dX9_init_887 : decode cX9_init 887 = .ok (.iconst 0, 1) := by decide +kernel
theorem dX9_init_888 : decode cX9_init 888 = .ok (.iconst 0, 1) := by decide +kernel
theorem dX9_init_889 : decode cX9_init 889 = .ok (.invokestatic 156, 3) := by decide +kernel
theorem dX9_init_892 : decode cX9_init 892 = .ok (.lastore, 1) := by decide +kernel
theorem dX9_init_893 : decode cX9_init 893 = .ok (.aload_n 0, 1) := by decide +kernel
theorem dX9_init_894 : decode cX9_init 894 = .ok (.getfield 34, 3) := by decide +kernel
theorem dX9_init_897 : decode cX9_init 897 = .ok (.bipush 24, 2) := by decide +kernel
theorem dX9_init_899 : decode cX9_init 899 = .ok (.bipush 115, 2) := by decide +kernel
theorem dX9_init_901 : decode cX9_init 901 = .ok (.bipush 101, 2) := by decide +kernel
theorem dX9_init_903 : decode cX9_init 903 = .ok (.bipush 101, 2) := by decide +kernel
theorem dX9_init_905 : decode cX9_init 905 = .ok (.bipush 110, 2) := by decide +kernel
theorem dX9_init_907 : decode cX9_init 907 = .ok (.iconst 0, 1) := by decide +kernel
theorem dX9_init_908 : decode cX9_init 908 = .ok (.iconst 0, 1) := by decide +kernel
theorem dX9_init_909 : decode cX9_init 909 = .ok (.iconst 0, 1) := by decide +kernel
theorem dX9_init_910 : decode cX9_init 910 = .ok (.invokestatic 156, 3) := by decide +kernel
theorem dX9_init_913 : decode cX9_init 913 = .ok (.lastore, 1) := by decide +kernel
theorem dX9_init_914 : decode cX9_init 914 = .ok (.aload_n 0, 1) := by decide +kernel
theorem dX9_init_915 : decode cX9_init 915 = .ok (.invokevirtual 160, 3) := by decide +kernel
theorem dX9_init_918 : decode cX9_init 918 = .ok (.aload_n 0, 1) := by decide +kernel
theorem dX9_init_919 : decode cX9_init 919 = .ok (.invokevirtual 163, 3) := by decide +kernel
theorem dX9_init_922 : decode cX9_init 922 = .ok (.return_, 1) := by decide +kernel
theorem dX9_feed_0 : decode cX9_feed 0 = .ok (.aload_n 0, 1) := by decide +kernel
theorem dX9_feed_1 : decode cX9_feed 1 = .ok (.getfield 166, 3) := by decide +kernel
theorem dX9_feed_4 : decode cX9_feed 4 = .ok (.bipush 20, 2) := by decide +kernel
theorem dX9_feed_6 : decode cX9_feed 6 = .ok (.iadd, 1) := by decide +kernel
theorem dX9_feed_7 : decode cX9_feed 7 = .ok (.sipush 2000, 3) := by decide +kernel
theorem dX9_feed_10 : decode cX9_feed 10 = .ok (.if_icmp .le 5, 3) := by decide +kernel
theorem dX9_feed_13 : decode cX9_feed 13 = .ok (.iconst (-1), 1) := by decide +kernel
theorem dX9_feed_14 : decode cX9_feed 14 = .ok (.ireturn, 1) := by decide +kernel
theorem dX9_feed_15 : decode cX9_feed 15 = .ok (.aload_n 0, 1) := by decide +kernel
theorem dX9_feed_16 : decode cX9_feed 16 = .ok (.iload_n 1, 1) := by decide +kernel
theorem dX9_feed_17 : decode cX9_feed 17 = .ok (.invokevirtual 169, 3) := by decide +kernel
theorem dX9_feed_20 : decode cX9_feed 20 = .ok (.aload_n 0, 1) := by decide +kernel
theorem dX9_feed_21 : decode cX9_feed 21 = .ok (.iload_n 2, 1) := by decide +kernel
theorem dX9_feed_22 : decode cX9_feed 22 = .ok (.invokevirtual 169, 3) := by decide +kernel
theorem dX9_feed_25 : decode cX9_feed 25 = .ok (.aload_n 0, 1) := by decide +kernel
theorem dX9_feed_26 : decode cX9_feed 26 = .ok (.iload_n 3, 1) := by decide +kernel
theorem dX9_feed_27 : decode cX9_feed 27 = .ok (.invokevirtual 169, 3) := by decide +kernel
theorem dX9_feed_30 : decode cX9_feed 30 = .ok (.aload_n 0, 1) := by decide +kernel
theorem dX9_feed_31 : decode cX9_feed 31 = .ok (.iload 4, 2) := by decide +kernel
theorem dX9_feed_33 : decode cX9_feed 33 = .ok (.invokevirtual 169, 3) := by decide +kernel
theorem dX9_feed_36 : decode cX9_feed 36 = .ok (.aload_n 0, 1) := by decide +kernel
theorem dX9_feed_37 : decode cX9_feed 37 = .ok (.iload 5, 2) := by decide +kernel
theorem dX9_feed_39 : decode cX9_feed 39 = .ok (.invokevirtual 169, 3) := by decide +kernel
theorem dX9_feed_42 : decode cX9_feed 42 = .ok (.aload_n 0, 1) := by decide +kernel
theorem dX9_feed_43 : decode cX9_feed 43 = .ok (.getfield 166, 3) := by decide +kernel
theorem dX9_feed_46 : decode cX9_feed 46 = .ok (.ireturn, 1) := by decide +kernel
theorem dX9_put_0 : decode cX9_put 0 = .ok (.bipush 24, 2) := by decide +kernel
theorem dX9_put_2 : decode cX9_put 2 = .ok (.istore_n 2, 1) := by decide +kernel
theorem dX9_put_3 : decode cX9_put 3 = .ok (.iload_n 2, 1) := by decide +kernel
theorem dX9_put_4 : decode cX9_put 4 = .ok (.ifCond .lt 32, 3) := by decide +kernel
theorem dX9_put_7 : decode cX9_put 7 = .ok (.aload_n 0, 1) := by decide +kernel
theorem dX9_put_8 : decode cX9_put 8 = .ok (.getfield 13, 3) := by decide +kernel
theorem dX9_put_11 : decode cX9_put 11 = .ok (.aload_n 0, 1) := by decide +kernel
theorem dX9_put_12 : decode cX9_put 12 = .ok (.getfield 166, 3) := by decide +kernel
theorem dX9_put_15 : decode cX9_put 15 = .ok (.iload_n 1, 1) := by decide +kernel
theorem dX9_put_16 : decode cX9_put 16 = .ok (.iload_n 2, 1) := by decide +kernel
theorem dX9_put_17 : decode cX9_put 17 = .ok (.ishr, 1) := by decide +kernel
theorem dX9_put_18 : decode cX9_put 18 = .ok (.i2b, 1) := by decide +kernel
theorem dX9_put_19 : decode cX9_put 19 = .ok (.bastore, 1) := by decide +kernel
theorem dX9_put_20 : decode cX9_put 20 = .ok (.aload_n 0, 1) := by decide +kernel
theorem dX9_put_21 : decode cX9_put 21 = .ok (.dup, 1) := by decide +kernel
theorem dX9_put_22 : decode cX9_put 22 = .ok (.getfield 166, 3) := by decide +kernel
theorem dX9_put_25 : decode cX9_put 25 = .ok (.iconst 1, 1) := by decide +kernel
theorem dX9_put_26 : decode cX9_put 26 = .ok (.iadd, 1) := by decide +kernel
theorem dX9_put_27 : decode cX9_put 27 = .ok (.putfield 166, 3) := by decide +kernel
theorem dX9_put_30 : decode cX9_put 30 = .ok (.iinc 2 (-8), 3) := by decide +kernel
theorem dX9_put_33 : decode cX9_put 33 = .ok (.goto (-30), 3) := by decide +kernel
theorem dX9_put_36 : decode cX9_put 36 = .ok (.return_, 1) := by decide +kernel
theorem dX9_back_0 : decode cX9_back 0 = .ok (.iload_n 1, 1) := by decide +kernel
theorem dX9_back_1 : decode cX9_back 1 = .ok (.ifCond .lt 11, 3) := by decide +kernel
theorem dX9_back_4 : decode cX9_back 4 = .ok (.iload_n 1, 1) := by decide +kernel
theorem dX9_back_5 : decode cX9_back 5 = .ok (.aload_n 0, 1) := by decide +kernel
theorem dX9_back_6 : decode cX9_back 6 = .ok (.getfield 166, 3) := by decide +kernel
theorem dX9_back_9 : decode cX9_back 9 = .ok (.if_icmp .le 5, 3) := by decide +kernel
theorem dX9_back_12 : decode cX9_back 12 = .ok (.iconst (-1), 1) := by decide +kernel
theorem dX9_back_13 : decode cX9_back 13 = .ok (.ireturn, 1) := by decide +kernel
theorem dX9_back_14 : decode cX9_back 14 = .ok (.aload_n 0, 1) := by decide +kernel
theorem dX9_back_15 : decode cX9_back 15 = .ok (.dup, 1) := by decide +kernel
theorem dX9_back_16 : decode cX9_back 16 = .ok (.getfield 166, 3) := by decide +kernel
theorem dX9_back_19 : decode cX9_back 19 = .ok (.iload_n 1, 1) := by decide +kernel
theorem dX9_back_20 : decode cX9_back 20 = .ok (.isub, 1) := by decide +kernel
theorem dX9_back_21 : decode cX9_back 21 = .ok (.putfield 166, 3) := by decide +kernel
theorem dX9_back_24 : decode cX9_back 24 = .ok (.aload_n 0, 1) := by decide +kernel
theorem dX9_back_25 : decode cX9_back 25 = .ok (.getfield 166, 3) := by decide +kernel
theorem dX9_back_28 : decode cX9_back 28 = .ok (.ireturn, 1) := by decide +kernel
theorem dX9_byteAt_0 : decode cX9_byteAt 0 = .ok (.iload_n 1, 1) := by decide +kernel
theorem dX9_byteAt_1 : decode cX9_byteAt 1 = .ok (.aload_n 0, 1) := by decide +kernel
theorem dX9_byteAt_2 : decode cX9_byteAt 2 = .ok (.getfield 172, 3) := by decide +kernel
theorem dX9_byteAt_5 : decode cX9_byteAt 5 = .ok (.if_icmp .ge 16, 3) := by decide +kernel
theorem dX9_byteAt_8 : decode cX9_byteAt 8 = .ok (.aload_n 0, 1) := by decide +kernel
theorem dX9_byteAt_9 : decode cX9_byteAt 9 = .ok (.getfield 17, 3) := by decide +kernel
theorem dX9_byteAt_12 : decode cX9_byteAt 12 = .ok (.iload_n 1, 1) := by decide +kernel
theorem dX9_byteAt_13 : decode cX9_byteAt 13 = .ok (.baload, 1) := by decide +kernel
theorem dX9_byteAt_14 : decode cX9_byteAt 14 = .ok (.sipush 255, 3) := by decide +kernel
theorem dX9_byteAt_17 : decode cX9_byteAt 17 = .ok (.iand, 1) := by decide +kernel
theorem dX9_byteAt_18 : decode cX9_byteAt 18 = .ok (.goto 4, 3) := by decide +kernel
theorem dX9_byteAt_21 : decode cX9_byteAt 21 = .ok (.iconst 0, 1) := by decide +kernel
theorem dX9_byteAt_22 : decode cX9_byteAt 22 = .ok (.ireturn, 1) := by decide +kernel
theorem dX9_isDigit_0 : decode cX9_isDigit 0 = .ok (.iload_n 0, 1) := by decide +kernel
theorem dX9_isDigit_1 : decode cX9_isDigit 1 = .ok (.bipush 48, 2) := by decide +kernel
theorem dX9_isDigit_3 : decode cX9_isDigit 3 = .ok (.if_icmp .lt 13, 3) := by decide +kernel
theorem dX9_isDigit_6 : decode cX9_isDigit 6 = .ok (.iload_n 0, 1) := by decide +kernel
theorem dX9_isDigit_7 : decode cX9_isDigit 7 = .ok (.bipush 57, 2) := by decide +kernel
theorem dX9_isDigit_9 : decode cX9_isDigit 9 = .ok (.if_icmp .gt 7, 3) := by decide +kernel
theorem dX9_isDigit_12 : decode cX9_isDigit 12 = .ok (.iconst 1, 1) := by decide +kernel
theorem dX9_isDigit_13 : decode cX9_isDigit 13 = .ok (.goto 4, 3) := by decide +kernel
theorem dX9_isDigit_16 : decode cX9_isDigit 16 = .ok (.iconst 0, 1) := by decide +kernel
theorem dX9_isDigit_17 : decode cX9_isDigit 17 = .ok (.ireturn, 1) := by decide +kernel
theorem dX9_isLetter_0 : decode cX9_isLetter 0 = .ok (.iload_n 0, 1) := by decide +kernel
theorem dX9_isLetter_1 : decode cX9_isLetter 1 = .ok (.bipush 97, 2) := by decide +kernel
theorem dX9_isLetter_3 : decode cX9_isLetter 3 = .ok (.if_icmp .lt 13, 3) := by decide +kernel
theorem dX9_isLetter_6 : decode cX9_isLetter 6 = .ok (.iload_n 0, 1) := by decide +kernel
theorem dX9_isLetter_7 : decode cX9_isLetter 7 = .ok (.bipush 122, 2) := by decide +kernel
theorem dX9_isLetter_9 : decode cX9_isLetter 9 = .ok (.if_icmp .gt 7, 3) := by decide +kernel
theorem dX9_isLetter_12 : decode cX9_isLetter 12 = .ok (.iconst 1, 1) := by decide +kernel
theorem dX9_isLetter_13 : decode cX9_isLetter 13 = .ok (.goto 4, 3) := by decide +kernel
theorem dX9_isLetter_16 : decode cX9_isLetter 16 = .ok (.iconst 0, 1) := by decide +kernel
theorem dX9_isLetter_17 : decode cX9_isLetter 17 = .ok (.ireturn, 1) := by decide +kernel
theorem dX9_appends_0 : decode cX9_appends 0 = .ok (.iload_n 2, 1) := by decide +kernel
theorem dX9_appends_1 : decode cX9_appends 1 = .ok (.ifCond .ne 7, 3) := by decide +kernel
theorem dX9_appends_4 : decode cX9_appends 4 = .ok (.lload_n 0, 1) := by decide +kernel
theorem dX9_appends_5 : decode cX9_appends 5 = .ok (.goto 16, 3) := by decide +kernel
theorem dX9_appends_8 : decode cX9_appends 8 = .ok (.ldc2_w 175, 3) := by decide +kernel
theorem dX9_appends_11 : decode cX9_appends 11 = .ok (.lload_n 0, 1) := by decide +kernel
theorem dX9_appends_12 : decode cX9_appends 12 = .ok (.lmul, 1) := by decide +kernel
theorem dX9_appends_13 : decode cX9_appends 13 = .ok (.iload_n 2, 1) := by decide +kernel
theorem dX9_appends_14 : decode cX9_appends 14 = .ok (.bipush 97, 2) := by decide +kernel
theorem dX9_appends_16 : decode cX9_appends 16 = .ok (.isub, 1) := by decide +kernel
theorem dX9_appends_17 : decode cX9_appends 17 = .ok (.iconst 1, 1) := by decide +kernel
theorem dX9_appends_18 : decode cX9_appends 18 = .ok (.iadd, 1) := by decide +kernel
theorem dX9_appends_19 : decode cX9_appends 19 = .ok (.i2l, 1) := by decide +kernel
theorem dX9_appends_20 : decode cX9_appends 20 = .ok (.ladd, 1) := by decide +kernel
theorem dX9_appends_21 : decode cX9_appends 21 = .ok (.lreturn, 1) := by decide +kernel
theorem dX9_word_0 : decode cX9_word 0 = .ok (.lconst 0, 1) := by decide +kernel
theorem dX9_word_1 : decode cX9_word 1 = .ok (.iload_n 0, 1) := by decide +kernel
theorem dX9_word_2 : decode cX9_word 2 = .ok (.invokestatic 177, 3) := by decide +kernel
theorem dX9_word_5 : decode cX9_word 5 = .ok (.iload_n 1, 1) := by decide +kernel
theorem dX9_word_6 : decode cX9_word 6 = .ok (.invokestatic 177, 3) := by decide +kernel
theorem dX9_word_9 : decode cX9_word 9 = .ok (.iload_n 2, 1) := by decide +kernel
theorem dX9_word_10 : decode cX9_word 10 = .ok (.invokestatic 177, 3) := by decide +kernel
theorem dX9_word_13 : decode cX9_word 13 = .ok (.iload_n 3, 1) := by decide +kernel
theorem dX9_word_14 : decode cX9_word 14 = .ok (.invokestatic 177, 3) := by decide +kernel
theorem dX9_word_17 : decode cX9_word 17 = .ok (.iload 4, 2) := by decide +kernel
theorem dX9_word_19 : decode cX9_word 19 = .ok (.invokestatic 177, 3) := by decide +kernel
theorem dX9_word_22 : decode cX9_word 22 = .ok (.iload 5, 2) := by decide +kernel
theorem dX9_word_24 : decode cX9_word 24 = .ok (.invokestatic 177, 3) := by decide +kernel
theorem dX9_word_27 : decode cX9_word 27 = .ok (.iload 6, 2) := by decide +kernel
theorem dX9_word_29 : decode cX9_word 29 = .ok (.invokestatic 177, 3) := by decide +kernel
theorem dX9_word_32 : decode cX9_word 32 = .ok (.lreturn, 1) := by decide +kernel
theorem dX9_token_0 : decode cX9_token 0 = .ok (.aload_n 0, 1) := by decide +kernel
theorem dX9_token_1 : decode cX9_token 1 = .ok (.getfield 20, 3) := by decide +kernel
theorem dX9_token_4 : decode cX9_token 4 = .ok (.aload_n 0, 1) := by decide +kernel
theorem dX9_token_5 : decode cX9_token 5 = .ok (.getfield 181, 3) := by decide +kernel
theorem dX9_token_8 : decode cX9_token 8 = .ok (.iload_n 1, 1) := by decide +kernel
theorem dX9_token_9 : decode cX9_token 9 = .ok (.iastore, 1) := by decide +kernel
theorem dX9_token_10 : decode cX9_token 10 = .ok (.aload_n 0, 1) := by decide +kernel
theorem dX9_token_11 : decode cX9_token 11 = .ok (.getfield 24, 3) := by decide +kernel
theorem dX9_token_14 : decode cX9_token 14 = .ok (.aload_n 0, 1) := by decide +kernel
theorem dX9_token_15 : decode cX9_token 15 = .ok (.getfield 181, 3) := by decide +kernel
theorem dX9_token_18 : decode cX9_token 18 = .ok (.iload_n 2, 1) := by decide +kernel
theorem dX9_token_19 : decode cX9_token 19 = .ok (.iastore, 1) := by decide +kernel
theorem dX9_token_20 : decode cX9_token 20 = .ok (.aload_n 0, 1) := by decide +kernel
theorem dX9_token_21 : decode cX9_token 21 = .ok (.getfield 27, 3) := by decide +kernel
theorem dX9_token_24 : decode cX9_token 24 = .ok (.aload_n 0, 1) := by decide +kernel
theorem dX9_token_25 : decode cX9_token 25 = .ok (.getfield 181, 3) := by decide +kernel
theorem dX9_token_28 : decode cX9_token 28 = .ok (.iload_n 3, 1) := by decide +kernel
theorem dX9_token_29 : decode cX9_token 29 = .ok (.iastore, 1) := by decide +kernel
theorem dX9_token_30 : decode cX9_token 30 = .ok (.aload_n 0, 1) := by decide +kernel
theorem dX9_token_31 : decode cX9_token 31 = .ok (.getfield 30, 3) := by decide +kernel
theorem dX9_token_34 : decode cX9_token 34 = .ok (.aload_n 0, 1) := by decide +kernel
theorem dX9_token_35 : decode cX9_token 35 = .ok (.getfield 181, 3) := by decide +kernel
theorem dX9_token_38 : decode cX9_token 38 = .ok (.lload 4, 2) := by decide +kernel
theorem dX9_token_40 : decode cX9_token 40 = .ok (.lastore, 1) := by decide +kernel
theorem dX9_token_41 : decode cX9_token 41 = .ok (.aload_n 0, 1) := by decide +kernel
theorem dX9_token_42 : decode cX9_token 42 = .ok (.dup, 1) := by decide +kernel
theorem dX9_token_43 : decode cX9_token 43 = .ok (.getfield 181, 3) := by decide +kernel
theorem dX9_token_46 : decode cX9_token 46 = .ok (.iconst 1, 1) := by decide +kernel
theorem dX9_token_47 : decode cX9_token 47 = .ok (.iadd, 1) := by decide +kernel
theorem dX9_token_48 : decode cX9_token 48 = .ok (.putfield 181, 3) := by decide +kernel
theorem dX9_token_51 : decode cX9_token 51 = .ok (.return_, 1) := by decide +kernel
theorem dX9_cut_0 : decode cX9_cut 0 = .ok (.aload_n 0, 1) := by decide +kernel
theorem dX9_cut_1 : decode cX9_cut 1 = .ok (.iconst 0, 1) := by decide +kernel
theorem dX9_cut_2 : decode cX9_cut 2 = .ok (.putfield 181, 3) := by decide +kernel
theorem dX9_cut_5 : decode cX9_cut 5 = .ok (.iconst 0, 1) := by decide +kernel
theorem dX9_cut_6 : decode cX9_cut 6 = .ok (.istore_n 1, 1) := by decide +kernel
theorem dX9_cut_7 : decode cX9_cut 7 = .ok (.aload_n 0, 1) := by decide +kernel
theorem dX9_cut_8 : decode cX9_cut 8 = .ok (.getfield 181, 3) := by decide +kernel
theorem dX9_cut_11 : decode cX9_cut 11 = .ok (.sipush 400, 3) := by decide +kernel
theorem dX9_cut_14 : decode cX9_cut 14 = .ok (.if_icmp .gt 280, 3) := by decide +kernel
theorem dX9_cut_17 : decode cX9_cut 17 = .ok (.aload_n 0, 1) := by decide +kernel
theorem dX9_cut_18 : decode cX9_cut 18 = .ok (.iload_n 1, 1) := by decide +kernel
theorem dX9_cut_19 : decode cX9_cut 19 = .ok (.invokevirtual 184, 3) := by decide +kernel
theorem dX9_cut_22 : decode cX9_cut 22 = .ok (.istore_n 2, 1) := by decide +kernel
theorem dX9_cut_23 : decode cX9_cut 23 = .ok (.iload_n 1, 1) := by decide +kernel
theorem dX9_cut_24 : decode cX9_cut 24 = .ok (.aload_n 0, 1) := by decide +kernel
theorem dX9_cut_25 : decode cX9_cut 25 = .ok (.getfield 172, 3) := by decide +kernel
theorem dX9_cut_28 : decode cX9_cut 28 = .ok (.if_icmp .lt 15, 3) := by decide +kernel
theorem dX9_cut_31 : decode cX9_cut 31 = .ok (.aload_n 0, 1) := by decide +kernel
theorem dX9_cut_32 : decode cX9_cut 32 = .ok (.iconst 0, 1) := by decide +kernel
theorem dX9_cut_33 : decode cX9_cut 33 = .ok (.aload_n 0, 1) := by decide +kernel
theorem dX9_cut_34 : decode cX9_cut 34 = .ok (.getfield 172, 3) := by decide +kernel
theorem dX9_cut_37 : decode cX9_cut 37 = .ok (.iconst 0, 1) := by decide +kernel
theorem dX9_cut_38 : decode cX9_cut 38 = .ok (.lconst 0, 1) := by decide +kernel
theorem dX9_cut_39 : decode cX9_cut 39 = .ok (.invokevirtual 188, 3) := by decide +kernel
theorem dX9_cut_42 : decode cX9_cut 42 = .ok (.return_, 1) := by decide +kernel
theorem dX9_cut_43 : decode cX9_cut 43 = .ok (.iload_n 2, 1) := by decide +kernel
theorem dX9_cut_44 : decode cX9_cut 44 = .ok (.bipush 9, 2) := by decide +kernel
theorem dX9_cut_46 : decode cX9_cut 46 = .ok (.if_icmp .eq 21, 3) := by decide +kernel
theorem dX9_cut_49 : decode cX9_cut 49 = .ok (.iload_n 2, 1) := by decide +kernel
theorem dX9_cut_50 : decode cX9_cut 50 = .ok (.bipush 10, 2) := by decide +kernel
theorem dX9_cut_52 : decode cX9_cut 52 = .ok (.if_icmp .eq 15, 3) := by decide +kernel
theorem dX9_cut_55 : decode cX9_cut 55 = .ok (.iload_n 2, 1) := by decide +kernel
theorem dX9_cut_56 : decode cX9_cut 56 = .ok (.bipush 13, 2) := by decide +kernel
theorem dX9_cut_58 : decode cX9_cut 58 = .ok (.if_icmp .eq 9, 3) := by decide +kernel
theorem dX9_cut_61 : decode cX9_cut 61 = .ok (.iload_n 2, 1) := by decide +kernel
theorem dX9_cut_62 : decode cX9_cut 62 = .ok (.bipush 32, 2) := by decide +kernel
theorem dX9_cut_64 : decode cX9_cut 64 = .ok (.if_icmp .ne 9, 3) := by decide +kernel
theorem dX9_cut_67 : decode cX9_cut 67 = .ok (.iinc 1 1, 3) := by decide +kernel
theorem dX9_cut_70 : decode cX9_cut 70 = .ok (.goto 221, 3) := by decide +kernel
theorem dX9_cut_73 : decode cX9_cut 73 = .ok (.iload_n 2, 1) := by decide +kernel
theorem dX9_cut_74 : decode cX9_cut 74 = .ok (.invokestatic 192, 3) := by decide +kernel
theorem dX9_cut_77 : decode cX9_cut 77 = .ok (.ifCond .eq 119, 3) := by decide +kernel
theorem dX9_cut_80 : decode cX9_cut 80 = .ok (.iconst 0, 1) := by decide +kernel
theorem dX9_cut_81 : decode cX9_cut 81 = .ok (.istore_n 3, 1) := by decide +kernel
theorem dX9_cut_82 : decode cX9_cut 82 = .ok (.lconst 0, 1) := by decide +kernel
theorem dX9_cut_83 : decode cX9_cut 83 = .ok (.lstore 4, 2) := by decide +kernel
theorem dX9_cut_85 : decode cX9_cut 85 = .ok (.aload_n 0, 1) := by decide +kernel
theorem dX9_cut_86 : decode cX9_cut 86 = .ok (.iload_n 1, 1) := by decide +kernel
theorem dX9_cut_87 : decode cX9_cut 87 = .ok (.iload_n 3, 1) := by decide +kernel
theorem dX9_cut_88 : decode cX9_cut 88 = .ok (.iadd, 1) := by decide +kernel
theorem dX9_cut_89 : decode cX9_cut 89 = .ok (.invokevirtual 184, 3) := by decide +kernel
theorem dX9_cut_92 : decode cX9_cut 92 = .ok (.invokestatic 192, 3) := by decide +kernel
theorem dX9_cut_95 : decode cX9_cut 95 = .ok (.ifCond .eq 29, 3) := by decide +kernel
theorem dX9_cut_98 : decode cX9_cut 98 = .ok (.iload_n 3, 1) := by decide +kernel
theorem dX9_cut_99 : decode cX9_cut 99 = .ok (.bipush 8, 2) := by decide +kernel
theorem dX9_cut_101 : decode cX9_cut 101 = .ok (.if_icmp .ge 17, 3) := by decide +kernel
theorem dX9_cut_104 : decode cX9_cut 104 = .ok (.lload 4, 2) := by decide +kernel
theorem dX9_cut_106 : decode cX9_cut 106 = .ok (.aload_n 0, 1) := by decide +kernel
theorem dX9_cut_107 : decode cX9_cut 107 = .ok (.iload_n 1, 1) := by decide +kernel
theorem dX9_cut_108 : decode cX9_cut 108 = .ok (.iload_n 3, 1) := by decide +kernel
theorem dX9_cut_109 : decode cX9_cut 109 = .ok (.iadd, 1) := by decide +kernel
theorem dX9_cut_110 : decode cX9_cut 110 = .ok (.invokevirtual 184, 3) := by decide +kernel
theorem dX9_cut_113 : decode cX9_cut 113 = .ok (.invokestatic 177, 3) := by decide +kernel
theorem dX9_cut_116 : decode cX9_cut 116 = .ok (.lstore 4, 2) := by decide +kernel
theorem dX9_cut_118 : decode cX9_cut 118 = .ok (.iinc 3 1, 3) := by decide +kernel
theorem dX9_cut_121 : decode cX9_cut 121 = .ok (.goto (-36), 3) := by decide +kernel
theorem dX9_cut_124 : decode cX9_cut 124 = .ok (.iload_n 3, 1) := by decide +kernel
theorem dX9_cut_125 : decode cX9_cut 125 = .ok (.bipush 8, 2) := by decide +kernel
theorem dX9_cut_127 : decode cX9_cut 127 = .ok (.if_icmp .le 7, 3) := by decide +kernel
theorem dX9_cut_130 : decode cX9_cut 130 = .ok (.iconst 3, 1) := by decide +kernel
theorem dX9_cut_131 : decode cX9_cut 131 = .ok (.goto 4, 3) := by decide +kernel
theorem dX9_cut_134 : decode cX9_cut 134 = .ok (.iconst 1, 1) := by decide +kernel
theorem dX9_cut_135 : decode cX9_cut 135 = .ok (.istore 6, 2) := by decide +kernel
theorem dX9_cut_137 : decode cX9_cut 137 = .ok (.iload_n 3, 1) := by decide +kernel
theorem dX9_cut_138 : decode cX9_cut 138 = .ok (.bipush 7, 2) := by decide +kernel
theorem dX9_cut_140 : decode cX9_cut 140 = .ok (.if_icmp .gt 39, 3) := by decide +kernel
theorem dX9_cut_143 : decode cX9_cut 143 = .ok (.iconst 0, 1) := by decide +kernel
theorem dX9_cut_144 : decode cX9_cut 144 = .ok (.istore 7, 2) := by decide +kernel
theorem dX9_cut_146 : decode cX9_cut 146 = .ok (.iload 7, 2) := by decide +kernel
theorem dX9_cut_148 : decode cX9_cut 148 = .ok (.bipush 25, 2) := by decide +kernel
theorem dX9_cut_150 : decode cX9_cut 150 = .ok (.if_icmp .ge 29, 3) := by decide +kernel
theorem dX9_cut_153 : decode cX9_cut 153 = .ok (.aload_n 0, 1) := by decide +kernel
theorem dX9_cut_154 : decode cX9_cut 154 = .ok (.getfield 34, 3) := by decide +kernel
theorem dX9_cut_157 : decode cX9_cut 157 = .ok (.iload 7, 2) := by decide +kernel
theorem dX9_cut_159 : decode cX9_cut 159 = .ok (.laload, 1) := by decide +kernel
theorem dX9_cut_160 : decode cX9_cut 160 = .ok (.lload 4, 2) := by decide +kernel
theorem dX9_cut_162 : decode cX9_cut 162 = .ok (.lcmp, 1) := by decide +kernel
theorem dX9_cut_163 : decode cX9_cut 163 = .ok (.ifCond .ne 10, 3) := by decide +kernel
theorem dX9_cut_166 : decode cX9_cut 166 = .ok (.bipush 20, 2) := by decide +kernel
theorem dX9_cut_168 : decode cX9_cut 168 = .ok (.iload 7, 2) := by decide +kernel
theorem dX9_cut_170 : decode cX9_cut 170 = .ok (.iadd, 1) := by decide +kernel
theorem dX9_cut_171 : decode cX9_cut 171 = .ok (.istore 6, 2) := by decide +kernel
theorem dX9_cut_173 : decode cX9_cut 173 = .ok (.iinc 7 1, 3) := by decide +kernel
theorem dX9_cut_176 : decode cX9_cut 176 = .ok (.goto (-30), 3) := by decide +kernel
theorem dX9_cut_179 : decode cX9_cut 179 = .ok (.aload_n 0, 1) := by decide +kernel
theorem dX9_cut_180 : decode cX9_cut 180 = .ok (.iload 6, 2) := by decide +kernel
theorem dX9_cut_182 : decode cX9_cut 182 = .ok (.iload_n 1, 1) := by decide +kernel
theorem dX9_cut_183 : decode cX9_cut 183 = .ok (.iconst 0, 1) := by decide +kernel
theorem dX9_cut_184 : decode cX9_cut 184 = .ok (.lload 4, 2) := by decide +kernel
theorem dX9_cut_186 : decode cX9_cut 186 = .ok (.invokevirtual 188, 3) := by decide +kernel
theorem dX9_cut_189 : decode cX9_cut 189 = .ok (.iload_n 1, 1) := by decide +kernel
theorem dX9_cut_190 : decode cX9_cut 190 = .ok (.iload_n 3, 1) := by decide +kernel
theorem dX9_cut_191 : decode cX9_cut 191 = .ok (.iadd, 1) := by decide +kernel
theorem dX9_cut_192 : decode cX9_cut 192 = .ok (.istore_n 1, 1) := by decide +kernel
theorem dX9_cut_193 : decode cX9_cut 193 = .ok (.goto 98, 3) := by decide +kernel
theorem dX9_cut_196 : decode cX9_cut 196 = .ok (.iload_n 2, 1) := by decide +kernel
theorem dX9_cut_197 : decode cX9_cut 197 = .ok (.invokestatic 196, 3) := by decide +kernel
theorem dX9_cut_200 : decode cX9_cut 200 = .ok (.ifCond .eq 75, 3) := by decide +kernel
theorem dX9_cut_203 : decode cX9_cut 203 = .ok (.iconst 0, 1) := by decide +kernel
theorem dX9_cut_204 : decode cX9_cut 204 = .ok (.istore_n 3, 1) := by decide +kernel
theorem dX9_cut_205 : decode cX9_cut 205 = .ok (.iconst 0, 1) := by decide +kernel
theorem dX9_cut_206 : decode cX9_cut 206 = .ok (.istore 4, 2) := by decide +kernel
theorem dX9_cut_208 : decode cX9_cut 208 = .ok (.aload_n 0, 1) := by decide +kernel
theorem dX9_cut_209 : decode cX9_cut 209 = .ok (.iload_n 1, 1) := by decide +kernel
theorem dX9_cut_210 : decode cX9_cut 210 = .ok (.iload_n 3, 1) := by decide +kernel
theorem dX9_cut_211 : decode cX9_cut 211 = .ok (.iadd, 1) := by decide +kernel
theorem dX9_cut_212 : decode cX9_cut 212 = .ok (.invokevirtual 184, 3) := by decide +kernel
theorem dX9_cut_215 : decode cX9_cut 215 = .ok (.invokestatic 196, 3) := by decide +kernel
theorem dX9_cut_218 : decode cX9_cut 218 = .ok (.ifCond .eq 32, 3) := by decide +kernel
theorem dX9_cut_221 : decode cX9_cut 221 = .ok (.iload_n 3, 1) := by decide +kernel
theorem dX9_cut_222 : decode cX9_cut 222 = .ok (.iconst 4, 1) := by decide +kernel
theorem dX9_cut_223 : decode cX9_cut 223 = .ok (.if_icmp .ge 21, 3) := by decide +kernel
theorem dX9_cut_226 : decode cX9_cut 226 = .ok (.bipush 10, 2) := by decide +kernel
theorem dX9_cut_228 : decode cX9_cut 228 = .ok (.iload 4, 2) := by decide +kernel
theorem dX9_cut_230 : decode cX9_cut 230 = .ok (.imul, 1) := by decide +kernel
theorem dX9_cut_231 : decode cX9_cut 231 = .ok (.aload_n 0, 1) := by decide +kernel
theorem dX9_cut_232 : decode cX9_cut 232 = .ok (.iload_n 1, 1) := by decide +kernel
theorem dX9_cut_233 : decode cX9_cut 233 = .ok (.iload_n 3, 1) := by decide +kernel
theorem dX9_cut_234 : decode cX9_cut 234 = .ok (.iadd, 1) := by decide +kernel
theorem dX9_cut_235 : decode cX9_cut 235 = .ok (.invokevirtual 184, 3) := by decide +kernel
theorem dX9_cut_238 : decode cX9_cut 238 = .ok (.iadd, 1) := by decide +kernel
theorem dX9_cut_239 : decode cX9_cut 239 = .ok (.bipush 48, 2) := by decide +kernel
theorem dX9_cut_241 : decode cX9_cut 241 = .ok (.isub, 1) := by decide +kernel
theorem dX9_cut_242 : decode cX9_cut 242 = .ok (.istore 4, 2) := by decide +kernel
theorem dX9_cut_244 : decode cX9_cut 244 = .ok (.iinc 3 1, 3) := by decide +kernel
theorem dX9_cut_247 : decode cX9_cut 247 = .ok (.goto (-39), 3) := by decide +kernel
theorem dX9_cut_250 : decode cX9_cut 250 = .ok (.aload_n 0, 1) := by decide +kernel
theorem dX9_cut_251 : decode cX9_cut 251 = .ok (.iload_n 3, 1) := by decide +kernel
theorem dX9_cut_252 : decode cX9_cut 252 = .ok (.iconst 4, 1) := by decide +kernel
theorem dX9_cut_253 : decode cX9_cut 253 = .ok (.if_icmp .le 7, 3) := by decide +kernel
theorem dX9_cut_256 : decode cX9_cut 256 = .ok (.iconst 3, 1) := by decide +kernel
theorem dX9_cut_257 : decode cX9_cut 257 = .ok (.goto 4, 3) := by decide +kernel
theorem dX9_cut_260 : decode cX9_cut 260 = .ok (.iconst 2, 1) := by decide +kernel
theorem dX9_cut_261 : decode cX9_cut 261 = .ok (.iload_n 1, 1) := by decide +kernel
theorem dX9_cut_262 : decode cX9_cut 262 = .ok (.iload 4, 2) := by decide +kernel
theorem dX9_cut_264 : decode cX9_cut 264 = .ok (.lconst 0, 1) := by decide +kernel
theorem dX9_cut_265 : decode cX9_cut 265 = .ok (.invokevirtual 188, 3) := by decide +kernel
theorem dX9_cut_268 : decode cX9_cut 268 = .ok (.iload_n 1, 1) := by decide +kernel
theorem dX9_cut_269 : decode cX9_cut 269 = .ok (.iload_n 3, 1) := by decide +kernel
theorem dX9_cut_270 : decode cX9_cut 270 = .ok (.iadd, 1) := by decide +kernel
theorem dX9_cut_271 : decode cX9_cut 271 = .ok (.istore_n 1, 1) := by decide +kernel
theorem dX9_cut_272 : decode cX9_cut 272 = .ok (.goto 19, 3) := by decide +kernel
theorem dX9_cut_275 : decode cX9_cut 275 = .ok (.iload_n 1, 1) := by decide +kernel
theorem dX9_cut_276 : decode cX9_cut 276 = .ok (.aload_n 0, 1) := by decide +kernel
theorem dX9_cut_277 : decode cX9_cut 277 = .ok (.iload_n 1, 1) := by decide +kernel
theorem dX9_cut_278 : decode cX9_cut 278 = .ok (.iload_n 2, 1) := by decide +kernel
theorem dX9_cut_279 : decode cX9_cut 279 = .ok (.aload_n 0, 1) := by decide +kernel
theorem dX9_cut_280 : decode cX9_cut 280 = .ok (.iload_n 1, 1) := by decide +kernel
theorem dX9_cut_281 : decode cX9_cut 281 = .ok (.iconst 1, 1) := by decide +kernel
theorem dX9_cut_282 : decode cX9_cut 282 = .ok (.iadd, 1) := by decide +kernel
theorem dX9_cut_283 : decode cX9_cut 283 = .ok (.invokevirtual 184, 3) := by decide +kernel
theorem dX9_cut_286 : decode cX9_cut 286 = .ok (.invokevirtual 199, 3) := by decide +kernel
theorem dX9_cut_289 : decode cX9_cut 289 = .ok (.iadd, 1) := by decide +kernel
theorem dX9_cut_290 : decode cX9_cut 290 = .ok (.istore_n 1, 1) := by decide +kernel
theorem dX9_cut_291 : decode cX9_cut 291 = .ok (.goto (-284), 3) := by decide +kernel
theorem dX9_cut_294 : decode cX9_cut 294 = .ok (.return_, 1) := by decide +kernel
theorem dX9_sign_0 : decode cX9_sign 0 = .ok (.iload_n 2, 1) := by decide +kernel
theorem dX9_sign_1 : decode cX9_sign 1 = .ok (.bipush 59, 2) := by decide +kernel
theorem dX9_sign_3 : decode cX9_sign 3 = .ok (.if_icmp .ne 7, 3) := by decide +kernel
theorem dX9_sign_6 : decode cX9_sign 6 = .ok (.iconst 4, 1) := by decide +kernel
theorem dX9_sign_7 : decode cX9_sign 7 = .ok (.goto 36, 3) := by decide +kernel
theorem dX9_sign_10 : decode cX9_sign 10 = .ok (.iload_n 2, 1) := by decide +kernel
theorem dX9_sign_11 : decode cX9_sign 11 = .ok (.bipush 61, 2) := by decide +kernel
theorem dX9_sign_13 : decode cX9_sign 13 = .ok (.if_icmp .ne 7, 3) := by decide +kernel
theorem dX9_sign_16 : decode cX9_sign 16 = .ok (.iconst 5, 1) := by decide +kernel
theorem dX9_sign_17 : decode cX9_sign 17 = .ok (.goto 26, 3) := by decide +kernel
theorem dX9_sign_20 : decode cX9_sign 20 = .ok (.iload_n 2, 1) := by decide +kernel
theorem dX9_sign_21 : decode cX9_sign 21 = .ok (.bipush 40, 2) := by decide +kernel
theorem dX9_sign_23 : decode cX9_sign 23 = .ok (.if_icmp .ne 8, 3) := by decide +kernel
theorem dX9_sign_26 : decode cX9_sign 26 = .ok (.bipush 6, 2) := by decide +kernel
theorem dX9_sign_28 : decode cX9_sign 28 = .ok (.goto 15, 3) := by decide +kernel
theorem dX9_sign_31 : decode cX9_sign 31 = .ok (.iload_n 2, 1) := by decide +kernel
theorem dX9_sign_32 : decode cX9_sign 32 = .ok (.bipush 41, 2) := by decide +kernel
theorem dX9_sign_34 : decode cX9_sign 34 = .ok (.if_icmp .ne 8, 3) := by decide +kernel
theorem dX9_sign_37 : decode cX9_sign 37 = .ok (.bipush 7, 2) := by decide +kernel
theorem dX9_sign_39 : decode cX9_sign 39 = .ok (.goto 4, 3) := by decide +kernel
theorem dX9_sign_42 : decode cX9_sign 42 = .ok (.iconst 3, 1) := by decide +kernel
theorem dX9_sign_43 : decode cX9_sign 43 = .ok (.istore 4, 2) := by decide +kernel
theorem dX9_sign_45 : decode cX9_sign 45 = .ok (.iload_n 2, 1) := by decide +kernel
theorem dX9_sign_46 : decode cX9_sign 46 = .ok (.bipush 43, 2) := by decide +kernel
theorem dX9_sign_48 : decode cX9_sign 48 = .ok (.if_icmp .ne 7, 3) := by decide +kernel
theorem dX9_sign_51 : decode cX9_sign 51 = .ok (.bipush 8, 2) := by decide +kernel
theorem dX9_sign_53 : decode cX9_sign 53 = .ok (.istore 4, 2) := by decide +kernel
theorem dX9_sign_55 : decode cX9_sign 55 = .ok (.iload_n 2, 1) := by decide +kernel
theorem dX9_sign_56 : decode cX9_sign 56 = .ok (.bipush 45, 2) := by decide +kernel
theorem dX9_sign_58 : decode cX9_sign 58 = .ok (.if_icmp .ne 7, 3) := by decide +kernel
theorem dX9_sign_61 : decode cX9_sign 61 = .ok (.bipush 9, 2) := by decide +kernel
theorem dX9_sign_63 : decode cX9_sign 63 = .ok (.istore 4, 2) := by decide +kernel
theorem dX9_sign_65 : decode cX9_sign 65 = .ok (.iload_n 2, 1) := by decide +kernel
theorem dX9_sign_66 : decode cX9_sign 66 = .ok (.bipush 42, 2) := by decide +kernel
theorem dX9_sign_68 : decode cX9_sign 68 = .ok (.if_icmp .ne 7, 3) := by decide +kernel
theorem dX9_sign_71 : decode cX9_sign 71 = .ok (.bipush 10, 2) := by decide +kernel
theorem dX9_sign_73 : decode cX9_sign 73 = .ok (.istore 4, 2) := by decide +kernel
theorem dX9_sign_75 : decode cX9_sign 75 = .ok (.iload_n 2, 1) := by decide +kernel
theorem dX9_sign_76 : decode cX9_sign 76 = .ok (.bipush 47, 2) := by decide +kernel
theorem dX9_sign_78 : decode cX9_sign 78 = .ok (.if_icmp .ne 7, 3) := by decide +kernel
theorem dX9_sign_81 : decode cX9_sign 81 = .ok (.bipush 15, 2) := by decide +kernel
theorem dX9_sign_83 : decode cX9_sign 83 = .ok (.istore 4, 2) := by decide +kernel
theorem dX9_sign_85 : decode cX9_sign 85 = .ok (.iload_n 2, 1) := by decide +kernel
theorem dX9_sign_86 : decode cX9_sign 86 = .ok (.bipush 60, 2) := by decide +kernel
theorem dX9_sign_88 : decode cX9_sign 88 = .ok (.if_icmp .ne 7, 3) := by decide +kernel
theorem dX9_sign_91 : decode cX9_sign 91 = .ok (.bipush 13, 2) := by decide +kernel
theorem dX9_sign_93 : decode cX9_sign 93 = .ok (.istore 4, 2) := by decide +kernel
theorem dX9_sign_95 : decode cX9_sign 95 = .ok (.aload_n 0, 1) := by decide +kernel
theorem dX9_sign_96 : decode cX9_sign 96 = .ok (.iload 4, 2) := by decide +kernel
theorem dX9_sign_98 : decode cX9_sign 98 = .ok (.iload_n 1, 1) := by decide +kernel
theorem dX9_sign_99 : decode cX9_sign 99 = .ok (.iconst 0, 1) := by decide +kernel
theorem dX9_sign_100 : decode cX9_sign 100 = .ok (.lconst 0, 1) := by decide +kernel
theorem dX9_sign_101 : decode cX9_sign 101 = .ok (.invokevirtual 188, 3) := by decide +kernel
theorem dX9_sign_104 : decode cX9_sign 104 = .ok (.iconst 1, 1) := by decide +kernel
theorem dX9_sign_105 : decode cX9_sign 105 = .ok (.ireturn, 1) := by decide +kernel
theorem dX9_is_0 : decode cX9_is 0 = .ok (.aload_n 0, 1) := by decide +kernel
theorem dX9_is_1 : decode cX9_is 1 = .ok (.getfield 203, 3) := by decide +kernel
theorem dX9_is_4 : decode cX9_is 4 = .ok (.ifCond .ne 20, 3) := by decide +kernel
theorem dX9_is_7 : decode cX9_is 7 = .ok (.aload_n 0, 1) := by decide +kernel
theorem dX9_is_8 : decode cX9_is 8 = .ok (.getfield 20, 3) := by decide +kernel
theorem dX9_is_11 : decode cX9_is 11 = .ok (.aload_n 0, 1) := by decide +kernel
theorem dX9_is_12 : decode cX9_is 12 = .ok (.getfield 206, 3) := by decide +kernel
theorem dX9_is_15 : decode cX9_is 15 = .ok (.iaload, 1) := by decide +kernel
theorem dX9_is_16 : decode cX9_is 16 = .ok (.iload_n 1, 1) := by decide +kernel
theorem dX9_is_17 : decode cX9_is 17 = .ok (.if_icmp .ne 7, 3) := by decide +kernel
theorem dX9_is_20 : decode cX9_is 20 = .ok (.iconst 1, 1) := by decide +kernel
theorem dX9_is_21 : decode cX9_is 21 = .ok (.goto 4, 3) := by decide +kernel
theorem dX9_is_24 : decode cX9_is 24 = .ok (.iconst 0, 1) := by decide +kernel
theorem dX9_is_25 : decode cX9_is 25 = .ok (.ireturn, 1) := by decide +kernel
theorem dX9_fail_0 : decode cX9_fail 0 = .ok (.aload_n 0, 1) := by decide +kernel
theorem dX9_fail_1 : decode cX9_fail 1 = .ok (.getfield 203, 3) := by decide +kernel
theorem dX9_fail_4 : decode cX9_fail 4 = .ok (.ifCond .le 4, 3) := by decide +kernel
theorem dX9_fail_7 : decode cX9_fail 7 = .ok (.return_, 1) := by decide +kernel
theorem dX9_fail_8 : decode cX9_fail 8 = .ok (.aload_n 0, 1) := by decide +kernel
theorem dX9_fail_9 : decode cX9_fail 9 = .ok (.iload_n 1, 1) := by decide +kernel
theorem dX9_fail_10 : decode cX9_fail 10 = .ok (.putfield 203, 3) := by decide +kernel
theorem dX9_fail_13 : decode cX9_fail 13 = .ok (.aload_n 0, 1) := by decide +kernel
theorem dX9_fail_14 : decode cX9_fail 14 = .ok (.aload_n 0, 1) := by decide +kernel
theorem dX9_fail_15 : decode cX9_fail 15 = .ok (.getfield 24, 3) := by decide +kernel
theorem dX9_fail_18 : decode cX9_fail 18 = .ok (.aload_n 0, 1) := by decide +kernel
theorem dX9_fail_19 : decode cX9_fail 19 = .ok (.getfield 206, 3) := by decide +kernel
theorem dX9_fail_22 : decode cX9_fail 22 = .ok (.iaload, 1) := by decide +kernel
theorem dX9_fail_23 : decode cX9_fail 23 = .ok (.putfield 209, 3) := by decide +kernel
theorem dX9_fail_26 : decode cX9_fail 26 = .ok (.return_, 1) := by decide +kernel
theorem dX9_wrong_0 : decode cX9_wrong 0 = .ok (.aload_n 0, 1) := by decide +kernel
theorem dX9_wrong_1 : decode cX9_wrong 1 = .ok (.getfield 24, 3) := by decide +kernel
theorem dX9_wrong_4 : decode cX9_wrong 4 = .ok (.iload_n 2, 1) := by decide +kernel
theorem dX9_wrong_5 : decode cX9_wrong 5 = .ok (.iaload, 1) := by decide +kernel
theorem dX9_wrong_6 : decode cX9_wrong 6 = .ok (.istore_n 3, 1) := by decide +kernel
theorem dX9_wrong_7 : decode cX9_wrong 7 = .ok (.aload_n 0, 1) := by decide +kernel
theorem dX9_wrong_8 : decode cX9_wrong 8 = .ok (.getfield 203, 3) := by decide +kernel
theorem dX9_wrong_11 : decode cX9_wrong 11 = .ok (.ifCond .gt 34, 3) := by decide +kernel
theorem dX9_wrong_14 : decode cX9_wrong 14 = .ok (.aload_n 0, 1) := by decide +kernel
theorem dX9_wrong_15 : decode cX9_wrong 15 = .ok (.getfield 212, 3) := by decide +kernel
theorem dX9_wrong_18 : decode cX9_wrong 18 = .ok (.ifCond .eq 28, 3) := by decide +kernel
theorem dX9_wrong_21 : decode cX9_wrong 21 = .ok (.iload_n 3, 1) := by decide +kernel
theorem dX9_wrong_22 : decode cX9_wrong 22 = .ok (.aload_n 0, 1) := by decide +kernel
theorem dX9_wrong_23 : decode cX9_wrong 23 = .ok (.getfield 215, 3) := by decide +kernel
theorem dX9_wrong_26 : decode cX9_wrong 26 = .ok (.if_icmp .gt 19, 3) := by decide +kernel
theorem dX9_wrong_29 : decode cX9_wrong 29 = .ok (.iload_n 3, 1) := by decide +kernel
theorem dX9_wrong_30 : decode cX9_wrong 30 = .ok (.aload_n 0, 1) := by decide +kernel
theorem dX9_wrong_31 : decode cX9_wrong 31 = .ok (.getfield 215, 3) := by decide +kernel
theorem dX9_wrong_34 : decode cX9_wrong 34 = .ok (.if_icmp .ne 12, 3) := by decide +kernel
theorem dX9_wrong_37 : decode cX9_wrong 37 = .ok (.iload_n 1, 1) := by decide +kernel
theorem dX9_wrong_38 : decode cX9_wrong 38 = .ok (.aload_n 0, 1) := by decide +kernel
theorem dX9_wrong_39 : decode cX9_wrong 39 = .ok (.getfield 212, 3) := by decide +kernel
theorem dX9_wrong_42 : decode cX9_wrong 42 = .ok (.if_icmp .lt 4, 3) := by decide +kernel
theorem dX9_wrong_45 : decode cX9_wrong 45 = .ok (.return_, 1) := by decide +kernel
theorem dX9_wrong_46 : decode cX9_wrong 46 = .ok (.aload_n 0, 1) := by decide +kernel
theorem dX9_wrong_47 : decode cX9_wrong 47 = .ok (.iload_n 1, 1) := by decide +kernel
theorem dX9_wrong_48 : decode cX9_wrong 48 = .ok (.putfield 212, 3) := by decide +kernel
theorem dX9_wrong_51 : decode cX9_wrong 51 = .ok (.aload_n 0, 1) := by decide +kernel
theorem dX9_wrong_52 : decode cX9_wrong 52 = .ok (.iload_n 3, 1) := by decide +kernel
theorem dX9_wrong_53 : decode cX9_wrong 53 = .ok (.putfield 215, 3) := by decide +kernel
theorem dX9_wrong_56 : decode cX9_wrong 56 = .ok (.return_, 1) := by decide +kernel
theorem dX9_goesOn_0 : decode cX9_goesOn 0 = .ok (.aload_n 0, 1) := by decide +kernel
theorem dX9_goesOn_1 : decode cX9_goesOn 1 = .ok (.getfield 206, 3) := by decide +kernel
theorem dX9_goesOn_4 : decode cX9_goesOn 4 = .ok (.sipush 400, 3) := by decide +kernel
theorem dX9_goesOn_7 : decode cX9_goesOn 7 = .ok (.if_icmp .ne 11, 3) := by decide +kernel
theorem dX9_goesOn_10 : decode cX9_goesOn 10 = .ok (.aload_n 0, 1) := by decide +kernel
theorem dX9_goesOn_11 : decode cX9_goesOn 11 = .ok (.iconst 2, 1) := by decide +kernel
theorem dX9_goesOn_12 : decode cX9_goesOn 12 = .ok (.invokevirtual 218, 3) := by decide +kernel
theorem dX9_goesOn_15 : decode cX9_goesOn 15 = .ok (.goto 13, 3) := by decide +kernel
theorem dX9_goesOn_18 : decode cX9_goesOn 18 = .ok (.aload_n 0, 1) := by decide +kernel
theorem dX9_goesOn_19 : decode cX9_goesOn 19 = .ok (.dup, 1) := by decide +kernel
theorem dX9_goesOn_20 : decode cX9_goesOn 20 = .ok (.getfield 206, 3) := by decide +kernel
theorem dX9_goesOn_23 : decode cX9_goesOn 23 = .ok (.iconst 1, 1) := by decide +kernel
theorem dX9_goesOn_24 : decode cX9_goesOn 24 = .ok (.iadd, 1) := by decide +kernel
theorem dX9_goesOn_25 : decode cX9_goesOn 25 = .ok (.putfield 206, 3) := by decide +kernel
theorem dX9_goesOn_28 : decode cX9_goesOn 28 = .ok (.return_, 1) := by decide +kernel
theorem dX9_must_0 : decode cX9_must 0 = .ok (.aload_n 0, 1) := by decide +kernel
theorem dX9_must_1 : decode cX9_must 1 = .ok (.iload_n 1, 1) := by decide +kernel
theorem dX9_must_2 : decode cX9_must 2 = .ok (.invokevirtual 221, 3) := by decide +kernel
theorem dX9_must_5 : decode cX9_must 5 = .ok (.ifCond .eq 10, 3) := by decide +kernel
theorem dX9_must_8 : decode cX9_must 8 = .ok (.aload_n 0, 1) := by decide +kernel
theorem dX9_must_9 : decode cX9_must 9 = .ok (.invokevirtual 224, 3) := by decide +kernel
theorem dX9_must_12 : decode cX9_must 12 = .ok (.goto 8, 3) := by decide +kernel
theorem dX9_must_15 : decode cX9_must 15 = .ok (.aload_n 0, 1) := by decide +kernel
theorem dX9_must_16 : decode cX9_must 16 = .ok (.iconst 1, 1) := by decide +kernel
theorem dX9_must_17 : decode cX9_must 17 = .ok (.invokevirtual 218, 3) := by decide +kernel
theorem dX9_must_20 : decode cX9_must 20 = .ok (.return_, 1) := by decide +kernel
theorem dX9_plain_0 : decode cX9_plain 0 = .ok (.iconst 0, 1) := by decide +kernel
theorem dX9_plain_1 : decode cX9_plain 1 = .ok (.istore_n 2, 1) := by decide +kernel
theorem dX9_plain_2 : decode cX9_plain 2 = .ok (.iload_n 2, 1) := by decide +kernel
theorem dX9_plain_3 : decode cX9_plain 3 = .ok (.iconst 4, 1) := by decide +kernel
theorem dX9_plain_4 : decode cX9_plain 4 = .ok (.if_icmp .ge 20, 3) := by decide +kernel
theorem dX9_plain_7 : decode cX9_plain 7 = .ok (.aload_n 0, 1) := by decide +kernel
theorem dX9_plain_8 : decode cX9_plain 8 = .ok (.getfield 43, 3) := by decide +kernel
theorem dX9_plain_11 : decode cX9_plain 11 = .ok (.iconst 4, 1) := by decide +kernel
theorem dX9_plain_12 : decode cX9_plain 12 = .ok (.iload_n 1, 1) := by decide +kernel
theorem dX9_plain_13 : decode cX9_plain 13 = .ok (.imul, 1) := by decide +kernel
theorem dX9_plain_14 : decode cX9_plain 14 = .ok (.iload_n 2, 1) := by decide +kernel
theorem dX9_plain_15 : decode cX9_plain 15 = .ok (.iadd, 1) := by decide +kernel
theorem dX9_plain_16 : decode cX9_plain 16 = .ok (.iconst 0, 1) := by decide +kernel
theorem dX9_plain_17 : decode cX9_plain 17 = .ok (.iastore, 1) := by decide +kernel
theorem dX9_plain_18 : decode cX9_plain 18 = .ok (.iinc 2 1, 3) := by decide +kernel
theorem dX9_plain_21 : decode cX9_plain 21 = .ok (.goto (-19), 3) := by decide +kernel
theorem dX9_plain_24 : decode cX9_plain 24 = .ok (.aload_n 0, 1) := by decide +kernel
theorem dX9_plain_25 : decode cX9_plain 25 = .ok (.getfield 46, 3) := by decide +kernel
theorem dX9_plain_28 : decode cX9_plain 28 = .ok (.iload_n 1, 1) := by decide +kernel
theorem dX9_plain_29 : decode cX9_plain 29 = .ok (.iconst 0, 1) := by decide +kernel
theorem dX9_plain_30 : decode cX9_plain 30 = .ok (.iastore, 1) := by decide +kernel
theorem dX9_plain_31 : decode cX9_plain 31 = .ok (.aload_n 0, 1) := by decide +kernel
theorem dX9_plain_32 : decode cX9_plain 32 = .ok (.getfield 65, 3) := by decide +kernel
theorem dX9_plain_35 : decode cX9_plain 35 = .ok (.iload_n 1, 1) := by decide +kernel
theorem dX9_plain_36 : decode cX9_plain 36 = .ok (.bipush 20, 2) := by decide +kernel
theorem dX9_plain_38 : decode cX9_plain 38 = .ok (.iastore, 1) := by decide +kernel
theorem dX9_plain_39 : decode cX9_plain 39 = .ok (.aload_n 0, 1) := by decide +kernel
theorem dX9_plain_40 : decode cX9_plain 40 = .ok (.getfield 68, 3) := by decide +kernel
theorem dX9_plain_43 : decode cX9_plain 43 = .ok (.iload_n 1, 1) := by decide +kernel
theorem dX9_plain_44 : decode cX9_plain 44 = .ok (.bipush 30, 2) := by decide +kernel
theorem dX9_plain_46 : decode cX9_plain 46 = .ok (.iastore, 1) := by decide +kernel
theorem dX9_plain_47 : decode cX9_plain 47 = .ok (.aload_n 0, 1) := by decide +kernel
theorem dX9_plain_48 : decode cX9_plain 48 = .ok (.getfield 71, 3) := by decide +kernel
theorem dX9_plain_51 : decode cX9_plain 51 = .ok (.iload_n 1, 1) := by decide +kernel
theorem dX9_plain_52 : decode cX9_plain 52 = .ok (.iconst 0, 1) := by decide +kernel
theorem dX9_plain_53 : decode cX9_plain 53 = .ok (.iastore, 1) := by decide +kernel
theorem dX9_plain_54 : decode cX9_plain 54 = .ok (.iconst 0, 1) := by decide +kernel
theorem dX9_plain_55 : decode cX9_plain 55 = .ok (.istore_n 2, 1) := by decide +kernel
theorem dX9_plain_56 : decode cX9_plain 56 = .ok (.iload_n 2, 1) := by decide +kernel
theorem dX9_plain_57 : decode cX9_plain 57 = .ok (.bipush 7, 2) := by decide +kernel
theorem dX9_plain_59 : decode cX9_plain 59 = .ok (.if_icmp .ge 33, 3) := by decide +kernel
theorem dX9_plain_62 : decode cX9_plain 62 = .ok (.aload_n 0, 1) := by decide +kernel
theorem dX9_plain_63 : decode cX9_plain 63 = .ok (.getfield 74, 3) := by decide +kernel
theorem dX9_plain_66 : decode cX9_plain 66 = .ok (.bipush 7, 2) := by decide +kernel
theorem dX9_plain_68 : decode cX9_plain 68 = .ok (.iload_n 1, 1) := by decide +kernel
theorem dX9_plain_69 : decode cX9_plain 69 = .ok (.imul, 1) := by decide +kernel
theorem dX9_plain_70 : decode cX9_plain 70 = .ok (.iload_n 2, 1) := by decide +kernel
theorem dX9_plain_71 : decode cX9_plain 71 = .ok (.iadd, 1) := by decide +kernel
theorem dX9_plain_72 : decode cX9_plain 72 = .ok (.iconst 0, 1) := by decide +kernel
theorem dX9_plain_73 : decode cX9_plain 73 = .ok (.iastore, 1) := by decide +kernel
theorem dX9_plain_74 : decode cX9_plain 74 = .ok (.aload_n 0, 1) := by decide +kernel
theorem dX9_plain_75 : decode cX9_plain 75 = .ok (.getfield 77, 3) := by decide +kernel
theorem dX9_plain_78 : decode cX9_plain 78 = .ok (.bipush 7, 2) := by decide +kernel
theorem dX9_plain_80 : decode cX9_plain 80 = .ok (.iload_n 1, 1) := by decide +kernel
theorem dX9_plain_81 : decode cX9_plain 81 = .ok (.imul, 1) := by decide +kernel
theorem dX9_plain_82 : decode cX9_plain 82 = .ok (.iload_n 2, 1) := by decide +kernel
theorem dX9_plain_83 : decode cX9_plain 83 = .ok (.iadd, 1) := by decide +kernel
theorem dX9_plain_84 : decode cX9_plain 84 = .ok (.iconst 0, 1) := by decide +kernel
theorem dX9_plain_85 : decode cX9_plain 85 = .ok (.iastore, 1) := by decide +kernel
theorem dX9_plain_86 : decode cX9_plain 86 = .ok (.iinc 2 1, 3) := by decide +kernel
theorem dX9_plain_89 : decode cX9_plain 89 = .ok (.goto (-33), 3) := by decide +kernel
theorem dX9_plain_92 : decode cX9_plain 92 = .ok (.return_, 1) := by decide +kernel
theorem dX9_read_0 : decode cX9_read 0 = .ok (.aload_n 0, 1) := by decide +kernel
theorem dX9_read_1 : decode cX9_read 1 = .ok (.aload_n 0, 1) := by decide +kernel
theorem dX9_read_2 : decode cX9_read 2 = .ok (.getfield 166, 3) := by decide +kernel
theorem dX9_read_5 : decode cX9_read 5 = .ok (.putfield 172, 3) := by decide +kernel
theorem dX9_read_8 : decode cX9_read 8 = .ok (.iconst 0, 1) := by decide +kernel
theorem dX9_read_9 : decode cX9_read 9 = .ok (.istore_n 1, 1) := by decide +kernel
theorem dX9_read_10 : decode cX9_read 10 = .ok (.iload_n 1, 1) := by decide +kernel
theorem dX9_read_11 : decode cX9_read 11 = .ok (.aload_n 0, 1) := by decide +kernel
theorem dX9_read_12 : decode cX9_read 12 = .ok (.getfield 172, 3) := by decide +kernel
theorem dX9_read_15 : decode cX9_read 15 = .ok (.if_icmp .ge 21, 3) := by decide +kernel
theorem dX9_read_18 : decode cX9_read 18 = .ok (.aload_n 0, 1) := by decide +kernel
theorem dX9_read_19 : decode cX9_read 19 = .ok (.getfield 17, 3) := by decide +kernel
theorem dX9_read_22 : decode cX9_read 22 = .ok (.iload_n 1, 1) := by decide +kernel
theorem dX9_read_23 : decode cX9_read 23 = .ok (.aload_n 0, 1) := by decide +kernel
theorem dX9_read_24 : decode cX9_read 24 = .ok (.getfield 13, 3) := by decide +kernel
theorem dX9_read_27 : decode cX9_read 27 = .ok (.iload_n 1, 1) := by decide +kernel
theorem dX9_read_28 : decode cX9_read 28 = .ok (.baload, 1) := by decide +kernel
theorem dX9_read_29 : decode cX9_read 29 = .ok (.bastore, 1) := by decide +kernel
theorem dX9_read_30 : decode cX9_read 30 = .ok (.iinc 1 1, 3) := by decide +kernel
theorem dX9_read_33 : decode cX9_read 33 = .ok (.goto (-23), 3) := by decide +kernel
theorem dX9_read_36 : decode cX9_read 36 = .ok (.aload_n 0, 1) := by decide +kernel
theorem dX9_read_37 : decode cX9_read 37 = .ok (.iconst 0, 1) := by decide +kernel
theorem dX9_read_38 : decode cX9_read 38 = .ok (.putfield 166, 3) := by decide +kernel
theorem dX9_read_41 : decode cX9_read 41 = .ok (.aload_n 0, 1) := by decide +kernel
theorem dX9_read_42 : decode cX9_read 42 = .ok (.invokevirtual 227, 3) := by decide +kernel
theorem dX9_read_45 : decode cX9_read 45 = .ok (.aload_n 0, 1) := by decide +kernel
theorem dX9_read_46 : decode cX9_read 46 = .ok (.iconst 0, 1) := by decide +kernel
theorem dX9_read_47 : decode cX9_read 47 = .ok (.putfield 206, 3) := by decide +kernel
theorem dX9_read_50 : decode cX9_read 50 = .ok (.aload_n 0, 1) := by decide +kernel
theorem dX9_read_51 : decode cX9_read 51 = .ok (.iconst 0, 1) := by decide +kernel
theorem dX9_read_52 : decode cX9_read 52 = .ok (.putfield 230, 3) := by decide +kernel
theorem dX9_read_55 : decode cX9_read 55 = .ok (.aload_n 0, 1) := by decide +kernel
theorem dX9_read_56 : decode cX9_read 56 = .ok (.iconst 0, 1) := by decide +kernel
theorem dX9_read_57 : decode cX9_read 57 = .ok (.putfield 203, 3) := by decide +kernel
theorem dX9_read_60 : decode cX9_read 60 = .ok (.aload_n 0, 1) := by decide +kernel
theorem dX9_read_61 : decode cX9_read 61 = .ok (.iconst 0, 1) := by decide +kernel
theorem dX9_read_62 : decode cX9_read 62 = .ok (.putfield 212, 3) := by decide +kernel
theorem dX9_read_65 : decode cX9_read 65 = .ok (.aload_n 0, 1) := by decide +kernel
theorem dX9_read_66 : decode cX9_read 66 = .ok (.iconst 1, 1) := by decide +kernel
theorem dX9_read_67 : decode cX9_read 67 = .ok (.aload_n 0, 1) := by decide +kernel
theorem dX9_read_68 : decode cX9_read 68 = .ok (.getfield 233, 3) := by decide +kernel
theorem dX9_read_71 : decode cX9_read 71 = .ok (.isub, 1) := by decide +kernel
theorem dX9_read_72 : decode cX9_read 72 = .ok (.putfield 236, 3) := by decide +kernel
theorem dX9_read_75 : decode cX9_read 75 = .ok (.aload_n 0, 1) := by decide +kernel
theorem dX9_read_76 : decode cX9_read 76 = .ok (.iconst 0, 1) := by decide +kernel
theorem dX9_read_77 : decode cX9_read 77 = .ok (.putfield 239, 3) := by decide +kernel
theorem dX9_read_80 : decode cX9_read 80 = .ok (.aload_n 0, 1) := by decide +kernel
theorem dX9_read_81 : decode cX9_read 81 = .ok (.aload_n 0, 1) := by decide +kernel
theorem dX9_read_82 : decode cX9_read 82 = .ok (.getfield 236, 3) := by decide +kernel
theorem dX9_read_85 : decode cX9_read 85 = .ok (.invokevirtual 152, 3) := by decide +kernel
theorem dX9_read_88 : decode cX9_read 88 = .ok (.aload_n 0, 1) := by decide +kernel
theorem dX9_read_89 : decode cX9_read 89 = .ok (.sipush 130, 3) := by decide +kernel
theorem dX9_read_92 : decode cX9_read 92 = .ok (.aload_n 0, 1) := by decide +kernel
theorem dX9_read_93 : decode cX9_read 93 = .ok (.getfield 236, 3) := by decide +kernel
theorem dX9_read_96 : decode cX9_read 96 = .ok (.imul, 1) := by decide +kernel
theorem dX9_read_97 : decode cX9_read 97 = .ok (.putfield 242, 3) := by decide +kernel
theorem dX9_read_100 : decode cX9_read 100 = .ok (.aload_n 0, 1) := by decide +kernel
theorem dX9_read_101 : decode cX9_read 101 = .ok (.sipush 420, 3) := by decide +kernel
theorem dX9_read_104 : decode cX9_read 104 = .ok (.aload_n 0, 1) := by decide +kernel
theorem dX9_read_105 : decode cX9_read 105 = .ok (.getfield 236, 3) := by decide +kernel
theorem dX9_read_108 : decode cX9_read 108 = .ok (.imul, 1) := by decide +kernel
theorem dX9_read_109 : decode cX9_read 109 = .ok (.putfield 245, 3) := by decide +kernel
theorem dX9_read_112 : decode cX9_read 112 = .ok (.aload_n 0, 1) := by decide +kernel
theorem dX9_read_113 : decode cX9_read 113 = .ok (.getfield 203, 3) := by decide +kernel
theorem dX9_read_116 : decode cX9_read 116 = .ok (.ifCond .ne 18, 3) := by decide +kernel
theorem dX9_read_119 : decode cX9_read 119 = .ok (.aload_n 0, 1) := by decide +kernel
theorem dX9_read_120 : decode cX9_read 120 = .ok (.iconst 0, 1) := by decide +kernel
theorem dX9_read_121 : decode cX9_read 121 = .ok (.invokevirtual 221, 3) := by decide +kernel
theorem dX9_read_124 : decode cX9_read 124 = .ok (.ifCond .ne 10, 3) := by decide +kernel
theorem dX9_read_127 : decode cX9_read 127 = .ok (.aload_n 0, 1) := by decide +kernel
theorem dX9_read_128 : decode cX9_read 128 = .ok (.invokevirtual 248, 3) := by decide +kernel
theorem dX9_read_131 : decode cX9_read 131 = .ok (.goto (-19), 3) := by decide +kernel
theorem dX9_read_134 : decode cX9_read 134 = .ok (.aload_n 0, 1) := by decide +kernel
theorem dX9_read_135 : decode cX9_read 135 = .ok (.aload_n 0, 1) := by decide +kernel
theorem dX9_read_136 : decode cX9_read 136 = .ok (.getfield 203, 3) := by decide +kernel
theorem dX9_read_139 : decode cX9_read 139 = .ok (.ifCond .le 10, 3) := by decide +kernel
theorem dX9_read_142 : decode cX9_read 142 = .ok (.aload_n 0, 1) := by decide +kernel
theorem dX9_read_143 : decode cX9_read 143 = .ok (.getfield 209, 3) := by decide +kernel
theorem dX9_read_146 : decode cX9_read 146 = .ok (.goto 18, 3) := by decide +kernel
theorem dX9_read_149 : decode cX9_read 149 = .ok (.aload_n 0, 1) := by decide +kernel
theorem dX9_read_150 : decode cX9_read 150 = .ok (.getfield 212, 3) := by decide +kernel
theorem dX9_read_153 : decode cX9_read 153 = .ok (.ifCond .le 10, 3) := by decide +kernel
theorem dX9_read_156 : decode cX9_read 156 = .ok (.aload_n 0, 1) := by decide +kernel
theorem dX9_read_157 : decode cX9_read 157 = .ok (.getfield 215, 3) := by decide +kernel
theorem dX9_read_160 : decode cX9_read 160 = .ok (.goto 4, 3) := by decide +kernel
theorem dX9_read_163 : decode cX9_read 163 = .ok (.iconst (-1), 1) := by decide +kernel
theorem dX9_read_164 : decode cX9_read 164 = .ok (.putfield 37, 3) := by decide +kernel
theorem dX9_read_167 : decode cX9_read 167 = .ok (.aload_n 0, 1) := by decide +kernel
theorem dX9_read_168 : decode cX9_read 168 = .ok (.getfield 203, 3) := by decide +kernel
theorem dX9_read_171 : decode cX9_read 171 = .ok (.ifCond .le 8, 3) := by decide +kernel
theorem dX9_read_174 : decode cX9_read 174 = .ok (.aload_n 0, 1) := by decide +kernel
theorem dX9_read_175 : decode cX9_read 175 = .ok (.getfield 203, 3) := by decide +kernel
theorem dX9_read_178 : decode cX9_read 178 = .ok (.ireturn, 1) := by decide +kernel
theorem dX9_read_179 : decode cX9_read 179 = .ok (.aload_n 0, 1) := by decide +kernel
theorem dX9_read_180 : decode cX9_read 180 = .ok (.getfield 212, 3) := by decide +kernel
theorem dX9_read_183 : decode cX9_read 183 = .ok (.ifCond .le 8, 3) := by decide +kernel
theorem dX9_read_186 : decode cX9_read 186 = .ok (.aload_n 0, 1) := by decide +kernel
theorem dX9_read_187 : decode cX9_read 187 = .ok (.getfield 212, 3) := by decide +kernel
theorem dX9_read_190 : decode cX9_read 190 = .ok (.ireturn, 1) := by decide +kernel
theorem dX9_read_191 : decode cX9_read 191 = .ok (.aload_n 0, 1) := by decide +kernel
theorem dX9_read_192 : decode cX9_read 192 = .ok (.aload_n 0, 1) := by decide +kernel
theorem dX9_read_193 : decode cX9_read 193 = .ok (.getfield 236, 3) := by decide +kernel
theorem dX9_read_196 : decode cX9_read 196 = .ok (.putfield 233, 3) := by decide +kernel
theorem dX9_read_199 : decode cX9_read 199 = .ok (.aload_n 0, 1) := by decide +kernel
theorem dX9_read_200 : decode cX9_read 200 = .ok (.invokevirtual 160, 3) := by decide +kernel
theorem dX9_read_203 : decode cX9_read 203 = .ok (.aload_n 0, 1) := by decide +kernel
theorem dX9_read_204 : decode cX9_read 204 = .ok (.invokevirtual 163, 3) := by decide +kernel
theorem dX9_read_207 : decode cX9_read 207 = .ok (.aload_n 0, 1) := by decide +kernel
theorem dX9_read_208 : decode cX9_read 208 = .ok (.iconst 0, 1) := by decide +kernel
theorem dX9_read_209 : decode cX9_read 209 = .ok (.putfield 251, 3) := by decide +kernel
theorem dX9_read_212 : decode cX9_read 212 = .ok (.aload_n 0, 1) := by decide +kernel
theorem dX9_read_213 : decode cX9_read 213 = .ok (.iconst 0, 1) := by decide +kernel
theorem dX9_read_214 : decode cX9_read 214 = .ok (.putfield 254, 3) := by decide +kernel
theorem dX9_read_217 : decode cX9_read 217 = .ok (.iconst 0, 1) := by decide +kernel
theorem dX9_read_218 : decode cX9_read 218 = .ok (.istore_n 1, 1) := by decide +kernel
theorem dX9_read_219 : decode cX9_read 219 = .ok (.iload_n 1, 1) := by decide +kernel
theorem dX9_read_220 : decode cX9_read 220 = .ok (.iconst 3, 1) := by decide +kernel
theorem dX9_read_221 : decode cX9_read 221 = .ok (.if_icmp .ge 16, 3) := by decide +kernel
theorem dX9_read_224 : decode cX9_read 224 = .ok (.aload_n 0, 1) := by decide +kernel
theorem dX9_read_225 : decode cX9_read 225 = .ok (.getfield 146, 3) := by decide +kernel
theorem dX9_read_228 : decode cX9_read 228 = .ok (.iload_n 1, 1) := by decide +kernel
theorem dX9_read_229 : decode cX9_read 229 = .ok (.iconst 0, 1) := by decide +kernel
theorem dX9_read_230 : decode cX9_read 230 = .ok (.bastore, 1) := by decide +kernel
theorem dX9_read_231 : decode cX9_read 231 = .ok (.iinc 1 1, 3) := by decide +kernel
theorem dX9_read_234 : decode cX9_read 234 = .ok (.goto (-15), 3) := by decide +kernel
theorem dX9_read_237 : decode cX9_read 237 = .ok (.iconst 0, 1) := by decide +kernel
theorem dX9_read_238 : decode cX9_read 238 = .ok (.ireturn, 1) := by decide +kernel
theorem dX9_place_0 : decode cX9_place 0 = .ok (.aload_n 0, 1) := by decide +kernel
theorem dX9_place_1 : decode cX9_place 1 = .ok (.getfield 37, 3) := by decide +kernel
theorem dX9_place_4 : decode cX9_place 4 = .ok (.ireturn, 1) := by decide +kernel
theorem dX9_tellOne_0 : decode cX9_tellOne 0 = .ok (.aload_n 0, 1) := by decide +kernel
theorem dX9_tellOne_1 : decode cX9_tellOne 1 = .ok (.getfield 20, 3) := by decide +kernel
theorem dX9_tellOne_4 : decode cX9_tellOne 4 = .ok (.aload_n 0, 1) := by decide +kernel
theorem dX9_tellOne_5 : decode cX9_tellOne 5 = .ok (.getfield 206, 3) := by decide +kernel
theorem dX9_tellOne_8 : decode cX9_tellOne 8 = .ok (.iaload, 1) := by decide +kernel
theorem dX9_tellOne_9 : decode cX9_tellOne 9 = .ok (.tableswitch 230 20 32 #[67, 112, 230, 230, 230, 230, 230, 230, 230, 230, 145, 173, 201], 67) := by decide +kernel
theorem dX9_tellOne_76 : decode cX9_tellOne 76 = .ok (.aload_n 0, 1) := by decide +kernel
theorem dX9_tellOne_77 : decode cX9_tellOne 77 = .ok (.invokevirtual 224, 3) := by decide +kernel
theorem dX9_tellOne_80 : decode cX9_tellOne 80 = .ok (.iconst 0, 1) := by decide +kernel
theorem dX9_tellOne_81 : decode cX9_tellOne 81 = .ok (.istore_n 1, 1) := by decide +kernel
theorem dX9_tellOne_82 : decode cX9_tellOne 82 = .ok (.iload_n 1, 1) := by decide +kernel
theorem dX9_tellOne_83 : decode cX9_tellOne 83 = .ok (.iconst 4, 1) := by decide +kernel
theorem dX9_tellOne_84 : decode cX9_tellOne 84 = .ok (.if_icmp .ge 29, 3) := by decide +kernel
theorem dX9_tellOne_87 : decode cX9_tellOne 87 = .ok (.aload_n 0, 1) := by decide +kernel
theorem dX9_tellOne_88 : decode cX9_tellOne 88 = .ok (.getfield 43, 3) := by decide +kernel
theorem dX9_tellOne_91 : decode cX9_tellOne 91 = .ok (.iconst 4, 1) := by decide +kernel
theorem dX9_tellOne_92 : decode cX9_tellOne 92 = .ok (.aload_n 0, 1) := by decide +kernel
theorem dX9_tellOne_93 : decode cX9_tellOne 93 = .ok (.getfield 236, 3) := by decide +kernel
theorem dX9_tellOne_96 : decode cX9_tellOne 96 = .ok (.imul, 1) := by decide +kernel
theorem dX9_tellOne_97 : decode cX9_tellOne 97 = .ok (.iload_n 1, 1) := by decide +kernel
theorem dX9_tellOne_98 : decode cX9_tellOne 98 = .ok (.iadd, 1) := by decide +kernel
theorem dX9_tellOne_99 : decode cX9_tellOne 99 = .ok (.aload_n 0, 1) := by decide +kernel
theorem dX9_tellOne_100 : decode cX9_tellOne 100 = .ok (.iconst 0, 1) := by decide +kernel
theorem dX9_tellOne_101 : decode cX9_tellOne 101 = .ok (.bipush 99, 2) := by decide +kernel
theorem dX9_tellOne_103 : decode cX9_tellOne 103 = .ok (.invokevirtual 257, 3) := by decide +kernel
theorem dX9_tellOne_106 : decode cX9_tellOne 106 = .ok (.iastore, 1) := by decide +kernel
theorem dX9_tellOne_107 : decode cX9_tellOne 107 = .ok (.iinc 1 1, 3) := by decide +kernel
theorem dX9_tellOne_110 : decode cX9_tellOne 110 = .ok (.goto (-28), 3) := by decide +kernel
theorem dX9_tellOne_113 : decode cX9_tellOne 113 = .ok (.aload_n 0, 1) := by decide +kernel
theorem dX9_tellOne_114 : decode cX9_tellOne 114 = .ok (.iconst 4, 1) := by decide +kernel
theorem dX9_tellOne_115 : decode cX9_tellOne 115 = .ok (.invokevirtual 261, 3) := by decide +kernel
theorem dX9_tellOne_118 : decode cX9_tellOne 118 = .ok (.goto 174, 3) := by decide +kernel
theorem dX9_tellOne_121 : decode cX9_tellOne 121 = .ok (.aload_n 0, 1) := by decide +kernel
theorem dX9_tellOne_122 : decode cX9_tellOne 122 = .ok (.getfield 46, 3) := by decide +kernel
theorem dX9_tellOne_125 : decode cX9_tellOne 125 = .ok (.aload_n 0, 1) := by decide +kernel
theorem dX9_tellOne_126 : decode cX9_tellOne 126 = .ok (.getfield 236, 3) := by decide +kernel
theorem dX9_tellOne_129 : decode cX9_tellOne 129 = .ok (.iaload, 1) := by decide +kernel
theorem dX9_tellOne_130 : decode cX9_tellOne 130 = .ok (.bipush 6, 2) := by decide +kernel
theorem dX9_tellOne_132 : decode cX9_tellOne 132 = .ok (.if_icmp .ne 8, 3) := by decide +kernel
theorem dX9_tellOne_135 : decode cX9_tellOne 135 = .ok (.aload_n 0, 1) := by decide +kernel
theorem dX9_tellOne_136 : decode cX9_tellOne 136 = .ok (.iconst 2, 1) := by decide +kernel
theorem dX9_tellOne_137 : decode cX9_tellOne 137 = .ok (.invokevirtual 218, 3) := by decide +kernel
theorem dX9_tellOne_140 : decode cX9_tellOne 140 = .ok (.aload_n 0, 1) := by decide +kernel
theorem dX9_tellOne_141 : decode cX9_tellOne 141 = .ok (.getfield 203, 3) := by decide +kernel
theorem dX9_tellOne_144 : decode cX9_tellOne 144 = .ok (.ifCond .ne 148, 3) := by decide +kernel
theorem dX9_tellOne_147 : decode cX9_tellOne 147 = .ok (.aload_n 0, 1) := by decide +kernel
theorem dX9_tellOne_148 : decode cX9_tellOne 148 = .ok (.invokevirtual 264, 3) := by decide +kernel
theorem dX9_tellOne_151 : decode cX9_tellOne 151 = .ok (.goto 141, 3) := by decide +kernel
theorem dX9_tellOne_154 : decode cX9_tellOne 154 = .ok (.aload_n 0, 1) := by decide +kernel
theorem dX9_tellOne_155 : decode cX9_tellOne 155 = .ok (.invokevirtual 224, 3) := by decide +kernel
theorem dX9_tellOne_158 : decode cX9_tellOne 158 = .ok (.aload_n 0, 1) := by decide +kernel
theorem dX9_tellOne_159 : decode cX9_tellOne 159 = .ok (.getfield 65, 3) := by decide +kernel
theorem dX9_tellOne_162 : decode cX9_tellOne 162 = .ok (.aload_n 0, 1) := by decide +kernel
theorem dX9_tellOne_163 : decode cX9_tellOne 163 = .ok (.getfield 236, 3) := by decide +kernel
theorem dX9_tellOne_166 : decode cX9_tellOne 166 = .ok (.aload_n 0, 1) := by decide +kernel
theorem dX9_tellOne_167 : decode cX9_tellOne 167 = .ok (.iconst 0, 1) := by decide +kernel
theorem dX9_tellOne_168 : decode cX9_tellOne 168 = .ok (.bipush 99, 2) := by decide +kernel
theorem dX9_tellOne_170 : decode cX9_tellOne 170 = .ok (.invokevirtual 257, 3) := by decide +kernel
theorem dX9_tellOne_173 : decode cX9_tellOne 173 = .ok (.iastore, 1) := by decide +kernel
theorem dX9_tellOne_174 : decode cX9_tellOne 174 = .ok (.aload_n 0, 1) := by decide +kernel
theorem dX9_tellOne_175 : decode cX9_tellOne 175 = .ok (.iconst 4, 1) := by decide +kernel
theorem dX9_tellOne_176 : decode cX9_tellOne 176 = .ok (.invokevirtual 261, 3) := by decide +kernel
theorem dX9_tellOne_179 : decode cX9_tellOne 179 = .ok (.goto 113, 3) := by decide +kernel
theorem dX9_tellOne_182 : decode cX9_tellOne 182 = .ok (.aload_n 0, 1) := by decide +kernel
theorem dX9_tellOne_183 : decode cX9_tellOne 183 = .ok (.invokevirtual 224, 3) := by decide +kernel
theorem dX9_tellOne_186 : decode cX9_tellOne 186 = .ok (.aload_n 0, 1) := by decide +kernel
theorem dX9_tellOne_187 : decode cX9_tellOne 187 = .ok (.getfield 68, 3) := by decide +kernel
theorem dX9_tellOne_190 : decode cX9_tellOne 190 = .ok (.aload_n 0, 1) := by decide +kernel
theorem dX9_tellOne_191 : decode cX9_tellOne 191 = .ok (.getfield 236, 3) := by decide +kernel
theorem dX9_tellOne_194 : decode cX9_tellOne 194 = .ok (.aload_n 0, 1) := by decide +kernel
theorem dX9_tellOne_195 : decode cX9_tellOne 195 = .ok (.iconst 0, 1) := by decide +kernel
theorem dX9_tellOne_196 : decode cX9_tellOne 196 = .ok (.bipush 99, 2) := by decide +kernel
theorem dX9_tellOne_198 : decode cX9_tellOne 198 = .ok (.invokevirtual 257, 3) := by decide +kernel
theorem dX9_tellOne_201 : decode cX9_tellOne 201 = .ok (.iastore, 1) := by decide +kernel
theorem dX9_tellOne_202 : decode cX9_tellOne 202 = .ok (.aload_n 0, 1) := by decide +kernel
theorem dX9_tellOne_203 : decode cX9_tellOne 203 = .ok (.iconst 4, 1) := by decide +kernel
theorem dX9_tellOne_204 : decode cX9_tellOne 204 = .ok (.invokevirtual 261, 3) := by decide +kernel
theorem dX9_tellOne_207 : decode cX9_tellOne 207 = .ok (.goto 85, 3) := by decide +kernel
theorem dX9_tellOne_210 : decode cX9_tellOne 210 = .ok (.aload_n 0, 1) := by decide +kernel
theorem dX9_tellOne_211 : decode cX9_tellOne 211 = .ok (.invokevirtual 224, 3) := by decide +kernel
theorem dX9_tellOne_214 : decode cX9_tellOne 214 = .ok (.aload_n 0, 1) := by decide +kernel
theorem dX9_tellOne_215 : decode cX9_tellOne 215 = .ok (.getfield 71, 3) := by decide +kernel
theorem dX9_tellOne_218 : decode cX9_tellOne 218 = .ok (.aload_n 0, 1) := by decide +kernel
theorem dX9_tellOne_219 : decode cX9_tellOne 219 = .ok (.getfield 236, 3) := by decide +kernel
theorem dX9_tellOne_222 : decode cX9_tellOne 222 = .ok (.aload_n 0, 1) := by decide +kernel
theorem dX9_tellOne_223 : decode cX9_tellOne 223 = .ok (.iconst 0, 1) := by decide +kernel
theorem dX9_tellOne_224 : decode cX9_tellOne 224 = .ok (.sipush 9999, 3) := by decide +kernel
theorem dX9_tellOne_227 : decode cX9_tellOne 227 = .ok (.invokevirtual 257, 3) := by decide +kernel
theorem dX9_tellOne_230 : decode cX9_tellOne 230 = .ok (.iastore, 1) := by decide +kernel
theorem dX9_tellOne_231 : decode cX9_tellOne 231 = .ok (.aload_n 0, 1) := by decide +kernel
theorem dX9_tellOne_232 : decode cX9_tellOne 232 = .ok (.iconst 4, 1) := by decide +kernel
theorem dX9_tellOne_233 : decode cX9_tellOne 233 = .ok (.invokevirtual 261, 3) := by decide +kernel
theorem dX9_tellOne_236 : decode cX9_tellOne 236 = .ok (.goto 56, 3) := by decide +kernel
theorem dX9_tellOne_239 : decode cX9_tellOne 239 = .ok (.aload_n 0, 1) := by decide +kernel
theorem dX9_tellOne_240 : decode cX9_tellOne 240 = .ok (.getfield 20, 3) := by decide +kernel
theorem dX9_tellOne_243 : decode cX9_tellOne 243 = .ok (.aload_n 0, 1) := by decide +kernel
theorem dX9_tellOne_244 : decode cX9_tellOne 244 = .ok (.getfield 206, 3) := by decide +kernel
theorem dX9_tellOne_247 : decode cX9_tellOne 247 = .ok (.iaload, 1) := by decide +kernel
theorem dX9_tellOne_248 : decode cX9_tellOne 248 = .ok (.bipush 23, 2) := by decide +kernel
theorem dX9_tellOne_250 : decode cX9_tellOne 250 = .ok (.isub, 1) := by decide +kernel
theorem dX9_tellOne_251 : decode cX9_tellOne 251 = .ok (.istore_n 1, 1) := by decide +kernel
theorem dX9_tellOne_252 : decode cX9_tellOne 252 = .ok (.iload_n 1, 1) := by decide +kernel
theorem dX9_tellOne_253 : decode cX9_tellOne 253 = .ok (.ifCond .lt 17, 3) := by decide +kernel
theorem dX9_tellOne_256 : decode cX9_tellOne 256 = .ok (.aload_n 0, 1) := by decide +kernel
theorem dX9_tellOne_257 : decode cX9_tellOne 257 = .ok (.getfield 20, 3) := by decide +kernel
theorem dX9_tellOne_260 : decode cX9_tellOne 260 = .ok (.aload_n 0, 1) := by decide +kernel
theorem dX9_tellOne_261 : decode cX9_tellOne 261 = .ok (.getfield 206, 3) := by decide +kernel
theorem dX9_tellOne_264 : decode cX9_tellOne 264 = .ok (.iaload, 1) := by decide +kernel
theorem dX9_tellOne_265 : decode cX9_tellOne 265 = .ok (.bipush 29, 2) := by decide +kernel
theorem dX9_tellOne_267 : decode cX9_tellOne 267 = .ok (.if_icmp .le 8, 3) := by decide +kernel
theorem dX9_tellOne_270 : decode cX9_tellOne 270 = .ok (.aload_n 0, 1) := by decide +kernel
theorem dX9_tellOne_271 : decode cX9_tellOne 271 = .ok (.iconst 1, 1) := by decide +kernel
theorem dX9_tellOne_272 : decode cX9_tellOne 272 = .ok (.invokevirtual 218, 3) := by decide +kernel
theorem dX9_tellOne_275 : decode cX9_tellOne 275 = .ok (.aload_n 0, 1) := by decide +kernel
theorem dX9_tellOne_276 : decode cX9_tellOne 276 = .ok (.getfield 203, 3) := by decide +kernel
theorem dX9_tellOne_279 : decode cX9_tellOne 279 = .ok (.ifCond .le 4, 3) := by decide +kernel
theorem dX9_tellOne_282 : decode cX9_tellOne 282 = .ok (.return_, 1) := by decide +kernel
theorem dX9_tellOne_283 : decode cX9_tellOne 283 = .ok (.aload_n 0, 1) := by decide +kernel
theorem dX9_tellOne_284 : decode cX9_tellOne 284 = .ok (.invokevirtual 224, 3) := by decide +kernel
theorem dX9_tellOne_287 : decode cX9_tellOne 287 = .ok (.aload_n 0, 1) := by decide +kernel
theorem dX9_tellOne_288 : decode cX9_tellOne 288 = .ok (.iload_n 1, 1) := by decide +kernel
theorem dX9_tellOne_289 : decode cX9_tellOne 289 = .ok (.invokevirtual 267, 3) := by decide +kernel
theorem dX9_tellOne_292 : decode cX9_tellOne 292 = .ok (.return_, 1) := by decide +kernel
theorem dX9_bounded_0 : decode cX9_bounded 0 = .ok (.aload_n 0, 1) := by decide +kernel
theorem dX9_bounded_1 : decode cX9_bounded 1 = .ok (.getfield 203, 3) := by decide +kernel
theorem dX9_bounded_4 : decode cX9_bounded 4 = .ok (.ifCond .gt 11, 3) := by decide +kernel
theorem dX9_bounded_7 : decode cX9_bounded 7 = .ok (.aload_n 0, 1) := by decide +kernel
theorem dX9_bounded_8 : decode cX9_bounded 8 = .ok (.iconst 2, 1) := by decide +kernel
theorem dX9_bounded_9 : decode cX9_bounded 9 = .ok (.invokevirtual 221, 3) := by decide +kernel
theorem dX9_bounded_12 : decode cX9_bounded 12 = .ok (.ifCond .ne 10, 3) := by decide +kernel
theorem dX9_bounded_15 : decode cX9_bounded 15 = .ok (.aload_n 0, 1) := by decide +kernel
theorem dX9_bounded_16 : decode cX9_bounded 16 = .ok (.iconst 1, 1) := by decide +kernel
theorem dX9_bounded_17 : decode cX9_bounded 17 = .ok (.invokevirtual 218, 3) := by decide +kernel
theorem dX9_bounded_20 : decode cX9_bounded 20 = .ok (.iload_n 1, 1) := by decide +kernel
theorem dX9_bounded_21 : decode cX9_bounded 21 = .ok (.ireturn, 1) := by decide +kernel
theorem dX9_bounded_22 : decode cX9_bounded 22 = .ok (.aload_n 0, 1) := by decide +kernel
theorem dX9_bounded_23 : decode cX9_bounded 23 = .ok (.getfield 27, 3) := by decide +kernel
theorem dX9_bounded_26 : decode cX9_bounded 26 = .ok (.aload_n 0, 1) := by decide +kernel
theorem dX9_bounded_27 : decode cX9_bounded 27 = .ok (.getfield 206, 3) := by decide +kernel
theorem dX9_bounded_30 : decode cX9_bounded 30 = .ok (.iaload, 1) := by decide +kernel
theorem dX9_bounded_31 : decode cX9_bounded 31 = .ok (.istore_n 3, 1) := by decide +kernel
theorem dX9_bounded_32 : decode cX9_bounded 32 = .ok (.iload_n 3, 1) := by decide +kernel
theorem dX9_bounded_33 : decode cX9_bounded 33 = .ok (.iload_n 1, 1) := by decide +kernel
theorem dX9_bounded_34 : decode cX9_bounded 34 = .ok (.if_icmp .lt 8, 3) := by decide +kernel
theorem dX9_bounded_37 : decode cX9_bounded 37 = .ok (.iload_n 3, 1) := by decide +kernel
theorem dX9_bounded_38 : decode cX9_bounded 38 = .ok (.iload_n 2, 1) := by decide +kernel
theorem dX9_bounded_39 : decode cX9_bounded 39 = .ok (.if_icmp .le 12, 3) := by decide +kernel
theorem dX9_bounded_42 : decode cX9_bounded 42 = .ok (.aload_n 0, 1) := by decide +kernel
theorem dX9_bounded_43 : decode cX9_bounded 43 = .ok (.iconst 5, 1) := by decide +kernel
theorem dX9_bounded_44 : decode cX9_bounded 44 = .ok (.aload_n 0, 1) := by decide +kernel
theorem dX9_bounded_45 : decode cX9_bounded 45 = .ok (.getfield 206, 3) := by decide +kernel
theorem dX9_bounded_48 : decode cX9_bounded 48 = .ok (.invokevirtual 270, 3) := by decide +kernel
theorem dX9_bounded_51 : decode cX9_bounded 51 = .ok (.aload_n 0, 1) := by decide +kernel
theorem dX9_bounded_52 : decode cX9_bounded 52 = .ok (.invokevirtual 224, 3) := by decide +kernel
theorem dX9_bounded_55 : decode cX9_bounded 55 = .ok (.iload_n 3, 1) := by decide +kernel
theorem dX9_bounded_56 : decode cX9_bounded 56 = .ok (.ireturn, 1) := by decide +kernel
theorem dX9_tellAunt_0 : decode cX9_tellAunt 0 = .ok (.aload_n 0, 1) := by decide +kernel
theorem dX9_tellAunt_1 : decode cX9_tellAunt 1 = .ok (.invokevirtual 224, 3) := by decide +kernel
theorem dX9_tellAunt_4 : decode cX9_tellAunt 4 = .ok (.bipush 6, 2) := by decide +kernel
theorem dX9_tellAunt_6 : decode cX9_tellAunt 6 = .ok (.aload_n 0, 1) := by decide +kernel
theorem dX9_tellAunt_7 : decode cX9_tellAunt 7 = .ok (.getfield 236, 3) := by decide +kernel
theorem dX9_tellAunt_10 : decode cX9_tellAunt 10 = .ok (.imul, 1) := by decide +kernel
theorem dX9_tellAunt_11 : decode cX9_tellAunt 11 = .ok (.aload_n 0, 1) := by decide +kernel
theorem dX9_tellAunt_12 : decode cX9_tellAunt 12 = .ok (.getfield 46, 3) := by decide +kernel
theorem dX9_tellAunt_15 : decode cX9_tellAunt 15 = .ok (.aload_n 0, 1) := by decide +kernel
theorem dX9_tellAunt_16 : decode cX9_tellAunt 16 = .ok (.getfield 236, 3) := by decide +kernel
theorem dX9_tellAunt_19 : decode cX9_tellAunt 19 = .ok (.iaload, 1) := by decide +kernel
theorem dX9_tellAunt_20 : decode cX9_tellAunt 20 = .ok (.iadd, 1) := by decide +kernel
theorem dX9_tellAunt_21 : decode cX9_tellAunt 21 = .ok (.istore_n 1, 1) := by decide +kernel
theorem dX9_tellAunt_22 : decode cX9_tellAunt 22 = .ok (.aload_n 0, 1) := by decide +kernel
theorem dX9_tellAunt_23 : decode cX9_tellAunt 23 = .ok (.getfield 206, 3) := by decide +kernel
theorem dX9_tellAunt_26 : decode cX9_tellAunt 26 = .ok (.istore_n 2, 1) := by decide +kernel
theorem dX9_tellAunt_27 : decode cX9_tellAunt 27 = .ok (.aload_n 0, 1) := by decide +kernel
theorem dX9_tellAunt_28 : decode cX9_tellAunt 28 = .ok (.iconst 1, 1) := by decide +kernel
theorem dX9_tellAunt_29 : decode cX9_tellAunt 29 = .ok (.invokevirtual 261, 3) := by decide +kernel
theorem dX9_tellAunt_32 : decode cX9_tellAunt 32 = .ok (.iconst 0, 1) := by decide +kernel
theorem dX9_tellAunt_33 : decode cX9_tellAunt 33 = .ok (.istore_n 3, 1) := by decide +kernel
theorem dX9_tellAunt_34 : decode cX9_tellAunt 34 = .ok (.iload_n 3, 1) := by decide +kernel
theorem dX9_tellAunt_35 : decode cX9_tellAunt 35 = .ok (.aload_n 0, 1) := by decide +kernel
theorem dX9_tellAunt_36 : decode cX9_tellAunt 36 = .ok (.getfield 239, 3) := by decide +kernel
theorem dX9_tellAunt_39 : decode cX9_tellAunt 39 = .ok (.if_icmp .ge 38, 3) := by decide +kernel
theorem dX9_tellAunt_42 : decode cX9_tellAunt 42 = .ok (.aload_n 0, 1) := by decide +kernel
theorem dX9_tellAunt_43 : decode cX9_tellAunt 43 = .ok (.getfield 203, 3) := by decide +kernel
theorem dX9_tellAunt_46 : decode cX9_tellAunt 46 = .ok (.ifCond .ne 31, 3) := by decide +kernel
theorem dX9_tellAunt_49 : decode cX9_tellAunt 49 = .ok (.aload_n 0, 1) := by decide +kernel
theorem dX9_tellAunt_50 : decode cX9_tellAunt 50 = .ok (.getfield 40, 3) := by decide +kernel
theorem dX9_tellAunt_53 : decode cX9_tellAunt 53 = .ok (.iload_n 3, 1) := by decide +kernel
theorem dX9_tellAunt_54 : decode cX9_tellAunt 54 = .ok (.laload, 1) := by decide +kernel
theorem dX9_tellAunt_55 : decode cX9_tellAunt 55 = .ok (.aload_n 0, 1) := by decide +kernel
theorem dX9_tellAunt_56 : decode cX9_tellAunt 56 = .ok (.getfield 30, 3) := by decide +kernel
theorem dX9_tellAunt_59 : decode cX9_tellAunt 59 = .ok (.iload_n 2, 1) := by decide +kernel
theorem dX9_tellAunt_60 : decode cX9_tellAunt 60 = .ok (.laload, 1) := by decide +kernel
theorem dX9_tellAunt_61 : decode cX9_tellAunt 61 = .ok (.lcmp, 1) := by decide +kernel
theorem dX9_tellAunt_62 : decode cX9_tellAunt 62 = .ok (.ifCond .ne 9, 3) := by decide +kernel
theorem dX9_tellAunt_65 : decode cX9_tellAunt 65 = .ok (.aload_n 0, 1) := by decide +kernel
theorem dX9_tellAunt_66 : decode cX9_tellAunt 66 = .ok (.iconst 3, 1) := by decide +kernel
theorem dX9_tellAunt_67 : decode cX9_tellAunt 67 = .ok (.iload_n 2, 1) := by decide +kernel
theorem dX9_tellAunt_68 : decode cX9_tellAunt 68 = .ok (.invokevirtual 270, 3) := by decide +kernel
theorem dX9_tellAunt_71 : decode cX9_tellAunt 71 = .ok (.iinc 3 1, 3) := by decide +kernel
theorem dX9_tellAunt_74 : decode cX9_tellAunt 74 = .ok (.goto (-40), 3) := by decide +kernel
theorem dX9_tellAunt_77 : decode cX9_tellAunt 77 = .ok (.aload_n 0, 1) := by decide +kernel
theorem dX9_tellAunt_78 : decode cX9_tellAunt 78 = .ok (.getfield 49, 3) := by decide +kernel
theorem dX9_tellAunt_81 : decode cX9_tellAunt 81 = .ok (.iload_n 1, 1) := by decide +kernel
theorem dX9_tellAunt_82 : decode cX9_tellAunt 82 = .ok (.aload_n 0, 1) := by decide +kernel
theorem dX9_tellAunt_83 : decode cX9_tellAunt 83 = .ok (.iconst 0, 1) := by decide +kernel
theorem dX9_tellAunt_84 : decode cX9_tellAunt 84 = .ok (.bipush 9, 2) := by decide +kernel
theorem dX9_tellAunt_86 : decode cX9_tellAunt 86 = .ok (.invokevirtual 257, 3) := by decide +kernel
theorem dX9_tellAunt_89 : decode cX9_tellAunt 89 = .ok (.iastore, 1) := by decide +kernel
theorem dX9_tellAunt_90 : decode cX9_tellAunt 90 = .ok (.aload_n 0, 1) := by decide +kernel
theorem dX9_tellAunt_91 : decode cX9_tellAunt 91 = .ok (.getfield 52, 3) := by decide +kernel
theorem dX9_tellAunt_94 : decode cX9_tellAunt 94 = .ok (.iload_n 1, 1) := by decide +kernel
theorem dX9_tellAunt_95 : decode cX9_tellAunt 95 = .ok (.aload_n 0, 1) := by decide +kernel
theorem dX9_tellAunt_96 : decode cX9_tellAunt 96 = .ok (.iconst 0, 1) := by decide +kernel
theorem dX9_tellAunt_97 : decode cX9_tellAunt 97 = .ok (.bipush 9, 2) := by decide +kernel
theorem dX9_tellAunt_99 : decode cX9_tellAunt 99 = .ok (.invokevirtual 257, 3) := by decide +kernel
theorem dX9_tellAunt_102 : decode cX9_tellAunt 102 = .ok (.iastore, 1) := by decide +kernel
theorem dX9_tellAunt_103 : decode cX9_tellAunt 103 = .ok (.aload_n 0, 1) := by decide +kernel
theorem dX9_tellAunt_104 : decode cX9_tellAunt 104 = .ok (.getfield 55, 3) := by decide +kernel
theorem dX9_tellAunt_107 : decode cX9_tellAunt 107 = .ok (.iload_n 1, 1) := by decide +kernel
theorem dX9_tellAunt_108 : decode cX9_tellAunt 108 = .ok (.aload_n 0, 1) := by decide +kernel
theorem dX9_tellAunt_109 : decode cX9_tellAunt 109 = .ok (.iconst 0, 1) := by decide +kernel
theorem dX9_tellAunt_110 : decode cX9_tellAunt 110 = .ok (.bipush 9, 2) := by decide +kernel
theorem dX9_tellAunt_112 : decode cX9_tellAunt 112 = .ok (.invokevirtual 257, 3) := by decide +kernel
theorem dX9_tellAunt_115 : decode cX9_tellAunt 115 = .ok (.iastore, 1) := by decide +kernel
theorem dX9_tellAunt_116 : decode cX9_tellAunt 116 = .ok (.aload_n 0, 1) := by decide +kernel
theorem dX9_tellAunt_117 : decode cX9_tellAunt 117 = .ok (.getfield 58, 3) := by decide +kernel
theorem dX9_tellAunt_120 : decode cX9_tellAunt 120 = .ok (.iload_n 1, 1) := by decide +kernel
theorem dX9_tellAunt_121 : decode cX9_tellAunt 121 = .ok (.aload_n 0, 1) := by decide +kernel
theorem dX9_tellAunt_122 : decode cX9_tellAunt 122 = .ok (.iconst 0, 1) := by decide +kernel
theorem dX9_tellAunt_123 : decode cX9_tellAunt 123 = .ok (.bipush 99, 2) := by decide +kernel
theorem dX9_tellAunt_125 : decode cX9_tellAunt 125 = .ok (.invokevirtual 257, 3) := by decide +kernel
theorem dX9_tellAunt_128 : decode cX9_tellAunt 128 = .ok (.iastore, 1) := by decide +kernel
theorem dX9_tellAunt_129 : decode cX9_tellAunt 129 = .ok (.aload_n 0, 1) := by decide +kernel
theorem dX9_tellAunt_130 : decode cX9_tellAunt 130 = .ok (.getfield 61, 3) := by decide +kernel
theorem dX9_tellAunt_133 : decode cX9_tellAunt 133 = .ok (.iload_n 1, 1) := by decide +kernel
theorem dX9_tellAunt_134 : decode cX9_tellAunt 134 = .ok (.aload_n 0, 1) := by decide +kernel
theorem dX9_tellAunt_135 : decode cX9_tellAunt 135 = .ok (.getfield 203, 3) := by decide +kernel
theorem dX9_tellAunt_138 : decode cX9_tellAunt 138 = .ok (.ifCond .ne 16, 3) := by decide +kernel
theorem dX9_tellAunt_141 : decode cX9_tellAunt 141 = .ok (.aload_n 0, 1) := by decide +kernel
theorem dX9_tellAunt_142 : decode cX9_tellAunt 142 = .ok (.bipush 22, 2) := by decide +kernel
theorem dX9_tellAunt_144 : decode cX9_tellAunt 144 = .ok (.invokevirtual 221, 3) := by decide +kernel
theorem dX9_tellAunt_147 : decode cX9_tellAunt 147 = .ok (.ifCond .eq 7, 3) := by decide +kernel
theorem dX9_tellAunt_150 : decode cX9_tellAunt 150 = .ok (.iconst 1, 1) := by decide +kernel
theorem dX9_tellAunt_151 : decode cX9_tellAunt 151 = .ok (.goto 4, 3) := by decide +kernel
theorem dX9_tellAunt_154 : decode cX9_tellAunt 154 = .ok (.iconst 0, 1) := by decide +kernel
theorem dX9_tellAunt_155 : decode cX9_tellAunt 155 = .ok (.bastore, 1) := by decide +kernel
theorem dX9_tellAunt_156 : decode cX9_tellAunt 156 = .ok (.aload_n 0, 1) := by decide +kernel
theorem dX9_tellAunt_157 : decode cX9_tellAunt 157 = .ok (.getfield 61, 3) := by decide +kernel
theorem dX9_tellAunt_160 : decode cX9_tellAunt 160 = .ok (.iload_n 1, 1) := by decide +kernel
theorem dX9_tellAunt_161 : decode cX9_tellAunt 161 = .ok (.baload, 1) := by decide +kernel
theorem dX9_tellAunt_162 : decode cX9_tellAunt 162 = .ok (.ifCond .eq 7, 3) := by decide +kernel
theorem dX9_tellAunt_165 : decode cX9_tellAunt 165 = .ok (.aload_n 0, 1) := by decide +kernel
theorem dX9_tellAunt_166 : decode cX9_tellAunt 166 = .ok (.invokevirtual 224, 3) := by decide +kernel
theorem dX9_tellAunt_169 : decode cX9_tellAunt 169 = .ok (.aload_n 0, 1) := by decide +kernel
theorem dX9_tellAunt_170 : decode cX9_tellAunt 170 = .ok (.iconst 4, 1) := by decide +kernel
theorem dX9_tellAunt_171 : decode cX9_tellAunt 171 = .ok (.invokevirtual 261, 3) := by decide +kernel
theorem dX9_tellAunt_174 : decode cX9_tellAunt 174 = .ok (.aload_n 0, 1) := by decide +kernel
theorem dX9_tellAunt_175 : decode cX9_tellAunt 175 = .ok (.getfield 203, 3) := by decide +kernel
theorem dX9_tellAunt_178 : decode cX9_tellAunt 178 = .ok (.ifCond .le 4, 3) := by decide +kernel
theorem dX9_tellAunt_181 : decode cX9_tellAunt 181 = .ok (.return_, 1) := by decide +kernel
theorem dX9_tellAunt_182 : decode cX9_tellAunt 182 = .ok (.aload_n 0, 1) := by decide +kernel
theorem dX9_tellAunt_183 : decode cX9_tellAunt 183 = .ok (.getfield 40, 3) := by decide +kernel
theorem dX9_tellAunt_186 : decode cX9_tellAunt 186 = .ok (.aload_n 0, 1) := by decide +kernel
theorem dX9_tellAunt_187 : decode cX9_tellAunt 187 = .ok (.getfield 239, 3) := by decide +kernel
theorem dX9_tellAunt_190 : decode cX9_tellAunt 190 = .ok (.aload_n 0, 1) := by decide +kernel
theorem dX9_tellAunt_191 : decode cX9_tellAunt 191 = .ok (.getfield 30, 3) := by decide +kernel
theorem dX9_tellAunt_194 : decode cX9_tellAunt 194 = .ok (.iload_n 2, 1) := by decide +kernel
theorem dX9_tellAunt_195 : decode cX9_tellAunt 195 = .ok (.laload, 1) := by decide +kernel
theorem dX9_tellAunt_196 : decode cX9_tellAunt 196 = .ok (.lastore, 1) := by decide +kernel
theorem dX9_tellAunt_197 : decode cX9_tellAunt 197 = .ok (.aload_n 0, 1) := by decide +kernel
theorem dX9_tellAunt_198 : decode cX9_tellAunt 198 = .ok (.dup, 1) := by decide +kernel
theorem dX9_tellAunt_199 : decode cX9_tellAunt 199 = .ok (.getfield 239, 3) := by decide +kernel
theorem dX9_tellAunt_202 : decode cX9_tellAunt 202 = .ok (.iconst 1, 1) := by decide +kernel
theorem dX9_tellAunt_203 : decode cX9_tellAunt 203 = .ok (.iadd, 1) := by decide +kernel
theorem dX9_tellAunt_204 : decode cX9_tellAunt 204 = .ok (.putfield 239, 3) := by decide +kernel
theorem dX9_tellAunt_207 : decode cX9_tellAunt 207 = .ok (.aload_n 0, 1) := by decide +kernel
theorem dX9_tellAunt_208 : decode cX9_tellAunt 208 = .ok (.getfield 46, 3) := by decide +kernel
theorem dX9_tellAunt_211 : decode cX9_tellAunt 211 = .ok (.aload_n 0, 1) := by decide +kernel
theorem dX9_tellAunt_212 : decode cX9_tellAunt 212 = .ok (.getfield 236, 3) := by decide +kernel
theorem dX9_tellAunt_215 : decode cX9_tellAunt 215 = .ok (.dup2, 1) := by decide +kernel
theorem dX9_tellAunt_216 : decode cX9_tellAunt 216 = .ok (.iaload, 1) := by decide +kernel
theorem dX9_tellAunt_217 : decode cX9_tellAunt 217 = .ok (.iconst 1, 1) := by decide +kernel
theorem dX9_tellAunt_218 : decode cX9_tellAunt 218 = .ok (.iadd, 1) := by decide +kernel
theorem dX9_tellAunt_219 : decode cX9_tellAunt 219 = .ok (.iastore, 1) := by decide +kernel
theorem dX9_tellAunt_220 : decode cX9_tellAunt 220 = .ok (.return_, 1) := by decide +kernel
theorem dX9_tellLaw_0 : decode cX9_tellLaw 0 = .ok (.aload_n 0, 1) := by decide +kernel
theorem dX9_tellLaw_1 : decode cX9_tellLaw 1 = .ok (.iconst 5, 1) := by decide +kernel
theorem dX9_tellLaw_2 : decode cX9_tellLaw 2 = .ok (.invokevirtual 261, 3) := by decide +kernel
theorem dX9_tellLaw_5 : decode cX9_tellLaw 5 = .ok (.aload_n 0, 1) := by decide +kernel
theorem dX9_tellLaw_6 : decode cX9_tellLaw 6 = .ok (.getfield 242, 3) := by decide +kernel
theorem dX9_tellLaw_9 : decode cX9_tellLaw 9 = .ok (.istore_n 2, 1) := by decide +kernel
theorem dX9_tellLaw_10 : decode cX9_tellLaw 10 = .ok (.iconst 0, 1) := by decide +kernel
theorem dX9_tellLaw_11 : decode cX9_tellLaw 11 = .ok (.istore_n 3, 1) := by decide +kernel
theorem dX9_tellLaw_12 : decode cX9_tellLaw 12 = .ok (.aload_n 0, 1) := by decide +kernel
theorem dX9_tellLaw_13 : decode cX9_tellLaw 13 = .ok (.getfield 203, 3) := by decide +kernel
theorem dX9_tellLaw_16 : decode cX9_tellLaw 16 = .ok (.ifCond .ne 113, 3) := by decide +kernel
theorem dX9_tellLaw_19 : decode cX9_tellLaw 19 = .ok (.aload_n 0, 1) := by decide +kernel
theorem dX9_tellLaw_20 : decode cX9_tellLaw 20 = .ok (.bipush 33, 2) := by decide +kernel
theorem dX9_tellLaw_22 : decode cX9_tellLaw 22 = .ok (.invokevirtual 221, 3) := by decide +kernel
theorem dX9_tellLaw_25 : decode cX9_tellLaw 25 = .ok (.ifCond .eq 104, 3) := by decide +kernel
theorem dX9_tellLaw_28 : decode cX9_tellLaw 28 = .ok (.iload_n 3, 1) := by decide +kernel
theorem dX9_tellLaw_29 : decode cX9_tellLaw 29 = .ok (.iconst 4, 1) := by decide +kernel
theorem dX9_tellLaw_30 : decode cX9_tellLaw 30 = .ok (.if_icmp .ne 8, 3) := by decide +kernel
theorem dX9_tellLaw_33 : decode cX9_tellLaw 33 = .ok (.aload_n 0, 1) := by decide +kernel
theorem dX9_tellLaw_34 : decode cX9_tellLaw 34 = .ok (.iconst 2, 1) := by decide +kernel
theorem dX9_tellLaw_35 : decode cX9_tellLaw 35 = .ok (.invokevirtual 218, 3) := by decide +kernel
theorem dX9_tellLaw_38 : decode cX9_tellLaw 38 = .ok (.aload_n 0, 1) := by decide +kernel
theorem dX9_tellLaw_39 : decode cX9_tellLaw 39 = .ok (.getfield 203, 3) := by decide +kernel
theorem dX9_tellLaw_42 : decode cX9_tellLaw 42 = .ok (.ifCond .le 4, 3) := by decide +kernel
theorem dX9_tellLaw_45 : decode cX9_tellLaw 45 = .ok (.return_, 1) := by decide +kernel
theorem dX9_tellLaw_46 : decode cX9_tellLaw 46 = .ok (.iinc 3 1, 3) := by decide +kernel
theorem dX9_tellLaw_49 : decode cX9_tellLaw 49 = .ok (.aload_n 0, 1) := by decide +kernel
theorem dX9_tellLaw_50 : decode cX9_tellLaw 50 = .ok (.invokevirtual 224, 3) := by decide +kernel
theorem dX9_tellLaw_53 : decode cX9_tellLaw 53 = .ok (.aload_n 0, 1) := by decide +kernel
theorem dX9_tellLaw_54 : decode cX9_tellLaw 54 = .ok (.getfield 80, 3) := by decide +kernel
theorem dX9_tellLaw_57 : decode cX9_tellLaw 57 = .ok (.aload_n 0, 1) := by decide +kernel
theorem dX9_tellLaw_58 : decode cX9_tellLaw 58 = .ok (.getfield 242, 3) := by decide +kernel
theorem dX9_tellLaw_61 : decode cX9_tellLaw 61 = .ok (.iconst 1, 1) := by decide +kernel
theorem dX9_tellLaw_62 : decode cX9_tellLaw 62 = .ok (.bastore, 1) := by decide +kernel
theorem dX9_tellLaw_63 : decode cX9_tellLaw 63 = .ok (.aload_n 0, 1) := by decide +kernel
theorem dX9_tellLaw_64 : decode cX9_tellLaw 64 = .ok (.getfield 83, 3) := by decide +kernel
theorem dX9_tellLaw_67 : decode cX9_tellLaw 67 = .ok (.aload_n 0, 1) := by decide +kernel
theorem dX9_tellLaw_68 : decode cX9_tellLaw 68 = .ok (.getfield 242, 3) := by decide +kernel
theorem dX9_tellLaw_71 : decode cX9_tellLaw 71 = .ok (.aload_n 0, 1) := by decide +kernel
theorem dX9_tellLaw_72 : decode cX9_tellLaw 72 = .ok (.getfield 245, 3) := by decide +kernel
theorem dX9_tellLaw_75 : decode cX9_tellLaw 75 = .ok (.iastore, 1) := by decide +kernel
theorem dX9_tellLaw_76 : decode cX9_tellLaw 76 = .ok (.aload_n 0, 1) := by decide +kernel
theorem dX9_tellLaw_77 : decode cX9_tellLaw 77 = .ok (.invokevirtual 274, 3) := by decide +kernel
theorem dX9_tellLaw_80 : decode cX9_tellLaw 80 = .ok (.aload_n 0, 1) := by decide +kernel
theorem dX9_tellLaw_81 : decode cX9_tellLaw 81 = .ok (.bipush 13, 2) := by decide +kernel
theorem dX9_tellLaw_83 : decode cX9_tellLaw 83 = .ok (.invokevirtual 261, 3) := by decide +kernel
theorem dX9_tellLaw_86 : decode cX9_tellLaw 86 = .ok (.aload_n 0, 1) := by decide +kernel
theorem dX9_tellLaw_87 : decode cX9_tellLaw 87 = .ok (.getfield 86, 3) := by decide +kernel
theorem dX9_tellLaw_90 : decode cX9_tellLaw 90 = .ok (.aload_n 0, 1) := by decide +kernel
theorem dX9_tellLaw_91 : decode cX9_tellLaw 91 = .ok (.getfield 242, 3) := by decide +kernel
theorem dX9_tellLaw_94 : decode cX9_tellLaw 94 = .ok (.aload_n 0, 1) := by decide +kernel
theorem dX9_tellLaw_95 : decode cX9_tellLaw 95 = .ok (.getfield 245, 3) := by decide +kernel
theorem dX9_tellLaw_98 : decode cX9_tellLaw 98 = .ok (.iastore, 1) := by decide +kernel
theorem dX9_tellLaw_99 : decode cX9_tellLaw 99 = .ok (.aload_n 0, 1) := by decide +kernel
theorem dX9_tellLaw_100 : decode cX9_tellLaw 100 = .ok (.getfield 203, 3) := by decide +kernel
theorem dX9_tellLaw_103 : decode cX9_tellLaw 103 = .ok (.ifCond .ne 7, 3) := by decide +kernel
theorem dX9_tellLaw_106 : decode cX9_tellLaw 106 = .ok (.aload_n 0, 1) := by decide +kernel
theorem dX9_tellLaw_107 : decode cX9_tellLaw 107 = .ok (.invokevirtual 274, 3) := by decide +kernel
theorem dX9_tellLaw_110 : decode cX9_tellLaw 110 = .ok (.aload_n 0, 1) := by decide +kernel
theorem dX9_tellLaw_111 : decode cX9_tellLaw 111 = .ok (.bipush 34, 2) := by decide +kernel
theorem dX9_tellLaw_113 : decode cX9_tellLaw 113 = .ok (.invokevirtual 261, 3) := by decide +kernel
theorem dX9_tellLaw_116 : decode cX9_tellLaw 116 = .ok (.aload_n 0, 1) := by decide +kernel
theorem dX9_tellLaw_117 : decode cX9_tellLaw 117 = .ok (.invokevirtual 277, 3) := by decide +kernel
theorem dX9_tellLaw_120 : decode cX9_tellLaw 120 = .ok (.aload_n 0, 1) := by decide +kernel
theorem dX9_tellLaw_121 : decode cX9_tellLaw 121 = .ok (.bipush 35, 2) := by decide +kernel
theorem dX9_tellLaw_123 : decode cX9_tellLaw 123 = .ok (.invokevirtual 261, 3) := by decide +kernel
theorem dX9_tellLaw_126 : decode cX9_tellLaw 126 = .ok (.goto (-114), 3) := by decide +kernel
theorem dX9_tellLaw_129 : decode cX9_tellLaw 129 = .ok (.aload_n 0, 1) := by decide +kernel
theorem dX9_tellLaw_130 : decode cX9_tellLaw 130 = .ok (.getfield 80, 3) := by decide +kernel
theorem dX9_tellLaw_133 : decode cX9_tellLaw 133 = .ok (.aload_n 0, 1) := by decide +kernel
theorem dX9_tellLaw_134 : decode cX9_tellLaw 134 = .ok (.getfield 242, 3) := by decide +kernel
theorem dX9_tellLaw_137 : decode cX9_tellLaw 137 = .ok (.iconst 0, 1) := by decide +kernel
theorem dX9_tellLaw_138 : decode cX9_tellLaw 138 = .ok (.bastore, 1) := by decide +kernel
theorem dX9_tellLaw_139 : decode cX9_tellLaw 139 = .ok (.aload_n 0, 1) := by decide +kernel
theorem dX9_tellLaw_140 : decode cX9_tellLaw 140 = .ok (.invokevirtual 277, 3) := by decide +kernel
theorem dX9_tellLaw_143 : decode cX9_tellLaw 143 = .ok (.aload_n 0, 1) := by decide +kernel
theorem dX9_tellLaw_144 : decode cX9_tellLaw 144 = .ok (.iconst 4, 1) := by decide +kernel
theorem dX9_tellLaw_145 : decode cX9_tellLaw 145 = .ok (.invokevirtual 261, 3) := by decide +kernel
theorem dX9_tellLaw_148 : decode cX9_tellLaw 148 = .ok (.aload_n 0, 1) := by decide +kernel
theorem dX9_tellLaw_149 : decode cX9_tellLaw 149 = .ok (.getfield 203, 3) := by decide +kernel
theorem dX9_tellLaw_152 : decode cX9_tellLaw 152 = .ok (.ifCond .le 4, 3) := by decide +kernel
theorem dX9_tellLaw_155 : decode cX9_tellLaw 155 = .ok (.return_, 1) := by decide +kernel
theorem dX9_tellLaw_156 : decode cX9_tellLaw 156 = .ok (.aload_n 0, 1) := by decide +kernel
theorem dX9_tellLaw_157 : decode cX9_tellLaw 157 = .ok (.getfield 74, 3) := by decide +kernel
theorem dX9_tellLaw_160 : decode cX9_tellLaw 160 = .ok (.bipush 7, 2) := by decide +kernel
theorem dX9_tellLaw_162 : decode cX9_tellLaw 162 = .ok (.aload_n 0, 1) := by decide +kernel
theorem dX9_tellLaw_163 : decode cX9_tellLaw 163 = .ok (.getfield 236, 3) := by decide +kernel
theorem dX9_tellLaw_166 : decode cX9_tellLaw 166 = .ok (.imul, 1) := by decide +kernel
theorem dX9_tellLaw_167 : decode cX9_tellLaw 167 = .ok (.iload_n 1, 1) := by decide +kernel
theorem dX9_tellLaw_168 : decode cX9_tellLaw 168 = .ok (.iadd, 1) := by decide +kernel
theorem dX9_tellLaw_169 : decode cX9_tellLaw 169 = .ok (.iload_n 2, 1) := by decide +kernel
theorem dX9_tellLaw_170 : decode cX9_tellLaw 170 = .ok (.iastore, 1) := by decide +kernel
theorem dX9_tellLaw_171 : decode cX9_tellLaw 171 = .ok (.aload_n 0, 1) := by decide +kernel
theorem dX9_tellLaw_172 : decode cX9_tellLaw 172 = .ok (.getfield 77, 3) := by decide +kernel
theorem dX9_tellLaw_175 : decode cX9_tellLaw 175 = .ok (.bipush 7, 2) := by decide +kernel
theorem dX9_tellLaw_177 : decode cX9_tellLaw 177 = .ok (.aload_n 0, 1) := by decide +kernel
theorem dX9_tellLaw_178 : decode cX9_tellLaw 178 = .ok (.getfield 236, 3) := by decide +kernel
theorem dX9_tellLaw_181 : decode cX9_tellLaw 181 = .ok (.imul, 1) := by decide +kernel
theorem dX9_tellLaw_182 : decode cX9_tellLaw 182 = .ok (.iload_n 1, 1) := by decide +kernel
theorem dX9_tellLaw_183 : decode cX9_tellLaw 183 = .ok (.iadd, 1) := by decide +kernel
theorem dX9_tellLaw_184 : decode cX9_tellLaw 184 = .ok (.aload_n 0, 1) := by decide +kernel
theorem dX9_tellLaw_185 : decode cX9_tellLaw 185 = .ok (.getfield 242, 3) := by decide +kernel
theorem dX9_tellLaw_188 : decode cX9_tellLaw 188 = .ok (.iastore, 1) := by decide +kernel
theorem dX9_tellLaw_189 : decode cX9_tellLaw 189 = .ok (.return_, 1) := by decide +kernel
theorem dX9_term_0 : decode cX9_term 0 = .ok (.aload_n 0, 1) := by decide +kernel
theorem dX9_term_1 : decode cX9_term 1 = .ok (.getfield 89, 3) := by decide +kernel
theorem dX9_term_4 : decode cX9_term 4 = .ok (.aload_n 0, 1) := by decide +kernel
theorem dX9_term_5 : decode cX9_term 5 = .ok (.getfield 242, 3) := by decide +kernel
theorem dX9_term_8 : decode cX9_term 8 = .ok (.aload_n 0, 1) := by decide +kernel
theorem dX9_term_9 : decode cX9_term 9 = .ok (.getfield 245, 3) := by decide +kernel
theorem dX9_term_12 : decode cX9_term 12 = .ok (.iastore, 1) := by decide +kernel
theorem dX9_term_13 : decode cX9_term 13 = .ok (.aload_n 0, 1) := by decide +kernel
theorem dX9_term_14 : decode cX9_term 14 = .ok (.getfield 203, 3) := by decide +kernel
theorem dX9_term_17 : decode cX9_term 17 = .ok (.ifCond .ne 7, 3) := by decide +kernel
theorem dX9_term_20 : decode cX9_term 20 = .ok (.aload_n 0, 1) := by decide +kernel
theorem dX9_term_21 : decode cX9_term 21 = .ok (.invokevirtual 274, 3) := by decide +kernel
theorem dX9_term_24 : decode cX9_term 24 = .ok (.aload_n 0, 1) := by decide +kernel
theorem dX9_term_25 : decode cX9_term 25 = .ok (.getfield 92, 3) := by decide +kernel
theorem dX9_term_28 : decode cX9_term 28 = .ok (.aload_n 0, 1) := by decide +kernel
theorem dX9_term_29 : decode cX9_term 29 = .ok (.getfield 242, 3) := by decide +kernel
theorem dX9_term_32 : decode cX9_term 32 = .ok (.aload_n 0, 1) := by decide +kernel
theorem dX9_term_33 : decode cX9_term 33 = .ok (.getfield 245, 3) := by decide +kernel
theorem dX9_term_36 : decode cX9_term 36 = .ok (.iastore, 1) := by decide +kernel
theorem dX9_term_37 : decode cX9_term 37 = .ok (.aload_n 0, 1) := by decide +kernel
theorem dX9_term_38 : decode cX9_term 38 = .ok (.dup, 1) := by decide +kernel
theorem dX9_term_39 : decode cX9_term 39 = .ok (.getfield 242, 3) := by decide +kernel
theorem dX9_term_42 : decode cX9_term 42 = .ok (.iconst 1, 1) := by decide +kernel
theorem dX9_term_43 : decode cX9_term 43 = .ok (.iadd, 1) := by decide +kernel
theorem dX9_term_44 : decode cX9_term 44 = .ok (.putfield 242, 3) := by decide +kernel
theorem dX9_term_47 : decode cX9_term 47 = .ok (.return_, 1) := by decide +kernel
theorem dX9_emit_0 : decode cX9_emit 0 = .ok (.aload_n 0, 1) := by decide +kernel
theorem dX9_emit_1 : decode cX9_emit 1 = .ok (.getfield 95, 3) := by decide +kernel
theorem dX9_emit_4 : decode cX9_emit 4 = .ok (.aload_n 0, 1) := by decide +kernel
theorem dX9_emit_5 : decode cX9_emit 5 = .ok (.getfield 245, 3) := by decide +kernel
theorem dX9_emit_8 : decode cX9_emit 8 = .ok (.iload_n 1, 1) := by decide +kernel
theorem dX9_emit_9 : decode cX9_emit 9 = .ok (.iastore, 1) := by decide +kernel
theorem dX9_emit_10 : decode cX9_emit 10 = .ok (.aload_n 0, 1) := by decide +kernel
theorem dX9_emit_11 : decode cX9_emit 11 = .ok (.getfield 98, 3) := by decide +kernel
theorem dX9_emit_14 : decode cX9_emit 14 = .ok (.aload_n 0, 1) := by decide +kernel
theorem dX9_emit_15 : decode cX9_emit 15 = .ok (.getfield 245, 3) := by decide +kernel
theorem dX9_emit_18 : decode cX9_emit 18 = .ok (.iload_n 2, 1) := by decide +kernel
theorem dX9_emit_19 : decode cX9_emit 19 = .ok (.iastore, 1) := by decide +kernel
theorem dX9_emit_20 : decode cX9_emit 20 = .ok (.aload_n 0, 1) := by decide +kernel
theorem dX9_emit_21 : decode cX9_emit 21 = .ok (.dup, 1) := by decide +kernel
theorem dX9_emit_22 : decode cX9_emit 22 = .ok (.getfield 245, 3) := by decide +kernel
theorem dX9_emit_25 : decode cX9_emit 25 = .ok (.iconst 1, 1) := by decide +kernel
theorem dX9_emit_26 : decode cX9_emit 26 = .ok (.iadd, 1) := by decide +kernel
theorem dX9_emit_27 : decode cX9_emit 27 = .ok (.putfield 245, 3) := by decide +kernel
theorem dX9_emit_30 : decode cX9_emit 30 = .ok (.return_, 1) := by decide +kernel
theorem dX9_comesOut_0 : decode cX9_comesOut 0 = .ok (.aload_n 0, 1) := by decide +kernel
theorem dX9_comesOut_1 : decode cX9_comesOut 1 = .ok (.getfield 280, 3) := by decide +kernel
theorem dX9_comesOut_4 : decode cX9_comesOut 4 = .ok (.ifCond .le 87, 3) := by decide +kernel
theorem dX9_comesOut_7 : decode cX9_comesOut 7 = .ok (.aload_n 0, 1) := by decide +kernel
theorem dX9_comesOut_8 : decode cX9_comesOut 8 = .ok (.getfield 101, 3) := by decide +kernel
theorem dX9_comesOut_11 : decode cX9_comesOut 11 = .ok (.aload_n 0, 1) := by decide +kernel
theorem dX9_comesOut_12 : decode cX9_comesOut 12 = .ok (.getfield 280, 3) := by decide +kernel
theorem dX9_comesOut_15 : decode cX9_comesOut 15 = .ok (.iconst 1, 1) := by decide +kernel
theorem dX9_comesOut_16 : decode cX9_comesOut 16 = .ok (.isub, 1) := by decide +kernel
theorem dX9_comesOut_17 : decode cX9_comesOut 17 = .ok (.iaload, 1) := by decide +kernel
theorem dX9_comesOut_18 : decode cX9_comesOut 18 = .ok (.istore_n 2, 1) := by decide +kernel
theorem dX9_comesOut_19 : decode cX9_comesOut 19 = .ok (.iload_n 2, 1) := by decide +kernel
theorem dX9_comesOut_20 : decode cX9_comesOut 20 = .ok (.bipush 6, 2) := by decide +kernel
theorem dX9_comesOut_22 : decode cX9_comesOut 22 = .ok (.if_icmp .eq 19, 3) := by decide +kernel
theorem dX9_comesOut_25 : decode cX9_comesOut 25 = .ok (.iload_n 1, 1) := by decide +kernel
theorem dX9_comesOut_26 : decode cX9_comesOut 26 = .ok (.ifCond .eq 16, 3) := by decide +kernel
theorem dX9_comesOut_29 : decode cX9_comesOut 29 = .ok (.iload_n 2, 1) := by decide +kernel
theorem dX9_comesOut_30 : decode cX9_comesOut 30 = .ok (.bipush 8, 2) := by decide +kernel
theorem dX9_comesOut_32 : decode cX9_comesOut 32 = .ok (.if_icmp .eq 9, 3) := by decide +kernel
theorem dX9_comesOut_35 : decode cX9_comesOut 35 = .ok (.iload_n 2, 1) := by decide +kernel
theorem dX9_comesOut_36 : decode cX9_comesOut 36 = .ok (.bipush 9, 2) := by decide +kernel
theorem dX9_comesOut_38 : decode cX9_comesOut 38 = .ok (.if_icmp .ne 4, 3) := by decide +kernel
theorem dX9_comesOut_41 : decode cX9_comesOut 41 = .ok (.return_, 1) := by decide +kernel
theorem dX9_comesOut_42 : decode cX9_comesOut 42 = .ok (.aload_n 0, 1) := by decide +kernel
theorem dX9_comesOut_43 : decode cX9_comesOut 43 = .ok (.dup, 1) := by decide +kernel
theorem dX9_comesOut_44 : decode cX9_comesOut 44 = .ok (.getfield 280, 3) := by decide +kernel
theorem dX9_comesOut_47 : decode cX9_comesOut 47 = .ok (.iconst 1, 1) := by decide +kernel
theorem dX9_comesOut_48 : decode cX9_comesOut 48 = .ok (.isub, 1) := by decide +kernel
theorem dX9_comesOut_49 : decode cX9_comesOut 49 = .ok (.putfield 280, 3) := by decide +kernel
theorem dX9_comesOut_52 : decode cX9_comesOut 52 = .ok (.aload_n 0, 1) := by decide +kernel
theorem dX9_comesOut_53 : decode cX9_comesOut 53 = .ok (.iload_n 2, 1) := by decide +kernel
theorem dX9_comesOut_54 : decode cX9_comesOut 54 = .ok (.bipush 8, 2) := by decide +kernel
theorem dX9_comesOut_56 : decode cX9_comesOut 56 = .ok (.if_icmp .ne 7, 3) := by decide +kernel
theorem dX9_comesOut_59 : decode cX9_comesOut 59 = .ok (.iconst 2, 1) := by decide +kernel
theorem dX9_comesOut_60 : decode cX9_comesOut 60 = .ok (.goto 24, 3) := by decide +kernel
theorem dX9_comesOut_63 : decode cX9_comesOut 63 = .ok (.iload_n 2, 1) := by decide +kernel
theorem dX9_comesOut_64 : decode cX9_comesOut 64 = .ok (.bipush 9, 2) := by decide +kernel
theorem dX9_comesOut_66 : decode cX9_comesOut 66 = .ok (.if_icmp .ne 7, 3) := by decide +kernel
theorem dX9_comesOut_69 : decode cX9_comesOut 69 = .ok (.iconst 3, 1) := by decide +kernel
theorem dX9_comesOut_70 : decode cX9_comesOut 70 = .ok (.goto 14, 3) := by decide +kernel
theorem dX9_comesOut_73 : decode cX9_comesOut 73 = .ok (.iload_n 2, 1) := by decide +kernel
theorem dX9_comesOut_74 : decode cX9_comesOut 74 = .ok (.bipush 10, 2) := by decide +kernel
theorem dX9_comesOut_76 : decode cX9_comesOut 76 = .ok (.if_icmp .ne 7, 3) := by decide +kernel
theorem dX9_comesOut_79 : decode cX9_comesOut 79 = .ok (.iconst 4, 1) := by decide +kernel
theorem dX9_comesOut_80 : decode cX9_comesOut 80 = .ok (.goto 4, 3) := by decide +kernel
theorem dX9_comesOut_83 : decode cX9_comesOut 83 = .ok (.iconst 5, 1) := by decide +kernel
theorem dX9_comesOut_84 : decode cX9_comesOut 84 = .ok (.iconst 0, 1) := by decide +kernel
theorem dX9_comesOut_85 : decode cX9_comesOut 85 = .ok (.invokevirtual 283, 3) := by decide +kernel
theorem dX9_comesOut_88 : decode cX9_comesOut 88 = .ok (.goto (-88), 3) := by decide +kernel
theorem dX9_comesOut_91 : decode cX9_comesOut 91 = .ok (.return_, 1) := by decide +kernel
theorem dX9_expression_0 : decode cX9_expression 0 = .ok (.aload_n 0, 1) := by decide +kernel
theorem dX9_expression_1 : decode cX9_expression 1 = .ok (.iconst 0, 1) := by decide +kernel
theorem dX9_expression_2 : decode cX9_expression 2 = .ok (.putfield 280, 3) := by decide +kernel
theorem dX9_expression_5 : decode cX9_expression 5 = .ok (.aload_n 0, 1) := by decide +kernel
theorem dX9_expression_6 : decode cX9_expression 6 = .ok (.getfield 230, 3) := by decide +kernel
theorem dX9_expression_9 : decode cX9_expression 9 = .ok (.istore_n 1, 1) := by decide +kernel
theorem dX9_expression_10 : decode cX9_expression 10 = .ok (.iconst 1, 1) := by decide +kernel
theorem dX9_expression_11 : decode cX9_expression 11 = .ok (.istore_n 2, 1) := by decide +kernel
theorem dX9_expression_12 : decode cX9_expression 12 = .ok (.iload_n 2, 1) := by decide +kernel
theorem dX9_expression_13 : decode cX9_expression 13 = .ok (.ifCond .eq 259, 3) := by decide +kernel
theorem dX9_expression_16 : decode cX9_expression 16 = .ok (.aload_n 0, 1) := by decide +kernel
theorem dX9_expression_17 : decode cX9_expression 17 = .ok (.getfield 203, 3) := by decide +kernel
theorem dX9_expression_20 : decode cX9_expression 20 = .ok (.ifCond .ne 252, 3) := by decide +kernel
theorem dX9_expression_23 : decode cX9_expression 23 = .ok (.aload_n 0, 1) := by decide +kernel
theorem dX9_expression_24 : decode cX9_expression 24 = .ok (.bipush 6, 2) := by decide +kernel
theorem dX9_expression_26 : decode cX9_expression 26 = .ok (.invokevirtual 221, 3) := by decide +kernel
theorem dX9_expression_29 : decode cX9_expression 29 = .ok (.ifCond .eq 55, 3) := by decide +kernel
theorem dX9_expression_32 : decode cX9_expression 32 = .ok (.aload_n 0, 1) := by decide +kernel
theorem dX9_expression_33 : decode cX9_expression 33 = .ok (.getfield 230, 3) := by decide +kernel
theorem dX9_expression_36 : decode cX9_expression 36 = .ok (.bipush 6, 2) := by decide +kernel
theorem dX9_expression_38 : decode cX9_expression 38 = .ok (.if_icmp .ne 8, 3) := by decide +kernel
theorem dX9_expression_41 : decode cX9_expression 41 = .ok (.aload_n 0, 1) := by decide +kernel
theorem dX9_expression_42 : decode cX9_expression 42 = .ok (.iconst 2, 1) := by decide +kernel
theorem dX9_expression_43 : decode cX9_expression 43 = .ok (.invokevirtual 218, 3) := by decide +kernel
theorem dX9_expression_46 : decode cX9_expression 46 = .ok (.aload_n 0, 1) := by decide +kernel
theorem dX9_expression_47 : decode cX9_expression 47 = .ok (.dup, 1) := by decide +kernel
theorem dX9_expression_48 : decode cX9_expression 48 = .ok (.getfield 230, 3) := by decide +kernel
theorem dX9_expression_51 : decode cX9_expression 51 = .ok (.iconst 1, 1) := by decide +kernel
theorem dX9_expression_52 : decode cX9_expression 52 = .ok (.iadd, 1) := by decide +kernel
theorem dX9_expression_53 : decode cX9_expression 53 = .ok (.putfield 230, 3) := by decide +kernel
theorem dX9_expression_56 : decode cX9_expression 56 = .ok (.aload_n 0, 1) := by decide +kernel
theorem dX9_expression_57 : decode cX9_expression 57 = .ok (.invokevirtual 224, 3) := by decide +kernel
theorem dX9_expression_60 : decode cX9_expression 60 = .ok (.aload_n 0, 1) := by decide +kernel
theorem dX9_expression_61 : decode cX9_expression 61 = .ok (.getfield 101, 3) := by decide +kernel
theorem dX9_expression_64 : decode cX9_expression 64 = .ok (.aload_n 0, 1) := by decide +kernel
theorem dX9_expression_65 : decode cX9_expression 65 = .ok (.getfield 280, 3) := by decide +kernel
theorem dX9_expression_68 : decode cX9_expression 68 = .ok (.bipush 6, 2) := by decide +kernel
theorem dX9_expression_70 : decode cX9_expression 70 = .ok (.iastore, 1) := by decide +kernel
theorem dX9_expression_71 : decode cX9_expression 71 = .ok (.aload_n 0, 1) := by decide +kernel
theorem dX9_expression_72 : decode cX9_expression 72 = .ok (.dup, 1) := by decide +kernel
theorem dX9_expression_73 : decode cX9_expression 73 = .ok (.getfield 280, 3) := by decide +kernel
theorem dX9_expression_76 : decode cX9_expression 76 = .ok (.iconst 1, 1) := by decide +kernel
theorem dX9_expression_77 : decode cX9_expression 77 = .ok (.iadd, 1) := by decide +kernel
theorem dX9_expression_78 : decode cX9_expression 78 = .ok (.putfield 280, 3) := by decide +kernel
theorem dX9_expression_81 : decode cX9_expression 81 = .ok (.goto (-58), 3) := by decide +kernel
theorem dX9_expression_84 : decode cX9_expression 84 = .ok (.aload_n 0, 1) := by decide +kernel
theorem dX9_expression_85 : decode cX9_expression 85 = .ok (.invokevirtual 286, 3) := by decide +kernel
theorem dX9_expression_88 : decode cX9_expression 88 = .ok (.aload_n 0, 1) := by decide +kernel
theorem dX9_expression_89 : decode cX9_expression 89 = .ok (.getfield 203, 3) := by decide +kernel
theorem dX9_expression_92 : decode cX9_expression 92 = .ok (.ifCond .le 4, 3) := by decide +kernel
theorem dX9_expression_95 : decode cX9_expression 95 = .ok (.return_, 1) := by decide +kernel
theorem dX9_expression_96 : decode cX9_expression 96 = .ok (.aload_n 0, 1) := by decide +kernel
theorem dX9_expression_97 : decode cX9_expression 97 = .ok (.bipush 7, 2) := by decide +kernel
theorem dX9_expression_99 : decode cX9_expression 99 = .ok (.invokevirtual 221, 3) := by decide +kernel
theorem dX9_expression_102 : decode cX9_expression 102 = .ok (.ifCond .eq 43, 3) := by decide +kernel
theorem dX9_expression_105 : decode cX9_expression 105 = .ok (.aload_n 0, 1) := by decide +kernel
theorem dX9_expression_106 : decode cX9_expression 106 = .ok (.getfield 230, 3) := by decide +kernel
theorem dX9_expression_109 : decode cX9_expression 109 = .ok (.iload_n 1, 1) := by decide +kernel
theorem dX9_expression_110 : decode cX9_expression 110 = .ok (.if_icmp .le 35, 3) := by decide +kernel
theorem dX9_expression_113 : decode cX9_expression 113 = .ok (.aload_n 0, 1) := by decide +kernel
theorem dX9_expression_114 : decode cX9_expression 114 = .ok (.iconst 0, 1) := by decide +kernel
theorem dX9_expression_115 : decode cX9_expression 115 = .ok (.invokevirtual 289, 3) := by decide +kernel
theorem dX9_expression_118 : decode cX9_expression 118 = .ok (.aload_n 0, 1) := by decide +kernel
theorem dX9_expression_119 : decode cX9_expression 119 = .ok (.dup, 1) := by decide +kernel
theorem dX9_expression_120 : decode cX9_expression 120 = .ok (.getfield 280, 3) := by decide +kernel
theorem dX9_expression_123 : decode cX9_expression 123 = .ok (.iconst 1, 1) := by decide +kernel
theorem dX9_expression_124 : decode cX9_expression 124 = .ok (.isub, 1) := by decide +kernel
theorem dX9_expression_125 : decode cX9_expression 125 = .ok (.putfield 280, 3) := by decide +kernel
theorem dX9_expression_128 : decode cX9_expression 128 = .ok (.aload_n 0, 1) := by decide +kernel
theorem dX9_expression_129 : decode cX9_expression 129 = .ok (.dup, 1) := by decide +kernel
theorem dX9_expression_130 : decode cX9_expression 130 = .ok (.getfield 230, 3) := by decide +kernel
theorem dX9_expression_133 : decode cX9_expression 133 = .ok (.iconst 1, 1) := by decide +kernel
theorem dX9_expression_134 : decode cX9_expression 134 = .ok (.isub, 1) := by decide +kernel
theorem dX9_expression_135 : decode cX9_expression 135 = .ok (.putfield 230, 3) := by decide +kernel
theorem dX9_expression_138 : decode cX9_expression 138 = .ok (.aload_n 0, 1) := by decide +kernel
theorem dX9_expression_139 : decode cX9_expression 139 = .ok (.invokevirtual 224, 3) := by decide +kernel
theorem dX9_expression_142 : decode cX9_expression 142 = .ok (.goto (-46), 3) := by decide +kernel
theorem dX9_expression_145 : decode cX9_expression 145 = .ok (.aload_n 0, 1) := by decide +kernel
theorem dX9_expression_146 : decode cX9_expression 146 = .ok (.bipush 8, 2) := by decide +kernel
theorem dX9_expression_148 : decode cX9_expression 148 = .ok (.invokevirtual 221, 3) := by decide +kernel
theorem dX9_expression_151 : decode cX9_expression 151 = .ok (.ifCond .ne 30, 3) := by decide +kernel
theorem dX9_expression_154 : decode cX9_expression 154 = .ok (.aload_n 0, 1) := by decide +kernel
theorem dX9_expression_155 : decode cX9_expression 155 = .ok (.bipush 9, 2) := by decide +kernel
theorem dX9_expression_157 : decode cX9_expression 157 = .ok (.invokevirtual 221, 3) := by decide +kernel
theorem dX9_expression_160 : decode cX9_expression 160 = .ok (.ifCond .ne 21, 3) := by decide +kernel
theorem dX9_expression_163 : decode cX9_expression 163 = .ok (.aload_n 0, 1) := by decide +kernel
theorem dX9_expression_164 : decode cX9_expression 164 = .ok (.bipush 10, 2) := by decide +kernel
theorem dX9_expression_166 : decode cX9_expression 166 = .ok (.invokevirtual 221, 3) := by decide +kernel
theorem dX9_expression_169 : decode cX9_expression 169 = .ok (.ifCond .ne 12, 3) := by decide +kernel
theorem dX9_expression_172 : decode cX9_expression 172 = .ok (.aload_n 0, 1) := by decide +kernel
theorem dX9_expression_173 : decode cX9_expression 173 = .ok (.bipush 15, 2) := by decide +kernel
theorem dX9_expression_175 : decode cX9_expression 175 = .ok (.invokevirtual 221, 3) := by decide +kernel
theorem dX9_expression_178 : decode cX9_expression 178 = .ok (.ifCond .eq 7, 3) := by decide +kernel
theorem dX9_expression_181 : decode cX9_expression 181 = .ok (.iconst 1, 1) := by decide +kernel
theorem dX9_expression_182 : decode cX9_expression 182 = .ok (.goto 4, 3) := by decide +kernel
theorem dX9_expression_185 : decode cX9_expression 185 = .ok (.iconst 0, 1) := by decide +kernel
theorem dX9_expression_186 : decode cX9_expression 186 = .ok (.istore_n 2, 1) := by decide +kernel
theorem dX9_expression_187 : decode cX9_expression 187 = .ok (.iload_n 2, 1) := by decide +kernel
theorem dX9_expression_188 : decode cX9_expression 188 = .ok (.ifCond .ne 22, 3) := by decide +kernel
theorem dX9_expression_191 : decode cX9_expression 191 = .ok (.aload_n 0, 1) := by decide +kernel
theorem dX9_expression_192 : decode cX9_expression 192 = .ok (.getfield 230, 3) := by decide +kernel
theorem dX9_expression_195 : decode cX9_expression 195 = .ok (.iload_n 1, 1) := by decide +kernel
theorem dX9_expression_196 : decode cX9_expression 196 = .ok (.if_icmp .le 8, 3) := by decide +kernel
theorem dX9_expression_199 : decode cX9_expression 199 = .ok (.aload_n 0, 1) := by decide +kernel
theorem dX9_expression_200 : decode cX9_expression 200 = .ok (.iconst 1, 1) := by decide +kernel
theorem dX9_expression_201 : decode cX9_expression 201 = .ok (.invokevirtual 218, 3) := by decide +kernel
theorem dX9_expression_204 : decode cX9_expression 204 = .ok (.aload_n 0, 1) := by decide +kernel
theorem dX9_expression_205 : decode cX9_expression 205 = .ok (.iconst 0, 1) := by decide +kernel
theorem dX9_expression_206 : decode cX9_expression 206 = .ok (.invokevirtual 289, 3) := by decide +kernel
theorem dX9_expression_209 : decode cX9_expression 209 = .ok (.return_, 1) := by decide +kernel
theorem dX9_expression_210 : decode cX9_expression 210 = .ok (.aload_n 0, 1) := by decide +kernel
theorem dX9_expression_211 : decode cX9_expression 211 = .ok (.aload_n 0, 1) := by decide +kernel
theorem dX9_expression_212 : decode cX9_expression 212 = .ok (.bipush 10, 2) := by decide +kernel
theorem dX9_expression_214 : decode cX9_expression 214 = .ok (.invokevirtual 221, 3) := by decide +kernel
theorem dX9_expression_217 : decode cX9_expression 217 = .ok (.ifCond .ne 12, 3) := by decide +kernel
theorem dX9_expression_220 : decode cX9_expression 220 = .ok (.aload_n 0, 1) := by decide +kernel
theorem dX9_expression_221 : decode cX9_expression 221 = .ok (.bipush 15, 2) := by decide +kernel
theorem dX9_expression_223 : decode cX9_expression 223 = .ok (.invokevirtual 221, 3) := by decide +kernel
theorem dX9_expression_226 : decode cX9_expression 226 = .ok (.ifCond .eq 7, 3) := by decide +kernel
theorem dX9_expression_229 : decode cX9_expression 229 = .ok (.iconst 1, 1) := by decide +kernel
theorem dX9_expression_230 : decode cX9_expression 230 = .ok (.goto 4, 3) := by decide +kernel
theorem dX9_expression_233 : decode cX9_expression 233 = .ok (.iconst 0, 1) := by decide +kernel
theorem dX9_expression_234 : decode cX9_expression 234 = .ok (.invokevirtual 289, 3) := by decide +kernel
theorem dX9_expression_237 : decode cX9_expression 237 = .ok (.aload_n 0, 1) := by decide +kernel
theorem dX9_expression_238 : decode cX9_expression 238 = .ok (.getfield 101, 3) := by decide +kernel
theorem dX9_expression_241 : decode cX9_expression 241 = .ok (.aload_n 0, 1) := by decide +kernel
theorem dX9_expression_242 : decode cX9_expression 242 = .ok (.getfield 280, 3) := by decide +kernel
theorem dX9_expression_245 : decode cX9_expression 245 = .ok (.aload_n 0, 1) := by decide +kernel
theorem dX9_expression_246 : decode cX9_expression 246 = .ok (.getfield 20, 3) := by decide +kernel
theorem dX9_expression_249 : decode cX9_expression 249 = .ok (.aload_n 0, 1) := by decide +kernel
theorem dX9_expression_250 : decode cX9_expression 250 = .ok (.getfield 206, 3) := by decide +kernel
theorem dX9_expression_253 : decode cX9_expression 253 = .ok (.iaload, 1) := by decide +kernel
theorem dX9_expression_254 : decode cX9_expression 254 = .ok (.iastore, 1) := by decide +kernel
theorem dX9_expression_255 : decode cX9_expression 255 = .ok (.aload_n 0, 1) := by decide +kernel
theorem dX9_expression_256 : decode cX9_expression 256 = .ok (.dup, 1) := by decide +kernel
theorem dX9_expression_257 : decode cX9_expression 257 = .ok (.getfield 280, 3) := by decide +kernel
theorem dX9_expression_260 : decode cX9_expression 260 = .ok (.iconst 1, 1) := by decide +kernel
theorem dX9_expression_261 : decode cX9_expression 261 = .ok (.iadd, 1) := by decide +kernel
theorem dX9_expression_262 : decode cX9_expression 262 = .ok (.putfield 280, 3) := by decide +kernel
theorem dX9_expression_265 : decode cX9_expression 265 = .ok (.aload_n 0, 1) := by decide +kernel
theorem dX9_expression_266 : decode cX9_expression 266 = .ok (.invokevirtual 224, 3) := by decide +kernel
theorem dX9_expression_269 : decode cX9_expression 269 = .ok (.goto (-257), 3) := by decide +kernel
theorem dX9_expression_272 : decode cX9_expression 272 = .ok (.return_, 1) := by decide +kernel
theorem dX9_unit_0 : decode cX9_unit 0 = .ok (.aload_n 0, 1) := by decide +kernel
theorem dX9_unit_1 : decode cX9_unit 1 = .ok (.iconst 2, 1) := by decide +kernel
theorem dX9_unit_2 : decode cX9_unit 2 = .ok (.invokevirtual 221, 3) := by decide +kernel
theorem dX9_unit_5 : decode cX9_unit 5 = .ok (.ifCond .eq 24, 3) := by decide +kernel
theorem dX9_unit_8 : decode cX9_unit 8 = .ok (.aload_n 0, 1) := by decide +kernel
theorem dX9_unit_9 : decode cX9_unit 9 = .ok (.iconst 0, 1) := by decide +kernel
theorem dX9_unit_10 : decode cX9_unit 10 = .ok (.aload_n 0, 1) := by decide +kernel
theorem dX9_unit_11 : decode cX9_unit 11 = .ok (.getfield 27, 3) := by decide +kernel
theorem dX9_unit_14 : decode cX9_unit 14 = .ok (.aload_n 0, 1) := by decide +kernel
theorem dX9_unit_15 : decode cX9_unit 15 = .ok (.getfield 206, 3) := by decide +kernel
theorem dX9_unit_18 : decode cX9_unit 18 = .ok (.iaload, 1) := by decide +kernel
theorem dX9_unit_19 : decode cX9_unit 19 = .ok (.invokevirtual 283, 3) := by decide +kernel
theorem dX9_unit_22 : decode cX9_unit 22 = .ok (.aload_n 0, 1) := by decide +kernel
theorem dX9_unit_23 : decode cX9_unit 23 = .ok (.invokevirtual 224, 3) := by decide +kernel
theorem dX9_unit_26 : decode cX9_unit 26 = .ok (.goto 67, 3) := by decide +kernel
theorem dX9_unit_29 : decode cX9_unit 29 = .ok (.aload_n 0, 1) := by decide +kernel
theorem dX9_unit_30 : decode cX9_unit 30 = .ok (.getfield 203, 3) := by decide +kernel
theorem dX9_unit_33 : decode cX9_unit 33 = .ok (.ifCond .ne 55, 3) := by decide +kernel
theorem dX9_unit_36 : decode cX9_unit 36 = .ok (.aload_n 0, 1) := by decide +kernel
theorem dX9_unit_37 : decode cX9_unit 37 = .ok (.getfield 20, 3) := by decide +kernel
theorem dX9_unit_40 : decode cX9_unit 40 = .ok (.aload_n 0, 1) := by decide +kernel
theorem dX9_unit_41 : decode cX9_unit 41 = .ok (.getfield 206, 3) := by decide +kernel
theorem dX9_unit_44 : decode cX9_unit 44 = .ok (.iaload, 1) := by decide +kernel
theorem dX9_unit_45 : decode cX9_unit 45 = .ok (.bipush 36, 2) := by decide +kernel
theorem dX9_unit_47 : decode cX9_unit 47 = .ok (.if_icmp .lt 41, 3) := by decide +kernel
theorem dX9_unit_50 : decode cX9_unit 50 = .ok (.aload_n 0, 1) := by decide +kernel
theorem dX9_unit_51 : decode cX9_unit 51 = .ok (.getfield 20, 3) := by decide +kernel
theorem dX9_unit_54 : decode cX9_unit 54 = .ok (.aload_n 0, 1) := by decide +kernel
theorem dX9_unit_55 : decode cX9_unit 55 = .ok (.getfield 206, 3) := by decide +kernel
theorem dX9_unit_58 : decode cX9_unit 58 = .ok (.iaload, 1) := by decide +kernel
theorem dX9_unit_59 : decode cX9_unit 59 = .ok (.bipush 44, 2) := by decide +kernel
theorem dX9_unit_61 : decode cX9_unit 61 = .ok (.if_icmp .gt 27, 3) := by decide +kernel
theorem dX9_unit_64 : decode cX9_unit 64 = .ok (.aload_n 0, 1) := by decide +kernel
theorem dX9_unit_65 : decode cX9_unit 65 = .ok (.iconst 1, 1) := by decide +kernel
theorem dX9_unit_66 : decode cX9_unit 66 = .ok (.aload_n 0, 1) := by decide +kernel
theorem dX9_unit_67 : decode cX9_unit 67 = .ok (.getfield 20, 3) := by decide +kernel
theorem dX9_unit_70 : decode cX9_unit 70 = .ok (.aload_n 0, 1) := by decide +kernel
theorem dX9_unit_71 : decode cX9_unit 71 = .ok (.getfield 206, 3) := by decide +kernel
theorem dX9_unit_74 : decode cX9_unit 74 = .ok (.iaload, 1) := by decide +kernel
theorem dX9_unit_75 : decode cX9_unit 75 = .ok (.bipush 36, 2) := by decide +kernel
theorem dX9_unit_77 : decode cX9_unit 77 = .ok (.isub, 1) := by decide +kernel
theorem dX9_unit_78 : decode cX9_unit 78 = .ok (.invokevirtual 283, 3) := by decide +kernel
theorem dX9_unit_81 : decode cX9_unit 81 = .ok (.aload_n 0, 1) := by decide +kernel
theorem dX9_unit_82 : decode cX9_unit 82 = .ok (.invokevirtual 224, 3) := by decide +kernel
theorem dX9_unit_85 : decode cX9_unit 85 = .ok (.goto 8, 3) := by decide +kernel
theorem dX9_unit_88 : decode cX9_unit 88 = .ok (.aload_n 0, 1) := by decide +kernel
theorem dX9_unit_89 : decode cX9_unit 89 = .ok (.iconst 1, 1) := by decide +kernel
theorem dX9_unit_90 : decode cX9_unit 90 = .ok (.invokevirtual 218, 3) := by decide +kernel
theorem dX9_unit_93 : decode cX9_unit 93 = .ok (.return_, 1) := by decide +kernel
theorem dX9_termOf_0 : decode cX9_termOf 0 = .ok (.iconst 0, 1) := by decide +kernel
theorem dX9_termOf_1 : decode cX9_termOf 1 = .ok (.istore_n 3, 1) := by decide +kernel
theorem dX9_termOf_2 : decode cX9_termOf 2 = .ok (.iload_n 1, 1) := by decide +kernel
theorem dX9_termOf_3 : decode cX9_termOf 3 = .ok (.istore 4, 2) := by decide +kernel
theorem dX9_termOf_5 : decode cX9_termOf 5 = .ok (.iload 4, 2) := by decide +kernel
theorem dX9_termOf_7 : decode cX9_termOf 7 = .ok (.iload_n 2, 1) := by decide +kernel
theorem dX9_termOf_8 : decode cX9_termOf 8 = .ok (.if_icmp .ge 157, 3) := by decide +kernel
theorem dX9_termOf_11 : decode cX9_termOf 11 = .ok (.aload_n 0, 1) := by decide +kernel
theorem dX9_termOf_12 : decode cX9_termOf 12 = .ok (.getfield 95, 3) := by decide +kernel
theorem dX9_termOf_15 : decode cX9_termOf 15 = .ok (.iload 4, 2) := by decide +kernel
theorem dX9_termOf_17 : decode cX9_termOf 17 = .ok (.iaload, 1) := by decide +kernel
theorem dX9_termOf_18 : decode cX9_termOf 18 = .ok (.istore 5, 2) := by decide +kernel
theorem dX9_termOf_20 : decode cX9_termOf 20 = .ok (.iload 5, 2) := by decide +kernel
theorem dX9_termOf_22 : decode cX9_termOf 22 = .ok (.iconst 2, 1) := by decide +kernel
theorem dX9_termOf_23 : decode cX9_termOf 23 = .ok (.if_icmp .ge 42, 3) := by decide +kernel
theorem dX9_termOf_26 : decode cX9_termOf 26 = .ok (.aload_n 0, 1) := by decide +kernel
theorem dX9_termOf_27 : decode cX9_termOf 27 = .ok (.getfield 107, 3) := by decide +kernel
theorem dX9_termOf_30 : decode cX9_termOf 30 = .ok (.iload_n 3, 1) := by decide +kernel
theorem dX9_termOf_31 : decode cX9_termOf 31 = .ok (.iload 5, 2) := by decide +kernel
theorem dX9_termOf_33 : decode cX9_termOf 33 = .ok (.ifCond .ne 13, 3) := by decide +kernel
theorem dX9_termOf_36 : decode cX9_termOf 36 = .ok (.aload_n 0, 1) := by decide +kernel
theorem dX9_termOf_37 : decode cX9_termOf 37 = .ok (.getfield 98, 3) := by decide +kernel
theorem dX9_termOf_40 : decode cX9_termOf 40 = .ok (.iload 4, 2) := by decide +kernel
theorem dX9_termOf_42 : decode cX9_termOf 42 = .ok (.iaload, 1) := by decide +kernel
theorem dX9_termOf_43 : decode cX9_termOf 43 = .ok (.goto 15, 3) := by decide +kernel
theorem dX9_termOf_46 : decode cX9_termOf 46 = .ok (.aload_n 0, 1) := by decide +kernel
theorem dX9_termOf_47 : decode cX9_termOf 47 = .ok (.getfield 104, 3) := by decide +kernel
theorem dX9_termOf_50 : decode cX9_termOf 50 = .ok (.aload_n 0, 1) := by decide +kernel
theorem dX9_termOf_51 : decode cX9_termOf 51 = .ok (.getfield 98, 3) := by decide +kernel
theorem dX9_termOf_54 : decode cX9_termOf 54 = .ok (.iload 4, 2) := by decide +kernel
theorem dX9_termOf_56 : decode cX9_termOf 56 = .ok (.iaload, 1) := by decide +kernel
theorem dX9_termOf_57 : decode cX9_termOf 57 = .ok (.iaload, 1) := by decide +kernel
theorem dX9_termOf_58 : decode cX9_termOf 58 = .ok (.iastore, 1) := by decide +kernel
theorem dX9_termOf_59 : decode cX9_termOf 59 = .ok (.iinc 3 1, 3) := by decide +kernel
theorem dX9_termOf_62 : decode cX9_termOf 62 = .ok (.goto 97, 3) := by decide +kernel
theorem dX9_termOf_65 : decode cX9_termOf 65 = .ok (.iinc 3 (-1), 3) := by decide +kernel
theorem dX9_termOf_68 : decode cX9_termOf 68 = .ok (.aload_n 0, 1) := by decide +kernel
theorem dX9_termOf_69 : decode cX9_termOf 69 = .ok (.getfield 107, 3) := by decide +kernel
theorem dX9_termOf_72 : decode cX9_termOf 72 = .ok (.iload_n 3, 1) := by decide +kernel
theorem dX9_termOf_73 : decode cX9_termOf 73 = .ok (.iconst 1, 1) := by decide +kernel
theorem dX9_termOf_74 : decode cX9_termOf 74 = .ok (.isub, 1) := by decide +kernel
theorem dX9_termOf_75 : decode cX9_termOf 75 = .ok (.iaload, 1) := by decide +kernel
theorem dX9_termOf_76 : decode cX9_termOf 76 = .ok (.istore 6, 2) := by decide +kernel
theorem dX9_termOf_78 : decode cX9_termOf 78 = .ok (.aload_n 0, 1) := by decide +kernel
theorem dX9_termOf_79 : decode cX9_termOf 79 = .ok (.getfield 107, 3) := by decide +kernel
theorem dX9_termOf_82 : decode cX9_termOf 82 = .ok (.iload_n 3, 1) := by decide +kernel
theorem dX9_termOf_83 : decode cX9_termOf 83 = .ok (.iaload, 1) := by decide +kernel
theorem dX9_termOf_84 : decode cX9_termOf 84 = .ok (.istore 7, 2) := by decide +kernel
theorem dX9_termOf_86 : decode cX9_termOf 86 = .ok (.iload 5, 2) := by decide +kernel
theorem dX9_termOf_88 : decode cX9_termOf 88 = .ok (.iconst 5, 1) := by decide +kernel
theorem dX9_termOf_89 : decode cX9_termOf 89 = .ok (.if_icmp .ne 15, 3) := by decide +kernel
theorem dX9_termOf_92 : decode cX9_termOf 92 = .ok (.iload 7, 2) := by decide +kernel
theorem dX9_termOf_94 : decode cX9_termOf 94 = .ok (.ifCond .ne 10, 3) := by decide +kernel
theorem dX9_termOf_97 : decode cX9_termOf 97 = .ok (.aload_n 0, 1) := by decide +kernel
theorem dX9_termOf_98 : decode cX9_termOf 98 = .ok (.iconst 1, 1) := by decide +kernel
theorem dX9_termOf_99 : decode cX9_termOf 99 = .ok (.putfield 293, 3) := by decide +kernel
theorem dX9_termOf_102 : decode cX9_termOf 102 = .ok (.iconst 0, 1) := by decide +kernel
theorem dX9_termOf_103 : decode cX9_termOf 103 = .ok (.ireturn, 1) := by decide +kernel
theorem dX9_termOf_104 : decode cX9_termOf 104 = .ok (.aload_n 0, 1) := by decide +kernel
theorem dX9_termOf_105 : decode cX9_termOf 105 = .ok (.getfield 107, 3) := by decide +kernel
theorem dX9_termOf_108 : decode cX9_termOf 108 = .ok (.iload_n 3, 1) := by decide +kernel
theorem dX9_termOf_109 : decode cX9_termOf 109 = .ok (.iconst 1, 1) := by decide +kernel
theorem dX9_termOf_110 : decode cX9_termOf 110 = .ok (.isub, 1) := by decide +kernel
theorem dX9_termOf_111 : decode cX9_termOf 111 = .ok (.iload 5, 2) := by decide +kernel
theorem dX9_termOf_113 : decode cX9_termOf 113 = .ok (.iconst 2, 1) := by decide +kernel
theorem dX9_termOf_114 : decode cX9_termOf 114 = .ok (.if_icmp .ne 11, 3) := by decide +kernel
theorem dX9_termOf_117 : decode cX9_termOf 117 = .ok (.iload 6, 2) := by decide +kernel
theorem dX9_termOf_119 : decode cX9_termOf 119 = .ok (.iload 7, 2) := by decide +kernel
theorem dX9_termOf_121 : decode cX9_termOf 121 = .ok (.iadd, 1) := by decide +kernel
theorem dX9_termOf_122 : decode cX9_termOf 122 = .ok (.goto 36, 3) := by decide +kernel
theorem dX9_termOf_125 : decode cX9_termOf 125 = .ok (.iload 5, 2) := by decide +kernel
theorem dX9_termOf_127 : decode cX9_termOf 127 = .ok (.iconst 3, 1) := by decide +kernel
theorem dX9_termOf_128 : decode cX9_termOf 128 = .ok (.if_icmp .ne 11, 3) := by decide +kernel
theorem dX9_termOf_131 : decode cX9_termOf 131 = .ok (.iload 6, 2) := by decide +kernel
theorem dX9_termOf_133 : decode cX9_termOf 133 = .ok (.iload 7, 2) := by decide +kernel
theorem dX9_termOf_135 : decode cX9_termOf 135 = .ok (.isub, 1) := by decide +kernel
theorem dX9_termOf_136 : decode cX9_termOf 136 = .ok (.goto 22, 3) := by decide +kernel
theorem dX9_termOf_139 : decode cX9_termOf 139 = .ok (.iload 5, 2) := by decide +kernel
theorem dX9_termOf_141 : decode cX9_termOf 141 = .ok (.iconst 4, 1) := by decide +kernel
theorem dX9_termOf_142 : decode cX9_termOf 142 = .ok (.if_icmp .ne 11, 3) := by decide +kernel
theorem dX9_termOf_145 : decode cX9_termOf 145 = .ok (.iload 6, 2) := by decide +kernel
theorem dX9_termOf_147 : decode cX9_termOf 147 = .ok (.iload 7, 2) := by decide +kernel
theorem dX9_termOf_149 : decode cX9_termOf 149 = .ok (.imul, 1) := by decide +kernel
theorem dX9_termOf_150 : decode cX9_termOf 150 = .ok (.goto 8, 3) := by decide +kernel
theorem dX9_termOf_153 : decode cX9_termOf 153 = .ok (.iload 6, 2) := by decide +kernel
theorem dX9_termOf_155 : decode cX9_termOf 155 = .ok (.iload 7, 2) := by decide +kernel
theorem dX9_termOf_157 : decode cX9_termOf 157 = .ok (.idiv, 1) := by decide +kernel
theorem dX9_termOf_158 : decode cX9_termOf 158 = .ok (.iastore, 1) := by decide +kernel
theorem dX9_termOf_159 : decode cX9_termOf 159 = .ok (.iinc 4 1, 3) := by decide +kernel
theorem dX9_termOf_162 : decode cX9_termOf 162 = .ok (.goto (-157), 3) := by decide +kernel
theorem dX9_termOf_165 : decode cX9_termOf 165 = .ok (.aload_n 0, 1) := by decide +kernel
theorem dX9_termOf_166 : decode cX9_termOf 166 = .ok (.getfield 107, 3) := by decide +kernel
theorem dX9_termOf_169 : decode cX9_termOf 169 = .ok (.iconst 0, 1) := by decide +kernel
theorem dX9_termOf_170 : decode cX9_termOf 170 = .ok (.iaload, 1) := by decide +kernel
theorem dX9_termOf_171 : decode cX9_termOf 171 = .ok (.ireturn, 1) := by decide +kernel
theorem dX9_in_0 : decode cX9_in 0 = .ok (.iload_n 0, 1) := by decide +kernel
theorem dX9_in_1 : decode cX9_in 1 = .ok (.iload_n 1, 1) := by decide +kernel
theorem dX9_in_2 : decode cX9_in 2 = .ok (.if_icmp .lt 12, 3) := by decide +kernel
theorem dX9_in_5 : decode cX9_in 5 = .ok (.iload_n 0, 1) := by decide +kernel
theorem dX9_in_6 : decode cX9_in 6 = .ok (.iload_n 2, 1) := by decide +kernel
theorem dX9_in_7 : decode cX9_in 7 = .ok (.if_icmp .gt 7, 3) := by decide +kernel
theorem dX9_in_10 : decode cX9_in 10 = .ok (.iconst 1, 1) := by decide +kernel
theorem dX9_in_11 : decode cX9_in 11 = .ok (.goto 4, 3) := by decide +kernel
theorem dX9_in_14 : decode cX9_in 14 = .ok (.iconst 0, 1) := by decide +kernel
theorem dX9_in_15 : decode cX9_in 15 = .ok (.ireturn, 1) := by decide +kernel
theorem dX9_plainly_0 : decode cX9_plainly 0 = .ok (.aload_n 0, 1) := by decide +kernel
theorem dX9_plainly_1 : decode cX9_plainly 1 = .ok (.aload_n 0, 1) := by decide +kernel
theorem dX9_plainly_2 : decode cX9_plainly 2 = .ok (.getfield 71, 3) := by decide +kernel
theorem dX9_plainly_5 : decode cX9_plainly 5 = .ok (.aload_n 0, 1) := by decide +kernel
theorem dX9_plainly_6 : decode cX9_plainly 6 = .ok (.getfield 233, 3) := by decide +kernel
theorem dX9_plainly_9 : decode cX9_plainly 9 = .ok (.iaload, 1) := by decide +kernel
theorem dX9_plainly_10 : decode cX9_plainly 10 = .ok (.putfield 297, 3) := by decide +kernel
theorem dX9_plainly_13 : decode cX9_plainly 13 = .ok (.aload_n 0, 1) := by decide +kernel
theorem dX9_plainly_14 : decode cX9_plainly 14 = .ok (.iconst (-1), 1) := by decide +kernel
theorem dX9_plainly_15 : decode cX9_plainly 15 = .ok (.putfield 300, 3) := by decide +kernel
theorem dX9_plainly_18 : decode cX9_plainly 18 = .ok (.aload_n 0, 1) := by decide +kernel
theorem dX9_plainly_19 : decode cX9_plainly 19 = .ok (.iconst 0, 1) := by decide +kernel
theorem dX9_plainly_20 : decode cX9_plainly 20 = .ok (.putfield 303, 3) := by decide +kernel
theorem dX9_plainly_23 : decode cX9_plainly 23 = .ok (.return_, 1) := by decide +kernel
theorem dX9_begins_0 : decode cX9_begins 0 = .ok (.iconst 0, 1) := by decide +kernel
theorem dX9_begins_1 : decode cX9_begins 1 = .ok (.istore_n 1, 1) := by decide +kernel
theorem dX9_begins_2 : decode cX9_begins 2 = .ok (.iload_n 1, 1) := by decide +kernel
theorem dX9_begins_3 : decode cX9_begins 3 = .ok (.bipush 60, 2) := by decide +kernel
theorem dX9_begins_5 : decode cX9_begins 5 = .ok (.if_icmp .ge 16, 3) := by decide +kernel
theorem dX9_begins_8 : decode cX9_begins 8 = .ok (.aload_n 0, 1) := by decide +kernel
theorem dX9_begins_9 : decode cX9_begins 9 = .ok (.getfield 113, 3) := by decide +kernel
theorem dX9_begins_12 : decode cX9_begins 12 = .ok (.iload_n 1, 1) := by decide +kernel
theorem dX9_begins_13 : decode cX9_begins 13 = .ok (.iconst 0, 1) := by decide +kernel
theorem dX9_begins_14 : decode cX9_begins 14 = .ok (.iastore, 1) := by decide +kernel
theorem dX9_begins_15 : decode cX9_begins 15 = .ok (.iinc 1 1, 3) := by decide +kernel
theorem dX9_begins_18 : decode cX9_begins 18 = .ok (.goto (-16), 3) := by decide +kernel
theorem dX9_begins_21 : decode cX9_begins 21 = .ok (.iconst 0, 1) := by decide +kernel
theorem dX9_begins_22 : decode cX9_begins 22 = .ok (.istore_n 1, 1) := by decide +kernel
theorem dX9_begins_23 : decode cX9_begins 23 = .ok (.iload_n 1, 1) := by decide +kernel
theorem dX9_begins_24 : decode cX9_begins 24 = .ok (.iconst 4, 1) := by decide +kernel
theorem dX9_begins_25 : decode cX9_begins 25 = .ok (.if_icmp .ge 28, 3) := by decide +kernel
theorem dX9_begins_28 : decode cX9_begins 28 = .ok (.aload_n 0, 1) := by decide +kernel
theorem dX9_begins_29 : decode cX9_begins 29 = .ok (.getfield 113, 3) := by decide +kernel
theorem dX9_begins_32 : decode cX9_begins 32 = .ok (.iload_n 1, 1) := by decide +kernel
theorem dX9_begins_33 : decode cX9_begins 33 = .ok (.aload_n 0, 1) := by decide +kernel
theorem dX9_begins_34 : decode cX9_begins 34 = .ok (.getfield 43, 3) := by decide +kernel
theorem dX9_begins_37 : decode cX9_begins 37 = .ok (.iconst 4, 1) := by decide +kernel
theorem dX9_begins_38 : decode cX9_begins 38 = .ok (.aload_n 0, 1) := by decide +kernel
theorem dX9_begins_39 : decode cX9_begins 39 = .ok (.getfield 233, 3) := by decide +kernel
theorem dX9_begins_42 : decode cX9_begins 42 = .ok (.imul, 1) := by decide +kernel
theorem dX9_begins_43 : decode cX9_begins 43 = .ok (.iload_n 1, 1) := by decide +kernel
theorem dX9_begins_44 : decode cX9_begins 44 = .ok (.iadd, 1) := by decide +kernel
theorem dX9_begins_45 : decode cX9_begins 45 = .ok (.iaload, 1) := by decide +kernel
theorem dX9_begins_46 : decode cX9_begins 46 = .ok (.iastore, 1) := by decide +kernel
theorem dX9_begins_47 : decode cX9_begins 47 = .ok (.iinc 1 1, 3) := by decide +kernel
theorem dX9_begins_50 : decode cX9_begins 50 = .ok (.goto (-27), 3) := by decide +kernel
theorem dX9_begins_53 : decode cX9_begins 53 = .ok (.aload_n 0, 1) := by decide +kernel
theorem dX9_begins_54 : decode cX9_begins 54 = .ok (.getfield 113, 3) := by decide +kernel
theorem dX9_begins_57 : decode cX9_begins 57 = .ok (.iconst 4, 1) := by decide +kernel
theorem dX9_begins_58 : decode cX9_begins 58 = .ok (.aload_n 0, 1) := by decide +kernel
theorem dX9_begins_59 : decode cX9_begins 59 = .ok (.getfield 46, 3) := by decide +kernel
theorem dX9_begins_62 : decode cX9_begins 62 = .ok (.aload_n 0, 1) := by decide +kernel
theorem dX9_begins_63 : decode cX9_begins 63 = .ok (.getfield 233, 3) := by decide +kernel
theorem dX9_begins_66 : decode cX9_begins 66 = .ok (.iaload, 1) := by decide +kernel
theorem dX9_begins_67 : decode cX9_begins 67 = .ok (.ifCond .le 7, 3) := by decide +kernel
theorem dX9_begins_70 : decode cX9_begins 70 = .ok (.iconst 0, 1) := by decide +kernel
theorem dX9_begins_71 : decode cX9_begins 71 = .ok (.goto 5, 3) := by decide +kernel
theorem dX9_begins_74 : decode cX9_begins 74 = .ok (.bipush (-2), 2) := by decide +kernel
theorem dX9_begins_76 : decode cX9_begins 76 = .ok (.iastore, 1) := by decide +kernel
theorem dX9_begins_77 : decode cX9_begins 77 = .ok (.aload_n 0, 1) := by decide +kernel
theorem dX9_begins_78 : decode cX9_begins 78 = .ok (.getfield 113, 3) := by decide +kernel
theorem dX9_begins_81 : decode cX9_begins 81 = .ok (.bipush 10, 2) := by decide +kernel
theorem dX9_begins_83 : decode cX9_begins 83 = .ok (.bipush (-2), 2) := by decide +kernel
theorem dX9_begins_85 : decode cX9_begins 85 = .ok (.iastore, 1) := by decide +kernel
theorem dX9_begins_86 : decode cX9_begins 86 = .ok (.aload_n 0, 1) := by decide +kernel
theorem dX9_begins_87 : decode cX9_begins 87 = .ok (.getfield 113, 3) := by decide +kernel
theorem dX9_begins_90 : decode cX9_begins 90 = .ok (.bipush 11, 2) := by decide +kernel
theorem dX9_begins_92 : decode cX9_begins 92 = .ok (.bipush (-2), 2) := by decide +kernel
theorem dX9_begins_94 : decode cX9_begins 94 = .ok (.iastore, 1) := by decide +kernel
theorem dX9_begins_95 : decode cX9_begins 95 = .ok (.aload_n 0, 1) := by decide +kernel
theorem dX9_begins_96 : decode cX9_begins 96 = .ok (.getfield 113, 3) := by decide +kernel
theorem dX9_begins_99 : decode cX9_begins 99 = .ok (.bipush 18, 2) := by decide +kernel
theorem dX9_begins_101 : decode cX9_begins 101 = .ok (.aload_n 0, 1) := by decide +kernel
theorem dX9_begins_102 : decode cX9_begins 102 = .ok (.getfield 46, 3) := by decide +kernel
theorem dX9_begins_105 : decode cX9_begins 105 = .ok (.aload_n 0, 1) := by decide +kernel
theorem dX9_begins_106 : decode cX9_begins 106 = .ok (.getfield 233, 3) := by decide +kernel
theorem dX9_begins_109 : decode cX9_begins 109 = .ok (.iaload, 1) := by decide +kernel
theorem dX9_begins_110 : decode cX9_begins 110 = .ok (.ifCond .le 7, 3) := by decide +kernel
theorem dX9_begins_113 : decode cX9_begins 113 = .ok (.iconst 1, 1) := by decide +kernel
theorem dX9_begins_114 : decode cX9_begins 114 = .ok (.goto 4, 3) := by decide +kernel
theorem dX9_begins_117 : decode cX9_begins 117 = .ok (.iconst 0, 1) := by decide +kernel
theorem dX9_begins_118 : decode cX9_begins 118 = .ok (.iastore, 1) := by decide +kernel
theorem dX9_begins_119 : decode cX9_begins 119 = .ok (.aload_n 0, 1) := by decide +kernel
theorem dX9_begins_120 : decode cX9_begins 120 = .ok (.invokevirtual 306, 3) := by decide +kernel
theorem dX9_begins_123 : decode cX9_begins 123 = .ok (.return_, 1) := by decide +kernel
theorem dX9_keepsRow_0 : decode cX9_keepsRow 0 = .ok (.iconst 0, 1) := by decide +kernel
theorem dX9_keepsRow_1 : decode cX9_keepsRow 1 = .ok (.istore_n 1, 1) := by decide +kernel
theorem dX9_keepsRow_2 : decode cX9_keepsRow 2 = .ok (.iload_n 1, 1) := by decide +kernel
theorem dX9_keepsRow_3 : decode cX9_keepsRow 3 = .ok (.bipush 60, 2) := by decide +kernel
theorem dX9_keepsRow_5 : decode cX9_keepsRow 5 = .ok (.if_icmp .ge 21, 3) := by decide +kernel
theorem dX9_keepsRow_8 : decode cX9_keepsRow 8 = .ok (.aload_n 0, 1) := by decide +kernel
theorem dX9_keepsRow_9 : decode cX9_keepsRow 9 = .ok (.getfield 110, 3) := by decide +kernel
theorem dX9_keepsRow_12 : decode cX9_keepsRow 12 = .ok (.iload_n 1, 1) := by decide +kernel
theorem dX9_keepsRow_13 : decode cX9_keepsRow 13 = .ok (.aload_n 0, 1) := by decide +kernel
theorem dX9_keepsRow_14 : decode cX9_keepsRow 14 = .ok (.getfield 113, 3) := by decide +kernel
theorem dX9_keepsRow_17 : decode cX9_keepsRow 17 = .ok (.iload_n 1, 1) := by decide +kernel
theorem dX9_keepsRow_18 : decode cX9_keepsRow 18 = .ok (.iaload, 1) := by decide +kernel
theorem dX9_keepsRow_19 : decode cX9_keepsRow 19 = .ok (.iastore, 1) := by decide +kernel
theorem dX9_keepsRow_20 : decode cX9_keepsRow 20 = .ok (.iinc 1 1, 3) := by decide +kernel
theorem dX9_keepsRow_23 : decode cX9_keepsRow 23 = .ok (.goto (-21), 3) := by decide +kernel
theorem dX9_keepsRow_26 : decode cX9_keepsRow 26 = .ok (.return_, 1) := by decide +kernel
theorem dX9_copies_0 : decode cX9_copies 0 = .ok (.iconst 0, 1) := by decide +kernel
theorem dX9_copies_1 : decode cX9_copies 1 = .ok (.istore_n 1, 1) := by decide +kernel
theorem dX9_copies_2 : decode cX9_copies 2 = .ok (.iload_n 1, 1) := by decide +kernel
theorem dX9_copies_3 : decode cX9_copies 3 = .ok (.bipush 60, 2) := by decide +kernel
theorem dX9_copies_5 : decode cX9_copies 5 = .ok (.if_icmp .ge 21, 3) := by decide +kernel
theorem dX9_copies_8 : decode cX9_copies 8 = .ok (.aload_n 0, 1) := by decide +kernel
theorem dX9_copies_9 : decode cX9_copies 9 = .ok (.getfield 113, 3) := by decide +kernel
theorem dX9_copies_12 : decode cX9_copies 12 = .ok (.iload_n 1, 1) := by decide +kernel
theorem dX9_copies_13 : decode cX9_copies 13 = .ok (.aload_n 0, 1) := by decide +kernel
theorem dX9_copies_14 : decode cX9_copies 14 = .ok (.getfield 110, 3) := by decide +kernel
theorem dX9_copies_17 : decode cX9_copies 17 = .ok (.iload_n 1, 1) := by decide +kernel
theorem dX9_copies_18 : decode cX9_copies 18 = .ok (.iaload, 1) := by decide +kernel
theorem dX9_copies_19 : decode cX9_copies 19 = .ok (.iastore, 1) := by decide +kernel
theorem dX9_copies_20 : decode cX9_copies 20 = .ok (.iinc 1 1, 3) := by decide +kernel
theorem dX9_copies_23 : decode cX9_copies 23 = .ok (.goto (-21), 3) := by decide +kernel
theorem dX9_copies_26 : decode cX9_copies 26 = .ok (.aload_n 0, 1) := by decide +kernel
theorem dX9_copies_27 : decode cX9_copies 27 = .ok (.invokevirtual 306, 3) := by decide +kernel
theorem dX9_copies_30 : decode cX9_copies 30 = .ok (.return_, 1) := by decide +kernel
theorem dX9_mixed_0 : decode cX9_mixed 0 = .ok (.iload_n 0, 1) := by decide +kernel
theorem dX9_mixed_1 : decode cX9_mixed 1 = .ok (.iload_n 1, 1) := by decide +kernel
theorem dX9_mixed_2 : decode cX9_mixed 2 = .ok (.ixor, 1) := by decide +kernel
theorem dX9_mixed_3 : decode cX9_mixed 3 = .ok (.ldc_w 309, 3) := by decide +kernel
theorem dX9_mixed_6 : decode cX9_mixed 6 = .ok (.imul, 1) := by decide +kernel
theorem dX9_mixed_7 : decode cX9_mixed 7 = .ok (.sipush 12345, 3) := by decide +kernel
theorem dX9_mixed_10 : decode cX9_mixed 10 = .ok (.iadd, 1) := by decide +kernel
theorem dX9_mixed_11 : decode cX9_mixed 11 = .ok (.istore_n 2, 1) := by decide +kernel
theorem dX9_mixed_12 : decode cX9_mixed 12 = .ok (.iload_n 2, 1) := by decide +kernel
theorem dX9_mixed_13 : decode cX9_mixed 13 = .ok (.iload_n 2, 1) := by decide +kernel
theorem dX9_mixed_14 : decode cX9_mixed 14 = .ok (.bipush 15, 2) := by decide +kernel
theorem dX9_mixed_16 : decode cX9_mixed 16 = .ok (.iushr, 1) := by decide +kernel
theorem dX9_mixed_17 : decode cX9_mixed 17 = .ok (.ixor, 1) := by decide +kernel
theorem dX9_mixed_18 : decode cX9_mixed 18 = .ok (.ireturn, 1) := by decide +kernel
theorem dX9_lotNow_0 : decode cX9_lotNow 0 = .ok (.aload_n 0, 1) := by decide +kernel
theorem dX9_lotNow_1 : decode cX9_lotNow 1 = .ok (.getfield 297, 3) := by decide +kernel
theorem dX9_lotNow_4 : decode cX9_lotNow 4 = .ok (.bipush 37, 2) := by decide +kernel
theorem dX9_lotNow_6 : decode cX9_lotNow 6 = .ok (.invokestatic 310, 3) := by decide +kernel
theorem dX9_lotNow_9 : decode cX9_lotNow 9 = .ok (.aload_n 0, 1) := by decide +kernel
theorem dX9_lotNow_10 : decode cX9_lotNow 10 = .ok (.getfield 113, 3) := by decide +kernel
theorem dX9_lotNow_13 : decode cX9_lotNow 13 = .ok (.bipush 12, 2) := by decide +kernel
theorem dX9_lotNow_15 : decode cX9_lotNow 15 = .ok (.iaload, 1) := by decide +kernel
theorem dX9_lotNow_16 : decode cX9_lotNow 16 = .ok (.invokestatic 310, 3) := by decide +kernel
theorem dX9_lotNow_19 : decode cX9_lotNow 19 = .ok (.iconst 1, 1) := by decide +kernel
theorem dX9_lotNow_20 : decode cX9_lotNow 20 = .ok (.iushr, 1) := by decide +kernel
theorem dX9_lotNow_21 : decode cX9_lotNow 21 = .ok (.bipush 100, 2) := by decide +kernel
theorem dX9_lotNow_23 : decode cX9_lotNow 23 = .ok (.irem, 1) := by decide +kernel
theorem dX9_lotNow_24 : decode cX9_lotNow 24 = .ok (.ireturn, 1) := by decide +kernel
theorem dX9_held_0 : decode cX9_held 0 = .ok (.iload_n 0, 1) := by decide +kernel
theorem dX9_held_1 : decode cX9_held 1 = .ok (.iload_n 1, 1) := by decide +kernel
theorem dX9_held_2 : decode cX9_held 2 = .ok (.if_icmp .ge 7, 3) := by decide +kernel
theorem dX9_held_5 : decode cX9_held 5 = .ok (.iload_n 1, 1) := by decide +kernel
theorem dX9_held_6 : decode cX9_held 6 = .ok (.goto 13, 3) := by decide +kernel
theorem dX9_held_9 : decode cX9_held 9 = .ok (.iload_n 0, 1) := by decide +kernel
theorem dX9_held_10 : decode cX9_held 10 = .ok (.iload_n 2, 1) := by decide +kernel
theorem dX9_held_11 : decode cX9_held 11 = .ok (.if_icmp .le 7, 3) := by decide +kernel
theorem dX9_held_14 : decode cX9_held 14 = .ok (.iload_n 2, 1) := by decide +kernel
theorem dX9_held_15 : decode cX9_held 15 = .ok (.goto 4, 3) := by decide +kernel
theorem dX9_held_18 : decode cX9_held 18 = .ok (.iload_n 0, 1) := by decide +kernel
theorem dX9_held_19 : decode cX9_held 19 = .ok (.ireturn, 1) := by decide +kernel
theorem dX9_tells_0 : decode cX9_tells 0 = .ok (.bipush 7, 2) := by decide +kernel
theorem dX9_tells_2 : decode cX9_tells 2 = .ok (.aload_n 0, 1) := by decide +kernel
theorem dX9_tells_3 : decode cX9_tells 3 = .ok (.getfield 233, 3) := by decide +kernel
theorem dX9_tells_6 : decode cX9_tells 6 = .ok (.imul, 1) := by decide +kernel
theorem dX9_tells_7 : decode cX9_tells 7 = .ok (.iload_n 1, 1) := by decide +kernel
theorem dX9_tells_8 : decode cX9_tells 8 = .ok (.iadd, 1) := by decide +kernel
theorem dX9_tells_9 : decode cX9_tells 9 = .ok (.istore 5, 2) := by decide +kernel
theorem dX9_tells_11 : decode cX9_tells 11 = .ok (.aload_n 0, 1) := by decide +kernel
theorem dX9_tells_12 : decode cX9_tells 12 = .ok (.getfield 74, 3) := by decide +kernel
theorem dX9_tells_15 : decode cX9_tells 15 = .ok (.iload 5, 2) := by decide +kernel
theorem dX9_tells_17 : decode cX9_tells 17 = .ok (.iaload, 1) := by decide +kernel
theorem dX9_tells_18 : decode cX9_tells 18 = .ok (.aload_n 0, 1) := by decide +kernel
theorem dX9_tells_19 : decode cX9_tells 19 = .ok (.getfield 77, 3) := by decide +kernel
theorem dX9_tells_22 : decode cX9_tells 22 = .ok (.iload 5, 2) := by decide +kernel
theorem dX9_tells_24 : decode cX9_tells 24 = .ok (.iaload, 1) := by decide +kernel
theorem dX9_tells_25 : decode cX9_tells 25 = .ok (.if_icmp .ne 5, 3) := by decide +kernel
theorem dX9_tells_28 : decode cX9_tells 28 = .ok (.iload_n 2, 1) := by decide +kernel
theorem dX9_tells_29 : decode cX9_tells 29 = .ok (.ireturn, 1) := by decide +kernel
theorem dX9_tells_30 : decode cX9_tells 30 = .ok (.bipush 6, 2) := by decide +kernel
theorem dX9_tells_32 : decode cX9_tells 32 = .ok (.aload_n 0, 1) := by decide +kernel
theorem dX9_tells_33 : decode cX9_tells 33 = .ok (.getfield 233, 3) := by decide +kernel
theorem dX9_tells_36 : decode cX9_tells 36 = .ok (.imul, 1) := by decide +kernel
theorem dX9_tells_37 : decode cX9_tells 37 = .ok (.aload_n 0, 1) := by decide +kernel
theorem dX9_tells_38 : decode cX9_tells 38 = .ok (.getfield 113, 3) := by decide +kernel
theorem dX9_tells_41 : decode cX9_tells 41 = .ok (.iconst 4, 1) := by decide +kernel
theorem dX9_tells_42 : decode cX9_tells 42 = .ok (.iaload, 1) := by decide +kernel
theorem dX9_tells_43 : decode cX9_tells 43 = .ok (.iadd, 1) := by decide +kernel
theorem dX9_tells_44 : decode cX9_tells 44 = .ok (.istore 6, 2) := by decide +kernel
theorem dX9_tells_46 : decode cX9_tells 46 = .ok (.iconst 0, 1) := by decide +kernel
theorem dX9_tells_47 : decode cX9_tells 47 = .ok (.istore 7, 2) := by decide +kernel
theorem dX9_tells_49 : decode cX9_tells 49 = .ok (.iload 7, 2) := by decide +kernel
theorem dX9_tells_51 : decode cX9_tells 51 = .ok (.iconst 4, 1) := by decide +kernel
theorem dX9_tells_52 : decode cX9_tells 52 = .ok (.if_icmp .ge 23, 3) := by decide +kernel
theorem dX9_tells_55 : decode cX9_tells 55 = .ok (.aload_n 0, 1) := by decide +kernel
theorem dX9_tells_56 : decode cX9_tells 56 = .ok (.getfield 104, 3) := by decide +kernel
theorem dX9_tells_59 : decode cX9_tells 59 = .ok (.iload 7, 2) := by decide +kernel
theorem dX9_tells_61 : decode cX9_tells 61 = .ok (.aload_n 0, 1) := by decide +kernel
theorem dX9_tells_62 : decode cX9_tells 62 = .ok (.getfield 113, 3) := by decide +kernel
theorem dX9_tells_65 : decode cX9_tells 65 = .ok (.iload 7, 2) := by decide +kernel
theorem dX9_tells_67 : decode cX9_tells 67 = .ok (.iaload, 1) := by decide +kernel
theorem dX9_tells_68 : decode cX9_tells 68 = .ok (.iastore, 1) := by decide +kernel
theorem dX9_tells_69 : decode cX9_tells 69 = .ok (.iinc 7 1, 3) := by decide +kernel
theorem dX9_tells_72 : decode cX9_tells 72 = .ok (.goto (-23), 3) := by decide +kernel
theorem dX9_tells_75 : decode cX9_tells 75 = .ok (.aload_n 0, 1) := by decide +kernel
theorem dX9_tells_76 : decode cX9_tells 76 = .ok (.getfield 104, 3) := by decide +kernel
theorem dX9_tells_79 : decode cX9_tells 79 = .ok (.iconst 4, 1) := by decide +kernel
theorem dX9_tells_80 : decode cX9_tells 80 = .ok (.aload_n 0, 1) := by decide +kernel
theorem dX9_tells_81 : decode cX9_tells 81 = .ok (.getfield 113, 3) := by decide +kernel
theorem dX9_tells_84 : decode cX9_tells 84 = .ok (.iconst 5, 1) := by decide +kernel
theorem dX9_tells_85 : decode cX9_tells 85 = .ok (.iaload, 1) := by decide +kernel
theorem dX9_tells_86 : decode cX9_tells 86 = .ok (.iastore, 1) := by decide +kernel
theorem dX9_tells_87 : decode cX9_tells 87 = .ok (.aload_n 0, 1) := by decide +kernel
theorem dX9_tells_88 : decode cX9_tells 88 = .ok (.getfield 104, 3) := by decide +kernel
theorem dX9_tells_91 : decode cX9_tells 91 = .ok (.iconst 5, 1) := by decide +kernel
theorem dX9_tells_92 : decode cX9_tells 92 = .ok (.aload_n 0, 1) := by decide +kernel
theorem dX9_tells_93 : decode cX9_tells 93 = .ok (.getfield 113, 3) := by decide +kernel
theorem dX9_tells_96 : decode cX9_tells 96 = .ok (.iconst 4, 1) := by decide +kernel
theorem dX9_tells_97 : decode cX9_tells 97 = .ok (.iaload, 1) := by decide +kernel
theorem dX9_tells_98 : decode cX9_tells 98 = .ok (.aload_n 0, 1) := by decide +kernel
theorem dX9_tells_99 : decode cX9_tells 99 = .ok (.getfield 300, 3) := by decide +kernel
theorem dX9_tells_102 : decode cX9_tells 102 = .ok (.if_icmp .ne 10, 3) := by decide +kernel
theorem dX9_tells_105 : decode cX9_tells 105 = .ok (.aload_n 0, 1) := by decide +kernel
theorem dX9_tells_106 : decode cX9_tells 106 = .ok (.getfield 303, 3) := by decide +kernel
theorem dX9_tells_109 : decode cX9_tells 109 = .ok (.goto 10, 3) := by decide +kernel
theorem dX9_tells_112 : decode cX9_tells 112 = .ok (.aload_n 0, 1) := by decide +kernel
theorem dX9_tells_113 : decode cX9_tells 113 = .ok (.getfield 49, 3) := by decide +kernel
theorem dX9_tells_116 : decode cX9_tells 116 = .ok (.iload 6, 2) := by decide +kernel
theorem dX9_tells_118 : decode cX9_tells 118 = .ok (.iaload, 1) := by decide +kernel
theorem dX9_tells_119 : decode cX9_tells 119 = .ok (.iastore, 1) := by decide +kernel
theorem dX9_tells_120 : decode cX9_tells 120 = .ok (.aload_n 0, 1) := by decide +kernel
theorem dX9_tells_121 : decode cX9_tells 121 = .ok (.getfield 104, 3) := by decide +kernel
theorem dX9_tells_124 : decode cX9_tells 124 = .ok (.bipush 6, 2) := by decide +kernel
theorem dX9_tells_126 : decode cX9_tells 126 = .ok (.aload_n 0, 1) := by decide +kernel
theorem dX9_tells_127 : decode cX9_tells 127 = .ok (.getfield 52, 3) := by decide +kernel
theorem dX9_tells_130 : decode cX9_tells 130 = .ok (.iload 6, 2) := by decide +kernel
theorem dX9_tells_132 : decode cX9_tells 132 = .ok (.iaload, 1) := by decide +kernel
theorem dX9_tells_133 : decode cX9_tells 133 = .ok (.iastore, 1) := by decide +kernel
theorem dX9_tells_134 : decode cX9_tells 134 = .ok (.aload_n 0, 1) := by decide +kernel
theorem dX9_tells_135 : decode cX9_tells 135 = .ok (.getfield 104, 3) := by decide +kernel
theorem dX9_tells_138 : decode cX9_tells 138 = .ok (.bipush 7, 2) := by decide +kernel
theorem dX9_tells_140 : decode cX9_tells 140 = .ok (.aload_n 0, 1) := by decide +kernel
theorem dX9_tells_141 : decode cX9_tells 141 = .ok (.getfield 55, 3) := by decide +kernel
theorem dX9_tells_144 : decode cX9_tells 144 = .ok (.iload 6, 2) := by decide +kernel
theorem dX9_tells_146 : decode cX9_tells 146 = .ok (.iaload, 1) := by decide +kernel
theorem dX9_tells_147 : decode cX9_tells 147 = .ok (.iastore, 1) := by decide +kernel
theorem dX9_tells_148 : decode cX9_tells 148 = .ok (.aload_n 0, 1) := by decide +kernel
theorem dX9_tells_149 : decode cX9_tells 149 = .ok (.getfield 104, 3) := by decide +kernel
theorem dX9_tells_152 : decode cX9_tells 152 = .ok (.bipush 8, 2) := by decide +kernel
theorem dX9_tells_154 : decode cX9_tells 154 = .ok (.aload_n 0, 1) := by decide +kernel
theorem dX9_tells_155 : decode cX9_tells 155 = .ok (.getfield 113, 3) := by decide +kernel
theorem dX9_tells_158 : decode cX9_tells 158 = .ok (.bipush 9, 2) := by decide +kernel
theorem dX9_tells_160 : decode cX9_tells 160 = .ok (.iaload, 1) := by decide +kernel
theorem dX9_tells_161 : decode cX9_tells 161 = .ok (.iastore, 1) := by decide +kernel
theorem dX9_tells_162 : decode cX9_tells 162 = .ok (.aload_n 0, 1) := by decide +kernel
theorem dX9_tells_163 : decode cX9_tells 163 = .ok (.iconst 0, 1) := by decide +kernel
theorem dX9_tells_164 : decode cX9_tells 164 = .ok (.putfield 293, 3) := by decide +kernel
theorem dX9_tells_167 : decode cX9_tells 167 = .ok (.aload_n 0, 1) := by decide +kernel
theorem dX9_tells_168 : decode cX9_tells 168 = .ok (.getfield 74, 3) := by decide +kernel
theorem dX9_tells_171 : decode cX9_tells 171 = .ok (.iload 5, 2) := by decide +kernel
theorem dX9_tells_173 : decode cX9_tells 173 = .ok (.iaload, 1) := by decide +kernel
theorem dX9_tells_174 : decode cX9_tells 174 = .ok (.istore 7, 2) := by decide +kernel
theorem dX9_tells_176 : decode cX9_tells 176 = .ok (.iload 7, 2) := by decide +kernel
theorem dX9_tells_178 : decode cX9_tells 178 = .ok (.aload_n 0, 1) := by decide +kernel
theorem dX9_tells_179 : decode cX9_tells 179 = .ok (.getfield 77, 3) := by decide +kernel
theorem dX9_tells_182 : decode cX9_tells 182 = .ok (.iload 5, 2) := by decide +kernel
theorem dX9_tells_184 : decode cX9_tells 184 = .ok (.iaload, 1) := by decide +kernel
theorem dX9_tells_185 : decode cX9_tells 185 = .ok (.if_icmp .ge 118, 3) := by decide +kernel
theorem dX9_tells_188 : decode cX9_tells 188 = .ok (.aload_n 0, 1) := by decide +kernel
theorem dX9_tells_189 : decode cX9_tells 189 = .ok (.getfield 80, 3) := by decide +kernel
theorem dX9_tells_192 : decode cX9_tells 192 = .ok (.iload 7, 2) := by decide +kernel
theorem dX9_tells_194 : decode cX9_tells 194 = .ok (.baload, 1) := by decide +kernel
theorem dX9_tells_195 : decode cX9_tells 195 = .ok (.ifCond .eq 62, 3) := by decide +kernel
theorem dX9_tells_198 : decode cX9_tells 198 = .ok (.aload_n 0, 1) := by decide +kernel
theorem dX9_tells_199 : decode cX9_tells 199 = .ok (.aload_n 0, 1) := by decide +kernel
theorem dX9_tells_200 : decode cX9_tells 200 = .ok (.getfield 83, 3) := by decide +kernel
theorem dX9_tells_203 : decode cX9_tells 203 = .ok (.iload 7, 2) := by decide +kernel
theorem dX9_tells_205 : decode cX9_tells 205 = .ok (.iaload, 1) := by decide +kernel
theorem dX9_tells_206 : decode cX9_tells 206 = .ok (.aload_n 0, 1) := by decide +kernel
theorem dX9_tells_207 : decode cX9_tells 207 = .ok (.getfield 86, 3) := by decide +kernel
theorem dX9_tells_210 : decode cX9_tells 210 = .ok (.iload 7, 2) := by decide +kernel
theorem dX9_tells_212 : decode cX9_tells 212 = .ok (.iaload, 1) := by decide +kernel
theorem dX9_tells_213 : decode cX9_tells 213 = .ok (.invokevirtual 313, 3) := by decide +kernel
theorem dX9_tells_216 : decode cX9_tells 216 = .ok (.istore 8, 2) := by decide +kernel
theorem dX9_tells_218 : decode cX9_tells 218 = .ok (.aload_n 0, 1) := by decide +kernel
theorem dX9_tells_219 : decode cX9_tells 219 = .ok (.aload_n 0, 1) := by decide +kernel
theorem dX9_tells_220 : decode cX9_tells 220 = .ok (.getfield 86, 3) := by decide +kernel
theorem dX9_tells_223 : decode cX9_tells 223 = .ok (.iload 7, 2) := by decide +kernel
theorem dX9_tells_225 : decode cX9_tells 225 = .ok (.iaload, 1) := by decide +kernel
theorem dX9_tells_226 : decode cX9_tells 226 = .ok (.aload_n 0, 1) := by decide +kernel
theorem dX9_tells_227 : decode cX9_tells 227 = .ok (.getfield 89, 3) := by decide +kernel
theorem dX9_tells_230 : decode cX9_tells 230 = .ok (.iload 7, 2) := by decide +kernel
theorem dX9_tells_232 : decode cX9_tells 232 = .ok (.iaload, 1) := by decide +kernel
theorem dX9_tells_233 : decode cX9_tells 233 = .ok (.invokevirtual 313, 3) := by decide +kernel
theorem dX9_tells_236 : decode cX9_tells 236 = .ok (.istore 9, 2) := by decide +kernel
theorem dX9_tells_238 : decode cX9_tells 238 = .ok (.aload_n 0, 1) := by decide +kernel
theorem dX9_tells_239 : decode cX9_tells 239 = .ok (.getfield 293, 3) := by decide +kernel
theorem dX9_tells_242 : decode cX9_tells 242 = .ok (.ifCond .eq 5, 3) := by decide +kernel
theorem dX9_tells_245 : decode cX9_tells 245 = .ok (.iconst 0, 1) := by decide +kernel
theorem dX9_tells_246 : decode cX9_tells 246 = .ok (.ireturn, 1) := by decide +kernel
theorem dX9_tells_247 : decode cX9_tells 247 = .ok (.iload 8, 2) := by decide +kernel
theorem dX9_tells_249 : decode cX9_tells 249 = .ok (.iload 9, 2) := by decide +kernel
theorem dX9_tells_251 : decode cX9_tells 251 = .ok (.if_icmp .lt 6, 3) := by decide +kernel
theorem dX9_tells_254 : decode cX9_tells 254 = .ok (.goto 43, 3) := by decide +kernel
theorem dX9_tells_257 : decode cX9_tells 257 = .ok (.aload_n 0, 1) := by decide +kernel
theorem dX9_tells_258 : decode cX9_tells 258 = .ok (.aload_n 0, 1) := by decide +kernel
theorem dX9_tells_259 : decode cX9_tells 259 = .ok (.getfield 89, 3) := by decide +kernel
theorem dX9_tells_262 : decode cX9_tells 262 = .ok (.iload 7, 2) := by decide +kernel
theorem dX9_tells_264 : decode cX9_tells 264 = .ok (.iaload, 1) := by decide +kernel
theorem dX9_tells_265 : decode cX9_tells 265 = .ok (.aload_n 0, 1) := by decide +kernel
theorem dX9_tells_266 : decode cX9_tells 266 = .ok (.getfield 92, 3) := by decide +kernel
theorem dX9_tells_269 : decode cX9_tells 269 = .ok (.iload 7, 2) := by decide +kernel
theorem dX9_tells_271 : decode cX9_tells 271 = .ok (.iaload, 1) := by decide +kernel
theorem dX9_tells_272 : decode cX9_tells 272 = .ok (.invokevirtual 313, 3) := by decide +kernel
theorem dX9_tells_275 : decode cX9_tells 275 = .ok (.istore 8, 2) := by decide +kernel
theorem dX9_tells_277 : decode cX9_tells 277 = .ok (.aload_n 0, 1) := by decide +kernel
theorem dX9_tells_278 : decode cX9_tells 278 = .ok (.getfield 293, 3) := by decide +kernel
theorem dX9_tells_281 : decode cX9_tells 281 = .ok (.ifCond .eq 7, 3) := by decide +kernel
theorem dX9_tells_284 : decode cX9_tells 284 = .ok (.iconst 0, 1) := by decide +kernel
theorem dX9_tells_285 : decode cX9_tells 285 = .ok (.goto 11, 3) := by decide +kernel
theorem dX9_tells_288 : decode cX9_tells 288 = .ok (.iload 8, 2) := by decide +kernel
theorem dX9_tells_290 : decode cX9_tells 290 = .ok (.iload_n 3, 1) := by decide +kernel
theorem dX9_tells_291 : decode cX9_tells 291 = .ok (.iload 4, 2) := by decide +kernel
theorem dX9_tells_293 : decode cX9_tells 293 = .ok (.invokestatic 316, 3) := by decide +kernel
theorem dX9_tells_296 : decode cX9_tells 296 = .ok (.ireturn, 1) := by decide +kernel
theorem dX9_tells_297 : decode cX9_tells 297 = .ok (.iinc 7 1, 3) := by decide +kernel
theorem dX9_tells_300 : decode cX9_tells 300 = .ok (.goto (-124), 3) := by decide +kernel
theorem dX9_tells_303 : decode cX9_tells 303 = .ok (.iconst 0, 1) := by decide +kernel
theorem dX9_tells_304 : decode cX9_tells 304 = .ok (.ireturn, 1) := by decide +kernel
theorem dX9_lawNow_0 : decode cX9_lawNow 0 = .ok (.iload_n 1, 1) := by decide +kernel
theorem dX9_lawNow_1 : decode cX9_lawNow 1 = .ok (.iconst 4, 1) := by decide +kernel
theorem dX9_lawNow_2 : decode cX9_lawNow 2 = .ok (.if_icmp .ge 23, 3) := by decide +kernel
theorem dX9_lawNow_5 : decode cX9_lawNow 5 = .ok (.aload_n 0, 1) := by decide +kernel
theorem dX9_lawNow_6 : decode cX9_lawNow 6 = .ok (.iload_n 1, 1) := by decide +kernel
theorem dX9_lawNow_7 : decode cX9_lawNow 7 = .ok (.iload_n 1, 1) := by decide +kernel
theorem dX9_lawNow_8 : decode cX9_lawNow 8 = .ok (.iconst 2, 1) := by decide +kernel
theorem dX9_lawNow_9 : decode cX9_lawNow 9 = .ok (.if_icmp .ge 7, 3) := by decide +kernel
theorem dX9_lawNow_12 : decode cX9_lawNow 12 = .ok (.iconst 1, 1) := by decide +kernel
theorem dX9_lawNow_13 : decode cX9_lawNow 13 = .ok (.goto 4, 3) := by decide +kernel
theorem dX9_lawNow_16 : decode cX9_lawNow 16 = .ok (.iconst 0, 1) := by decide +kernel
theorem dX9_lawNow_17 : decode cX9_lawNow 17 = .ok (.bipush (-9), 2) := by decide +kernel
theorem dX9_lawNow_19 : decode cX9_lawNow 19 = .ok (.bipush 9, 2) := by decide +kernel
theorem dX9_lawNow_21 : decode cX9_lawNow 21 = .ok (.invokevirtual 319, 3) := by decide +kernel
theorem dX9_lawNow_24 : decode cX9_lawNow 24 = .ok (.ireturn, 1) := by decide +kernel
theorem dX9_lawNow_25 : decode cX9_lawNow 25 = .ok (.iload_n 1, 1) := by decide +kernel
theorem dX9_lawNow_26 : decode cX9_lawNow 26 = .ok (.iconst 4, 1) := by decide +kernel
theorem dX9_lawNow_27 : decode cX9_lawNow 27 = .ok (.if_icmp .ne 15, 3) := by decide +kernel
theorem dX9_lawNow_30 : decode cX9_lawNow 30 = .ok (.aload_n 0, 1) := by decide +kernel
theorem dX9_lawNow_31 : decode cX9_lawNow 31 = .ok (.iconst 4, 1) := by decide +kernel
theorem dX9_lawNow_32 : decode cX9_lawNow 32 = .ok (.iconst 0, 1) := by decide +kernel
theorem dX9_lawNow_33 : decode cX9_lawNow 33 = .ok (.iconst 0, 1) := by decide +kernel
theorem dX9_lawNow_34 : decode cX9_lawNow 34 = .ok (.bipush 99, 2) := by decide +kernel
theorem dX9_lawNow_36 : decode cX9_lawNow 36 = .ok (.invokevirtual 319, 3) := by decide +kernel
theorem dX9_lawNow_39 : decode cX9_lawNow 39 = .ok (.goto 29, 3) := by decide +kernel
theorem dX9_lawNow_42 : decode cX9_lawNow 42 = .ok (.iload_n 1, 1) := by decide +kernel
theorem dX9_lawNow_43 : decode cX9_lawNow 43 = .ok (.iconst 5, 1) := by decide +kernel
theorem dX9_lawNow_44 : decode cX9_lawNow 44 = .ok (.if_icmp .ne 14, 3) := by decide +kernel
theorem dX9_lawNow_47 : decode cX9_lawNow 47 = .ok (.aload_n 0, 1) := by decide +kernel
theorem dX9_lawNow_48 : decode cX9_lawNow 48 = .ok (.iconst 5, 1) := by decide +kernel
theorem dX9_lawNow_49 : decode cX9_lawNow 49 = .ok (.iconst 0, 1) := by decide +kernel
theorem dX9_lawNow_50 : decode cX9_lawNow 50 = .ok (.iconst 0, 1) := by decide +kernel
theorem dX9_lawNow_51 : decode cX9_lawNow 51 = .ok (.iconst 1, 1) := by decide +kernel
theorem dX9_lawNow_52 : decode cX9_lawNow 52 = .ok (.invokevirtual 319, 3) := by decide +kernel
theorem dX9_lawNow_55 : decode cX9_lawNow 55 = .ok (.goto 13, 3) := by decide +kernel
theorem dX9_lawNow_58 : decode cX9_lawNow 58 = .ok (.aload_n 0, 1) := by decide +kernel
theorem dX9_lawNow_59 : decode cX9_lawNow 59 = .ok (.bipush 6, 2) := by decide +kernel
theorem dX9_lawNow_61 : decode cX9_lawNow 61 = .ok (.iconst 0, 1) := by decide +kernel
theorem dX9_lawNow_62 : decode cX9_lawNow 62 = .ok (.iconst 0, 1) := by decide +kernel
theorem dX9_lawNow_63 : decode cX9_lawNow 63 = .ok (.bipush 100, 2) := by decide +kernel
theorem dX9_lawNow_65 : decode cX9_lawNow 65 = .ok (.invokevirtual 319, 3) := by decide +kernel
theorem dX9_lawNow_68 : decode cX9_lawNow 68 = .ok (.ireturn, 1) := by decide +kernel
theorem dX9_fallsAsleep_0 : decode cX9_fallsAsleep 0 = .ok (.aload_n 0, 1) := by decide +kernel
theorem dX9_fallsAsleep_1 : decode cX9_fallsAsleep 1 = .ok (.getfield 113, 3) := by decide +kernel
theorem dX9_fallsAsleep_4 : decode cX9_fallsAsleep 4 = .ok (.bipush 7, 2) := by decide +kernel
theorem dX9_fallsAsleep_6 : decode cX9_fallsAsleep 6 = .ok (.bipush 60, 2) := by decide +kernel
theorem dX9_fallsAsleep_8 : decode cX9_fallsAsleep 8 = .ok (.iastore, 1) := by decide +kernel
theorem dX9_fallsAsleep_9 : decode cX9_fallsAsleep 9 = .ok (.aload_n 0, 1) := by decide +kernel
theorem dX9_fallsAsleep_10 : decode cX9_fallsAsleep 10 = .ok (.getfield 113, 3) := by decide +kernel
theorem dX9_fallsAsleep_13 : decode cX9_fallsAsleep 13 = .ok (.bipush 16, 2) := by decide +kernel
theorem dX9_fallsAsleep_15 : decode cX9_fallsAsleep 15 = .ok (.dup2, 1) := by decide +kernel
theorem dX9_fallsAsleep_16 : decode cX9_fallsAsleep 16 = .ok (.iaload, 1) := by decide +kernel
theorem dX9_fallsAsleep_17 : decode cX9_fallsAsleep 17 = .ok (.iconst 1, 1) := by decide +kernel
theorem dX9_fallsAsleep_18 : decode cX9_fallsAsleep 18 = .ok (.iadd, 1) := by decide +kernel
theorem dX9_fallsAsleep_19 : decode cX9_fallsAsleep 19 = .ok (.iastore, 1) := by decide +kernel
theorem dX9_fallsAsleep_20 : decode cX9_fallsAsleep 20 = .ok (.return_, 1) := by decide +kernel
theorem dX9_wakeMinute_0 : decode cX9_wakeMinute 0 = .ok (.aload_n 0, 1) := by decide +kernel
theorem dX9_wakeMinute_1 : decode cX9_wakeMinute 1 = .ok (.getfield 113, 3) := by decide +kernel
theorem dX9_wakeMinute_4 : decode cX9_wakeMinute 4 = .ok (.iconst 4, 1) := by decide +kernel
theorem dX9_wakeMinute_5 : decode cX9_wakeMinute 5 = .ok (.iaload, 1) := by decide +kernel
theorem dX9_wakeMinute_6 : decode cX9_wakeMinute 6 = .ok (.istore_n 1, 1) := by decide +kernel
theorem dX9_wakeMinute_7 : decode cX9_wakeMinute 7 = .ok (.iconst 0, 1) := by decide +kernel
theorem dX9_wakeMinute_8 : decode cX9_wakeMinute 8 = .ok (.istore_n 2, 1) := by decide +kernel
theorem dX9_wakeMinute_9 : decode cX9_wakeMinute 9 = .ok (.iload_n 2, 1) := by decide +kernel
theorem dX9_wakeMinute_10 : decode cX9_wakeMinute 10 = .ok (.iconst 4, 1) := by decide +kernel
theorem dX9_wakeMinute_11 : decode cX9_wakeMinute 11 = .ok (.if_icmp .ge 20, 3) := by decide +kernel
theorem dX9_wakeMinute_14 : decode cX9_wakeMinute 14 = .ok (.aload_n 0, 1) := by decide +kernel
theorem dX9_wakeMinute_15 : decode cX9_wakeMinute 15 = .ok (.getfield 116, 3) := by decide +kernel
theorem dX9_wakeMinute_18 : decode cX9_wakeMinute 18 = .ok (.iload_n 2, 1) := by decide +kernel
theorem dX9_wakeMinute_19 : decode cX9_wakeMinute 19 = .ok (.aload_n 0, 1) := by decide +kernel
theorem dX9_wakeMinute_20 : decode cX9_wakeMinute 20 = .ok (.iload_n 2, 1) := by decide +kernel
theorem dX9_wakeMinute_21 : decode cX9_wakeMinute 21 = .ok (.invokevirtual 323, 3) := by decide +kernel
theorem dX9_wakeMinute_24 : decode cX9_wakeMinute 24 = .ok (.iastore, 1) := by decide +kernel
theorem dX9_wakeMinute_25 : decode cX9_wakeMinute 25 = .ok (.iinc 2 1, 3) := by decide +kernel
theorem dX9_wakeMinute_28 : decode cX9_wakeMinute 28 = .ok (.goto (-19), 3) := by decide +kernel
theorem dX9_wakeMinute_31 : decode cX9_wakeMinute 31 = .ok (.iconst 0, 1) := by decide +kernel
theorem dX9_wakeMinute_32 : decode cX9_wakeMinute 32 = .ok (.istore_n 2, 1) := by decide +kernel
theorem dX9_wakeMinute_33 : decode cX9_wakeMinute 33 = .ok (.iload_n 2, 1) := by decide +kernel
theorem dX9_wakeMinute_34 : decode cX9_wakeMinute 34 = .ok (.iconst 4, 1) := by decide +kernel
theorem dX9_wakeMinute_35 : decode cX9_wakeMinute 35 = .ok (.if_icmp .ge 34, 3) := by decide +kernel
theorem dX9_wakeMinute_38 : decode cX9_wakeMinute 38 = .ok (.aload_n 0, 1) := by decide +kernel
theorem dX9_wakeMinute_39 : decode cX9_wakeMinute 39 = .ok (.getfield 113, 3) := by decide +kernel
theorem dX9_wakeMinute_42 : decode cX9_wakeMinute 42 = .ok (.iload_n 2, 1) := by decide +kernel
theorem dX9_wakeMinute_43 : decode cX9_wakeMinute 43 = .ok (.aload_n 0, 1) := by decide +kernel
theorem dX9_wakeMinute_44 : decode cX9_wakeMinute 44 = .ok (.getfield 113, 3) := by decide +kernel
theorem dX9_wakeMinute_47 : decode cX9_wakeMinute 47 = .ok (.iload_n 2, 1) := by decide +kernel
theorem dX9_wakeMinute_48 : decode cX9_wakeMinute 48 = .ok (.iaload, 1) := by decide +kernel
theorem dX9_wakeMinute_49 : decode cX9_wakeMinute 49 = .ok (.aload_n 0, 1) := by decide +kernel
theorem dX9_wakeMinute_50 : decode cX9_wakeMinute 50 = .ok (.getfield 116, 3) := by decide +kernel
theorem dX9_wakeMinute_53 : decode cX9_wakeMinute 53 = .ok (.iload_n 2, 1) := by decide +kernel
theorem dX9_wakeMinute_54 : decode cX9_wakeMinute 54 = .ok (.iaload, 1) := by decide +kernel
theorem dX9_wakeMinute_55 : decode cX9_wakeMinute 55 = .ok (.iadd, 1) := by decide +kernel
theorem dX9_wakeMinute_56 : decode cX9_wakeMinute 56 = .ok (.iconst 0, 1) := by decide +kernel
theorem dX9_wakeMinute_57 : decode cX9_wakeMinute 57 = .ok (.bipush 99, 2) := by decide +kernel
theorem dX9_wakeMinute_59 : decode cX9_wakeMinute 59 = .ok (.invokestatic 316, 3) := by decide +kernel
theorem dX9_wakeMinute_62 : decode cX9_wakeMinute 62 = .ok (.iastore, 1) := by decide +kernel
theorem dX9_wakeMinute_63 : decode cX9_wakeMinute 63 = .ok (.iinc 2 1, 3) := by decide +kernel
theorem dX9_wakeMinute_66 : decode cX9_wakeMinute 66 = .ok (.goto (-33), 3) := by decide +kernel
theorem dX9_wakeMinute_69 : decode cX9_wakeMinute 69 = .ok (.aload_n 0, 1) := by decide +kernel
theorem dX9_wakeMinute_70 : decode cX9_wakeMinute 70 = .ok (.getfield 113, 3) := by decide +kernel
theorem dX9_wakeMinute_73 : decode cX9_wakeMinute 73 = .ok (.iconst 5, 1) := by decide +kernel
theorem dX9_wakeMinute_74 : decode cX9_wakeMinute 74 = .ok (.dup2, 1) := by decide +kernel
theorem dX9_wakeMinute_75 : decode cX9_wakeMinute 75 = .ok (.iaload, 1) := by decide +kernel
theorem dX9_wakeMinute_76 : decode cX9_wakeMinute 76 = .ok (.iconst 1, 1) := by decide +kernel
theorem dX9_wakeMinute_77 : decode cX9_wakeMinute 77 = .ok (.iadd, 1) := by decide +kernel
theorem dX9_wakeMinute_78 : decode cX9_wakeMinute 78 = .ok (.iastore, 1) := by decide +kernel
theorem dX9_wakeMinute_79 : decode cX9_wakeMinute 79 = .ok (.aload_n 0, 1) := by decide +kernel
theorem dX9_wakeMinute_80 : decode cX9_wakeMinute 80 = .ok (.iconst 4, 1) := by decide +kernel
theorem dX9_wakeMinute_81 : decode cX9_wakeMinute 81 = .ok (.invokevirtual 323, 3) := by decide +kernel
theorem dX9_wakeMinute_84 : decode cX9_wakeMinute 84 = .ok (.istore_n 2, 1) := by decide +kernel
theorem dX9_wakeMinute_85 : decode cX9_wakeMinute 85 = .ok (.aload_n 0, 1) := by decide +kernel
theorem dX9_wakeMinute_86 : decode cX9_wakeMinute 86 = .ok (.getfield 113, 3) := by decide +kernel
theorem dX9_wakeMinute_89 : decode cX9_wakeMinute 89 = .ok (.bipush 6, 2) := by decide +kernel
theorem dX9_wakeMinute_91 : decode cX9_wakeMinute 91 = .ok (.iload_n 2, 1) := by decide +kernel
theorem dX9_wakeMinute_92 : decode cX9_wakeMinute 92 = .ok (.iastore, 1) := by decide +kernel
theorem dX9_wakeMinute_93 : decode cX9_wakeMinute 93 = .ok (.aload_n 0, 1) := by decide +kernel
theorem dX9_wakeMinute_94 : decode cX9_wakeMinute 94 = .ok (.getfield 113, 3) := by decide +kernel
theorem dX9_wakeMinute_97 : decode cX9_wakeMinute 97 = .ok (.bipush 13, 2) := by decide +kernel
theorem dX9_wakeMinute_99 : decode cX9_wakeMinute 99 = .ok (.dup2, 1) := by decide +kernel
theorem dX9_wakeMinute_100 : decode cX9_wakeMinute 100 = .ok (.iaload, 1) := by decide +kernel
theorem dX9_wakeMinute_101 : decode cX9_wakeMinute 101 = .ok (.iload_n 2, 1) := by decide +kernel
theorem dX9_wakeMinute_102 : decode cX9_wakeMinute 102 = .ok (.iadd, 1) := by decide +kernel
theorem dX9_wakeMinute_103 : decode cX9_wakeMinute 103 = .ok (.iastore, 1) := by decide +kernel
theorem dX9_wakeMinute_104 : decode cX9_wakeMinute 104 = .ok (.aload_n 0, 1) := by decide +kernel
theorem dX9_wakeMinute_105 : decode cX9_wakeMinute 105 = .ok (.getfield 113, 3) := by decide +kernel
theorem dX9_wakeMinute_108 : decode cX9_wakeMinute 108 = .ok (.bipush 20, 2) := by decide +kernel
theorem dX9_wakeMinute_110 : decode cX9_wakeMinute 110 = .ok (.iload_n 1, 1) := by decide +kernel
theorem dX9_wakeMinute_111 : decode cX9_wakeMinute 111 = .ok (.iadd, 1) := by decide +kernel
theorem dX9_wakeMinute_112 : decode cX9_wakeMinute 112 = .ok (.dup2, 1) := by decide +kernel
theorem dX9_wakeMinute_113 : decode cX9_wakeMinute 113 = .ok (.iaload, 1) := by decide +kernel
theorem dX9_wakeMinute_114 : decode cX9_wakeMinute 114 = .ok (.iconst 1, 1) := by decide +kernel
theorem dX9_wakeMinute_115 : decode cX9_wakeMinute 115 = .ok (.iadd, 1) := by decide +kernel
theorem dX9_wakeMinute_116 : decode cX9_wakeMinute 116 = .ok (.iastore, 1) := by decide +kernel
theorem dX9_wakeMinute_117 : decode cX9_wakeMinute 117 = .ok (.aload_n 0, 1) := by decide +kernel
theorem dX9_wakeMinute_118 : decode cX9_wakeMinute 118 = .ok (.getfield 113, 3) := by decide +kernel
theorem dX9_wakeMinute_121 : decode cX9_wakeMinute 121 = .ok (.bipush 26, 2) := by decide +kernel
theorem dX9_wakeMinute_123 : decode cX9_wakeMinute 123 = .ok (.iload_n 1, 1) := by decide +kernel
theorem dX9_wakeMinute_124 : decode cX9_wakeMinute 124 = .ok (.iadd, 1) := by decide +kernel
theorem dX9_wakeMinute_125 : decode cX9_wakeMinute 125 = .ok (.dup2, 1) := by decide +kernel
theorem dX9_wakeMinute_126 : decode cX9_wakeMinute 126 = .ok (.iaload, 1) := by decide +kernel
theorem dX9_wakeMinute_127 : decode cX9_wakeMinute 127 = .ok (.iload_n 2, 1) := by decide +kernel
theorem dX9_wakeMinute_128 : decode cX9_wakeMinute 128 = .ok (.iadd, 1) := by decide +kernel
theorem dX9_wakeMinute_129 : decode cX9_wakeMinute 129 = .ok (.iastore, 1) := by decide +kernel
theorem dX9_wakeMinute_130 : decode cX9_wakeMinute 130 = .ok (.iload_n 2, 1) := by decide +kernel
theorem dX9_wakeMinute_131 : decode cX9_wakeMinute 131 = .ok (.ifCond .ne 38, 3) := by decide +kernel
theorem dX9_wakeMinute_134 : decode cX9_wakeMinute 134 = .ok (.aload_n 0, 1) := by decide +kernel
theorem dX9_wakeMinute_135 : decode cX9_wakeMinute 135 = .ok (.getfield 113, 3) := by decide +kernel
theorem dX9_wakeMinute_138 : decode cX9_wakeMinute 138 = .ok (.iconst 2, 1) := by decide +kernel
theorem dX9_wakeMinute_139 : decode cX9_wakeMinute 139 = .ok (.iaload, 1) := by decide +kernel
theorem dX9_wakeMinute_140 : decode cX9_wakeMinute 140 = .ok (.bipush 50, 2) := by decide +kernel
theorem dX9_wakeMinute_142 : decode cX9_wakeMinute 142 = .ok (.if_icmp .lt 27, 3) := by decide +kernel
theorem dX9_wakeMinute_145 : decode cX9_wakeMinute 145 = .ok (.aload_n 0, 1) := by decide +kernel
theorem dX9_wakeMinute_146 : decode cX9_wakeMinute 146 = .ok (.getfield 113, 3) := by decide +kernel
theorem dX9_wakeMinute_149 : decode cX9_wakeMinute 149 = .ok (.bipush 14, 2) := by decide +kernel
theorem dX9_wakeMinute_151 : decode cX9_wakeMinute 151 = .ok (.dup2, 1) := by decide +kernel
theorem dX9_wakeMinute_152 : decode cX9_wakeMinute 152 = .ok (.iaload, 1) := by decide +kernel
theorem dX9_wakeMinute_153 : decode cX9_wakeMinute 153 = .ok (.iconst 1, 1) := by decide +kernel
theorem dX9_wakeMinute_154 : decode cX9_wakeMinute 154 = .ok (.iadd, 1) := by decide +kernel
theorem dX9_wakeMinute_155 : decode cX9_wakeMinute 155 = .ok (.iastore, 1) := by decide +kernel
theorem dX9_wakeMinute_156 : decode cX9_wakeMinute 156 = .ok (.aload_n 0, 1) := by decide +kernel
theorem dX9_wakeMinute_157 : decode cX9_wakeMinute 157 = .ok (.getfield 113, 3) := by decide +kernel
theorem dX9_wakeMinute_160 : decode cX9_wakeMinute 160 = .ok (.bipush 32, 2) := by decide +kernel
theorem dX9_wakeMinute_162 : decode cX9_wakeMinute 162 = .ok (.iload_n 1, 1) := by decide +kernel
theorem dX9_wakeMinute_163 : decode cX9_wakeMinute 163 = .ok (.iadd, 1) := by decide +kernel
theorem dX9_wakeMinute_164 : decode cX9_wakeMinute 164 = .ok (.dup2, 1) := by decide +kernel
theorem dX9_wakeMinute_165 : decode cX9_wakeMinute 165 = .ok (.iaload, 1) := by decide +kernel
theorem dX9_wakeMinute_166 : decode cX9_wakeMinute 166 = .ok (.iconst 1, 1) := by decide +kernel
theorem dX9_wakeMinute_167 : decode cX9_wakeMinute 167 = .ok (.iadd, 1) := by decide +kernel
theorem dX9_wakeMinute_168 : decode cX9_wakeMinute 168 = .ok (.iastore, 1) := by decide +kernel
theorem dX9_wakeMinute_169 : decode cX9_wakeMinute 169 = .ok (.aload_n 0, 1) := by decide +kernel
