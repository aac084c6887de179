theorem dL_law_0 : decode cL_law 0 = .ok (.new 15, 3) := by decide +kernel
theorem dL_law_3 : decode cL_law 3 = .ok (.dup, 1) := by decide +kernel
theorem dL_law_4 : decode cL_law 4 = .ok (.invokespecial 101, 3) := by decide +kernel
theorem dL_law_7 : decode cL_law 7 = .ok (.astore_n 1, 1) := by decide +kernel
theorem dL_law_8 : decode cL_law 8 = .ok (.bipush 20, 2) := by decide +kernel
theorem dL_law_10 : decode cL_law 10 = .ok (.newarray .int, 2) := by decide +kernel
theorem dL_law_12 : decode cL_law 12 = .ok (.astore_n 2, 1) := by decide +kernel
theorem dL_law_13 : decode cL_law 13 = .ok (.bipush 20, 2) := by decide +kernel
theorem dL_law_15 : decode cL_law 15 = .ok (.newarray .int, 2) := by decide +kernel
theorem dL_law_17 : decode cL_law 17 = .ok (.astore_n 3, 1) := by decide +kernel
theorem dL_law_18 : decode cL_law 18 = .ok (.aload_n 1, 1) := by decide +kernel
theorem dL_law_19 : decode cL_law 19 = .ok (.invokevirtual 95, 3) := by decide +kernel
theorem dL_law_22 : decode cL_law 22 = .ok (.ldc 94, 2) := by decide +kernel
theorem dL_law_24 : decode cL_law 24 = .ok (.if_icmp .ne 34, 3) := by decide +kernel
theorem dL_law_27 : decode cL_law 27 = .ok (.aload_n 1, 1) := by decide +kernel
theorem dL_law_28 : decode cL_law 28 = .ok (.invokevirtual 102, 3) := by decide +kernel
theorem dL_law_31 : decode cL_law 31 = .ok (.ldc 94, 2) := by decide +kernel
theorem dL_law_33 : decode cL_law 33 = .ok (.if_icmp .ne 25, 3) := by decide +kernel
theorem dL_law_36 : decode cL_law 36 = .ok (.aload_n 1, 1) := by decide +kernel
theorem dL_law_37 : decode cL_law 37 = .ok (.aload_n 0, 1) := by decide +kernel
theorem dL_law_38 : decode cL_law 38 = .ok (.iconst 4, 1) := by decide +kernel
theorem dL_law_39 : decode cL_law 39 = .ok (.invokestatic 105, 3) := by decide +kernel
theorem dL_law_42 : decode cL_law 42 = .ok (.ifCond .eq 16, 3) := by decide +kernel
theorem dL_law_45 : decode cL_law 45 = .ok (.aload_n 1, 1) := by decide +kernel
theorem dL_law_46 : decode cL_law 46 = .ok (.aload_n 2, 1) := by decide +kernel
theorem dL_law_47 : decode cL_law 47 = .ok (.aload_n 3, 1) := by decide +kernel
theorem dL_law_48 : decode cL_law 48 = .ok (.invokestatic 109, 3) := by decide +kernel
theorem dL_law_51 : decode cL_law 51 = .ok (.ifCond .eq 7, 3) := by decide +kernel
theorem dL_law_54 : decode cL_law 54 = .ok (.iconst 1, 1) := by decide +kernel
theorem dL_law_55 : decode cL_law 55 = .ok (.goto 4, 3) := by decide +kernel
theorem dL_law_58 : decode cL_law 58 = .ok (.iconst 0, 1) := by decide +kernel
theorem dL_law_59 : decode cL_law 59 = .ok (.istore 4, 2) := by decide +kernel
theorem dL_law_61 : decode cL_law 61 = .ok (.iconst 0, 1) := by decide +kernel
theorem dL_law_62 : decode cL_law 62 = .ok (.istore 5, 2) := by decide +kernel
theorem dL_law_64 : decode cL_law 64 = .ok (.iload 5, 2) := by decide +kernel
theorem dL_law_66 : decode cL_law 66 = .ok (.bipush 24, 2) := by decide +kernel
theorem dL_law_68 : decode cL_law 68 = .ok (.if_icmp .ge 701, 3) := by decide +kernel
theorem dL_law_71 : decode cL_law 71 = .ok (.iload 4, 2) := by decide +kernel
theorem dL_law_73 : decode cL_law 73 = .ok (.ifCond .eq 696, 3) := by decide +kernel
theorem dL_law_76 : decode cL_law 76 = .ok (.aload_n 0, 1) := by decide +kernel
theorem dL_law_77 : decode cL_law 77 = .ok (.iconst 4, 1) := by decide +kernel
theorem dL_law_78 : decode cL_law 78 = .ok (.iload 5, 2) := by decide +kernel
theorem dL_law_80 : decode cL_law 80 = .ok (.iadd, 1) := by decide +kernel
theorem dL_law_81 : decode cL_law 81 = .ok (.invokestatic 8, 3) := by decide +kernel
theorem dL_law_84 : decode cL_law 84 = .ok (.istore 6, 2) := by decide +kernel
theorem dL_law_86 : decode cL_law 86 = .ok (.iload 6, 2) := by decide +kernel
theorem dL_law_88 : decode cL_law 88 = .ok (.bipush 16, 2) := by decide +kernel
theorem dL_law_90 : decode cL_law 90 = .ok (.idiv, 1) := by decide +kernel
theorem dL_law_91 : decode cL_law 91 = .ok (.istore 7, 2) := by decide +kernel
theorem dL_law_93 : decode cL_law 93 = .ok (.iload 7, 2) := by decide +kernel
theorem dL_law_95 : decode cL_law 95 = .ok (.iconst 4, 1) := by decide +kernel
theorem dL_law_96 : decode cL_law 96 = .ok (.irem, 1) := by decide +kernel
theorem dL_law_97 : decode cL_law 97 = .ok (.istore 8, 2) := by decide +kernel
theorem dL_law_99 : decode cL_law 99 = .ok (.aload_n 1, 1) := by decide +kernel
theorem dL_law_100 : decode cL_law 100 = .ok (.invokevirtual 58, 3) := by decide +kernel
theorem dL_law_103 : decode cL_law 103 = .ok (.istore 9, 2) := by decide +kernel
theorem dL_law_105 : decode cL_law 105 = .ok (.iload 6, 2) := by decide +kernel
theorem dL_law_107 : decode cL_law 107 = .ok (.bipush 16, 2) := by decide +kernel
theorem dL_law_109 : decode cL_law 109 = .ok (.irem, 1) := by decide +kernel
theorem dL_law_110 : decode cL_law 110 = .ok (.tableswitch 433 0 11 #[62, 154, 180, 208, 267, 267, 267, 318, 396, 418, 418, 418], 62) := by decide +kernel
theorem dL_law_172 : decode cL_law 172 = .ok (.aload_n 1, 1) := by decide +kernel
theorem dL_law_173 : decode cL_law 173 = .ok (.iload 8, 2) := by decide +kernel
theorem dL_law_175 : decode cL_law 175 = .ok (.invokevirtual 61, 3) := by decide +kernel
theorem dL_law_178 : decode cL_law 178 = .ok (.istore 10, 2) := by decide +kernel
theorem dL_law_180 : decode cL_law 180 = .ok (.aload_n 1, 1) := by decide +kernel
theorem dL_law_181 : decode cL_law 181 = .ok (.iload 8, 2) := by decide +kernel
theorem dL_law_183 : decode cL_law 183 = .ok (.invokevirtual 31, 3) := by decide +kernel
theorem dL_law_186 : decode cL_law 186 = .ok (.lstore 11, 2) := by decide +kernel
theorem dL_law_188 : decode cL_law 188 = .ok (.aload_n 1, 1) := by decide +kernel
theorem dL_law_189 : decode cL_law 189 = .ok (.invokevirtual 84, 3) := by decide +kernel
theorem dL_law_192 : decode cL_law 192 = .ok (.istore 13, 2) := by decide +kernel
theorem dL_law_194 : decode cL_law 194 = .ok (.iconst 1, 1) := by decide +kernel
theorem dL_law_195 : decode cL_law 195 = .ok (.iload 7, 2) := by decide +kernel
theorem dL_law_197 : decode cL_law 197 = .ok (.iconst 4, 1) := by decide +kernel
theorem dL_law_198 : decode cL_law 198 = .ok (.idiv, 1) := by decide +kernel
theorem dL_law_199 : decode cL_law 199 = .ok (.bipush 100, 2) := by decide +kernel
theorem dL_law_201 : decode cL_law 201 = .ok (.irem, 1) := by decide +kernel
theorem dL_law_202 : decode cL_law 202 = .ok (.iadd, 1) := by decide +kernel
theorem dL_law_203 : decode cL_law 203 = .ok (.istore 14, 2) := by decide +kernel
theorem dL_law_205 : decode cL_law 205 = .ok (.aload_n 1, 1) := by decide +kernel
theorem dL_law_206 : decode cL_law 206 = .ok (.iload 8, 2) := by decide +kernel
theorem dL_law_208 : decode cL_law 208 = .ok (.iload 14, 2) := by decide +kernel
theorem dL_law_210 : decode cL_law 210 = .ok (.invokevirtual 20, 3) := by decide +kernel
theorem dL_law_213 : decode cL_law 213 = .ok (.aload_n 1, 1) := by decide +kernel
theorem dL_law_214 : decode cL_law 214 = .ok (.invokevirtual 55, 3) := by decide +kernel
theorem dL_law_217 : decode cL_law 217 = .ok (.if_icmp .ne 41, 3) := by decide +kernel
theorem dL_law_220 : decode cL_law 220 = .ok (.aload_n 1, 1) := by decide +kernel
theorem dL_law_221 : decode cL_law 221 = .ok (.iload 8, 2) := by decide +kernel
theorem dL_law_223 : decode cL_law 223 = .ok (.invokevirtual 61, 3) := by decide +kernel
theorem dL_law_226 : decode cL_law 226 = .ok (.iload 10, 2) := by decide +kernel
theorem dL_law_228 : decode cL_law 228 = .ok (.iload 14, 2) := by decide +kernel
theorem dL_law_230 : decode cL_law 230 = .ok (.iadd, 1) := by decide +kernel
theorem dL_law_231 : decode cL_law 231 = .ok (.if_icmp .ne 27, 3) := by decide +kernel
theorem dL_law_234 : decode cL_law 234 = .ok (.aload_n 1, 1) := by decide +kernel
theorem dL_law_235 : decode cL_law 235 = .ok (.iload 8, 2) := by decide +kernel
theorem dL_law_237 : decode cL_law 237 = .ok (.invokevirtual 31, 3) := by decide +kernel
theorem dL_law_240 : decode cL_law 240 = .ok (.lload 11, 2) := by decide +kernel
theorem dL_law_242 : decode cL_law 242 = .ok (.iload 13, 2) := by decide +kernel
theorem dL_law_244 : decode cL_law 244 = .ok (.i2l, 1) := by decide +kernel
theorem dL_law_245 : decode cL_law 245 = .ok (.iload 14, 2) := by decide +kernel
theorem dL_law_247 : decode cL_law 247 = .ok (.i2l, 1) := by decide +kernel
theorem dL_law_248 : decode cL_law 248 = .ok (.lmul, 1) := by decide +kernel
theorem dL_law_249 : decode cL_law 249 = .ok (.lsub, 1) := by decide +kernel
theorem dL_law_250 : decode cL_law 250 = .ok (.lcmp, 1) := by decide +kernel
theorem dL_law_251 : decode cL_law 251 = .ok (.ifCond .ne 7, 3) := by decide +kernel
theorem dL_law_254 : decode cL_law 254 = .ok (.iconst 1, 1) := by decide +kernel
theorem dL_law_255 : decode cL_law 255 = .ok (.goto 4, 3) := by decide +kernel
theorem dL_law_258 : decode cL_law 258 = .ok (.iconst 0, 1) := by decide +kernel
theorem dL_law_259 : decode cL_law 259 = .ok (.istore 4, 2) := by decide +kernel
theorem dL_law_261 : decode cL_law 261 = .ok (.goto 474, 3) := by decide +kernel
theorem dL_law_264 : decode cL_law 264 = .ok (.aload_n 1, 1) := by decide +kernel
theorem dL_law_265 : decode cL_law 265 = .ok (.iload 8, 2) := by decide +kernel
theorem dL_law_267 : decode cL_law 267 = .ok (.iload 7, 2) := by decide +kernel
theorem dL_law_269 : decode cL_law 269 = .ok (.iconst 4, 1) := by decide +kernel
theorem dL_law_270 : decode cL_law 270 = .ok (.idiv, 1) := by decide +kernel
theorem dL_law_271 : decode cL_law 271 = .ok (.ldc 113, 2) := by decide +kernel
theorem dL_law_273 : decode cL_law 273 = .ok (.irem, 1) := by decide +kernel
theorem dL_law_274 : decode cL_law 274 = .ok (.invokevirtual 25, 3) := by decide +kernel
theorem dL_law_277 : decode cL_law 277 = .ok (.ifCond .lt 7, 3) := by decide +kernel
theorem dL_law_280 : decode cL_law 280 = .ok (.iconst 1, 1) := by decide +kernel
theorem dL_law_281 : decode cL_law 281 = .ok (.goto 4, 3) := by decide +kernel
theorem dL_law_284 : decode cL_law 284 = .ok (.iconst 0, 1) := by decide +kernel
theorem dL_law_285 : decode cL_law 285 = .ok (.istore 4, 2) := by decide +kernel
theorem dL_law_287 : decode cL_law 287 = .ok (.goto 448, 3) := by decide +kernel
theorem dL_law_290 : decode cL_law 290 = .ok (.aload_n 1, 1) := by decide +kernel
theorem dL_law_291 : decode cL_law 291 = .ok (.bipush 100, 2) := by decide +kernel
theorem dL_law_293 : decode cL_law 293 = .ok (.iload 7, 2) := by decide +kernel
theorem dL_law_295 : decode cL_law 295 = .ok (.sipush 3000, 3) := by decide +kernel
theorem dL_law_298 : decode cL_law 298 = .ok (.irem, 1) := by decide +kernel
theorem dL_law_299 : decode cL_law 299 = .ok (.iadd, 1) := by decide +kernel
theorem dL_law_300 : decode cL_law 300 = .ok (.invokevirtual 114, 3) := by decide +kernel
theorem dL_law_303 : decode cL_law 303 = .ok (.bipush 100, 2) := by decide +kernel
theorem dL_law_305 : decode cL_law 305 = .ok (.if_icmp .lt 7, 3) := by decide +kernel
theorem dL_law_308 : decode cL_law 308 = .ok (.iconst 1, 1) := by decide +kernel
theorem dL_law_309 : decode cL_law 309 = .ok (.goto 4, 3) := by decide +kernel
theorem dL_law_312 : decode cL_law 312 = .ok (.iconst 0, 1) := by decide +kernel
theorem dL_law_313 : decode cL_law 313 = .ok (.istore 4, 2) := by decide +kernel
theorem dL_law_315 : decode cL_law 315 = .ok (.goto 420, 3) := by decide +kernel
theorem dL_law_318 : decode cL_law 318 = .ok (.aload_n 1, 1) := by decide +kernel
theorem dL_law_319 : decode cL_law 319 = .ok (.iload 7, 2) := by decide +kernel
theorem dL_law_321 : decode cL_law 321 = .ok (.ldc 117, 2) := by decide +kernel
theorem dL_law_323 : decode cL_law 323 = .ok (.irem, 1) := by decide +kernel
theorem dL_law_324 : decode cL_law 324 = .ok (.iload 7, 2) := by decide +kernel
theorem dL_law_326 : decode cL_law 326 = .ok (.sipush 128, 3) := by decide +kernel
theorem dL_law_329 : decode cL_law 329 = .ok (.idiv, 1) := by decide +kernel
theorem dL_law_330 : decode cL_law 330 = .ok (.sipush 30000, 3) := by decide +kernel
theorem dL_law_333 : decode cL_law 333 = .ok (.irem, 1) := by decide +kernel
theorem dL_law_334 : decode cL_law 334 = .ok (.invokevirtual 118, 3) := by decide +kernel
theorem dL_law_337 : decode cL_law 337 = .ok (.ldc 121, 2) := by decide +kernel
theorem dL_law_339 : decode cL_law 339 = .ok (.if_icmp .lt 32, 3) := by decide +kernel
theorem dL_law_342 : decode cL_law 342 = .ok (.aload_n 1, 1) := by decide +kernel
theorem dL_law_343 : decode cL_law 343 = .ok (.iload 7, 2) := by decide +kernel
theorem dL_law_345 : decode cL_law 345 = .ok (.sipush 20001, 3) := by decide +kernel
theorem dL_law_348 : decode cL_law 348 = .ok (.irem, 1) := by decide +kernel
theorem dL_law_349 : decode cL_law 349 = .ok (.sipush 10000, 3) := by decide +kernel
theorem dL_law_352 : decode cL_law 352 = .ok (.isub, 1) := by decide +kernel
theorem dL_law_353 : decode cL_law 353 = .ok (.invokevirtual 122, 3) := by decide +kernel
theorem dL_law_356 : decode cL_law 356 = .ok (.iconst 1, 1) := by decide +kernel
theorem dL_law_357 : decode cL_law 357 = .ok (.if_icmp .lt 14, 3) := by decide +kernel
theorem dL_law_360 : decode cL_law 360 = .ok (.aload_n 1, 1) := by decide +kernel
theorem dL_law_361 : decode cL_law 361 = .ok (.invokestatic 125, 3) := by decide +kernel
theorem dL_law_364 : decode cL_law 364 = .ok (.ifCond .eq 7, 3) := by decide +kernel
theorem dL_law_367 : decode cL_law 367 = .ok (.iconst 1, 1) := by decide +kernel
theorem dL_law_368 : decode cL_law 368 = .ok (.goto 4, 3) := by decide +kernel
theorem dL_law_371 : decode cL_law 371 = .ok (.iconst 0, 1) := by decide +kernel
theorem dL_law_372 : decode cL_law 372 = .ok (.istore 4, 2) := by decide +kernel
theorem dL_law_374 : decode cL_law 374 = .ok (.goto 361, 3) := by decide +kernel
theorem dL_law_377 : decode cL_law 377 = .ok (.iload 9, 2) := by decide +kernel
theorem dL_law_379 : decode cL_law 379 = .ok (.ifCond .eq 39, 3) := by decide +kernel
theorem dL_law_382 : decode cL_law 382 = .ok (.aload_n 1, 1) := by decide +kernel
theorem dL_law_383 : decode cL_law 383 = .ok (.iload 7, 2) := by decide +kernel
theorem dL_law_385 : decode cL_law 385 = .ok (.iconst 4, 1) := by decide +kernel
theorem dL_law_386 : decode cL_law 386 = .ok (.idiv, 1) := by decide +kernel
theorem dL_law_387 : decode cL_law 387 = .ok (.iload 9, 2) := by decide +kernel
theorem dL_law_389 : decode cL_law 389 = .ok (.irem, 1) := by decide +kernel
theorem dL_law_390 : decode cL_law 390 = .ok (.iload 8, 2) := by decide +kernel
theorem dL_law_392 : decode cL_law 392 = .ok (.aload_n 3, 1) := by decide +kernel
theorem dL_law_393 : decode cL_law 393 = .ok (.iload 7, 2) := by decide +kernel
theorem dL_law_395 : decode cL_law 395 = .ok (.iconst 4, 1) := by decide +kernel
theorem dL_law_396 : decode cL_law 396 = .ok (.idiv, 1) := by decide +kernel
theorem dL_law_397 : decode cL_law 397 = .ok (.iload 9, 2) := by decide +kernel
theorem dL_law_399 : decode cL_law 399 = .ok (.irem, 1) := by decide +kernel
theorem dL_law_400 : decode cL_law 400 = .ok (.iaload, 1) := by decide +kernel
theorem dL_law_401 : decode cL_law 401 = .ok (.iconst 1, 1) := by decide +kernel
theorem dL_law_402 : decode cL_law 402 = .ok (.iload 7, 2) := by decide +kernel
theorem dL_law_404 : decode cL_law 404 = .ok (.sipush 128, 3) := by decide +kernel
theorem dL_law_407 : decode cL_law 407 = .ok (.idiv, 1) := by decide +kernel
theorem dL_law_408 : decode cL_law 408 = .ok (.bipush 40, 2) := by decide +kernel
theorem dL_law_410 : decode cL_law 410 = .ok (.irem, 1) := by decide +kernel
theorem dL_law_411 : decode cL_law 411 = .ok (.iadd, 1) := by decide +kernel
theorem dL_law_412 : decode cL_law 412 = .ok (.invokestatic 129, 3) := by decide +kernel
theorem dL_law_415 : decode cL_law 415 = .ok (.ifCond .eq 7, 3) := by decide +kernel
theorem dL_law_418 : decode cL_law 418 = .ok (.iconst 1, 1) := by decide +kernel
theorem dL_law_419 : decode cL_law 419 = .ok (.goto 4, 3) := by decide +kernel
theorem dL_law_422 : decode cL_law 422 = .ok (.iconst 0, 1) := by decide +kernel
theorem dL_law_423 : decode cL_law 423 = .ok (.istore 4, 2) := by decide +kernel
theorem dL_law_425 : decode cL_law 425 = .ok (.goto 310, 3) := by decide +kernel
theorem dL_law_428 : decode cL_law 428 = .ok (.iload 9, 2) := by decide +kernel
theorem dL_law_430 : decode cL_law 430 = .ok (.ifCond .ne 8, 3) := by decide +kernel
theorem dL_law_433 : decode cL_law 433 = .ok (.ldc 133, 2) := by decide +kernel
theorem dL_law_435 : decode cL_law 435 = .ok (.goto 34, 3) := by decide +kernel
theorem dL_law_438 : decode cL_law 438 = .ok (.aload_n 1, 1) := by decide +kernel
theorem dL_law_439 : decode cL_law 439 = .ok (.iload 7, 2) := by decide +kernel
theorem dL_law_441 : decode cL_law 441 = .ok (.iconst 4, 1) := by decide +kernel
theorem dL_law_442 : decode cL_law 442 = .ok (.idiv, 1) := by decide +kernel
theorem dL_law_443 : decode cL_law 443 = .ok (.iload 9, 2) := by decide +kernel
theorem dL_law_445 : decode cL_law 445 = .ok (.irem, 1) := by decide +kernel
theorem dL_law_446 : decode cL_law 446 = .ok (.invokevirtual 38, 3) := by decide +kernel
theorem dL_law_449 : decode cL_law 449 = .ok (.iconst 3, 1) := by decide +kernel
theorem dL_law_450 : decode cL_law 450 = .ok (.if_icmp .ne 8, 3) := by decide +kernel
theorem dL_law_453 : decode cL_law 453 = .ok (.ldc 94, 2) := by decide +kernel
theorem dL_law_455 : decode cL_law 455 = .ok (.goto 14, 3) := by decide +kernel
theorem dL_law_458 : decode cL_law 458 = .ok (.aload_n 1, 1) := by decide +kernel
theorem dL_law_459 : decode cL_law 459 = .ok (.iload 7, 2) := by decide +kernel
theorem dL_law_461 : decode cL_law 461 = .ok (.iconst 4, 1) := by decide +kernel
theorem dL_law_462 : decode cL_law 462 = .ok (.idiv, 1) := by decide +kernel
theorem dL_law_463 : decode cL_law 463 = .ok (.iload 9, 2) := by decide +kernel
theorem dL_law_465 : decode cL_law 465 = .ok (.irem, 1) := by decide +kernel
theorem dL_law_466 : decode cL_law 466 = .ok (.invokevirtual 42, 3) := by decide +kernel
theorem dL_law_469 : decode cL_law 469 = .ok (.istore 15, 2) := by decide +kernel
theorem dL_law_471 : decode cL_law 471 = .ok (.aload_n 1, 1) := by decide +kernel
theorem dL_law_472 : decode cL_law 472 = .ok (.iload 9, 2) := by decide +kernel
theorem dL_law_474 : decode cL_law 474 = .ok (.ifCond .ne 7, 3) := by decide +kernel
theorem dL_law_477 : decode cL_law 477 = .ok (.iconst 0, 1) := by decide +kernel
theorem dL_law_478 : decode cL_law 478 = .ok (.goto 10, 3) := by decide +kernel
theorem dL_law_481 : decode cL_law 481 = .ok (.iload 7, 2) := by decide +kernel
theorem dL_law_483 : decode cL_law 483 = .ok (.iconst 4, 1) := by decide +kernel
theorem dL_law_484 : decode cL_law 484 = .ok (.idiv, 1) := by decide +kernel
theorem dL_law_485 : decode cL_law 485 = .ok (.iload 9, 2) := by decide +kernel
theorem dL_law_487 : decode cL_law 487 = .ok (.irem, 1) := by decide +kernel
theorem dL_law_488 : decode cL_law 488 = .ok (.invokevirtual 134, 3) := by decide +kernel
theorem dL_law_491 : decode cL_law 491 = .ok (.iload 15, 2) := by decide +kernel
theorem dL_law_493 : decode cL_law 493 = .ok (.if_icmp .ne 7, 3) := by decide +kernel
theorem dL_law_496 : decode cL_law 496 = .ok (.iconst 1, 1) := by decide +kernel
theorem dL_law_497 : decode cL_law 497 = .ok (.goto 4, 3) := by decide +kernel
theorem dL_law_500 : decode cL_law 500 = .ok (.iconst 0, 1) := by decide +kernel
theorem dL_law_501 : decode cL_law 501 = .ok (.istore 4, 2) := by decide +kernel
theorem dL_law_503 : decode cL_law 503 = .ok (.goto 232, 3) := by decide +kernel
theorem dL_law_506 : decode cL_law 506 = .ok (.aload_n 1, 1) := by decide +kernel
theorem dL_law_507 : decode cL_law 507 = .ok (.iload 7, 2) := by decide +kernel
theorem dL_law_509 : decode cL_law 509 = .ok (.bipush 100, 2) := by decide +kernel
theorem dL_law_511 : decode cL_law 511 = .ok (.irem, 1) := by decide +kernel
theorem dL_law_512 : decode cL_law 512 = .ok (.invokevirtual 137, 3) := by decide +kernel
theorem dL_law_515 : decode cL_law 515 = .ok (.ifCond .lt 7, 3) := by decide +kernel
theorem dL_law_518 : decode cL_law 518 = .ok (.iconst 1, 1) := by decide +kernel
theorem dL_law_519 : decode cL_law 519 = .ok (.goto 4, 3) := by decide +kernel
theorem dL_law_522 : decode cL_law 522 = .ok (.iconst 0, 1) := by decide +kernel
theorem dL_law_523 : decode cL_law 523 = .ok (.istore 4, 2) := by decide +kernel
theorem dL_law_525 : decode cL_law 525 = .ok (.goto 210, 3) := by decide +kernel
theorem dL_law_528 : decode cL_law 528 = .ok (.aload_n 1, 1) := by decide +kernel
theorem dL_law_529 : decode cL_law 529 = .ok (.iconst 1, 1) := by decide +kernel
theorem dL_law_530 : decode cL_law 530 = .ok (.iload 7, 2) := by decide +kernel
theorem dL_law_532 : decode cL_law 532 = .ok (.iconst 4, 1) := by decide +kernel
theorem dL_law_533 : decode cL_law 533 = .ok (.irem, 1) := by decide +kernel
theorem dL_law_534 : decode cL_law 534 = .ok (.iadd, 1) := by decide +kernel
theorem dL_law_535 : decode cL_law 535 = .ok (.invokestatic 140, 3) := by decide +kernel
theorem dL_law_538 : decode cL_law 538 = .ok (.istore 4, 2) := by decide +kernel
theorem dL_law_540 : decode cL_law 540 = .ok (.goto 195, 3) := by decide +kernel
theorem dL_law_543 : decode cL_law 543 = .ok (.bipush 50, 2) := by decide +kernel
theorem dL_law_545 : decode cL_law 545 = .ok (.iload 7, 2) := by decide +kernel
theorem dL_law_547 : decode cL_law 547 = .ok (.bipush 16, 2) := by decide +kernel
theorem dL_law_549 : decode cL_law 549 = .ok (.idiv, 1) := by decide +kernel
theorem dL_law_550 : decode cL_law 550 = .ok (.sipush 200, 3) := by decide +kernel
theorem dL_law_553 : decode cL_law 553 = .ok (.irem, 1) := by decide +kernel
theorem dL_law_554 : decode cL_law 554 = .ok (.iadd, 1) := by decide +kernel
theorem dL_law_555 : decode cL_law 555 = .ok (.istore 16, 2) := by decide +kernel
theorem dL_law_557 : decode cL_law 557 = .ok (.iconst 1, 1) := by decide +kernel
theorem dL_law_558 : decode cL_law 558 = .ok (.iload 7, 2) := by decide +kernel
theorem dL_law_560 : decode cL_law 560 = .ok (.sipush 4096, 3) := by decide +kernel
theorem dL_law_563 : decode cL_law 563 = .ok (.idiv, 1) := by decide +kernel
theorem dL_law_564 : decode cL_law 564 = .ok (.bipush 30, 2) := by decide +kernel
theorem dL_law_566 : decode cL_law 566 = .ok (.irem, 1) := by decide +kernel
theorem dL_law_567 : decode cL_law 567 = .ok (.iadd, 1) := by decide +kernel
theorem dL_law_568 : decode cL_law 568 = .ok (.istore 17, 2) := by decide +kernel
theorem dL_law_570 : decode cL_law 570 = .ok (.aload_n 1, 1) := by decide +kernel
theorem dL_law_571 : decode cL_law 571 = .ok (.iload 8, 2) := by decide +kernel
theorem dL_law_573 : decode cL_law 573 = .ok (.invokevirtual 70, 3) := by decide +kernel
theorem dL_law_576 : decode cL_law 576 = .ok (.istore 18, 2) := by decide +kernel
theorem dL_law_578 : decode cL_law 578 = .ok (.aload_n 1, 1) := by decide +kernel
theorem dL_law_579 : decode cL_law 579 = .ok (.iload 8, 2) := by decide +kernel
theorem dL_law_581 : decode cL_law 581 = .ok (.iload 8, 2) := by decide +kernel
theorem dL_law_583 : decode cL_law 583 = .ok (.iconst 1, 1) := by decide +kernel
theorem dL_law_584 : decode cL_law 584 = .ok (.iadd, 1) := by decide +kernel
theorem dL_law_585 : decode cL_law 585 = .ok (.iload 7, 2) := by decide +kernel
theorem dL_law_587 : decode cL_law 587 = .ok (.iconst 4, 1) := by decide +kernel
theorem dL_law_588 : decode cL_law 588 = .ok (.idiv, 1) := by decide +kernel
theorem dL_law_589 : decode cL_law 589 = .ok (.iconst 3, 1) := by decide +kernel
theorem dL_law_590 : decode cL_law 590 = .ok (.irem, 1) := by decide +kernel
theorem dL_law_591 : decode cL_law 591 = .ok (.iadd, 1) := by decide +kernel
theorem dL_law_592 : decode cL_law 592 = .ok (.iconst 4, 1) := by decide +kernel
theorem dL_law_593 : decode cL_law 593 = .ok (.irem, 1) := by decide +kernel
theorem dL_law_594 : decode cL_law 594 = .ok (.iload 17, 2) := by decide +kernel
theorem dL_law_596 : decode cL_law 596 = .ok (.iload 16, 2) := by decide +kernel
theorem dL_law_598 : decode cL_law 598 = .ok (.invokevirtual 144, 3) := by decide +kernel
theorem dL_law_601 : decode cL_law 601 = .ok (.istore 19, 2) := by decide +kernel
theorem dL_law_603 : decode cL_law 603 = .ok (.iload 17, 2) := by decide +kernel
theorem dL_law_605 : decode cL_law 605 = .ok (.iload 18, 2) := by decide +kernel
theorem dL_law_607 : decode cL_law 607 = .ok (.if_icmp .gt 16, 3) := by decide +kernel
theorem dL_law_610 : decode cL_law 610 = .ok (.iload 16, 2) := by decide +kernel
theorem dL_law_612 : decode cL_law 612 = .ok (.aload_n 1, 1) := by decide +kernel
theorem dL_law_613 : decode cL_law 613 = .ok (.invokevirtual 98, 3) := by decide +kernel
theorem dL_law_616 : decode cL_law 616 = .ok (.if_icmp .lt 7, 3) := by decide +kernel
theorem dL_law_619 : decode cL_law 619 = .ok (.iconst 1, 1) := by decide +kernel
theorem dL_law_620 : decode cL_law 620 = .ok (.goto 4, 3) := by decide +kernel
theorem dL_law_623 : decode cL_law 623 = .ok (.iconst 0, 1) := by decide +kernel
theorem dL_law_624 : decode cL_law 624 = .ok (.istore 20, 2) := by decide +kernel
theorem dL_law_626 : decode cL_law 626 = .ok (.iload 19, 2) := by decide +kernel
theorem dL_law_628 : decode cL_law 628 = .ok (.iload 20, 2) := by decide +kernel
theorem dL_law_630 : decode cL_law 630 = .ok (.ifCond .ne 8, 3) := by decide +kernel
theorem dL_law_633 : decode cL_law 633 = .ok (.ldc 94, 2) := by decide +kernel
theorem dL_law_635 : decode cL_law 635 = .ok (.goto 17, 3) := by decide +kernel
theorem dL_law_638 : decode cL_law 638 = .ok (.iload 9, 2) := by decide +kernel
theorem dL_law_640 : decode cL_law 640 = .ok (.bipush 20, 2) := by decide +kernel
theorem dL_law_642 : decode cL_law 642 = .ok (.if_icmp .ne 8, 3) := by decide +kernel
theorem dL_law_645 : decode cL_law 645 = .ok (.ldc 148, 2) := by decide +kernel
theorem dL_law_647 : decode cL_law 647 = .ok (.goto 5, 3) := by decide +kernel
theorem dL_law_650 : decode cL_law 650 = .ok (.iload 9, 2) := by decide +kernel
theorem dL_law_652 : decode cL_law 652 = .ok (.if_icmp .ne 28, 3) := by decide +kernel
theorem dL_law_655 : decode cL_law 655 = .ok (.aload_n 1, 1) := by decide +kernel
theorem dL_law_656 : decode cL_law 656 = .ok (.invokevirtual 58, 3) := by decide +kernel
theorem dL_law_659 : decode cL_law 659 = .ok (.iload 19, 2) := by decide +kernel
theorem dL_law_661 : decode cL_law 661 = .ok (.ifCond .lt 10, 3) := by decide +kernel
theorem dL_law_664 : decode cL_law 664 = .ok (.iload 9, 2) := by decide +kernel
theorem dL_law_666 : decode cL_law 666 = .ok (.iconst 1, 1) := by decide +kernel
theorem dL_law_667 : decode cL_law 667 = .ok (.iadd, 1) := by decide +kernel
theorem dL_law_668 : decode cL_law 668 = .ok (.goto 5, 3) := by decide +kernel
theorem dL_law_671 : decode cL_law 671 = .ok (.iload 9, 2) := by decide +kernel
theorem dL_law_673 : decode cL_law 673 = .ok (.if_icmp .ne 7, 3) := by decide +kernel
theorem dL_law_676 : decode cL_law 676 = .ok (.iconst 1, 1) := by decide +kernel
theorem dL_law_677 : decode cL_law 677 = .ok (.goto 4, 3) := by decide +kernel
theorem dL_law_680 : decode cL_law 680 = .ok (.iconst 0, 1) := by decide +kernel
theorem dL_law_681 : decode cL_law 681 = .ok (.istore 4, 2) := by decide +kernel
theorem dL_law_683 : decode cL_law 683 = .ok (.iload 19, 2) := by decide +kernel
theorem dL_law_685 : decode cL_law 685 = .ok (.ifCond .lt 50, 3) := by decide +kernel
theorem dL_law_688 : decode cL_law 688 = .ok (.aload_n 2, 1) := by decide +kernel
theorem dL_law_689 : decode cL_law 689 = .ok (.iload 9, 2) := by decide +kernel
theorem dL_law_691 : decode cL_law 691 = .ok (.iload 17, 2) := by decide +kernel
theorem dL_law_693 : decode cL_law 693 = .ok (.iastore, 1) := by decide +kernel
theorem dL_law_694 : decode cL_law 694 = .ok (.aload_n 3, 1) := by decide +kernel
theorem dL_law_695 : decode cL_law 695 = .ok (.iload 9, 2) := by decide +kernel
theorem dL_law_697 : decode cL_law 697 = .ok (.iload 8, 2) := by decide +kernel
theorem dL_law_699 : decode cL_law 699 = .ok (.iastore, 1) := by decide +kernel
theorem dL_law_700 : decode cL_law 700 = .ok (.iload 4, 2) := by decide +kernel
theorem dL_law_702 : decode cL_law 702 = .ok (.ifCond .eq 30, 3) := by decide +kernel
theorem dL_law_705 : decode cL_law 705 = .ok (.aload_n 1, 1) := by decide +kernel
theorem dL_law_706 : decode cL_law 706 = .ok (.iload 8, 2) := by decide +kernel
theorem dL_law_708 : decode cL_law 708 = .ok (.invokevirtual 70, 3) := by decide +kernel
theorem dL_law_711 : decode cL_law 711 = .ok (.iload 18, 2) := by decide +kernel
theorem dL_law_713 : decode cL_law 713 = .ok (.iload 17, 2) := by decide +kernel
theorem dL_law_715 : decode cL_law 715 = .ok (.isub, 1) := by decide +kernel
theorem dL_law_716 : decode cL_law 716 = .ok (.if_icmp .ne 16, 3) := by decide +kernel
theorem dL_law_719 : decode cL_law 719 = .ok (.aload_n 1, 1) := by decide +kernel
theorem dL_law_720 : decode cL_law 720 = .ok (.iload 9, 2) := by decide +kernel
theorem dL_law_722 : decode cL_law 722 = .ok (.invokevirtual 38, 3) := by decide +kernel
theorem dL_law_725 : decode cL_law 725 = .ok (.ifCond .ne 7, 3) := by decide +kernel
theorem dL_law_728 : decode cL_law 728 = .ok (.iconst 1, 1) := by decide +kernel
theorem dL_law_729 : decode cL_law 729 = .ok (.goto 4, 3) := by decide +kernel
theorem dL_law_732 : decode cL_law 732 = .ok (.iconst 0, 1) := by decide +kernel
theorem dL_law_733 : decode cL_law 733 = .ok (.istore 4, 2) := by decide +kernel
theorem dL_law_735 : decode cL_law 735 = .ok (.iload 4, 2) := by decide +kernel
theorem dL_law_737 : decode cL_law 737 = .ok (.ifCond .eq 23, 3) := by decide +kernel
theorem dL_law_740 : decode cL_law 740 = .ok (.iload 5, 2) := by decide +kernel
theorem dL_law_742 : decode cL_law 742 = .ok (.iconst 2, 1) := by decide +kernel
theorem dL_law_743 : decode cL_law 743 = .ok (.irem, 1) := by decide +kernel
theorem dL_law_744 : decode cL_law 744 = .ok (.ifCond .eq 12, 3) := by decide +kernel
theorem dL_law_747 : decode cL_law 747 = .ok (.aload_n 1, 1) := by decide +kernel
theorem dL_law_748 : decode cL_law 748 = .ok (.aload_n 2, 1) := by decide +kernel
theorem dL_law_749 : decode cL_law 749 = .ok (.aload_n 3, 1) := by decide +kernel
theorem dL_law_750 : decode cL_law 750 = .ok (.invokestatic 109, 3) := by decide +kernel
theorem dL_law_753 : decode cL_law 753 = .ok (.ifCond .eq 7, 3) := by decide +kernel
theorem dL_law_756 : decode cL_law 756 = .ok (.iconst 1, 1) := by decide +kernel
theorem dL_law_757 : decode cL_law 757 = .ok (.goto 4, 3) := by decide +kernel
theorem dL_law_760 : decode cL_law 760 = .ok (.iconst 0, 1) := by decide +kernel
theorem dL_law_761 : decode cL_law 761 = .ok (.istore 4, 2) := by decide +kernel
theorem dL_law_763 : decode cL_law 763 = .ok (.iinc 5 1, 3) := by decide +kernel
theorem dL_law_766 : decode cL_law 766 = .ok (.goto (-702), 3) := by decide +kernel
theorem dL_law_769 : decode cL_law 769 = .ok (.aload_n 1, 1) := by decide +kernel
theorem dL_law_770 : decode cL_law 770 = .ok (.invokevirtual 149, 3) := by decide +kernel
theorem dL_law_773 : decode cL_law 773 = .ok (.istore 5, 2) := by decide +kernel
theorem dL_law_775 : decode cL_law 775 = .ok (.iload 4, 2) := by decide +kernel
theorem dL_law_777 : decode cL_law 777 = .ok (.ifCond .eq 76, 3) := by decide +kernel
theorem dL_law_780 : decode cL_law 780 = .ok (.aload_n 1, 1) := by decide +kernel
theorem dL_law_781 : decode cL_law 781 = .ok (.iconst 4, 1) := by decide +kernel
theorem dL_law_782 : decode cL_law 782 = .ok (.iconst 1, 1) := by decide +kernel
theorem dL_law_783 : decode cL_law 783 = .ok (.invokevirtual 20, 3) := by decide +kernel
theorem dL_law_786 : decode cL_law 786 = .ok (.ldc 133, 2) := by decide +kernel
theorem dL_law_788 : decode cL_law 788 = .ok (.if_icmp .ne 65, 3) := by decide +kernel
theorem dL_law_791 : decode cL_law 791 = .ok (.aload_n 1, 1) := by decide +kernel
theorem dL_law_792 : decode cL_law 792 = .ok (.iconst 0, 1) := by decide +kernel
theorem dL_law_793 : decode cL_law 793 = .ok (.iconst 0, 1) := by decide +kernel
theorem dL_law_794 : decode cL_law 794 = .ok (.invokevirtual 20, 3) := by decide +kernel
theorem dL_law_797 : decode cL_law 797 = .ok (.ldc 133, 2) := by decide +kernel
theorem dL_law_799 : decode cL_law 799 = .ok (.if_icmp .ne 54, 3) := by decide +kernel
theorem dL_law_802 : decode cL_law 802 = .ok (.aload_n 1, 1) := by decide +kernel
theorem dL_law_803 : decode cL_law 803 = .ok (.iconst 0, 1) := by decide +kernel
theorem dL_law_804 : decode cL_law 804 = .ok (.iconst 0, 1) := by decide +kernel
theorem dL_law_805 : decode cL_law 805 = .ok (.iconst 1, 1) := by decide +kernel
theorem dL_law_806 : decode cL_law 806 = .ok (.bipush 100, 2) := by decide +kernel
theorem dL_law_808 : decode cL_law 808 = .ok (.invokevirtual 144, 3) := by decide +kernel
theorem dL_law_811 : decode cL_law 811 = .ok (.ldc 133, 2) := by decide +kernel
theorem dL_law_813 : decode cL_law 813 = .ok (.if_icmp .ne 40, 3) := by decide +kernel
theorem dL_law_816 : decode cL_law 816 = .ok (.aload_n 1, 1) := by decide +kernel
theorem dL_law_817 : decode cL_law 817 = .ok (.bipush 20, 2) := by decide +kernel
theorem dL_law_819 : decode cL_law 819 = .ok (.iconst 0, 1) := by decide +kernel
theorem dL_law_820 : decode cL_law 820 = .ok (.iconst 1, 1) := by decide +kernel
theorem dL_law_821 : decode cL_law 821 = .ok (.invokevirtual 90, 3) := by decide +kernel
theorem dL_law_824 : decode cL_law 824 = .ok (.ldc 133, 2) := by decide +kernel
theorem dL_law_826 : decode cL_law 826 = .ok (.if_icmp .ne 27, 3) := by decide +kernel
theorem dL_law_829 : decode cL_law 829 = .ok (.aload_n 1, 1) := by decide +kernel
theorem dL_law_830 : decode cL_law 830 = .ok (.iconst 0, 1) := by decide +kernel
theorem dL_law_831 : decode cL_law 831 = .ok (.invokevirtual 87, 3) := by decide +kernel
theorem dL_law_834 : decode cL_law 834 = .ok (.ldc 133, 2) := by decide +kernel
theorem dL_law_836 : decode cL_law 836 = .ok (.if_icmp .ne 17, 3) := by decide +kernel
theorem dL_law_839 : decode cL_law 839 = .ok (.aload_n 1, 1) := by decide +kernel
theorem dL_law_840 : decode cL_law 840 = .ok (.iconst (-1), 1) := by decide +kernel
theorem dL_law_841 : decode cL_law 841 = .ok (.invokevirtual 134, 3) := by decide +kernel
theorem dL_law_844 : decode cL_law 844 = .ok (.ldc 133, 2) := by decide +kernel
theorem dL_law_846 : decode cL_law 846 = .ok (.if_icmp .ne 7, 3) := by decide +kernel
theorem dL_law_849 : decode cL_law 849 = .ok (.iconst 1, 1) := by decide +kernel
theorem dL_law_850 : decode cL_law 850 = .ok (.goto 4, 3) := by decide +kernel
theorem dL_law_853 : decode cL_law 853 = .ok (.iconst 0, 1) := by decide +kernel
theorem dL_law_854 : decode cL_law 854 = .ok (.istore 4, 2) := by decide +kernel
theorem dL_law_856 : decode cL_law 856 = .ok (.iload 4, 2) := by decide +kernel
theorem dL_law_858 : decode cL_law 858 = .ok (.ifCond .eq 51, 3) := by decide +kernel
theorem dL_law_861 : decode cL_law 861 = .ok (.aload_n 1, 1) := by decide +kernel
theorem dL_law_862 : decode cL_law 862 = .ok (.invokevirtual 149, 3) := by decide +kernel
theorem dL_law_865 : decode cL_law 865 = .ok (.iload 5, 2) := by decide +kernel
theorem dL_law_867 : decode cL_law 867 = .ok (.if_icmp .ne 42, 3) := by decide +kernel
theorem dL_law_870 : decode cL_law 870 = .ok (.aload_n 1, 1) := by decide +kernel
theorem dL_law_871 : decode cL_law 871 = .ok (.iconst 0, 1) := by decide +kernel
theorem dL_law_872 : decode cL_law 872 = .ok (.ldc 152, 2) := by decide +kernel
theorem dL_law_874 : decode cL_law 874 = .ok (.invokevirtual 25, 3) := by decide +kernel
theorem dL_law_877 : decode cL_law 877 = .ok (.ldc 133, 2) := by decide +kernel
theorem dL_law_879 : decode cL_law 879 = .ok (.if_icmp .ne 30, 3) := by decide +kernel
theorem dL_law_882 : decode cL_law 882 = .ok (.aload_n 1, 1) := by decide +kernel
theorem dL_law_883 : decode cL_law 883 = .ok (.aload_n 1, 1) := by decide +kernel
theorem dL_law_884 : decode cL_law 884 = .ok (.invokevirtual 58, 3) := by decide +kernel
theorem dL_law_887 : decode cL_law 887 = .ok (.iconst 0, 1) := by decide +kernel
theorem dL_law_888 : decode cL_law 888 = .ok (.invokevirtual 35, 3) := by decide +kernel
theorem dL_law_891 : decode cL_law 891 = .ok (.ldc 133, 2) := by decide +kernel
theorem dL_law_893 : decode cL_law 893 = .ok (.if_icmp .ne 16, 3) := by decide +kernel
theorem dL_law_896 : decode cL_law 896 = .ok (.aload_n 1, 1) := by decide +kernel
theorem dL_law_897 : decode cL_law 897 = .ok (.aload_n 2, 1) := by decide +kernel
theorem dL_law_898 : decode cL_law 898 = .ok (.aload_n 3, 1) := by decide +kernel
theorem dL_law_899 : decode cL_law 899 = .ok (.invokestatic 109, 3) := by decide +kernel
theorem dL_law_902 : decode cL_law 902 = .ok (.ifCond .eq 7, 3) := by decide +kernel
theorem dL_law_905 : decode cL_law 905 = .ok (.iconst 1, 1) := by decide +kernel
theorem dL_law_906 : decode cL_law 906 = .ok (.goto 4, 3) := by decide +kernel
theorem dL_law_909 : decode cL_law 909 = .ok (.iconst 0, 1) := by decide +kernel
theorem dL_law_910 : decode cL_law 910 = .ok (.ireturn, 1) := by decide +kernel
def LK (S : zM) (k : Int) : Prop := RJ S ∧ Inv (S 0) ∧ PJ (S 0) (S 6) ∧ sp_all (S 0) ≤ 800 + 100 * k
theorem lk_val {S X : zM} (pX : AP S X (ok_valuate (S 0)) (nx_valuate (S 0))) (iS : Inv (S 0)) (h : PJ (S 0) (S 6)) : PJ (X 0) (X 6) ∧ sp_all (X 0) = sp_all (S 0) := by
  have hA := inA iS.1
  unfold InvA at hA
  rw [pX.2.1]
  by_cases c : ok_valuate (S 0)
  · rw [pX.2.2.1 c]
    exact ⟨pj_cg h (by omega) (fun q hq => up_ne (by omega)), val_x.1⟩
  · rw [pX.2.2.2 c]; exact ⟨h, rfl⟩
theorem lk_claim {S X : zM} {o m n : Int} (pX : AP S X (ok_claim (S 0) o m n) (nx_claim (S 0) o m n)) (iS : Inv (S 0)) (h : PJ (S 0) (S 6)) : PJ (X 0) (X 6) ∧ sp_all (X 0) = sp_all (S 0) := by
  have hA := inA iS.1
  unfold InvA at hA
  rw [pX.2.1]
  by_cases c : ok_claim (S 0) o m n
  · rw [pX.2.2.1 c]
    have h1 := c.1.1
    have h2 := c.1.2.1
    exact ⟨pj_claim h iS c, all_cg (up_ne (by omega)) (up_ne (by omega)) (fun q a b => up_ne (by omega))⟩
  · rw [pX.2.2.2 c]; exact ⟨h, rfl⟩
theorem lk_withdraw {S X : zM} {o : Int} (pX : AP S X (ok_withdraw (S 0) o) (nx_withdraw (S 0) o)) (iS : Inv (S 0)) (h : PJ (S 0) (S 6)) : PJ (X 0) (X 6) ∧ sp_all (X 0) = sp_all (S 0) := by
  have hA := inA iS.1
  unfold InvA at hA
  rw [pX.2.1]
  by_cases c : ok_withdraw (S 0) o
  · rw [pX.2.2.1 c]
    have h1 := c.1
    exact ⟨pj_withdraw h iS c, all_cg (begin_ne (by omega) (by omega) (by omega) (by omega)) (begin_ne (by omega) (by omega) (by omega) (by omega)) (fun q a b => begin_ne (by omega) (by omega) (by omega) (by omega))⟩
  · rw [pX.2.2.2 c]; exact ⟨h, rfl⟩
theorem lk_days {S X : zM} {d : Int} (pX : AP S X (ok_passDays d) (nx_passDays (S 0) d)) (iS : Inv (S 0)) (h : PJ (S 0) (S 6)) : PJ (X 0) (X 6) ∧ sp_all (X 0) = sp_all (S 0) := by
  rw [pX.2.1]
  by_cases c : ok_passDays d
  · rw [pX.2.2.1 c]; exact ⟨pj_days h iS d, (pass_od iS d).1.1⟩
  · rw [pX.2.2.2 c]; exact ⟨h, rfl⟩
theorem mod_b {a n : Int} (h : 0 ≤ a) (hn : 0 < n) : 0 ≤ a - a / n * n ∧ a - a / n * n < n := by
  have h1 := Int.emod_nonneg a (show n ≠ 0 by omega)
  have h2 := Int.emod_lt_of_pos a hn
  have h3 := Int.mul_ediv_add_emod a n
  rw [Int.mul_comm] at h3
  omega
theorem rec_ne {s : Int → Int} {a q : Int} (h : 0 ≤ s 9 ∧ s 9 ≤ 3) (hq : q ≠ 9 ∧ q ≠ 10 ∧ q ≠ 11 ∧ q ≠ 12) : sp_rec s a q = s q := by
  unfold sp_rec
  split
  · rw [up_ne (by omega), up_ne (by omega), up_ne (by omega), up_ne (by omega), up_ne (by omega)]
  · rw [up_ne (by omega), up_ne (by omega)]
set_option maxHeartbeats 4000000 in
set_option maxRecDepth 100000 in
theorem lc_0 {E : zE} {l0 : Launch} {D0 : va_G} {cI0 cJ0 : ClassId} {ad : Nat → Nat → Nat} {S : zM} {b N : Nat} {xs : Nat → Int32} (hE : zG E l0 D0 cI0 cJ0 ad cL_law 21 RL 10 394) (hX : zX E b N xs) (jS : RJ S) (iS : Inv (S 0)) (pS : PJ (S 0) (S 6)) {k z m : Int} (bS : sp_all (S 0) ≤ 800 + 100 * k) (hk : 0 ≤ k ∧ k < 24) (hz : 0 ≤ z ∧ z ≤ 134217727) (hm : 0 ≤ m ∧ m < 4) (kk : ∀ X : zM, LK X (k + 1) → Z E X 735 [(4, .int (i32 1)), (5, .int (i32 k)), (0, .ref b), (1, .ref (ad 5 22)), (2, .ref (ad 6 27)), (3, .ref (ad 6 28))] []) : Z E S 172 [(9, .int (i32 (S 0 14))), (8, .int (i32 m)), (7, .int (i32 z)), (5, .int (i32 k)), (4, .int (i32 1)), (0, .ref b), (1, .ref (ad 5 22)), (2, .ref (ad 6 27)), (3, .ref (ad 6 28))] [] := by
  have aS := inA iS.1
  unfold InvA at aS
  have h4 := pS.1
  have hT := inT iS.1
  refine z_aload_n hE 6 rfl rfl dL_law_172 ?_
  refine z_iload hE 1 rfl dL_law_173 ?_
  refine z_callV hE (c_X7_shares l0 D0 cI0 cJ0 ad S m 0 (by decide) jS.1 iS (⟨by omega, by omega⟩)) (by decide) rfl rfl zm_L_61 zi_yX7_shares zs_yX7_shares zn_RX7 zc_yX7_shares (hy_X7_shares) (Nat.le_of_ble_eq_true rfl) (Nat.le_of_ble_eq_true rfl) rfl rfl rfl (Nat.le_of_ble_eq_true rfl) dL_law_175 ?_
  rw [show rv_shares ((S 0)) m = S 0 (19 + 3 * m) from if_pos (by omega)]
  refine z_istore hE (by decide) rfl dL_law_178 ?_
  refine z_aload_n hE 7 rfl rfl dL_law_180 ?_
  refine z_iload hE 2 rfl dL_law_181 ?_
  refine z_callV hE (c_X7_account l0 D0 cI0 cJ0 ad S m 0 (by decide) jS.1 iS (⟨by omega, by omega⟩)) (by decide) rfl rfl zm_L_31 zi_yX7_account zs_yX7_account zn_RX7 zc_yX7_account (hy_X7_account) (Nat.le_of_ble_eq_true rfl) (Nat.le_of_ble_eq_true rfl) rfl rfl rfl (Nat.le_of_ble_eq_true rfl) dL_law_183 ?_
  rw [show rv_account ((S 0)) m = S 0 (21 + 3 * m) from if_pos (by omega)]
  refine z_lstore hE (by decide) rfl dL_law_186 ?_
  refine z_aload_n hE 8 rfl rfl dL_law_188 ?_
  refine z_callV hE (c_X7_price l0 D0 cI0 cJ0 ad S 0 (by decide) jS.1 iS) (by decide) rfl rfl zm_L_84 zi_yX7_price zs_yX7_price zn_RX7 zc_yX7_price (hy_X7_price) (Nat.le_of_ble_eq_true rfl) (Nat.le_of_ble_eq_true rfl) rfl rfl rfl (Nat.le_of_ble_eq_true rfl) dL_law_189 ?_
  refine z_istore hE (by decide) rfl dL_law_192 ?_
  refine z_iconst hE dL_law_194 ?_
  refine z_iload hE 5 rfl dL_law_195 ?_
  refine z_iconst hE dL_law_197 ?_
  refine z_idiv hE ⟨by omega, by omega⟩ ⟨by omega, by omega⟩ (by omega) dL_law_198 ?_
  rw [zx_tdiv (show 0 ≤ z by omega)]
  refine z_bipush (a := 100) hE (by decide) dL_law_199 ?_
  refine z_irem hE ⟨by omega, by omega⟩ ⟨by omega, by omega⟩ (by omega) dL_law_201 ?_
  rw [zx_tdiv (show 0 ≤ z / 4 by omega)]
  refine z_iadd hE dL_law_202 ?_
  obtain ⟨q, h_q⟩ : ∃ x : Int, x = 1 + ((z / 4) - (z / 4) / 100 * 100) := ⟨_, rfl⟩
  rw [← h_q]
  have hq2 : 1 ≤ q ∧ q ≤ 100 := by omega
  refine z_istore hE (by decide) rfl dL_law_203 ?_
  refine z_aload_n hE 10 rfl rfl dL_law_205 ?_
  refine z_iload hE 5 rfl dL_law_206 ?_
  refine z_iload hE 0 rfl dL_law_208 ?_
  obtain ⟨n1, n2, n3, n4, hn1, hn2, hn3, hn4, e1, e2, e3, e4, h01, h02, h03, h04⟩ := jS.2.2
  refine z_callVp hE (c_X7_issue l0 D0 cI0 cJ0 ad S m q 0 n1 n2 n3 n4 (by decide) hn1 hn2 hn3 hn4 jS.1 e1 e2 e3 e4 h04 jS.2.1 iS (⟨by omega, by omega⟩) (⟨by omega, by omega⟩)) (by decide) rfl rfl zm_L_20 zi_yX7_issue zs_yX7_issue zn_RX7 zc_yX7_issue (hy_X7_issue) (Nat.le_of_ble_eq_true rfl) (Nat.le_of_ble_eq_true rfl) rfl rfl rfl (Nat.le_of_ble_eq_true rfl) dL_law_210 (fun M210 hM210 => ?_)
  have pM210 := ap_act jS hn1 hn2 hn3 hn4 h01 h02 h03 h04 hM210
  have jM210 := pM210.1
  have iM210 := ap_inv pM210 (fun ok => inv_issue iS ok) iS
  have aM210 := inA iM210.1
  unfold InvA at aM210
  have ok : ok_issue (S 0) m q := ⟨⟨⟨by omega, by omega⟩, by omega, by omega⟩, by omega⟩
  have nx := pM210.2.2.1 ok
  have y0 : M210 0 0 = 4 := by rw [nx]; unfold nx_issue; rw [uq_ne (by omega), uq_ne (by omega)]; exact h4
  have ya : sp_all (M210 0) = sp_all (S 0) + q := by rw [nx]; exact all_issue ⟨by omega, by omega⟩
  have ys : M210 0 (19 + 3 * m) = S 0 (19 + 3 * m) + q := by rw [nx]; unfold nx_issue; rw [uq_ne (by omega), uq_eq]
  have yc : M210 0 (21 + 3 * m) = S 0 (21 + 3 * m) + -(S 0 6 * q) := by rw [nx]; unfold nx_issue; rw [uq_eq, uq_ne (by omega)]
  have hms := inM iS.1 hm.1 (show m < 12 by omega)
  rw [show rv_issue ((S 0)) m q = sp_all (S 0) + q from (if_pos ok.1).trans (if_pos ok.2)]
  have pj : PJ (M210 0) (M210 6) := by rw [pM210.2.1, nx]; exact pj_cg pS (by omega) (fun x hx => by unfold nx_issue; rw [uq_ne (by omega), uq_ne (by omega)])
  have fin : LK M210 (k + 1) := ⟨jM210, iM210, pj, by omega⟩
  refine z_aload_n hE 10 rfl rfl dL_law_213 ?_
  refine z_callV hE (c_X7_allShares l0 D0 cI0 cJ0 ad M210 0 (by decide) jM210.1 iM210) (by decide) rfl rfl zm_L_55 zi_yX7_allShares zs_yX7_allShares zn_RX7 zc_yX7_allShares (hy_X7_allShares) (Nat.le_of_ble_eq_true rfl) (Nat.le_of_ble_eq_true rfl) rfl rfl rfl (Nat.le_of_ble_eq_true rfl) dL_law_214 ?_
  refine z_icmp_ne (tgt := 258) hE dL_law_217 (by decide) ⟨by omega, by omega⟩ ⟨by omega, by omega⟩ (fun c1 => ?_) (fun c1 => ?_)
  · exact by omega
  · refine z_aload_n hE 10 rfl rfl dL_law_220 ?_
    refine z_iload hE 5 rfl dL_law_221 ?_
    refine z_callV hE (c_X7_shares l0 D0 cI0 cJ0 ad M210 m 0 (by decide) jM210.1 iM210 (⟨by omega, by omega⟩)) (by decide) rfl rfl zm_L_61 zi_yX7_shares zs_yX7_shares zn_RX7 zc_yX7_shares (hy_X7_shares) (Nat.le_of_ble_eq_true rfl) (Nat.le_of_ble_eq_true rfl) rfl rfl rfl (Nat.le_of_ble_eq_true rfl) dL_law_223 ?_
    rw [show rv_shares ((M210 0)) m = M210 0 (19 + 3 * m) from if_pos (by omega)]
    refine z_iload hE 3 rfl dL_law_226 ?_
    refine z_iload hE 0 rfl dL_law_228 ?_
    refine z_iadd hE dL_law_230 ?_
    refine z_icmp_ne (tgt := 258) hE dL_law_231 (by decide) ⟨by omega, by omega⟩ ⟨by omega, by omega⟩ (fun c2 => ?_) (fun c2 => ?_)
    · exact by omega
    · refine z_aload_n hE 10 rfl rfl dL_law_234 ?_
      refine z_iload hE 5 rfl dL_law_235 ?_
      refine z_callV hE (c_X7_account l0 D0 cI0 cJ0 ad M210 m 0 (by decide) jM210.1 iM210 (⟨by omega, by omega⟩)) (by decide) rfl rfl zm_L_31 zi_yX7_account zs_yX7_account zn_RX7 zc_yX7_account (hy_X7_account) (Nat.le_of_ble_eq_true rfl) (Nat.le_of_ble_eq_true rfl) rfl rfl rfl (Nat.le_of_ble_eq_true rfl) dL_law_237 ?_
      rw [show rv_account ((M210 0)) m = M210 0 (21 + 3 * m) from if_pos (by omega)]
      refine z_lload hE 2 rfl dL_law_240 ?_
      refine z_iload hE 1 rfl dL_law_242 ?_
      refine z_i2l hE ⟨by omega, by omega⟩ dL_law_244 ?_
      refine z_iload hE 0 rfl dL_law_245 ?_
      refine z_i2l hE ⟨by omega, by omega⟩ dL_law_247 ?_
      refine z_lmul hE dL_law_248 ?_
      refine z_lsub hE dL_law_249 ?_
      rw [show M210 0 (21 + 3 * m) = (S 0 (21 + 3 * m)) - (((S 0) 6) * q) from by omega]
      refine z_lsame hE dL_law_250 ?_
      refine z_if_ne (tgt := 258) hE dL_law_251 (by decide) ⟨by omega, by omega⟩ (fun c3 => absurd rfl c3) (fun c3 => ?_)
      refine z_iconst hE dL_law_254 ?_
      refine z_goto (tgt := 259) hE (d := dL_law_255) (ht := by decide) ?_
      refine z_istore hE (by decide) rfl dL_law_259 ?_
      refine z_goto (tgt := 735) hE (d := dL_law_261) (ht := by decide) ?_
      refine z_L (L' := [(4, .int (i32 1)), (5, .int (i32 k)), (0, .ref b), (1, .ref (ad 5 22)), (2, .ref (ad 6 27)), (3, .ref (ad 6 28))]) [0, 8, 9, 10, 11, 12] rfl ?_
      exact kk M210 fin
set_option maxHeartbeats 4000000 in
set_option maxRecDepth 100000 in
theorem lc_1 {E : zE} {l0 : Launch} {D0 : va_G} {cI0 cJ0 : ClassId} {ad : Nat → Nat → Nat} {S : zM} {b N : Nat} {xs : Nat → Int32} (hE : zG E l0 D0 cI0 cJ0 ad cL_law 21 RL 10 394) (hX : zX E b N xs) (jS : RJ S) (iS : Inv (S 0)) (pS : PJ (S 0) (S 6)) {k z m : Int} (bS : sp_all (S 0) ≤ 800 + 100 * k) (hk : 0 ≤ k ∧ k < 24) (hz : 0 ≤ z ∧ z ≤ 134217727) (hm : 0 ≤ m ∧ m < 4) (kk : ∀ X : zM, LK X (k + 1) → Z E X 735 [(4, .int (i32 1)), (5, .int (i32 k)), (0, .ref b), (1, .ref (ad 5 22)), (2, .ref (ad 6 27)), (3, .ref (ad 6 28))] []) : Z E S 264 [(9, .int (i32 (S 0 14))), (8, .int (i32 m)), (7, .int (i32 z)), (5, .int (i32 k)), (4, .int (i32 1)), (0, .ref b), (1, .ref (ad 5 22)), (2, .ref (ad 6 27)), (3, .ref (ad 6 28))] [] := by
  have aS := inA iS.1
  unfold InvA at aS
  have h4 := pS.1
  have hT := inT iS.1
  refine z_aload_n hE 6 rfl rfl dL_law_264 ?_
  refine z_iload hE 1 rfl dL_law_265 ?_
  refine z_iload hE 2 rfl dL_law_267 ?_
  refine z_iconst hE dL_law_269 ?_
  refine z_idiv hE ⟨by omega, by omega⟩ ⟨by omega, by omega⟩ (by omega) dL_law_270 ?_
  rw [zx_tdiv (show 0 ≤ z by omega)]
  refine z_ldc (a := 300000) hE zk_L_113 (by decide) dL_law_271 ?_
  refine z_irem hE ⟨by omega, by omega⟩ ⟨by omega, by omega⟩ (by omega) dL_law_273 ?_
  rw [zx_tdiv (show 0 ≤ z / 4 by omega)]
  obtain ⟨v, h_v⟩ : ∃ x : Int, x = (z / 4) - (z / 4) / 300000 * 300000 := ⟨_, rfl⟩
  rw [← h_v]
  have hv : 0 ≤ v ∧ v ≤ 1000000 := by omega
  obtain ⟨n1, n2, n3, n4, hn1, hn2, hn3, hn4, e1, e2, e3, e4, h01, h02, h03, h04⟩ := jS.2.2
  refine z_callVp hE (c_X7_setMilk l0 D0 cI0 cJ0 ad S m v 0 n1 n2 n3 n4 (by decide) hn1 hn2 hn3 hn4 jS.1 e1 e2 e3 e4 h04 jS.2.1 iS (⟨by omega, by omega⟩) (⟨by omega, by omega⟩)) (by decide) rfl rfl zm_L_25 zi_yX7_setMilk zs_yX7_setMilk zn_RX7 zc_yX7_setMilk (hy_X7_setMilk) (Nat.le_of_ble_eq_true rfl) (Nat.le_of_ble_eq_true rfl) rfl rfl rfl (Nat.le_of_ble_eq_true rfl) dL_law_274 (fun M274 hM274 => ?_)
  have pM274 := ap_act jS hn1 hn2 hn3 hn4 h01 h02 h03 h04 hM274
  have jM274 := pM274.1
  have iM274 := ap_inv pM274 (fun ok => inv_setMilk iS ok) iS
  have aM274 := inA iM274.1
  unfold InvA at aM274
  have ok : ok_setMilk (S 0) m v := ⟨⟨by omega, by omega⟩, by omega, by omega⟩
  have nx := pM274.2.2.1 ok
  have hms := inM iS.1 hm.1 (show m < 12 by omega)
  rw [show rv_setMilk ((S 0)) m v = S 0 (20 + 3 * m) from if_pos ok]
  have pj : PJ (M274 0) (M274 6) := by rw [pM274.2.1, nx]; exact pj_cg pS (by omega) (fun x hx => up_ne (by omega))
  have ya : sp_all (M274 0) = sp_all (S 0) := by rw [nx]; exact all_cg (up_ne (by omega)) (up_ne (by omega)) (fun x a c => up_ne (by omega))
  have fin : LK M274 (k + 1) := ⟨jM274, iM274, pj, by omega⟩
  refine z_if_lt (tgt := 284) hE dL_law_277 (by decide) ⟨by omega, by omega⟩ (fun c1 => ?_) (fun c1 => ?_)
  · exact by omega
  · refine z_iconst hE dL_law_280 ?_
    refine z_goto (tgt := 285) hE (d := dL_law_281) (ht := by decide) ?_
    refine z_istore hE (by decide) rfl dL_law_285 ?_
    refine z_goto (tgt := 735) hE (d := dL_law_287) (ht := by decide) ?_
    refine z_L (L' := [(4, .int (i32 1)), (5, .int (i32 k)), (0, .ref b), (1, .ref (ad 5 22)), (2, .ref (ad 6 27)), (3, .ref (ad 6 28))]) [0, 4, 5, 6, 7, 8] rfl ?_
    exact kk M274 fin
set_option maxHeartbeats 4000000 in
set_option maxRecDepth 100000 in
theorem lc_2 {E : zE} {l0 : Launch} {D0 : va_G} {cI0 cJ0 : ClassId} {ad : Nat → Nat → Nat} {S : zM} {b N : Nat} {xs : Nat → Int32} (hE : zG E l0 D0 cI0 cJ0 ad cL_law 21 RL 10 394) (hX : zX E b N xs) (jS : RJ S) (iS : Inv (S 0)) (pS : PJ (S 0) (S 6)) {k z m : Int} (bS : sp_all (S 0) ≤ 800 + 100 * k) (hk : 0 ≤ k ∧ k < 24) (hz : 0 ≤ z ∧ z ≤ 134217727) (hm : 0 ≤ m ∧ m < 4) (kk : ∀ X : zM, LK X (k + 1) → Z E X 735 [(4, .int (i32 1)), (5, .int (i32 k)), (0, .ref b), (1, .ref (ad 5 22)), (2, .ref (ad 6 27)), (3, .ref (ad 6 28))] []) : Z E S 290 [(9, .int (i32 (S 0 14))), (8, .int (i32 m)), (7, .int (i32 z)), (5, .int (i32 k)), (4, .int (i32 1)), (0, .ref b), (1, .ref (ad 5 22)), (2, .ref (ad 6 27)), (3, .ref (ad 6 28))] [] := by
  have aS := inA iS.1
  unfold InvA at aS
  have h4 := pS.1
  have hT := inT iS.1
  refine z_aload_n hE 6 rfl rfl dL_law_290 ?_
  refine z_bipush (a := 100) hE (by decide) dL_law_291 ?_
  refine z_iload hE 2 rfl dL_law_293 ?_
  refine z_sipush (a := 3000) hE (by decide) dL_law_295 ?_
  refine z_irem hE ⟨by omega, by omega⟩ ⟨by omega, by omega⟩ (by omega) dL_law_298 ?_
  rw [zx_tdiv (show 0 ≤ z by omega)]
  refine z_iadd hE dL_law_299 ?_
  obtain ⟨v, h_v⟩ : ∃ x : Int, x = 100 + (z - z / 3000 * 3000) := ⟨_, rfl⟩
  rw [← h_v]
  have hv : 100 ≤ v ∧ v ≤ 10000 := by omega
  obtain ⟨n1, n2, n3, n4, hn1, hn2, hn3, hn4, e1, e2, e3, e4, h01, h02, h03, h04⟩ := jS.2.2
  refine z_callVp hE (c_X7_setLitersPerShare l0 D0 cI0 cJ0 ad S v 0 n1 n2 n3 n4 (by decide) hn1 hn2 hn3 hn4 jS.1 e1 e2 e3 e4 h04 jS.2.1 iS (⟨by omega, by omega⟩)) (by decide) rfl rfl zm_L_114 zi_yX7_setLitersPerShare zs_yX7_setLitersPerShare zn_RX7 zc_yX7_setLitersPerShare (hy_X7_setLitersPerShare) (Nat.le_of_ble_eq_true rfl) (Nat.le_of_ble_eq_true rfl) rfl rfl rfl (Nat.le_of_ble_eq_true rfl) dL_law_300 (fun M300 hM300 => ?_)
  have pM300 := ap_act jS hn1 hn2 hn3 hn4 h01 h02 h03 h04 hM300
  have jM300 := pM300.1
  have iM300 := ap_inv pM300 (fun ok => inv_setLitersPerShare iS ok) iS
  have aM300 := inA iM300.1
  unfold InvA at aM300
  have ok : ok_setLitersPerShare v := ⟨by omega, by omega⟩
  have nx := pM300.2.2.1 ok
  rw [show rv_setLitersPerShare ((S 0)) v = S 0 1 from if_pos ok]
  have pj : PJ (M300 0) (M300 6) := by rw [pM300.2.1, nx]; exact pj_cg pS (by omega) (fun x hx => up_ne (by omega))
  have ya : sp_all (M300 0) = sp_all (S 0) := by rw [nx]; exact all_cg (up_ne (by omega)) (up_ne (by omega)) (fun x a c => up_ne (by omega))
  have fin : LK M300 (k + 1) := ⟨jM300, iM300, pj, by omega⟩
  refine z_bipush (a := 100) hE (by decide) dL_law_303 ?_
  refine z_icmp_lt (tgt := 312) hE dL_law_305 (by decide) ⟨by omega, by omega⟩ ⟨by omega, by omega⟩ (fun c1 => ?_) (fun c1 => ?_)
  · exact by omega
  · refine z_iconst hE dL_law_308 ?_
    refine z_goto (tgt := 313) hE (d := dL_law_309) (ht := by decide) ?_
    refine z_istore hE (by decide) rfl dL_law_313 ?_
    refine z_goto (tgt := 735) hE (d := dL_law_315) (ht := by decide) ?_
    refine z_L (L' := [(4, .int (i32 1)), (5, .int (i32 k)), (0, .ref b), (1, .ref (ad 5 22)), (2, .ref (ad 6 27)), (3, .ref (ad 6 28))]) [0, 4, 5, 6, 7, 8] rfl ?_
    exact kk M300 fin
set_option maxHeartbeats 4000000 in
set_option maxRecDepth 100000 in
theorem lc_3 {E : zE} {l0 : Launch} {D0 : va_G} {cI0 cJ0 : ClassId} {ad : Nat → Nat → Nat} {S : zM} {b N : Nat} {xs : Nat → Int32} (hE : zG E l0 D0 cI0 cJ0 ad cL_law 21 RL 10 394) (hX : zX E b N xs) (jS : RJ S) (iS : Inv (S 0)) (pS : PJ (S 0) (S 6)) {k z m : Int} (bS : sp_all (S 0) ≤ 800 + 100 * k) (hk : 0 ≤ k ∧ k < 24) (hz : 0 ≤ z ∧ z ≤ 134217727) (hm : 0 ≤ m ∧ m < 4) (kk : ∀ X : zM, LK X (k + 1) → Z E X 735 [(4, .int (i32 1)), (5, .int (i32 k)), (0, .ref b), (1, .ref (ad 5 22)), (2, .ref (ad 6 27)), (3, .ref (ad 6 28))] []) : Z E S 318 [(9, .int (i32 (S 0 14))), (8, .int (i32 m)), (7, .int (i32 z)), (5, .int (i32 k)), (4, .int (i32 1)), (0, .ref b), (1, .ref (ad 5 22)), (2, .ref (ad 6 27)), (3, .ref (ad 6 28))] [] := by
  have aS := inA iS.1
  unfold InvA at aS
  have h4 := pS.1
  have hT := inT iS.1
  refine z_aload_n hE 6 rfl rfl dL_law_318 ?_
  refine z_iload hE 2 rfl dL_law_319 ?_
  refine z_ldc (a := 100000) hE zk_L_117 (by decide) dL_law_321 ?_
  refine z_irem hE ⟨by omega, by omega⟩ ⟨by omega, by omega⟩ (by omega) dL_law_323 ?_
  rw [zx_tdiv (show 0 ≤ z by omega)]
  obtain ⟨v, h_v⟩ : ∃ x : Int, x = z - z / 100000 * 100000 := ⟨_, rfl⟩
  rw [← h_v]
  have hv : 0 ≤ v ∧ v ≤ 100000000 := by omega
  refine z_iload hE 2 rfl dL_law_324 ?_
  refine z_sipush (a := 128) hE (by decide) dL_law_326 ?_
  refine z_idiv hE ⟨by omega, by omega⟩ ⟨by omega, by omega⟩ (by omega) dL_law_329 ?_
  rw [zx_tdiv (show 0 ≤ z by omega)]
  refine z_sipush (a := 30000) hE (by decide) dL_law_330 ?_
  refine z_irem hE ⟨by omega, by omega⟩ ⟨by omega, by omega⟩ (by omega) dL_law_333 ?_
  rw [zx_tdiv (show 0 ≤ z / 128 by omega)]
  obtain ⟨u, h_u⟩ : ∃ x : Int, x = (z / 128) - (z / 128) / 30000 * 30000 := ⟨_, rfl⟩
  rw [← h_u]
  have hu : 0 ≤ u ∧ u ≤ 100000000 := by omega
  obtain ⟨n1, n2, n3, n4, hn1, hn2, hn3, hn4, e1, e2, e3, e4, h01, h02, h03, h04⟩ := jS.2.2
  refine z_callVp hE (c_X7_setBooks l0 D0 cI0 cJ0 ad S v u 0 n1 n2 n3 n4 (by decide) hn1 hn2 hn3 hn4 jS.1 e1 e2 e3 e4 h04 jS.2.1 iS (⟨by omega, by omega⟩) (⟨by omega, by omega⟩)) (by decide) rfl rfl zm_L_118 zi_yX7_setBooks zs_yX7_setBooks zn_RX7 zc_yX7_setBooks (hy_X7_setBooks) (Nat.le_of_ble_eq_true rfl) (Nat.le_of_ble_eq_true rfl) rfl rfl rfl (Nat.le_of_ble_eq_true rfl) dL_law_334 (fun M334 hM334 => ?_)
  have pM334 := ap_act jS hn1 hn2 hn3 hn4 h01 h02 h03 h04 hM334
  have jM334 := pM334.1
  have iM334 := ap_inv pM334 (fun ok => inv_setBooks iS ok) iS
  have aM334 := inA iM334.1
  unfold InvA at aM334
  have ok : ok_setBooks v u := ⟨⟨by omega, by omega⟩, by omega, by omega⟩
  have nx := pM334.2.2.1 ok
  rw [show rv_setBooks ((S 0)) v u = S 0 7 - S 0 8 from if_pos ok]
  have pj1 : PJ (M334 0) (M334 6) := by rw [pM334.2.1, nx]; exact pj_cg pS (by omega) (fun x hx => by unfold nx_setBooks; rw [up_ne (by omega), up_ne (by omega)])
  have ya1 : sp_all (M334 0) = sp_all (S 0) := by rw [nx]; unfold nx_setBooks; exact all_cg (by rw [up_ne (by omega), up_ne (by omega)]) (by rw [up_ne (by omega), up_ne (by omega)]) (fun x a c => by rw [up_ne (by omega), up_ne (by omega)])
  refine z_ldc (a := -100000000) hE zk_L_121 (by decide) dL_law_337 ?_
  refine z_icmp_lt (tgt := 371) hE dL_law_339 (by decide) ⟨by omega, by omega⟩ ⟨by omega, by omega⟩ (fun c1 => ?_) (fun c1 => ?_)
  · exact by omega
  · refine z_aload_n hE 6 rfl rfl dL_law_342 ?_
    refine z_iload hE 2 rfl dL_law_343 ?_
    refine z_sipush (a := 20001) hE (by decide) dL_law_345 ?_
    refine z_irem hE ⟨by omega, by omega⟩ ⟨by omega, by omega⟩ (by omega) dL_law_348 ?_
    rw [zx_tdiv (show 0 ≤ z by omega)]
    refine z_sipush (a := 10000) hE (by decide) dL_law_349 ?_
    refine z_isub hE dL_law_352 ?_
    obtain ⟨t, h_t⟩ : ∃ x : Int, x = (z - z / 20001 * 20001) - 10000 := ⟨_, rfl⟩
    rw [← h_t]
    have ht : -1000000 ≤ t ∧ t ≤ 1000000 := by omega
    obtain ⟨n1, n2, n3, n4, hn1, hn2, hn3, hn4, e1, e2, e3, e4, h01, h02, h03, h04⟩ := jM334.2.2
    refine z_callVp hE (c_X7_addSurplus l0 D0 cI0 cJ0 ad M334 t 0 n1 n2 n3 n4 (by decide) hn1 hn2 hn3 hn4 jM334.1 e1 e2 e3 e4 h04 jM334.2.1 iM334 (⟨by omega, by omega⟩)) (by decide) rfl rfl zm_L_122 zi_yX7_addSurplus zs_yX7_addSurplus zn_RX7 zc_yX7_addSurplus (hy_X7_addSurplus) (Nat.le_of_ble_eq_true rfl) (Nat.le_of_ble_eq_true rfl) rfl rfl rfl (Nat.le_of_ble_eq_true rfl) dL_law_353 (fun M353 hM353 => ?_)
    have pM353 := ap_act jM334 hn1 hn2 hn3 hn4 h01 h02 h03 h04 hM353
    have jM353 := pM353.1
    have iM353 := ap_inv pM353 (fun ok => inv_addSurplus iM334 ok) iM334
    have aM353 := inA iM353.1
    unfold InvA at aM353
    have ok2 : ok_addSurplus t := ⟨by omega, by omega⟩
    have nx2 := pM353.2.2.1 ok2
    have hr : 1 ≤ rv_addSurplus ((M334 0)) t ∧ rv_addSurplus ((M334 0)) t ≤ 3 := by rw [show rv_addSurplus ((M334 0)) t = (if 3 ≤ M334 0 9 then 3 else M334 0 9 + 1) from if_pos ok2]; split <;> omega
    obtain ⟨r, h_r⟩ : ∃ x : Int, x = rv_addSurplus ((M334 0)) t := ⟨_, rfl⟩
    rw [← h_r] at hr ⊢
    have pj2 : PJ (M353 0) (M353 6) := by rw [pM353.2.1, nx2]; exact pj_cg pj1 (by omega) (fun x hx => rec_ne (by omega) (by omega))
    have ya2 : sp_all (M353 0) = sp_all (M334 0) := by rw [nx2]; exact all_cg (rec_ne (by omega) (by omega)) (rec_ne (by omega) (by omega)) (fun x a c => rec_ne (by omega) (by omega))
    refine z_iconst hE dL_law_356 ?_
    refine z_icmp_lt (tgt := 371) hE dL_law_357 (by decide) ⟨by omega, by omega⟩ ⟨by omega, by omega⟩ (fun c2 => ?_) (fun c2 => ?_)
    · exact by omega
    · refine z_aload_n hE 6 rfl rfl dL_law_360 ?_
      refine z_callSp hE (c_L_valuates l0 D0 cI0 cJ0 ad M353 jM353 iM353) zm_L_125 zt_yL_valuates zn_RL zc_yL_valuates (hy_L_valuates) (Nat.le_of_ble_eq_true rfl) (Nat.le_of_ble_eq_true rfl) rfl rfl rfl (Nat.le_of_ble_eq_true rfl) dL_law_361 (fun M361 hM361 => ?_)
      have pM361 := hM361
      have jM361 := pM361.1
      have iM361 := ap_inv pM361 (fun ok => inv_valuate iM353 ok) iM353
      have aM361 := inA iM361.1
      unfold InvA at aM361
      rw [zbo_T]
      obtain ⟨pj3, ya3⟩ := lk_val pM361 iM353 pj2
      have fin : LK M361 (k + 1) := ⟨jM361, iM361, pj3, by omega⟩
      refine z_if_eq (tgt := 371) hE dL_law_364 (by decide) ⟨by omega, by omega⟩ (fun c3 => absurd c3 (by decide)) (fun c3 => ?_)
      refine z_iconst hE dL_law_367 ?_
      refine z_goto (tgt := 372) hE (d := dL_law_368) (ht := by decide) ?_
      refine z_istore hE (by decide) rfl dL_law_372 ?_
      refine z_goto (tgt := 735) hE (d := dL_law_374) (ht := by decide) ?_
      refine z_L (L' := [(4, .int (i32 1)), (5, .int (i32 k)), (0, .ref b), (1, .ref (ad 5 22)), (2, .ref (ad 6 27)), (3, .ref (ad 6 28))]) [0, 4, 5, 6, 7, 8] rfl ?_
      exact kk M361 fin
set_option maxHeartbeats 4000000 in
set_option maxRecDepth 100000 in
theorem lc_4 {E : zE} {l0 : Launch} {D0 : va_G} {cI0 cJ0 : ClassId} {ad : Nat → Nat → Nat} {S : zM} {b N : Nat} {xs : Nat → Int32} (hE : zG E l0 D0 cI0 cJ0 ad cL_law 21 RL 10 394) (hX : zX E b N xs) (jS : RJ S) (iS : Inv (S 0)) (pS : PJ (S 0) (S 6)) {k z m : Int} (bS : sp_all (S 0) ≤ 800 + 100 * k) (hk : 0 ≤ k ∧ k < 24) (hz : 0 ≤ z ∧ z ≤ 134217727) (hm : 0 ≤ m ∧ m < 4) (kk : ∀ X : zM, LK X (k + 1) → Z E X 735 [(4, .int (i32 1)), (5, .int (i32 k)), (0, .ref b), (1, .ref (ad 5 22)), (2, .ref (ad 6 27)), (3, .ref (ad 6 28))] []) : Z E S 377 [(9, .int (i32 (S 0 14))), (8, .int (i32 m)), (7, .int (i32 z)), (5, .int (i32 k)), (4, .int (i32 1)), (0, .ref b), (1, .ref (ad 5 22)), (2, .ref (ad 6 27)), (3, .ref (ad 6 28))] [] := by
  have aS := inA iS.1
  unfold InvA at aS
  have h4 := pS.1
  have hT := inT iS.1
  refine z_iload hE 0 rfl dL_law_377 ?_
  refine z_if_eq (tgt := 418) hE dL_law_379 (by decide) ⟨by omega, by omega⟩ (fun c1 => ?_) (fun c1 => ?_)
  · have fin : LK S (k + 1) := ⟨jS, iS, pS, by omega⟩
    refine z_iconst hE dL_law_418 ?_
    refine z_goto (tgt := 423) hE (d := dL_law_419) (ht := by decide) ?_
    refine z_istore hE (by decide) rfl dL_law_423 ?_
    refine z_goto (tgt := 735) hE (d := dL_law_425) (ht := by decide) ?_
    refine z_L (L' := [(4, .int (i32 1)), (5, .int (i32 k)), (0, .ref b), (1, .ref (ad 5 22)), (2, .ref (ad 6 27)), (3, .ref (ad 6 28))]) [0, 4, 5, 6, 7, 8] rfl ?_
    exact kk S fin
  · refine z_aload_n hE 6 rfl rfl dL_law_382 ?_
    refine z_iload hE 2 rfl dL_law_383 ?_
    refine z_iconst hE dL_law_385 ?_
    refine z_idiv hE ⟨by omega, by omega⟩ ⟨by omega, by omega⟩ (by omega) dL_law_386 ?_
    rw [zx_tdiv (show 0 ≤ z by omega)]
    refine z_iload hE 0 rfl dL_law_387 ?_
    refine z_irem hE ⟨by omega, by omega⟩ ⟨by omega, by omega⟩ (by omega) dL_law_389 ?_
    rw [zx_tdiv (show 0 ≤ z / 4 by omega)]
    obtain ⟨f, h_f⟩ : ∃ x : Int, x = (z / 4) - (z / 4) / (S 0 14) * (S 0 14) := ⟨_, rfl⟩
    have hf : 0 ≤ f ∧ f < S 0 14 := by rw [h_f]; exact mod_b (by omega) (by omega)
    rw [← h_f]
    refine z_iload hE 1 rfl dL_law_390 ?_
    refine z_aload_n hE 8 rfl rfl dL_law_392 ?_
    refine z_iload hE 2 rfl dL_law_393 ?_
    refine z_iconst hE dL_law_395 ?_
    refine z_idiv hE ⟨by omega, by omega⟩ ⟨by omega, by omega⟩ (by omega) dL_law_396 ?_
    rw [zx_tdiv (show 0 ≤ z by omega)]
    refine z_iload hE 0 rfl dL_law_397 ?_
    refine z_irem hE ⟨by omega, by omega⟩ ⟨by omega, by omega⟩ (by omega) dL_law_399 ?_
    rw [zx_tdiv (show 0 ≤ z / 4 by omega)]
    rw [← h_f]
    refine al_28 hE (by decide) (by omega) (by omega) dL_law_400 ?_
    have hpf := pS.2 f hf.1 hf.2
    have hof := inO iS.1 f hf.1 hf.2
    refine z_iconst hE dL_law_401 ?_
    refine z_iload hE 2 rfl dL_law_402 ?_
    refine z_sipush (a := 128) hE (by decide) dL_law_404 ?_
    refine z_idiv hE ⟨by omega, by omega⟩ ⟨by omega, by omega⟩ (by omega) dL_law_407 ?_
    rw [zx_tdiv (show 0 ≤ z by omega)]
    refine z_bipush (a := 40) hE (by decide) dL_law_408 ?_
    refine z_irem hE ⟨by omega, by omega⟩ ⟨by omega, by omega⟩ (by omega) dL_law_410 ?_
    rw [zx_tdiv (show 0 ≤ z / 128 by omega)]
    refine z_iadd hE dL_law_411 ?_
    refine z_callSp hE (c_L_claims l0 D0 cI0 cJ0 ad S f m (S 6 (200 + f)) (1 + ((z / 128) - (z / 128) / 40 * 40)) jS iS pS hf hm hpf.1 (⟨by omega, by omega⟩)) zm_L_129 zt_yL_claims zn_RL zc_yL_claims (hy_L_claims) (Nat.le_of_ble_eq_true rfl) (Nat.le_of_ble_eq_true rfl) rfl rfl rfl (Nat.le_of_ble_eq_true rfl) dL_law_412 (fun M412 hM412 => ?_)
    have pM412 := hM412
    have jM412 := pM412.1
    have iM412 := ap_inv pM412 (fun ok => inv_claim iS ok) iS
    have aM412 := inA iM412.1
    unfold InvA at aM412
    rw [zbo_T]
    obtain ⟨pj, ya⟩ := lk_claim pM412 iS pS
    have fin : LK M412 (k + 1) := ⟨jM412, iM412, pj, by omega⟩
    refine z_if_eq (tgt := 422) hE dL_law_415 (by decide) ⟨by omega, by omega⟩ (fun c2 => absurd c2 (by decide)) (fun c2 => ?_)
    refine z_iconst hE dL_law_418 ?_
    refine z_goto (tgt := 423) hE (d := dL_law_419) (ht := by decide) ?_
    refine z_istore hE (by decide) rfl dL_law_423 ?_
    refine z_goto (tgt := 735) hE (d := dL_law_425) (ht := by decide) ?_
    refine z_L (L' := [(4, .int (i32 1)), (5, .int (i32 k)), (0, .ref b), (1, .ref (ad 5 22)), (2, .ref (ad 6 27)), (3, .ref (ad 6 28))]) [0, 4, 5, 6, 7, 8] rfl ?_
    exact kk M412 fin
set_option maxHeartbeats 4000000 in
set_option maxRecDepth 100000 in
theorem lc_7 {E : zE} {l0 : Launch} {D0 : va_G} {cI0 cJ0 : ClassId} {ad : Nat → Nat → Nat} {S : zM} {b N : Nat} {xs : Nat → Int32} (hE : zG E l0 D0 cI0 cJ0 ad cL_law 21 RL 10 394) (hX : zX E b N xs) (jS : RJ S) (iS : Inv (S 0)) (pS : PJ (S 0) (S 6)) {k z m : Int} (bS : sp_all (S 0) ≤ 800 + 100 * k) (hk : 0 ≤ k ∧ k < 24) (hz : 0 ≤ z ∧ z ≤ 134217727) (hm : 0 ≤ m ∧ m < 4) (kk : ∀ X : zM, LK X (k + 1) → Z E X 735 [(4, .int (i32 1)), (5, .int (i32 k)), (0, .ref b), (1, .ref (ad 5 22)), (2, .ref (ad 6 27)), (3, .ref (ad 6 28))] []) : Z E S 428 [(9, .int (i32 (S 0 14))), (8, .int (i32 m)), (7, .int (i32 z)), (5, .int (i32 k)), (4, .int (i32 1)), (0, .ref b), (1, .ref (ad 5 22)), (2, .ref (ad 6 27)), (3, .ref (ad 6 28))] [] := by
  have aS := inA iS.1
  unfold InvA at aS
  have h4 := pS.1
  have hT := inT iS.1
  by_cases ok : S 0 14 = 0
  · refine z_iload hE 0 rfl dL_law_428 ?_
    refine z_if_ne (tgt := 438) hE dL_law_430 (by decide) ⟨by omega, by omega⟩ (fun c1 => ?_) (fun c1 => ?_)
    · exact by omega
    · refine z_ldc (a := -2000000001) hE zk_L_133 (by decide) dL_law_433 ?_
      refine z_goto (tgt := 469) hE (d := dL_law_435) (ht := by decide) ?_
      refine z_istore hE (by decide) rfl dL_law_469 ?_
      refine z_aload_n hE 7 rfl rfl dL_law_471 ?_
      refine z_iload hE 1 rfl dL_law_472 ?_
      refine z_if_ne (tgt := 481) hE dL_law_474 (by decide) ⟨by omega, by omega⟩ (fun c2 => ?_) (fun c2 => ?_)
      · exact by omega
      · refine z_iconst hE dL_law_477 ?_
        refine z_goto (tgt := 488) hE (d := dL_law_478) (ht := by decide) ?_
        obtain ⟨n1, n2, n3, n4, hn1, hn2, hn3, hn4, e1, e2, e3, e4, h01, h02, h03, h04⟩ := jS.2.2
        refine z_callVp hE (c_X7_withdraw l0 D0 cI0 cJ0 ad S 0 0 n1 n2 n3 n4 (by decide) hn1 hn2 hn3 hn4 jS.1 e1 e2 e3 e4 h04 jS.2.1 iS (⟨by omega, by omega⟩)) (by decide) rfl rfl zm_L_134 zi_yX7_withdraw zs_yX7_withdraw zn_RX7 zc_yX7_withdraw (hy_X7_withdraw) (Nat.le_of_ble_eq_true rfl) (Nat.le_of_ble_eq_true rfl) rfl rfl rfl (Nat.le_of_ble_eq_true rfl) dL_law_488 (fun M488 hM488 => ?_)
        have pM488 := ap_act jS hn1 hn2 hn3 hn4 h01 h02 h03 h04 hM488
        have jM488 := pM488.1
        have iM488 := ap_inv pM488 (fun ok => inv_withdraw iS ok) iS
        have aM488 := inA iM488.1
        unfold InvA at aM488
        rw [show rv_withdraw ((S 0)) 0 = (-2000000001) from if_neg (by omega)]
        obtain ⟨pj, ya⟩ := lk_withdraw pM488 iS pS
        have fin : LK M488 (k + 1) := ⟨jM488, iM488, pj, by omega⟩
        refine z_iload hE 0 rfl dL_law_491 ?_
        refine z_icmp_ne (tgt := 500) hE dL_law_493 (by decide) ⟨by omega, by omega⟩ ⟨by omega, by omega⟩ (fun c3 => ?_) (fun c3 => ?_)
        · exact by omega
        · refine z_iconst hE dL_law_496 ?_
          refine z_goto (tgt := 501) hE (d := dL_law_497) (ht := by decide) ?_
          refine z_istore hE (by decide) rfl dL_law_501 ?_
          refine z_goto (tgt := 735) hE (d := dL_law_503) (ht := by decide) ?_
          refine z_L (L' := [(4, .int (i32 1)), (5, .int (i32 k)), (0, .ref b), (1, .ref (ad 5 22)), (2, .ref (ad 6 27)), (3, .ref (ad 6 28))]) [0, 5, 6, 7, 8, 9] rfl ?_
          exact kk M488 fin
  · refine z_iload hE 0 rfl dL_law_428 ?_
    refine z_if_ne (tgt := 438) hE dL_law_430 (by decide) ⟨by omega, by omega⟩ (fun c4 => ?_) (fun c4 => ?_)
    · refine z_aload_n hE 6 rfl rfl dL_law_438 ?_
      refine z_iload hE 2 rfl dL_law_439 ?_
      refine z_iconst hE dL_law_441 ?_
      refine z_idiv hE ⟨by omega, by omega⟩ ⟨by omega, by omega⟩ (by omega) dL_law_442 ?_
      rw [zx_tdiv (show 0 ≤ z by omega)]
      refine z_iload hE 0 rfl dL_law_443 ?_
      refine z_irem hE ⟨by omega, by omega⟩ ⟨by omega, by omega⟩ (by omega) dL_law_445 ?_
      rw [zx_tdiv (show 0 ≤ z / 4 by omega)]
      obtain ⟨f, h_f⟩ : ∃ x : Int, x = (z / 4) - (z / 4) / (S 0 14) * (S 0 14) := ⟨_, rfl⟩
      have hf : 0 ≤ f ∧ f < S 0 14 := by rw [h_f]; exact mod_b (by omega) (by omega)
      rw [← h_f]
      refine z_callV hE (c_X7_stage l0 D0 cI0 cJ0 ad S f 0 (by decide) jS.1 iS (⟨by omega, by omega⟩)) (by decide) rfl rfl zm_L_38 zi_yX7_stage zs_yX7_stage zn_RX7 zc_yX7_stage (hy_X7_stage) (Nat.le_of_ble_eq_true rfl) (Nat.le_of_ble_eq_true rfl) rfl rfl rfl (Nat.le_of_ble_eq_true rfl) dL_law_446 ?_
      rw [show rv_stage ((S 0)) f = S 0 (59 + 22 * f) from if_pos (by omega)]
      have hof := inO iS.1 f hf.1 hf.2
      refine z_iconst hE dL_law_449 ?_
      refine z_icmp_ne (tgt := 458) hE dL_law_450 (by decide) ⟨by omega, by omega⟩ ⟨by omega, by omega⟩ (fun c5 => ?_) (fun c5 => ?_)
      · refine z_aload_n hE 6 rfl rfl dL_law_458 ?_
        refine z_iload hE 2 rfl dL_law_459 ?_
        refine z_iconst hE dL_law_461 ?_
        refine z_idiv hE ⟨by omega, by omega⟩ ⟨by omega, by omega⟩ (by omega) dL_law_462 ?_
        rw [zx_tdiv (show 0 ≤ z by omega)]
        refine z_iload hE 0 rfl dL_law_463 ?_
        refine z_irem hE ⟨by omega, by omega⟩ ⟨by omega, by omega⟩ (by omega) dL_law_465 ?_
        rw [zx_tdiv (show 0 ≤ z / 4 by omega)]
        rw [← h_f]
        refine z_callV hE (c_X7_remaining l0 D0 cI0 cJ0 ad S f 0 (by decide) jS.1 iS (⟨by omega, by omega⟩)) (by decide) rfl rfl zm_L_42 zi_yX7_remaining zs_yX7_remaining zn_RX7 zc_yX7_remaining (hy_X7_remaining) (Nat.le_of_ble_eq_true rfl) (Nat.le_of_ble_eq_true rfl) rfl rfl rfl (Nat.le_of_ble_eq_true rfl) dL_law_466 ?_
        rw [show rv_remaining ((S 0)) f = S 0 (57 + 22 * f) from if_pos (by omega)]
        refine z_istore hE (by decide) rfl dL_law_469 ?_
        refine z_aload_n hE 7 rfl rfl dL_law_471 ?_
        refine z_iload hE 1 rfl dL_law_472 ?_
        refine z_if_ne (tgt := 481) hE dL_law_474 (by decide) ⟨by omega, by omega⟩ (fun c6 => ?_) (fun c6 => ?_)
        · refine z_iload hE 3 rfl dL_law_481 ?_
          refine z_iconst hE dL_law_483 ?_
          refine z_idiv hE ⟨by omega, by omega⟩ ⟨by omega, by omega⟩ (by omega) dL_law_484 ?_
          rw [zx_tdiv (show 0 ≤ z by omega)]
          refine z_iload hE 1 rfl dL_law_485 ?_
          refine z_irem hE ⟨by omega, by omega⟩ ⟨by omega, by omega⟩ (by omega) dL_law_487 ?_
          rw [zx_tdiv (show 0 ≤ z / 4 by omega)]
          rw [← h_f]
          obtain ⟨n1, n2, n3, n4, hn1, hn2, hn3, hn4, e1, e2, e3, e4, h01, h02, h03, h04⟩ := jS.2.2
          refine z_callVp hE (c_X7_withdraw l0 D0 cI0 cJ0 ad S f 0 n1 n2 n3 n4 (by decide) hn1 hn2 hn3 hn4 jS.1 e1 e2 e3 e4 h04 jS.2.1 iS (⟨by omega, by omega⟩)) (by decide) rfl rfl zm_L_134 zi_yX7_withdraw zs_yX7_withdraw zn_RX7 zc_yX7_withdraw (hy_X7_withdraw) (Nat.le_of_ble_eq_true rfl) (Nat.le_of_ble_eq_true rfl) rfl rfl rfl (Nat.le_of_ble_eq_true rfl) dL_law_488 (fun M488 hM488 => ?_)
          have pM488 := ap_act jS hn1 hn2 hn3 hn4 h01 h02 h03 h04 hM488
          have jM488 := pM488.1
          have iM488 := ap_inv pM488 (fun ok => inv_withdraw iS ok) iS
          have aM488 := inA iM488.1
          unfold InvA at aM488
          rw [show rv_withdraw ((S 0)) f = S 0 (57 + 22 * f) from (if_pos (by omega)).trans (if_pos (by omega))]
          obtain ⟨pj, ya⟩ := lk_withdraw pM488 iS pS
          have fin : LK M488 (k + 1) := ⟨jM488, iM488, pj, by omega⟩
          refine z_iload hE 0 rfl dL_law_491 ?_
          refine z_icmp_ne (tgt := 500) hE dL_law_493 (by decide) ⟨by omega, by omega⟩ ⟨by omega, by omega⟩ (fun c7 => ?_) (fun c7 => ?_)
          · exact by omega
          · refine z_iconst hE dL_law_496 ?_
            refine z_goto (tgt := 501) hE (d := dL_law_497) (ht := by decide) ?_
            refine z_istore hE (by decide) rfl dL_law_501 ?_
            refine z_goto (tgt := 735) hE (d := dL_law_503) (ht := by decide) ?_
            refine z_L (L' := [(4, .int (i32 1)), (5, .int (i32 k)), (0, .ref b), (1, .ref (ad 5 22)), (2, .ref (ad 6 27)), (3, .ref (ad 6 28))]) [0, 5, 6, 7, 8, 9] rfl ?_
            exact kk M488 fin
        · exact by omega
      · refine z_ldc (a := -2000000002) hE zk_L_94 (by decide) dL_law_453 ?_
        refine z_goto (tgt := 469) hE (d := dL_law_455) (ht := by decide) ?_
        refine z_istore hE (by decide) rfl dL_law_469 ?_
        refine z_aload_n hE 7 rfl rfl dL_law_471 ?_
        refine z_iload hE 1 rfl dL_law_472 ?_
        refine z_if_ne (tgt := 481) hE dL_law_474 (by decide) ⟨by omega, by omega⟩ (fun c8 => ?_) (fun c8 => ?_)
        · refine z_iload hE 3 rfl dL_law_481 ?_
          refine z_iconst hE dL_law_483 ?_
          refine z_idiv hE ⟨by omega, by omega⟩ ⟨by omega, by omega⟩ (by omega) dL_law_484 ?_
          rw [zx_tdiv (show 0 ≤ z by omega)]
          refine z_iload hE 1 rfl dL_law_485 ?_
          refine z_irem hE ⟨by omega, by omega⟩ ⟨by omega, by omega⟩ (by omega) dL_law_487 ?_
          rw [zx_tdiv (show 0 ≤ z / 4 by omega)]
          rw [← h_f]
          obtain ⟨n1, n2, n3, n4, hn1, hn2, hn3, hn4, e1, e2, e3, e4, h01, h02, h03, h04⟩ := jS.2.2
          refine z_callVp hE (c_X7_withdraw l0 D0 cI0 cJ0 ad S f 0 n1 n2 n3 n4 (by decide) hn1 hn2 hn3 hn4 jS.1 e1 e2 e3 e4 h04 jS.2.1 iS (⟨by omega, by omega⟩)) (by decide) rfl rfl zm_L_134 zi_yX7_withdraw zs_yX7_withdraw zn_RX7 zc_yX7_withdraw (hy_X7_withdraw) (Nat.le_of_ble_eq_true rfl) (Nat.le_of_ble_eq_true rfl) rfl rfl rfl (Nat.le_of_ble_eq_true rfl) dL_law_488 (fun M488 hM488 => ?_)
          have pM488 := ap_act jS hn1 hn2 hn3 hn4 h01 h02 h03 h04 hM488
          have jM488 := pM488.1
          have iM488 := ap_inv pM488 (fun ok => inv_withdraw iS ok) iS
          have aM488 := inA iM488.1
          unfold InvA at aM488
          rw [show rv_withdraw ((S 0)) f = (-2000000002) from (if_pos (by omega)).trans (if_neg (by omega))]
          obtain ⟨pj, ya⟩ := lk_withdraw pM488 iS pS
          have fin : LK M488 (k + 1) := ⟨jM488, iM488, pj, by omega⟩
          refine z_iload hE 0 rfl dL_law_491 ?_
          refine z_icmp_ne (tgt := 500) hE dL_law_493 (by decide) ⟨by omega, by omega⟩ ⟨by omega, by omega⟩ (fun c9 => ?_) (fun c9 => ?_)
          · exact by omega
          · refine z_iconst hE dL_law_496 ?_
            refine z_goto (tgt := 501) hE (d := dL_law_497) (ht := by decide) ?_
            refine z_istore hE (by decide) rfl dL_law_501 ?_
            refine z_goto (tgt := 735) hE (d := dL_law_503) (ht := by decide) ?_
            refine z_L (L' := [(4, .int (i32 1)), (5, .int (i32 k)), (0, .ref b), (1, .ref (ad 5 22)), (2, .ref (ad 6 27)), (3, .ref (ad 6 28))]) [0, 5, 6, 7, 8, 9] rfl ?_
            exact kk M488 fin
        · exact by omega
    · exact by omega
set_option maxHeartbeats 4000000 in
set_option maxRecDepth 100000 in
theorem lc_8 {E : zE} {l0 : Launch} {D0 : va_G} {cI0 cJ0 : ClassId} {ad : Nat → Nat → Nat} {S : zM} {b N : Nat} {xs : Nat → Int32} (hE : zG E l0 D0 cI0 cJ0 ad cL_law 21 RL 10 394) (hX : zX E b N xs) (jS : RJ S) (iS : Inv (S 0)) (pS : PJ (S 0) (S 6)) {k z m : Int} (bS : sp_all (S 0) ≤ 800 + 100 * k) (hk : 0 ≤ k ∧ k < 24) (hz : 0 ≤ z ∧ z ≤ 134217727) (hm : 0 ≤ m ∧ m < 4) (kk : ∀ X : zM, LK X (k + 1) → Z E X 735 [(4, .int (i32 1)), (5, .int (i32 k)), (0, .ref b), (1, .ref (ad 5 22)), (2, .ref (ad 6 27)), (3, .ref (ad 6 28))] []) : Z E S 506 [(9, .int (i32 (S 0 14))), (8, .int (i32 m)), (7, .int (i32 z)), (5, .int (i32 k)), (4, .int (i32 1)), (0, .ref b), (1, .ref (ad 5 22)), (2, .ref (ad 6 27)), (3, .ref (ad 6 28))] [] := by
  have aS := inA iS.1
  unfold InvA at aS
  have h4 := pS.1
  have hT := inT iS.1
  refine z_aload_n hE 6 rfl rfl dL_law_506 ?_
  refine z_iload hE 2 rfl dL_law_507 ?_
  refine z_bipush (a := 100) hE (by decide) dL_law_509 ?_
  refine z_irem hE ⟨by omega, by omega⟩ ⟨by omega, by omega⟩ (by omega) dL_law_511 ?_
  rw [zx_tdiv (show 0 ≤ z by omega)]
  obtain ⟨v, h_v⟩ : ∃ x : Int, x = z - z / 100 * 100 := ⟨_, rfl⟩
  rw [← h_v]
  have hv : 0 ≤ v ∧ v ≤ 1000 := by omega
  obtain ⟨n1, n2, n3, n4, hn1, hn2, hn3, hn4, e1, e2, e3, e4, h01, h02, h03, h04⟩ := jS.2.2
  refine z_callVp hE (c_X7_setTreasuryLimit l0 D0 cI0 cJ0 ad S v 0 n1 n2 n3 n4 (by decide) hn1 hn2 hn3 hn4 jS.1 e1 e2 e3 e4 h04 jS.2.1 iS (⟨by omega, by omega⟩)) (by decide) rfl rfl zm_L_137 zi_yX7_setTreasuryLimit zs_yX7_setTreasuryLimit zn_RX7 zc_yX7_setTreasuryLimit (hy_X7_setTreasuryLimit) (Nat.le_of_ble_eq_true rfl) (Nat.le_of_ble_eq_true rfl) rfl rfl rfl (Nat.le_of_ble_eq_true rfl) dL_law_512 (fun M512 hM512 => ?_)
  have pM512 := ap_act jS hn1 hn2 hn3 hn4 h01 h02 h03 h04 hM512
  have jM512 := pM512.1
  have iM512 := ap_inv pM512 (fun ok => inv_setTreasuryLimit iS ok) iS
  have aM512 := inA iM512.1
  unfold InvA at aM512
  have ok : ok_setTreasuryLimit v := ⟨by omega, by omega⟩
  have nx := pM512.2.2.1 ok
  rw [show rv_setTreasuryLimit ((S 0)) v = S 0 3 from if_pos ok]
  have pj : PJ (M512 0) (M512 6) := by rw [pM512.2.1, nx]; exact pj_cg pS (by omega) (fun x hx => up_ne (by omega))
  have ya : sp_all (M512 0) = sp_all (S 0) := by rw [nx]; exact all_cg (up_ne (by omega)) (up_ne (by omega)) (fun x a c => up_ne (by omega))
  have fin : LK M512 (k + 1) := ⟨jM512, iM512, pj, by omega⟩
  refine z_if_lt (tgt := 522) hE dL_law_515 (by decide) ⟨by omega, by omega⟩ (fun c1 => ?_) (fun c1 => ?_)
  · exact by omega
  · refine z_iconst hE dL_law_518 ?_
    refine z_goto (tgt := 523) hE (d := dL_law_519) (ht := by decide) ?_
    refine z_istore hE (by decide) rfl dL_law_523 ?_
    refine z_goto (tgt := 735) hE (d := dL_law_525) (ht := by decide) ?_
    refine z_L (L' := [(4, .int (i32 1)), (5, .int (i32 k)), (0, .ref b), (1, .ref (ad 5 22)), (2, .ref (ad 6 27)), (3, .ref (ad 6 28))]) [0, 4, 5, 6, 7, 8] rfl ?_
    exact kk M512 fin
set_option maxHeartbeats 4000000 in
set_option maxRecDepth 100000 in
theorem lc_9 {E : zE} {l0 : Launch} {D0 : va_G} {cI0 cJ0 : ClassId} {ad : Nat → Nat → Nat} {S : zM} {b N : Nat} {xs : Nat → Int32} (hE : zG E l0 D0 cI0 cJ0 ad cL_law 21 RL 10 394) (hX : zX E b N xs) (jS : RJ S) (iS : Inv (S 0)) (pS : PJ (S 0) (S 6)) {k z m : Int} (bS : sp_all (S 0) ≤ 800 + 100 * k) (hk : 0 ≤ k ∧ k < 24) (hz : 0 ≤ z ∧ z ≤ 134217727) (hm : 0 ≤ m ∧ m < 4) (kk : ∀ X : zM, LK X (k + 1) → Z E X 735 [(4, .int (i32 1)), (5, .int (i32 k)), (0, .ref b), (1, .ref (ad 5 22)), (2, .ref (ad 6 27)), (3, .ref (ad 6 28))] []) : Z E S 528 [(9, .int (i32 (S 0 14))), (8, .int (i32 m)), (7, .int (i32 z)), (5, .int (i32 k)), (4, .int (i32 1)), (0, .ref b), (1, .ref (ad 5 22)), (2, .ref (ad 6 27)), (3, .ref (ad 6 28))] [] := by
  have aS := inA iS.1
  unfold InvA at aS
  have h4 := pS.1
  have hT := inT iS.1
  refine z_aload_n hE 6 rfl rfl dL_law_528 ?_
  refine z_iconst hE dL_law_529 ?_
  refine z_iload hE 2 rfl dL_law_530 ?_
  refine z_iconst hE dL_law_532 ?_
  refine z_irem hE ⟨by omega, by omega⟩ ⟨by omega, by omega⟩ (by omega) dL_law_533 ?_
  rw [zx_tdiv (show 0 ≤ z by omega)]
  refine z_iadd hE dL_law_534 ?_
  refine z_callSp hE (c_L_passes l0 D0 cI0 cJ0 ad S (1 + (z - z / 4 * 4)) jS iS (⟨by omega, by omega⟩)) zm_L_140 zt_yL_passes zn_RL zc_yL_passes (hy_L_passes) (Nat.le_of_ble_eq_true rfl) (Nat.le_of_ble_eq_true rfl) rfl rfl rfl (Nat.le_of_ble_eq_true rfl) dL_law_535 (fun M535 hM535 => ?_)
  have pM535 := hM535
  have jM535 := pM535.1
  have iM535 := ap_inv pM535 (fun ok => inv_passDays iS ok) iS
  have aM535 := inA iM535.1
  unfold InvA at aM535
  rw [zbo_T]
  obtain ⟨pj, ya⟩ := lk_days pM535 iS pS
  have fin : LK M535 (k + 1) := ⟨jM535, iM535, pj, by omega⟩
  refine z_istore hE (by decide) rfl dL_law_538 ?_
  refine z_goto (tgt := 735) hE (d := dL_law_540) (ht := by decide) ?_
  refine z_L (L' := [(4, .int (i32 1)), (5, .int (i32 k)), (0, .ref b), (1, .ref (ad 5 22)), (2, .ref (ad 6 27)), (3, .ref (ad 6 28))]) [0, 4, 5, 6, 7, 8] rfl ?_
  exact kk M535 fin
set_option maxHeartbeats 4000000 in
set_option maxRecDepth 100000 in
theorem lc_12 {E : zE} {l0 : Launch} {D0 : va_G} {cI0 cJ0 : ClassId} {ad : Nat → Nat → Nat} {S : zM} {b N : Nat} {xs : Nat → Int32} (hE : zG E l0 D0 cI0 cJ0 ad cL_law 21 RL 10 394) (hX : zX E b N xs) (jS : RJ S) (iS : Inv (S 0)) (pS : PJ (S 0) (S 6)) {k z m : Int} (bS : sp_all (S 0) ≤ 800 + 100 * k) (hk : 0 ≤ k ∧ k < 24) (hz : 0 ≤ z ∧ z ≤ 134217727) (hm : 0 ≤ m ∧ m < 4) (kk : ∀ X : zM, LK X (k + 1) → Z E X 735 [(4, .int (i32 1)), (5, .int (i32 k)), (0, .ref b), (1, .ref (ad 5 22)), (2, .ref (ad 6 27)), (3, .ref (ad 6 28))] []) : Z E S 543 [(9, .int (i32 (S 0 14))), (8, .int (i32 m)), (7, .int (i32 z)), (5, .int (i32 k)), (4, .int (i32 1)), (0, .ref b), (1, .ref (ad 5 22)), (2, .ref (ad 6 27)), (3, .ref (ad 6 28))] [] := by
  have aS := inA iS.1
  unfold InvA at aS
  have h4 := pS.1
  have hT := inT iS.1
  refine z_bipush (a := 50) hE (by decide) dL_law_543 ?_
  refine z_iload hE 2 rfl dL_law_545 ?_
  refine z_bipush (a := 16) hE (by decide) dL_law_547 ?_
  refine z_idiv hE ⟨by omega, by omega⟩ ⟨by omega, by omega⟩ (by omega) dL_law_549 ?_
  rw [zx_tdiv (show 0 ≤ z by omega)]
  refine z_sipush (a := 200) hE (by decide) dL_law_550 ?_
  refine z_irem hE ⟨by omega, by omega⟩ ⟨by omega, by omega⟩ (by omega) dL_law_553 ?_
  rw [zx_tdiv (show 0 ≤ z / 16 by omega)]
  refine z_iadd hE dL_law_554 ?_
  obtain ⟨pr, h_pr⟩ : ∃ x : Int, x = 50 + ((z / 16) - (z / 16) / 200 * 200) := ⟨_, rfl⟩
  rw [← h_pr]
  have hpr : 50 ≤ pr ∧ pr ≤ 249 := by omega
  refine z_istore hE (by decide) rfl dL_law_555 ?_
  refine z_iconst hE dL_law_557 ?_
  refine z_iload hE 3 rfl dL_law_558 ?_
  refine z_sipush (a := 4096) hE (by decide) dL_law_560 ?_
  refine z_idiv hE ⟨by omega, by omega⟩ ⟨by omega, by omega⟩ (by omega) dL_law_563 ?_
  rw [zx_tdiv (show 0 ≤ z by omega)]
  refine z_bipush (a := 30) hE (by decide) dL_law_564 ?_
  refine z_irem hE ⟨by omega, by omega⟩ ⟨by omega, by omega⟩ (by omega) dL_law_566 ?_
  rw [zx_tdiv (show 0 ≤ z / 4096 by omega)]
  refine z_iadd hE dL_law_567 ?_
  obtain ⟨w, h_w⟩ : ∃ x : Int, x = 1 + ((z / 4096) - (z / 4096) / 30 * 30) := ⟨_, rfl⟩
  rw [← h_w]
  have hw : 1 ≤ w ∧ w ≤ 30 := by omega
  refine z_istore hE (by decide) rfl dL_law_568 ?_
  refine z_aload_n hE 8 rfl rfl dL_law_570 ?_
  refine z_iload hE 3 rfl dL_law_571 ?_
  refine z_callV hE (c_X7_freeShares l0 D0 cI0 cJ0 ad S m 0 (by decide) jS.1 iS (⟨by omega, by omega⟩)) (by decide) rfl rfl zm_L_70 zi_yX7_freeShares zs_yX7_freeShares zn_RX7 zc_yX7_freeShares (hy_X7_freeShares) (Nat.le_of_ble_eq_true rfl) (Nat.le_of_ble_eq_true rfl) rfl rfl rfl (Nat.le_of_ble_eq_true rfl) dL_law_573 ?_
  rw [show rv_freeShares ((S 0)) m = sp_free (S 0) m from if_pos (by omega)]
  have hfb0 := free_b iS.1 (m := m) (by omega) (by omega)
  refine z_istore hE (by decide) rfl dL_law_576 ?_
  refine z_aload_n hE 9 rfl rfl dL_law_578 ?_
  refine z_iload hE 4 rfl dL_law_579 ?_
  refine z_iload hE 4 rfl dL_law_581 ?_
  refine z_iconst hE dL_law_583 ?_
  refine z_iadd hE dL_law_584 ?_
  refine z_iload hE 5 rfl dL_law_585 ?_
  refine z_iconst hE dL_law_587 ?_
  refine z_idiv hE ⟨by omega, by omega⟩ ⟨by omega, by omega⟩ (by omega) dL_law_588 ?_
  rw [zx_tdiv (show 0 ≤ z by omega)]
  refine z_iconst hE dL_law_589 ?_
  refine z_irem hE ⟨by omega, by omega⟩ ⟨by omega, by omega⟩ (by omega) dL_law_590 ?_
  rw [zx_tdiv (show 0 ≤ z / 4 by omega)]
  refine z_iadd hE dL_law_591 ?_
  refine z_iconst hE dL_law_592 ?_
  refine z_irem hE ⟨by omega, by omega⟩ ⟨by omega, by omega⟩ (by omega) dL_law_593 ?_
  rw [zx_tdiv (show 0 ≤ (m + 1) + ((z / 4) - (z / 4) / 3 * 3) by omega)]
  obtain ⟨bu, h_bu⟩ : ∃ x : Int, x = ((m + 1) + ((z / 4) - (z / 4) / 3 * 3)) - ((m + 1) + ((z / 4) - (z / 4) / 3 * 3)) / 4 * 4 := ⟨_, rfl⟩
  rw [← h_bu]
  have hbu : (0 ≤ bu ∧ bu < 4) ∧ m ≠ bu := by omega
  refine z_iload hE 1 rfl dL_law_594 ?_
  refine z_iload hE 2 rfl dL_law_596 ?_
  obtain ⟨n1, n2, n3, n4, hn1, hn2, hn3, hn4, e1, e2, e3, e4, h01, h02, h03, h04⟩ := jS.2.2
  refine z_callVp hE (c_X7_offer l0 D0 cI0 cJ0 ad S m bu w pr 0 n1 n2 n3 n4 (by decide) hn1 hn2 hn3 hn4 jS.1 e1 e2 e3 e4 h04 jS.2.1 iS (⟨by omega, by omega⟩) (⟨by omega, by omega⟩) (⟨by omega, by omega⟩) (⟨by omega, by omega⟩)) (by decide) rfl rfl zm_L_144 zi_yX7_offer zs_yX7_offer zn_RX7 zc_yX7_offer (hy_X7_offer) (Nat.le_of_ble_eq_true rfl) (Nat.le_of_ble_eq_true rfl) rfl rfl rfl (Nat.le_of_ble_eq_true rfl) dL_law_598 (fun M598 hM598 => ?_)
  have pM598 := ap_act jS hn1 hn2 hn3 hn4 h01 h02 h03 h04 hM598
  have jM598 := pM598.1
  have iM598 := ap_inv pM598 (fun ok => inv_offer iS ok) iS
  have aM598 := inA iM598.1
  unfold InvA at aM598
  have o1 : o1_offer (S 0) m bu w pr := ⟨⟨⟨by omega, by omega⟩, ⟨by omega, by omega⟩, by omega⟩, ⟨by omega, by omega⟩, by omega, by omega⟩
  by_cases o2 : (w ≤ sp_free (S 0) m ∧ S 0 5 ≤ pr)
  · by_cases o3 : S 0 14 < 20
    · have ok : ok_offer (S 0) m bu w pr := ⟨o1, o2, o3⟩
      have nx := pM598.2.2.1 ok
      obtain ⟨q1, q2, q3, q4, q5⟩ := pj_offer pS iS ok
      rw [← nx] at q1 q2 q3 q4 q5
      have x5 : M598 0 5 = S 0 5 := by rw [nx]; unfold sp_offer; rw [begin_ne (by omega) (by omega) (by omega) (by omega), up_ne (by omega), up_ne (by omega), up_ne (by omega), up_ne (by omega), up_ne (by omega)]
      rw [show rv_offer ((S 0)) m bu w pr = S 0 14 from (if_pos o1).trans ((if_pos o2).trans (if_pos o3))]
      refine z_istore hE (by decide) rfl dL_law_601 ?_
      refine z_iload hE 2 rfl dL_law_603 ?_
      refine z_iload hE 1 rfl dL_law_605 ?_
      refine z_icmp_gt (tgt := 623) hE dL_law_607 (by decide) ⟨by omega, by omega⟩ ⟨by omega, by omega⟩ (fun c1 => ?_) (fun c1 => ?_)
      · exact by omega
      · refine z_iload hE 3 rfl dL_law_610 ?_
        refine z_aload_n hE 10 rfl rfl dL_law_612 ?_
        refine z_callV hE (c_X7_parValue l0 D0 cI0 cJ0 ad M598 0 (by decide) jM598.1 iM598) (by decide) rfl rfl zm_L_98 zi_yX7_parValue zs_yX7_parValue zn_RX7 zc_yX7_parValue (hy_X7_parValue) (Nat.le_of_ble_eq_true rfl) (Nat.le_of_ble_eq_true rfl) rfl rfl rfl (Nat.le_of_ble_eq_true rfl) dL_law_613 ?_
        refine z_icmp_lt (tgt := 623) hE dL_law_616 (by decide) ⟨by omega, by omega⟩ ⟨by omega, by omega⟩ (fun c2 => ?_) (fun c2 => ?_)
        · exact by omega
        · refine z_iconst hE dL_law_619 ?_
          refine z_goto (tgt := 624) hE (d := dL_law_620) (ht := by decide) ?_
          refine z_istore hE (by decide) rfl dL_law_624 ?_
          refine z_iload hE 1 rfl dL_law_626 ?_
          refine z_iload hE 0 rfl dL_law_628 ?_
          refine z_if_ne (tgt := 638) hE dL_law_630 (by decide) ⟨by omega, by omega⟩ (fun c3 => ?_) (fun c3 => absurd c3 (by decide))
          refine z_iload hE 5 rfl dL_law_638 ?_
          refine z_bipush (a := 20) hE (by decide) dL_law_640 ?_
          refine z_icmp_ne (tgt := 650) hE dL_law_642 (by decide) ⟨by omega, by omega⟩ ⟨by omega, by omega⟩ (fun c4 => ?_) (fun c4 => ?_)
          · refine z_iload hE 5 rfl dL_law_650 ?_
            refine z_icmp_ne (tgt := 680) hE dL_law_652 (by decide) ⟨by omega, by omega⟩ ⟨by omega, by omega⟩ (fun c5 => ?_) (fun c5 => ?_)
            · exact by omega
            · refine z_aload_n hE 11 rfl rfl dL_law_655 ?_
              refine z_callV hE (c_X7_offerCount l0 D0 cI0 cJ0 ad M598 0 (by decide) jM598.1 iM598) (by decide) rfl rfl zm_L_58 zi_yX7_offerCount zs_yX7_offerCount zn_RX7 zc_yX7_offerCount (hy_X7_offerCount) (Nat.le_of_ble_eq_true rfl) (Nat.le_of_ble_eq_true rfl) rfl rfl rfl (Nat.le_of_ble_eq_true rfl) dL_law_656 ?_
              refine z_iload hE 1 rfl dL_law_659 ?_
              refine z_if_lt (tgt := 671) hE dL_law_661 (by decide) ⟨by omega, by omega⟩ (fun c6 => ?_) (fun c6 => ?_)
              · exact by omega
              · refine z_iload hE 5 rfl dL_law_664 ?_
                refine z_iconst hE dL_law_666 ?_
                refine z_iadd hE dL_law_667 ?_
                refine z_goto (tgt := 673) hE (d := dL_law_668) (ht := by decide) ?_
                refine z_icmp_ne (tgt := 680) hE dL_law_673 (by decide) ⟨by omega, by omega⟩ ⟨by omega, by omega⟩ (fun c7 => ?_) (fun c7 => ?_)
                · exact by omega
                · refine z_iconst hE dL_law_676 ?_
                  refine z_goto (tgt := 681) hE (d := dL_law_677) (ht := by decide) ?_
                  refine z_istore hE (by decide) rfl dL_law_681 ?_
                  refine z_iload hE 2 rfl dL_law_683 ?_
                  refine z_if_lt (tgt := 735) hE dL_law_685 (by decide) ⟨by omega, by omega⟩ (fun c8 => ?_) (fun c8 => ?_)
                  · exact by omega
                  · refine z_aload_n hE 12 rfl rfl dL_law_688 ?_
                    refine z_iload hE 6 rfl dL_law_689 ?_
                    refine z_iload hE 4 rfl dL_law_691 ?_
                    refine as_27 hE (by decide) (by omega) (by omega) dL_law_693 ?_
                    refine z_aload_n hE 13 rfl rfl dL_law_694 ?_
                    refine z_iload hE 6 rfl dL_law_695 ?_
                    refine z_iload hE 7 rfl dL_law_697 ?_
                    refine as_28 hE (by decide) (by omega) (by omega) dL_law_699 ?_
                    try simp only [us_eq, us_us]
                    obtain ⟨X2, hX2⟩ : ∃ X : zM, X = (us M598 6 (up (up (M598 6) (100 + (S 0 14)) w) (200 + (S 0 14)) m)) := ⟨_, rfl⟩
                    rw [← hX2]
                    have k0 : X2 0 = M598 0 := by rw [hX2]; exact us_ne (by omega)
                    have k5 : X2 5 = M598 5 := by rw [hX2]; exact us_ne (by omega)
                    have k6 : X2 6 = up (up (S 6) (100 + S 0 14) w) (200 + S 0 14) m := by rw [hX2, us_eq, pM598.2.1]
                    have jX2 : RJ X2 := by unfold RJ; rw [k5]; exact jM598
                    have iX2 : Inv (X2 0) := by rw [k0]; exact iM598
                    rw [← k0] at q1 q2 q3 q4 q5
                    rw [← k6] at q1
                    have h4X := q1.1
                    have hfb := free_b iX2.1 (m := m) (by omega) (by omega)
                    have hfb2 := free_b iS.1 (m := m) (by omega) (by omega)
                    have fin : LK X2 (k + 1) := ⟨jX2, iX2, q1, by omega⟩
                    refine z_iload hE 0 rfl dL_law_700 ?_
                    refine z_if_eq (tgt := 732) hE dL_law_702 (by decide) ⟨by omega, by omega⟩ (fun c9 => absurd c9 (by decide)) (fun c9 => ?_)
                    refine z_aload_n hE 11 rfl rfl dL_law_705 ?_
                    refine z_iload hE 7 rfl dL_law_706 ?_
                    refine z_callV hE (c_X7_freeShares l0 D0 cI0 cJ0 ad X2 m 0 (by decide) jX2.1 iX2 (⟨by omega, by omega⟩)) (by decide) rfl rfl zm_L_70 zi_yX7_freeShares zs_yX7_freeShares zn_RX7 zc_yX7_freeShares (hy_X7_freeShares) (Nat.le_of_ble_eq_true rfl) (Nat.le_of_ble_eq_true rfl) rfl rfl rfl (Nat.le_of_ble_eq_true rfl) dL_law_708 ?_
                    rw [show rv_freeShares ((X2 0)) m = sp_free (X2 0) m from if_pos (by omega)]
                    refine z_iload hE 3 rfl dL_law_711 ?_
                    refine z_iload hE 4 rfl dL_law_713 ?_
                    refine z_isub hE dL_law_715 ?_
                    refine z_icmp_ne (tgt := 732) hE dL_law_716 (by decide) ⟨by omega, by omega⟩ ⟨by omega, by omega⟩ (fun c10 => ?_) (fun c10 => ?_)
                    · exact by omega
                    · refine z_aload_n hE 11 rfl rfl dL_law_719 ?_
                      refine z_iload hE 6 rfl dL_law_720 ?_
                      refine z_callV hE (c_X7_stage l0 D0 cI0 cJ0 ad X2 (S 0 14) 0 (by decide) jX2.1 iX2 (⟨by omega, by omega⟩)) (by decide) rfl rfl zm_L_38 zi_yX7_stage zs_yX7_stage zn_RX7 zc_yX7_stage (hy_X7_stage) (Nat.le_of_ble_eq_true rfl) (Nat.le_of_ble_eq_true rfl) rfl rfl rfl (Nat.le_of_ble_eq_true rfl) dL_law_722 ?_
                      rw [show rv_stage ((X2 0)) (S 0 14) = X2 0 (59 + 22 * (S 0 14)) from if_pos (by omega)]
                      refine z_if_ne (tgt := 732) hE dL_law_725 (by decide) ⟨by omega, by omega⟩ (fun c11 => ?_) (fun c11 => ?_)
                      · exact by omega
                      · refine z_iconst hE dL_law_728 ?_
                        refine z_goto (tgt := 733) hE (d := dL_law_729) (ht := by decide) ?_
                        refine z_istore hE (by decide) rfl dL_law_733 ?_
                        refine z_L (L' := [(4, .int (i32 1)), (5, .int (i32 k)), (0, .ref b), (1, .ref (ad 5 22)), (2, .ref (ad 6 27)), (3, .ref (ad 6 28))]) [0, 9, 10, 11, 12, 13] rfl ?_
                        exact kk X2 fin
          · exact by omega
    · have eM : M598 = S := pM598.2.2.2 (fun q => o3 q.2.2)
      have x14 : M598 0 14 = S 0 14 ∧ M598 0 5 = S 0 5 := by rw [eM]; exact ⟨rfl, rfl⟩
      have fin : LK M598 (k + 1) := by rw [eM]; exact ⟨jS, iS, pS, by omega⟩
      rw [show rv_offer ((S 0)) m bu w pr = -2000000003 from (if_pos o1).trans ((if_pos o2).trans (if_neg o3))]
      refine z_istore hE (by decide) rfl dL_law_601 ?_
      refine z_iload hE 2 rfl dL_law_603 ?_
      refine z_iload hE 1 rfl dL_law_605 ?_
      refine z_icmp_gt (tgt := 623) hE dL_law_607 (by decide) ⟨by omega, by omega⟩ ⟨by omega, by omega⟩ (fun c12 => ?_) (fun c12 => ?_)
      · exact by omega
      · refine z_iload hE 3 rfl dL_law_610 ?_
        refine z_aload_n hE 10 rfl rfl dL_law_612 ?_
        refine z_callV hE (c_X7_parValue l0 D0 cI0 cJ0 ad M598 0 (by decide) jM598.1 iM598) (by decide) rfl rfl zm_L_98 zi_yX7_parValue zs_yX7_parValue zn_RX7 zc_yX7_parValue (hy_X7_parValue) (Nat.le_of_ble_eq_true rfl) (Nat.le_of_ble_eq_true rfl) rfl rfl rfl (Nat.le_of_ble_eq_true rfl) dL_law_613 ?_
        refine z_icmp_lt (tgt := 623) hE dL_law_616 (by decide) ⟨by omega, by omega⟩ ⟨by omega, by omega⟩ (fun c13 => ?_) (fun c13 => ?_)
        · exact by omega
        · refine z_iconst hE dL_law_619 ?_
          refine z_goto (tgt := 624) hE (d := dL_law_620) (ht := by decide) ?_
          refine z_istore hE (by decide) rfl dL_law_624 ?_
          refine z_iload hE 1 rfl dL_law_626 ?_
          refine z_iload hE 0 rfl dL_law_628 ?_
          refine z_if_ne (tgt := 638) hE dL_law_630 (by decide) ⟨by omega, by omega⟩ (fun c14 => ?_) (fun c14 => absurd c14 (by decide))
          refine z_iload hE 5 rfl dL_law_638 ?_
          refine z_bipush (a := 20) hE (by decide) dL_law_640 ?_
          refine z_icmp_ne (tgt := 650) hE dL_law_642 (by decide) ⟨by omega, by omega⟩ ⟨by omega, by omega⟩ (fun c15 => ?_) (fun c15 => ?_)
          · exact by omega
          · refine z_ldc (a := -2000000003) hE zk_L_148 (by decide) dL_law_645 ?_
            refine z_goto (tgt := 652) hE (d := dL_law_647) (ht := by decide) ?_
            refine z_icmp_ne (tgt := 680) hE dL_law_652 (by decide) ⟨by omega, by omega⟩ ⟨by omega, by omega⟩ (fun c16 => ?_) (fun c16 => ?_)
            · exact by omega
            · refine z_aload_n hE 11 rfl rfl dL_law_655 ?_
              refine z_callV hE (c_X7_offerCount l0 D0 cI0 cJ0 ad M598 0 (by decide) jM598.1 iM598) (by decide) rfl rfl zm_L_58 zi_yX7_offerCount zs_yX7_offerCount zn_RX7 zc_yX7_offerCount (hy_X7_offerCount) (Nat.le_of_ble_eq_true rfl) (Nat.le_of_ble_eq_true rfl) rfl rfl rfl (Nat.le_of_ble_eq_true rfl) dL_law_656 ?_
              refine z_iload hE 1 rfl dL_law_659 ?_
              refine z_if_lt (tgt := 671) hE dL_law_661 (by decide) ⟨by omega, by omega⟩ (fun c17 => ?_) (fun c17 => ?_)
              · refine z_iload hE 5 rfl dL_law_671 ?_
                refine z_icmp_ne (tgt := 680) hE dL_law_673 (by decide) ⟨by omega, by omega⟩ ⟨by omega, by omega⟩ (fun c18 => ?_) (fun c18 => ?_)
                · exact by omega
                · refine z_iconst hE dL_law_676 ?_
                  refine z_goto (tgt := 681) hE (d := dL_law_677) (ht := by decide) ?_
                  refine z_istore hE (by decide) rfl dL_law_681 ?_
                  refine z_iload hE 2 rfl dL_law_683 ?_
                  refine z_if_lt (tgt := 735) hE dL_law_685 (by decide) ⟨by omega, by omega⟩ (fun c19 => ?_) (fun c19 => ?_)
                  · refine z_L (L' := [(4, .int (i32 1)), (5, .int (i32 k)), (0, .ref b), (1, .ref (ad 5 22)), (2, .ref (ad 6 27)), (3, .ref (ad 6 28))]) [0, 9, 10, 11, 12, 13] rfl ?_
                    exact kk M598 fin
                  · exact by omega
              · exact by omega
  · have eM : M598 = S := pM598.2.2.2 (fun q => o2 q.2.1)
    have x14 : M598 0 14 = S 0 14 ∧ M598 0 5 = S 0 5 := by rw [eM]; exact ⟨rfl, rfl⟩
    have fin : LK M598 (k + 1) := by rw [eM]; exact ⟨jS, iS, pS, by omega⟩
    rw [show rv_offer ((S 0)) m bu w pr = -2000000002 from (if_pos o1).trans (if_neg o2)]
    refine z_istore hE (by decide) rfl dL_law_601 ?_
    refine z_iload hE 2 rfl dL_law_603 ?_
    refine z_iload hE 1 rfl dL_law_605 ?_
    refine z_icmp_gt (tgt := 623) hE dL_law_607 (by decide) ⟨by omega, by omega⟩ ⟨by omega, by omega⟩ (fun c20 => ?_) (fun c20 => ?_)
    · refine z_iconst hE dL_law_623 ?_
      refine z_istore hE (by decide) rfl dL_law_624 ?_
      refine z_iload hE 1 rfl dL_law_626 ?_
      refine z_iload hE 0 rfl dL_law_628 ?_
      refine z_if_ne (tgt := 638) hE dL_law_630 (by decide) ⟨by omega, by omega⟩ (fun c21 => absurd rfl c21) (fun c21 => ?_)
      refine z_ldc (a := -2000000002) hE zk_L_94 (by decide) dL_law_633 ?_
      refine z_goto (tgt := 652) hE (d := dL_law_635) (ht := by decide) ?_
      refine z_icmp_ne (tgt := 680) hE dL_law_652 (by decide) ⟨by omega, by omega⟩ ⟨by omega, by omega⟩ (fun c22 => ?_) (fun c22 => ?_)
      · exact by omega
      · refine z_aload_n hE 11 rfl rfl dL_law_655 ?_
        refine z_callV hE (c_X7_offerCount l0 D0 cI0 cJ0 ad M598 0 (by decide) jM598.1 iM598) (by decide) rfl rfl zm_L_58 zi_yX7_offerCount zs_yX7_offerCount zn_RX7 zc_yX7_offerCount (hy_X7_offerCount) (Nat.le_of_ble_eq_true rfl) (Nat.le_of_ble_eq_true rfl) rfl rfl rfl (Nat.le_of_ble_eq_true rfl) dL_law_656 ?_
        refine z_iload hE 1 rfl dL_law_659 ?_
        refine z_if_lt (tgt := 671) hE dL_law_661 (by decide) ⟨by omega, by omega⟩ (fun c23 => ?_) (fun c23 => ?_)
        · refine z_iload hE 5 rfl dL_law_671 ?_
          refine z_icmp_ne (tgt := 680) hE dL_law_673 (by decide) ⟨by omega, by omega⟩ ⟨by omega, by omega⟩ (fun c24 => ?_) (fun c24 => ?_)
          · exact by omega
          · refine z_iconst hE dL_law_676 ?_
            refine z_goto (tgt := 681) hE (d := dL_law_677) (ht := by decide) ?_
            refine z_istore hE (by decide) rfl dL_law_681 ?_
            refine z_iload hE 2 rfl dL_law_683 ?_
            refine z_if_lt (tgt := 735) hE dL_law_685 (by decide) ⟨by omega, by omega⟩ (fun c25 => ?_) (fun c25 => ?_)
            · refine z_L (L' := [(4, .int (i32 1)), (5, .int (i32 k)), (0, .ref b), (1, .ref (ad 5 22)), (2, .ref (ad 6 27)), (3, .ref (ad 6 28))]) [0, 9, 10, 11, 12, 13] rfl ?_
              exact kk M598 fin
            · exact by omega
        · exact by omega
    · refine z_iload hE 3 rfl dL_law_610 ?_
      refine z_aload_n hE 10 rfl rfl dL_law_612 ?_
      refine z_callV hE (c_X7_parValue l0 D0 cI0 cJ0 ad M598 0 (by decide) jM598.1 iM598) (by decide) rfl rfl zm_L_98 zi_yX7_parValue zs_yX7_parValue zn_RX7 zc_yX7_parValue (hy_X7_parValue) (Nat.le_of_ble_eq_true rfl) (Nat.le_of_ble_eq_true rfl) rfl rfl rfl (Nat.le_of_ble_eq_true rfl) dL_law_613 ?_
      refine z_icmp_lt (tgt := 623) hE dL_law_616 (by decide) ⟨by omega, by omega⟩ ⟨by omega, by omega⟩ (fun c26 => ?_) (fun c26 => ?_)
      · refine z_iconst hE dL_law_623 ?_
        refine z_istore hE (by decide) rfl dL_law_624 ?_
        refine z_iload hE 1 rfl dL_law_626 ?_
        refine z_iload hE 0 rfl dL_law_628 ?_
        refine z_if_ne (tgt := 638) hE dL_law_630 (by decide) ⟨by omega, by omega⟩ (fun c27 => absurd rfl c27) (fun c27 => ?_)
        refine z_ldc (a := -2000000002) hE zk_L_94 (by decide) dL_law_633 ?_
        refine z_goto (tgt := 652) hE (d := dL_law_635) (ht := by decide) ?_
        refine z_icmp_ne (tgt := 680) hE dL_law_652 (by decide) ⟨by omega, by omega⟩ ⟨by omega, by omega⟩ (fun c28 => ?_) (fun c28 => ?_)
        · exact by omega
        · refine z_aload_n hE 11 rfl rfl dL_law_655 ?_
          refine z_callV hE (c_X7_offerCount l0 D0 cI0 cJ0 ad M598 0 (by decide) jM598.1 iM598) (by decide) rfl rfl zm_L_58 zi_yX7_offerCount zs_yX7_offerCount zn_RX7 zc_yX7_offerCount (hy_X7_offerCount) (Nat.le_of_ble_eq_true rfl) (Nat.le_of_ble_eq_true rfl) rfl rfl rfl (Nat.le_of_ble_eq_true rfl) dL_law_656 ?_
          refine z_iload hE 1 rfl dL_law_659 ?_
          refine z_if_lt (tgt := 671) hE dL_law_661 (by decide) ⟨by omega, by omega⟩ (fun c29 => ?_) (fun c29 => ?_)
          · refine z_iload hE 5 rfl dL_law_671 ?_
            refine z_icmp_ne (tgt := 680) hE dL_law_673 (by decide) ⟨by omega, by omega⟩ ⟨by omega, by omega⟩ (fun c30 => ?_) (fun c30 => ?_)
            · exact by omega
            · refine z_iconst hE dL_law_676 ?_
              refine z_goto (tgt := 681) hE (d := dL_law_677) (ht := by decide) ?_
              refine z_istore hE (by decide) rfl dL_law_681 ?_
              refine z_iload hE 2 rfl dL_law_683 ?_
              refine z_if_lt (tgt := 735) hE dL_law_685 (by decide) ⟨by omega, by omega⟩ (fun c31 => ?_) (fun c31 => ?_)
              · refine z_L (L' := [(4, .int (i32 1)), (5, .int (i32 k)), (0, .ref b), (1, .ref (ad 5 22)), (2, .ref (ad 6 27)), (3, .ref (ad 6 28))]) [0, 9, 10, 11, 12, 13] rfl ?_
                exact kk M598 fin
              · exact by omega
          · exact by omega
      · exact by omega
set_option maxHeartbeats 4000000 in
set_option maxRecDepth 100000 in
theorem lc_tail {E : zE} {l0 : Launch} {D0 : va_G} {cI0 cJ0 : ClassId} {ad : Nat → Nat → Nat} {S : zM} {b N : Nat} {xs : Nat → Int32} (hE : zG E l0 D0 cI0 cJ0 ad cL_law 21 RL 10 394) (hX : zX E b N xs) {k : Int} (hk : 0 ≤ k ∧ k < 24) (hL : LK S (k + 1)) (kk : Z E S 64 [(5, .int (i32 (k + 1))), (4, .int (i32 1)), (0, .ref b), (1, .ref (ad 5 22)), (2, .ref (ad 6 27)), (3, .ref (ad 6 28))] []) : Z E S 735 [(4, .int (i32 1)), (5, .int (i32 k)), (0, .ref b), (1, .ref (ad 5 22)), (2, .ref (ad 6 27)), (3, .ref (ad 6 28))] [] := by
  obtain ⟨jS, iS, pS, bS⟩ := hL
  have aS := inA iS.1
  unfold InvA at aS
  refine z_iload hE 0 rfl dL_law_735 ?_
  refine z_if_eq (tgt := 760) hE dL_law_737 (by decide) ⟨by omega, by omega⟩ (fun c1 => absurd c1 (by decide)) (fun c1 => ?_)
  refine z_iload hE 1 rfl dL_law_740 ?_
  refine z_iconst hE dL_law_742 ?_
  refine z_irem hE ⟨by omega, by omega⟩ ⟨by omega, by omega⟩ (by omega) dL_law_743 ?_
  rw [zx_tdiv (show 0 ≤ k by omega)]
  refine z_if_eq (tgt := 756) hE dL_law_744 (by decide) ⟨by omega, by omega⟩ (fun c2 => ?_) (fun c2 => ?_)
  · refine z_iconst hE dL_law_756 ?_
    refine z_goto (tgt := 761) hE (d := dL_law_757) (ht := by decide) ?_
    refine z_istore hE (by decide) rfl dL_law_761 ?_
    refine z_iinc hE 1 rfl (by decide) rfl dL_law_763 ?_
    refine z_goto (tgt := 64) hE (d := dL_law_766) (ht := by decide) ?_
    refine z_L (L' := [(5, .int (i32 (k + 1))), (4, .int (i32 1)), (0, .ref b), (1, .ref (ad 5 22)), (2, .ref (ad 6 27)), (3, .ref (ad 6 28))]) [0, 1, 2, 3, 4, 5] rfl ?_
    exact kk
  · refine z_aload_n hE 3 rfl rfl dL_law_747 ?_
    refine z_aload_n hE 4 rfl rfl dL_law_748 ?_
    refine z_aload_n hE 5 rfl rfl dL_law_749 ?_
    refine z_callS hE (c_L_holds l0 D0 cI0 cJ0 ad S jS iS pS) zm_L_109 zt_yL_holds zn_RL zc_yL_holds (hy_L_holds) (Nat.le_of_ble_eq_true rfl) (Nat.le_of_ble_eq_true rfl) rfl rfl rfl (Nat.le_of_ble_eq_true rfl) dL_law_750 ?_
    rw [zbo_T]
    refine z_if_eq (tgt := 760) hE dL_law_753 (by decide) ⟨by omega, by omega⟩ (fun c3 => absurd c3 (by decide)) (fun c3 => ?_)
    refine z_iconst hE dL_law_756 ?_
    refine z_goto (tgt := 761) hE (d := dL_law_757) (ht := by decide) ?_
    refine z_istore hE (by decide) rfl dL_law_761 ?_
    refine z_iinc hE 1 rfl (by decide) rfl dL_law_763 ?_
    refine z_goto (tgt := 64) hE (d := dL_law_766) (ht := by decide) ?_
    refine z_L (L' := [(5, .int (i32 (k + 1))), (4, .int (i32 1)), (0, .ref b), (1, .ref (ad 5 22)), (2, .ref (ad 6 27)), (3, .ref (ad 6 28))]) [0, 1, 2, 3, 4, 5] rfl ?_
    exact kk
set_option maxHeartbeats 4000000 in
set_option maxRecDepth 100000 in
theorem lc_end {E : zE} {l0 : Launch} {D0 : va_G} {cI0 cJ0 : ClassId} {ad : Nat → Nat → Nat} {S : zM} {b N : Nat} {xs : Nat → Int32} (hE : zG E l0 D0 cI0 cJ0 ad cL_law 21 RL 10 394) (hX : zX E b N xs) {k : Int} (hL : LK S k) (kk : ∀ X : zM, Z E X 910 [] [.int (i32 1)]) : Z E S 769 [(5, .int (i32 k)), (4, .int (i32 1)), (0, .ref b), (1, .ref (ad 5 22)), (2, .ref (ad 6 27)), (3, .ref (ad 6 28))] [] := by
  obtain ⟨jS, iS, pS, bS⟩ := hL
  have aS := inA iS.1
  unfold InvA at aS
  have h4 := pS.1
  have hst0 := jS.2.1
  refine z_aload_n hE 3 rfl rfl dL_law_769 ?_
  refine z_callV hE (c_X7_historySize l0 D0 cI0 cJ0 ad S) (by decide) rfl rfl zm_L_149 zi_yX7_historySize zs_yX7_historySize zn_RX7 zc_yX7_historySize (hy_X7_historySize) (Nat.le_of_ble_eq_true rfl) (Nat.le_of_ble_eq_true rfl) rfl rfl rfl (Nat.le_of_ble_eq_true rfl) dL_law_770 ?_
  refine z_istore hE (by decide) rfl dL_law_773 ?_
  refine z_iload hE 1 rfl dL_law_775 ?_
  refine z_if_eq (tgt := 853) hE dL_law_777 (by decide) ⟨by omega, by omega⟩ (fun c1 => absurd c1 (by decide)) (fun c1 => ?_)
  refine z_aload_n hE 3 rfl rfl dL_law_780 ?_
  refine z_iconst hE dL_law_781 ?_
  refine z_iconst hE dL_law_782 ?_
  obtain ⟨n1, n2, n3, n4, hn1, hn2, hn3, hn4, e1, e2, e3, e4, h01, h02, h03, h04⟩ := jS.2.2
  refine z_callVp hE (c_X7_issue l0 D0 cI0 cJ0 ad S 4 1 0 n1 n2 n3 n4 (by decide) hn1 hn2 hn3 hn4 jS.1 e1 e2 e3 e4 h04 jS.2.1 iS (⟨by omega, by omega⟩) (⟨by omega, by omega⟩)) (by decide) rfl rfl zm_L_20 zi_yX7_issue zs_yX7_issue zn_RX7 zc_yX7_issue (hy_X7_issue) (Nat.le_of_ble_eq_true rfl) (Nat.le_of_ble_eq_true rfl) rfl rfl rfl (Nat.le_of_ble_eq_true rfl) dL_law_783 (fun M783 hM783 => ?_)
  have pM783 := ap_act jS hn1 hn2 hn3 hn4 h01 h02 h03 h04 hM783
  have jM783 := pM783.1
  have iM783 := ap_inv pM783 (fun ok => inv_issue iS ok) iS
  have aM783 := inA iM783.1
  unfold InvA at aM783
  have eM783 : M783 = S := pM783.2.2.2 (fun q => by have q := q.1.1; omega)
  rw [eM783]
  rw [show rv_issue ((S 0)) 4 1 = -2000000001 from if_neg (by omega)]
  refine z_ldc (a := -2000000001) hE zk_L_133 (by decide) dL_law_786 ?_
  refine z_icmp_ne (tgt := 853) hE dL_law_788 (by decide) ⟨by omega, by omega⟩ ⟨by omega, by omega⟩ (fun c2 => ?_) (fun c2 => ?_)
  · exact by omega
  · refine z_aload_n hE 3 rfl rfl dL_law_791 ?_
    refine z_iconst hE dL_law_792 ?_
    refine z_iconst hE dL_law_793 ?_
    obtain ⟨n1, n2, n3, n4, hn1, hn2, hn3, hn4, e1, e2, e3, e4, h01, h02, h03, h04⟩ := jS.2.2
    refine z_callVp hE (c_X7_issue l0 D0 cI0 cJ0 ad S 0 0 0 n1 n2 n3 n4 (by decide) hn1 hn2 hn3 hn4 jS.1 e1 e2 e3 e4 h04 jS.2.1 iS (⟨by omega, by omega⟩) (⟨by omega, by omega⟩)) (by decide) rfl rfl zm_L_20 zi_yX7_issue zs_yX7_issue zn_RX7 zc_yX7_issue (hy_X7_issue) (Nat.le_of_ble_eq_true rfl) (Nat.le_of_ble_eq_true rfl) rfl rfl rfl (Nat.le_of_ble_eq_true rfl) dL_law_794 (fun M794 hM794 => ?_)
    have pM794 := ap_act jS hn1 hn2 hn3 hn4 h01 h02 h03 h04 hM794
    have jM794 := pM794.1
    have iM794 := ap_inv pM794 (fun ok => inv_issue iS ok) iS
    have aM794 := inA iM794.1
    unfold InvA at aM794
    have eM794 : M794 = S := pM794.2.2.2 (fun q => by have q := q.1.2; omega)
    rw [eM794]
    rw [show rv_issue ((S 0)) 0 0 = -2000000001 from if_neg (by omega)]
    refine z_ldc (a := -2000000001) hE zk_L_133 (by decide) dL_law_797 ?_
    refine z_icmp_ne (tgt := 853) hE dL_law_799 (by decide) ⟨by omega, by omega⟩ ⟨by omega, by omega⟩ (fun c3 => ?_) (fun c3 => ?_)
    · exact by omega
    · refine z_aload_n hE 3 rfl rfl dL_law_802 ?_
      refine z_iconst hE dL_law_803 ?_
      refine z_iconst hE dL_law_804 ?_
      refine z_iconst hE dL_law_805 ?_
      refine z_bipush (a := 100) hE (by decide) dL_law_806 ?_
      obtain ⟨n1, n2, n3, n4, hn1, hn2, hn3, hn4, e1, e2, e3, e4, h01, h02, h03, h04⟩ := jS.2.2
      refine z_callVp hE (c_X7_offer l0 D0 cI0 cJ0 ad S 0 0 1 100 0 n1 n2 n3 n4 (by decide) hn1 hn2 hn3 hn4 jS.1 e1 e2 e3 e4 h04 jS.2.1 iS (⟨by omega, by omega⟩) (⟨by omega, by omega⟩) (⟨by omega, by omega⟩) (⟨by omega, by omega⟩)) (by decide) rfl rfl zm_L_144 zi_yX7_offer zs_yX7_offer zn_RX7 zc_yX7_offer (hy_X7_offer) (Nat.le_of_ble_eq_true rfl) (Nat.le_of_ble_eq_true rfl) rfl rfl rfl (Nat.le_of_ble_eq_true rfl) dL_law_808 (fun M808 hM808 => ?_)
      have pM808 := ap_act jS hn1 hn2 hn3 hn4 h01 h02 h03 h04 hM808
      have jM808 := pM808.1
      have iM808 := ap_inv pM808 (fun ok => inv_offer iS ok) iS
      have aM808 := inA iM808.1
      unfold InvA at aM808
      have eM808 : M808 = S := pM808.2.2.2 (fun q => by have q := q.1.1; omega)
      rw [eM808]
      rw [show rv_offer ((S 0)) 0 0 1 100 = -2000000001 from if_neg (by omega)]
      refine z_ldc (a := -2000000001) hE zk_L_133 (by decide) dL_law_811 ?_
      refine z_icmp_ne (tgt := 853) hE dL_law_813 (by decide) ⟨by omega, by omega⟩ ⟨by omega, by omega⟩ (fun c4 => ?_) (fun c4 => ?_)
      · exact by omega
      · refine z_aload_n hE 3 rfl rfl dL_law_816 ?_
        refine z_bipush (a := 20) hE (by decide) dL_law_817 ?_
        refine z_iconst hE dL_law_819 ?_
        refine z_iconst hE dL_law_820 ?_
        obtain ⟨n1, n2, n3, n4, hn1, hn2, hn3, hn4, e1, e2, e3, e4, h01, h02, h03, h04⟩ := jS.2.2
        refine z_callVp hE (c_X7_claim l0 D0 cI0 cJ0 ad S 20 0 1 0 n1 n2 n3 n4 (by decide) hn1 hn2 hn3 hn4 jS.1 e1 e2 e3 e4 h04 jS.2.1 iS (⟨by omega, by omega⟩) (⟨by omega, by omega⟩) (⟨by omega, by omega⟩)) (by decide) rfl rfl zm_L_90 zi_yX7_claim zs_yX7_claim zn_RX7 zc_yX7_claim (hy_X7_claim) (Nat.le_of_ble_eq_true rfl) (Nat.le_of_ble_eq_true rfl) rfl rfl rfl (Nat.le_of_ble_eq_true rfl) dL_law_821 (fun M821 hM821 => ?_)
        have pM821 := ap_act jS hn1 hn2 hn3 hn4 h01 h02 h03 h04 hM821
        have jM821 := pM821.1
        have iM821 := ap_inv pM821 (fun ok => inv_claim iS ok) iS
        have aM821 := inA iM821.1
        unfold InvA at aM821
        have eM821 : M821 = S := pM821.2.2.2 (fun q => by have q := q.1.1; omega)
        rw [eM821]
        rw [show rv_claim ((S 0)) 20 0 1 = -2000000001 from if_neg (by omega)]
        refine z_ldc (a := -2000000001) hE zk_L_133 (by decide) dL_law_824 ?_
        refine z_icmp_ne (tgt := 853) hE dL_law_826 (by decide) ⟨by omega, by omega⟩ ⟨by omega, by omega⟩ (fun c5 => ?_) (fun c5 => ?_)
        · exact by omega
        · refine z_aload_n hE 3 rfl rfl dL_law_829 ?_
          refine z_iconst hE dL_law_830 ?_
          obtain ⟨n1, n2, n3, n4, hn1, hn2, hn3, hn4, e1, e2, e3, e4, h01, h02, h03, h04⟩ := jS.2.2
          refine z_callVp hE (c_X7_passDays l0 D0 cI0 cJ0 ad S 0 0 n1 n2 n3 n4 (by decide) hn1 hn2 hn3 hn4 jS.1 e1 e2 e3 e4 h04 jS.2.1 iS (⟨by omega, by omega⟩)) (by decide) rfl rfl zm_L_87 zi_yX7_passDays zs_yX7_passDays zn_RX7 zc_yX7_passDays (hy_X7_passDays) (Nat.le_of_ble_eq_true rfl) (Nat.le_of_ble_eq_true rfl) rfl rfl rfl (Nat.le_of_ble_eq_true rfl) dL_law_831 (fun M831 hM831 => ?_)
          have pM831 := ap_days jS hn1 hn2 hn3 hn4 h01 h02 h03 h04 hM831
          have jM831 := pM831.1
          have iM831 := ap_inv pM831 (fun ok => inv_passDays iS ok) iS
          have aM831 := inA iM831.1
          unfold InvA at aM831
          have eM831 : M831 = S := pM831.2.2.2 (fun q => by have q := q.1; omega)
          rw [eM831]
          rw [show rv_passDays ((S 0)) 0 = -2000000001 from if_neg (by omega)]
          refine z_ldc (a := -2000000001) hE zk_L_133 (by decide) dL_law_834 ?_
          refine z_icmp_ne (tgt := 853) hE dL_law_836 (by decide) ⟨by omega, by omega⟩ ⟨by omega, by omega⟩ (fun c6 => ?_) (fun c6 => ?_)
          · exact by omega
          · refine z_aload_n hE 3 rfl rfl dL_law_839 ?_
            refine z_iconst hE dL_law_840 ?_
            obtain ⟨n1, n2, n3, n4, hn1, hn2, hn3, hn4, e1, e2, e3, e4, h01, h02, h03, h04⟩ := jS.2.2
            refine z_callVp hE (c_X7_withdraw l0 D0 cI0 cJ0 ad S ((-1)) 0 n1 n2 n3 n4 (by decide) hn1 hn2 hn3 hn4 jS.1 e1 e2 e3 e4 h04 jS.2.1 iS (⟨by omega, by omega⟩)) (by decide) rfl rfl zm_L_134 zi_yX7_withdraw zs_yX7_withdraw zn_RX7 zc_yX7_withdraw (hy_X7_withdraw) (Nat.le_of_ble_eq_true rfl) (Nat.le_of_ble_eq_true rfl) rfl rfl rfl (Nat.le_of_ble_eq_true rfl) dL_law_841 (fun M841 hM841 => ?_)
            have pM841 := ap_act jS hn1 hn2 hn3 hn4 h01 h02 h03 h04 hM841
            have jM841 := pM841.1
            have iM841 := ap_inv pM841 (fun ok => inv_withdraw iS ok) iS
            have aM841 := inA iM841.1
            unfold InvA at aM841
            have eM841 : M841 = S := pM841.2.2.2 (fun q => by have q := q.1; omega)
            rw [eM841]
            rw [show rv_withdraw ((S 0)) ((-1)) = -2000000001 from if_neg (by omega)]
            refine z_ldc (a := -2000000001) hE zk_L_133 (by decide) dL_law_844 ?_
            refine z_icmp_ne (tgt := 853) hE dL_law_846 (by decide) ⟨by omega, by omega⟩ ⟨by omega, by omega⟩ (fun c7 => ?_) (fun c7 => ?_)
            · exact by omega
            · refine z_iconst hE dL_law_849 ?_
              refine z_goto (tgt := 854) hE (d := dL_law_850) (ht := by decide) ?_
              refine z_istore hE (by decide) rfl dL_law_854 ?_
              refine z_iload hE 0 rfl dL_law_856 ?_
              refine z_if_eq (tgt := 909) hE dL_law_858 (by decide) ⟨by omega, by omega⟩ (fun c8 => absurd c8 (by decide)) (fun c8 => ?_)
              refine z_aload_n hE 3 rfl rfl dL_law_861 ?_
              refine z_callV hE (c_X7_historySize l0 D0 cI0 cJ0 ad S) (by decide) rfl rfl zm_L_149 zi_yX7_historySize zs_yX7_historySize zn_RX7 zc_yX7_historySize (hy_X7_historySize) (Nat.le_of_ble_eq_true rfl) (Nat.le_of_ble_eq_true rfl) rfl rfl rfl (Nat.le_of_ble_eq_true rfl) dL_law_862 ?_
              refine z_iload hE 1 rfl dL_law_865 ?_
              refine z_icmp_ne (tgt := 909) hE dL_law_867 (by decide) ⟨by omega, by omega⟩ ⟨by omega, by omega⟩ (fun c9 => ?_) (fun c9 => ?_)
              · exact by omega
              · refine z_aload_n hE 3 rfl rfl dL_law_870 ?_
                refine z_iconst hE dL_law_871 ?_
                refine z_ldc (a := 1000001) hE zk_L_152 (by decide) dL_law_872 ?_
                obtain ⟨n1, n2, n3, n4, hn1, hn2, hn3, hn4, e1, e2, e3, e4, h01, h02, h03, h04⟩ := jS.2.2
                refine z_callVp hE (c_X7_setMilk l0 D0 cI0 cJ0 ad S 0 1000001 0 n1 n2 n3 n4 (by decide) hn1 hn2 hn3 hn4 jS.1 e1 e2 e3 e4 h04 jS.2.1 iS (⟨by omega, by omega⟩) (⟨by omega, by omega⟩)) (by decide) rfl rfl zm_L_25 zi_yX7_setMilk zs_yX7_setMilk zn_RX7 zc_yX7_setMilk (hy_X7_setMilk) (Nat.le_of_ble_eq_true rfl) (Nat.le_of_ble_eq_true rfl) rfl rfl rfl (Nat.le_of_ble_eq_true rfl) dL_law_874 (fun M874 hM874 => ?_)
                have pM874 := ap_act jS hn1 hn2 hn3 hn4 h01 h02 h03 h04 hM874
                have jM874 := pM874.1
                have iM874 := ap_inv pM874 (fun ok => inv_setMilk iS ok) iS
                have aM874 := inA iM874.1
                unfold InvA at aM874
                have eM874 : M874 = S := pM874.2.2.2 (fun q => by have q := q.2; omega)
                rw [eM874]
                rw [show rv_setMilk ((S 0)) 0 1000001 = -2000000001 from if_neg (by omega)]
                refine z_ldc (a := -2000000001) hE zk_L_133 (by decide) dL_law_877 ?_
                refine z_icmp_ne (tgt := 909) hE dL_law_879 (by decide) ⟨by omega, by omega⟩ ⟨by omega, by omega⟩ (fun c10 => ?_) (fun c10 => ?_)
                · exact by omega
                · refine z_aload_n hE 3 rfl rfl dL_law_882 ?_
                  refine z_aload_n hE 3 rfl rfl dL_law_883 ?_
                  refine z_callV hE (c_X7_offerCount l0 D0 cI0 cJ0 ad S 0 (by decide) jS.1 iS) (by decide) rfl rfl zm_L_58 zi_yX7_offerCount zs_yX7_offerCount zn_RX7 zc_yX7_offerCount (hy_X7_offerCount) (Nat.le_of_ble_eq_true rfl) (Nat.le_of_ble_eq_true rfl) rfl rfl rfl (Nat.le_of_ble_eq_true rfl) dL_law_884 ?_
                  refine z_iconst hE dL_law_887 ?_
                  refine z_callV hE (c_X7_sold l0 D0 cI0 cJ0 ad S ((S 0) 14) 0 0 (by decide) jS.1 iS (⟨by omega, by omega⟩) (⟨by omega, by omega⟩)) (by decide) rfl rfl zm_L_35 zi_yX7_sold zs_yX7_sold zn_RX7 zc_yX7_sold (hy_X7_sold) (Nat.le_of_ble_eq_true rfl) (Nat.le_of_ble_eq_true rfl) rfl rfl rfl (Nat.le_of_ble_eq_true rfl) dL_law_888 ?_
                  rw [show rv_sold ((S 0)) ((S 0) 14) 0 = -2000000001 from if_neg (by omega)]
                  refine z_ldc (a := -2000000001) hE zk_L_133 (by decide) dL_law_891 ?_
                  refine z_icmp_ne (tgt := 909) hE dL_law_893 (by decide) ⟨by omega, by omega⟩ ⟨by omega, by omega⟩ (fun c11 => ?_) (fun c11 => ?_)
                  · exact by omega
                  · refine z_aload_n hE 3 rfl rfl dL_law_896 ?_
                    refine z_aload_n hE 4 rfl rfl dL_law_897 ?_
                    refine z_aload_n hE 5 rfl rfl dL_law_898 ?_
                    refine z_callS hE (c_L_holds l0 D0 cI0 cJ0 ad S jS iS pS) zm_L_109 zt_yL_holds zn_RL zc_yL_holds (hy_L_holds) (Nat.le_of_ble_eq_true rfl) (Nat.le_of_ble_eq_true rfl) rfl rfl rfl (Nat.le_of_ble_eq_true rfl) dL_law_899 ?_
                    rw [zbo_T]
                    refine z_if_eq (tgt := 909) hE dL_law_902 (by decide) ⟨by omega, by omega⟩ (fun c12 => absurd c12 (by decide)) (fun c12 => ?_)
                    refine z_iconst hE dL_law_905 ?_
                    refine z_goto (tgt := 910) hE (d := dL_law_906) (ht := by decide) ?_
                    refine z_L (L' := []) [] rfl ?_
                    exact kk S
set_option maxHeartbeats 4000000 in
set_option maxRecDepth 100000 in
theorem lc_head {E : zE} {l0 : Launch} {D0 : va_G} {cI0 cJ0 : ClassId} {ad : Nat → Nat → Nat} {S : zM} {b N : Nat} {xs : Nat → Int32} (hE : zG E l0 D0 cI0 cJ0 ad cL_law 21 RL 10 394) (hX : zX E b N xs) (jS : RJ S) (iS : Inv (S 0)) (hst0 : S 5 0 = 0) (h0 : S 0 0 = 0) (h14 : S 0 14 = 0) (ha : sp_all (S 0) = 0) (hz0 : ∀ x : Int, 0 ≤ x → x < 12 → S 0 (20 + 3 * x) = 0) (kk : ∀ X : zM, LK X 0 → Z E X 64 [(5, .int (i32 0)), (4, .int (i32 1)), (0, .ref b), (1, .ref (ad 5 22)), (2, .ref (ad 6 27)), (3, .ref (ad 6 28))] []) : Z E S 18 [(3, .ref (ad 6 28)), (2, .ref (ad 6 27)), (1, .ref (ad 5 22)), (0, .ref b)] [] := by
  have aS := inA iS.1
  unfold InvA at aS
  refine z_aload_n hE 2 rfl rfl dL_law_18 ?_
  obtain ⟨n1, n2, n3, n4, hn1, hn2, hn3, hn4, e1, e2, e3, e4, h01, h02, h03, h04⟩ := jS.2.2
  refine z_callVp hE (c_X7_valuate l0 D0 cI0 cJ0 ad S 0 n1 n2 n3 n4 (by decide) hn1 hn2 hn3 hn4 jS.1 e1 e2 e3 e4 h04 jS.2.1 iS) (by decide) rfl rfl zm_L_95 zi_yX7_valuate zs_yX7_valuate zn_RX7 zc_yX7_valuate (hy_X7_valuate) (Nat.le_of_ble_eq_true rfl) (Nat.le_of_ble_eq_true rfl) rfl rfl rfl (Nat.le_of_ble_eq_true rfl) dL_law_19 (fun M19 hM19 => ?_)
  have pM19 := ap_act jS hn1 hn2 hn3 hn4 h01 h02 h03 h04 hM19
  have jM19 := pM19.1
  have iM19 := ap_inv pM19 (fun ok => inv_valuate iS ok) iS
  have aM19 := inA iM19.1
  unfold InvA at aM19
  have eV : M19 = S := pM19.2.2.2 (fun q => by have q : 0 < sp_all (S 0) := q; omega)
  rw [eV]
  rw [show rv_valuate ((S 0)) = -2000000002 from if_neg (by omega)]
  refine z_ldc (a := -2000000002) hE zk_L_94 (by decide) dL_law_22 ?_
  refine z_icmp_ne (tgt := 58) hE dL_law_24 (by decide) ⟨by omega, by omega⟩ ⟨by omega, by omega⟩ (fun c1 => ?_) (fun c1 => ?_)
  · exact by omega
  · refine z_aload_n hE 2 rfl rfl dL_law_27 ?_
    obtain ⟨n1, n2, n3, n4, hn1, hn2, hn3, hn4, e1, e2, e3, e4, h01, h02, h03, h04⟩ := jS.2.2
    refine z_callVp hE (c_X7_undo l0 D0 cI0 cJ0 ad S 0 n1 n2 n3 n4 (by decide) hn1 hn2 hn3 hn4 jS.1 e1 e2 e3 e4 h04 jS.2.1) (by decide) rfl rfl zm_L_102 zi_yX7_undo zs_yX7_undo zn_RX7 zc_yX7_undo (hy_X7_undo) (Nat.le_of_ble_eq_true rfl) (Nat.le_of_ble_eq_true rfl) rfl rfl rfl (Nat.le_of_ble_eq_true rfl) dL_law_28 (fun M28 hM28 => ?_)
    have eU : M28 = S := by rw [hM28]; exact if_neg (by omega)
    rw [eU]
    rw [show rv_undo ((S 5) 0) = -2000000002 from if_neg (by omega)]
    refine z_ldc (a := -2000000002) hE zk_L_94 (by decide) dL_law_31 ?_
    refine z_icmp_ne (tgt := 58) hE dL_law_33 (by decide) ⟨by omega, by omega⟩ ⟨by omega, by omega⟩ (fun c2 => ?_) (fun c2 => ?_)
    · exact by omega
    · refine z_aload_n hE 2 rfl rfl dL_law_36 ?_
      refine z_aload_n hE 3 rfl rfl dL_law_37 ?_
      refine z_iconst hE dL_law_38 ?_
      refine z_callX hE hX (c_L_begins l0 D0 cI0 cJ0 ad S b N xs 4 jS iS (by omega) (by omega) (by assumption) (by assumption) rfl) zm_L_105 zt_yL_begins zn_RL zc_yL_begins hy_L_begins (Nat.le_of_ble_eq_true rfl) (Nat.le_of_ble_eq_true rfl) rfl rfl rfl (Nat.le_of_ble_eq_true rfl) dL_law_39 (fun M39 hM39 => ?_)
      obtain ⟨jM39, iM39, gM39, bM0, bM14, bMa⟩ := hM39
      have aM39 := inA iM39.1
      unfold InvA at aM39
      rw [zbo_T]
      have pM39 : PJ (M39 0) (M39 6) := ⟨bM0, fun f a c => by omega⟩
      refine z_if_eq (tgt := 58) hE dL_law_42 (by decide) ⟨by omega, by omega⟩ (fun c3 => absurd c3 (by decide)) (fun c3 => ?_)
      refine z_aload_n hE 2 rfl rfl dL_law_45 ?_
      refine z_aload_n hE 1 rfl rfl dL_law_46 ?_
      refine z_aload_n hE 0 rfl rfl dL_law_47 ?_
      refine z_callS hE (c_L_holds l0 D0 cI0 cJ0 ad M39 jM39 iM39 pM39) zm_L_109 zt_yL_holds zn_RL zc_yL_holds (hy_L_holds) (Nat.le_of_ble_eq_true rfl) (Nat.le_of_ble_eq_true rfl) rfl rfl rfl (Nat.le_of_ble_eq_true rfl) dL_law_48 ?_
      rw [zbo_T]
      refine z_if_eq (tgt := 58) hE dL_law_51 (by decide) ⟨by omega, by omega⟩ (fun c4 => absurd c4 (by decide)) (fun c4 => ?_)
      refine z_iconst hE dL_law_54 ?_
      refine z_goto (tgt := 59) hE (d := dL_law_55) (ht := by decide) ?_
      refine z_istore hE (by decide) rfl dL_law_59 ?_
      refine z_iconst hE dL_law_61 ?_
      refine z_istore hE (by decide) rfl dL_law_62 ?_
      refine z_L (L' := [(5, .int (i32 0)), (4, .int (i32 1)), (0, .ref b), (1, .ref (ad 5 22)), (2, .ref (ad 6 27)), (3, .ref (ad 6 28))]) [0, 1, 5, 4, 3, 2] rfl ?_
      exact kk M39 ⟨jM39, iM39, pM39, by omega⟩
set_option maxHeartbeats 4000000 in
set_option maxRecDepth 100000 in
theorem lc_round {E : zE} {l0 : Launch} {D0 : va_G} {cI0 cJ0 : ClassId} {ad : Nat → Nat → Nat} {S : zM} {b N : Nat} {xs : Nat → Int32} (hE : zG E l0 D0 cI0 cJ0 ad cL_law 21 RL 10 394) (hX : zX E b N xs) {k : Int} (hL : LK S k) (hk : 0 ≤ k ∧ k ≤ 24) (ke : Z E S 769 [(5, .int (i32 k)), (4, .int (i32 1)), (0, .ref b), (1, .ref (ad 5 22)), (2, .ref (ad 6 27)), (3, .ref (ad 6 28))] []) (kn : k < 24 → ∀ X : zM, LK X (k + 1) → Z E X 64 [(5, .int (i32 (k + 1))), (4, .int (i32 1)), (0, .ref b), (1, .ref (ad 5 22)), (2, .ref (ad 6 27)), (3, .ref (ad 6 28))] []) : Z E S 64 [(5, .int (i32 k)), (4, .int (i32 1)), (0, .ref b), (1, .ref (ad 5 22)), (2, .ref (ad 6 27)), (3, .ref (ad 6 28))] [] := by
  obtain ⟨jS, iS, pS, bS⟩ := hL
  have aS := inA iS.1
  unfold InvA at aS
  refine z_iload hE 0 rfl dL_law_64 ?_
  refine z_bipush (a := 24) hE (by decide) dL_law_66 ?_
  refine z_icmp_ge (tgt := 769) hE dL_law_68 (by decide) ⟨by omega, by omega⟩ ⟨by omega, by omega⟩ (fun c1 => ?_) (fun c1 => ?_)
  · exact ke
  · refine z_iload hE 1 rfl dL_law_71 ?_
    refine z_if_eq (tgt := 769) hE dL_law_73 (by decide) ⟨by omega, by omega⟩ (fun c2 => absurd c2 (by decide)) (fun c2 => ?_)
    refine z_aload_n hE 2 rfl rfl dL_law_76 ?_
    refine z_iconst hE dL_law_77 ?_
    refine z_iload hE 0 rfl dL_law_78 ?_
    refine z_iadd hE dL_law_80 ?_
    refine z_callX hE hX (c_L_cell l0 D0 cI0 cJ0 ad S b N xs (4 + k) (by omega)) zm_L_8 zt_yL_cell zn_RL zc_yL_cell hy_L_cell (Nat.le_of_ble_eq_true rfl) (Nat.le_of_ble_eq_true rfl) rfl rfl rfl (Nat.le_of_ble_eq_true rfl) dL_law_81 (fun M81 hM81 => ?_)
    have hM81 : M81 = S := hM81
    rw [hM81]
    obtain ⟨y, h_y⟩ : ∃ x : Int, x = cel N xs (4 + k) := ⟨_, rfl⟩
    rw [← h_y]
    have hy : 0 ≤ y ∧ y ≤ 2147483647 := by rw [h_y]; exact cel_b N xs (4 + k)
    refine z_istore hE (by decide) rfl dL_law_84 ?_
    refine z_iload hE 0 rfl dL_law_86 ?_
    refine z_bipush (a := 16) hE (by decide) dL_law_88 ?_
    refine z_idiv hE ⟨by omega, by omega⟩ ⟨by omega, by omega⟩ (by omega) dL_law_90 ?_
    rw [zx_tdiv (show 0 ≤ y by omega)]
    obtain ⟨z, h_z⟩ : ∃ x : Int, x = y / 16 := ⟨_, rfl⟩
    rw [← h_z]
    have hz : 0 ≤ z ∧ z ≤ 134217727 := by omega
    refine z_istore hE (by decide) rfl dL_law_91 ?_
    refine z_iload hE 0 rfl dL_law_93 ?_
    refine z_iconst hE dL_law_95 ?_
    refine z_irem hE ⟨by omega, by omega⟩ ⟨by omega, by omega⟩ (by omega) dL_law_96 ?_
    rw [zx_tdiv (show 0 ≤ z by omega)]
    obtain ⟨m, h_m⟩ : ∃ x : Int, x = z - z / 4 * 4 := ⟨_, rfl⟩
    rw [← h_m]
    have hm : 0 ≤ m ∧ m < 4 := by omega
    refine z_istore hE (by decide) rfl dL_law_97 ?_
    refine z_aload_n hE 6 rfl rfl dL_law_99 ?_
    refine z_callV hE (c_X7_offerCount l0 D0 cI0 cJ0 ad S 0 (by decide) jS.1 iS) (by decide) rfl rfl zm_L_58 zi_yX7_offerCount zs_yX7_offerCount zn_RX7 zc_yX7_offerCount (hy_X7_offerCount) (Nat.le_of_ble_eq_true rfl) (Nat.le_of_ble_eq_true rfl) rfl rfl rfl (Nat.le_of_ble_eq_true rfl) dL_law_100 ?_
    refine z_istore hE (by decide) rfl dL_law_103 ?_
    refine z_iload hE 3 rfl dL_law_105 ?_
    refine z_bipush (a := 16) hE (by decide) dL_law_107 ?_
    refine z_irem hE ⟨by omega, by omega⟩ ⟨by omega, by omega⟩ (by omega) dL_law_109 ?_
    rw [zx_tdiv (show 0 ≤ y by omega)]
    obtain ⟨t, h_t⟩ : ∃ x : Int, x = y - y / 16 * 16 := ⟨_, rfl⟩
    rw [← h_t]
    have ht : 0 ≤ t ∧ t ≤ 15 := by omega
    have hk2 : 0 ≤ k ∧ k < 24 := by omega
    have kk : ∀ X : zM, LK X (k + 1) → Z E X 735 [(4, .int (i32 1)), (5, .int (i32 k)), (0, .ref b), (1, .ref (ad 5 22)), (2, .ref (ad 6 27)), (3, .ref (ad 6 28))] [] := fun X hX2 => lc_tail hE hX hk2 hX2 (kn hk2.2 X hX2)
    by_cases k0 : t = 0
    · refine z_tIn (tgt := 172) hE 0 dL_law_110 ⟨by omega, by omega⟩ k0 (by decide) (by decide) rfl (by decide) ?_
      refine z_L (L' := [(9, .int (i32 (S 0 14))), (8, .int (i32 m)), (7, .int (i32 z)), (5, .int (i32 k)), (4, .int (i32 1)), (0, .ref b), (1, .ref (ad 5 22)), (2, .ref (ad 6 27)), (3, .ref (ad 6 28))]) [0, 1, 2, 4, 5, 6, 7, 8, 9] rfl ?_
      exact lc_0 hE hX jS iS pS bS hk2 hz hm kk
    by_cases k1 : t = 1
    · refine z_tIn (tgt := 264) hE 1 dL_law_110 ⟨by omega, by omega⟩ k1 (by decide) (by decide) rfl (by decide) ?_
      refine z_L (L' := [(9, .int (i32 (S 0 14))), (8, .int (i32 m)), (7, .int (i32 z)), (5, .int (i32 k)), (4, .int (i32 1)), (0, .ref b), (1, .ref (ad 5 22)), (2, .ref (ad 6 27)), (3, .ref (ad 6 28))]) [0, 1, 2, 4, 5, 6, 7, 8, 9] rfl ?_
      exact lc_1 hE hX jS iS pS bS hk2 hz hm kk
    by_cases k2 : t = 2
    · refine z_tIn (tgt := 290) hE 2 dL_law_110 ⟨by omega, by omega⟩ k2 (by decide) (by decide) rfl (by decide) ?_
      refine z_L (L' := [(9, .int (i32 (S 0 14))), (8, .int (i32 m)), (7, .int (i32 z)), (5, .int (i32 k)), (4, .int (i32 1)), (0, .ref b), (1, .ref (ad 5 22)), (2, .ref (ad 6 27)), (3, .ref (ad 6 28))]) [0, 1, 2, 4, 5, 6, 7, 8, 9] rfl ?_
      exact lc_2 hE hX jS iS pS bS hk2 hz hm kk
    by_cases k3 : t = 3
    · refine z_tIn (tgt := 318) hE 3 dL_law_110 ⟨by omega, by omega⟩ k3 (by decide) (by decide) rfl (by decide) ?_
      refine z_L (L' := [(9, .int (i32 (S 0 14))), (8, .int (i32 m)), (7, .int (i32 z)), (5, .int (i32 k)), (4, .int (i32 1)), (0, .ref b), (1, .ref (ad 5 22)), (2, .ref (ad 6 27)), (3, .ref (ad 6 28))]) [0, 1, 2, 4, 5, 6, 7, 8, 9] rfl ?_
      exact lc_3 hE hX jS iS pS bS hk2 hz hm kk
    by_cases k4 : t = 4
    · refine z_tIn (tgt := 377) hE 4 dL_law_110 ⟨by omega, by omega⟩ k4 (by decide) (by decide) rfl (by decide) ?_
      refine z_L (L' := [(9, .int (i32 (S 0 14))), (8, .int (i32 m)), (7, .int (i32 z)), (5, .int (i32 k)), (4, .int (i32 1)), (0, .ref b), (1, .ref (ad 5 22)), (2, .ref (ad 6 27)), (3, .ref (ad 6 28))]) [0, 1, 2, 4, 5, 6, 7, 8, 9] rfl ?_
      exact lc_4 hE hX jS iS pS bS hk2 hz hm kk
    by_cases k5 : t = 5
    · refine z_tIn (tgt := 377) hE 5 dL_law_110 ⟨by omega, by omega⟩ k5 (by decide) (by decide) rfl (by decide) ?_
      refine z_L (L' := [(9, .int (i32 (S 0 14))), (8, .int (i32 m)), (7, .int (i32 z)), (5, .int (i32 k)), (4, .int (i32 1)), (0, .ref b), (1, .ref (ad 5 22)), (2, .ref (ad 6 27)), (3, .ref (ad 6 28))]) [0, 1, 2, 4, 5, 6, 7, 8, 9] rfl ?_
      exact lc_4 hE hX jS iS pS bS hk2 hz hm kk
    by_cases k6 : t = 6
    · refine z_tIn (tgt := 377) hE 6 dL_law_110 ⟨by omega, by omega⟩ k6 (by decide) (by decide) rfl (by decide) ?_
      refine z_L (L' := [(9, .int (i32 (S 0 14))), (8, .int (i32 m)), (7, .int (i32 z)), (5, .int (i32 k)), (4, .int (i32 1)), (0, .ref b), (1, .ref (ad 5 22)), (2, .ref (ad 6 27)), (3, .ref (ad 6 28))]) [0, 1, 2, 4, 5, 6, 7, 8, 9] rfl ?_
      exact lc_4 hE hX jS iS pS bS hk2 hz hm kk
    by_cases k7 : t = 7
    · refine z_tIn (tgt := 428) hE 7 dL_law_110 ⟨by omega, by omega⟩ k7 (by decide) (by decide) rfl (by decide) ?_
      refine z_L (L' := [(9, .int (i32 (S 0 14))), (8, .int (i32 m)), (7, .int (i32 z)), (5, .int (i32 k)), (4, .int (i32 1)), (0, .ref b), (1, .ref (ad 5 22)), (2, .ref (ad 6 27)), (3, .ref (ad 6 28))]) [0, 1, 2, 4, 5, 6, 7, 8, 9] rfl ?_
      exact lc_7 hE hX jS iS pS bS hk2 hz hm kk
    by_cases k8 : t = 8
    · refine z_tIn (tgt := 506) hE 8 dL_law_110 ⟨by omega, by omega⟩ k8 (by decide) (by decide) rfl (by decide) ?_
      refine z_L (L' := [(9, .int (i32 (S 0 14))), (8, .int (i32 m)), (7, .int (i32 z)), (5, .int (i32 k)), (4, .int (i32 1)), (0, .ref b), (1, .ref (ad 5 22)), (2, .ref (ad 6 27)), (3, .ref (ad 6 28))]) [0, 1, 2, 4, 5, 6, 7, 8, 9] rfl ?_
      exact lc_8 hE hX jS iS pS bS hk2 hz hm kk
    by_cases k9 : t = 9
    · refine z_tIn (tgt := 528) hE 9 dL_law_110 ⟨by omega, by omega⟩ k9 (by decide) (by decide) rfl (by decide) ?_
      refine z_L (L' := [(9, .int (i32 (S 0 14))), (8, .int (i32 m)), (7, .int (i32 z)), (5, .int (i32 k)), (4, .int (i32 1)), (0, .ref b), (1, .ref (ad 5 22)), (2, .ref (ad 6 27)), (3, .ref (ad 6 28))]) [0, 1, 2, 4, 5, 6, 7, 8, 9] rfl ?_
      exact lc_9 hE hX jS iS pS bS hk2 hz hm kk
    by_cases k10 : t = 10
    · refine z_tIn (tgt := 528) hE 10 dL_law_110 ⟨by omega, by omega⟩ k10 (by decide) (by decide) rfl (by decide) ?_
      refine z_L (L' := [(9, .int (i32 (S 0 14))), (8, .int (i32 m)), (7, .int (i32 z)), (5, .int (i32 k)), (4, .int (i32 1)), (0, .ref b), (1, .ref (ad 5 22)), (2, .ref (ad 6 27)), (3, .ref (ad 6 28))]) [0, 1, 2, 4, 5, 6, 7, 8, 9] rfl ?_
      exact lc_9 hE hX jS iS pS bS hk2 hz hm kk
    by_cases k11 : t = 11
    · refine z_tIn (tgt := 528) hE 11 dL_law_110 ⟨by omega, by omega⟩ k11 (by decide) (by decide) rfl (by decide) ?_
      refine z_L (L' := [(9, .int (i32 (S 0 14))), (8, .int (i32 m)), (7, .int (i32 z)), (5, .int (i32 k)), (4, .int (i32 1)), (0, .ref b), (1, .ref (ad 5 22)), (2, .ref (ad 6 27)), (3, .ref (ad 6 28))]) [0, 1, 2, 4, 5, 6, 7, 8, 9] rfl ?_
      exact lc_9 hE hX jS iS pS bS hk2 hz hm kk
    refine z_tOut (tgt := 543) hE dL_law_110 ⟨by omega, by omega⟩ (by omega) (by decide) ?_
    refine z_L (L' := [(9, .int (i32 (S 0 14))), (8, .int (i32 m)), (7, .int (i32 z)), (5, .int (i32 k)), (4, .int (i32 1)), (0, .ref b), (1, .ref (ad 5 22)), (2, .ref (ad 6 27)), (3, .ref (ad 6 28))]) [0, 1, 2, 4, 5, 6, 7, 8, 9] rfl ?_
    exact lc_12 hE hX jS iS pS bS hk2 hz hm kk
