theorem dL_law_0 : decode cL_law 0 = .ok (.new 7, 3) := by decide +kernel
theorem dL_law_3 : decode cL_law 3 = .ok (.dup, 1) := by decide +kernel
theorem dL_law_4 : decode cL_law 4 = .ok (.invokespecial 9, 3) := by decide +kernel
theorem dL_law_7 : decode cL_law 7 = .ok (.astore_n 1, 1) := by decide +kernel
theorem dL_law_8 : decode cL_law 8 = .ok (.new 10, 3) := by decide +kernel
theorem dL_law_11 : decode cL_law 11 = .ok (.dup, 1) := by decide +kernel
theorem dL_law_12 : decode cL_law 12 = .ok (.invokespecial 12, 3) := by decide +kernel
theorem dL_law_15 : decode cL_law 15 = .ok (.astore_n 2, 1) := by decide +kernel
theorem dL_law_16 : decode cL_law 16 = .ok (.iconst 0, 1) := by decide +kernel
theorem dL_law_17 : decode cL_law 17 = .ok (.istore_n 3, 1) := by decide +kernel
theorem dL_law_18 : decode cL_law 18 = .ok (.iload_n 3, 1) := by decide +kernel
theorem dL_law_19 : decode cL_law 19 = .ok (.aload_n 0, 1) := by decide +kernel
theorem dL_law_20 : decode cL_law 20 = .ok (.arraylength, 1) := by decide +kernel
theorem dL_law_21 : decode cL_law 21 = .ok (.iconst 5, 1) := by decide +kernel
theorem dL_law_22 : decode cL_law 22 = .ok (.isub, 1) := by decide +kernel
theorem dL_law_23 : decode cL_law 23 = .ok (.if_icmp .gt 1088, 3) := by decide +kernel
theorem dL_law_26 : decode cL_law 26 = .ok (.aload_n 0, 1) := by decide +kernel
theorem dL_law_27 : decode cL_law 27 = .ok (.iload_n 3, 1) := by decide +kernel
theorem dL_law_28 : decode cL_law 28 = .ok (.iaload, 1) := by decide +kernel
theorem dL_law_29 : decode cL_law 29 = .ok (.bipush 63, 2) := by decide +kernel
theorem dL_law_31 : decode cL_law 31 = .ok (.iand, 1) := by decide +kernel
theorem dL_law_32 : decode cL_law 32 = .ok (.tableswitch 1073 0 37 #[168, 181, 214, 247, 270, 293, 306, 329, 353, 376, 399, 422, 435, 448, 481, 504, 517, 530, 543, 596, 639, 662, 685, 698, 721, 744, 767, 800, 833, 866, 899, 942, 965, 988, 1011, 1034, 1047, 1060], 168) := by decide +kernel
theorem dL_law_200 : decode cL_law 200 = .ok (.aload_n 1, 1) := by decide +kernel
theorem dL_law_201 : decode cL_law 201 = .ok (.invokevirtual 13, 3) := by decide +kernel
theorem dL_law_204 : decode cL_law 204 = .ok (.aload_n 2, 1) := by decide +kernel
theorem dL_law_205 : decode cL_law 205 = .ok (.invokevirtual 17, 3) := by decide +kernel
theorem dL_law_208 : decode cL_law 208 = .ok (.if_icmp .eq 897, 3) := by decide +kernel
theorem dL_law_211 : decode cL_law 211 = .ok (.iconst 0, 1) := by decide +kernel
theorem dL_law_212 : decode cL_law 212 = .ok (.ireturn, 1) := by decide +kernel
theorem dL_law_213 : decode cL_law 213 = .ok (.aload_n 1, 1) := by decide +kernel
theorem dL_law_214 : decode cL_law 214 = .ok (.aload_n 0, 1) := by decide +kernel
theorem dL_law_215 : decode cL_law 215 = .ok (.iload_n 3, 1) := by decide +kernel
theorem dL_law_216 : decode cL_law 216 = .ok (.iconst 1, 1) := by decide +kernel
theorem dL_law_217 : decode cL_law 217 = .ok (.iadd, 1) := by decide +kernel
theorem dL_law_218 : decode cL_law 218 = .ok (.iaload, 1) := by decide +kernel
theorem dL_law_219 : decode cL_law 219 = .ok (.aload_n 0, 1) := by decide +kernel
theorem dL_law_220 : decode cL_law 220 = .ok (.iload_n 3, 1) := by decide +kernel
theorem dL_law_221 : decode cL_law 221 = .ok (.iconst 2, 1) := by decide +kernel
theorem dL_law_222 : decode cL_law 222 = .ok (.iadd, 1) := by decide +kernel
theorem dL_law_223 : decode cL_law 223 = .ok (.iaload, 1) := by decide +kernel
theorem dL_law_224 : decode cL_law 224 = .ok (.invokevirtual 18, 3) := by decide +kernel
theorem dL_law_227 : decode cL_law 227 = .ok (.aload_n 2, 1) := by decide +kernel
theorem dL_law_228 : decode cL_law 228 = .ok (.aload_n 0, 1) := by decide +kernel
theorem dL_law_229 : decode cL_law 229 = .ok (.iload_n 3, 1) := by decide +kernel
theorem dL_law_230 : decode cL_law 230 = .ok (.iconst 1, 1) := by decide +kernel
theorem dL_law_231 : decode cL_law 231 = .ok (.iadd, 1) := by decide +kernel
theorem dL_law_232 : decode cL_law 232 = .ok (.iaload, 1) := by decide +kernel
theorem dL_law_233 : decode cL_law 233 = .ok (.aload_n 0, 1) := by decide +kernel
theorem dL_law_234 : decode cL_law 234 = .ok (.iload_n 3, 1) := by decide +kernel
theorem dL_law_235 : decode cL_law 235 = .ok (.iconst 2, 1) := by decide +kernel
theorem dL_law_236 : decode cL_law 236 = .ok (.iadd, 1) := by decide +kernel
theorem dL_law_237 : decode cL_law 237 = .ok (.iaload, 1) := by decide +kernel
theorem dL_law_238 : decode cL_law 238 = .ok (.invokevirtual 22, 3) := by decide +kernel
theorem dL_law_241 : decode cL_law 241 = .ok (.if_icmp .eq 864, 3) := by decide +kernel
theorem dL_law_244 : decode cL_law 244 = .ok (.iconst 0, 1) := by decide +kernel
theorem dL_law_245 : decode cL_law 245 = .ok (.ireturn, 1) := by decide +kernel
theorem dL_law_246 : decode cL_law 246 = .ok (.aload_n 1, 1) := by decide +kernel
theorem dL_law_247 : decode cL_law 247 = .ok (.aload_n 0, 1) := by decide +kernel
theorem dL_law_248 : decode cL_law 248 = .ok (.iload_n 3, 1) := by decide +kernel
theorem dL_law_249 : decode cL_law 249 = .ok (.iconst 1, 1) := by decide +kernel
theorem dL_law_250 : decode cL_law 250 = .ok (.iadd, 1) := by decide +kernel
theorem dL_law_251 : decode cL_law 251 = .ok (.iaload, 1) := by decide +kernel
theorem dL_law_252 : decode cL_law 252 = .ok (.aload_n 0, 1) := by decide +kernel
theorem dL_law_253 : decode cL_law 253 = .ok (.iload_n 3, 1) := by decide +kernel
theorem dL_law_254 : decode cL_law 254 = .ok (.iconst 2, 1) := by decide +kernel
theorem dL_law_255 : decode cL_law 255 = .ok (.iadd, 1) := by decide +kernel
theorem dL_law_256 : decode cL_law 256 = .ok (.iaload, 1) := by decide +kernel
theorem dL_law_257 : decode cL_law 257 = .ok (.invokevirtual 23, 3) := by decide +kernel
theorem dL_law_260 : decode cL_law 260 = .ok (.aload_n 2, 1) := by decide +kernel
theorem dL_law_261 : decode cL_law 261 = .ok (.aload_n 0, 1) := by decide +kernel
theorem dL_law_262 : decode cL_law 262 = .ok (.iload_n 3, 1) := by decide +kernel
theorem dL_law_263 : decode cL_law 263 = .ok (.iconst 1, 1) := by decide +kernel
theorem dL_law_264 : decode cL_law 264 = .ok (.iadd, 1) := by decide +kernel
theorem dL_law_265 : decode cL_law 265 = .ok (.iaload, 1) := by decide +kernel
theorem dL_law_266 : decode cL_law 266 = .ok (.aload_n 0, 1) := by decide +kernel
theorem dL_law_267 : decode cL_law 267 = .ok (.iload_n 3, 1) := by decide +kernel
theorem dL_law_268 : decode cL_law 268 = .ok (.iconst 2, 1) := by decide +kernel
theorem dL_law_269 : decode cL_law 269 = .ok (.iadd, 1) := by decide +kernel
theorem dL_law_270 : decode cL_law 270 = .ok (.iaload, 1) := by decide +kernel
theorem dL_law_271 : decode cL_law 271 = .ok (.invokevirtual 26, 3) := by decide +kernel
theorem dL_law_274 : decode cL_law 274 = .ok (.if_icmp .eq 831, 3) := by decide +kernel
theorem dL_law_277 : decode cL_law 277 = .ok (.iconst 0, 1) := by decide +kernel
theorem dL_law_278 : decode cL_law 278 = .ok (.ireturn, 1) := by decide +kernel
theorem dL_law_279 : decode cL_law 279 = .ok (.aload_n 1, 1) := by decide +kernel
theorem dL_law_280 : decode cL_law 280 = .ok (.aload_n 0, 1) := by decide +kernel
theorem dL_law_281 : decode cL_law 281 = .ok (.iload_n 3, 1) := by decide +kernel
theorem dL_law_282 : decode cL_law 282 = .ok (.iconst 1, 1) := by decide +kernel
theorem dL_law_283 : decode cL_law 283 = .ok (.iadd, 1) := by decide +kernel
theorem dL_law_284 : decode cL_law 284 = .ok (.iaload, 1) := by decide +kernel
theorem dL_law_285 : decode cL_law 285 = .ok (.invokevirtual 27, 3) := by decide +kernel
theorem dL_law_288 : decode cL_law 288 = .ok (.aload_n 2, 1) := by decide +kernel
theorem dL_law_289 : decode cL_law 289 = .ok (.aload_n 0, 1) := by decide +kernel
theorem dL_law_290 : decode cL_law 290 = .ok (.iload_n 3, 1) := by decide +kernel
theorem dL_law_291 : decode cL_law 291 = .ok (.iconst 1, 1) := by decide +kernel
theorem dL_law_292 : decode cL_law 292 = .ok (.iadd, 1) := by decide +kernel
theorem dL_law_293 : decode cL_law 293 = .ok (.iaload, 1) := by decide +kernel
theorem dL_law_294 : decode cL_law 294 = .ok (.invokevirtual 31, 3) := by decide +kernel
theorem dL_law_297 : decode cL_law 297 = .ok (.if_icmp .eq 808, 3) := by decide +kernel
theorem dL_law_300 : decode cL_law 300 = .ok (.iconst 0, 1) := by decide +kernel
theorem dL_law_301 : decode cL_law 301 = .ok (.ireturn, 1) := by decide +kernel
theorem dL_law_302 : decode cL_law 302 = .ok (.aload_n 1, 1) := by decide +kernel
theorem dL_law_303 : decode cL_law 303 = .ok (.aload_n 0, 1) := by decide +kernel
theorem dL_law_304 : decode cL_law 304 = .ok (.iload_n 3, 1) := by decide +kernel
theorem dL_law_305 : decode cL_law 305 = .ok (.iconst 1, 1) := by decide +kernel
theorem dL_law_306 : decode cL_law 306 = .ok (.iadd, 1) := by decide +kernel
theorem dL_law_307 : decode cL_law 307 = .ok (.iaload, 1) := by decide +kernel
theorem dL_law_308 : decode cL_law 308 = .ok (.invokevirtual 32, 3) := by decide +kernel
theorem dL_law_311 : decode cL_law 311 = .ok (.aload_n 2, 1) := by decide +kernel
theorem dL_law_312 : decode cL_law 312 = .ok (.aload_n 0, 1) := by decide +kernel
theorem dL_law_313 : decode cL_law 313 = .ok (.iload_n 3, 1) := by decide +kernel
theorem dL_law_314 : decode cL_law 314 = .ok (.iconst 1, 1) := by decide +kernel
theorem dL_law_315 : decode cL_law 315 = .ok (.iadd, 1) := by decide +kernel
theorem dL_law_316 : decode cL_law 316 = .ok (.iaload, 1) := by decide +kernel
theorem dL_law_317 : decode cL_law 317 = .ok (.invokevirtual 35, 3) := by decide +kernel
theorem dL_law_320 : decode cL_law 320 = .ok (.if_icmp .eq 785, 3) := by decide +kernel
theorem dL_law_323 : decode cL_law 323 = .ok (.iconst 0, 1) := by decide +kernel
theorem dL_law_324 : decode cL_law 324 = .ok (.ireturn, 1) := by decide +kernel
theorem dL_law_325 : decode cL_law 325 = .ok (.aload_n 1, 1) := by decide +kernel
theorem dL_law_326 : decode cL_law 326 = .ok (.invokevirtual 36, 3) := by decide +kernel
theorem dL_law_329 : decode cL_law 329 = .ok (.aload_n 2, 1) := by decide +kernel
theorem dL_law_330 : decode cL_law 330 = .ok (.invokevirtual 39, 3) := by decide +kernel
theorem dL_law_333 : decode cL_law 333 = .ok (.if_icmp .eq 772, 3) := by decide +kernel
theorem dL_law_336 : decode cL_law 336 = .ok (.iconst 0, 1) := by decide +kernel
theorem dL_law_337 : decode cL_law 337 = .ok (.ireturn, 1) := by decide +kernel
theorem dL_law_338 : decode cL_law 338 = .ok (.aload_n 1, 1) := by decide +kernel
theorem dL_law_339 : decode cL_law 339 = .ok (.aload_n 0, 1) := by decide +kernel
theorem dL_law_340 : decode cL_law 340 = .ok (.iload_n 3, 1) := by decide +kernel
theorem dL_law_341 : decode cL_law 341 = .ok (.iconst 1, 1) := by decide +kernel
theorem dL_law_342 : decode cL_law 342 = .ok (.iadd, 1) := by decide +kernel
theorem dL_law_343 : decode cL_law 343 = .ok (.iaload, 1) := by decide +kernel
theorem dL_law_344 : decode cL_law 344 = .ok (.invokevirtual 40, 3) := by decide +kernel
theorem dL_law_347 : decode cL_law 347 = .ok (.aload_n 2, 1) := by decide +kernel
theorem dL_law_348 : decode cL_law 348 = .ok (.aload_n 0, 1) := by decide +kernel
theorem dL_law_349 : decode cL_law 349 = .ok (.iload_n 3, 1) := by decide +kernel
theorem dL_law_350 : decode cL_law 350 = .ok (.iconst 1, 1) := by decide +kernel
theorem dL_law_351 : decode cL_law 351 = .ok (.iadd, 1) := by decide +kernel
theorem dL_law_352 : decode cL_law 352 = .ok (.iaload, 1) := by decide +kernel
theorem dL_law_353 : decode cL_law 353 = .ok (.invokevirtual 43, 3) := by decide +kernel
theorem dL_law_356 : decode cL_law 356 = .ok (.if_icmp .eq 749, 3) := by decide +kernel
theorem dL_law_359 : decode cL_law 359 = .ok (.iconst 0, 1) := by decide +kernel
theorem dL_law_360 : decode cL_law 360 = .ok (.ireturn, 1) := by decide +kernel
theorem dL_law_361 : decode cL_law 361 = .ok (.aload_n 1, 1) := by decide +kernel
theorem dL_law_362 : decode cL_law 362 = .ok (.aload_n 0, 1) := by decide +kernel
theorem dL_law_363 : decode cL_law 363 = .ok (.iload_n 3, 1) := by decide +kernel
theorem dL_law_364 : decode cL_law 364 = .ok (.iconst 1, 1) := by decide +kernel
theorem dL_law_365 : decode cL_law 365 = .ok (.iadd, 1) := by decide +kernel
theorem dL_law_366 : decode cL_law 366 = .ok (.iaload, 1) := by decide +kernel
theorem dL_law_367 : decode cL_law 367 = .ok (.invokevirtual 44, 3) := by decide +kernel
theorem dL_law_370 : decode cL_law 370 = .ok (.aload_n 2, 1) := by decide +kernel
theorem dL_law_371 : decode cL_law 371 = .ok (.aload_n 0, 1) := by decide +kernel
theorem dL_law_372 : decode cL_law 372 = .ok (.iload_n 3, 1) := by decide +kernel
theorem dL_law_373 : decode cL_law 373 = .ok (.iconst 1, 1) := by decide +kernel
theorem dL_law_374 : decode cL_law 374 = .ok (.iadd, 1) := by decide +kernel
theorem dL_law_375 : decode cL_law 375 = .ok (.iaload, 1) := by decide +kernel
theorem dL_law_376 : decode cL_law 376 = .ok (.invokevirtual 48, 3) := by decide +kernel
theorem dL_law_379 : decode cL_law 379 = .ok (.lcmp, 1) := by decide +kernel
theorem dL_law_380 : decode cL_law 380 = .ok (.ifCond .eq 725, 3) := by decide +kernel
theorem dL_law_383 : decode cL_law 383 = .ok (.iconst 0, 1) := by decide +kernel
theorem dL_law_384 : decode cL_law 384 = .ok (.ireturn, 1) := by decide +kernel
theorem dL_law_385 : decode cL_law 385 = .ok (.aload_n 1, 1) := by decide +kernel
theorem dL_law_386 : decode cL_law 386 = .ok (.aload_n 0, 1) := by decide +kernel
theorem dL_law_387 : decode cL_law 387 = .ok (.iload_n 3, 1) := by decide +kernel
theorem dL_law_388 : decode cL_law 388 = .ok (.iconst 1, 1) := by decide +kernel
theorem dL_law_389 : decode cL_law 389 = .ok (.iadd, 1) := by decide +kernel
theorem dL_law_390 : decode cL_law 390 = .ok (.iaload, 1) := by decide +kernel
theorem dL_law_391 : decode cL_law 391 = .ok (.invokevirtual 49, 3) := by decide +kernel
theorem dL_law_394 : decode cL_law 394 = .ok (.aload_n 2, 1) := by decide +kernel
theorem dL_law_395 : decode cL_law 395 = .ok (.aload_n 0, 1) := by decide +kernel
theorem dL_law_396 : decode cL_law 396 = .ok (.iload_n 3, 1) := by decide +kernel
theorem dL_law_397 : decode cL_law 397 = .ok (.iconst 1, 1) := by decide +kernel
theorem dL_law_398 : decode cL_law 398 = .ok (.iadd, 1) := by decide +kernel
theorem dL_law_399 : decode cL_law 399 = .ok (.iaload, 1) := by decide +kernel
theorem dL_law_400 : decode cL_law 400 = .ok (.invokevirtual 52, 3) := by decide +kernel
theorem dL_law_403 : decode cL_law 403 = .ok (.if_icmp .eq 702, 3) := by decide +kernel
theorem dL_law_406 : decode cL_law 406 = .ok (.iconst 0, 1) := by decide +kernel
theorem dL_law_407 : decode cL_law 407 = .ok (.ireturn, 1) := by decide +kernel
theorem dL_law_408 : decode cL_law 408 = .ok (.aload_n 1, 1) := by decide +kernel
theorem dL_law_409 : decode cL_law 409 = .ok (.aload_n 0, 1) := by decide +kernel
theorem dL_law_410 : decode cL_law 410 = .ok (.iload_n 3, 1) := by decide +kernel
theorem dL_law_411 : decode cL_law 411 = .ok (.iconst 1, 1) := by decide +kernel
theorem dL_law_412 : decode cL_law 412 = .ok (.iadd, 1) := by decide +kernel
theorem dL_law_413 : decode cL_law 413 = .ok (.iaload, 1) := by decide +kernel
theorem dL_law_414 : decode cL_law 414 = .ok (.invokevirtual 53, 3) := by decide +kernel
theorem dL_law_417 : decode cL_law 417 = .ok (.aload_n 2, 1) := by decide +kernel
theorem dL_law_418 : decode cL_law 418 = .ok (.aload_n 0, 1) := by decide +kernel
theorem dL_law_419 : decode cL_law 419 = .ok (.iload_n 3, 1) := by decide +kernel
theorem dL_law_420 : decode cL_law 420 = .ok (.iconst 1, 1) := by decide +kernel
theorem dL_law_421 : decode cL_law 421 = .ok (.iadd, 1) := by decide +kernel
theorem dL_law_422 : decode cL_law 422 = .ok (.iaload, 1) := by decide +kernel
theorem dL_law_423 : decode cL_law 423 = .ok (.invokevirtual 56, 3) := by decide +kernel
theorem dL_law_426 : decode cL_law 426 = .ok (.if_icmp .eq 679, 3) := by decide +kernel
theorem dL_law_429 : decode cL_law 429 = .ok (.iconst 0, 1) := by decide +kernel
theorem dL_law_430 : decode cL_law 430 = .ok (.ireturn, 1) := by decide +kernel
theorem dL_law_431 : decode cL_law 431 = .ok (.aload_n 1, 1) := by decide +kernel
theorem dL_law_432 : decode cL_law 432 = .ok (.aload_n 0, 1) := by decide +kernel
theorem dL_law_433 : decode cL_law 433 = .ok (.iload_n 3, 1) := by decide +kernel
theorem dL_law_434 : decode cL_law 434 = .ok (.iconst 1, 1) := by decide +kernel
theorem dL_law_435 : decode cL_law 435 = .ok (.iadd, 1) := by decide +kernel
theorem dL_law_436 : decode cL_law 436 = .ok (.iaload, 1) := by decide +kernel
theorem dL_law_437 : decode cL_law 437 = .ok (.invokevirtual 57, 3) := by decide +kernel
theorem dL_law_440 : decode cL_law 440 = .ok (.aload_n 2, 1) := by decide +kernel
theorem dL_law_441 : decode cL_law 441 = .ok (.aload_n 0, 1) := by decide +kernel
theorem dL_law_442 : decode cL_law 442 = .ok (.iload_n 3, 1) := by decide +kernel
theorem dL_law_443 : decode cL_law 443 = .ok (.iconst 1, 1) := by decide +kernel
theorem dL_law_444 : decode cL_law 444 = .ok (.iadd, 1) := by decide +kernel
theorem dL_law_445 : decode cL_law 445 = .ok (.iaload, 1) := by decide +kernel
theorem dL_law_446 : decode cL_law 446 = .ok (.invokevirtual 60, 3) := by decide +kernel
theorem dL_law_449 : decode cL_law 449 = .ok (.if_icmp .eq 656, 3) := by decide +kernel
theorem dL_law_452 : decode cL_law 452 = .ok (.iconst 0, 1) := by decide +kernel
theorem dL_law_453 : decode cL_law 453 = .ok (.ireturn, 1) := by decide +kernel
theorem dL_law_454 : decode cL_law 454 = .ok (.aload_n 1, 1) := by decide +kernel
theorem dL_law_455 : decode cL_law 455 = .ok (.invokevirtual 61, 3) := by decide +kernel
theorem dL_law_458 : decode cL_law 458 = .ok (.aload_n 2, 1) := by decide +kernel
theorem dL_law_459 : decode cL_law 459 = .ok (.invokevirtual 64, 3) := by decide +kernel
theorem dL_law_462 : decode cL_law 462 = .ok (.if_icmp .eq 643, 3) := by decide +kernel
theorem dL_law_465 : decode cL_law 465 = .ok (.iconst 0, 1) := by decide +kernel
theorem dL_law_466 : decode cL_law 466 = .ok (.ireturn, 1) := by decide +kernel
theorem dL_law_467 : decode cL_law 467 = .ok (.aload_n 1, 1) := by decide +kernel
theorem dL_law_468 : decode cL_law 468 = .ok (.invokevirtual 65, 3) := by decide +kernel
theorem dL_law_471 : decode cL_law 471 = .ok (.aload_n 2, 1) := by decide +kernel
theorem dL_law_472 : decode cL_law 472 = .ok (.invokevirtual 68, 3) := by decide +kernel
theorem dL_law_475 : decode cL_law 475 = .ok (.if_icmp .eq 630, 3) := by decide +kernel
theorem dL_law_478 : decode cL_law 478 = .ok (.iconst 0, 1) := by decide +kernel
theorem dL_law_479 : decode cL_law 479 = .ok (.ireturn, 1) := by decide +kernel
theorem dL_law_480 : decode cL_law 480 = .ok (.aload_n 1, 1) := by decide +kernel
theorem dL_law_481 : decode cL_law 481 = .ok (.aload_n 0, 1) := by decide +kernel
theorem dL_law_482 : decode cL_law 482 = .ok (.iload_n 3, 1) := by decide +kernel
theorem dL_law_483 : decode cL_law 483 = .ok (.iconst 1, 1) := by decide +kernel
theorem dL_law_484 : decode cL_law 484 = .ok (.iadd, 1) := by decide +kernel
theorem dL_law_485 : decode cL_law 485 = .ok (.iaload, 1) := by decide +kernel
theorem dL_law_486 : decode cL_law 486 = .ok (.aload_n 0, 1) := by decide +kernel
theorem dL_law_487 : decode cL_law 487 = .ok (.iload_n 3, 1) := by decide +kernel
theorem dL_law_488 : decode cL_law 488 = .ok (.iconst 2, 1) := by decide +kernel
theorem dL_law_489 : decode cL_law 489 = .ok (.iadd, 1) := by decide +kernel
theorem dL_law_490 : decode cL_law 490 = .ok (.iaload, 1) := by decide +kernel
theorem dL_law_491 : decode cL_law 491 = .ok (.invokevirtual 69, 3) := by decide +kernel
theorem dL_law_494 : decode cL_law 494 = .ok (.aload_n 2, 1) := by decide +kernel
theorem dL_law_495 : decode cL_law 495 = .ok (.aload_n 0, 1) := by decide +kernel
theorem dL_law_496 : decode cL_law 496 = .ok (.iload_n 3, 1) := by decide +kernel
theorem dL_law_497 : decode cL_law 497 = .ok (.iconst 1, 1) := by decide +kernel
theorem dL_law_498 : decode cL_law 498 = .ok (.iadd, 1) := by decide +kernel
theorem dL_law_499 : decode cL_law 499 = .ok (.iaload, 1) := by decide +kernel
theorem dL_law_500 : decode cL_law 500 = .ok (.aload_n 0, 1) := by decide +kernel
theorem dL_law_501 : decode cL_law 501 = .ok (.iload_n 3, 1) := by decide +kernel
theorem dL_law_502 : decode cL_law 502 = .ok (.iconst 2, 1) := by decide +kernel
theorem dL_law_503 : decode cL_law 503 = .ok (.iadd, 1) := by decide +kernel
theorem dL_law_504 : decode cL_law 504 = .ok (.iaload, 1) := by decide +kernel
theorem dL_law_505 : decode cL_law 505 = .ok (.invokevirtual 72, 3) := by decide +kernel
theorem dL_law_508 : decode cL_law 508 = .ok (.if_icmp .eq 597, 3) := by decide +kernel
theorem dL_law_511 : decode cL_law 511 = .ok (.iconst 0, 1) := by decide +kernel
theorem dL_law_512 : decode cL_law 512 = .ok (.ireturn, 1) := by decide +kernel
theorem dL_law_513 : decode cL_law 513 = .ok (.aload_n 1, 1) := by decide +kernel
theorem dL_law_514 : decode cL_law 514 = .ok (.aload_n 0, 1) := by decide +kernel
theorem dL_law_515 : decode cL_law 515 = .ok (.iload_n 3, 1) := by decide +kernel
theorem dL_law_516 : decode cL_law 516 = .ok (.iconst 1, 1) := by decide +kernel
theorem dL_law_517 : decode cL_law 517 = .ok (.iadd, 1) := by decide +kernel
theorem dL_law_518 : decode cL_law 518 = .ok (.iaload, 1) := by decide +kernel
theorem dL_law_519 : decode cL_law 519 = .ok (.invokevirtual 73, 3) := by decide +kernel
theorem dL_law_522 : decode cL_law 522 = .ok (.aload_n 2, 1) := by decide +kernel
theorem dL_law_523 : decode cL_law 523 = .ok (.aload_n 0, 1) := by decide +kernel
theorem dL_law_524 : decode cL_law 524 = .ok (.iload_n 3, 1) := by decide +kernel
theorem dL_law_525 : decode cL_law 525 = .ok (.iconst 1, 1) := by decide +kernel
theorem dL_law_526 : decode cL_law 526 = .ok (.iadd, 1) := by decide +kernel
theorem dL_law_527 : decode cL_law 527 = .ok (.iaload, 1) := by decide +kernel
theorem dL_law_528 : decode cL_law 528 = .ok (.invokevirtual 76, 3) := by decide +kernel
theorem dL_law_531 : decode cL_law 531 = .ok (.if_icmp .eq 574, 3) := by decide +kernel
theorem dL_law_534 : decode cL_law 534 = .ok (.iconst 0, 1) := by decide +kernel
theorem dL_law_535 : decode cL_law 535 = .ok (.ireturn, 1) := by decide +kernel
theorem dL_law_536 : decode cL_law 536 = .ok (.aload_n 1, 1) := by decide +kernel
theorem dL_law_537 : decode cL_law 537 = .ok (.invokevirtual 77, 3) := by decide +kernel
theorem dL_law_540 : decode cL_law 540 = .ok (.aload_n 2, 1) := by decide +kernel
theorem dL_law_541 : decode cL_law 541 = .ok (.invokevirtual 80, 3) := by decide +kernel
theorem dL_law_544 : decode cL_law 544 = .ok (.if_icmp .eq 561, 3) := by decide +kernel
theorem dL_law_547 : decode cL_law 547 = .ok (.iconst 0, 1) := by decide +kernel
theorem dL_law_548 : decode cL_law 548 = .ok (.ireturn, 1) := by decide +kernel
theorem dL_law_549 : decode cL_law 549 = .ok (.aload_n 1, 1) := by decide +kernel
theorem dL_law_550 : decode cL_law 550 = .ok (.invokevirtual 81, 3) := by decide +kernel
theorem dL_law_553 : decode cL_law 553 = .ok (.aload_n 2, 1) := by decide +kernel
theorem dL_law_554 : decode cL_law 554 = .ok (.invokevirtual 84, 3) := by decide +kernel
theorem dL_law_557 : decode cL_law 557 = .ok (.if_icmp .eq 548, 3) := by decide +kernel
theorem dL_law_560 : decode cL_law 560 = .ok (.iconst 0, 1) := by decide +kernel
theorem dL_law_561 : decode cL_law 561 = .ok (.ireturn, 1) := by decide +kernel
theorem dL_law_562 : decode cL_law 562 = .ok (.aload_n 1, 1) := by decide +kernel
theorem dL_law_563 : decode cL_law 563 = .ok (.invokevirtual 85, 3) := by decide +kernel
theorem dL_law_566 : decode cL_law 566 = .ok (.aload_n 2, 1) := by decide +kernel
theorem dL_law_567 : decode cL_law 567 = .ok (.invokevirtual 88, 3) := by decide +kernel
theorem dL_law_570 : decode cL_law 570 = .ok (.if_icmp .eq 535, 3) := by decide +kernel
theorem dL_law_573 : decode cL_law 573 = .ok (.iconst 0, 1) := by decide +kernel
theorem dL_law_574 : decode cL_law 574 = .ok (.ireturn, 1) := by decide +kernel
theorem dL_law_575 : decode cL_law 575 = .ok (.aload_n 1, 1) := by decide +kernel
theorem dL_law_576 : decode cL_law 576 = .ok (.aload_n 0, 1) := by decide +kernel
theorem dL_law_577 : decode cL_law 577 = .ok (.iload_n 3, 1) := by decide +kernel
theorem dL_law_578 : decode cL_law 578 = .ok (.iconst 1, 1) := by decide +kernel
theorem dL_law_579 : decode cL_law 579 = .ok (.iadd, 1) := by decide +kernel
theorem dL_law_580 : decode cL_law 580 = .ok (.iaload, 1) := by decide +kernel
theorem dL_law_581 : decode cL_law 581 = .ok (.aload_n 0, 1) := by decide +kernel
theorem dL_law_582 : decode cL_law 582 = .ok (.iload_n 3, 1) := by decide +kernel
theorem dL_law_583 : decode cL_law 583 = .ok (.iconst 2, 1) := by decide +kernel
theorem dL_law_584 : decode cL_law 584 = .ok (.iadd, 1) := by decide +kernel
theorem dL_law_585 : decode cL_law 585 = .ok (.iaload, 1) := by decide +kernel
theorem dL_law_586 : decode cL_law 586 = .ok (.aload_n 0, 1) := by decide +kernel
theorem dL_law_587 : decode cL_law 587 = .ok (.iload_n 3, 1) := by decide +kernel
theorem dL_law_588 : decode cL_law 588 = .ok (.iconst 3, 1) := by decide +kernel
theorem dL_law_589 : decode cL_law 589 = .ok (.iadd, 1) := by decide +kernel
theorem dL_law_590 : decode cL_law 590 = .ok (.iaload, 1) := by decide +kernel
theorem dL_law_591 : decode cL_law 591 = .ok (.aload_n 0, 1) := by decide +kernel
theorem dL_law_592 : decode cL_law 592 = .ok (.iload_n 3, 1) := by decide +kernel
theorem dL_law_593 : decode cL_law 593 = .ok (.iconst 4, 1) := by decide +kernel
theorem dL_law_594 : decode cL_law 594 = .ok (.iadd, 1) := by decide +kernel
theorem dL_law_595 : decode cL_law 595 = .ok (.iaload, 1) := by decide +kernel
theorem dL_law_596 : decode cL_law 596 = .ok (.invokevirtual 89, 3) := by decide +kernel
theorem dL_law_599 : decode cL_law 599 = .ok (.aload_n 2, 1) := by decide +kernel
theorem dL_law_600 : decode cL_law 600 = .ok (.aload_n 0, 1) := by decide +kernel
theorem dL_law_601 : decode cL_law 601 = .ok (.iload_n 3, 1) := by decide +kernel
theorem dL_law_602 : decode cL_law 602 = .ok (.iconst 1, 1) := by decide +kernel
theorem dL_law_603 : decode cL_law 603 = .ok (.iadd, 1) := by decide +kernel
theorem dL_law_604 : decode cL_law 604 = .ok (.iaload, 1) := by decide +kernel
theorem dL_law_605 : decode cL_law 605 = .ok (.aload_n 0, 1) := by decide +kernel
theorem dL_law_606 : decode cL_law 606 = .ok (.iload_n 3, 1) := by decide +kernel
theorem dL_law_607 : decode cL_law 607 = .ok (.iconst 2, 1) := by decide +kernel
theorem dL_law_608 : decode cL_law 608 = .ok (.iadd, 1) := by decide +kernel
theorem dL_law_609 : decode cL_law 609 = .ok (.iaload, 1) := by decide +kernel
theorem dL_law_610 : decode cL_law 610 = .ok (.aload_n 0, 1) := by decide +kernel
theorem dL_law_611 : decode cL_law 611 = .ok (.iload_n 3, 1) := by decide +kernel
theorem dL_law_612 : decode cL_law 612 = .ok (.iconst 3, 1) := by decide +kernel
theorem dL_law_613 : decode cL_law 613 = .ok (.iadd, 1) := by decide +kernel
theorem dL_law_614 : decode cL_law 614 = .ok (.iaload, 1) := by decide +kernel
theorem dL_law_615 : decode cL_law 615 = .ok (.aload_n 0, 1) := by decide +kernel
theorem dL_law_616 : decode cL_law 616 = .ok (.iload_n 3, 1) := by decide +kernel
theorem dL_law_617 : decode cL_law 617 = .ok (.iconst 4, 1) := by decide +kernel
theorem dL_law_618 : decode cL_law 618 = .ok (.iadd, 1) := by decide +kernel
theorem dL_law_619 : decode cL_law 619 = .ok (.iaload, 1) := by decide +kernel
theorem dL_law_620 : decode cL_law 620 = .ok (.invokevirtual 93, 3) := by decide +kernel
theorem dL_law_623 : decode cL_law 623 = .ok (.if_icmp .eq 482, 3) := by decide +kernel
theorem dL_law_626 : decode cL_law 626 = .ok (.iconst 0, 1) := by decide +kernel
theorem dL_law_627 : decode cL_law 627 = .ok (.ireturn, 1) := by decide +kernel
theorem dL_law_628 : decode cL_law 628 = .ok (.aload_n 1, 1) := by decide +kernel
theorem dL_law_629 : decode cL_law 629 = .ok (.aload_n 0, 1) := by decide +kernel
theorem dL_law_630 : decode cL_law 630 = .ok (.iload_n 3, 1) := by decide +kernel
theorem dL_law_631 : decode cL_law 631 = .ok (.iconst 1, 1) := by decide +kernel
theorem dL_law_632 : decode cL_law 632 = .ok (.iadd, 1) := by decide +kernel
theorem dL_law_633 : decode cL_law 633 = .ok (.iaload, 1) := by decide +kernel
theorem dL_law_634 : decode cL_law 634 = .ok (.aload_n 0, 1) := by decide +kernel
theorem dL_law_635 : decode cL_law 635 = .ok (.iload_n 3, 1) := by decide +kernel
theorem dL_law_636 : decode cL_law 636 = .ok (.iconst 2, 1) := by decide +kernel
theorem dL_law_637 : decode cL_law 637 = .ok (.iadd, 1) := by decide +kernel
theorem dL_law_638 : decode cL_law 638 = .ok (.iaload, 1) := by decide +kernel
theorem dL_law_639 : decode cL_law 639 = .ok (.aload_n 0, 1) := by decide +kernel
theorem dL_law_640 : decode cL_law 640 = .ok (.iload_n 3, 1) := by decide +kernel
theorem dL_law_641 : decode cL_law 641 = .ok (.iconst 3, 1) := by decide +kernel
theorem dL_law_642 : decode cL_law 642 = .ok (.iadd, 1) := by decide +kernel
theorem dL_law_643 : decode cL_law 643 = .ok (.iaload, 1) := by decide +kernel
theorem dL_law_644 : decode cL_law 644 = .ok (.invokevirtual 94, 3) := by decide +kernel
theorem dL_law_647 : decode cL_law 647 = .ok (.aload_n 2, 1) := by decide +kernel
theorem dL_law_648 : decode cL_law 648 = .ok (.aload_n 0, 1) := by decide +kernel
theorem dL_law_649 : decode cL_law 649 = .ok (.iload_n 3, 1) := by decide +kernel
theorem dL_law_650 : decode cL_law 650 = .ok (.iconst 1, 1) := by decide +kernel
theorem dL_law_651 : decode cL_law 651 = .ok (.iadd, 1) := by decide +kernel
theorem dL_law_652 : decode cL_law 652 = .ok (.iaload, 1) := by decide +kernel
theorem dL_law_653 : decode cL_law 653 = .ok (.aload_n 0, 1) := by decide +kernel
theorem dL_law_654 : decode cL_law 654 = .ok (.iload_n 3, 1) := by decide +kernel
theorem dL_law_655 : decode cL_law 655 = .ok (.iconst 2, 1) := by decide +kernel
theorem dL_law_656 : decode cL_law 656 = .ok (.iadd, 1) := by decide +kernel
theorem dL_law_657 : decode cL_law 657 = .ok (.iaload, 1) := by decide +kernel
theorem dL_law_658 : decode cL_law 658 = .ok (.aload_n 0, 1) := by decide +kernel
theorem dL_law_659 : decode cL_law 659 = .ok (.iload_n 3, 1) := by decide +kernel
theorem dL_law_660 : decode cL_law 660 = .ok (.iconst 3, 1) := by decide +kernel
theorem dL_law_661 : decode cL_law 661 = .ok (.iadd, 1) := by decide +kernel
theorem dL_law_662 : decode cL_law 662 = .ok (.iaload, 1) := by decide +kernel
theorem dL_law_663 : decode cL_law 663 = .ok (.invokevirtual 98, 3) := by decide +kernel
theorem dL_law_666 : decode cL_law 666 = .ok (.if_icmp .eq 439, 3) := by decide +kernel
theorem dL_law_669 : decode cL_law 669 = .ok (.iconst 0, 1) := by decide +kernel
theorem dL_law_670 : decode cL_law 670 = .ok (.ireturn, 1) := by decide +kernel
theorem dL_law_671 : decode cL_law 671 = .ok (.aload_n 1, 1) := by decide +kernel
theorem dL_law_672 : decode cL_law 672 = .ok (.aload_n 0, 1) := by decide +kernel
theorem dL_law_673 : decode cL_law 673 = .ok (.iload_n 3, 1) := by decide +kernel
theorem dL_law_674 : decode cL_law 674 = .ok (.iconst 1, 1) := by decide +kernel
theorem dL_law_675 : decode cL_law 675 = .ok (.iadd, 1) := by decide +kernel
theorem dL_law_676 : decode cL_law 676 = .ok (.iaload, 1) := by decide +kernel
theorem dL_law_677 : decode cL_law 677 = .ok (.invokevirtual 99, 3) := by decide +kernel
theorem dL_law_680 : decode cL_law 680 = .ok (.aload_n 2, 1) := by decide +kernel
theorem dL_law_681 : decode cL_law 681 = .ok (.aload_n 0, 1) := by decide +kernel
theorem dL_law_682 : decode cL_law 682 = .ok (.iload_n 3, 1) := by decide +kernel
theorem dL_law_683 : decode cL_law 683 = .ok (.iconst 1, 1) := by decide +kernel
theorem dL_law_684 : decode cL_law 684 = .ok (.iadd, 1) := by decide +kernel
theorem dL_law_685 : decode cL_law 685 = .ok (.iaload, 1) := by decide +kernel
theorem dL_law_686 : decode cL_law 686 = .ok (.invokevirtual 102, 3) := by decide +kernel
theorem dL_law_689 : decode cL_law 689 = .ok (.if_icmp .eq 416, 3) := by decide +kernel
theorem dL_law_692 : decode cL_law 692 = .ok (.iconst 0, 1) := by decide +kernel
theorem dL_law_693 : decode cL_law 693 = .ok (.ireturn, 1) := by decide +kernel
theorem dL_law_694 : decode cL_law 694 = .ok (.aload_n 1, 1) := by decide +kernel
theorem dL_law_695 : decode cL_law 695 = .ok (.aload_n 0, 1) := by decide +kernel
theorem dL_law_696 : decode cL_law 696 = .ok (.iload_n 3, 1) := by decide +kernel
theorem dL_law_697 : decode cL_law 697 = .ok (.iconst 1, 1) := by decide +kernel
theorem dL_law_698 : decode cL_law 698 = .ok (.iadd, 1) := by decide +kernel
theorem dL_law_699 : decode cL_law 699 = .ok (.iaload, 1) := by decide +kernel
theorem dL_law_700 : decode cL_law 700 = .ok (.invokevirtual 103, 3) := by decide +kernel
theorem dL_law_703 : decode cL_law 703 = .ok (.aload_n 2, 1) := by decide +kernel
theorem dL_law_704 : decode cL_law 704 = .ok (.aload_n 0, 1) := by decide +kernel
theorem dL_law_705 : decode cL_law 705 = .ok (.iload_n 3, 1) := by decide +kernel
theorem dL_law_706 : decode cL_law 706 = .ok (.iconst 1, 1) := by decide +kernel
theorem dL_law_707 : decode cL_law 707 = .ok (.iadd, 1) := by decide +kernel
theorem dL_law_708 : decode cL_law 708 = .ok (.iaload, 1) := by decide +kernel
theorem dL_law_709 : decode cL_law 709 = .ok (.invokevirtual 106, 3) := by decide +kernel
theorem dL_law_712 : decode cL_law 712 = .ok (.if_icmp .eq 393, 3) := by decide +kernel
theorem dL_law_715 : decode cL_law 715 = .ok (.iconst 0, 1) := by decide +kernel
theorem dL_law_716 : decode cL_law 716 = .ok (.ireturn, 1) := by decide +kernel
theorem dL_law_717 : decode cL_law 717 = .ok (.aload_n 1, 1) := by decide +kernel
theorem dL_law_718 : decode cL_law 718 = .ok (.invokevirtual 107, 3) := by decide +kernel
theorem dL_law_721 : decode cL_law 721 = .ok (.aload_n 2, 1) := by decide +kernel
theorem dL_law_722 : decode cL_law 722 = .ok (.invokevirtual 110, 3) := by decide +kernel
theorem dL_law_725 : decode cL_law 725 = .ok (.if_icmp .eq 380, 3) := by decide +kernel
theorem dL_law_728 : decode cL_law 728 = .ok (.iconst 0, 1) := by decide +kernel
theorem dL_law_729 : decode cL_law 729 = .ok (.ireturn, 1) := by decide +kernel
theorem dL_law_730 : decode cL_law 730 = .ok (.aload_n 1, 1) := by decide +kernel
theorem dL_law_731 : decode cL_law 731 = .ok (.aload_n 0, 1) := by decide +kernel
theorem dL_law_732 : decode cL_law 732 = .ok (.iload_n 3, 1) := by decide +kernel
theorem dL_law_733 : decode cL_law 733 = .ok (.iconst 1, 1) := by decide +kernel
theorem dL_law_734 : decode cL_law 734 = .ok (.iadd, 1) := by decide +kernel
theorem dL_law_735 : decode cL_law 735 = .ok (.iaload, 1) := by decide +kernel
theorem dL_law_736 : decode cL_law 736 = .ok (.invokevirtual 111, 3) := by decide +kernel
theorem dL_law_739 : decode cL_law 739 = .ok (.aload_n 2, 1) := by decide +kernel
theorem dL_law_740 : decode cL_law 740 = .ok (.aload_n 0, 1) := by decide +kernel
theorem dL_law_741 : decode cL_law 741 = .ok (.iload_n 3, 1) := by decide +kernel
theorem dL_law_742 : decode cL_law 742 = .ok (.iconst 1, 1) := by decide +kernel
theorem dL_law_743 : decode cL_law 743 = .ok (.iadd, 1) := by decide +kernel
theorem dL_law_744 : decode cL_law 744 = .ok (.iaload, 1) := by decide +kernel
theorem dL_law_745 : decode cL_law 745 = .ok (.invokevirtual 114, 3) := by decide +kernel
theorem dL_law_748 : decode cL_law 748 = .ok (.if_icmp .eq 357, 3) := by decide +kernel
theorem dL_law_751 : decode cL_law 751 = .ok (.iconst 0, 1) := by decide +kernel
theorem dL_law_752 : decode cL_law 752 = .ok (.ireturn, 1) := by decide +kernel
theorem dL_law_753 : decode cL_law 753 = .ok (.aload_n 1, 1) := by decide +kernel
theorem dL_law_754 : decode cL_law 754 = .ok (.aload_n 0, 1) := by decide +kernel
theorem dL_law_755 : decode cL_law 755 = .ok (.iload_n 3, 1) := by decide +kernel
theorem dL_law_756 : decode cL_law 756 = .ok (.iconst 1, 1) := by decide +kernel
theorem dL_law_757 : decode cL_law 757 = .ok (.iadd, 1) := by decide +kernel
theorem dL_law_758 : decode cL_law 758 = .ok (.iaload, 1) := by decide +kernel
theorem dL_law_759 : decode cL_law 759 = .ok (.invokevirtual 115, 3) := by decide +kernel
theorem dL_law_762 : decode cL_law 762 = .ok (.aload_n 2, 1) := by decide +kernel
theorem dL_law_763 : decode cL_law 763 = .ok (.aload_n 0, 1) := by decide +kernel
theorem dL_law_764 : decode cL_law 764 = .ok (.iload_n 3, 1) := by decide +kernel
theorem dL_law_765 : decode cL_law 765 = .ok (.iconst 1, 1) := by decide +kernel
theorem dL_law_766 : decode cL_law 766 = .ok (.iadd, 1) := by decide +kernel
theorem dL_law_767 : decode cL_law 767 = .ok (.iaload, 1) := by decide +kernel
theorem dL_law_768 : decode cL_law 768 = .ok (.invokevirtual 118, 3) := by decide +kernel
theorem dL_law_771 : decode cL_law 771 = .ok (.if_icmp .eq 334, 3) := by decide +kernel
theorem dL_law_774 : decode cL_law 774 = .ok (.iconst 0, 1) := by decide +kernel
theorem dL_law_775 : decode cL_law 775 = .ok (.ireturn, 1) := by decide +kernel
theorem dL_law_776 : decode cL_law 776 = .ok (.aload_n 1, 1) := by decide +kernel
theorem dL_law_777 : decode cL_law 777 = .ok (.aload_n 0, 1) := by decide +kernel
theorem dL_law_778 : decode cL_law 778 = .ok (.iload_n 3, 1) := by decide +kernel
theorem dL_law_779 : decode cL_law 779 = .ok (.iconst 1, 1) := by decide +kernel
theorem dL_law_780 : decode cL_law 780 = .ok (.iadd, 1) := by decide +kernel
theorem dL_law_781 : decode cL_law 781 = .ok (.iaload, 1) := by decide +kernel
theorem dL_law_782 : decode cL_law 782 = .ok (.invokevirtual 119, 3) := by decide +kernel
theorem dL_law_785 : decode cL_law 785 = .ok (.aload_n 2, 1) := by decide +kernel
theorem dL_law_786 : decode cL_law 786 = .ok (.aload_n 0, 1) := by decide +kernel
theorem dL_law_787 : decode cL_law 787 = .ok (.iload_n 3, 1) := by decide +kernel
theorem dL_law_788 : decode cL_law 788 = .ok (.iconst 1, 1) := by decide +kernel
theorem dL_law_789 : decode cL_law 789 = .ok (.iadd, 1) := by decide +kernel
theorem dL_law_790 : decode cL_law 790 = .ok (.iaload, 1) := by decide +kernel
theorem dL_law_791 : decode cL_law 791 = .ok (.invokevirtual 122, 3) := by decide +kernel
theorem dL_law_794 : decode cL_law 794 = .ok (.if_icmp .eq 311, 3) := by decide +kernel
theorem dL_law_797 : decode cL_law 797 = .ok (.iconst 0, 1) := by decide +kernel
theorem dL_law_798 : decode cL_law 798 = .ok (.ireturn, 1) := by decide +kernel
theorem dL_law_799 : decode cL_law 799 = .ok (.aload_n 1, 1) := by decide +kernel
theorem dL_law_800 : decode cL_law 800 = .ok (.aload_n 0, 1) := by decide +kernel
theorem dL_law_801 : decode cL_law 801 = .ok (.iload_n 3, 1) := by decide +kernel
theorem dL_law_802 : decode cL_law 802 = .ok (.iconst 1, 1) := by decide +kernel
theorem dL_law_803 : decode cL_law 803 = .ok (.iadd, 1) := by decide +kernel
theorem dL_law_804 : decode cL_law 804 = .ok (.iaload, 1) := by decide +kernel
theorem dL_law_805 : decode cL_law 805 = .ok (.aload_n 0, 1) := by decide +kernel
theorem dL_law_806 : decode cL_law 806 = .ok (.iload_n 3, 1) := by decide +kernel
theorem dL_law_807 : decode cL_law 807 = .ok (.iconst 2, 1) := by decide +kernel
theorem dL_law_808 : decode cL_law 808 = .ok (.iadd, 1) := by decide +kernel
theorem dL_law_809 : decode cL_law 809 = .ok (.iaload, 1) := by decide +kernel
theorem dL_law_810 : decode cL_law 810 = .ok (.invokevirtual 123, 3) := by decide +kernel
theorem dL_law_813 : decode cL_law 813 = .ok (.aload_n 2, 1) := by decide +kernel
theorem dL_law_814 : decode cL_law 814 = .ok (.aload_n 0, 1) := by decide +kernel
theorem dL_law_815 : decode cL_law 815 = .ok (.iload_n 3, 1) := by decide +kernel
theorem dL_law_816 : decode cL_law 816 = .ok (.iconst 1, 1) := by decide +kernel
theorem dL_law_817 : decode cL_law 817 = .ok (.iadd, 1) := by decide +kernel
theorem dL_law_818 : decode cL_law 818 = .ok (.iaload, 1) := by decide +kernel
theorem dL_law_819 : decode cL_law 819 = .ok (.aload_n 0, 1) := by decide +kernel
theorem dL_law_820 : decode cL_law 820 = .ok (.iload_n 3, 1) := by decide +kernel
theorem dL_law_821 : decode cL_law 821 = .ok (.iconst 2, 1) := by decide +kernel
theorem dL_law_822 : decode cL_law 822 = .ok (.iadd, 1) := by decide +kernel
theorem dL_law_823 : decode cL_law 823 = .ok (.iaload, 1) := by decide +kernel
theorem dL_law_824 : decode cL_law 824 = .ok (.invokevirtual 126, 3) := by decide +kernel
theorem dL_law_827 : decode cL_law 827 = .ok (.if_icmp .eq 278, 3) := by decide +kernel
theorem dL_law_830 : decode cL_law 830 = .ok (.iconst 0, 1) := by decide +kernel
theorem dL_law_831 : decode cL_law 831 = .ok (.ireturn, 1) := by decide +kernel
theorem dL_law_832 : decode cL_law 832 = .ok (.aload_n 1, 1) := by decide +kernel
theorem dL_law_833 : decode cL_law 833 = .ok (.aload_n 0, 1) := by decide +kernel
theorem dL_law_834 : decode cL_law 834 = .ok (.iload_n 3, 1) := by decide +kernel
theorem dL_law_835 : decode cL_law 835 = .ok (.iconst 1, 1) := by decide +kernel
theorem dL_law_836 : decode cL_law 836 = .ok (.iadd, 1) := by decide +kernel
theorem dL_law_837 : decode cL_law 837 = .ok (.iaload, 1) := by decide +kernel
theorem dL_law_838 : decode cL_law 838 = .ok (.aload_n 0, 1) := by decide +kernel
theorem dL_law_839 : decode cL_law 839 = .ok (.iload_n 3, 1) := by decide +kernel
theorem dL_law_840 : decode cL_law 840 = .ok (.iconst 2, 1) := by decide +kernel
theorem dL_law_841 : decode cL_law 841 = .ok (.iadd, 1) := by decide +kernel
theorem dL_law_842 : decode cL_law 842 = .ok (.iaload, 1) := by decide +kernel
theorem dL_law_843 : decode cL_law 843 = .ok (.invokevirtual 127, 3) := by decide +kernel
theorem dL_law_846 : decode cL_law 846 = .ok (.aload_n 2, 1) := by decide +kernel
theorem dL_law_847 : decode cL_law 847 = .ok (.aload_n 0, 1) := by decide +kernel
theorem dL_law_848 : decode cL_law 848 = .ok (.iload_n 3, 1) := by decide +kernel
theorem dL_law_849 : decode cL_law 849 = .ok (.iconst 1, 1) := by decide +kernel
theorem dL_law_850 : decode cL_law 850 = .ok (.iadd, 1) := by decide +kernel
theorem dL_law_851 : decode cL_law 851 = .ok (.iaload, 1) := by decide +kernel
theorem dL_law_852 : decode cL_law 852 = .ok (.aload_n 0, 1) := by decide +kernel
theorem dL_law_853 : decode cL_law 853 = .ok (.iload_n 3, 1) := by decide +kernel
theorem dL_law_854 : decode cL_law 854 = .ok (.iconst 2, 1) := by decide +kernel
theorem dL_law_855 : decode cL_law 855 = .ok (.iadd, 1) := by decide +kernel
theorem dL_law_856 : decode cL_law 856 = .ok (.iaload, 1) := by decide +kernel
theorem dL_law_857 : decode cL_law 857 = .ok (.invokevirtual 130, 3) := by decide +kernel
theorem dL_law_860 : decode cL_law 860 = .ok (.if_icmp .eq 245, 3) := by decide +kernel
theorem dL_law_863 : decode cL_law 863 = .ok (.iconst 0, 1) := by decide +kernel
theorem dL_law_864 : decode cL_law 864 = .ok (.ireturn, 1) := by decide +kernel
theorem dL_law_865 : decode cL_law 865 = .ok (.aload_n 1, 1) := by decide +kernel
theorem dL_law_866 : decode cL_law 866 = .ok (.aload_n 0, 1) := by decide +kernel
theorem dL_law_867 : decode cL_law 867 = .ok (.iload_n 3, 1) := by decide +kernel
theorem dL_law_868 : decode cL_law 868 = .ok (.iconst 1, 1) := by decide +kernel
theorem dL_law_869 : decode cL_law 869 = .ok (.iadd, 1) := by decide +kernel
theorem dL_law_870 : decode cL_law 870 = .ok (.iaload, 1) := by decide +kernel
theorem dL_law_871 : decode cL_law 871 = .ok (.aload_n 0, 1) := by decide +kernel
theorem dL_law_872 : decode cL_law 872 = .ok (.iload_n 3, 1) := by decide +kernel
theorem dL_law_873 : decode cL_law 873 = .ok (.iconst 2, 1) := by decide +kernel
theorem dL_law_874 : decode cL_law 874 = .ok (.iadd, 1) := by decide +kernel
theorem dL_law_875 : decode cL_law 875 = .ok (.iaload, 1) := by decide +kernel
theorem dL_law_876 : decode cL_law 876 = .ok (.invokevirtual 131, 3) := by decide +kernel
theorem dL_law_879 : decode cL_law 879 = .ok (.aload_n 2, 1) := by decide +kernel
theorem dL_law_880 : decode cL_law 880 = .ok (.aload_n 0, 1) := by decide +kernel
theorem dL_law_881 : decode cL_law 881 = .ok (.iload_n 3, 1) := by decide +kernel
theorem dL_law_882 : decode cL_law 882 = .ok (.iconst 1, 1) := by decide +kernel
theorem dL_law_883 : decode cL_law 883 = .ok (.iadd, 1) := by decide +kernel
theorem dL_law_884 : decode cL_law 884 = .ok (.iaload, 1) := by decide +kernel
theorem dL_law_885 : decode cL_law 885 = .ok (.aload_n 0, 1) := by decide +kernel
theorem dL_law_886 : decode cL_law 886 = .ok (.iload_n 3, 1) := by decide +kernel
theorem dL_law_887 : decode cL_law 887 = .ok (.iconst 2, 1) := by decide +kernel
theorem dL_law_888 : decode cL_law 888 = .ok (.iadd, 1) := by decide +kernel
theorem dL_law_889 : decode cL_law 889 = .ok (.iaload, 1) := by decide +kernel
theorem dL_law_890 : decode cL_law 890 = .ok (.invokevirtual 134, 3) := by decide +kernel
theorem dL_law_893 : decode cL_law 893 = .ok (.if_icmp .eq 212, 3) := by decide +kernel
theorem dL_law_896 : decode cL_law 896 = .ok (.iconst 0, 1) := by decide +kernel
theorem dL_law_897 : decode cL_law 897 = .ok (.ireturn, 1) := by decide +kernel
theorem dL_law_898 : decode cL_law 898 = .ok (.aload_n 1, 1) := by decide +kernel
theorem dL_law_899 : decode cL_law 899 = .ok (.aload_n 0, 1) := by decide +kernel
theorem dL_law_900 : decode cL_law 900 = .ok (.iload_n 3, 1) := by decide +kernel
theorem dL_law_901 : decode cL_law 901 = .ok (.iconst 1, 1) := by decide +kernel
theorem dL_law_902 : decode cL_law 902 = .ok (.iadd, 1) := by decide +kernel
theorem dL_law_903 : decode cL_law 903 = .ok (.iaload, 1) := by decide +kernel
theorem dL_law_904 : decode cL_law 904 = .ok (.aload_n 0, 1) := by decide +kernel
theorem dL_law_905 : decode cL_law 905 = .ok (.iload_n 3, 1) := by decide +kernel
theorem dL_law_906 : decode cL_law 906 = .ok (.iconst 2, 1) := by decide +kernel
theorem dL_law_907 : decode cL_law 907 = .ok (.iadd, 1) := by decide +kernel
theorem dL_law_908 : decode cL_law 908 = .ok (.iaload, 1) := by decide +kernel
theorem dL_law_909 : decode cL_law 909 = .ok (.invokevirtual 135, 3) := by decide +kernel
theorem dL_law_912 : decode cL_law 912 = .ok (.aload_n 2, 1) := by decide +kernel
theorem dL_law_913 : decode cL_law 913 = .ok (.aload_n 0, 1) := by decide +kernel
theorem dL_law_914 : decode cL_law 914 = .ok (.iload_n 3, 1) := by decide +kernel
theorem dL_law_915 : decode cL_law 915 = .ok (.iconst 1, 1) := by decide +kernel
theorem dL_law_916 : decode cL_law 916 = .ok (.iadd, 1) := by decide +kernel
theorem dL_law_917 : decode cL_law 917 = .ok (.iaload, 1) := by decide +kernel
theorem dL_law_918 : decode cL_law 918 = .ok (.aload_n 0, 1) := by decide +kernel
theorem dL_law_919 : decode cL_law 919 = .ok (.iload_n 3, 1) := by decide +kernel
theorem dL_law_920 : decode cL_law 920 = .ok (.iconst 2, 1) := by decide +kernel
theorem dL_law_921 : decode cL_law 921 = .ok (.iadd, 1) := by decide +kernel
theorem dL_law_922 : decode cL_law 922 = .ok (.iaload, 1) := by decide +kernel
theorem dL_law_923 : decode cL_law 923 = .ok (.invokevirtual 138, 3) := by decide +kernel
theorem dL_law_926 : decode cL_law 926 = .ok (.if_icmp .eq 179, 3) := by decide +kernel
theorem dL_law_929 : decode cL_law 929 = .ok (.iconst 0, 1) := by decide +kernel
theorem dL_law_930 : decode cL_law 930 = .ok (.ireturn, 1) := by decide +kernel
theorem dL_law_931 : decode cL_law 931 = .ok (.aload_n 1, 1) := by decide +kernel
theorem dL_law_932 : decode cL_law 932 = .ok (.aload_n 0, 1) := by decide +kernel
theorem dL_law_933 : decode cL_law 933 = .ok (.iload_n 3, 1) := by decide +kernel
theorem dL_law_934 : decode cL_law 934 = .ok (.iconst 1, 1) := by decide +kernel
theorem dL_law_935 : decode cL_law 935 = .ok (.iadd, 1) := by decide +kernel
theorem dL_law_936 : decode cL_law 936 = .ok (.iaload, 1) := by decide +kernel
theorem dL_law_937 : decode cL_law 937 = .ok (.aload_n 0, 1) := by decide +kernel
theorem dL_law_938 : decode cL_law 938 = .ok (.iload_n 3, 1) := by decide +kernel
theorem dL_law_939 : decode cL_law 939 = .ok (.iconst 2, 1) := by decide +kernel
theorem dL_law_940 : decode cL_law 940 = .ok (.iadd, 1) := by decide +kernel
theorem dL_law_941 : decode cL_law 941 = .ok (.iaload, 1) := by decide +kernel
theorem dL_law_942 : decode cL_law 942 = .ok (.aload_n 0, 1) := by decide +kernel
theorem dL_law_943 : decode cL_law 943 = .ok (.iload_n 3, 1) := by decide +kernel
theorem dL_law_944 : decode cL_law 944 = .ok (.iconst 3, 1) := by decide +kernel
theorem dL_law_945 : decode cL_law 945 = .ok (.iadd, 1) := by decide +kernel
theorem dL_law_946 : decode cL_law 946 = .ok (.iaload, 1) := by decide +kernel
theorem dL_law_947 : decode cL_law 947 = .ok (.invokevirtual 139, 3) := by decide +kernel
theorem dL_law_950 : decode cL_law 950 = .ok (.aload_n 2, 1) := by decide +kernel
theorem dL_law_951 : decode cL_law 951 = .ok (.aload_n 0, 1) := by decide +kernel
theorem dL_law_952 : decode cL_law 952 = .ok (.iload_n 3, 1) := by decide +kernel
theorem dL_law_953 : decode cL_law 953 = .ok (.iconst 1, 1) := by decide +kernel
theorem dL_law_954 : decode cL_law 954 = .ok (.iadd, 1) := by decide +kernel
theorem dL_law_955 : decode cL_law 955 = .ok (.iaload, 1) := by decide +kernel
theorem dL_law_956 : decode cL_law 956 = .ok (.aload_n 0, 1) := by decide +kernel
theorem dL_law_957 : decode cL_law 957 = .ok (.iload_n 3, 1) := by decide +kernel
theorem dL_law_958 : decode cL_law 958 = .ok (.iconst 2, 1) := by decide +kernel
theorem dL_law_959 : decode cL_law 959 = .ok (.iadd, 1) := by decide +kernel
theorem dL_law_960 : decode cL_law 960 = .ok (.iaload, 1) := by decide +kernel
theorem dL_law_961 : decode cL_law 961 = .ok (.aload_n 0, 1) := by decide +kernel
theorem dL_law_962 : decode cL_law 962 = .ok (.iload_n 3, 1) := by decide +kernel
theorem dL_law_963 : decode cL_law 963 = .ok (.iconst 3, 1) := by decide +kernel
theorem dL_law_964 : decode cL_law 964 = .ok (.iadd, 1) := by decide +kernel
theorem dL_law_965 : decode cL_law 965 = .ok (.iaload, 1) := by decide +kernel
theorem dL_law_966 : decode cL_law 966 = .ok (.invokevirtual 142, 3) := by decide +kernel
theorem dL_law_969 : decode cL_law 969 = .ok (.if_icmp .eq 136, 3) := by decide +kernel
theorem dL_law_972 : decode cL_law 972 = .ok (.iconst 0, 1) := by decide +kernel
theorem dL_law_973 : decode cL_law 973 = .ok (.ireturn, 1) := by decide +kernel
theorem dL_law_974 : decode cL_law 974 = .ok (.aload_n 1, 1) := by decide +kernel
theorem dL_law_975 : decode cL_law 975 = .ok (.aload_n 0, 1) := by decide +kernel
theorem dL_law_976 : decode cL_law 976 = .ok (.iload_n 3, 1) := by decide +kernel
theorem dL_law_977 : decode cL_law 977 = .ok (.iconst 1, 1) := by decide +kernel
theorem dL_law_978 : decode cL_law 978 = .ok (.iadd, 1) := by decide +kernel
theorem dL_law_979 : decode cL_law 979 = .ok (.iaload, 1) := by decide +kernel
theorem dL_law_980 : decode cL_law 980 = .ok (.invokevirtual 143, 3) := by decide +kernel
theorem dL_law_983 : decode cL_law 983 = .ok (.aload_n 2, 1) := by decide +kernel
theorem dL_law_984 : decode cL_law 984 = .ok (.aload_n 0, 1) := by decide +kernel
theorem dL_law_985 : decode cL_law 985 = .ok (.iload_n 3, 1) := by decide +kernel
theorem dL_law_986 : decode cL_law 986 = .ok (.iconst 1, 1) := by decide +kernel
theorem dL_law_987 : decode cL_law 987 = .ok (.iadd, 1) := by decide +kernel
theorem dL_law_988 : decode cL_law 988 = .ok (.iaload, 1) := by decide +kernel
theorem dL_law_989 : decode cL_law 989 = .ok (.invokevirtual 146, 3) := by decide +kernel
theorem dL_law_992 : decode cL_law 992 = .ok (.if_icmp .eq 113, 3) := by decide +kernel
theorem dL_law_995 : decode cL_law 995 = .ok (.iconst 0, 1) := by decide +kernel
theorem dL_law_996 : decode cL_law 996 = .ok (.ireturn, 1) := by decide +kernel
theorem dL_law_997 : decode cL_law 997 = .ok (.aload_n 1, 1) := by decide +kernel
theorem dL_law_998 : decode cL_law 998 = .ok (.aload_n 0, 1) := by decide +kernel
theorem dL_law_999 : decode cL_law 999 = .ok (.iload_n 3, 1) := by decide +kernel
theorem dL_law_1000 : decode cL_law 1000 = .ok (.iconst 1, 1) := by decide +kernel
theorem dL_law_1001 : decode cL_law 1001 = .ok (.iadd, 1) := by decide +kernel
theorem dL_law_1002 : decode cL_law 1002 = .ok (.iaload, 1) := by decide +kernel
theorem dL_law_1003 : decode cL_law 1003 = .ok (.invokevirtual 147, 3) := by decide +kernel
theorem dL_law_1006 : decode cL_law 1006 = .ok (.aload_n 2, 1) := by decide +kernel
theorem dL_law_1007 : decode cL_law 1007 = .ok (.aload_n 0, 1) := by decide +kernel
theorem dL_law_1008 : decode cL_law 1008 = .ok (.iload_n 3, 1) := by decide +kernel
theorem dL_law_1009 : decode cL_law 1009 = .ok (.iconst 1, 1) := by decide +kernel
theorem dL_law_1010 : decode cL_law 1010 = .ok (.iadd, 1) := by decide +kernel
theorem dL_law_1011 : decode cL_law 1011 = .ok (.iaload, 1) := by decide +kernel
theorem dL_law_1012 : decode cL_law 1012 = .ok (.invokevirtual 150, 3) := by decide +kernel
theorem dL_law_1015 : decode cL_law 1015 = .ok (.if_icmp .eq 90, 3) := by decide +kernel
theorem dL_law_1018 : decode cL_law 1018 = .ok (.iconst 0, 1) := by decide +kernel
theorem dL_law_1019 : decode cL_law 1019 = .ok (.ireturn, 1) := by decide +kernel
theorem dL_law_1020 : decode cL_law 1020 = .ok (.aload_n 1, 1) := by decide +kernel
theorem dL_law_1021 : decode cL_law 1021 = .ok (.aload_n 0, 1) := by decide +kernel
theorem dL_law_1022 : decode cL_law 1022 = .ok (.iload_n 3, 1) := by decide +kernel
theorem dL_law_1023 : decode cL_law 1023 = .ok (.iconst 1, 1) := by decide +kernel
theorem dL_law_1024 : decode cL_law 1024 = .ok (.iadd, 1) := by decide +kernel
theorem dL_law_1025 : decode cL_law 1025 = .ok (.iaload, 1) := by decide +kernel
theorem dL_law_1026 : decode cL_law 1026 = .ok (.invokevirtual 151, 3) := by decide +kernel
theorem dL_law_1029 : decode cL_law 1029 = .ok (.aload_n 2, 1) := by decide +kernel
theorem dL_law_1030 : decode cL_law 1030 = .ok (.aload_n 0, 1) := by decide +kernel
theorem dL_law_1031 : decode cL_law 1031 = .ok (.iload_n 3, 1) := by decide +kernel
theorem dL_law_1032 : decode cL_law 1032 = .ok (.iconst 1, 1) := by decide +kernel
theorem dL_law_1033 : decode cL_law 1033 = .ok (.iadd, 1) := by decide +kernel
theorem dL_law_1034 : decode cL_law 1034 = .ok (.iaload, 1) := by decide +kernel
theorem dL_law_1035 : decode cL_law 1035 = .ok (.invokevirtual 154, 3) := by decide +kernel
theorem dL_law_1038 : decode cL_law 1038 = .ok (.if_icmp .eq 67, 3) := by decide +kernel
theorem dL_law_1041 : decode cL_law 1041 = .ok (.iconst 0, 1) := by decide +kernel
theorem dL_law_1042 : decode cL_law 1042 = .ok (.ireturn, 1) := by decide +kernel
theorem dL_law_1043 : decode cL_law 1043 = .ok (.aload_n 1, 1) := by decide +kernel
theorem dL_law_1044 : decode cL_law 1044 = .ok (.aload_n 0, 1) := by decide +kernel
theorem dL_law_1045 : decode cL_law 1045 = .ok (.iload_n 3, 1) := by decide +kernel
theorem dL_law_1046 : decode cL_law 1046 = .ok (.iconst 1, 1) := by decide +kernel
theorem dL_law_1047 : decode cL_law 1047 = .ok (.iadd, 1) := by decide +kernel
theorem dL_law_1048 : decode cL_law 1048 = .ok (.iaload, 1) := by decide +kernel
theorem dL_law_1049 : decode cL_law 1049 = .ok (.invokevirtual 155, 3) := by decide +kernel
theorem dL_law_1052 : decode cL_law 1052 = .ok (.aload_n 2, 1) := by decide +kernel
theorem dL_law_1053 : decode cL_law 1053 = .ok (.aload_n 0, 1) := by decide +kernel
theorem dL_law_1054 : decode cL_law 1054 = .ok (.iload_n 3, 1) := by decide +kernel
theorem dL_law_1055 : decode cL_law 1055 = .ok (.iconst 1, 1) := by decide +kernel
theorem dL_law_1056 : decode cL_law 1056 = .ok (.iadd, 1) := by decide +kernel
theorem dL_law_1057 : decode cL_law 1057 = .ok (.iaload, 1) := by decide +kernel
theorem dL_law_1058 : decode cL_law 1058 = .ok (.invokevirtual 158, 3) := by decide +kernel
theorem dL_law_1061 : decode cL_law 1061 = .ok (.if_icmp .eq 44, 3) := by decide +kernel
theorem dL_law_1064 : decode cL_law 1064 = .ok (.iconst 0, 1) := by decide +kernel
theorem dL_law_1065 : decode cL_law 1065 = .ok (.ireturn, 1) := by decide +kernel
theorem dL_law_1066 : decode cL_law 1066 = .ok (.aload_n 1, 1) := by decide +kernel
theorem dL_law_1067 : decode cL_law 1067 = .ok (.invokevirtual 159, 3) := by decide +kernel
theorem dL_law_1070 : decode cL_law 1070 = .ok (.aload_n 2, 1) := by decide +kernel
theorem dL_law_1071 : decode cL_law 1071 = .ok (.invokevirtual 162, 3) := by decide +kernel
theorem dL_law_1074 : decode cL_law 1074 = .ok (.if_icmp .eq 31, 3) := by decide +kernel
theorem dL_law_1077 : decode cL_law 1077 = .ok (.iconst 0, 1) := by decide +kernel
theorem dL_law_1078 : decode cL_law 1078 = .ok (.ireturn, 1) := by decide +kernel
theorem dL_law_1079 : decode cL_law 1079 = .ok (.aload_n 1, 1) := by decide +kernel
theorem dL_law_1080 : decode cL_law 1080 = .ok (.invokevirtual 163, 3) := by decide +kernel
theorem dL_law_1083 : decode cL_law 1083 = .ok (.aload_n 2, 1) := by decide +kernel
theorem dL_law_1084 : decode cL_law 1084 = .ok (.invokevirtual 166, 3) := by decide +kernel
theorem dL_law_1087 : decode cL_law 1087 = .ok (.if_icmp .eq 18, 3) := by decide +kernel
theorem dL_law_1090 : decode cL_law 1090 = .ok (.iconst 0, 1) := by decide +kernel
theorem dL_law_1091 : decode cL_law 1091 = .ok (.ireturn, 1) := by decide +kernel
theorem dL_law_1092 : decode cL_law 1092 = .ok (.aload_n 1, 1) := by decide +kernel
theorem dL_law_1093 : decode cL_law 1093 = .ok (.invokevirtual 167, 3) := by decide +kernel
theorem dL_law_1096 : decode cL_law 1096 = .ok (.aload_n 2, 1) := by decide +kernel
theorem dL_law_1097 : decode cL_law 1097 = .ok (.invokevirtual 170, 3) := by decide +kernel
theorem dL_law_1100 : decode cL_law 1100 = .ok (.if_icmp .eq 5, 3) := by decide +kernel
theorem dL_law_1103 : decode cL_law 1103 = .ok (.iconst 0, 1) := by decide +kernel
theorem dL_law_1104 : decode cL_law 1104 = .ok (.ireturn, 1) := by decide +kernel
theorem dL_law_1105 : decode cL_law 1105 = .ok (.iinc 3 5, 3) := by decide +kernel
theorem dL_law_1108 : decode cL_law 1108 = .ok (.goto (-1090), 3) := by decide +kernel
theorem dL_law_1111 : decode cL_law 1111 = .ok (.iconst 1, 1) := by decide +kernel
theorem dL_law_1112 : decode cL_law 1112 = .ok (.ireturn, 1) := by decide +kernel
theorem lb32 (x : Int32) : -2147483648 ≤ x.toInt ∧ x.toInt < 2147483648 := by have := Int32.le_toInt x; have := Int32.toInt_lt x; omega
set_option maxHeartbeats 4000000 in
set_option maxRecDepth 100000 in
theorem lc_0 {E : zE} {l0 : Launch} {D0 : va_G} {cI0 cJ0 : ClassId} {ad : Nat → Nat → Nat} {S : zM} {b N : Nat} {xs : Nat → Int32} (hE : zG E l0 D0 cI0 cJ0 ad code 4 RL 9 332) (hX : zX E b N xs) {n0 n1 n2 n3 n4 : Nat} (hJ : LJ S n0 n1 n2 n3 n4) {i : Int} (h0 : 0 ≤ i) (h1 : i + 5 ≤ N) (hN : N ≤ 2560) (kk : ∀ S2 : zM, LI S2 → Z E S2 1105 [(3, .int (i32 i)), (1, .ref (ad 5 22)), (2, .ref (ad 6 27)), (0, .ref b)] []) : Z E S 200 [(3, .int (i32 i)), (1, .ref (ad 5 22)), (2, .ref (ad 6 27)), (0, .ref b)] [] := by
  refine z_aload_n hE 1 rfl rfl dL_law_200 ?_
  refine z_callVp hE (c_X7_join l0 D0 cI0 cJ0 ad S  n0 n1 n2 n3 n4 hJ.l0 hJ.l1 hJ.l2 hJ.l3 hJ.l4 hJ.e0 hJ.e1 hJ.e2 hJ.e3 hJ.e4 hJ.d04 hJ.hst hJ.hI ) (by decide) rfl rfl zm_L_13 zi_yX7_join zs_yX7_join zn_RX7 zc_yX7_join (hy_X7_join) (Nat.le_of_ble_eq_true rfl) (Nat.le_of_ble_eq_true rfl) rfl rfl rfl (Nat.le_of_ble_eq_true rfl) dL_law_201 (fun X hX2 => ?_)
  obtain ⟨e7, e6, hfin⟩ := la_act hJ (fun ok => inv_join hJ.hI ok) hX2
  refine z_aload_n hE 2 rfl rfl dL_law_204 ?_
  refine z_callVp hE (c_X8_join l0 D0 cI0 cJ0 ad X  (by rw [e6]; exact hJ.hst) (by rw [e7]; exact hJ.hI) ) (by decide) rfl rfl zm_L_17 zi_yX8_join zs_yX8_join zn_RX8 zc_yX8_join (hy_X8_join) (Nat.le_of_ble_eq_true rfl) (Nat.le_of_ble_eq_true rfl) rfl rfl rfl (Nat.le_of_ble_eq_true rfl) dL_law_205 (fun X2 hX3 => ?_)
  rw [e7] at hX3 ⊢
  refine z_same (tgt := 1105) hE dL_law_208 (by decide) ?_
  exact kk X2 (hfin X2 hX3)
set_option maxHeartbeats 4000000 in
set_option maxRecDepth 100000 in
theorem lc_1 {E : zE} {l0 : Launch} {D0 : va_G} {cI0 cJ0 : ClassId} {ad : Nat → Nat → Nat} {S : zM} {b N : Nat} {xs : Nat → Int32} (hE : zG E l0 D0 cI0 cJ0 ad code 4 RL 9 332) (hX : zX E b N xs) {n0 n1 n2 n3 n4 : Nat} (hJ : LJ S n0 n1 n2 n3 n4) {i : Int} (h0 : 0 ≤ i) (h1 : i + 5 ≤ N) (hN : N ≤ 2560) (kk : ∀ S2 : zM, LI S2 → Z E S2 1105 [(3, .int (i32 i)), (1, .ref (ad 5 22)), (2, .ref (ad 6 27)), (0, .ref b)] []) : Z E S 213 [(3, .int (i32 i)), (1, .ref (ad 5 22)), (2, .ref (ad 6 27)), (0, .ref b)] [] := by
  refine z_aload_n hE 1 rfl rfl dL_law_213 ?_
  refine z_aload_n hE 3 rfl rfl dL_law_214 ?_
  refine z_iload_n hE 0 rfl rfl dL_law_215 ?_
  refine z_iconst hE dL_law_216 ?_
  refine z_iadd hE dL_law_217 ?_
  refine z_sld hE hX (by omega) (by omega) dL_law_218 ?_
  refine z_aload_n hE 3 rfl rfl dL_law_219 ?_
  refine z_iload_n hE 0 rfl rfl dL_law_220 ?_
  refine z_iconst hE dL_law_221 ?_
  refine z_iadd hE dL_law_222 ?_
  refine z_sld hE hX (by omega) (by omega) dL_law_223 ?_
  refine z_callVp hE (c_X7_issue l0 D0 cI0 cJ0 ad S ((xs (i + 1).toNat).toInt) ((xs (i + 2).toNat).toInt) n0 n1 n2 n3 n4 hJ.l0 hJ.l1 hJ.l2 hJ.l3 hJ.l4 hJ.e0 hJ.e1 hJ.e2 hJ.e3 hJ.e4 hJ.d04 hJ.hst hJ.hI (lb32 _) (lb32 _)) (by decide) rfl rfl zm_L_18 zi_yX7_issue zs_yX7_issue zn_RX7 zc_yX7_issue (hy_X7_issue) (Nat.le_of_ble_eq_true rfl) (Nat.le_of_ble_eq_true rfl) rfl rfl rfl (Nat.le_of_ble_eq_true rfl) dL_law_224 (fun X hX2 => ?_)
  obtain ⟨e7, e6, hfin⟩ := la_act hJ (fun ok => inv_issue hJ.hI ok) hX2
  refine z_aload_n hE 2 rfl rfl dL_law_227 ?_
  refine z_aload_n hE 3 rfl rfl dL_law_228 ?_
  refine z_iload_n hE 0 rfl rfl dL_law_229 ?_
  refine z_iconst hE dL_law_230 ?_
  refine z_iadd hE dL_law_231 ?_
  refine z_sld hE hX (by omega) (by omega) dL_law_232 ?_
  refine z_aload_n hE 3 rfl rfl dL_law_233 ?_
  refine z_iload_n hE 0 rfl rfl dL_law_234 ?_
  refine z_iconst hE dL_law_235 ?_
  refine z_iadd hE dL_law_236 ?_
  refine z_sld hE hX (by omega) (by omega) dL_law_237 ?_
  refine z_callVp hE (c_X8_issue l0 D0 cI0 cJ0 ad X ((xs (i + 1).toNat).toInt) ((xs (i + 2).toNat).toInt) (by rw [e6]; exact hJ.hst) (by rw [e7]; exact hJ.hI) (lb32 _) (lb32 _)) (by decide) rfl rfl zm_L_22 zi_yX8_issue zs_yX8_issue zn_RX8 zc_yX8_issue (hy_X8_issue) (Nat.le_of_ble_eq_true rfl) (Nat.le_of_ble_eq_true rfl) rfl rfl rfl (Nat.le_of_ble_eq_true rfl) dL_law_238 (fun X2 hX3 => ?_)
  rw [e7] at hX3 ⊢
  refine z_same (tgt := 1105) hE dL_law_241 (by decide) ?_
  exact kk X2 (hfin X2 hX3)
set_option maxHeartbeats 4000000 in
set_option maxRecDepth 100000 in
theorem lc_2 {E : zE} {l0 : Launch} {D0 : va_G} {cI0 cJ0 : ClassId} {ad : Nat → Nat → Nat} {S : zM} {b N : Nat} {xs : Nat → Int32} (hE : zG E l0 D0 cI0 cJ0 ad code 4 RL 9 332) (hX : zX E b N xs) {n0 n1 n2 n3 n4 : Nat} (hJ : LJ S n0 n1 n2 n3 n4) {i : Int} (h0 : 0 ≤ i) (h1 : i + 5 ≤ N) (hN : N ≤ 2560) (kk : ∀ S2 : zM, LI S2 → Z E S2 1105 [(3, .int (i32 i)), (1, .ref (ad 5 22)), (2, .ref (ad 6 27)), (0, .ref b)] []) : Z E S 246 [(3, .int (i32 i)), (1, .ref (ad 5 22)), (2, .ref (ad 6 27)), (0, .ref b)] [] := by
  refine z_aload_n hE 1 rfl rfl dL_law_246 ?_
  refine z_aload_n hE 3 rfl rfl dL_law_247 ?_
  refine z_iload_n hE 0 rfl rfl dL_law_248 ?_
  refine z_iconst hE dL_law_249 ?_
  refine z_iadd hE dL_law_250 ?_
  refine z_sld hE hX (by omega) (by omega) dL_law_251 ?_
  refine z_aload_n hE 3 rfl rfl dL_law_252 ?_
  refine z_iload_n hE 0 rfl rfl dL_law_253 ?_
  refine z_iconst hE dL_law_254 ?_
  refine z_iadd hE dL_law_255 ?_
  refine z_sld hE hX (by omega) (by omega) dL_law_256 ?_
  refine z_callVp hE (c_X7_setMilk l0 D0 cI0 cJ0 ad S ((xs (i + 1).toNat).toInt) ((xs (i + 2).toNat).toInt) n0 n1 n2 n3 n4 hJ.l0 hJ.l1 hJ.l2 hJ.l3 hJ.l4 hJ.e0 hJ.e1 hJ.e2 hJ.e3 hJ.e4 hJ.d04 hJ.hst hJ.hI (lb32 _) (lb32 _)) (by decide) rfl rfl zm_L_23 zi_yX7_setMilk zs_yX7_setMilk zn_RX7 zc_yX7_setMilk (hy_X7_setMilk) (Nat.le_of_ble_eq_true rfl) (Nat.le_of_ble_eq_true rfl) rfl rfl rfl (Nat.le_of_ble_eq_true rfl) dL_law_257 (fun X hX2 => ?_)
  obtain ⟨e7, e6, hfin⟩ := la_act hJ (fun ok => inv_setMilk hJ.hI ok) hX2
  refine z_aload_n hE 2 rfl rfl dL_law_260 ?_
  refine z_aload_n hE 3 rfl rfl dL_law_261 ?_
  refine z_iload_n hE 0 rfl rfl dL_law_262 ?_
  refine z_iconst hE dL_law_263 ?_
  refine z_iadd hE dL_law_264 ?_
  refine z_sld hE hX (by omega) (by omega) dL_law_265 ?_
  refine z_aload_n hE 3 rfl rfl dL_law_266 ?_
  refine z_iload_n hE 0 rfl rfl dL_law_267 ?_
  refine z_iconst hE dL_law_268 ?_
  refine z_iadd hE dL_law_269 ?_
  refine z_sld hE hX (by omega) (by omega) dL_law_270 ?_
  refine z_callVp hE (c_X8_setMilk l0 D0 cI0 cJ0 ad X ((xs (i + 1).toNat).toInt) ((xs (i + 2).toNat).toInt) (by rw [e6]; exact hJ.hst) (by rw [e7]; exact hJ.hI) (lb32 _) (lb32 _)) (by decide) rfl rfl zm_L_26 zi_yX8_setMilk zs_yX8_setMilk zn_RX8 zc_yX8_setMilk (hy_X8_setMilk) (Nat.le_of_ble_eq_true rfl) (Nat.le_of_ble_eq_true rfl) rfl rfl rfl (Nat.le_of_ble_eq_true rfl) dL_law_271 (fun X2 hX3 => ?_)
  rw [e7] at hX3 ⊢
  refine z_same (tgt := 1105) hE dL_law_274 (by decide) ?_
  exact kk X2 (hfin X2 hX3)
set_option maxHeartbeats 4000000 in
set_option maxRecDepth 100000 in
theorem lc_3 {E : zE} {l0 : Launch} {D0 : va_G} {cI0 cJ0 : ClassId} {ad : Nat → Nat → Nat} {S : zM} {b N : Nat} {xs : Nat → Int32} (hE : zG E l0 D0 cI0 cJ0 ad code 4 RL 9 332) (hX : zX E b N xs) {n0 n1 n2 n3 n4 : Nat} (hJ : LJ S n0 n1 n2 n3 n4) {i : Int} (h0 : 0 ≤ i) (h1 : i + 5 ≤ N) (hN : N ≤ 2560) (kk : ∀ S2 : zM, LI S2 → Z E S2 1105 [(3, .int (i32 i)), (1, .ref (ad 5 22)), (2, .ref (ad 6 27)), (0, .ref b)] []) : Z E S 279 [(3, .int (i32 i)), (1, .ref (ad 5 22)), (2, .ref (ad 6 27)), (0, .ref b)] [] := by
  refine z_aload_n hE 1 rfl rfl dL_law_279 ?_
  refine z_aload_n hE 3 rfl rfl dL_law_280 ?_
  refine z_iload_n hE 0 rfl rfl dL_law_281 ?_
  refine z_iconst hE dL_law_282 ?_
  refine z_iadd hE dL_law_283 ?_
  refine z_sld hE hX (by omega) (by omega) dL_law_284 ?_
  refine z_callVp hE (c_X7_setLitersPerShare l0 D0 cI0 cJ0 ad S ((xs (i + 1).toNat).toInt) n0 n1 n2 n3 n4 hJ.l0 hJ.l1 hJ.l2 hJ.l3 hJ.l4 hJ.e0 hJ.e1 hJ.e2 hJ.e3 hJ.e4 hJ.d04 hJ.hst hJ.hI (lb32 _)) (by decide) rfl rfl zm_L_27 zi_yX7_setLitersPerShare zs_yX7_setLitersPerShare zn_RX7 zc_yX7_setLitersPerShare (hy_X7_setLitersPerShare) (Nat.le_of_ble_eq_true rfl) (Nat.le_of_ble_eq_true rfl) rfl rfl rfl (Nat.le_of_ble_eq_true rfl) dL_law_285 (fun X hX2 => ?_)
  obtain ⟨e7, e6, hfin⟩ := la_act hJ (fun ok => inv_setLitersPerShare hJ.hI ok) hX2
  refine z_aload_n hE 2 rfl rfl dL_law_288 ?_
  refine z_aload_n hE 3 rfl rfl dL_law_289 ?_
  refine z_iload_n hE 0 rfl rfl dL_law_290 ?_
  refine z_iconst hE dL_law_291 ?_
  refine z_iadd hE dL_law_292 ?_
  refine z_sld hE hX (by omega) (by omega) dL_law_293 ?_
  refine z_callVp hE (c_X8_setLitersPerShare l0 D0 cI0 cJ0 ad X ((xs (i + 1).toNat).toInt) (by rw [e6]; exact hJ.hst) (by rw [e7]; exact hJ.hI) (lb32 _)) (by decide) rfl rfl zm_L_31 zi_yX8_setLitersPerShare zs_yX8_setLitersPerShare zn_RX8 zc_yX8_setLitersPerShare (hy_X8_setLitersPerShare) (Nat.le_of_ble_eq_true rfl) (Nat.le_of_ble_eq_true rfl) rfl rfl rfl (Nat.le_of_ble_eq_true rfl) dL_law_294 (fun X2 hX3 => ?_)
  rw [e7] at hX3 ⊢
  refine z_same (tgt := 1105) hE dL_law_297 (by decide) ?_
  exact kk X2 (hfin X2 hX3)
set_option maxHeartbeats 4000000 in
set_option maxRecDepth 100000 in
theorem lc_4 {E : zE} {l0 : Launch} {D0 : va_G} {cI0 cJ0 : ClassId} {ad : Nat → Nat → Nat} {S : zM} {b N : Nat} {xs : Nat → Int32} (hE : zG E l0 D0 cI0 cJ0 ad code 4 RL 9 332) (hX : zX E b N xs) {n0 n1 n2 n3 n4 : Nat} (hJ : LJ S n0 n1 n2 n3 n4) {i : Int} (h0 : 0 ≤ i) (h1 : i + 5 ≤ N) (hN : N ≤ 2560) (kk : ∀ S2 : zM, LI S2 → Z E S2 1105 [(3, .int (i32 i)), (1, .ref (ad 5 22)), (2, .ref (ad 6 27)), (0, .ref b)] []) : Z E S 302 [(3, .int (i32 i)), (1, .ref (ad 5 22)), (2, .ref (ad 6 27)), (0, .ref b)] [] := by
  refine z_aload_n hE 1 rfl rfl dL_law_302 ?_
  refine z_aload_n hE 3 rfl rfl dL_law_303 ?_
  refine z_iload_n hE 0 rfl rfl dL_law_304 ?_
  refine z_iconst hE dL_law_305 ?_
  refine z_iadd hE dL_law_306 ?_
  refine z_sld hE hX (by omega) (by omega) dL_law_307 ?_
  refine z_callVp hE (c_X7_setTreasuryLimit l0 D0 cI0 cJ0 ad S ((xs (i + 1).toNat).toInt) n0 n1 n2 n3 n4 hJ.l0 hJ.l1 hJ.l2 hJ.l3 hJ.l4 hJ.e0 hJ.e1 hJ.e2 hJ.e3 hJ.e4 hJ.d04 hJ.hst hJ.hI (lb32 _)) (by decide) rfl rfl zm_L_32 zi_yX7_setTreasuryLimit zs_yX7_setTreasuryLimit zn_RX7 zc_yX7_setTreasuryLimit (hy_X7_setTreasuryLimit) (Nat.le_of_ble_eq_true rfl) (Nat.le_of_ble_eq_true rfl) rfl rfl rfl (Nat.le_of_ble_eq_true rfl) dL_law_308 (fun X hX2 => ?_)
  obtain ⟨e7, e6, hfin⟩ := la_act hJ (fun ok => inv_setTreasuryLimit hJ.hI ok) hX2
  refine z_aload_n hE 2 rfl rfl dL_law_311 ?_
  refine z_aload_n hE 3 rfl rfl dL_law_312 ?_
  refine z_iload_n hE 0 rfl rfl dL_law_313 ?_
  refine z_iconst hE dL_law_314 ?_
  refine z_iadd hE dL_law_315 ?_
  refine z_sld hE hX (by omega) (by omega) dL_law_316 ?_
  refine z_callVp hE (c_X8_setTreasuryLimit l0 D0 cI0 cJ0 ad X ((xs (i + 1).toNat).toInt) (by rw [e6]; exact hJ.hst) (by rw [e7]; exact hJ.hI) (lb32 _)) (by decide) rfl rfl zm_L_35 zi_yX8_setTreasuryLimit zs_yX8_setTreasuryLimit zn_RX8 zc_yX8_setTreasuryLimit (hy_X8_setTreasuryLimit) (Nat.le_of_ble_eq_true rfl) (Nat.le_of_ble_eq_true rfl) rfl rfl rfl (Nat.le_of_ble_eq_true rfl) dL_law_317 (fun X2 hX3 => ?_)
  rw [e7] at hX3 ⊢
  refine z_same (tgt := 1105) hE dL_law_320 (by decide) ?_
  exact kk X2 (hfin X2 hX3)
set_option maxHeartbeats 4000000 in
set_option maxRecDepth 100000 in
theorem lc_5 {E : zE} {l0 : Launch} {D0 : va_G} {cI0 cJ0 : ClassId} {ad : Nat → Nat → Nat} {S : zM} {b N : Nat} {xs : Nat → Int32} (hE : zG E l0 D0 cI0 cJ0 ad code 4 RL 9 332) (hX : zX E b N xs) {n0 n1 n2 n3 n4 : Nat} (hJ : LJ S n0 n1 n2 n3 n4) {i : Int} (h0 : 0 ≤ i) (h1 : i + 5 ≤ N) (hN : N ≤ 2560) (kk : ∀ S2 : zM, LI S2 → Z E S2 1105 [(3, .int (i32 i)), (1, .ref (ad 5 22)), (2, .ref (ad 6 27)), (0, .ref b)] []) : Z E S 325 [(3, .int (i32 i)), (1, .ref (ad 5 22)), (2, .ref (ad 6 27)), (0, .ref b)] [] := by
  refine z_aload_n hE 1 rfl rfl dL_law_325 ?_
  refine z_callV hE (c_X7_memberCount l0 D0 cI0 cJ0 ad S  n0 hJ.l0 hJ.e0 hJ.hI ) (by decide) rfl rfl zm_L_36 zi_yX7_memberCount zs_yX7_memberCount zn_RX7 zc_yX7_memberCount (hy_X7_memberCount) (Nat.le_of_ble_eq_true rfl) (Nat.le_of_ble_eq_true rfl) rfl rfl rfl (Nat.le_of_ble_eq_true rfl) dL_law_326 ?_
  refine z_aload_n hE 2 rfl rfl dL_law_329 ?_
  refine z_callV hE (c_X8_memberCount l0 D0 cI0 cJ0 ad S  (by rw [hJ.h7]; exact hJ.hI) ) (by decide) rfl rfl zm_L_39 zi_yX8_memberCount zs_yX8_memberCount zn_RX8 zc_yX8_memberCount (hy_X8_memberCount) (Nat.le_of_ble_eq_true rfl) (Nat.le_of_ble_eq_true rfl) rfl rfl rfl (Nat.le_of_ble_eq_true rfl) dL_law_330 ?_
  rw [hJ.h7]
  refine z_same (tgt := 1105) hE dL_law_333 (by decide) ?_
  exact kk S ⟨n0, n1, n2, n3, n4, hJ⟩
set_option maxHeartbeats 4000000 in
set_option maxRecDepth 100000 in
theorem lc_6 {E : zE} {l0 : Launch} {D0 : va_G} {cI0 cJ0 : ClassId} {ad : Nat → Nat → Nat} {S : zM} {b N : Nat} {xs : Nat → Int32} (hE : zG E l0 D0 cI0 cJ0 ad code 4 RL 9 332) (hX : zX E b N xs) {n0 n1 n2 n3 n4 : Nat} (hJ : LJ S n0 n1 n2 n3 n4) {i : Int} (h0 : 0 ≤ i) (h1 : i + 5 ≤ N) (hN : N ≤ 2560) (kk : ∀ S2 : zM, LI S2 → Z E S2 1105 [(3, .int (i32 i)), (1, .ref (ad 5 22)), (2, .ref (ad 6 27)), (0, .ref b)] []) : Z E S 338 [(3, .int (i32 i)), (1, .ref (ad 5 22)), (2, .ref (ad 6 27)), (0, .ref b)] [] := by
  refine z_aload_n hE 1 rfl rfl dL_law_338 ?_
  refine z_aload_n hE 3 rfl rfl dL_law_339 ?_
  refine z_iload_n hE 0 rfl rfl dL_law_340 ?_
  refine z_iconst hE dL_law_341 ?_
  refine z_iadd hE dL_law_342 ?_
  refine z_sld hE hX (by omega) (by omega) dL_law_343 ?_
  refine z_callV hE (c_X7_shares l0 D0 cI0 cJ0 ad S ((xs (i + 1).toNat).toInt) n0 hJ.l0 hJ.e0 hJ.hI (lb32 _)) (by decide) rfl rfl zm_L_40 zi_yX7_shares zs_yX7_shares zn_RX7 zc_yX7_shares (hy_X7_shares) (Nat.le_of_ble_eq_true rfl) (Nat.le_of_ble_eq_true rfl) rfl rfl rfl (Nat.le_of_ble_eq_true rfl) dL_law_344 ?_
  refine z_aload_n hE 2 rfl rfl dL_law_347 ?_
  refine z_aload_n hE 3 rfl rfl dL_law_348 ?_
  refine z_iload_n hE 0 rfl rfl dL_law_349 ?_
  refine z_iconst hE dL_law_350 ?_
  refine z_iadd hE dL_law_351 ?_
  refine z_sld hE hX (by omega) (by omega) dL_law_352 ?_
  refine z_callV hE (c_X8_shares l0 D0 cI0 cJ0 ad S ((xs (i + 1).toNat).toInt) (by rw [hJ.h7]; exact hJ.hI) (lb32 _)) (by decide) rfl rfl zm_L_43 zi_yX8_shares zs_yX8_shares zn_RX8 zc_yX8_shares (hy_X8_shares) (Nat.le_of_ble_eq_true rfl) (Nat.le_of_ble_eq_true rfl) rfl rfl rfl (Nat.le_of_ble_eq_true rfl) dL_law_353 ?_
  rw [hJ.h7]
  refine z_same (tgt := 1105) hE dL_law_356 (by decide) ?_
  exact kk S ⟨n0, n1, n2, n3, n4, hJ⟩
set_option maxHeartbeats 4000000 in
set_option maxRecDepth 100000 in
theorem lc_7 {E : zE} {l0 : Launch} {D0 : va_G} {cI0 cJ0 : ClassId} {ad : Nat → Nat → Nat} {S : zM} {b N : Nat} {xs : Nat → Int32} (hE : zG E l0 D0 cI0 cJ0 ad code 4 RL 9 332) (hX : zX E b N xs) {n0 n1 n2 n3 n4 : Nat} (hJ : LJ S n0 n1 n2 n3 n4) {i : Int} (h0 : 0 ≤ i) (h1 : i + 5 ≤ N) (hN : N ≤ 2560) (kk : ∀ S2 : zM, LI S2 → Z E S2 1105 [(3, .int (i32 i)), (1, .ref (ad 5 22)), (2, .ref (ad 6 27)), (0, .ref b)] []) : Z E S 361 [(3, .int (i32 i)), (1, .ref (ad 5 22)), (2, .ref (ad 6 27)), (0, .ref b)] [] := by
  refine z_aload_n hE 1 rfl rfl dL_law_361 ?_
  refine z_aload_n hE 3 rfl rfl dL_law_362 ?_
  refine z_iload_n hE 0 rfl rfl dL_law_363 ?_
  refine z_iconst hE dL_law_364 ?_
  refine z_iadd hE dL_law_365 ?_
  refine z_sld hE hX (by omega) (by omega) dL_law_366 ?_
  refine z_callV hE (c_X7_account l0 D0 cI0 cJ0 ad S ((xs (i + 1).toNat).toInt) n0 hJ.l0 hJ.e0 hJ.hI (lb32 _)) (by decide) rfl rfl zm_L_44 zi_yX7_account zs_yX7_account zn_RX7 zc_yX7_account (hy_X7_account) (Nat.le_of_ble_eq_true rfl) (Nat.le_of_ble_eq_true rfl) rfl rfl rfl (Nat.le_of_ble_eq_true rfl) dL_law_367 ?_
  refine z_aload_n hE 2 rfl rfl dL_law_370 ?_
  refine z_aload_n hE 3 rfl rfl dL_law_371 ?_
  refine z_iload_n hE 0 rfl rfl dL_law_372 ?_
  refine z_iconst hE dL_law_373 ?_
  refine z_iadd hE dL_law_374 ?_
  refine z_sld hE hX (by omega) (by omega) dL_law_375 ?_
  refine z_callV hE (c_X8_account l0 D0 cI0 cJ0 ad S ((xs (i + 1).toNat).toInt) (by rw [hJ.h7]; exact hJ.hI) (lb32 _)) (by decide) rfl rfl zm_L_48 zi_yX8_account zs_yX8_account zn_RX8 zc_yX8_account (hy_X8_account) (Nat.le_of_ble_eq_true rfl) (Nat.le_of_ble_eq_true rfl) rfl rfl rfl (Nat.le_of_ble_eq_true rfl) dL_law_376 ?_
  rw [hJ.h7]
  refine z_lsame hE dL_law_379 ?_
  refine z_if_eq (tgt := 1105) hE dL_law_380 (by decide) ⟨by omega, by omega⟩ (fun _ => ?_) (fun c => absurd rfl c)
  exact kk S ⟨n0, n1, n2, n3, n4, hJ⟩
set_option maxHeartbeats 4000000 in
set_option maxRecDepth 100000 in
theorem lc_8 {E : zE} {l0 : Launch} {D0 : va_G} {cI0 cJ0 : ClassId} {ad : Nat → Nat → Nat} {S : zM} {b N : Nat} {xs : Nat → Int32} (hE : zG E l0 D0 cI0 cJ0 ad code 4 RL 9 332) (hX : zX E b N xs) {n0 n1 n2 n3 n4 : Nat} (hJ : LJ S n0 n1 n2 n3 n4) {i : Int} (h0 : 0 ≤ i) (h1 : i + 5 ≤ N) (hN : N ≤ 2560) (kk : ∀ S2 : zM, LI S2 → Z E S2 1105 [(3, .int (i32 i)), (1, .ref (ad 5 22)), (2, .ref (ad 6 27)), (0, .ref b)] []) : Z E S 385 [(3, .int (i32 i)), (1, .ref (ad 5 22)), (2, .ref (ad 6 27)), (0, .ref b)] [] := by
  refine z_aload_n hE 1 rfl rfl dL_law_385 ?_
  refine z_aload_n hE 3 rfl rfl dL_law_386 ?_
  refine z_iload_n hE 0 rfl rfl dL_law_387 ?_
  refine z_iconst hE dL_law_388 ?_
  refine z_iadd hE dL_law_389 ?_
  refine z_sld hE hX (by omega) (by omega) dL_law_390 ?_
  refine z_callV hE (c_X7_requirement l0 D0 cI0 cJ0 ad S ((xs (i + 1).toNat).toInt) n0 hJ.l0 hJ.e0 hJ.hI (lb32 _)) (by decide) rfl rfl zm_L_49 zi_yX7_requirement zs_yX7_requirement zn_RX7 zc_yX7_requirement (hy_X7_requirement) (Nat.le_of_ble_eq_true rfl) (Nat.le_of_ble_eq_true rfl) rfl rfl rfl (Nat.le_of_ble_eq_true rfl) dL_law_391 ?_
  refine z_aload_n hE 2 rfl rfl dL_law_394 ?_
  refine z_aload_n hE 3 rfl rfl dL_law_395 ?_
  refine z_iload_n hE 0 rfl rfl dL_law_396 ?_
  refine z_iconst hE dL_law_397 ?_
  refine z_iadd hE dL_law_398 ?_
  refine z_sld hE hX (by omega) (by omega) dL_law_399 ?_
  refine z_callV hE (c_X8_requirement l0 D0 cI0 cJ0 ad S ((xs (i + 1).toNat).toInt) (by rw [hJ.h7]; exact hJ.hI) (lb32 _)) (by decide) rfl rfl zm_L_52 zi_yX8_requirement zs_yX8_requirement zn_RX8 zc_yX8_requirement (hy_X8_requirement) (Nat.le_of_ble_eq_true rfl) (Nat.le_of_ble_eq_true rfl) rfl rfl rfl (Nat.le_of_ble_eq_true rfl) dL_law_400 ?_
  rw [hJ.h7]
  refine z_same (tgt := 1105) hE dL_law_403 (by decide) ?_
  exact kk S ⟨n0, n1, n2, n3, n4, hJ⟩
set_option maxHeartbeats 4000000 in
set_option maxRecDepth 100000 in
theorem lc_9 {E : zE} {l0 : Launch} {D0 : va_G} {cI0 cJ0 : ClassId} {ad : Nat → Nat → Nat} {S : zM} {b N : Nat} {xs : Nat → Int32} (hE : zG E l0 D0 cI0 cJ0 ad code 4 RL 9 332) (hX : zX E b N xs) {n0 n1 n2 n3 n4 : Nat} (hJ : LJ S n0 n1 n2 n3 n4) {i : Int} (h0 : 0 ≤ i) (h1 : i + 5 ≤ N) (hN : N ≤ 2560) (kk : ∀ S2 : zM, LI S2 → Z E S2 1105 [(3, .int (i32 i)), (1, .ref (ad 5 22)), (2, .ref (ad 6 27)), (0, .ref b)] []) : Z E S 408 [(3, .int (i32 i)), (1, .ref (ad 5 22)), (2, .ref (ad 6 27)), (0, .ref b)] [] := by
  refine z_aload_n hE 1 rfl rfl dL_law_408 ?_
  refine z_aload_n hE 3 rfl rfl dL_law_409 ?_
  refine z_iload_n hE 0 rfl rfl dL_law_410 ?_
  refine z_iconst hE dL_law_411 ?_
  refine z_iadd hE dL_law_412 ?_
  refine z_sld hE hX (by omega) (by omega) dL_law_413 ?_
  refine z_callV hE (c_X7_freeShares l0 D0 cI0 cJ0 ad S ((xs (i + 1).toNat).toInt) n0 hJ.l0 hJ.e0 hJ.hI (lb32 _)) (by decide) rfl rfl zm_L_53 zi_yX7_freeShares zs_yX7_freeShares zn_RX7 zc_yX7_freeShares (hy_X7_freeShares) (Nat.le_of_ble_eq_true rfl) (Nat.le_of_ble_eq_true rfl) rfl rfl rfl (Nat.le_of_ble_eq_true rfl) dL_law_414 ?_
  refine z_aload_n hE 2 rfl rfl dL_law_417 ?_
  refine z_aload_n hE 3 rfl rfl dL_law_418 ?_
  refine z_iload_n hE 0 rfl rfl dL_law_419 ?_
  refine z_iconst hE dL_law_420 ?_
  refine z_iadd hE dL_law_421 ?_
  refine z_sld hE hX (by omega) (by omega) dL_law_422 ?_
  refine z_callV hE (c_X8_freeShares l0 D0 cI0 cJ0 ad S ((xs (i + 1).toNat).toInt) (by rw [hJ.h7]; exact hJ.hI) (lb32 _)) (by decide) rfl rfl zm_L_56 zi_yX8_freeShares zs_yX8_freeShares zn_RX8 zc_yX8_freeShares (hy_X8_freeShares) (Nat.le_of_ble_eq_true rfl) (Nat.le_of_ble_eq_true rfl) rfl rfl rfl (Nat.le_of_ble_eq_true rfl) dL_law_423 ?_
  rw [hJ.h7]
  refine z_same (tgt := 1105) hE dL_law_426 (by decide) ?_
  exact kk S ⟨n0, n1, n2, n3, n4, hJ⟩
set_option maxHeartbeats 4000000 in
set_option maxRecDepth 100000 in
theorem lc_10 {E : zE} {l0 : Launch} {D0 : va_G} {cI0 cJ0 : ClassId} {ad : Nat → Nat → Nat} {S : zM} {b N : Nat} {xs : Nat → Int32} (hE : zG E l0 D0 cI0 cJ0 ad code 4 RL 9 332) (hX : zX E b N xs) {n0 n1 n2 n3 n4 : Nat} (hJ : LJ S n0 n1 n2 n3 n4) {i : Int} (h0 : 0 ≤ i) (h1 : i + 5 ≤ N) (hN : N ≤ 2560) (kk : ∀ S2 : zM, LI S2 → Z E S2 1105 [(3, .int (i32 i)), (1, .ref (ad 5 22)), (2, .ref (ad 6 27)), (0, .ref b)] []) : Z E S 431 [(3, .int (i32 i)), (1, .ref (ad 5 22)), (2, .ref (ad 6 27)), (0, .ref b)] [] := by
  refine z_aload_n hE 1 rfl rfl dL_law_431 ?_
  refine z_aload_n hE 3 rfl rfl dL_law_432 ?_
  refine z_iload_n hE 0 rfl rfl dL_law_433 ?_
  refine z_iconst hE dL_law_434 ?_
  refine z_iadd hE dL_law_435 ?_
  refine z_sld hE hX (by omega) (by omega) dL_law_436 ?_
  refine z_callV hE (c_X7_room l0 D0 cI0 cJ0 ad S ((xs (i + 1).toNat).toInt) n0 hJ.l0 hJ.e0 hJ.hI (lb32 _)) (by decide) rfl rfl zm_L_57 zi_yX7_room zs_yX7_room zn_RX7 zc_yX7_room (hy_X7_room) (Nat.le_of_ble_eq_true rfl) (Nat.le_of_ble_eq_true rfl) rfl rfl rfl (Nat.le_of_ble_eq_true rfl) dL_law_437 ?_
  refine z_aload_n hE 2 rfl rfl dL_law_440 ?_
  refine z_aload_n hE 3 rfl rfl dL_law_441 ?_
  refine z_iload_n hE 0 rfl rfl dL_law_442 ?_
  refine z_iconst hE dL_law_443 ?_
  refine z_iadd hE dL_law_444 ?_
  refine z_sld hE hX (by omega) (by omega) dL_law_445 ?_
  refine z_callV hE (c_X8_room l0 D0 cI0 cJ0 ad S ((xs (i + 1).toNat).toInt) (by rw [hJ.h7]; exact hJ.hI) (lb32 _)) (by decide) rfl rfl zm_L_60 zi_yX8_room zs_yX8_room zn_RX8 zc_yX8_room (hy_X8_room) (Nat.le_of_ble_eq_true rfl) (Nat.le_of_ble_eq_true rfl) rfl rfl rfl (Nat.le_of_ble_eq_true rfl) dL_law_446 ?_
  rw [hJ.h7]
  refine z_same (tgt := 1105) hE dL_law_449 (by decide) ?_
  exact kk S ⟨n0, n1, n2, n3, n4, hJ⟩
set_option maxHeartbeats 4000000 in
set_option maxRecDepth 100000 in
theorem lc_11 {E : zE} {l0 : Launch} {D0 : va_G} {cI0 cJ0 : ClassId} {ad : Nat → Nat → Nat} {S : zM} {b N : Nat} {xs : Nat → Int32} (hE : zG E l0 D0 cI0 cJ0 ad code 4 RL 9 332) (hX : zX E b N xs) {n0 n1 n2 n3 n4 : Nat} (hJ : LJ S n0 n1 n2 n3 n4) {i : Int} (h0 : 0 ≤ i) (h1 : i + 5 ≤ N) (hN : N ≤ 2560) (kk : ∀ S2 : zM, LI S2 → Z E S2 1105 [(3, .int (i32 i)), (1, .ref (ad 5 22)), (2, .ref (ad 6 27)), (0, .ref b)] []) : Z E S 454 [(3, .int (i32 i)), (1, .ref (ad 5 22)), (2, .ref (ad 6 27)), (0, .ref b)] [] := by
  refine z_aload_n hE 1 rfl rfl dL_law_454 ?_
  refine z_callV hE (c_X7_allShares l0 D0 cI0 cJ0 ad S  n0 hJ.l0 hJ.e0 hJ.hI ) (by decide) rfl rfl zm_L_61 zi_yX7_allShares zs_yX7_allShares zn_RX7 zc_yX7_allShares (hy_X7_allShares) (Nat.le_of_ble_eq_true rfl) (Nat.le_of_ble_eq_true rfl) rfl rfl rfl (Nat.le_of_ble_eq_true rfl) dL_law_455 ?_
  refine z_aload_n hE 2 rfl rfl dL_law_458 ?_
  refine z_callV hE (c_X8_allShares l0 D0 cI0 cJ0 ad S  (by rw [hJ.h7]; exact hJ.hI) ) (by decide) rfl rfl zm_L_64 zi_yX8_allShares zs_yX8_allShares zn_RX8 zc_yX8_allShares (hy_X8_allShares) (Nat.le_of_ble_eq_true rfl) (Nat.le_of_ble_eq_true rfl) rfl rfl rfl (Nat.le_of_ble_eq_true rfl) dL_law_459 ?_
  rw [hJ.h7]
  refine z_same (tgt := 1105) hE dL_law_462 (by decide) ?_
  exact kk S ⟨n0, n1, n2, n3, n4, hJ⟩
set_option maxHeartbeats 4000000 in
set_option maxRecDepth 100000 in
theorem lc_12 {E : zE} {l0 : Launch} {D0 : va_G} {cI0 cJ0 : ClassId} {ad : Nat → Nat → Nat} {S : zM} {b N : Nat} {xs : Nat → Int32} (hE : zG E l0 D0 cI0 cJ0 ad code 4 RL 9 332) (hX : zX E b N xs) {n0 n1 n2 n3 n4 : Nat} (hJ : LJ S n0 n1 n2 n3 n4) {i : Int} (h0 : 0 ≤ i) (h1 : i + 5 ≤ N) (hN : N ≤ 2560) (kk : ∀ S2 : zM, LI S2 → Z E S2 1105 [(3, .int (i32 i)), (1, .ref (ad 5 22)), (2, .ref (ad 6 27)), (0, .ref b)] []) : Z E S 467 [(3, .int (i32 i)), (1, .ref (ad 5 22)), (2, .ref (ad 6 27)), (0, .ref b)] [] := by
  refine z_aload_n hE 1 rfl rfl dL_law_467 ?_
  refine z_callV hE (c_X7_treasury l0 D0 cI0 cJ0 ad S  n0 hJ.l0 hJ.e0 hJ.hI ) (by decide) rfl rfl zm_L_65 zi_yX7_treasury zs_yX7_treasury zn_RX7 zc_yX7_treasury (hy_X7_treasury) (Nat.le_of_ble_eq_true rfl) (Nat.le_of_ble_eq_true rfl) rfl rfl rfl (Nat.le_of_ble_eq_true rfl) dL_law_468 ?_
  refine z_aload_n hE 2 rfl rfl dL_law_471 ?_
  refine z_callV hE (c_X8_treasury l0 D0 cI0 cJ0 ad S  (by rw [hJ.h7]; exact hJ.hI) ) (by decide) rfl rfl zm_L_68 zi_yX8_treasury zs_yX8_treasury zn_RX8 zc_yX8_treasury (hy_X8_treasury) (Nat.le_of_ble_eq_true rfl) (Nat.le_of_ble_eq_true rfl) rfl rfl rfl (Nat.le_of_ble_eq_true rfl) dL_law_472 ?_
  rw [hJ.h7]
  refine z_same (tgt := 1105) hE dL_law_475 (by decide) ?_
  exact kk S ⟨n0, n1, n2, n3, n4, hJ⟩
set_option maxHeartbeats 4000000 in
set_option maxRecDepth 100000 in
theorem lc_13 {E : zE} {l0 : Launch} {D0 : va_G} {cI0 cJ0 : ClassId} {ad : Nat → Nat → Nat} {S : zM} {b N : Nat} {xs : Nat → Int32} (hE : zG E l0 D0 cI0 cJ0 ad code 4 RL 9 332) (hX : zX E b N xs) {n0 n1 n2 n3 n4 : Nat} (hJ : LJ S n0 n1 n2 n3 n4) {i : Int} (h0 : 0 ≤ i) (h1 : i + 5 ≤ N) (hN : N ≤ 2560) (kk : ∀ S2 : zM, LI S2 → Z E S2 1105 [(3, .int (i32 i)), (1, .ref (ad 5 22)), (2, .ref (ad 6 27)), (0, .ref b)] []) : Z E S 480 [(3, .int (i32 i)), (1, .ref (ad 5 22)), (2, .ref (ad 6 27)), (0, .ref b)] [] := by
  refine z_aload_n hE 1 rfl rfl dL_law_480 ?_
  refine z_aload_n hE 3 rfl rfl dL_law_481 ?_
  refine z_iload_n hE 0 rfl rfl dL_law_482 ?_
  refine z_iconst hE dL_law_483 ?_
  refine z_iadd hE dL_law_484 ?_
  refine z_sld hE hX (by omega) (by omega) dL_law_485 ?_
  refine z_aload_n hE 3 rfl rfl dL_law_486 ?_
  refine z_iload_n hE 0 rfl rfl dL_law_487 ?_
  refine z_iconst hE dL_law_488 ?_
  refine z_iadd hE dL_law_489 ?_
  refine z_sld hE hX (by omega) (by omega) dL_law_490 ?_
  refine z_callVp hE (c_X7_setBooks l0 D0 cI0 cJ0 ad S ((xs (i + 1).toNat).toInt) ((xs (i + 2).toNat).toInt) n0 n1 n2 n3 n4 hJ.l0 hJ.l1 hJ.l2 hJ.l3 hJ.l4 hJ.e0 hJ.e1 hJ.e2 hJ.e3 hJ.e4 hJ.d04 hJ.hst hJ.hI (lb32 _) (lb32 _)) (by decide) rfl rfl zm_L_69 zi_yX7_setBooks zs_yX7_setBooks zn_RX7 zc_yX7_setBooks (hy_X7_setBooks) (Nat.le_of_ble_eq_true rfl) (Nat.le_of_ble_eq_true rfl) rfl rfl rfl (Nat.le_of_ble_eq_true rfl) dL_law_491 (fun X hX2 => ?_)
  obtain ⟨e7, e6, hfin⟩ := la_act hJ (fun ok => inv_setBooks hJ.hI ok) hX2
  refine z_aload_n hE 2 rfl rfl dL_law_494 ?_
  refine z_aload_n hE 3 rfl rfl dL_law_495 ?_
  refine z_iload_n hE 0 rfl rfl dL_law_496 ?_
  refine z_iconst hE dL_law_497 ?_
  refine z_iadd hE dL_law_498 ?_
  refine z_sld hE hX (by omega) (by omega) dL_law_499 ?_
  refine z_aload_n hE 3 rfl rfl dL_law_500 ?_
  refine z_iload_n hE 0 rfl rfl dL_law_501 ?_
  refine z_iconst hE dL_law_502 ?_
  refine z_iadd hE dL_law_503 ?_
  refine z_sld hE hX (by omega) (by omega) dL_law_504 ?_
  refine z_callVp hE (c_X8_setBooks l0 D0 cI0 cJ0 ad X ((xs (i + 1).toNat).toInt) ((xs (i + 2).toNat).toInt) (by rw [e6]; exact hJ.hst) (by rw [e7]; exact hJ.hI) (lb32 _) (lb32 _)) (by decide) rfl rfl zm_L_72 zi_yX8_setBooks zs_yX8_setBooks zn_RX8 zc_yX8_setBooks (hy_X8_setBooks) (Nat.le_of_ble_eq_true rfl) (Nat.le_of_ble_eq_true rfl) rfl rfl rfl (Nat.le_of_ble_eq_true rfl) dL_law_505 (fun X2 hX3 => ?_)
  rw [e7] at hX3 ⊢
  refine z_same (tgt := 1105) hE dL_law_508 (by decide) ?_
  exact kk X2 (hfin X2 hX3)
set_option maxHeartbeats 4000000 in
set_option maxRecDepth 100000 in
theorem lc_14 {E : zE} {l0 : Launch} {D0 : va_G} {cI0 cJ0 : ClassId} {ad : Nat → Nat → Nat} {S : zM} {b N : Nat} {xs : Nat → Int32} (hE : zG E l0 D0 cI0 cJ0 ad code 4 RL 9 332) (hX : zX E b N xs) {n0 n1 n2 n3 n4 : Nat} (hJ : LJ S n0 n1 n2 n3 n4) {i : Int} (h0 : 0 ≤ i) (h1 : i + 5 ≤ N) (hN : N ≤ 2560) (kk : ∀ S2 : zM, LI S2 → Z E S2 1105 [(3, .int (i32 i)), (1, .ref (ad 5 22)), (2, .ref (ad 6 27)), (0, .ref b)] []) : Z E S 513 [(3, .int (i32 i)), (1, .ref (ad 5 22)), (2, .ref (ad 6 27)), (0, .ref b)] [] := by
  refine z_aload_n hE 1 rfl rfl dL_law_513 ?_
  refine z_aload_n hE 3 rfl rfl dL_law_514 ?_
  refine z_iload_n hE 0 rfl rfl dL_law_515 ?_
  refine z_iconst hE dL_law_516 ?_
  refine z_iadd hE dL_law_517 ?_
  refine z_sld hE hX (by omega) (by omega) dL_law_518 ?_
  refine z_callVp hE (c_X7_addSurplus l0 D0 cI0 cJ0 ad S ((xs (i + 1).toNat).toInt) n0 n1 n2 n3 n4 hJ.l0 hJ.l1 hJ.l2 hJ.l3 hJ.l4 hJ.e0 hJ.e1 hJ.e2 hJ.e3 hJ.e4 hJ.d04 hJ.hst hJ.hI (lb32 _)) (by decide) rfl rfl zm_L_73 zi_yX7_addSurplus zs_yX7_addSurplus zn_RX7 zc_yX7_addSurplus (hy_X7_addSurplus) (Nat.le_of_ble_eq_true rfl) (Nat.le_of_ble_eq_true rfl) rfl rfl rfl (Nat.le_of_ble_eq_true rfl) dL_law_519 (fun X hX2 => ?_)
  obtain ⟨e7, e6, hfin⟩ := la_act hJ (fun ok => inv_addSurplus hJ.hI ok) hX2
  refine z_aload_n hE 2 rfl rfl dL_law_522 ?_
  refine z_aload_n hE 3 rfl rfl dL_law_523 ?_
  refine z_iload_n hE 0 rfl rfl dL_law_524 ?_
  refine z_iconst hE dL_law_525 ?_
  refine z_iadd hE dL_law_526 ?_
  refine z_sld hE hX (by omega) (by omega) dL_law_527 ?_
  refine z_callVp hE (c_X8_addSurplus l0 D0 cI0 cJ0 ad X ((xs (i + 1).toNat).toInt) (by rw [e6]; exact hJ.hst) (by rw [e7]; exact hJ.hI) (lb32 _)) (by decide) rfl rfl zm_L_76 zi_yX8_addSurplus zs_yX8_addSurplus zn_RX8 zc_yX8_addSurplus (hy_X8_addSurplus) (Nat.le_of_ble_eq_true rfl) (Nat.le_of_ble_eq_true rfl) rfl rfl rfl (Nat.le_of_ble_eq_true rfl) dL_law_528 (fun X2 hX3 => ?_)
  rw [e7] at hX3 ⊢
  refine z_same (tgt := 1105) hE dL_law_531 (by decide) ?_
  exact kk X2 (hfin X2 hX3)
set_option maxHeartbeats 4000000 in
set_option maxRecDepth 100000 in
theorem lc_15 {E : zE} {l0 : Launch} {D0 : va_G} {cI0 cJ0 : ClassId} {ad : Nat → Nat → Nat} {S : zM} {b N : Nat} {xs : Nat → Int32} (hE : zG E l0 D0 cI0 cJ0 ad code 4 RL 9 332) (hX : zX E b N xs) {n0 n1 n2 n3 n4 : Nat} (hJ : LJ S n0 n1 n2 n3 n4) {i : Int} (h0 : 0 ≤ i) (h1 : i + 5 ≤ N) (hN : N ≤ 2560) (kk : ∀ S2 : zM, LI S2 → Z E S2 1105 [(3, .int (i32 i)), (1, .ref (ad 5 22)), (2, .ref (ad 6 27)), (0, .ref b)] []) : Z E S 536 [(3, .int (i32 i)), (1, .ref (ad 5 22)), (2, .ref (ad 6 27)), (0, .ref b)] [] := by
  refine z_aload_n hE 1 rfl rfl dL_law_536 ?_
  refine z_callVp hE (c_X7_valuate l0 D0 cI0 cJ0 ad S  n0 n1 n2 n3 n4 hJ.l0 hJ.l1 hJ.l2 hJ.l3 hJ.l4 hJ.e0 hJ.e1 hJ.e2 hJ.e3 hJ.e4 hJ.d04 hJ.hst hJ.hI ) (by decide) rfl rfl zm_L_77 zi_yX7_valuate zs_yX7_valuate zn_RX7 zc_yX7_valuate (hy_X7_valuate) (Nat.le_of_ble_eq_true rfl) (Nat.le_of_ble_eq_true rfl) rfl rfl rfl (Nat.le_of_ble_eq_true rfl) dL_law_537 (fun X hX2 => ?_)
  obtain ⟨e7, e6, hfin⟩ := la_act hJ (fun ok => inv_valuate hJ.hI ok) hX2
  refine z_aload_n hE 2 rfl rfl dL_law_540 ?_
  refine z_callVp hE (c_X8_valuate l0 D0 cI0 cJ0 ad X  (by rw [e6]; exact hJ.hst) (by rw [e7]; exact hJ.hI) ) (by decide) rfl rfl zm_L_80 zi_yX8_valuate zs_yX8_valuate zn_RX8 zc_yX8_valuate (hy_X8_valuate) (Nat.le_of_ble_eq_true rfl) (Nat.le_of_ble_eq_true rfl) rfl rfl rfl (Nat.le_of_ble_eq_true rfl) dL_law_541 (fun X2 hX3 => ?_)
  rw [e7] at hX3 ⊢
  refine z_same (tgt := 1105) hE dL_law_544 (by decide) ?_
  exact kk X2 (hfin X2 hX3)
set_option maxHeartbeats 4000000 in
set_option maxRecDepth 100000 in
theorem lc_16 {E : zE} {l0 : Launch} {D0 : va_G} {cI0 cJ0 : ClassId} {ad : Nat → Nat → Nat} {S : zM} {b N : Nat} {xs : Nat → Int32} (hE : zG E l0 D0 cI0 cJ0 ad code 4 RL 9 332) (hX : zX E b N xs) {n0 n1 n2 n3 n4 : Nat} (hJ : LJ S n0 n1 n2 n3 n4) {i : Int} (h0 : 0 ≤ i) (h1 : i + 5 ≤ N) (hN : N ≤ 2560) (kk : ∀ S2 : zM, LI S2 → Z E S2 1105 [(3, .int (i32 i)), (1, .ref (ad 5 22)), (2, .ref (ad 6 27)), (0, .ref b)] []) : Z E S 549 [(3, .int (i32 i)), (1, .ref (ad 5 22)), (2, .ref (ad 6 27)), (0, .ref b)] [] := by
  refine z_aload_n hE 1 rfl rfl dL_law_549 ?_
  refine z_callV hE (c_X7_price l0 D0 cI0 cJ0 ad S  n0 hJ.l0 hJ.e0 hJ.hI ) (by decide) rfl rfl zm_L_81 zi_yX7_price zs_yX7_price zn_RX7 zc_yX7_price (hy_X7_price) (Nat.le_of_ble_eq_true rfl) (Nat.le_of_ble_eq_true rfl) rfl rfl rfl (Nat.le_of_ble_eq_true rfl) dL_law_550 ?_
  refine z_aload_n hE 2 rfl rfl dL_law_553 ?_
  refine z_callV hE (c_X8_price l0 D0 cI0 cJ0 ad S  (by rw [hJ.h7]; exact hJ.hI) ) (by decide) rfl rfl zm_L_84 zi_yX8_price zs_yX8_price zn_RX8 zc_yX8_price (hy_X8_price) (Nat.le_of_ble_eq_true rfl) (Nat.le_of_ble_eq_true rfl) rfl rfl rfl (Nat.le_of_ble_eq_true rfl) dL_law_554 ?_
  rw [hJ.h7]
  refine z_same (tgt := 1105) hE dL_law_557 (by decide) ?_
  exact kk S ⟨n0, n1, n2, n3, n4, hJ⟩
set_option maxHeartbeats 4000000 in
set_option maxRecDepth 100000 in
theorem lc_17 {E : zE} {l0 : Launch} {D0 : va_G} {cI0 cJ0 : ClassId} {ad : Nat → Nat → Nat} {S : zM} {b N : Nat} {xs : Nat → Int32} (hE : zG E l0 D0 cI0 cJ0 ad code 4 RL 9 332) (hX : zX E b N xs) {n0 n1 n2 n3 n4 : Nat} (hJ : LJ S n0 n1 n2 n3 n4) {i : Int} (h0 : 0 ≤ i) (h1 : i + 5 ≤ N) (hN : N ≤ 2560) (kk : ∀ S2 : zM, LI S2 → Z E S2 1105 [(3, .int (i32 i)), (1, .ref (ad 5 22)), (2, .ref (ad 6 27)), (0, .ref b)] []) : Z E S 562 [(3, .int (i32 i)), (1, .ref (ad 5 22)), (2, .ref (ad 6 27)), (0, .ref b)] [] := by
  refine z_aload_n hE 1 rfl rfl dL_law_562 ?_
  refine z_callV hE (c_X7_parValue l0 D0 cI0 cJ0 ad S  n0 hJ.l0 hJ.e0 hJ.hI ) (by decide) rfl rfl zm_L_85 zi_yX7_parValue zs_yX7_parValue zn_RX7 zc_yX7_parValue (hy_X7_parValue) (Nat.le_of_ble_eq_true rfl) (Nat.le_of_ble_eq_true rfl) rfl rfl rfl (Nat.le_of_ble_eq_true rfl) dL_law_563 ?_
  refine z_aload_n hE 2 rfl rfl dL_law_566 ?_
  refine z_callV hE (c_X8_parValue l0 D0 cI0 cJ0 ad S  (by rw [hJ.h7]; exact hJ.hI) ) (by decide) rfl rfl zm_L_88 zi_yX8_parValue zs_yX8_parValue zn_RX8 zc_yX8_parValue (hy_X8_parValue) (Nat.le_of_ble_eq_true rfl) (Nat.le_of_ble_eq_true rfl) rfl rfl rfl (Nat.le_of_ble_eq_true rfl) dL_law_567 ?_
  rw [hJ.h7]
  refine z_same (tgt := 1105) hE dL_law_570 (by decide) ?_
  exact kk S ⟨n0, n1, n2, n3, n4, hJ⟩
set_option maxHeartbeats 4000000 in
set_option maxRecDepth 100000 in
theorem lc_18 {E : zE} {l0 : Launch} {D0 : va_G} {cI0 cJ0 : ClassId} {ad : Nat → Nat → Nat} {S : zM} {b N : Nat} {xs : Nat → Int32} (hE : zG E l0 D0 cI0 cJ0 ad code 4 RL 9 332) (hX : zX E b N xs) {n0 n1 n2 n3 n4 : Nat} (hJ : LJ S n0 n1 n2 n3 n4) {i : Int} (h0 : 0 ≤ i) (h1 : i + 5 ≤ N) (hN : N ≤ 2560) (kk : ∀ S2 : zM, LI S2 → Z E S2 1105 [(3, .int (i32 i)), (1, .ref (ad 5 22)), (2, .ref (ad 6 27)), (0, .ref b)] []) : Z E S 575 [(3, .int (i32 i)), (1, .ref (ad 5 22)), (2, .ref (ad 6 27)), (0, .ref b)] [] := by
  refine z_aload_n hE 1 rfl rfl dL_law_575 ?_
  refine z_aload_n hE 3 rfl rfl dL_law_576 ?_
  refine z_iload_n hE 0 rfl rfl dL_law_577 ?_
  refine z_iconst hE dL_law_578 ?_
  refine z_iadd hE dL_law_579 ?_
  refine z_sld hE hX (by omega) (by omega) dL_law_580 ?_
  refine z_aload_n hE 3 rfl rfl dL_law_581 ?_
  refine z_iload_n hE 0 rfl rfl dL_law_582 ?_
  refine z_iconst hE dL_law_583 ?_
  refine z_iadd hE dL_law_584 ?_
  refine z_sld hE hX (by omega) (by omega) dL_law_585 ?_
  refine z_aload_n hE 3 rfl rfl dL_law_586 ?_
  refine z_iload_n hE 0 rfl rfl dL_law_587 ?_
  refine z_iconst hE dL_law_588 ?_
  refine z_iadd hE dL_law_589 ?_
  refine z_sld hE hX (by omega) (by omega) dL_law_590 ?_
  refine z_aload_n hE 3 rfl rfl dL_law_591 ?_
  refine z_iload_n hE 0 rfl rfl dL_law_592 ?_
  refine z_iconst hE dL_law_593 ?_
  refine z_iadd hE dL_law_594 ?_
  refine z_sld hE hX (by omega) (by omega) dL_law_595 ?_
  refine z_callVp hE (c_X7_offer l0 D0 cI0 cJ0 ad S ((xs (i + 1).toNat).toInt) ((xs (i + 2).toNat).toInt) ((xs (i + 3).toNat).toInt) ((xs (i + 4).toNat).toInt) n0 n1 n2 n3 n4 hJ.l0 hJ.l1 hJ.l2 hJ.l3 hJ.l4 hJ.e0 hJ.e1 hJ.e2 hJ.e3 hJ.e4 hJ.d04 hJ.hst hJ.hI (lb32 _) (lb32 _) (lb32 _) (lb32 _)) (by decide) rfl rfl zm_L_89 zi_yX7_offer zs_yX7_offer zn_RX7 zc_yX7_offer (hy_X7_offer) (Nat.le_of_ble_eq_true rfl) (Nat.le_of_ble_eq_true rfl) rfl rfl rfl (Nat.le_of_ble_eq_true rfl) dL_law_596 (fun X hX2 => ?_)
  obtain ⟨e7, e6, hfin⟩ := la_act hJ (fun ok => inv_offer hJ.hI ok) hX2
  refine z_aload_n hE 2 rfl rfl dL_law_599 ?_
  refine z_aload_n hE 3 rfl rfl dL_law_600 ?_
  refine z_iload_n hE 0 rfl rfl dL_law_601 ?_
  refine z_iconst hE dL_law_602 ?_
  refine z_iadd hE dL_law_603 ?_
  refine z_sld hE hX (by omega) (by omega) dL_law_604 ?_
  refine z_aload_n hE 3 rfl rfl dL_law_605 ?_
  refine z_iload_n hE 0 rfl rfl dL_law_606 ?_
  refine z_iconst hE dL_law_607 ?_
  refine z_iadd hE dL_law_608 ?_
  refine z_sld hE hX (by omega) (by omega) dL_law_609 ?_
  refine z_aload_n hE 3 rfl rfl dL_law_610 ?_
  refine z_iload_n hE 0 rfl rfl dL_law_611 ?_
  refine z_iconst hE dL_law_612 ?_
  refine z_iadd hE dL_law_613 ?_
  refine z_sld hE hX (by omega) (by omega) dL_law_614 ?_
  refine z_aload_n hE 3 rfl rfl dL_law_615 ?_
  refine z_iload_n hE 0 rfl rfl dL_law_616 ?_
  refine z_iconst hE dL_law_617 ?_
  refine z_iadd hE dL_law_618 ?_
  refine z_sld hE hX (by omega) (by omega) dL_law_619 ?_
  refine z_callVp hE (c_X8_offer l0 D0 cI0 cJ0 ad X ((xs (i + 1).toNat).toInt) ((xs (i + 2).toNat).toInt) ((xs (i + 3).toNat).toInt) ((xs (i + 4).toNat).toInt) (by rw [e6]; exact hJ.hst) (by rw [e7]; exact hJ.hI) (lb32 _) (lb32 _) (lb32 _) (lb32 _)) (by decide) rfl rfl zm_L_93 zi_yX8_offer zs_yX8_offer zn_RX8 zc_yX8_offer (hy_X8_offer) (Nat.le_of_ble_eq_true rfl) (Nat.le_of_ble_eq_true rfl) rfl rfl rfl (Nat.le_of_ble_eq_true rfl) dL_law_620 (fun X2 hX3 => ?_)
  rw [e7] at hX3 ⊢
  refine z_same (tgt := 1105) hE dL_law_623 (by decide) ?_
  exact kk X2 (hfin X2 hX3)
set_option maxHeartbeats 4000000 in
set_option maxRecDepth 100000 in
theorem lc_19 {E : zE} {l0 : Launch} {D0 : va_G} {cI0 cJ0 : ClassId} {ad : Nat → Nat → Nat} {S : zM} {b N : Nat} {xs : Nat → Int32} (hE : zG E l0 D0 cI0 cJ0 ad code 4 RL 9 332) (hX : zX E b N xs) {n0 n1 n2 n3 n4 : Nat} (hJ : LJ S n0 n1 n2 n3 n4) {i : Int} (h0 : 0 ≤ i) (h1 : i + 5 ≤ N) (hN : N ≤ 2560) (kk : ∀ S2 : zM, LI S2 → Z E S2 1105 [(3, .int (i32 i)), (1, .ref (ad 5 22)), (2, .ref (ad 6 27)), (0, .ref b)] []) : Z E S 628 [(3, .int (i32 i)), (1, .ref (ad 5 22)), (2, .ref (ad 6 27)), (0, .ref b)] [] := by
  refine z_aload_n hE 1 rfl rfl dL_law_628 ?_
  refine z_aload_n hE 3 rfl rfl dL_law_629 ?_
  refine z_iload_n hE 0 rfl rfl dL_law_630 ?_
  refine z_iconst hE dL_law_631 ?_
  refine z_iadd hE dL_law_632 ?_
  refine z_sld hE hX (by omega) (by omega) dL_law_633 ?_
  refine z_aload_n hE 3 rfl rfl dL_law_634 ?_
  refine z_iload_n hE 0 rfl rfl dL_law_635 ?_
  refine z_iconst hE dL_law_636 ?_
  refine z_iadd hE dL_law_637 ?_
  refine z_sld hE hX (by omega) (by omega) dL_law_638 ?_
  refine z_aload_n hE 3 rfl rfl dL_law_639 ?_
  refine z_iload_n hE 0 rfl rfl dL_law_640 ?_
  refine z_iconst hE dL_law_641 ?_
  refine z_iadd hE dL_law_642 ?_
  refine z_sld hE hX (by omega) (by omega) dL_law_643 ?_
  refine z_callVp hE (c_X7_claim l0 D0 cI0 cJ0 ad S ((xs (i + 1).toNat).toInt) ((xs (i + 2).toNat).toInt) ((xs (i + 3).toNat).toInt) n0 n1 n2 n3 n4 hJ.l0 hJ.l1 hJ.l2 hJ.l3 hJ.l4 hJ.e0 hJ.e1 hJ.e2 hJ.e3 hJ.e4 hJ.d04 hJ.hst hJ.hI (lb32 _) (lb32 _) (lb32 _)) (by decide) rfl rfl zm_L_94 zi_yX7_claim zs_yX7_claim zn_RX7 zc_yX7_claim (hy_X7_claim) (Nat.le_of_ble_eq_true rfl) (Nat.le_of_ble_eq_true rfl) rfl rfl rfl (Nat.le_of_ble_eq_true rfl) dL_law_644 (fun X hX2 => ?_)
  obtain ⟨e7, e6, hfin⟩ := la_act hJ (fun ok => inv_claim hJ.hI ok) hX2
  refine z_aload_n hE 2 rfl rfl dL_law_647 ?_
  refine z_aload_n hE 3 rfl rfl dL_law_648 ?_
  refine z_iload_n hE 0 rfl rfl dL_law_649 ?_
  refine z_iconst hE dL_law_650 ?_
  refine z_iadd hE dL_law_651 ?_
  refine z_sld hE hX (by omega) (by omega) dL_law_652 ?_
  refine z_aload_n hE 3 rfl rfl dL_law_653 ?_
  refine z_iload_n hE 0 rfl rfl dL_law_654 ?_
  refine z_iconst hE dL_law_655 ?_
  refine z_iadd hE dL_law_656 ?_
  refine z_sld hE hX (by omega) (by omega) dL_law_657 ?_
  refine z_aload_n hE 3 rfl rfl dL_law_658 ?_
  refine z_iload_n hE 0 rfl rfl dL_law_659 ?_
  refine z_iconst hE dL_law_660 ?_
  refine z_iadd hE dL_law_661 ?_
  refine z_sld hE hX (by omega) (by omega) dL_law_662 ?_
  refine z_callVp hE (c_X8_claim l0 D0 cI0 cJ0 ad X ((xs (i + 1).toNat).toInt) ((xs (i + 2).toNat).toInt) ((xs (i + 3).toNat).toInt) (by rw [e6]; exact hJ.hst) (by rw [e7]; exact hJ.hI) (lb32 _) (lb32 _) (lb32 _)) (by decide) rfl rfl zm_L_98 zi_yX8_claim zs_yX8_claim zn_RX8 zc_yX8_claim (hy_X8_claim) (Nat.le_of_ble_eq_true rfl) (Nat.le_of_ble_eq_true rfl) rfl rfl rfl (Nat.le_of_ble_eq_true rfl) dL_law_663 (fun X2 hX3 => ?_)
  rw [e7] at hX3 ⊢
  refine z_same (tgt := 1105) hE dL_law_666 (by decide) ?_
  exact kk X2 (hfin X2 hX3)
set_option maxHeartbeats 4000000 in
set_option maxRecDepth 100000 in
theorem lc_20 {E : zE} {l0 : Launch} {D0 : va_G} {cI0 cJ0 : ClassId} {ad : Nat → Nat → Nat} {S : zM} {b N : Nat} {xs : Nat → Int32} (hE : zG E l0 D0 cI0 cJ0 ad code 4 RL 9 332) (hX : zX E b N xs) {n0 n1 n2 n3 n4 : Nat} (hJ : LJ S n0 n1 n2 n3 n4) {i : Int} (h0 : 0 ≤ i) (h1 : i + 5 ≤ N) (hN : N ≤ 2560) (kk : ∀ S2 : zM, LI S2 → Z E S2 1105 [(3, .int (i32 i)), (1, .ref (ad 5 22)), (2, .ref (ad 6 27)), (0, .ref b)] []) : Z E S 671 [(3, .int (i32 i)), (1, .ref (ad 5 22)), (2, .ref (ad 6 27)), (0, .ref b)] [] := by
  refine z_aload_n hE 1 rfl rfl dL_law_671 ?_
  refine z_aload_n hE 3 rfl rfl dL_law_672 ?_
  refine z_iload_n hE 0 rfl rfl dL_law_673 ?_
  refine z_iconst hE dL_law_674 ?_
  refine z_iadd hE dL_law_675 ?_
  refine z_sld hE hX (by omega) (by omega) dL_law_676 ?_
  refine z_callVp hE (c_X7_withdraw l0 D0 cI0 cJ0 ad S ((xs (i + 1).toNat).toInt) n0 n1 n2 n3 n4 hJ.l0 hJ.l1 hJ.l2 hJ.l3 hJ.l4 hJ.e0 hJ.e1 hJ.e2 hJ.e3 hJ.e4 hJ.d04 hJ.hst hJ.hI (lb32 _)) (by decide) rfl rfl zm_L_99 zi_yX7_withdraw zs_yX7_withdraw zn_RX7 zc_yX7_withdraw (hy_X7_withdraw) (Nat.le_of_ble_eq_true rfl) (Nat.le_of_ble_eq_true rfl) rfl rfl rfl (Nat.le_of_ble_eq_true rfl) dL_law_677 (fun X hX2 => ?_)
  obtain ⟨e7, e6, hfin⟩ := la_act hJ (fun ok => inv_withdraw hJ.hI ok) hX2
  refine z_aload_n hE 2 rfl rfl dL_law_680 ?_
  refine z_aload_n hE 3 rfl rfl dL_law_681 ?_
  refine z_iload_n hE 0 rfl rfl dL_law_682 ?_
  refine z_iconst hE dL_law_683 ?_
  refine z_iadd hE dL_law_684 ?_
  refine z_sld hE hX (by omega) (by omega) dL_law_685 ?_
  refine z_callVp hE (c_X8_withdraw l0 D0 cI0 cJ0 ad X ((xs (i + 1).toNat).toInt) (by rw [e6]; exact hJ.hst) (by rw [e7]; exact hJ.hI) (lb32 _)) (by decide) rfl rfl zm_L_102 zi_yX8_withdraw zs_yX8_withdraw zn_RX8 zc_yX8_withdraw (hy_X8_withdraw) (Nat.le_of_ble_eq_true rfl) (Nat.le_of_ble_eq_true rfl) rfl rfl rfl (Nat.le_of_ble_eq_true rfl) dL_law_686 (fun X2 hX3 => ?_)
  rw [e7] at hX3 ⊢
  refine z_same (tgt := 1105) hE dL_law_689 (by decide) ?_
  exact kk X2 (hfin X2 hX3)
set_option maxHeartbeats 4000000 in
set_option maxRecDepth 100000 in
theorem lc_21 {E : zE} {l0 : Launch} {D0 : va_G} {cI0 cJ0 : ClassId} {ad : Nat → Nat → Nat} {S : zM} {b N : Nat} {xs : Nat → Int32} (hE : zG E l0 D0 cI0 cJ0 ad code 4 RL 9 332) (hX : zX E b N xs) {n0 n1 n2 n3 n4 : Nat} (hJ : LJ S n0 n1 n2 n3 n4) {i : Int} (h0 : 0 ≤ i) (h1 : i + 5 ≤ N) (hN : N ≤ 2560) (kk : ∀ S2 : zM, LI S2 → Z E S2 1105 [(3, .int (i32 i)), (1, .ref (ad 5 22)), (2, .ref (ad 6 27)), (0, .ref b)] []) : Z E S 694 [(3, .int (i32 i)), (1, .ref (ad 5 22)), (2, .ref (ad 6 27)), (0, .ref b)] [] := by
  refine z_aload_n hE 1 rfl rfl dL_law_694 ?_
  refine z_aload_n hE 3 rfl rfl dL_law_695 ?_
  refine z_iload_n hE 0 rfl rfl dL_law_696 ?_
  refine z_iconst hE dL_law_697 ?_
  refine z_iadd hE dL_law_698 ?_
  refine z_sld hE hX (by omega) (by omega) dL_law_699 ?_
  refine z_callVp hE (c_X7_passDays l0 D0 cI0 cJ0 ad S ((xs (i + 1).toNat).toInt) n0 n1 n2 n3 n4 hJ.l0 hJ.l1 hJ.l2 hJ.l3 hJ.l4 hJ.e0 hJ.e1 hJ.e2 hJ.e3 hJ.e4 hJ.d04 hJ.hst hJ.hI (lb32 _)) (by decide) rfl rfl zm_L_103 zi_yX7_passDays zs_yX7_passDays zn_RX7 zc_yX7_passDays (hy_X7_passDays) (Nat.le_of_ble_eq_true rfl) (Nat.le_of_ble_eq_true rfl) rfl rfl rfl (Nat.le_of_ble_eq_true rfl) dL_law_700 (fun X hX2 => ?_)
  obtain ⟨e7, e6, hfin⟩ := la_days hJ (fun ok => inv_passDays hJ.hI ok) hX2
  refine z_aload_n hE 2 rfl rfl dL_law_703 ?_
  refine z_aload_n hE 3 rfl rfl dL_law_704 ?_
  refine z_iload_n hE 0 rfl rfl dL_law_705 ?_
  refine z_iconst hE dL_law_706 ?_
  refine z_iadd hE dL_law_707 ?_
  refine z_sld hE hX (by omega) (by omega) dL_law_708 ?_
  refine z_callVp hE (c_X8_passDays l0 D0 cI0 cJ0 ad X ((xs (i + 1).toNat).toInt) (by rw [e6]; exact hJ.hst) (by rw [e7]; exact hJ.hI) (lb32 _)) (by decide) rfl rfl zm_L_106 zi_yX8_passDays zs_yX8_passDays zn_RX8 zc_yX8_passDays (hy_X8_passDays) (Nat.le_of_ble_eq_true rfl) (Nat.le_of_ble_eq_true rfl) rfl rfl rfl (Nat.le_of_ble_eq_true rfl) dL_law_709 (fun X2 hX3 => ?_)
  rw [e7] at hX3 ⊢
  refine z_same (tgt := 1105) hE dL_law_712 (by decide) ?_
  exact kk X2 (hfin X2 hX3)
set_option maxHeartbeats 4000000 in
set_option maxRecDepth 100000 in
theorem lc_22 {E : zE} {l0 : Launch} {D0 : va_G} {cI0 cJ0 : ClassId} {ad : Nat → Nat → Nat} {S : zM} {b N : Nat} {xs : Nat → Int32} (hE : zG E l0 D0 cI0 cJ0 ad code 4 RL 9 332) (hX : zX E b N xs) {n0 n1 n2 n3 n4 : Nat} (hJ : LJ S n0 n1 n2 n3 n4) {i : Int} (h0 : 0 ≤ i) (h1 : i + 5 ≤ N) (hN : N ≤ 2560) (kk : ∀ S2 : zM, LI S2 → Z E S2 1105 [(3, .int (i32 i)), (1, .ref (ad 5 22)), (2, .ref (ad 6 27)), (0, .ref b)] []) : Z E S 717 [(3, .int (i32 i)), (1, .ref (ad 5 22)), (2, .ref (ad 6 27)), (0, .ref b)] [] := by
  refine z_aload_n hE 1 rfl rfl dL_law_717 ?_
  refine z_callV hE (c_X7_offerCount l0 D0 cI0 cJ0 ad S  n0 hJ.l0 hJ.e0 hJ.hI ) (by decide) rfl rfl zm_L_107 zi_yX7_offerCount zs_yX7_offerCount zn_RX7 zc_yX7_offerCount (hy_X7_offerCount) (Nat.le_of_ble_eq_true rfl) (Nat.le_of_ble_eq_true rfl) rfl rfl rfl (Nat.le_of_ble_eq_true rfl) dL_law_718 ?_
  refine z_aload_n hE 2 rfl rfl dL_law_721 ?_
  refine z_callV hE (c_X8_offerCount l0 D0 cI0 cJ0 ad S  (by rw [hJ.h7]; exact hJ.hI) ) (by decide) rfl rfl zm_L_110 zi_yX8_offerCount zs_yX8_offerCount zn_RX8 zc_yX8_offerCount (hy_X8_offerCount) (Nat.le_of_ble_eq_true rfl) (Nat.le_of_ble_eq_true rfl) rfl rfl rfl (Nat.le_of_ble_eq_true rfl) dL_law_722 ?_
  rw [hJ.h7]
  refine z_same (tgt := 1105) hE dL_law_725 (by decide) ?_
  exact kk S ⟨n0, n1, n2, n3, n4, hJ⟩
set_option maxHeartbeats 4000000 in
set_option maxRecDepth 100000 in
theorem lc_23 {E : zE} {l0 : Launch} {D0 : va_G} {cI0 cJ0 : ClassId} {ad : Nat → Nat → Nat} {S : zM} {b N : Nat} {xs : Nat → Int32} (hE : zG E l0 D0 cI0 cJ0 ad code 4 RL 9 332) (hX : zX E b N xs) {n0 n1 n2 n3 n4 : Nat} (hJ : LJ S n0 n1 n2 n3 n4) {i : Int} (h0 : 0 ≤ i) (h1 : i + 5 ≤ N) (hN : N ≤ 2560) (kk : ∀ S2 : zM, LI S2 → Z E S2 1105 [(3, .int (i32 i)), (1, .ref (ad 5 22)), (2, .ref (ad 6 27)), (0, .ref b)] []) : Z E S 730 [(3, .int (i32 i)), (1, .ref (ad 5 22)), (2, .ref (ad 6 27)), (0, .ref b)] [] := by
  refine z_aload_n hE 1 rfl rfl dL_law_730 ?_
  refine z_aload_n hE 3 rfl rfl dL_law_731 ?_
  refine z_iload_n hE 0 rfl rfl dL_law_732 ?_
  refine z_iconst hE dL_law_733 ?_
  refine z_iadd hE dL_law_734 ?_
  refine z_sld hE hX (by omega) (by omega) dL_law_735 ?_
  refine z_callV hE (c_X7_stage l0 D0 cI0 cJ0 ad S ((xs (i + 1).toNat).toInt) n0 hJ.l0 hJ.e0 hJ.hI (lb32 _)) (by decide) rfl rfl zm_L_111 zi_yX7_stage zs_yX7_stage zn_RX7 zc_yX7_stage (hy_X7_stage) (Nat.le_of_ble_eq_true rfl) (Nat.le_of_ble_eq_true rfl) rfl rfl rfl (Nat.le_of_ble_eq_true rfl) dL_law_736 ?_
  refine z_aload_n hE 2 rfl rfl dL_law_739 ?_
  refine z_aload_n hE 3 rfl rfl dL_law_740 ?_
  refine z_iload_n hE 0 rfl rfl dL_law_741 ?_
  refine z_iconst hE dL_law_742 ?_
  refine z_iadd hE dL_law_743 ?_
  refine z_sld hE hX (by omega) (by omega) dL_law_744 ?_
  refine z_callV hE (c_X8_stage l0 D0 cI0 cJ0 ad S ((xs (i + 1).toNat).toInt) (by rw [hJ.h7]; exact hJ.hI) (lb32 _)) (by decide) rfl rfl zm_L_114 zi_yX8_stage zs_yX8_stage zn_RX8 zc_yX8_stage (hy_X8_stage) (Nat.le_of_ble_eq_true rfl) (Nat.le_of_ble_eq_true rfl) rfl rfl rfl (Nat.le_of_ble_eq_true rfl) dL_law_745 ?_
  rw [hJ.h7]
  refine z_same (tgt := 1105) hE dL_law_748 (by decide) ?_
  exact kk S ⟨n0, n1, n2, n3, n4, hJ⟩
set_option maxHeartbeats 4000000 in
set_option maxRecDepth 100000 in
theorem lc_24 {E : zE} {l0 : Launch} {D0 : va_G} {cI0 cJ0 : ClassId} {ad : Nat → Nat → Nat} {S : zM} {b N : Nat} {xs : Nat → Int32} (hE : zG E l0 D0 cI0 cJ0 ad code 4 RL 9 332) (hX : zX E b N xs) {n0 n1 n2 n3 n4 : Nat} (hJ : LJ S n0 n1 n2 n3 n4) {i : Int} (h0 : 0 ≤ i) (h1 : i + 5 ≤ N) (hN : N ≤ 2560) (kk : ∀ S2 : zM, LI S2 → Z E S2 1105 [(3, .int (i32 i)), (1, .ref (ad 5 22)), (2, .ref (ad 6 27)), (0, .ref b)] []) : Z E S 753 [(3, .int (i32 i)), (1, .ref (ad 5 22)), (2, .ref (ad 6 27)), (0, .ref b)] [] := by
  refine z_aload_n hE 1 rfl rfl dL_law_753 ?_
  refine z_aload_n hE 3 rfl rfl dL_law_754 ?_
  refine z_iload_n hE 0 rfl rfl dL_law_755 ?_
  refine z_iconst hE dL_law_756 ?_
  refine z_iadd hE dL_law_757 ?_
  refine z_sld hE hX (by omega) (by omega) dL_law_758 ?_
  refine z_callV hE (c_X7_remaining l0 D0 cI0 cJ0 ad S ((xs (i + 1).toNat).toInt) n0 hJ.l0 hJ.e0 hJ.hI (lb32 _)) (by decide) rfl rfl zm_L_115 zi_yX7_remaining zs_yX7_remaining zn_RX7 zc_yX7_remaining (hy_X7_remaining) (Nat.le_of_ble_eq_true rfl) (Nat.le_of_ble_eq_true rfl) rfl rfl rfl (Nat.le_of_ble_eq_true rfl) dL_law_759 ?_
  refine z_aload_n hE 2 rfl rfl dL_law_762 ?_
  refine z_aload_n hE 3 rfl rfl dL_law_763 ?_
  refine z_iload_n hE 0 rfl rfl dL_law_764 ?_
  refine z_iconst hE dL_law_765 ?_
  refine z_iadd hE dL_law_766 ?_
  refine z_sld hE hX (by omega) (by omega) dL_law_767 ?_
  refine z_callV hE (c_X8_remaining l0 D0 cI0 cJ0 ad S ((xs (i + 1).toNat).toInt) (by rw [hJ.h7]; exact hJ.hI) (lb32 _)) (by decide) rfl rfl zm_L_118 zi_yX8_remaining zs_yX8_remaining zn_RX8 zc_yX8_remaining (hy_X8_remaining) (Nat.le_of_ble_eq_true rfl) (Nat.le_of_ble_eq_true rfl) rfl rfl rfl (Nat.le_of_ble_eq_true rfl) dL_law_768 ?_
  rw [hJ.h7]
  refine z_same (tgt := 1105) hE dL_law_771 (by decide) ?_
  exact kk S ⟨n0, n1, n2, n3, n4, hJ⟩
set_option maxHeartbeats 4000000 in
set_option maxRecDepth 100000 in
theorem lc_25 {E : zE} {l0 : Launch} {D0 : va_G} {cI0 cJ0 : ClassId} {ad : Nat → Nat → Nat} {S : zM} {b N : Nat} {xs : Nat → Int32} (hE : zG E l0 D0 cI0 cJ0 ad code 4 RL 9 332) (hX : zX E b N xs) {n0 n1 n2 n3 n4 : Nat} (hJ : LJ S n0 n1 n2 n3 n4) {i : Int} (h0 : 0 ≤ i) (h1 : i + 5 ≤ N) (hN : N ≤ 2560) (kk : ∀ S2 : zM, LI S2 → Z E S2 1105 [(3, .int (i32 i)), (1, .ref (ad 5 22)), (2, .ref (ad 6 27)), (0, .ref b)] []) : Z E S 776 [(3, .int (i32 i)), (1, .ref (ad 5 22)), (2, .ref (ad 6 27)), (0, .ref b)] [] := by
  refine z_aload_n hE 1 rfl rfl dL_law_776 ?_
  refine z_aload_n hE 3 rfl rfl dL_law_777 ?_
  refine z_iload_n hE 0 rfl rfl dL_law_778 ?_
  refine z_iconst hE dL_law_779 ?_
  refine z_iadd hE dL_law_780 ?_
  refine z_sld hE hX (by omega) (by omega) dL_law_781 ?_
  refine z_callV hE (c_X7_daysLeft l0 D0 cI0 cJ0 ad S ((xs (i + 1).toNat).toInt) n0 hJ.l0 hJ.e0 hJ.hI (lb32 _)) (by decide) rfl rfl zm_L_119 zi_yX7_daysLeft zs_yX7_daysLeft zn_RX7 zc_yX7_daysLeft (hy_X7_daysLeft) (Nat.le_of_ble_eq_true rfl) (Nat.le_of_ble_eq_true rfl) rfl rfl rfl (Nat.le_of_ble_eq_true rfl) dL_law_782 ?_
  refine z_aload_n hE 2 rfl rfl dL_law_785 ?_
  refine z_aload_n hE 3 rfl rfl dL_law_786 ?_
  refine z_iload_n hE 0 rfl rfl dL_law_787 ?_
  refine z_iconst hE dL_law_788 ?_
  refine z_iadd hE dL_law_789 ?_
  refine z_sld hE hX (by omega) (by omega) dL_law_790 ?_
  refine z_callV hE (c_X8_daysLeft l0 D0 cI0 cJ0 ad S ((xs (i + 1).toNat).toInt) (by rw [hJ.h7]; exact hJ.hI) (lb32 _)) (by decide) rfl rfl zm_L_122 zi_yX8_daysLeft zs_yX8_daysLeft zn_RX8 zc_yX8_daysLeft (hy_X8_daysLeft) (Nat.le_of_ble_eq_true rfl) (Nat.le_of_ble_eq_true rfl) rfl rfl rfl (Nat.le_of_ble_eq_true rfl) dL_law_791 ?_
  rw [hJ.h7]
  refine z_same (tgt := 1105) hE dL_law_794 (by decide) ?_
  exact kk S ⟨n0, n1, n2, n3, n4, hJ⟩
set_option maxHeartbeats 4000000 in
set_option maxRecDepth 100000 in
theorem lc_26 {E : zE} {l0 : Launch} {D0 : va_G} {cI0 cJ0 : ClassId} {ad : Nat → Nat → Nat} {S : zM} {b N : Nat} {xs : Nat → Int32} (hE : zG E l0 D0 cI0 cJ0 ad code 4 RL 9 332) (hX : zX E b N xs) {n0 n1 n2 n3 n4 : Nat} (hJ : LJ S n0 n1 n2 n3 n4) {i : Int} (h0 : 0 ≤ i) (h1 : i + 5 ≤ N) (hN : N ≤ 2560) (kk : ∀ S2 : zM, LI S2 → Z E S2 1105 [(3, .int (i32 i)), (1, .ref (ad 5 22)), (2, .ref (ad 6 27)), (0, .ref b)] []) : Z E S 799 [(3, .int (i32 i)), (1, .ref (ad 5 22)), (2, .ref (ad 6 27)), (0, .ref b)] [] := by
  refine z_aload_n hE 1 rfl rfl dL_law_799 ?_
  refine z_aload_n hE 3 rfl rfl dL_law_800 ?_
  refine z_iload_n hE 0 rfl rfl dL_law_801 ?_
  refine z_iconst hE dL_law_802 ?_
  refine z_iadd hE dL_law_803 ?_
  refine z_sld hE hX (by omega) (by omega) dL_law_804 ?_
  refine z_aload_n hE 3 rfl rfl dL_law_805 ?_
  refine z_iload_n hE 0 rfl rfl dL_law_806 ?_
  refine z_iconst hE dL_law_807 ?_
  refine z_iadd hE dL_law_808 ?_
  refine z_sld hE hX (by omega) (by omega) dL_law_809 ?_
  refine z_callV hE (c_X7_sold l0 D0 cI0 cJ0 ad S ((xs (i + 1).toNat).toInt) ((xs (i + 2).toNat).toInt) n0 hJ.l0 hJ.e0 hJ.hI (lb32 _) (lb32 _)) (by decide) rfl rfl zm_L_123 zi_yX7_sold zs_yX7_sold zn_RX7 zc_yX7_sold (hy_X7_sold) (Nat.le_of_ble_eq_true rfl) (Nat.le_of_ble_eq_true rfl) rfl rfl rfl (Nat.le_of_ble_eq_true rfl) dL_law_810 ?_
  refine z_aload_n hE 2 rfl rfl dL_law_813 ?_
  refine z_aload_n hE 3 rfl rfl dL_law_814 ?_
  refine z_iload_n hE 0 rfl rfl dL_law_815 ?_
  refine z_iconst hE dL_law_816 ?_
  refine z_iadd hE dL_law_817 ?_
  refine z_sld hE hX (by omega) (by omega) dL_law_818 ?_
  refine z_aload_n hE 3 rfl rfl dL_law_819 ?_
  refine z_iload_n hE 0 rfl rfl dL_law_820 ?_
  refine z_iconst hE dL_law_821 ?_
  refine z_iadd hE dL_law_822 ?_
  refine z_sld hE hX (by omega) (by omega) dL_law_823 ?_
  refine z_callV hE (c_X8_sold l0 D0 cI0 cJ0 ad S ((xs (i + 1).toNat).toInt) ((xs (i + 2).toNat).toInt) (by rw [hJ.h7]; exact hJ.hI) (lb32 _) (lb32 _)) (by decide) rfl rfl zm_L_126 zi_yX8_sold zs_yX8_sold zn_RX8 zc_yX8_sold (hy_X8_sold) (Nat.le_of_ble_eq_true rfl) (Nat.le_of_ble_eq_true rfl) rfl rfl rfl (Nat.le_of_ble_eq_true rfl) dL_law_824 ?_
  rw [hJ.h7]
  refine z_same (tgt := 1105) hE dL_law_827 (by decide) ?_
  exact kk S ⟨n0, n1, n2, n3, n4, hJ⟩
set_option maxHeartbeats 4000000 in
set_option maxRecDepth 100000 in
theorem lc_27 {E : zE} {l0 : Launch} {D0 : va_G} {cI0 cJ0 : ClassId} {ad : Nat → Nat → Nat} {S : zM} {b N : Nat} {xs : Nat → Int32} (hE : zG E l0 D0 cI0 cJ0 ad code 4 RL 9 332) (hX : zX E b N xs) {n0 n1 n2 n3 n4 : Nat} (hJ : LJ S n0 n1 n2 n3 n4) {i : Int} (h0 : 0 ≤ i) (h1 : i + 5 ≤ N) (hN : N ≤ 2560) (kk : ∀ S2 : zM, LI S2 → Z E S2 1105 [(3, .int (i32 i)), (1, .ref (ad 5 22)), (2, .ref (ad 6 27)), (0, .ref b)] []) : Z E S 832 [(3, .int (i32 i)), (1, .ref (ad 5 22)), (2, .ref (ad 6 27)), (0, .ref b)] [] := by
  refine z_aload_n hE 1 rfl rfl dL_law_832 ?_
  refine z_aload_n hE 3 rfl rfl dL_law_833 ?_
  refine z_iload_n hE 0 rfl rfl dL_law_834 ?_
  refine z_iconst hE dL_law_835 ?_
  refine z_iadd hE dL_law_836 ?_
  refine z_sld hE hX (by omega) (by omega) dL_law_837 ?_
  refine z_aload_n hE 3 rfl rfl dL_law_838 ?_
  refine z_iload_n hE 0 rfl rfl dL_law_839 ?_
  refine z_iconst hE dL_law_840 ?_
  refine z_iadd hE dL_law_841 ?_
  refine z_sld hE hX (by omega) (by omega) dL_law_842 ?_
  refine z_callV hE (c_X7_claimOf l0 D0 cI0 cJ0 ad S ((xs (i + 1).toNat).toInt) ((xs (i + 2).toNat).toInt) n0 hJ.l0 hJ.e0 hJ.hI (lb32 _) (lb32 _)) (by decide) rfl rfl zm_L_127 zi_yX7_claimOf zs_yX7_claimOf zn_RX7 zc_yX7_claimOf (hy_X7_claimOf) (Nat.le_of_ble_eq_true rfl) (Nat.le_of_ble_eq_true rfl) rfl rfl rfl (Nat.le_of_ble_eq_true rfl) dL_law_843 ?_
  refine z_aload_n hE 2 rfl rfl dL_law_846 ?_
  refine z_aload_n hE 3 rfl rfl dL_law_847 ?_
  refine z_iload_n hE 0 rfl rfl dL_law_848 ?_
  refine z_iconst hE dL_law_849 ?_
  refine z_iadd hE dL_law_850 ?_
  refine z_sld hE hX (by omega) (by omega) dL_law_851 ?_
  refine z_aload_n hE 3 rfl rfl dL_law_852 ?_
  refine z_iload_n hE 0 rfl rfl dL_law_853 ?_
  refine z_iconst hE dL_law_854 ?_
  refine z_iadd hE dL_law_855 ?_
  refine z_sld hE hX (by omega) (by omega) dL_law_856 ?_
  refine z_callV hE (c_X8_claimOf l0 D0 cI0 cJ0 ad S ((xs (i + 1).toNat).toInt) ((xs (i + 2).toNat).toInt) (by rw [hJ.h7]; exact hJ.hI) (lb32 _) (lb32 _)) (by decide) rfl rfl zm_L_130 zi_yX8_claimOf zs_yX8_claimOf zn_RX8 zc_yX8_claimOf (hy_X8_claimOf) (Nat.le_of_ble_eq_true rfl) (Nat.le_of_ble_eq_true rfl) rfl rfl rfl (Nat.le_of_ble_eq_true rfl) dL_law_857 ?_
  rw [hJ.h7]
  refine z_same (tgt := 1105) hE dL_law_860 (by decide) ?_
  exact kk S ⟨n0, n1, n2, n3, n4, hJ⟩
set_option maxHeartbeats 4000000 in
set_option maxRecDepth 100000 in
theorem lc_28 {E : zE} {l0 : Launch} {D0 : va_G} {cI0 cJ0 : ClassId} {ad : Nat → Nat → Nat} {S : zM} {b N : Nat} {xs : Nat → Int32} (hE : zG E l0 D0 cI0 cJ0 ad code 4 RL 9 332) (hX : zX E b N xs) {n0 n1 n2 n3 n4 : Nat} (hJ : LJ S n0 n1 n2 n3 n4) {i : Int} (h0 : 0 ≤ i) (h1 : i + 5 ≤ N) (hN : N ≤ 2560) (kk : ∀ S2 : zM, LI S2 → Z E S2 1105 [(3, .int (i32 i)), (1, .ref (ad 5 22)), (2, .ref (ad 6 27)), (0, .ref b)] []) : Z E S 865 [(3, .int (i32 i)), (1, .ref (ad 5 22)), (2, .ref (ad 6 27)), (0, .ref b)] [] := by
  refine z_aload_n hE 1 rfl rfl dL_law_865 ?_
  refine z_aload_n hE 3 rfl rfl dL_law_866 ?_
  refine z_iload_n hE 0 rfl rfl dL_law_867 ?_
  refine z_iconst hE dL_law_868 ?_
  refine z_iadd hE dL_law_869 ?_
  refine z_sld hE hX (by omega) (by omega) dL_law_870 ?_
  refine z_aload_n hE 3 rfl rfl dL_law_871 ?_
  refine z_iload_n hE 0 rfl rfl dL_law_872 ?_
  refine z_iconst hE dL_law_873 ?_
  refine z_iadd hE dL_law_874 ?_
  refine z_sld hE hX (by omega) (by omega) dL_law_875 ?_
  refine z_callVp hE (c_X7_setVoting l0 D0 cI0 cJ0 ad S ((xs (i + 1).toNat).toInt) ((xs (i + 2).toNat).toInt) n0 n1 n2 n3 n4 hJ.l0 hJ.l1 hJ.l2 hJ.l3 hJ.l4 hJ.e0 hJ.e1 hJ.e2 hJ.e3 hJ.e4 hJ.d04 hJ.hst hJ.hI (lb32 _) (lb32 _)) (by decide) rfl rfl zm_L_131 zi_yX7_setVoting zs_yX7_setVoting zn_RX7 zc_yX7_setVoting (hy_X7_setVoting) (Nat.le_of_ble_eq_true rfl) (Nat.le_of_ble_eq_true rfl) rfl rfl rfl (Nat.le_of_ble_eq_true rfl) dL_law_876 (fun X hX2 => ?_)
  obtain ⟨e7, e6, hfin⟩ := la_act hJ (fun ok => inv_setVoting hJ.hI ok) hX2
  refine z_aload_n hE 2 rfl rfl dL_law_879 ?_
  refine z_aload_n hE 3 rfl rfl dL_law_880 ?_
  refine z_iload_n hE 0 rfl rfl dL_law_881 ?_
  refine z_iconst hE dL_law_882 ?_
  refine z_iadd hE dL_law_883 ?_
  refine z_sld hE hX (by omega) (by omega) dL_law_884 ?_
  refine z_aload_n hE 3 rfl rfl dL_law_885 ?_
  refine z_iload_n hE 0 rfl rfl dL_law_886 ?_
  refine z_iconst hE dL_law_887 ?_
  refine z_iadd hE dL_law_888 ?_
  refine z_sld hE hX (by omega) (by omega) dL_law_889 ?_
  refine z_callVp hE (c_X8_setVoting l0 D0 cI0 cJ0 ad X ((xs (i + 1).toNat).toInt) ((xs (i + 2).toNat).toInt) (by rw [e6]; exact hJ.hst) (by rw [e7]; exact hJ.hI) (lb32 _) (lb32 _)) (by decide) rfl rfl zm_L_134 zi_yX8_setVoting zs_yX8_setVoting zn_RX8 zc_yX8_setVoting (hy_X8_setVoting) (Nat.le_of_ble_eq_true rfl) (Nat.le_of_ble_eq_true rfl) rfl rfl rfl (Nat.le_of_ble_eq_true rfl) dL_law_890 (fun X2 hX3 => ?_)
  rw [e7] at hX3 ⊢
  refine z_same (tgt := 1105) hE dL_law_893 (by decide) ?_
  exact kk X2 (hfin X2 hX3)
set_option maxHeartbeats 4000000 in
set_option maxRecDepth 100000 in
theorem lc_29 {E : zE} {l0 : Launch} {D0 : va_G} {cI0 cJ0 : ClassId} {ad : Nat → Nat → Nat} {S : zM} {b N : Nat} {xs : Nat → Int32} (hE : zG E l0 D0 cI0 cJ0 ad code 4 RL 9 332) (hX : zX E b N xs) {n0 n1 n2 n3 n4 : Nat} (hJ : LJ S n0 n1 n2 n3 n4) {i : Int} (h0 : 0 ≤ i) (h1 : i + 5 ≤ N) (hN : N ≤ 2560) (kk : ∀ S2 : zM, LI S2 → Z E S2 1105 [(3, .int (i32 i)), (1, .ref (ad 5 22)), (2, .ref (ad 6 27)), (0, .ref b)] []) : Z E S 898 [(3, .int (i32 i)), (1, .ref (ad 5 22)), (2, .ref (ad 6 27)), (0, .ref b)] [] := by
  refine z_aload_n hE 1 rfl rfl dL_law_898 ?_
  refine z_aload_n hE 3 rfl rfl dL_law_899 ?_
  refine z_iload_n hE 0 rfl rfl dL_law_900 ?_
  refine z_iconst hE dL_law_901 ?_
  refine z_iadd hE dL_law_902 ?_
  refine z_sld hE hX (by omega) (by omega) dL_law_903 ?_
  refine z_aload_n hE 3 rfl rfl dL_law_904 ?_
  refine z_iload_n hE 0 rfl rfl dL_law_905 ?_
  refine z_iconst hE dL_law_906 ?_
  refine z_iadd hE dL_law_907 ?_
  refine z_sld hE hX (by omega) (by omega) dL_law_908 ?_
  refine z_callVp hE (c_X7_propose l0 D0 cI0 cJ0 ad S ((xs (i + 1).toNat).toInt) ((xs (i + 2).toNat).toInt) n0 n1 n2 n3 n4 hJ.l0 hJ.l1 hJ.l2 hJ.l3 hJ.l4 hJ.e0 hJ.e1 hJ.e2 hJ.e3 hJ.e4 hJ.d04 hJ.hst hJ.hI (lb32 _) (lb32 _)) (by decide) rfl rfl zm_L_135 zi_yX7_propose zs_yX7_propose zn_RX7 zc_yX7_propose (hy_X7_propose) (Nat.le_of_ble_eq_true rfl) (Nat.le_of_ble_eq_true rfl) rfl rfl rfl (Nat.le_of_ble_eq_true rfl) dL_law_909 (fun X hX2 => ?_)
  obtain ⟨e7, e6, hfin⟩ := la_act hJ (fun ok => inv_propose hJ.hI ok) hX2
  refine z_aload_n hE 2 rfl rfl dL_law_912 ?_
  refine z_aload_n hE 3 rfl rfl dL_law_913 ?_
  refine z_iload_n hE 0 rfl rfl dL_law_914 ?_
  refine z_iconst hE dL_law_915 ?_
  refine z_iadd hE dL_law_916 ?_
  refine z_sld hE hX (by omega) (by omega) dL_law_917 ?_
  refine z_aload_n hE 3 rfl rfl dL_law_918 ?_
  refine z_iload_n hE 0 rfl rfl dL_law_919 ?_
  refine z_iconst hE dL_law_920 ?_
  refine z_iadd hE dL_law_921 ?_
  refine z_sld hE hX (by omega) (by omega) dL_law_922 ?_
  refine z_callVp hE (c_X8_propose l0 D0 cI0 cJ0 ad X ((xs (i + 1).toNat).toInt) ((xs (i + 2).toNat).toInt) (by rw [e6]; exact hJ.hst) (by rw [e7]; exact hJ.hI) (lb32 _) (lb32 _)) (by decide) rfl rfl zm_L_138 zi_yX8_propose zs_yX8_propose zn_RX8 zc_yX8_propose (hy_X8_propose) (Nat.le_of_ble_eq_true rfl) (Nat.le_of_ble_eq_true rfl) rfl rfl rfl (Nat.le_of_ble_eq_true rfl) dL_law_923 (fun X2 hX3 => ?_)
  rw [e7] at hX3 ⊢
  refine z_same (tgt := 1105) hE dL_law_926 (by decide) ?_
  exact kk X2 (hfin X2 hX3)
set_option maxHeartbeats 4000000 in
set_option maxRecDepth 100000 in
theorem lc_30 {E : zE} {l0 : Launch} {D0 : va_G} {cI0 cJ0 : ClassId} {ad : Nat → Nat → Nat} {S : zM} {b N : Nat} {xs : Nat → Int32} (hE : zG E l0 D0 cI0 cJ0 ad code 4 RL 9 332) (hX : zX E b N xs) {n0 n1 n2 n3 n4 : Nat} (hJ : LJ S n0 n1 n2 n3 n4) {i : Int} (h0 : 0 ≤ i) (h1 : i + 5 ≤ N) (hN : N ≤ 2560) (kk : ∀ S2 : zM, LI S2 → Z E S2 1105 [(3, .int (i32 i)), (1, .ref (ad 5 22)), (2, .ref (ad 6 27)), (0, .ref b)] []) : Z E S 931 [(3, .int (i32 i)), (1, .ref (ad 5 22)), (2, .ref (ad 6 27)), (0, .ref b)] [] := by
  refine z_aload_n hE 1 rfl rfl dL_law_931 ?_
  refine z_aload_n hE 3 rfl rfl dL_law_932 ?_
  refine z_iload_n hE 0 rfl rfl dL_law_933 ?_
  refine z_iconst hE dL_law_934 ?_
  refine z_iadd hE dL_law_935 ?_
  refine z_sld hE hX (by omega) (by omega) dL_law_936 ?_
  refine z_aload_n hE 3 rfl rfl dL_law_937 ?_
  refine z_iload_n hE 0 rfl rfl dL_law_938 ?_
  refine z_iconst hE dL_law_939 ?_
  refine z_iadd hE dL_law_940 ?_
  refine z_sld hE hX (by omega) (by omega) dL_law_941 ?_
  refine z_aload_n hE 3 rfl rfl dL_law_942 ?_
  refine z_iload_n hE 0 rfl rfl dL_law_943 ?_
  refine z_iconst hE dL_law_944 ?_
  refine z_iadd hE dL_law_945 ?_
  refine z_sld hE hX (by omega) (by omega) dL_law_946 ?_
  refine z_callVp hE (c_X7_vote l0 D0 cI0 cJ0 ad S ((xs (i + 1).toNat).toInt) ((xs (i + 2).toNat).toInt) ((xs (i + 3).toNat).toInt) n0 n1 n2 n3 n4 hJ.l0 hJ.l1 hJ.l2 hJ.l3 hJ.l4 hJ.e0 hJ.e1 hJ.e2 hJ.e3 hJ.e4 hJ.d04 hJ.hst hJ.hI (lb32 _) (lb32 _) (lb32 _)) (by decide) rfl rfl zm_L_139 zi_yX7_vote zs_yX7_vote zn_RX7 zc_yX7_vote (hy_X7_vote) (Nat.le_of_ble_eq_true rfl) (Nat.le_of_ble_eq_true rfl) rfl rfl rfl (Nat.le_of_ble_eq_true rfl) dL_law_947 (fun X hX2 => ?_)
  obtain ⟨e7, e6, hfin⟩ := la_act hJ (fun ok => inv_vote hJ.hI ok) hX2
  refine z_aload_n hE 2 rfl rfl dL_law_950 ?_
  refine z_aload_n hE 3 rfl rfl dL_law_951 ?_
  refine z_iload_n hE 0 rfl rfl dL_law_952 ?_
  refine z_iconst hE dL_law_953 ?_
  refine z_iadd hE dL_law_954 ?_
  refine z_sld hE hX (by omega) (by omega) dL_law_955 ?_
  refine z_aload_n hE 3 rfl rfl dL_law_956 ?_
  refine z_iload_n hE 0 rfl rfl dL_law_957 ?_
  refine z_iconst hE dL_law_958 ?_
  refine z_iadd hE dL_law_959 ?_
  refine z_sld hE hX (by omega) (by omega) dL_law_960 ?_
  refine z_aload_n hE 3 rfl rfl dL_law_961 ?_
  refine z_iload_n hE 0 rfl rfl dL_law_962 ?_
  refine z_iconst hE dL_law_963 ?_
  refine z_iadd hE dL_law_964 ?_
  refine z_sld hE hX (by omega) (by omega) dL_law_965 ?_
  refine z_callVp hE (c_X8_vote l0 D0 cI0 cJ0 ad X ((xs (i + 1).toNat).toInt) ((xs (i + 2).toNat).toInt) ((xs (i + 3).toNat).toInt) (by rw [e6]; exact hJ.hst) (by rw [e7]; exact hJ.hI) (lb32 _) (lb32 _) (lb32 _)) (by decide) rfl rfl zm_L_142 zi_yX8_vote zs_yX8_vote zn_RX8 zc_yX8_vote (hy_X8_vote) (Nat.le_of_ble_eq_true rfl) (Nat.le_of_ble_eq_true rfl) rfl rfl rfl (Nat.le_of_ble_eq_true rfl) dL_law_966 (fun X2 hX3 => ?_)
  rw [e7] at hX3 ⊢
  refine z_same (tgt := 1105) hE dL_law_969 (by decide) ?_
  exact kk X2 (hfin X2 hX3)
set_option maxHeartbeats 4000000 in
set_option maxRecDepth 100000 in
theorem lc_31 {E : zE} {l0 : Launch} {D0 : va_G} {cI0 cJ0 : ClassId} {ad : Nat → Nat → Nat} {S : zM} {b N : Nat} {xs : Nat → Int32} (hE : zG E l0 D0 cI0 cJ0 ad code 4 RL 9 332) (hX : zX E b N xs) {n0 n1 n2 n3 n4 : Nat} (hJ : LJ S n0 n1 n2 n3 n4) {i : Int} (h0 : 0 ≤ i) (h1 : i + 5 ≤ N) (hN : N ≤ 2560) (kk : ∀ S2 : zM, LI S2 → Z E S2 1105 [(3, .int (i32 i)), (1, .ref (ad 5 22)), (2, .ref (ad 6 27)), (0, .ref b)] []) : Z E S 974 [(3, .int (i32 i)), (1, .ref (ad 5 22)), (2, .ref (ad 6 27)), (0, .ref b)] [] := by
  refine z_aload_n hE 1 rfl rfl dL_law_974 ?_
  refine z_aload_n hE 3 rfl rfl dL_law_975 ?_
  refine z_iload_n hE 0 rfl rfl dL_law_976 ?_
  refine z_iconst hE dL_law_977 ?_
  refine z_iadd hE dL_law_978 ?_
  refine z_sld hE hX (by omega) (by omega) dL_law_979 ?_
  refine z_callVp hE (c_X7_closeMotion l0 D0 cI0 cJ0 ad S ((xs (i + 1).toNat).toInt) n0 n1 n2 n3 n4 hJ.l0 hJ.l1 hJ.l2 hJ.l3 hJ.l4 hJ.e0 hJ.e1 hJ.e2 hJ.e3 hJ.e4 hJ.d04 hJ.hst hJ.hI (lb32 _)) (by decide) rfl rfl zm_L_143 zi_yX7_closeMotion zs_yX7_closeMotion zn_RX7 zc_yX7_closeMotion (hy_X7_closeMotion) (Nat.le_of_ble_eq_true rfl) (Nat.le_of_ble_eq_true rfl) rfl rfl rfl (Nat.le_of_ble_eq_true rfl) dL_law_980 (fun X hX2 => ?_)
  obtain ⟨e7, e6, hfin⟩ := la_act hJ (fun ok => inv_closeMotion hJ.hI ok) hX2
  refine z_aload_n hE 2 rfl rfl dL_law_983 ?_
  refine z_aload_n hE 3 rfl rfl dL_law_984 ?_
  refine z_iload_n hE 0 rfl rfl dL_law_985 ?_
  refine z_iconst hE dL_law_986 ?_
  refine z_iadd hE dL_law_987 ?_
  refine z_sld hE hX (by omega) (by omega) dL_law_988 ?_
  refine z_callVp hE (c_X8_closeMotion l0 D0 cI0 cJ0 ad X ((xs (i + 1).toNat).toInt) (by rw [e6]; exact hJ.hst) (by rw [e7]; exact hJ.hI) (lb32 _)) (by decide) rfl rfl zm_L_146 zi_yX8_closeMotion zs_yX8_closeMotion zn_RX8 zc_yX8_closeMotion (hy_X8_closeMotion) (Nat.le_of_ble_eq_true rfl) (Nat.le_of_ble_eq_true rfl) rfl rfl rfl (Nat.le_of_ble_eq_true rfl) dL_law_989 (fun X2 hX3 => ?_)
  rw [e7] at hX3 ⊢
  refine z_same (tgt := 1105) hE dL_law_992 (by decide) ?_
  exact kk X2 (hfin X2 hX3)
set_option maxHeartbeats 4000000 in
set_option maxRecDepth 100000 in
theorem lc_32 {E : zE} {l0 : Launch} {D0 : va_G} {cI0 cJ0 : ClassId} {ad : Nat → Nat → Nat} {S : zM} {b N : Nat} {xs : Nat → Int32} (hE : zG E l0 D0 cI0 cJ0 ad code 4 RL 9 332) (hX : zX E b N xs) {n0 n1 n2 n3 n4 : Nat} (hJ : LJ S n0 n1 n2 n3 n4) {i : Int} (h0 : 0 ≤ i) (h1 : i + 5 ≤ N) (hN : N ≤ 2560) (kk : ∀ S2 : zM, LI S2 → Z E S2 1105 [(3, .int (i32 i)), (1, .ref (ad 5 22)), (2, .ref (ad 6 27)), (0, .ref b)] []) : Z E S 997 [(3, .int (i32 i)), (1, .ref (ad 5 22)), (2, .ref (ad 6 27)), (0, .ref b)] [] := by
  refine z_aload_n hE 1 rfl rfl dL_law_997 ?_
  refine z_aload_n hE 3 rfl rfl dL_law_998 ?_
  refine z_iload_n hE 0 rfl rfl dL_law_999 ?_
  refine z_iconst hE dL_law_1000 ?_
  refine z_iadd hE dL_law_1001 ?_
  refine z_sld hE hX (by omega) (by omega) dL_law_1002 ?_
  refine z_callV hE (c_X7_votes l0 D0 cI0 cJ0 ad S ((xs (i + 1).toNat).toInt) n0 hJ.l0 hJ.e0 hJ.hI (lb32 _)) (by decide) rfl rfl zm_L_147 zi_yX7_votes zs_yX7_votes zn_RX7 zc_yX7_votes (hy_X7_votes) (Nat.le_of_ble_eq_true rfl) (Nat.le_of_ble_eq_true rfl) rfl rfl rfl (Nat.le_of_ble_eq_true rfl) dL_law_1003 ?_
  refine z_aload_n hE 2 rfl rfl dL_law_1006 ?_
  refine z_aload_n hE 3 rfl rfl dL_law_1007 ?_
  refine z_iload_n hE 0 rfl rfl dL_law_1008 ?_
  refine z_iconst hE dL_law_1009 ?_
  refine z_iadd hE dL_law_1010 ?_
  refine z_sld hE hX (by omega) (by omega) dL_law_1011 ?_
  refine z_callV hE (c_X8_votes l0 D0 cI0 cJ0 ad S ((xs (i + 1).toNat).toInt) (by rw [hJ.h7]; exact hJ.hI) (lb32 _)) (by decide) rfl rfl zm_L_150 zi_yX8_votes zs_yX8_votes zn_RX8 zc_yX8_votes (hy_X8_votes) (Nat.le_of_ble_eq_true rfl) (Nat.le_of_ble_eq_true rfl) rfl rfl rfl (Nat.le_of_ble_eq_true rfl) dL_law_1012 ?_
  rw [hJ.h7]
  refine z_same (tgt := 1105) hE dL_law_1015 (by decide) ?_
  exact kk S ⟨n0, n1, n2, n3, n4, hJ⟩
set_option maxHeartbeats 4000000 in
set_option maxRecDepth 100000 in
theorem lc_33 {E : zE} {l0 : Launch} {D0 : va_G} {cI0 cJ0 : ClassId} {ad : Nat → Nat → Nat} {S : zM} {b N : Nat} {xs : Nat → Int32} (hE : zG E l0 D0 cI0 cJ0 ad code 4 RL 9 332) (hX : zX E b N xs) {n0 n1 n2 n3 n4 : Nat} (hJ : LJ S n0 n1 n2 n3 n4) {i : Int} (h0 : 0 ≤ i) (h1 : i + 5 ≤ N) (hN : N ≤ 2560) (kk : ∀ S2 : zM, LI S2 → Z E S2 1105 [(3, .int (i32 i)), (1, .ref (ad 5 22)), (2, .ref (ad 6 27)), (0, .ref b)] []) : Z E S 1020 [(3, .int (i32 i)), (1, .ref (ad 5 22)), (2, .ref (ad 6 27)), (0, .ref b)] [] := by
  refine z_aload_n hE 1 rfl rfl dL_law_1020 ?_
  refine z_aload_n hE 3 rfl rfl dL_law_1021 ?_
  refine z_iload_n hE 0 rfl rfl dL_law_1022 ?_
  refine z_iconst hE dL_law_1023 ?_
  refine z_iadd hE dL_law_1024 ?_
  refine z_sld hE hX (by omega) (by omega) dL_law_1025 ?_
  refine z_callV hE (c_X7_motionState l0 D0 cI0 cJ0 ad S ((xs (i + 1).toNat).toInt) n0 hJ.l0 hJ.e0 hJ.hI (lb32 _)) (by decide) rfl rfl zm_L_151 zi_yX7_motionState zs_yX7_motionState zn_RX7 zc_yX7_motionState (hy_X7_motionState) (Nat.le_of_ble_eq_true rfl) (Nat.le_of_ble_eq_true rfl) rfl rfl rfl (Nat.le_of_ble_eq_true rfl) dL_law_1026 ?_
  refine z_aload_n hE 2 rfl rfl dL_law_1029 ?_
  refine z_aload_n hE 3 rfl rfl dL_law_1030 ?_
  refine z_iload_n hE 0 rfl rfl dL_law_1031 ?_
  refine z_iconst hE dL_law_1032 ?_
  refine z_iadd hE dL_law_1033 ?_
  refine z_sld hE hX (by omega) (by omega) dL_law_1034 ?_
  refine z_callV hE (c_X8_motionState l0 D0 cI0 cJ0 ad S ((xs (i + 1).toNat).toInt) (by rw [hJ.h7]; exact hJ.hI) (lb32 _)) (by decide) rfl rfl zm_L_154 zi_yX8_motionState zs_yX8_motionState zn_RX8 zc_yX8_motionState (hy_X8_motionState) (Nat.le_of_ble_eq_true rfl) (Nat.le_of_ble_eq_true rfl) rfl rfl rfl (Nat.le_of_ble_eq_true rfl) dL_law_1035 ?_
  rw [hJ.h7]
  refine z_same (tgt := 1105) hE dL_law_1038 (by decide) ?_
  exact kk S ⟨n0, n1, n2, n3, n4, hJ⟩
set_option maxHeartbeats 4000000 in
set_option maxRecDepth 100000 in
theorem lc_34 {E : zE} {l0 : Launch} {D0 : va_G} {cI0 cJ0 : ClassId} {ad : Nat → Nat → Nat} {S : zM} {b N : Nat} {xs : Nat → Int32} (hE : zG E l0 D0 cI0 cJ0 ad code 4 RL 9 332) (hX : zX E b N xs) {n0 n1 n2 n3 n4 : Nat} (hJ : LJ S n0 n1 n2 n3 n4) {i : Int} (h0 : 0 ≤ i) (h1 : i + 5 ≤ N) (hN : N ≤ 2560) (kk : ∀ S2 : zM, LI S2 → Z E S2 1105 [(3, .int (i32 i)), (1, .ref (ad 5 22)), (2, .ref (ad 6 27)), (0, .ref b)] []) : Z E S 1043 [(3, .int (i32 i)), (1, .ref (ad 5 22)), (2, .ref (ad 6 27)), (0, .ref b)] [] := by
  refine z_aload_n hE 1 rfl rfl dL_law_1043 ?_
  refine z_aload_n hE 3 rfl rfl dL_law_1044 ?_
  refine z_iload_n hE 0 rfl rfl dL_law_1045 ?_
  refine z_iconst hE dL_law_1046 ?_
  refine z_iadd hE dL_law_1047 ?_
  refine z_sld hE hX (by omega) (by omega) dL_law_1048 ?_
  refine z_callV hE (c_X7_votesFor l0 D0 cI0 cJ0 ad S ((xs (i + 1).toNat).toInt) n0 hJ.l0 hJ.e0 hJ.hI (lb32 _)) (by decide) rfl rfl zm_L_155 zi_yX7_votesFor zs_yX7_votesFor zn_RX7 zc_yX7_votesFor (hy_X7_votesFor) (Nat.le_of_ble_eq_true rfl) (Nat.le_of_ble_eq_true rfl) rfl rfl rfl (Nat.le_of_ble_eq_true rfl) dL_law_1049 ?_
  refine z_aload_n hE 2 rfl rfl dL_law_1052 ?_
  refine z_aload_n hE 3 rfl rfl dL_law_1053 ?_
  refine z_iload_n hE 0 rfl rfl dL_law_1054 ?_
  refine z_iconst hE dL_law_1055 ?_
  refine z_iadd hE dL_law_1056 ?_
  refine z_sld hE hX (by omega) (by omega) dL_law_1057 ?_
  refine z_callV hE (c_X8_votesFor l0 D0 cI0 cJ0 ad S ((xs (i + 1).toNat).toInt) (by rw [hJ.h7]; exact hJ.hI) (lb32 _)) (by decide) rfl rfl zm_L_158 zi_yX8_votesFor zs_yX8_votesFor zn_RX8 zc_yX8_votesFor (hy_X8_votesFor) (Nat.le_of_ble_eq_true rfl) (Nat.le_of_ble_eq_true rfl) rfl rfl rfl (Nat.le_of_ble_eq_true rfl) dL_law_1058 ?_
  rw [hJ.h7]
  refine z_same (tgt := 1105) hE dL_law_1061 (by decide) ?_
  exact kk S ⟨n0, n1, n2, n3, n4, hJ⟩
set_option maxHeartbeats 4000000 in
set_option maxRecDepth 100000 in
theorem lc_35 {E : zE} {l0 : Launch} {D0 : va_G} {cI0 cJ0 : ClassId} {ad : Nat → Nat → Nat} {S : zM} {b N : Nat} {xs : Nat → Int32} (hE : zG E l0 D0 cI0 cJ0 ad code 4 RL 9 332) (hX : zX E b N xs) {n0 n1 n2 n3 n4 : Nat} (hJ : LJ S n0 n1 n2 n3 n4) {i : Int} (h0 : 0 ≤ i) (h1 : i + 5 ≤ N) (hN : N ≤ 2560) (kk : ∀ S2 : zM, LI S2 → Z E S2 1105 [(3, .int (i32 i)), (1, .ref (ad 5 22)), (2, .ref (ad 6 27)), (0, .ref b)] []) : Z E S 1066 [(3, .int (i32 i)), (1, .ref (ad 5 22)), (2, .ref (ad 6 27)), (0, .ref b)] [] := by
  refine z_aload_n hE 1 rfl rfl dL_law_1066 ?_
  refine z_callV hE (c_X7_day l0 D0 cI0 cJ0 ad S  n0 hJ.l0 hJ.e0 hJ.hI ) (by decide) rfl rfl zm_L_159 zi_yX7_day zs_yX7_day zn_RX7 zc_yX7_day (hy_X7_day) (Nat.le_of_ble_eq_true rfl) (Nat.le_of_ble_eq_true rfl) rfl rfl rfl (Nat.le_of_ble_eq_true rfl) dL_law_1067 ?_
  refine z_aload_n hE 2 rfl rfl dL_law_1070 ?_
  refine z_callV hE (c_X8_day l0 D0 cI0 cJ0 ad S  (by rw [hJ.h7]; exact hJ.hI) ) (by decide) rfl rfl zm_L_162 zi_yX8_day zs_yX8_day zn_RX8 zc_yX8_day (hy_X8_day) (Nat.le_of_ble_eq_true rfl) (Nat.le_of_ble_eq_true rfl) rfl rfl rfl (Nat.le_of_ble_eq_true rfl) dL_law_1071 ?_
  rw [hJ.h7]
  refine z_same (tgt := 1105) hE dL_law_1074 (by decide) ?_
  exact kk S ⟨n0, n1, n2, n3, n4, hJ⟩
set_option maxHeartbeats 4000000 in
set_option maxRecDepth 100000 in
theorem lc_36 {E : zE} {l0 : Launch} {D0 : va_G} {cI0 cJ0 : ClassId} {ad : Nat → Nat → Nat} {S : zM} {b N : Nat} {xs : Nat → Int32} (hE : zG E l0 D0 cI0 cJ0 ad code 4 RL 9 332) (hX : zX E b N xs) {n0 n1 n2 n3 n4 : Nat} (hJ : LJ S n0 n1 n2 n3 n4) {i : Int} (h0 : 0 ≤ i) (h1 : i + 5 ≤ N) (hN : N ≤ 2560) (kk : ∀ S2 : zM, LI S2 → Z E S2 1105 [(3, .int (i32 i)), (1, .ref (ad 5 22)), (2, .ref (ad 6 27)), (0, .ref b)] []) : Z E S 1079 [(3, .int (i32 i)), (1, .ref (ad 5 22)), (2, .ref (ad 6 27)), (0, .ref b)] [] := by
  refine z_aload_n hE 1 rfl rfl dL_law_1079 ?_
  refine z_callV hE (c_X7_historySize l0 D0 cI0 cJ0 ad S) (by decide) rfl rfl zm_L_163 zi_yX7_historySize zs_yX7_historySize zn_RX7 zc_yX7_historySize (hy_X7_historySize) (Nat.le_of_ble_eq_true rfl) (Nat.le_of_ble_eq_true rfl) rfl rfl rfl (Nat.le_of_ble_eq_true rfl) dL_law_1080 ?_
  refine z_aload_n hE 2 rfl rfl dL_law_1083 ?_
  refine z_callV hE (c_X8_historySize l0 D0 cI0 cJ0 ad S) (by decide) rfl rfl zm_L_166 zi_yX8_historySize zs_yX8_historySize zn_RX8 zc_yX8_historySize (hy_X8_historySize) (Nat.le_of_ble_eq_true rfl) (Nat.le_of_ble_eq_true rfl) rfl rfl rfl (Nat.le_of_ble_eq_true rfl) dL_law_1084 ?_
  rw [hJ.h6]
  refine z_same (tgt := 1105) hE dL_law_1087 (by decide) ?_
  exact kk S ⟨n0, n1, n2, n3, n4, hJ⟩
set_option maxHeartbeats 4000000 in
set_option maxRecDepth 100000 in
theorem lc_37 {E : zE} {l0 : Launch} {D0 : va_G} {cI0 cJ0 : ClassId} {ad : Nat → Nat → Nat} {S : zM} {b N : Nat} {xs : Nat → Int32} (hE : zG E l0 D0 cI0 cJ0 ad code 4 RL 9 332) (hX : zX E b N xs) {n0 n1 n2 n3 n4 : Nat} (hJ : LJ S n0 n1 n2 n3 n4) {i : Int} (h0 : 0 ≤ i) (h1 : i + 5 ≤ N) (hN : N ≤ 2560) (kk : ∀ S2 : zM, LI S2 → Z E S2 1105 [(3, .int (i32 i)), (1, .ref (ad 5 22)), (2, .ref (ad 6 27)), (0, .ref b)] []) : Z E S 1092 [(3, .int (i32 i)), (1, .ref (ad 5 22)), (2, .ref (ad 6 27)), (0, .ref b)] [] := by
  refine z_aload_n hE 1 rfl rfl dL_law_1092 ?_
  refine z_callVp hE (c_X7_undo l0 D0 cI0 cJ0 ad S n0 n1 n2 n3 n4 hJ.l0 hJ.l1 hJ.l2 hJ.l3 hJ.l4 hJ.e0 hJ.e1 hJ.e2 hJ.e3 hJ.e4 hJ.d04 hJ.hst) (by decide) rfl rfl zm_L_167 zi_yX7_undo zs_yX7_undo zn_RX7 zc_yX7_undo (hy_X7_undo) (Nat.le_of_ble_eq_true rfl) (Nat.le_of_ble_eq_true rfl) rfl rfl rfl (Nat.le_of_ble_eq_true rfl) dL_law_1093 (fun X hX2 => ?_)
  have hx : 6 ≠ 5 ∧ (7 : Nat) ≠ 5 ∧ (8 : Nat) ≠ 5 := by decide
  have e6 : X 6 = S 6 := by rw [hX2]; split; exact us_ne (by decide); rfl
  have e7 : X 7 = S 7 := by rw [hX2]; split; exact us_ne (by decide); rfl
  have e8 : X 8 = S 8 := by rw [hX2]; split; exact us_ne (by decide); rfl
  refine z_aload_n hE 2 rfl rfl dL_law_1096 ?_
  refine z_callVp hE (c_X8_undo l0 D0 cI0 cJ0 ad X (by rw [e6, hJ.h6]; exact hJ.hst)) (by decide) rfl rfl zm_L_170 zi_yX8_undo zs_yX8_undo zn_RX8 zc_yX8_undo (hy_X8_undo) (Nat.le_of_ble_eq_true rfl) (Nat.le_of_ble_eq_true rfl) rfl rfl rfl (Nat.le_of_ble_eq_true rfl) dL_law_1097 (fun X2 hX3 => ?_)
  rw [e6, e7, e8, hJ.h6] at hX3
  rw [e6, hJ.h6]
  refine z_same (tgt := 1105) hE dL_law_1100 (by decide) ?_
  by_cases c : 0 < S 5 0
  · obtain ⟨u1, u2⟩ := la_undo hJ c
    rw [if_pos c] at hX2 hX3
    rw [hX3, hX2]
    exact z_mem7 hE u1 (kk _ u2)
  · rw [if_neg c] at hX2 hX3
    rw [hX3, hX2]
    exact kk S ⟨n0, n1, n2, n3, n4, hJ⟩
