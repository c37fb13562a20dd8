theorem dL_sound_213 : decode cL_sound 213 = .ok (.aload_n 0, 1) := by decide +kernel
theorem dL_sound_214 : decode cL_sound 214 = .ok (.iload 7, 2) := by decide +kernel
theorem dL_sound_216 : decode cL_sound 216 = .ok (.iconst 4, 1) := by decide +kernel
theorem dL_sound_217 : decode cL_sound 217 = .ok (.invokestatic 145, 3) := by decide +kernel
theorem dL_sound_220 : decode cL_sound 220 = .ok (.ifCond .ne 7, 3) := by decide +kernel
theorem dL_sound_223 : decode cL_sound 223 = .ok (.iconst 1, 1) := by decide +kernel
theorem dL_sound_224 : decode cL_sound 224 = .ok (.goto 4, 3) := by decide +kernel
theorem dL_sound_227 : decode cL_sound 227 = .ok (.iconst 0, 1) := by decide +kernel
theorem dL_sound_228 : decode cL_sound 228 = .ok (.iload 7, 2) := by decide +kernel
theorem dL_sound_230 : decode cL_sound 230 = .ok (.iload 5, 2) := by decide +kernel
theorem dL_sound_232 : decode cL_sound 232 = .ok (.if_icmp .ge 7, 3) := by decide +kernel
theorem dL_sound_235 : decode cL_sound 235 = .ok (.iconst 1, 1) := by decide +kernel
theorem dL_sound_236 : decode cL_sound 236 = .ok (.goto 4, 3) := by decide +kernel
theorem dL_sound_239 : decode cL_sound 239 = .ok (.iconst 0, 1) := by decide +kernel
theorem dL_sound_240 : decode cL_sound 240 = .ok (.if_icmp .ne 62, 3) := by decide +kernel
theorem dL_sound_243 : decode cL_sound 243 = .ok (.iload 7, 2) := by decide +kernel
theorem dL_sound_245 : decode cL_sound 245 = .ok (.iload 5, 2) := by decide +kernel
theorem dL_sound_247 : decode cL_sound 247 = .ok (.if_icmp .le 20, 3) := by decide +kernel
theorem dL_sound_250 : decode cL_sound 250 = .ok (.aload_n 0, 1) := by decide +kernel
theorem dL_sound_251 : decode cL_sound 251 = .ok (.iload 7, 2) := by decide +kernel
theorem dL_sound_253 : decode cL_sound 253 = .ok (.iconst 4, 1) := by decide +kernel
theorem dL_sound_254 : decode cL_sound 254 = .ok (.invokestatic 145, 3) := by decide +kernel
theorem dL_sound_257 : decode cL_sound 257 = .ok (.aload_n 0, 1) := by decide +kernel
theorem dL_sound_258 : decode cL_sound 258 = .ok (.iload 7, 2) := by decide +kernel
theorem dL_sound_260 : decode cL_sound 260 = .ok (.iconst 0, 1) := by decide +kernel
theorem dL_sound_261 : decode cL_sound 261 = .ok (.invokestatic 145, 3) := by decide +kernel
theorem dL_sound_264 : decode cL_sound 264 = .ok (.if_icmp .ne 38, 3) := by decide +kernel
theorem dL_sound_267 : decode cL_sound 267 = .ok (.iload 7, 2) := by decide +kernel
theorem dL_sound_269 : decode cL_sound 269 = .ok (.iload 5, 2) := by decide +kernel
theorem dL_sound_271 : decode cL_sound 271 = .ok (.if_icmp .ne 27, 3) := by decide +kernel
theorem dL_sound_274 : decode cL_sound 274 = .ok (.aload_n 0, 1) := by decide +kernel
theorem dL_sound_275 : decode cL_sound 275 = .ok (.bipush 7, 2) := by decide +kernel
theorem dL_sound_277 : decode cL_sound 277 = .ok (.invokestatic 129, 3) := by decide +kernel
theorem dL_sound_280 : decode cL_sound 280 = .ok (.aload_n 0, 1) := by decide +kernel
theorem dL_sound_281 : decode cL_sound 281 = .ok (.iload 7, 2) := by decide +kernel
theorem dL_sound_283 : decode cL_sound 283 = .ok (.iconst 0, 1) := by decide +kernel
theorem dL_sound_284 : decode cL_sound 284 = .ok (.invokestatic 145, 3) := by decide +kernel
theorem dL_sound_287 : decode cL_sound 287 = .ok (.aload_n 0, 1) := by decide +kernel
theorem dL_sound_288 : decode cL_sound 288 = .ok (.iload 7, 2) := by decide +kernel
theorem dL_sound_290 : decode cL_sound 290 = .ok (.iconst 4, 1) := by decide +kernel
theorem dL_sound_291 : decode cL_sound 291 = .ok (.invokestatic 145, 3) := by decide +kernel
theorem dL_sound_294 : decode cL_sound 294 = .ok (.isub, 1) := by decide +kernel
theorem dL_sound_295 : decode cL_sound 295 = .ok (.if_icmp .ne 7, 3) := by decide +kernel
theorem dL_sound_298 : decode cL_sound 298 = .ok (.iconst 1, 1) := by decide +kernel
theorem dL_sound_299 : decode cL_sound 299 = .ok (.goto 4, 3) := by decide +kernel
theorem dL_sound_302 : decode cL_sound 302 = .ok (.iconst 0, 1) := by decide +kernel
theorem dL_sound_303 : decode cL_sound 303 = .ok (.istore 4, 2) := by decide +kernel
theorem dL_sound_305 : decode cL_sound 305 = .ok (.iinc 7 1, 3) := by decide +kernel
theorem dL_sound_308 : decode cL_sound 308 = .ok (.goto (-130), 3) := by decide +kernel
theorem dL_sound_311 : decode cL_sound 311 = .ok (.aload_n 0, 1) := by decide +kernel
theorem dL_sound_312 : decode cL_sound 312 = .ok (.bipush 10, 2) := by decide +kernel
theorem dL_sound_314 : decode cL_sound 314 = .ok (.invokestatic 129, 3) := by decide +kernel
theorem dL_sound_317 : decode cL_sound 317 = .ok (.istore 7, 2) := by decide +kernel
theorem dL_sound_319 : decode cL_sound 319 = .ok (.iload 4, 2) := by decide +kernel
theorem dL_sound_321 : decode cL_sound 321 = .ok (.ifCond .eq 190, 3) := by decide +kernel
theorem dL_sound_324 : decode cL_sound 324 = .ok (.iload_n 3, 1) := by decide +kernel
theorem dL_sound_325 : decode cL_sound 325 = .ok (.iconst 1, 1) := by decide +kernel
theorem dL_sound_326 : decode cL_sound 326 = .ok (.if_icmp .gt 185, 3) := by decide +kernel
theorem dL_sound_329 : decode cL_sound 329 = .ok (.iload_n 3, 1) := by decide +kernel
theorem dL_sound_330 : decode cL_sound 330 = .ok (.iconst 1, 1) := by decide +kernel
theorem dL_sound_331 : decode cL_sound 331 = .ok (.if_icmp .ne 7, 3) := by decide +kernel
theorem dL_sound_334 : decode cL_sound 334 = .ok (.iconst 1, 1) := by decide +kernel
theorem dL_sound_335 : decode cL_sound 335 = .ok (.goto 4, 3) := by decide +kernel
theorem dL_sound_338 : decode cL_sound 338 = .ok (.iconst 0, 1) := by decide +kernel
theorem dL_sound_339 : decode cL_sound 339 = .ok (.aload_n 0, 1) := by decide +kernel
theorem dL_sound_340 : decode cL_sound 340 = .ok (.bipush 8, 2) := by decide +kernel
theorem dL_sound_342 : decode cL_sound 342 = .ok (.invokestatic 129, 3) := by decide +kernel
theorem dL_sound_345 : decode cL_sound 345 = .ok (.bipush (-9), 2) := by decide +kernel
theorem dL_sound_347 : decode cL_sound 347 = .ok (.if_icmp .eq 7, 3) := by decide +kernel
theorem dL_sound_350 : decode cL_sound 350 = .ok (.iconst 1, 1) := by decide +kernel
theorem dL_sound_351 : decode cL_sound 351 = .ok (.goto 4, 3) := by decide +kernel
theorem dL_sound_354 : decode cL_sound 354 = .ok (.iconst 0, 1) := by decide +kernel
theorem dL_sound_355 : decode cL_sound 355 = .ok (.if_icmp .ne 156, 3) := by decide +kernel
theorem dL_sound_358 : decode cL_sound 358 = .ok (.iload 6, 2) := by decide +kernel
theorem dL_sound_360 : decode cL_sound 360 = .ok (.aload_n 0, 1) := by decide +kernel
theorem dL_sound_361 : decode cL_sound 361 = .ok (.iconst 1, 1) := by decide +kernel
theorem dL_sound_362 : decode cL_sound 362 = .ok (.invokestatic 132, 3) := by decide +kernel
theorem dL_sound_365 : decode cL_sound 365 = .ok (.if_icmp .ne 146, 3) := by decide +kernel
theorem dL_sound_368 : decode cL_sound 368 = .ok (.iload_n 2, 1) := by decide +kernel
theorem dL_sound_369 : decode cL_sound 369 = .ok (.iload 6, 2) := by decide +kernel
theorem dL_sound_371 : decode cL_sound 371 = .ok (.if_icmp .ne 140, 3) := by decide +kernel
theorem dL_sound_374 : decode cL_sound 374 = .ok (.iload_n 1, 1) := by decide +kernel
theorem dL_sound_375 : decode cL_sound 375 = .ok (.aload_n 0, 1) := by decide +kernel
theorem dL_sound_376 : decode cL_sound 376 = .ok (.iconst 3, 1) := by decide +kernel
theorem dL_sound_377 : decode cL_sound 377 = .ok (.invokestatic 132, 3) := by decide +kernel
theorem dL_sound_380 : decode cL_sound 380 = .ok (.if_icmp .ne 131, 3) := by decide +kernel
theorem dL_sound_383 : decode cL_sound 383 = .ok (.aload_n 0, 1) := by decide +kernel
theorem dL_sound_384 : decode cL_sound 384 = .ok (.iconst 0, 1) := by decide +kernel
theorem dL_sound_385 : decode cL_sound 385 = .ok (.invokestatic 132, 3) := by decide +kernel
theorem dL_sound_388 : decode cL_sound 388 = .ok (.aload_n 0, 1) := by decide +kernel
theorem dL_sound_389 : decode cL_sound 389 = .ok (.iconst 4, 1) := by decide +kernel
theorem dL_sound_390 : decode cL_sound 390 = .ok (.invokestatic 129, 3) := by decide +kernel
theorem dL_sound_393 : decode cL_sound 393 = .ok (.iload_n 1, 1) := by decide +kernel
theorem dL_sound_394 : decode cL_sound 394 = .ok (.iadd, 1) := by decide +kernel
theorem dL_sound_395 : decode cL_sound 395 = .ok (.iload 6, 2) := by decide +kernel
theorem dL_sound_397 : decode cL_sound 397 = .ok (.iadd, 1) := by decide +kernel
theorem dL_sound_398 : decode cL_sound 398 = .ok (.aload_n 0, 1) := by decide +kernel
theorem dL_sound_399 : decode cL_sound 399 = .ok (.iconst 2, 1) := by decide +kernel
theorem dL_sound_400 : decode cL_sound 400 = .ok (.invokestatic 132, 3) := by decide +kernel
theorem dL_sound_403 : decode cL_sound 403 = .ok (.iadd, 1) := by decide +kernel
theorem dL_sound_404 : decode cL_sound 404 = .ok (.if_icmp .ne 107, 3) := by decide +kernel
theorem dL_sound_407 : decode cL_sound 407 = .ok (.iload 7, 2) := by decide +kernel
theorem dL_sound_409 : decode cL_sound 409 = .ok (.ifCond .eq 8, 3) := by decide +kernel
theorem dL_sound_412 : decode cL_sound 412 = .ok (.iload_n 3, 1) := by decide +kernel
theorem dL_sound_413 : decode cL_sound 413 = .ok (.iconst 1, 1) := by decide +kernel
theorem dL_sound_414 : decode cL_sound 414 = .ok (.if_icmp .ne 97, 3) := by decide +kernel
theorem dL_sound_417 : decode cL_sound 417 = .ok (.iload 7, 2) := by decide +kernel
theorem dL_sound_419 : decode cL_sound 419 = .ok (.iconst 2, 1) := by decide +kernel
theorem dL_sound_420 : decode cL_sound 420 = .ok (.if_icmp .ne 7, 3) := by decide +kernel
theorem dL_sound_423 : decode cL_sound 423 = .ok (.iconst 1, 1) := by decide +kernel
theorem dL_sound_424 : decode cL_sound 424 = .ok (.goto 4, 3) := by decide +kernel
theorem dL_sound_427 : decode cL_sound 427 = .ok (.iconst 0, 1) := by decide +kernel
theorem dL_sound_428 : decode cL_sound 428 = .ok (.aload_n 0, 1) := by decide +kernel
theorem dL_sound_429 : decode cL_sound 429 = .ok (.bipush 11, 2) := by decide +kernel
theorem dL_sound_431 : decode cL_sound 431 = .ok (.invokestatic 129, 3) := by decide +kernel
theorem dL_sound_434 : decode cL_sound 434 = .ok (.ifCond .le 7, 3) := by decide +kernel
theorem dL_sound_437 : decode cL_sound 437 = .ok (.iconst 1, 1) := by decide +kernel
theorem dL_sound_438 : decode cL_sound 438 = .ok (.goto 4, 3) := by decide +kernel
theorem dL_sound_441 : decode cL_sound 441 = .ok (.iconst 0, 1) := by decide +kernel
theorem dL_sound_442 : decode cL_sound 442 = .ok (.if_icmp .ne 69, 3) := by decide +kernel
theorem dL_sound_445 : decode cL_sound 445 = .ok (.aload_n 0, 1) := by decide +kernel
theorem dL_sound_446 : decode cL_sound 446 = .ok (.bipush 13, 2) := by decide +kernel
theorem dL_sound_448 : decode cL_sound 448 = .ok (.invokestatic 129, 3) := by decide +kernel
theorem dL_sound_451 : decode cL_sound 451 = .ok (.ifCond .lt 60, 3) := by decide +kernel
theorem dL_sound_454 : decode cL_sound 454 = .ok (.aload_n 0, 1) := by decide +kernel
theorem dL_sound_455 : decode cL_sound 455 = .ok (.bipush 13, 2) := by decide +kernel
theorem dL_sound_457 : decode cL_sound 457 = .ok (.invokestatic 129, 3) := by decide +kernel
theorem dL_sound_460 : decode cL_sound 460 = .ok (.aload_n 0, 1) := by decide +kernel
theorem dL_sound_461 : decode cL_sound 461 = .ok (.iconst 2, 1) := by decide +kernel
theorem dL_sound_462 : decode cL_sound 462 = .ok (.invokestatic 129, 3) := by decide +kernel
theorem dL_sound_465 : decode cL_sound 465 = .ok (.iload 7, 2) := by decide +kernel
theorem dL_sound_467 : decode cL_sound 467 = .ok (.iconst 2, 1) := by decide +kernel
theorem dL_sound_468 : decode cL_sound 468 = .ok (.if_icmp .ne 7, 3) := by decide +kernel
theorem dL_sound_471 : decode cL_sound 471 = .ok (.iconst 1, 1) := by decide +kernel
theorem dL_sound_472 : decode cL_sound 472 = .ok (.goto 4, 3) := by decide +kernel
theorem dL_sound_475 : decode cL_sound 475 = .ok (.iconst 0, 1) := by decide +kernel
theorem dL_sound_476 : decode cL_sound 476 = .ok (.isub, 1) := by decide +kernel
theorem dL_sound_477 : decode cL_sound 477 = .ok (.if_icmp .gt 34, 3) := by decide +kernel
theorem dL_sound_480 : decode cL_sound 480 = .ok (.aload_n 0, 1) := by decide +kernel
theorem dL_sound_481 : decode cL_sound 481 = .ok (.iconst 5, 1) := by decide +kernel
theorem dL_sound_482 : decode cL_sound 482 = .ok (.invokestatic 132, 3) := by decide +kernel
theorem dL_sound_485 : decode cL_sound 485 = .ok (.aload_n 0, 1) := by decide +kernel
theorem dL_sound_486 : decode cL_sound 486 = .ok (.iconst 4, 1) := by decide +kernel
theorem dL_sound_487 : decode cL_sound 487 = .ok (.invokestatic 132, 3) := by decide +kernel
theorem dL_sound_490 : decode cL_sound 490 = .ok (.if_icmp .gt 21, 3) := by decide +kernel
theorem dL_sound_493 : decode cL_sound 493 = .ok (.iload 5, 2) := by decide +kernel
theorem dL_sound_495 : decode cL_sound 495 = .ok (.aload_n 0, 1) := by decide +kernel
theorem dL_sound_496 : decode cL_sound 496 = .ok (.iconst 0, 1) := by decide +kernel
theorem dL_sound_497 : decode cL_sound 497 = .ok (.invokestatic 129, 3) := by decide +kernel
theorem dL_sound_500 : decode cL_sound 500 = .ok (.if_icmp .lt 7, 3) := by decide +kernel
theorem dL_sound_503 : decode cL_sound 503 = .ok (.iload_n 3, 1) := by decide +kernel
theorem dL_sound_504 : decode cL_sound 504 = .ok (.ifCond .ne 7, 3) := by decide +kernel
theorem dL_sound_507 : decode cL_sound 507 = .ok (.iconst 1, 1) := by decide +kernel
theorem dL_sound_508 : decode cL_sound 508 = .ok (.goto 4, 3) := by decide +kernel
theorem dL_sound_511 : decode cL_sound 511 = .ok (.iconst 0, 1) := by decide +kernel
theorem dL_sound_512 : decode cL_sound 512 = .ok (.ireturn, 1) := by decide +kernel
theorem dL_days_0 : decode cL_days 0 = .ok (.iconst 1, 1) := by decide +kernel
theorem dL_days_1 : decode cL_days 1 = .ok (.iload_n 1, 1) := by decide +kernel
theorem dL_days_2 : decode cL_days 2 = .ok (.bipush 25, 2) := by decide +kernel
theorem dL_days_4 : decode cL_days 4 = .ok (.irem, 1) := by decide +kernel
theorem dL_days_5 : decode cL_days 5 = .ok (.iadd, 1) := by decide +kernel
theorem dL_days_6 : decode cL_days 6 = .ok (.istore_n 2, 1) := by decide +kernel
theorem dL_days_7 : decode cL_days 7 = .ok (.aload_n 0, 1) := by decide +kernel
theorem dL_days_8 : decode cL_days 8 = .ok (.iload_n 2, 1) := by decide +kernel
theorem dL_days_9 : decode cL_days 9 = .ok (.iconst 0, 1) := by decide +kernel
theorem dL_days_10 : decode cL_days 10 = .ok (.invokestatic 181, 3) := by decide +kernel
theorem dL_days_13 : decode cL_days 13 = .ok (.istore_n 3, 1) := by decide +kernel
theorem dL_days_14 : decode cL_days 14 = .ok (.aload_n 0, 1) := by decide +kernel
theorem dL_days_15 : decode cL_days 15 = .ok (.iload_n 2, 1) := by decide +kernel
theorem dL_days_16 : decode cL_days 16 = .ok (.iconst 1, 1) := by decide +kernel
theorem dL_days_17 : decode cL_days 17 = .ok (.invokestatic 181, 3) := by decide +kernel
theorem dL_days_20 : decode cL_days 20 = .ok (.istore 4, 2) := by decide +kernel
theorem dL_days_22 : decode cL_days 22 = .ok (.aload_n 0, 1) := by decide +kernel
theorem dL_days_23 : decode cL_days 23 = .ok (.iload_n 2, 1) := by decide +kernel
theorem dL_days_24 : decode cL_days 24 = .ok (.iconst 2, 1) := by decide +kernel
theorem dL_days_25 : decode cL_days 25 = .ok (.invokestatic 181, 3) := by decide +kernel
theorem dL_days_28 : decode cL_days 28 = .ok (.aload_n 0, 1) := by decide +kernel
theorem dL_days_29 : decode cL_days 29 = .ok (.iconst 4, 1) := by decide +kernel
theorem dL_days_30 : decode cL_days 30 = .ok (.invokestatic 132, 3) := by decide +kernel
theorem dL_days_33 : decode cL_days 33 = .ok (.iadd, 1) := by decide +kernel
theorem dL_days_34 : decode cL_days 34 = .ok (.istore 5, 2) := by decide +kernel
theorem dL_days_36 : decode cL_days 36 = .ok (.aload_n 0, 1) := by decide +kernel
theorem dL_days_37 : decode cL_days 37 = .ok (.iload_n 2, 1) := by decide +kernel
theorem dL_days_38 : decode cL_days 38 = .ok (.iconst 3, 1) := by decide +kernel
theorem dL_days_39 : decode cL_days 39 = .ok (.invokestatic 181, 3) := by decide +kernel
theorem dL_days_42 : decode cL_days 42 = .ok (.aload_n 0, 1) := by decide +kernel
theorem dL_days_43 : decode cL_days 43 = .ok (.iconst 5, 1) := by decide +kernel
theorem dL_days_44 : decode cL_days 44 = .ok (.invokestatic 132, 3) := by decide +kernel
theorem dL_days_47 : decode cL_days 47 = .ok (.iadd, 1) := by decide +kernel
theorem dL_days_48 : decode cL_days 48 = .ok (.istore 6, 2) := by decide +kernel
theorem dL_days_50 : decode cL_days 50 = .ok (.aload_n 0, 1) := by decide +kernel
theorem dL_days_51 : decode cL_days 51 = .ok (.iload_n 2, 1) := by decide +kernel
theorem dL_days_52 : decode cL_days 52 = .ok (.iconst 4, 1) := by decide +kernel
theorem dL_days_53 : decode cL_days 53 = .ok (.invokestatic 181, 3) := by decide +kernel
theorem dL_days_56 : decode cL_days 56 = .ok (.istore 7, 2) := by decide +kernel
theorem dL_days_58 : decode cL_days 58 = .ok (.aload_n 0, 1) := by decide +kernel
theorem dL_days_59 : decode cL_days 59 = .ok (.iconst 0, 1) := by decide +kernel
theorem dL_days_60 : decode cL_days 60 = .ok (.iconst 0, 1) := by decide +kernel
theorem dL_days_61 : decode cL_days 61 = .ok (.invokestatic 181, 3) := by decide +kernel
theorem dL_days_64 : decode cL_days 64 = .ok (.ifCond .ne 22, 3) := by decide +kernel
theorem dL_days_67 : decode cL_days 67 = .ok (.aload_n 0, 1) := by decide +kernel
theorem dL_days_68 : decode cL_days 68 = .ok (.iconst 0, 1) := by decide +kernel
theorem dL_days_69 : decode cL_days 69 = .ok (.iconst 4, 1) := by decide +kernel
theorem dL_days_70 : decode cL_days 70 = .ok (.invokestatic 181, 3) := by decide +kernel
theorem dL_days_73 : decode cL_days 73 = .ok (.aload_n 0, 1) := by decide +kernel
theorem dL_days_74 : decode cL_days 74 = .ok (.bipush 9, 2) := by decide +kernel
theorem dL_days_76 : decode cL_days 76 = .ok (.invokestatic 129, 3) := by decide +kernel
theorem dL_days_79 : decode cL_days 79 = .ok (.if_icmp .ne 7, 3) := by decide +kernel
theorem dL_days_82 : decode cL_days 82 = .ok (.iconst 1, 1) := by decide +kernel
theorem dL_days_83 : decode cL_days 83 = .ok (.goto 4, 3) := by decide +kernel
theorem dL_days_86 : decode cL_days 86 = .ok (.iconst 0, 1) := by decide +kernel
theorem dL_days_87 : decode cL_days 87 = .ok (.istore 8, 2) := by decide +kernel
theorem dL_days_89 : decode cL_days 89 = .ok (.iconst 0, 1) := by decide +kernel
theorem dL_days_90 : decode cL_days 90 = .ok (.istore 9, 2) := by decide +kernel
theorem dL_days_92 : decode cL_days 92 = .ok (.iload 9, 2) := by decide +kernel
theorem dL_days_94 : decode cL_days 94 = .ok (.iload_n 2, 1) := by decide +kernel
theorem dL_days_95 : decode cL_days 95 = .ok (.if_icmp .ge 809, 3) := by decide +kernel
theorem dL_days_98 : decode cL_days 98 = .ok (.iload 8, 2) := by decide +kernel
theorem dL_days_100 : decode cL_days 100 = .ok (.ifCond .eq 804, 3) := by decide +kernel
theorem dL_days_103 : decode cL_days 103 = .ok (.aload_n 0, 1) := by decide +kernel
theorem dL_days_104 : decode cL_days 104 = .ok (.iconst 5, 1) := by decide +kernel
theorem dL_days_105 : decode cL_days 105 = .ok (.invokestatic 129, 3) := by decide +kernel
theorem dL_days_108 : decode cL_days 108 = .ok (.istore 10, 2) := by decide +kernel
theorem dL_days_110 : decode cL_days 110 = .ok (.aload_n 0, 1) := by decide +kernel
theorem dL_days_111 : decode cL_days 111 = .ok (.bipush 6, 2) := by decide +kernel
theorem dL_days_113 : decode cL_days 113 = .ok (.invokestatic 129, 3) := by decide +kernel
theorem dL_days_116 : decode cL_days 116 = .ok (.istore 11, 2) := by decide +kernel
theorem dL_days_118 : decode cL_days 118 = .ok (.iload 11, 2) := by decide +kernel
theorem dL_days_120 : decode cL_days 120 = .ok (.aload_n 0, 1) := by decide +kernel
theorem dL_days_121 : decode cL_days 121 = .ok (.iconst 0, 1) := by decide +kernel
theorem dL_days_122 : decode cL_days 122 = .ok (.invokestatic 129, 3) := by decide +kernel
theorem dL_days_125 : decode cL_days 125 = .ok (.if_icmp .ne 7, 3) := by decide +kernel
theorem dL_days_128 : decode cL_days 128 = .ok (.iconst 1, 1) := by decide +kernel
theorem dL_days_129 : decode cL_days 129 = .ok (.goto 4, 3) := by decide +kernel
theorem dL_days_132 : decode cL_days 132 = .ok (.iconst 0, 1) := by decide +kernel
theorem dL_days_133 : decode cL_days 133 = .ok (.istore 12, 2) := by decide +kernel
theorem dL_days_135 : decode cL_days 135 = .ok (.aload_n 0, 1) := by decide +kernel
theorem dL_days_136 : decode cL_days 136 = .ok (.bipush 7, 2) := by decide +kernel
theorem dL_days_138 : decode cL_days 138 = .ok (.invokestatic 129, 3) := by decide +kernel
theorem dL_days_141 : decode cL_days 141 = .ok (.istore 13, 2) := by decide +kernel
theorem dL_days_143 : decode cL_days 143 = .ok (.aload_n 0, 1) := by decide +kernel
theorem dL_days_144 : decode cL_days 144 = .ok (.bipush 8, 2) := by decide +kernel
theorem dL_days_146 : decode cL_days 146 = .ok (.invokestatic 129, 3) := by decide +kernel
theorem dL_days_149 : decode cL_days 149 = .ok (.istore 14, 2) := by decide +kernel
theorem dL_days_151 : decode cL_days 151 = .ok (.aload_n 0, 1) := by decide +kernel
theorem dL_days_152 : decode cL_days 152 = .ok (.bipush 10, 2) := by decide +kernel
theorem dL_days_154 : decode cL_days 154 = .ok (.invokestatic 129, 3) := by decide +kernel
theorem dL_days_157 : decode cL_days 157 = .ok (.istore 15, 2) := by decide +kernel
theorem dL_days_159 : decode cL_days 159 = .ok (.aload_n 0, 1) := by decide +kernel
theorem dL_days_160 : decode cL_days 160 = .ok (.bipush 11, 2) := by decide +kernel
theorem dL_days_162 : decode cL_days 162 = .ok (.invokestatic 129, 3) := by decide +kernel
theorem dL_days_165 : decode cL_days 165 = .ok (.istore 16, 2) := by decide +kernel
theorem dL_days_167 : decode cL_days 167 = .ok (.aload_n 0, 1) := by decide +kernel
theorem dL_days_168 : decode cL_days 168 = .ok (.bipush 12, 2) := by decide +kernel
theorem dL_days_170 : decode cL_days 170 = .ok (.invokestatic 129, 3) := by decide +kernel
theorem dL_days_173 : decode cL_days 173 = .ok (.istore 17, 2) := by decide +kernel
theorem dL_days_175 : decode cL_days 175 = .ok (.aload_n 0, 1) := by decide +kernel
theorem dL_days_176 : decode cL_days 176 = .ok (.iconst 4, 1) := by decide +kernel
theorem dL_days_177 : decode cL_days 177 = .ok (.invokestatic 132, 3) := by decide +kernel
theorem dL_days_180 : decode cL_days 180 = .ok (.istore 18, 2) := by decide +kernel
theorem dL_days_182 : decode cL_days 182 = .ok (.aload_n 0, 1) := by decide +kernel
theorem dL_days_183 : decode cL_days 183 = .ok (.iload 10, 2) := by decide +kernel
theorem dL_days_185 : decode cL_days 185 = .ok (.invokestatic 148, 3) := by decide +kernel
theorem dL_days_188 : decode cL_days 188 = .ok (.istore 19, 2) := by decide +kernel
theorem dL_days_190 : decode cL_days 190 = .ok (.aload_n 0, 1) := by decide +kernel
theorem dL_days_191 : decode cL_days 191 = .ok (.iconst 1, 1) := by decide +kernel
theorem dL_days_192 : decode cL_days 192 = .ok (.invokestatic 132, 3) := by decide +kernel
theorem dL_days_195 : decode cL_days 195 = .ok (.istore 20, 2) := by decide +kernel
theorem dL_days_197 : decode cL_days 197 = .ok (.iconst 0, 1) := by decide +kernel
theorem dL_days_198 : decode cL_days 198 = .ok (.istore 21, 2) := by decide +kernel
theorem dL_days_200 : decode cL_days 200 = .ok (.iconst 0, 1) := by decide +kernel
theorem dL_days_201 : decode cL_days 201 = .ok (.istore 22, 2) := by decide +kernel
theorem dL_days_203 : decode cL_days 203 = .ok (.iconst 0, 1) := by decide +kernel
theorem dL_days_204 : decode cL_days 204 = .ok (.istore 23, 2) := by decide +kernel
theorem dL_days_206 : decode cL_days 206 = .ok (.iload 23, 2) := by decide +kernel
theorem dL_days_208 : decode cL_days 208 = .ok (.aload_n 0, 1) := by decide +kernel
theorem dL_days_209 : decode cL_days 209 = .ok (.iconst 1, 1) := by decide +kernel
theorem dL_days_210 : decode cL_days 210 = .ok (.invokestatic 129, 3) := by decide +kernel
theorem dL_days_213 : decode cL_days 213 = .ok (.if_icmp .ge 96, 3) := by decide +kernel
theorem dL_days_216 : decode cL_days 216 = .ok (.aload_n 0, 1) := by decide +kernel
theorem dL_days_217 : decode cL_days 217 = .ok (.iload 23, 2) := by decide +kernel
theorem dL_days_219 : decode cL_days 219 = .ok (.iconst 5, 1) := by decide +kernel
theorem dL_days_220 : decode cL_days 220 = .ok (.invokestatic 135, 3) := by decide +kernel
theorem dL_days_223 : decode cL_days 223 = .ok (.istore 24, 2) := by decide +kernel
theorem dL_days_225 : decode cL_days 225 = .ok (.aload_n 0, 1) := by decide +kernel
theorem dL_days_226 : decode cL_days 226 = .ok (.iload 23, 2) := by decide +kernel
theorem dL_days_228 : decode cL_days 228 = .ok (.bipush 6, 2) := by decide +kernel
theorem dL_days_230 : decode cL_days 230 = .ok (.invokestatic 135, 3) := by decide +kernel
theorem dL_days_233 : decode cL_days 233 = .ok (.iconst 1, 1) := by decide +kernel
theorem dL_days_234 : decode cL_days 234 = .ok (.if_icmp .ne 7, 3) := by decide +kernel
theorem dL_days_237 : decode cL_days 237 = .ok (.iconst 1, 1) := by decide +kernel
theorem dL_days_238 : decode cL_days 238 = .ok (.goto 4, 3) := by decide +kernel
theorem dL_days_241 : decode cL_days 241 = .ok (.iconst 0, 1) := by decide +kernel
theorem dL_days_242 : decode cL_days 242 = .ok (.istore 25, 2) := by decide +kernel
theorem dL_days_244 : decode cL_days 244 = .ok (.iload 21, 2) := by decide +kernel
theorem dL_days_246 : decode cL_days 246 = .ok (.iload 24, 2) := by decide +kernel
theorem dL_days_248 : decode cL_days 248 = .ok (.ifCond .le 24, 3) := by decide +kernel
theorem dL_days_251 : decode cL_days 251 = .ok (.iload 24, 2) := by decide +kernel
theorem dL_days_253 : decode cL_days 253 = .ok (.iconst 4, 1) := by decide +kernel
theorem dL_days_254 : decode cL_days 254 = .ok (.if_icmp .ne 8, 3) := by decide +kernel
theorem dL_days_257 : decode cL_days 257 = .ok (.iload 25, 2) := by decide +kernel
theorem dL_days_259 : decode cL_days 259 = .ok (.ifCond .ne 13, 3) := by decide +kernel
theorem dL_days_262 : decode cL_days 262 = .ok (.aload_n 0, 1) := by decide +kernel
theorem dL_days_263 : decode cL_days 263 = .ok (.iload 23, 2) := by decide +kernel
theorem dL_days_265 : decode cL_days 265 = .ok (.iconst 3, 1) := by decide +kernel
theorem dL_days_266 : decode cL_days 266 = .ok (.invokestatic 135, 3) := by decide +kernel
theorem dL_days_269 : decode cL_days 269 = .ok (.goto 4, 3) := by decide +kernel
theorem dL_days_272 : decode cL_days 272 = .ok (.iconst 0, 1) := by decide +kernel
theorem dL_days_273 : decode cL_days 273 = .ok (.iadd, 1) := by decide +kernel
theorem dL_days_274 : decode cL_days 274 = .ok (.istore 21, 2) := by decide +kernel
theorem dL_days_276 : decode cL_days 276 = .ok (.iload 22, 2) := by decide +kernel
theorem dL_days_278 : decode cL_days 278 = .ok (.iload 24, 2) := by decide +kernel
theorem dL_days_280 : decode cL_days 280 = .ok (.iconst 2, 1) := by decide +kernel
theorem dL_days_281 : decode cL_days 281 = .ok (.if_icmp .eq 14, 3) := by decide +kernel
theorem dL_days_284 : decode cL_days 284 = .ok (.iload 24, 2) := by decide +kernel
theorem dL_days_286 : decode cL_days 286 = .ok (.iconst 1, 1) := by decide +kernel
theorem dL_days_287 : decode cL_days 287 = .ok (.if_icmp .ne 12, 3) := by decide +kernel
theorem dL_days_290 : decode cL_days 290 = .ok (.iload 25, 2) := by decide +kernel
theorem dL_days_292 : decode cL_days 292 = .ok (.ifCond .eq 7, 3) := by decide +kernel
theorem dL_days_295 : decode cL_days 295 = .ok (.iconst 1, 1) := by decide +kernel
theorem dL_days_296 : decode cL_days 296 = .ok (.goto 4, 3) := by decide +kernel
theorem dL_days_299 : decode cL_days 299 = .ok (.iconst 0, 1) := by decide +kernel
theorem dL_days_300 : decode cL_days 300 = .ok (.ior, 1) := by decide +kernel
theorem dL_days_301 : decode cL_days 301 = .ok (.istore 22, 2) := by decide +kernel
theorem dL_days_303 : decode cL_days 303 = .ok (.iinc 23 1, 3) := by decide +kernel
theorem dL_days_306 : decode cL_days 306 = .ok (.goto (-100), 3) := by decide +kernel
theorem dL_days_309 : decode cL_days 309 = .ok (.aload_n 0, 1) := by decide +kernel
theorem dL_days_310 : decode cL_days 310 = .ok (.iconst 1, 1) := by decide +kernel
theorem dL_days_311 : decode cL_days 311 = .ok (.invokestatic 169, 3) := by decide +kernel
theorem dL_days_314 : decode cL_days 314 = .ok (.istore 23, 2) := by decide +kernel
theorem dL_days_316 : decode cL_days 316 = .ok (.aload_n 0, 1) := by decide +kernel
theorem dL_days_317 : decode cL_days 317 = .ok (.bipush 9, 2) := by decide +kernel
theorem dL_days_319 : decode cL_days 319 = .ok (.invokestatic 129, 3) := by decide +kernel
theorem dL_days_322 : decode cL_days 322 = .ok (.istore 24, 2) := by decide +kernel
theorem dL_days_324 : decode cL_days 324 = .ok (.aload_n 0, 1) := by decide +kernel
theorem dL_days_325 : decode cL_days 325 = .ok (.iconst 5, 1) := by decide +kernel
theorem dL_days_326 : decode cL_days 326 = .ok (.invokestatic 129, 3) := by decide +kernel
theorem dL_days_329 : decode cL_days 329 = .ok (.iload 10, 2) := by decide +kernel
theorem dL_days_331 : decode cL_days 331 = .ok (.iconst 1, 1) := by decide +kernel
theorem dL_days_332 : decode cL_days 332 = .ok (.iadd, 1) := by decide +kernel
theorem dL_days_333 : decode cL_days 333 = .ok (.if_icmp .ne 40, 3) := by decide +kernel
theorem dL_days_336 : decode cL_days 336 = .ok (.aload_n 0, 1) := by decide +kernel
theorem dL_days_337 : decode cL_days 337 = .ok (.iconst 4, 1) := by decide +kernel
theorem dL_days_338 : decode cL_days 338 = .ok (.invokestatic 132, 3) := by decide +kernel
theorem dL_days_341 : decode cL_days 341 = .ok (.iload 18, 2) := by decide +kernel
theorem dL_days_343 : decode cL_days 343 = .ok (.iload 21, 2) := by decide +kernel
theorem dL_days_345 : decode cL_days 345 = .ok (.iadd, 1) := by decide +kernel
theorem dL_days_346 : decode cL_days 346 = .ok (.if_icmp .ne 27, 3) := by decide +kernel
theorem dL_days_349 : decode cL_days 349 = .ok (.iload 23, 2) := by decide +kernel
theorem dL_days_351 : decode cL_days 351 = .ok (.aload_n 0, 1) := by decide +kernel
theorem dL_days_352 : decode cL_days 352 = .ok (.iconst 1, 1) := by decide +kernel
theorem dL_days_353 : decode cL_days 353 = .ok (.invokestatic 132, 3) := by decide +kernel
theorem dL_days_356 : decode cL_days 356 = .ok (.iload 20, 2) := by decide +kernel
theorem dL_days_358 : decode cL_days 358 = .ok (.isub, 1) := by decide +kernel
theorem dL_days_359 : decode cL_days 359 = .ok (.if_icmp .ne 14, 3) := by decide +kernel
theorem dL_days_362 : decode cL_days 362 = .ok (.aload_n 0, 1) := by decide +kernel
theorem dL_days_363 : decode cL_days 363 = .ok (.invokestatic 203, 3) := by decide +kernel
theorem dL_days_366 : decode cL_days 366 = .ok (.ifCond .eq 7, 3) := by decide +kernel
theorem dL_days_369 : decode cL_days 369 = .ok (.iconst 1, 1) := by decide +kernel
theorem dL_days_370 : decode cL_days 370 = .ok (.goto 4, 3) := by decide +kernel
theorem dL_days_373 : decode cL_days 373 = .ok (.iconst 0, 1) := by decide +kernel
theorem dL_days_374 : decode cL_days 374 = .ok (.istore 8, 2) := by decide +kernel
theorem dL_days_376 : decode cL_days 376 = .ok (.iload 12, 2) := by decide +kernel
theorem dL_days_378 : decode cL_days 378 = .ok (.ifCond .eq 28, 3) := by decide +kernel
theorem dL_days_381 : decode cL_days 381 = .ok (.iload 8, 2) := by decide +kernel
theorem dL_days_383 : decode cL_days 383 = .ok (.ifCond .eq 17, 3) := by decide +kernel
theorem dL_days_386 : decode cL_days 386 = .ok (.iload 24, 2) := by decide +kernel
theorem dL_days_388 : decode cL_days 388 = .ok (.ifCond .ne 12, 3) := by decide +kernel
theorem dL_days_391 : decode cL_days 391 = .ok (.iload 23, 2) := by decide +kernel
theorem dL_days_393 : decode cL_days 393 = .ok (.ifCond .ne 7, 3) := by decide +kernel
theorem dL_days_396 : decode cL_days 396 = .ok (.iconst 1, 1) := by decide +kernel
theorem dL_days_397 : decode cL_days 397 = .ok (.goto 4, 3) := by decide +kernel
theorem dL_days_400 : decode cL_days 400 = .ok (.iconst 0, 1) := by decide +kernel
theorem dL_days_401 : decode cL_days 401 = .ok (.istore 8, 2) := by decide +kernel
theorem dL_days_403 : decode cL_days 403 = .ok (.goto 495, 3) := by decide +kernel
theorem dL_days_406 : decode cL_days 406 = .ok (.iload 14, 2) := by decide +kernel
theorem dL_days_408 : decode cL_days 408 = .ok (.bipush (-9), 2) := by decide +kernel
theorem dL_days_410 : decode cL_days 410 = .ok (.if_icmp .ne 66, 3) := by decide +kernel
theorem dL_days_413 : decode cL_days 413 = .ok (.iload 8, 2) := by decide +kernel
theorem dL_days_415 : decode cL_days 415 = .ok (.ifCond .eq 55, 3) := by decide +kernel
theorem dL_days_418 : decode cL_days 418 = .ok (.iload 24, 2) := by decide +kernel
theorem dL_days_420 : decode cL_days 420 = .ok (.bipush 6, 2) := by decide +kernel
theorem dL_days_422 : decode cL_days 422 = .ok (.if_icmp .ne 7, 3) := by decide +kernel
theorem dL_days_425 : decode cL_days 425 = .ok (.iconst 1, 1) := by decide +kernel
theorem dL_days_426 : decode cL_days 426 = .ok (.goto 4, 3) := by decide +kernel
theorem dL_days_429 : decode cL_days 429 = .ok (.iconst 0, 1) := by decide +kernel
theorem dL_days_430 : decode cL_days 430 = .ok (.iload 22, 2) := by decide +kernel
theorem dL_days_432 : decode cL_days 432 = .ok (.ifCond .ne 7, 3) := by decide +kernel
theorem dL_days_435 : decode cL_days 435 = .ok (.iconst 1, 1) := by decide +kernel
theorem dL_days_436 : decode cL_days 436 = .ok (.goto 4, 3) := by decide +kernel
theorem dL_days_439 : decode cL_days 439 = .ok (.iconst 0, 1) := by decide +kernel
theorem dL_days_440 : decode cL_days 440 = .ok (.if_icmp .ne 30, 3) := by decide +kernel
theorem dL_days_443 : decode cL_days 443 = .ok (.iload 24, 2) := by decide +kernel
theorem dL_days_445 : decode cL_days 445 = .ok (.bipush 6, 2) := by decide +kernel
theorem dL_days_447 : decode cL_days 447 = .ok (.if_icmp .ne 19, 3) := by decide +kernel
theorem dL_days_450 : decode cL_days 450 = .ok (.iload 23, 2) := by decide +kernel
theorem dL_days_452 : decode cL_days 452 = .ok (.ifCond .ne 18, 3) := by decide +kernel
theorem dL_days_455 : decode cL_days 455 = .ok (.aload_n 0, 1) := by decide +kernel
theorem dL_days_456 : decode cL_days 456 = .ok (.bipush 8, 2) := by decide +kernel
theorem dL_days_458 : decode cL_days 458 = .ok (.invokestatic 129, 3) := by decide +kernel
theorem dL_days_461 : decode cL_days 461 = .ok (.bipush (-9), 2) := by decide +kernel
theorem dL_days_463 : decode cL_days 463 = .ok (.if_icmp .ne 7, 3) := by decide +kernel
theorem dL_days_466 : decode cL_days 466 = .ok (.iconst 1, 1) := by decide +kernel
theorem dL_days_467 : decode cL_days 467 = .ok (.goto 4, 3) := by decide +kernel
theorem dL_days_470 : decode cL_days 470 = .ok (.iconst 0, 1) := by decide +kernel
theorem dL_days_471 : decode cL_days 471 = .ok (.istore 8, 2) := by decide +kernel
theorem dL_days_473 : decode cL_days 473 = .ok (.goto 425, 3) := by decide +kernel
theorem dL_days_476 : decode cL_days 476 = .ok (.iload 15, 2) := by decide +kernel
theorem dL_days_478 : decode cL_days 478 = .ok (.iconst 2, 1) := by decide +kernel
theorem dL_days_479 : decode cL_days 479 = .ok (.if_icmp .ne 64, 3) := by decide +kernel
theorem dL_days_482 : decode cL_days 482 = .ok (.iload 8, 2) := by decide +kernel
theorem dL_days_484 : decode cL_days 484 = .ok (.ifCond .eq 53, 3) := by decide +kernel
theorem dL_days_487 : decode cL_days 487 = .ok (.iload 24, 2) := by decide +kernel
theorem dL_days_489 : decode cL_days 489 = .ok (.ifCond .ne 48, 3) := by decide +kernel
theorem dL_days_492 : decode cL_days 492 = .ok (.iload 23, 2) := by decide +kernel
theorem dL_days_494 : decode cL_days 494 = .ok (.ifCond .ne 43, 3) := by decide +kernel
theorem dL_days_497 : decode cL_days 497 = .ok (.aload_n 0, 1) := by decide +kernel
theorem dL_days_498 : decode cL_days 498 = .ok (.bipush 11, 2) := by decide +kernel
theorem dL_days_500 : decode cL_days 500 = .ok (.invokestatic 129, 3) := by decide +kernel
theorem dL_days_503 : decode cL_days 503 = .ok (.iload 16, 2) := by decide +kernel
theorem dL_days_505 : decode cL_days 505 = .ok (.iconst 1, 1) := by decide +kernel
theorem dL_days_506 : decode cL_days 506 = .ok (.isub, 1) := by decide +kernel
theorem dL_days_507 : decode cL_days 507 = .ok (.if_icmp .ne 30, 3) := by decide +kernel
theorem dL_days_510 : decode cL_days 510 = .ok (.aload_n 0, 1) := by decide +kernel
theorem dL_days_511 : decode cL_days 511 = .ok (.bipush 12, 2) := by decide +kernel
theorem dL_days_513 : decode cL_days 513 = .ok (.invokestatic 129, 3) := by decide +kernel
theorem dL_days_516 : decode cL_days 516 = .ok (.iload 17, 2) := by decide +kernel
theorem dL_days_518 : decode cL_days 518 = .ok (.iload 16, 2) := by decide +kernel
theorem dL_days_520 : decode cL_days 520 = .ok (.iconst 1, 1) := by decide +kernel
theorem dL_days_521 : decode cL_days 521 = .ok (.if_icmp .ne 7, 3) := by decide +kernel
theorem dL_days_524 : decode cL_days 524 = .ok (.iconst 1, 1) := by decide +kernel
theorem dL_days_525 : decode cL_days 525 = .ok (.goto 4, 3) := by decide +kernel
theorem dL_days_528 : decode cL_days 528 = .ok (.iconst 0, 1) := by decide +kernel
theorem dL_days_529 : decode cL_days 529 = .ok (.iadd, 1) := by decide +kernel
theorem dL_days_530 : decode cL_days 530 = .ok (.if_icmp .ne 7, 3) := by decide +kernel
theorem dL_days_533 : decode cL_days 533 = .ok (.iconst 1, 1) := by decide +kernel
theorem dL_days_534 : decode cL_days 534 = .ok (.goto 4, 3) := by decide +kernel
theorem dL_days_537 : decode cL_days 537 = .ok (.iconst 0, 1) := by decide +kernel
theorem dL_days_538 : decode cL_days 538 = .ok (.istore 8, 2) := by decide +kernel
theorem dL_days_540 : decode cL_days 540 = .ok (.goto 358, 3) := by decide +kernel
theorem dL_days_543 : decode cL_days 543 = .ok (.iload 15, 2) := by decide +kernel
theorem dL_days_545 : decode cL_days 545 = .ok (.iconst 1, 1) := by decide +kernel
theorem dL_days_546 : decode cL_days 546 = .ok (.if_icmp .ne 111, 3) := by decide +kernel
theorem dL_days_549 : decode cL_days 549 = .ok (.iload 8, 2) := by decide +kernel
theorem dL_days_551 : decode cL_days 551 = .ok (.ifCond .eq 100, 3) := by decide +kernel
theorem dL_days_554 : decode cL_days 554 = .ok (.iload 23, 2) := by decide +kernel
theorem dL_days_556 : decode cL_days 556 = .ok (.ifCond .ne 95, 3) := by decide +kernel
theorem dL_days_559 : decode cL_days 559 = .ok (.iload 24, 2) := by decide +kernel
theorem dL_days_561 : decode cL_days 561 = .ok (.iconst 5, 1) := by decide +kernel
theorem dL_days_562 : decode cL_days 562 = .ok (.if_icmp .eq 14, 3) := by decide +kernel
theorem dL_days_565 : decode cL_days 565 = .ok (.iload 24, 2) := by decide +kernel
theorem dL_days_567 : decode cL_days 567 = .ok (.ifCond .ne 84, 3) := by decide +kernel
theorem dL_days_570 : decode cL_days 570 = .ok (.iload 19, 2) := by decide +kernel
theorem dL_days_572 : decode cL_days 572 = .ok (.iconst 3, 1) := by decide +kernel
theorem dL_days_573 : decode cL_days 573 = .ok (.if_icmp .gt 78, 3) := by decide +kernel
theorem dL_days_576 : decode cL_days 576 = .ok (.iload 24, 2) := by decide +kernel
theorem dL_days_578 : decode cL_days 578 = .ok (.iconst 5, 1) := by decide +kernel
theorem dL_days_579 : decode cL_days 579 = .ok (.if_icmp .ne 13, 3) := by decide +kernel
theorem dL_days_582 : decode cL_days 582 = .ok (.aload_n 0, 1) := by decide +kernel
theorem dL_days_583 : decode cL_days 583 = .ok (.bipush 10, 2) := by decide +kernel
theorem dL_days_585 : decode cL_days 585 = .ok (.invokestatic 129, 3) := by decide +kernel
theorem dL_days_588 : decode cL_days 588 = .ok (.iconst 1, 1) := by decide +kernel
theorem dL_days_589 : decode cL_days 589 = .ok (.if_icmp .ne 62, 3) := by decide +kernel
theorem dL_days_592 : decode cL_days 592 = .ok (.iload 24, 2) := by decide +kernel
theorem dL_days_594 : decode cL_days 594 = .ok (.ifCond .ne 53, 3) := by decide +kernel
theorem dL_days_597 : decode cL_days 597 = .ok (.aload_n 0, 1) := by decide +kernel
theorem dL_days_598 : decode cL_days 598 = .ok (.iconst 3, 1) := by decide +kernel
theorem dL_days_599 : decode cL_days 599 = .ok (.invokestatic 129, 3) := by decide +kernel
theorem dL_days_602 : decode cL_days 602 = .ok (.iconst 1, 1) := by decide +kernel
theorem dL_days_603 : decode cL_days 603 = .ok (.if_icmp .ne 28, 3) := by decide +kernel
theorem dL_days_606 : decode cL_days 606 = .ok (.aload_n 0, 1) := by decide +kernel
theorem dL_days_607 : decode cL_days 607 = .ok (.bipush 12, 2) := by decide +kernel
theorem dL_days_609 : decode cL_days 609 = .ok (.invokestatic 129, 3) := by decide +kernel
theorem dL_days_612 : decode cL_days 612 = .ok (.iload 17, 2) := by decide +kernel
theorem dL_days_614 : decode cL_days 614 = .ok (.iconst 1, 1) := by decide +kernel
theorem dL_days_615 : decode cL_days 615 = .ok (.iadd, 1) := by decide +kernel
theorem dL_days_616 : decode cL_days 616 = .ok (.if_icmp .ne 35, 3) := by decide +kernel
theorem dL_days_619 : decode cL_days 619 = .ok (.aload_n 0, 1) := by decide +kernel
theorem dL_days_620 : decode cL_days 620 = .ok (.bipush 10, 2) := by decide +kernel
theorem dL_days_622 : decode cL_days 622 = .ok (.invokestatic 129, 3) := by decide +kernel
theorem dL_days_625 : decode cL_days 625 = .ok (.ifCond .ne 26, 3) := by decide +kernel
theorem dL_days_628 : decode cL_days 628 = .ok (.goto 19, 3) := by decide +kernel
theorem dL_days_631 : decode cL_days 631 = .ok (.aload_n 0, 1) := by decide +kernel
theorem dL_days_632 : decode cL_days 632 = .ok (.bipush 11, 2) := by decide +kernel
theorem dL_days_634 : decode cL_days 634 = .ok (.invokestatic 129, 3) := by decide +kernel
theorem dL_days_637 : decode cL_days 637 = .ok (.aload_n 0, 1) := by decide +kernel
theorem dL_days_638 : decode cL_days 638 = .ok (.iconst 3, 1) := by decide +kernel
theorem dL_days_639 : decode cL_days 639 = .ok (.invokestatic 129, 3) := by decide +kernel
theorem dL_days_642 : decode cL_days 642 = .ok (.iconst 1, 1) := by decide +kernel
theorem dL_days_643 : decode cL_days 643 = .ok (.isub, 1) := by decide +kernel
theorem dL_days_644 : decode cL_days 644 = .ok (.if_icmp .ne 7, 3) := by decide +kernel
theorem dL_days_647 : decode cL_days 647 = .ok (.iconst 1, 1) := by decide +kernel
theorem dL_days_648 : decode cL_days 648 = .ok (.goto 4, 3) := by decide +kernel
theorem dL_days_651 : decode cL_days 651 = .ok (.iconst 0, 1) := by decide +kernel
theorem dL_days_652 : decode cL_days 652 = .ok (.istore 8, 2) := by decide +kernel
theorem dL_days_654 : decode cL_days 654 = .ok (.goto 244, 3) := by decide +kernel
theorem dL_days_657 : decode cL_days 657 = .ok (.aload_n 0, 1) := by decide +kernel
theorem dL_days_658 : decode cL_days 658 = .ok (.iload 11, 2) := by decide +kernel
theorem dL_days_660 : decode cL_days 660 = .ok (.iconst 1, 1) := by decide +kernel
theorem dL_days_661 : decode cL_days 661 = .ok (.invokestatic 145, 3) := by decide +kernel
theorem dL_days_664 : decode cL_days 664 = .ok (.istore 25, 2) := by decide +kernel
theorem dL_days_666 : decode cL_days 666 = .ok (.aload_n 0, 1) := by decide +kernel
theorem dL_days_667 : decode cL_days 667 = .ok (.iload 11, 2) := by decide +kernel
theorem dL_days_669 : decode cL_days 669 = .ok (.iconst 2, 1) := by decide +kernel
theorem dL_days_670 : decode cL_days 670 = .ok (.invokestatic 145, 3) := by decide +kernel
theorem dL_days_673 : decode cL_days 673 = .ok (.istore 26, 2) := by decide +kernel
theorem dL_days_675 : decode cL_days 675 = .ok (.iload 10, 2) := by decide +kernel
theorem dL_days_677 : decode cL_days 677 = .ok (.iload 25, 2) := by decide +kernel
theorem dL_days_679 : decode cL_days 679 = .ok (.if_icmp .lt 26, 3) := by decide +kernel
theorem dL_days_682 : decode cL_days 682 = .ok (.iload 10, 2) := by decide +kernel
theorem dL_days_684 : decode cL_days 684 = .ok (.iload 26, 2) := by decide +kernel
theorem dL_days_686 : decode cL_days 686 = .ok (.if_icmp .gt 19, 3) := by decide +kernel
theorem dL_days_689 : decode cL_days 689 = .ok (.iload 19, 2) := by decide +kernel
theorem dL_days_691 : decode cL_days 691 = .ok (.aload_n 0, 1) := by decide +kernel
theorem dL_days_692 : decode cL_days 692 = .ok (.iload 14, 2) := by decide +kernel
theorem dL_days_694 : decode cL_days 694 = .ok (.iconst 2, 1) := by decide +kernel
theorem dL_days_695 : decode cL_days 695 = .ok (.invokestatic 135, 3) := by decide +kernel
theorem dL_days_698 : decode cL_days 698 = .ok (.if_icmp .gt 7, 3) := by decide +kernel
theorem dL_days_701 : decode cL_days 701 = .ok (.iconst 1, 1) := by decide +kernel
theorem dL_days_702 : decode cL_days 702 = .ok (.goto 4, 3) := by decide +kernel
theorem dL_days_705 : decode cL_days 705 = .ok (.iconst 0, 1) := by decide +kernel
theorem dL_days_706 : decode cL_days 706 = .ok (.istore 27, 2) := by decide +kernel
theorem dL_days_708 : decode cL_days 708 = .ok (.iload 8, 2) := by decide +kernel
theorem dL_days_710 : decode cL_days 710 = .ok (.ifCond .eq 185, 3) := by decide +kernel
theorem dL_days_713 : decode cL_days 713 = .ok (.iload 24, 2) := by decide +kernel
theorem dL_days_715 : decode cL_days 715 = .ok (.iconst 1, 1) := by decide +kernel
theorem dL_days_716 : decode cL_days 716 = .ok (.if_icmp .ne 7, 3) := by decide +kernel
theorem dL_days_719 : decode cL_days 719 = .ok (.iconst 1, 1) := by decide +kernel
theorem dL_days_720 : decode cL_days 720 = .ok (.goto 4, 3) := by decide +kernel
theorem dL_days_723 : decode cL_days 723 = .ok (.iconst 0, 1) := by decide +kernel
theorem dL_days_724 : decode cL_days 724 = .ok (.iload 10, 2) := by decide +kernel
theorem dL_days_726 : decode cL_days 726 = .ok (.iload 25, 2) := by decide +kernel
theorem dL_days_728 : decode cL_days 728 = .ok (.if_icmp .ge 7, 3) := by decide +kernel
theorem dL_days_731 : decode cL_days 731 = .ok (.iconst 1, 1) := by decide +kernel
theorem dL_days_732 : decode cL_days 732 = .ok (.goto 4, 3) := by decide +kernel
theorem dL_days_735 : decode cL_days 735 = .ok (.iconst 0, 1) := by decide +kernel
theorem dL_days_736 : decode cL_days 736 = .ok (.if_icmp .ne 159, 3) := by decide +kernel
theorem dL_days_739 : decode cL_days 739 = .ok (.iload 24, 2) := by decide +kernel
theorem dL_days_741 : decode cL_days 741 = .ok (.iconst 2, 1) := by decide +kernel
theorem dL_days_742 : decode cL_days 742 = .ok (.if_icmp .ne 7, 3) := by decide +kernel
theorem dL_days_745 : decode cL_days 745 = .ok (.iconst 1, 1) := by decide +kernel
theorem dL_days_746 : decode cL_days 746 = .ok (.goto 4, 3) := by decide +kernel
theorem dL_days_749 : decode cL_days 749 = .ok (.iconst 0, 1) := by decide +kernel
theorem dL_days_750 : decode cL_days 750 = .ok (.iload 10, 2) := by decide +kernel
theorem dL_days_752 : decode cL_days 752 = .ok (.iload 26, 2) := by decide +kernel
theorem dL_days_754 : decode cL_days 754 = .ok (.if_icmp .le 7, 3) := by decide +kernel
theorem dL_days_757 : decode cL_days 757 = .ok (.iconst 1, 1) := by decide +kernel
theorem dL_days_758 : decode cL_days 758 = .ok (.goto 4, 3) := by decide +kernel
theorem dL_days_761 : decode cL_days 761 = .ok (.iconst 0, 1) := by decide +kernel
theorem dL_days_762 : decode cL_days 762 = .ok (.if_icmp .ne 133, 3) := by decide +kernel
theorem dL_days_765 : decode cL_days 765 = .ok (.iload 24, 2) := by decide +kernel
theorem dL_days_767 : decode cL_days 767 = .ok (.iconst 3, 1) := by decide +kernel
theorem dL_days_768 : decode cL_days 768 = .ok (.if_icmp .ne 7, 3) := by decide +kernel
theorem dL_days_771 : decode cL_days 771 = .ok (.iconst 1, 1) := by decide +kernel
theorem dL_days_772 : decode cL_days 772 = .ok (.goto 4, 3) := by decide +kernel
theorem dL_days_775 : decode cL_days 775 = .ok (.iconst 0, 1) := by decide +kernel
theorem dL_days_776 : decode cL_days 776 = .ok (.iload 10, 2) := by decide +kernel
theorem dL_days_778 : decode cL_days 778 = .ok (.iload 25, 2) := by decide +kernel
theorem dL_days_780 : decode cL_days 780 = .ok (.if_icmp .lt 19, 3) := by decide +kernel
theorem dL_days_783 : decode cL_days 783 = .ok (.iload 10, 2) := by decide +kernel
theorem dL_days_785 : decode cL_days 785 = .ok (.iload 26, 2) := by decide +kernel
theorem dL_days_787 : decode cL_days 787 = .ok (.if_icmp .gt 12, 3) := by decide +kernel
theorem dL_days_790 : decode cL_days 790 = .ok (.iload 27, 2) := by decide +kernel
theorem dL_days_792 : decode cL_days 792 = .ok (.ifCond .ne 7, 3) := by decide +kernel
theorem dL_days_795 : decode cL_days 795 = .ok (.iconst 1, 1) := by decide +kernel
theorem dL_days_796 : decode cL_days 796 = .ok (.goto 4, 3) := by decide +kernel
theorem dL_days_799 : decode cL_days 799 = .ok (.iconst 0, 1) := by decide +kernel
theorem dL_days_800 : decode cL_days 800 = .ok (.if_icmp .ne 95, 3) := by decide +kernel
theorem dL_days_803 : decode cL_days 803 = .ok (.iload 23, 2) := by decide +kernel
theorem dL_days_805 : decode cL_days 805 = .ok (.ifCond .le 7, 3) := by decide +kernel
theorem dL_days_808 : decode cL_days 808 = .ok (.iconst 1, 1) := by decide +kernel
theorem dL_days_809 : decode cL_days 809 = .ok (.goto 4, 3) := by decide +kernel
theorem dL_days_812 : decode cL_days 812 = .ok (.iconst 0, 1) := by decide +kernel
theorem dL_days_813 : decode cL_days 813 = .ok (.iload 27, 2) := by decide +kernel
theorem dL_days_815 : decode cL_days 815 = .ok (.ifCond .eq 12, 3) := by decide +kernel
theorem dL_days_818 : decode cL_days 818 = .ok (.iload 24, 2) := by decide +kernel
theorem dL_days_820 : decode cL_days 820 = .ok (.ifCond .ne 7, 3) := by decide +kernel
theorem dL_days_823 : decode cL_days 823 = .ok (.iconst 1, 1) := by decide +kernel
theorem dL_days_824 : decode cL_days 824 = .ok (.goto 4, 3) := by decide +kernel
theorem dL_days_827 : decode cL_days 827 = .ok (.iconst 0, 1) := by decide +kernel
theorem dL_days_828 : decode cL_days 828 = .ok (.if_icmp .ne 67, 3) := by decide +kernel
theorem dL_days_831 : decode cL_days 831 = .ok (.iload 23, 2) := by decide +kernel
theorem dL_days_833 : decode cL_days 833 = .ok (.aload_n 0, 1) := by decide +kernel
theorem dL_days_834 : decode cL_days 834 = .ok (.iload 14, 2) := by decide +kernel
theorem dL_days_836 : decode cL_days 836 = .ok (.iconst 1, 1) := by decide +kernel
theorem dL_days_837 : decode cL_days 837 = .ok (.invokestatic 135, 3) := by decide +kernel
theorem dL_days_840 : decode cL_days 840 = .ok (.if_icmp .gt 55, 3) := by decide +kernel
theorem dL_days_843 : decode cL_days 843 = .ok (.iload 23, 2) := by decide +kernel
theorem dL_days_845 : decode cL_days 845 = .ok (.aload_n 0, 1) := by decide +kernel
theorem dL_days_846 : decode cL_days 846 = .ok (.iload 11, 2) := by decide +kernel
theorem dL_days_848 : decode cL_days 848 = .ok (.iconst 0, 1) := by decide +kernel
theorem dL_days_849 : decode cL_days 849 = .ok (.invokestatic 145, 3) := by decide +kernel
theorem dL_days_852 : decode cL_days 852 = .ok (.iload 13, 2) := by decide +kernel
theorem dL_days_854 : decode cL_days 854 = .ok (.isub, 1) := by decide +kernel
theorem dL_days_855 : decode cL_days 855 = .ok (.if_icmp .gt 40, 3) := by decide +kernel
theorem dL_days_858 : decode cL_days 858 = .ok (.iload 24, 2) := by decide +kernel
theorem dL_days_860 : decode cL_days 860 = .ok (.iconst 4, 1) := by decide +kernel
theorem dL_days_861 : decode cL_days 861 = .ok (.if_icmp .ne 30, 3) := by decide +kernel
theorem dL_days_864 : decode cL_days 864 = .ok (.iload 27, 2) := by decide +kernel
theorem dL_days_866 : decode cL_days 866 = .ok (.ifCond .eq 29, 3) := by decide +kernel
theorem dL_days_869 : decode cL_days 869 = .ok (.aload_n 0, 1) := by decide +kernel
theorem dL_days_870 : decode cL_days 870 = .ok (.iload 14, 2) := by decide +kernel
theorem dL_days_872 : decode cL_days 872 = .ok (.iconst 5, 1) := by decide +kernel
theorem dL_days_873 : decode cL_days 873 = .ok (.invokestatic 135, 3) := by decide +kernel
theorem dL_days_876 : decode cL_days 876 = .ok (.iconst 4, 1) := by decide +kernel
theorem dL_days_877 : decode cL_days 877 = .ok (.if_icmp .ne 18, 3) := by decide +kernel
theorem dL_days_880 : decode cL_days 880 = .ok (.aload_n 0, 1) := by decide +kernel
theorem dL_days_881 : decode cL_days 881 = .ok (.iload 14, 2) := by decide +kernel
theorem dL_days_883 : decode cL_days 883 = .ok (.iload 11, 2) := by decide +kernel
theorem dL_days_885 : decode cL_days 885 = .ok (.invokestatic 175, 3) := by decide +kernel
theorem dL_days_888 : decode cL_days 888 = .ok (.ifCond .ne 7, 3) := by decide +kernel
theorem dL_days_891 : decode cL_days 891 = .ok (.iconst 1, 1) := by decide +kernel
theorem dL_days_892 : decode cL_days 892 = .ok (.goto 4, 3) := by decide +kernel
theorem dL_days_895 : decode cL_days 895 = .ok (.iconst 0, 1) := by decide +kernel
theorem dL_days_896 : decode cL_days 896 = .ok (.istore 8, 2) := by decide +kernel
theorem dL_days_898 : decode cL_days 898 = .ok (.iinc 9 1, 3) := by decide +kernel
theorem dL_days_901 : decode cL_days 901 = .ok (.goto (-809), 3) := by decide +kernel
theorem dL_days_904 : decode cL_days 904 = .ok (.iload 8, 2) := by decide +kernel
theorem dL_days_906 : decode cL_days 906 = .ok (.ifCond .eq 53, 3) := by decide +kernel
theorem dL_days_909 : decode cL_days 909 = .ok (.aload_n 0, 1) := by decide +kernel
theorem dL_days_910 : decode cL_days 910 = .ok (.iconst 4, 1) := by decide +kernel
theorem dL_days_911 : decode cL_days 911 = .ok (.invokestatic 132, 3) := by decide +kernel
theorem dL_days_914 : decode cL_days 914 = .ok (.iload 5, 2) := by decide +kernel
theorem dL_days_916 : decode cL_days 916 = .ok (.if_icmp .ne 43, 3) := by decide +kernel
theorem dL_days_919 : decode cL_days 919 = .ok (.aload_n 0, 1) := by decide +kernel
theorem dL_days_920 : decode cL_days 920 = .ok (.iconst 5, 1) := by decide +kernel
theorem dL_days_921 : decode cL_days 921 = .ok (.invokestatic 132, 3) := by decide +kernel
theorem dL_days_924 : decode cL_days 924 = .ok (.iload 6, 2) := by decide +kernel
theorem dL_days_926 : decode cL_days 926 = .ok (.if_icmp .ne 33, 3) := by decide +kernel
theorem dL_days_929 : decode cL_days 929 = .ok (.aload_n 0, 1) := by decide +kernel
theorem dL_days_930 : decode cL_days 930 = .ok (.bipush 6, 2) := by decide +kernel
theorem dL_days_932 : decode cL_days 932 = .ok (.invokestatic 129, 3) := by decide +kernel
theorem dL_days_935 : decode cL_days 935 = .ok (.iload 4, 2) := by decide +kernel
theorem dL_days_937 : decode cL_days 937 = .ok (.if_icmp .ne 22, 3) := by decide +kernel
theorem dL_days_940 : decode cL_days 940 = .ok (.aload_n 0, 1) := by decide +kernel
theorem dL_days_941 : decode cL_days 941 = .ok (.bipush 9, 2) := by decide +kernel
theorem dL_days_943 : decode cL_days 943 = .ok (.invokestatic 129, 3) := by decide +kernel
theorem dL_days_946 : decode cL_days 946 = .ok (.iload 7, 2) := by decide +kernel
theorem dL_days_948 : decode cL_days 948 = .ok (.if_icmp .ne 11, 3) := by decide +kernel
theorem dL_days_951 : decode cL_days 951 = .ok (.iload_n 3, 1) := by decide +kernel
theorem dL_days_952 : decode cL_days 952 = .ok (.ifCond .lt 7, 3) := by decide +kernel
theorem dL_days_955 : decode cL_days 955 = .ok (.iconst 1, 1) := by decide +kernel
theorem dL_days_956 : decode cL_days 956 = .ok (.goto 4, 3) := by decide +kernel
theorem dL_days_959 : decode cL_days 959 = .ok (.iconst 0, 1) := by decide +kernel
theorem dL_days_960 : decode cL_days 960 = .ok (.ireturn, 1) := by decide +kernel
theorem dL_hands_0 : decode cL_hands 0 = .ok (.aload_n 0, 1) := by decide +kernel
theorem dL_hands_1 : decode cL_hands 1 = .ok (.iconst 5, 1) := by decide +kernel
theorem dL_hands_2 : decode cL_hands 2 = .ok (.invokestatic 129, 3) := by decide +kernel
theorem dL_hands_5 : decode cL_hands 5 = .ok (.istore_n 2, 1) := by decide +kernel
theorem dL_hands_6 : decode cL_hands 6 = .ok (.aload_n 0, 1) := by decide +kernel
theorem dL_hands_7 : decode cL_hands 7 = .ok (.iconst 1, 1) := by decide +kernel
theorem dL_hands_8 : decode cL_hands 8 = .ok (.invokestatic 129, 3) := by decide +kernel
theorem dL_hands_11 : decode cL_hands 11 = .ok (.istore_n 3, 1) := by decide +kernel
theorem dL_hands_12 : decode cL_hands 12 = .ok (.aload_n 0, 1) := by decide +kernel
theorem dL_hands_13 : decode cL_hands 13 = .ok (.iconst 0, 1) := by decide +kernel
theorem dL_hands_14 : decode cL_hands 14 = .ok (.invokestatic 129, 3) := by decide +kernel
theorem dL_hands_17 : decode cL_hands 17 = .ok (.istore 4, 2) := by decide +kernel
theorem dL_hands_19 : decode cL_hands 19 = .ok (.iload_n 1, 1) := by decide +kernel
theorem dL_hands_20 : decode cL_hands 20 = .ok (.iload_n 3, 1) := by decide +kernel
theorem dL_hands_21 : decode cL_hands 21 = .ok (.irem, 1) := by decide +kernel
theorem dL_hands_22 : decode cL_hands 22 = .ok (.istore 5, 2) := by decide +kernel
theorem dL_hands_24 : decode cL_hands 24 = .ok (.iload_n 1, 1) := by decide +kernel
theorem dL_hands_25 : decode cL_hands 25 = .ok (.iconst 4, 1) := by decide +kernel
theorem dL_hands_26 : decode cL_hands 26 = .ok (.idiv, 1) := by decide +kernel
theorem dL_hands_27 : decode cL_hands 27 = .ok (.iload 4, 2) := by decide +kernel
theorem dL_hands_29 : decode cL_hands 29 = .ok (.irem, 1) := by decide +kernel
theorem dL_hands_30 : decode cL_hands 30 = .ok (.istore 6, 2) := by decide +kernel
theorem dL_hands_32 : decode cL_hands 32 = .ok (.aload_n 0, 1) := by decide +kernel
theorem dL_hands_33 : decode cL_hands 33 = .ok (.bipush 6, 2) := by decide +kernel
theorem dL_hands_35 : decode cL_hands 35 = .ok (.invokestatic 129, 3) := by decide +kernel
theorem dL_hands_38 : decode cL_hands 38 = .ok (.istore 7, 2) := by decide +kernel
theorem dL_hands_40 : decode cL_hands 40 = .ok (.iload 7, 2) := by decide +kernel
theorem dL_hands_42 : decode cL_hands 42 = .ok (.iload 4, 2) := by decide +kernel
theorem dL_hands_44 : decode cL_hands 44 = .ok (.if_icmp .ne 8, 3) := by decide +kernel
theorem dL_hands_47 : decode cL_hands 47 = .ok (.iload 4, 2) := by decide +kernel
theorem dL_hands_49 : decode cL_hands 49 = .ok (.goto 7, 3) := by decide +kernel
theorem dL_hands_52 : decode cL_hands 52 = .ok (.iload 7, 2) := by decide +kernel
theorem dL_hands_54 : decode cL_hands 54 = .ok (.iconst 1, 1) := by decide +kernel
theorem dL_hands_55 : decode cL_hands 55 = .ok (.iadd, 1) := by decide +kernel
theorem dL_hands_56 : decode cL_hands 56 = .ok (.istore 8, 2) := by decide +kernel
theorem dL_hands_58 : decode cL_hands 58 = .ok (.aload_n 0, 1) := by decide +kernel
theorem dL_hands_59 : decode cL_hands 59 = .ok (.iload 5, 2) := by decide +kernel
theorem dL_hands_61 : decode cL_hands 61 = .ok (.iconst 5, 1) := by decide +kernel
theorem dL_hands_62 : decode cL_hands 62 = .ok (.invokestatic 135, 3) := by decide +kernel
theorem dL_hands_65 : decode cL_hands 65 = .ok (.istore 9, 2) := by decide +kernel
theorem dL_hands_67 : decode cL_hands 67 = .ok (.aload_n 0, 1) := by decide +kernel
theorem dL_hands_68 : decode cL_hands 68 = .ok (.iconst 4, 1) := by decide +kernel
theorem dL_hands_69 : decode cL_hands 69 = .ok (.invokestatic 129, 3) := by decide +kernel
theorem dL_hands_72 : decode cL_hands 72 = .ok (.istore 10, 2) := by decide +kernel
theorem dL_hands_74 : decode cL_hands 74 = .ok (.aload_n 0, 1) := by decide +kernel
theorem dL_hands_75 : decode cL_hands 75 = .ok (.iconst 0, 1) := by decide +kernel
theorem dL_hands_76 : decode cL_hands 76 = .ok (.invokestatic 200, 3) := by decide +kernel
theorem dL_hands_79 : decode cL_hands 79 = .ok (.iload_n 2, 1) := by decide +kernel
theorem dL_hands_80 : decode cL_hands 80 = .ok (.if_icmp .ne 7, 3) := by decide +kernel
theorem dL_hands_83 : decode cL_hands 83 = .ok (.iconst 1, 1) := by decide +kernel
theorem dL_hands_84 : decode cL_hands 84 = .ok (.goto 4, 3) := by decide +kernel
theorem dL_hands_87 : decode cL_hands 87 = .ok (.iconst 0, 1) := by decide +kernel
theorem dL_hands_88 : decode cL_hands 88 = .ok (.istore 11, 2) := by decide +kernel
theorem dL_hands_90 : decode cL_hands 90 = .ok (.aload_n 0, 1) := by decide +kernel
theorem dL_hands_91 : decode cL_hands 91 = .ok (.iload 5, 2) := by decide +kernel
theorem dL_hands_93 : decode cL_hands 93 = .ok (.iconst 0, 1) := by decide +kernel
theorem dL_hands_94 : decode cL_hands 94 = .ok (.invokestatic 135, 3) := by decide +kernel
theorem dL_hands_97 : decode cL_hands 97 = .ok (.aload_n 0, 1) := by decide +kernel
theorem dL_hands_98 : decode cL_hands 98 = .ok (.iload 5, 2) := by decide +kernel
theorem dL_hands_100 : decode cL_hands 100 = .ok (.iconst 4, 1) := by decide +kernel
theorem dL_hands_101 : decode cL_hands 101 = .ok (.invokestatic 135, 3) := by decide +kernel
theorem dL_hands_104 : decode cL_hands 104 = .ok (.isub, 1) := by decide +kernel
theorem dL_hands_105 : decode cL_hands 105 = .ok (.istore 12, 2) := by decide +kernel
theorem dL_hands_107 : decode cL_hands 107 = .ok (.iconst 1, 1) := by decide +kernel
theorem dL_hands_108 : decode cL_hands 108 = .ok (.iload_n 1, 1) := by decide +kernel
theorem dL_hands_109 : decode cL_hands 109 = .ok (.bipush 64, 2) := by decide +kernel
theorem dL_hands_111 : decode cL_hands 111 = .ok (.idiv, 1) := by decide +kernel
theorem dL_hands_112 : decode cL_hands 112 = .ok (.sipush 160, 3) := by decide +kernel
theorem dL_hands_115 : decode cL_hands 115 = .ok (.irem, 1) := by decide +kernel
theorem dL_hands_116 : decode cL_hands 116 = .ok (.iadd, 1) := by decide +kernel
theorem dL_hands_117 : decode cL_hands 117 = .ok (.istore 13, 2) := by decide +kernel
theorem dL_hands_119 : decode cL_hands 119 = .ok (.iload 9, 2) := by decide +kernel
theorem dL_hands_121 : decode cL_hands 121 = .ok (.ifCond .ne 21, 3) := by decide +kernel
theorem dL_hands_124 : decode cL_hands 124 = .ok (.iload 13, 2) := by decide +kernel
theorem dL_hands_126 : decode cL_hands 126 = .ok (.iload 12, 2) := by decide +kernel
theorem dL_hands_128 : decode cL_hands 128 = .ok (.if_icmp .gt 14, 3) := by decide +kernel
theorem dL_hands_131 : decode cL_hands 131 = .ok (.iload 13, 2) := by decide +kernel
theorem dL_hands_133 : decode cL_hands 133 = .ok (.iload 10, 2) := by decide +kernel
theorem dL_hands_135 : decode cL_hands 135 = .ok (.if_icmp .gt 7, 3) := by decide +kernel
theorem dL_hands_138 : decode cL_hands 138 = .ok (.iconst 1, 1) := by decide +kernel
theorem dL_hands_139 : decode cL_hands 139 = .ok (.goto 4, 3) := by decide +kernel
theorem dL_hands_142 : decode cL_hands 142 = .ok (.iconst 0, 1) := by decide +kernel
theorem dL_hands_143 : decode cL_hands 143 = .ok (.istore 14, 2) := by decide +kernel
theorem dL_hands_145 : decode cL_hands 145 = .ok (.iload 11, 2) := by decide +kernel
theorem dL_hands_147 : decode cL_hands 147 = .ok (.ifCond .eq 131, 3) := by decide +kernel
theorem dL_hands_150 : decode cL_hands 150 = .ok (.aload_n 0, 1) := by decide +kernel
theorem dL_hands_151 : decode cL_hands 151 = .ok (.iload 5, 2) := by decide +kernel
theorem dL_hands_153 : decode cL_hands 153 = .ok (.iload 13, 2) := by decide +kernel
theorem dL_hands_155 : decode cL_hands 155 = .ok (.invokestatic 151, 3) := by decide +kernel
theorem dL_hands_158 : decode cL_hands 158 = .ok (.ifCond .lt 7, 3) := by decide +kernel
theorem dL_hands_161 : decode cL_hands 161 = .ok (.iconst 1, 1) := by decide +kernel
theorem dL_hands_162 : decode cL_hands 162 = .ok (.goto 4, 3) := by decide +kernel
theorem dL_hands_165 : decode cL_hands 165 = .ok (.iconst 0, 1) := by decide +kernel
theorem dL_hands_166 : decode cL_hands 166 = .ok (.iload 14, 2) := by decide +kernel
theorem dL_hands_168 : decode cL_hands 168 = .ok (.if_icmp .ne 110, 3) := by decide +kernel
theorem dL_hands_171 : decode cL_hands 171 = .ok (.aload_n 0, 1) := by decide +kernel
theorem dL_hands_172 : decode cL_hands 172 = .ok (.iconst 4, 1) := by decide +kernel
theorem dL_hands_173 : decode cL_hands 173 = .ok (.invokestatic 129, 3) := by decide +kernel
theorem dL_hands_176 : decode cL_hands 176 = .ok (.iload 10, 2) := by decide +kernel
theorem dL_hands_178 : decode cL_hands 178 = .ok (.iload 14, 2) := by decide +kernel
theorem dL_hands_180 : decode cL_hands 180 = .ok (.ifCond .eq 8, 3) := by decide +kernel
theorem dL_hands_183 : decode cL_hands 183 = .ok (.iload 13, 2) := by decide +kernel
theorem dL_hands_185 : decode cL_hands 185 = .ok (.goto 4, 3) := by decide +kernel
theorem dL_hands_188 : decode cL_hands 188 = .ok (.iconst 0, 1) := by decide +kernel
theorem dL_hands_189 : decode cL_hands 189 = .ok (.isub, 1) := by decide +kernel
theorem dL_hands_190 : decode cL_hands 190 = .ok (.if_icmp .ne 88, 3) := by decide +kernel
theorem dL_hands_193 : decode cL_hands 193 = .ok (.aload_n 0, 1) := by decide +kernel
theorem dL_hands_194 : decode cL_hands 194 = .ok (.invokestatic 203, 3) := by decide +kernel
theorem dL_hands_197 : decode cL_hands 197 = .ok (.ifCond .eq 81, 3) := by decide +kernel
theorem dL_hands_200 : decode cL_hands 200 = .ok (.aload_n 0, 1) := by decide +kernel
theorem dL_hands_201 : decode cL_hands 201 = .ok (.iload 5, 2) := by decide +kernel
theorem dL_hands_203 : decode cL_hands 203 = .ok (.invokestatic 154, 3) := by decide +kernel
theorem dL_hands_206 : decode cL_hands 206 = .ok (.iload 9, 2) := by decide +kernel
theorem dL_hands_208 : decode cL_hands 208 = .ok (.ifCond .ne 15, 3) := by decide +kernel
theorem dL_hands_211 : decode cL_hands 211 = .ok (.iload 7, 2) := by decide +kernel
theorem dL_hands_213 : decode cL_hands 213 = .ok (.iload 4, 2) := by decide +kernel
theorem dL_hands_215 : decode cL_hands 215 = .ok (.if_icmp .ge 8, 3) := by decide +kernel
theorem dL_hands_218 : decode cL_hands 218 = .ok (.iload 8, 2) := by decide +kernel
theorem dL_hands_220 : decode cL_hands 220 = .ok (.goto 6, 3) := by decide +kernel
theorem dL_hands_223 : decode cL_hands 223 = .ok (.sipush (-1003), 3) := by decide +kernel
theorem dL_hands_226 : decode cL_hands 226 = .ok (.if_icmp .ne 52, 3) := by decide +kernel
theorem dL_hands_229 : decode cL_hands 229 = .ok (.iload 9, 2) := by decide +kernel
theorem dL_hands_231 : decode cL_hands 231 = .ok (.ifCond .ne 34, 3) := by decide +kernel
theorem dL_hands_234 : decode cL_hands 234 = .ok (.iload 7, 2) := by decide +kernel
theorem dL_hands_236 : decode cL_hands 236 = .ok (.iload 4, 2) := by decide +kernel
theorem dL_hands_238 : decode cL_hands 238 = .ok (.if_icmp .eq 27, 3) := by decide +kernel
theorem dL_hands_241 : decode cL_hands 241 = .ok (.aload_n 0, 1) := by decide +kernel
theorem dL_hands_242 : decode cL_hands 242 = .ok (.iload 5, 2) := by decide +kernel
theorem dL_hands_244 : decode cL_hands 244 = .ok (.iconst 5, 1) := by decide +kernel
theorem dL_hands_245 : decode cL_hands 245 = .ok (.invokestatic 135, 3) := by decide +kernel
theorem dL_hands_248 : decode cL_hands 248 = .ok (.iconst 1, 1) := by decide +kernel
theorem dL_hands_249 : decode cL_hands 249 = .ok (.if_icmp .ne 29, 3) := by decide +kernel
theorem dL_hands_252 : decode cL_hands 252 = .ok (.aload_n 0, 1) := by decide +kernel
theorem dL_hands_253 : decode cL_hands 253 = .ok (.iload 5, 2) := by decide +kernel
theorem dL_hands_255 : decode cL_hands 255 = .ok (.bipush 6, 2) := by decide +kernel
theorem dL_hands_257 : decode cL_hands 257 = .ok (.invokestatic 135, 3) := by decide +kernel
theorem dL_hands_260 : decode cL_hands 260 = .ok (.iload 8, 2) := by decide +kernel
theorem dL_hands_262 : decode cL_hands 262 = .ok (.if_icmp .ne 16, 3) := by decide +kernel
theorem dL_hands_265 : decode cL_hands 265 = .ok (.aload_n 0, 1) := by decide +kernel
theorem dL_hands_266 : decode cL_hands 266 = .ok (.iconst 0, 1) := by decide +kernel
theorem dL_hands_267 : decode cL_hands 267 = .ok (.invokestatic 142, 3) := by decide +kernel
theorem dL_hands_270 : decode cL_hands 270 = .ok (.iload_n 2, 1) := by decide +kernel
theorem dL_hands_271 : decode cL_hands 271 = .ok (.if_icmp .ne 7, 3) := by decide +kernel
theorem dL_hands_274 : decode cL_hands 274 = .ok (.iconst 1, 1) := by decide +kernel
theorem dL_hands_275 : decode cL_hands 275 = .ok (.goto 4, 3) := by decide +kernel
theorem dL_hands_278 : decode cL_hands 278 = .ok (.iconst 0, 1) := by decide +kernel
theorem dL_hands_279 : decode cL_hands 279 = .ok (.istore 11, 2) := by decide +kernel
theorem dL_hands_281 : decode cL_hands 281 = .ok (.iload 9, 2) := by decide +kernel
theorem dL_hands_283 : decode cL_hands 283 = .ok (.iconst 2, 1) := by decide +kernel
theorem dL_hands_284 : decode cL_hands 284 = .ok (.if_icmp .eq 9, 3) := by decide +kernel
theorem dL_hands_287 : decode cL_hands 287 = .ok (.iload 9, 2) := by decide +kernel
theorem dL_hands_289 : decode cL_hands 289 = .ok (.iconst 3, 1) := by decide +kernel
theorem dL_hands_290 : decode cL_hands 290 = .ok (.if_icmp .ne 7, 3) := by decide +kernel
theorem dL_hands_293 : decode cL_hands 293 = .ok (.iconst 1, 1) := by decide +kernel
theorem dL_hands_294 : decode cL_hands 294 = .ok (.goto 4, 3) := by decide +kernel
theorem dL_hands_297 : decode cL_hands 297 = .ok (.iconst 0, 1) := by decide +kernel
theorem dL_hands_298 : decode cL_hands 298 = .ok (.istore 15, 2) := by decide +kernel
theorem dL_hands_300 : decode cL_hands 300 = .ok (.aload_n 0, 1) := by decide +kernel
theorem dL_hands_301 : decode cL_hands 301 = .ok (.bipush 10, 2) := by decide +kernel
theorem dL_hands_303 : decode cL_hands 303 = .ok (.invokestatic 129, 3) := by decide +kernel
theorem dL_hands_306 : decode cL_hands 306 = .ok (.istore 16, 2) := by decide +kernel
theorem dL_hands_308 : decode cL_hands 308 = .ok (.aload_n 0, 1) := by decide +kernel
theorem dL_hands_309 : decode cL_hands 309 = .ok (.bipush 13, 2) := by decide +kernel
theorem dL_hands_311 : decode cL_hands 311 = .ok (.invokestatic 129, 3) := by decide +kernel
theorem dL_hands_314 : decode cL_hands 314 = .ok (.istore 17, 2) := by decide +kernel
theorem dL_hands_316 : decode cL_hands 316 = .ok (.iload 11, 2) := by decide +kernel
theorem dL_hands_318 : decode cL_hands 318 = .ok (.ifCond .eq 103, 3) := by decide +kernel
theorem dL_hands_321 : decode cL_hands 321 = .ok (.aload_n 0, 1) := by decide +kernel
theorem dL_hands_322 : decode cL_hands 322 = .ok (.iload 5, 2) := by decide +kernel
theorem dL_hands_324 : decode cL_hands 324 = .ok (.invokestatic 157, 3) := by decide +kernel
theorem dL_hands_327 : decode cL_hands 327 = .ok (.iload 15, 2) := by decide +kernel
theorem dL_hands_329 : decode cL_hands 329 = .ok (.ifCond .eq 8, 3) := by decide +kernel
theorem dL_hands_332 : decode cL_hands 332 = .ok (.iload 8, 2) := by decide +kernel
theorem dL_hands_334 : decode cL_hands 334 = .ok (.goto 6, 3) := by decide +kernel
theorem dL_hands_337 : decode cL_hands 337 = .ok (.sipush (-1003), 3) := by decide +kernel
theorem dL_hands_340 : decode cL_hands 340 = .ok (.if_icmp .ne 81, 3) := by decide +kernel
theorem dL_hands_343 : decode cL_hands 343 = .ok (.iload 15, 2) := by decide +kernel
theorem dL_hands_345 : decode cL_hands 345 = .ok (.ifCond .eq 51, 3) := by decide +kernel
theorem dL_hands_348 : decode cL_hands 348 = .ok (.aload_n 0, 1) := by decide +kernel
theorem dL_hands_349 : decode cL_hands 349 = .ok (.iload 5, 2) := by decide +kernel
theorem dL_hands_351 : decode cL_hands 351 = .ok (.iconst 5, 1) := by decide +kernel
theorem dL_hands_352 : decode cL_hands 352 = .ok (.invokestatic 135, 3) := by decide +kernel
theorem dL_hands_355 : decode cL_hands 355 = .ok (.iconst 4, 1) := by decide +kernel
theorem dL_hands_356 : decode cL_hands 356 = .ok (.if_icmp .ne 65, 3) := by decide +kernel
theorem dL_hands_359 : decode cL_hands 359 = .ok (.iload 9, 2) := by decide +kernel
theorem dL_hands_361 : decode cL_hands 361 = .ok (.iconst 3, 1) := by decide +kernel
theorem dL_hands_362 : decode cL_hands 362 = .ok (.if_icmp .ne 23, 3) := by decide +kernel
theorem dL_hands_365 : decode cL_hands 365 = .ok (.aload_n 0, 1) := by decide +kernel
theorem dL_hands_366 : decode cL_hands 366 = .ok (.bipush 8, 2) := by decide +kernel
theorem dL_hands_368 : decode cL_hands 368 = .ok (.invokestatic 129, 3) := by decide +kernel
theorem dL_hands_371 : decode cL_hands 371 = .ok (.bipush (-9), 2) := by decide +kernel
theorem dL_hands_373 : decode cL_hands 373 = .ok (.if_icmp .ne 48, 3) := by decide +kernel
theorem dL_hands_376 : decode cL_hands 376 = .ok (.aload_n 0, 1) := by decide +kernel
theorem dL_hands_377 : decode cL_hands 377 = .ok (.bipush 10, 2) := by decide +kernel
theorem dL_hands_379 : decode cL_hands 379 = .ok (.invokestatic 129, 3) := by decide +kernel
theorem dL_hands_382 : decode cL_hands 382 = .ok (.ifCond .ne 39, 3) := by decide +kernel
theorem dL_hands_385 : decode cL_hands 385 = .ok (.aload_n 0, 1) := by decide +kernel
theorem dL_hands_386 : decode cL_hands 386 = .ok (.bipush 13, 2) := by decide +kernel
theorem dL_hands_388 : decode cL_hands 388 = .ok (.invokestatic 129, 3) := by decide +kernel
theorem dL_hands_391 : decode cL_hands 391 = .ok (.iload 17, 2) := by decide +kernel
theorem dL_hands_393 : decode cL_hands 393 = .ok (.if_icmp .ne 28, 3) := by decide +kernel
theorem dL_hands_396 : decode cL_hands 396 = .ok (.aload_n 0, 1) := by decide +kernel
theorem dL_hands_397 : decode cL_hands 397 = .ok (.invokestatic 203, 3) := by decide +kernel
theorem dL_hands_400 : decode cL_hands 400 = .ok (.ifCond .eq 21, 3) := by decide +kernel
theorem dL_hands_403 : decode cL_hands 403 = .ok (.iload 16, 2) := by decide +kernel
theorem dL_hands_405 : decode cL_hands 405 = .ok (.ifCond .lt 16, 3) := by decide +kernel
theorem dL_hands_408 : decode cL_hands 408 = .ok (.aload_n 0, 1) := by decide +kernel
theorem dL_hands_409 : decode cL_hands 409 = .ok (.iconst 0, 1) := by decide +kernel
theorem dL_hands_410 : decode cL_hands 410 = .ok (.invokestatic 142, 3) := by decide +kernel
theorem dL_hands_413 : decode cL_hands 413 = .ok (.iload_n 2, 1) := by decide +kernel
theorem dL_hands_414 : decode cL_hands 414 = .ok (.if_icmp .ne 7, 3) := by decide +kernel
theorem dL_hands_417 : decode cL_hands 417 = .ok (.iconst 1, 1) := by decide +kernel
theorem dL_hands_418 : decode cL_hands 418 = .ok (.goto 4, 3) := by decide +kernel
theorem dL_hands_421 : decode cL_hands 421 = .ok (.iconst 0, 1) := by decide +kernel
theorem dL_hands_422 : decode cL_hands 422 = .ok (.istore 11, 2) := by decide +kernel
theorem dL_hands_424 : decode cL_hands 424 = .ok (.iconst 1, 1) := by decide +kernel
theorem dL_hands_425 : decode cL_hands 425 = .ok (.iload_n 1, 1) := by decide +kernel
theorem dL_hands_426 : decode cL_hands 426 = .ok (.bipush 16, 2) := by decide +kernel
theorem dL_hands_428 : decode cL_hands 428 = .ok (.idiv, 1) := by decide +kernel
theorem dL_hands_429 : decode cL_hands 429 = .ok (.bipush 99, 2) := by decide +kernel
theorem dL_hands_431 : decode cL_hands 431 = .ok (.irem, 1) := by decide +kernel
theorem dL_hands_432 : decode cL_hands 432 = .ok (.iadd, 1) := by decide +kernel
theorem dL_hands_433 : decode cL_hands 433 = .ok (.istore 18, 2) := by decide +kernel
theorem dL_hands_435 : decode cL_hands 435 = .ok (.aload_n 0, 1) := by decide +kernel
theorem dL_hands_436 : decode cL_hands 436 = .ok (.iload 6, 2) := by decide +kernel
theorem dL_hands_438 : decode cL_hands 438 = .ok (.iconst 2, 1) := by decide +kernel
theorem dL_hands_439 : decode cL_hands 439 = .ok (.invokestatic 145, 3) := by decide +kernel
theorem dL_hands_442 : decode cL_hands 442 = .ok (.istore 19, 2) := by decide +kernel
theorem dL_hands_444 : decode cL_hands 444 = .ok (.aload_n 0, 1) := by decide +kernel
theorem dL_hands_445 : decode cL_hands 445 = .ok (.bipush 6, 2) := by decide +kernel
theorem dL_hands_447 : decode cL_hands 447 = .ok (.invokestatic 132, 3) := by decide +kernel
theorem dL_hands_450 : decode cL_hands 450 = .ok (.istore 20, 2) := by decide +kernel
theorem dL_hands_452 : decode cL_hands 452 = .ok (.iload 11, 2) := by decide +kernel
theorem dL_hands_454 : decode cL_hands 454 = .ok (.ifCond .eq 119, 3) := by decide +kernel
theorem dL_hands_457 : decode cL_hands 457 = .ok (.aload_n 0, 1) := by decide +kernel
theorem dL_hands_458 : decode cL_hands 458 = .ok (.iload 6, 2) := by decide +kernel
theorem dL_hands_460 : decode cL_hands 460 = .ok (.iload 18, 2) := by decide +kernel
theorem dL_hands_462 : decode cL_hands 462 = .ok (.invokestatic 160, 3) := by decide +kernel
theorem dL_hands_465 : decode cL_hands 465 = .ok (.iload 19, 2) := by decide +kernel
theorem dL_hands_467 : decode cL_hands 467 = .ok (.iload 18, 2) := by decide +kernel
theorem dL_hands_469 : decode cL_hands 469 = .ok (.iadd, 1) := by decide +kernel
theorem dL_hands_470 : decode cL_hands 470 = .ok (.sipush 999, 3) := by decide +kernel
theorem dL_hands_473 : decode cL_hands 473 = .ok (.if_icmp .le 9, 3) := by decide +kernel
theorem dL_hands_476 : decode cL_hands 476 = .ok (.sipush (-1003), 3) := by decide +kernel
theorem dL_hands_479 : decode cL_hands 479 = .ok (.goto 8, 3) := by decide +kernel
theorem dL_hands_482 : decode cL_hands 482 = .ok (.iload 19, 2) := by decide +kernel
theorem dL_hands_484 : decode cL_hands 484 = .ok (.iload 18, 2) := by decide +kernel
theorem dL_hands_486 : decode cL_hands 486 = .ok (.iadd, 1) := by decide +kernel
theorem dL_hands_487 : decode cL_hands 487 = .ok (.if_icmp .ne 86, 3) := by decide +kernel
theorem dL_hands_490 : decode cL_hands 490 = .ok (.aload_n 0, 1) := by decide +kernel
theorem dL_hands_491 : decode cL_hands 491 = .ok (.bipush 6, 2) := by decide +kernel
theorem dL_hands_493 : decode cL_hands 493 = .ok (.invokestatic 132, 3) := by decide +kernel
theorem dL_hands_496 : decode cL_hands 496 = .ok (.iload 20, 2) := by decide +kernel
theorem dL_hands_498 : decode cL_hands 498 = .ok (.iload 19, 2) := by decide +kernel
theorem dL_hands_500 : decode cL_hands 500 = .ok (.iload 18, 2) := by decide +kernel
theorem dL_hands_502 : decode cL_hands 502 = .ok (.iadd, 1) := by decide +kernel
theorem dL_hands_503 : decode cL_hands 503 = .ok (.sipush 999, 3) := by decide +kernel
theorem dL_hands_506 : decode cL_hands 506 = .ok (.if_icmp .le 7, 3) := by decide +kernel
theorem dL_hands_509 : decode cL_hands 509 = .ok (.iconst 0, 1) := by decide +kernel
theorem dL_hands_510 : decode cL_hands 510 = .ok (.goto 8, 3) := by decide +kernel
theorem dL_hands_513 : decode cL_hands 513 = .ok (.bipush 50, 2) := by decide +kernel
theorem dL_hands_515 : decode cL_hands 515 = .ok (.iload 18, 2) := by decide +kernel
theorem dL_hands_517 : decode cL_hands 517 = .ok (.imul, 1) := by decide +kernel
theorem dL_hands_518 : decode cL_hands 518 = .ok (.iadd, 1) := by decide +kernel
theorem dL_hands_519 : decode cL_hands 519 = .ok (.if_icmp .ne 54, 3) := by decide +kernel
theorem dL_hands_522 : decode cL_hands 522 = .ok (.aload_n 0, 1) := by decide +kernel
theorem dL_hands_523 : decode cL_hands 523 = .ok (.iload 18, 2) := by decide +kernel
theorem dL_hands_525 : decode cL_hands 525 = .ok (.invokestatic 163, 3) := by decide +kernel
theorem dL_hands_528 : decode cL_hands 528 = .ok (.iload 10, 2) := by decide +kernel
theorem dL_hands_530 : decode cL_hands 530 = .ok (.iload 18, 2) := by decide +kernel
theorem dL_hands_532 : decode cL_hands 532 = .ok (.iadd, 1) := by decide +kernel
theorem dL_hands_533 : decode cL_hands 533 = .ok (.sipush 9999, 3) := by decide +kernel
theorem dL_hands_536 : decode cL_hands 536 = .ok (.if_icmp .le 9, 3) := by decide +kernel
theorem dL_hands_539 : decode cL_hands 539 = .ok (.sipush (-1003), 3) := by decide +kernel
theorem dL_hands_542 : decode cL_hands 542 = .ok (.goto 8, 3) := by decide +kernel
theorem dL_hands_545 : decode cL_hands 545 = .ok (.iload 10, 2) := by decide +kernel
theorem dL_hands_547 : decode cL_hands 547 = .ok (.iload 18, 2) := by decide +kernel
theorem dL_hands_549 : decode cL_hands 549 = .ok (.iadd, 1) := by decide +kernel
theorem dL_hands_550 : decode cL_hands 550 = .ok (.if_icmp .ne 23, 3) := by decide +kernel
theorem dL_hands_553 : decode cL_hands 553 = .ok (.aload_n 0, 1) := by decide +kernel
theorem dL_hands_554 : decode cL_hands 554 = .ok (.invokestatic 203, 3) := by decide +kernel
theorem dL_hands_557 : decode cL_hands 557 = .ok (.ifCond .eq 16, 3) := by decide +kernel
theorem dL_hands_560 : decode cL_hands 560 = .ok (.aload_n 0, 1) := by decide +kernel
theorem dL_hands_561 : decode cL_hands 561 = .ok (.iconst 0, 1) := by decide +kernel
theorem dL_hands_562 : decode cL_hands 562 = .ok (.invokestatic 142, 3) := by decide +kernel
theorem dL_hands_565 : decode cL_hands 565 = .ok (.iload_n 2, 1) := by decide +kernel
theorem dL_hands_566 : decode cL_hands 566 = .ok (.if_icmp .ne 7, 3) := by decide +kernel
theorem dL_hands_569 : decode cL_hands 569 = .ok (.iconst 1, 1) := by decide +kernel
theorem dL_hands_570 : decode cL_hands 570 = .ok (.goto 4, 3) := by decide +kernel
theorem dL_hands_573 : decode cL_hands 573 = .ok (.iconst 0, 1) := by decide +kernel
theorem dL_hands_574 : decode cL_hands 574 = .ok (.istore 11, 2) := by decide +kernel
theorem dL_hands_576 : decode cL_hands 576 = .ok (.aload_n 0, 1) := by decide +kernel
theorem dL_hands_577 : decode cL_hands 577 = .ok (.iload 6, 2) := by decide +kernel
theorem dL_hands_579 : decode cL_hands 579 = .ok (.iload 18, 2) := by decide +kernel
theorem dL_hands_581 : decode cL_hands 581 = .ok (.invokestatic 172, 3) := by decide +kernel
theorem dL_hands_584 : decode cL_hands 584 = .ok (.istore 21, 2) := by decide +kernel
theorem dL_hands_586 : decode cL_hands 586 = .ok (.aload_n 0, 1) := by decide +kernel
theorem dL_hands_587 : decode cL_hands 587 = .ok (.iload 5, 2) := by decide +kernel
theorem dL_hands_589 : decode cL_hands 589 = .ok (.iload 6, 2) := by decide +kernel
theorem dL_hands_591 : decode cL_hands 591 = .ok (.invokestatic 175, 3) := by decide +kernel
theorem dL_hands_594 : decode cL_hands 594 = .ok (.istore 22, 2) := by decide +kernel
theorem dL_hands_596 : decode cL_hands 596 = .ok (.aload_n 0, 1) := by decide +kernel
theorem dL_hands_597 : decode cL_hands 597 = .ok (.iload 5, 2) := by decide +kernel
theorem dL_hands_599 : decode cL_hands 599 = .ok (.iconst 4, 1) := by decide +kernel
theorem dL_hands_600 : decode cL_hands 600 = .ok (.invokestatic 135, 3) := by decide +kernel
theorem dL_hands_603 : decode cL_hands 603 = .ok (.istore 23, 2) := by decide +kernel
theorem dL_hands_605 : decode cL_hands 605 = .ok (.aload_n 0, 1) := by decide +kernel
theorem dL_hands_606 : decode cL_hands 606 = .ok (.iload 6, 2) := by decide +kernel
theorem dL_hands_608 : decode cL_hands 608 = .ok (.iconst 0, 1) := by decide +kernel
theorem dL_hands_609 : decode cL_hands 609 = .ok (.invokestatic 145, 3) := by decide +kernel
theorem dL_hands_612 : decode cL_hands 612 = .ok (.istore 24, 2) := by decide +kernel
theorem dL_hands_614 : decode cL_hands 614 = .ok (.iload 11, 2) := by decide +kernel
theorem dL_hands_616 : decode cL_hands 616 = .ok (.ifCond .eq 110, 3) := by decide +kernel
theorem dL_hands_619 : decode cL_hands 619 = .ok (.aload_n 0, 1) := by decide +kernel
theorem dL_hands_620 : decode cL_hands 620 = .ok (.iload 6, 2) := by decide +kernel
theorem dL_hands_622 : decode cL_hands 622 = .ok (.iconst 0, 1) := by decide +kernel
theorem dL_hands_623 : decode cL_hands 623 = .ok (.invokestatic 172, 3) := by decide +kernel
theorem dL_hands_626 : decode cL_hands 626 = .ok (.ifCond .ne 100, 3) := by decide +kernel
theorem dL_hands_629 : decode cL_hands 629 = .ok (.iload 21, 2) := by decide +kernel
theorem dL_hands_631 : decode cL_hands 631 = .ok (.iload 18, 2) := by decide +kernel
theorem dL_hands_633 : decode cL_hands 633 = .ok (.if_icmp .lt 93, 3) := by decide +kernel
theorem dL_hands_636 : decode cL_hands 636 = .ok (.bipush 100, 2) := by decide +kernel
theorem dL_hands_638 : decode cL_hands 638 = .ok (.iload 21, 2) := by decide +kernel
theorem dL_hands_640 : decode cL_hands 640 = .ok (.iload 18, 2) := by decide +kernel
theorem dL_hands_642 : decode cL_hands 642 = .ok (.isub, 1) := by decide +kernel
theorem dL_hands_643 : decode cL_hands 643 = .ok (.imul, 1) := by decide +kernel
theorem dL_hands_644 : decode cL_hands 644 = .ok (.iload 18, 2) := by decide +kernel
theorem dL_hands_646 : decode cL_hands 646 = .ok (.aload_n 0, 1) := by decide +kernel
theorem dL_hands_647 : decode cL_hands 647 = .ok (.iload 6, 2) := by decide +kernel
theorem dL_hands_649 : decode cL_hands 649 = .ok (.iconst 3, 1) := by decide +kernel
theorem dL_hands_650 : decode cL_hands 650 = .ok (.invokestatic 145, 3) := by decide +kernel
theorem dL_hands_653 : decode cL_hands 653 = .ok (.imul, 1) := by decide +kernel
theorem dL_hands_654 : decode cL_hands 654 = .ok (.if_icmp .lt 72, 3) := by decide +kernel
theorem dL_hands_657 : decode cL_hands 657 = .ok (.bipush 100, 2) := by decide +kernel
theorem dL_hands_659 : decode cL_hands 659 = .ok (.iload 21, 2) := by decide +kernel
theorem dL_hands_661 : decode cL_hands 661 = .ok (.iload 18, 2) := by decide +kernel
theorem dL_hands_663 : decode cL_hands 663 = .ok (.isub, 1) := by decide +kernel
theorem dL_hands_664 : decode cL_hands 664 = .ok (.iconst 1, 1) := by decide +kernel
theorem dL_hands_665 : decode cL_hands 665 = .ok (.isub, 1) := by decide +kernel
theorem dL_hands_666 : decode cL_hands 666 = .ok (.imul, 1) := by decide +kernel
theorem dL_hands_667 : decode cL_hands 667 = .ok (.iload 18, 2) := by decide +kernel
theorem dL_hands_669 : decode cL_hands 669 = .ok (.aload_n 0, 1) := by decide +kernel
theorem dL_hands_670 : decode cL_hands 670 = .ok (.iload 6, 2) := by decide +kernel
theorem dL_hands_672 : decode cL_hands 672 = .ok (.iconst 3, 1) := by decide +kernel
theorem dL_hands_673 : decode cL_hands 673 = .ok (.invokestatic 145, 3) := by decide +kernel
theorem dL_hands_676 : decode cL_hands 676 = .ok (.imul, 1) := by decide +kernel
theorem dL_hands_677 : decode cL_hands 677 = .ok (.if_icmp .ge 49, 3) := by decide +kernel
theorem dL_hands_680 : decode cL_hands 680 = .ok (.aload_n 0, 1) := by decide +kernel
theorem dL_hands_681 : decode cL_hands 681 = .ok (.iload 6, 2) := by decide +kernel
theorem dL_hands_683 : decode cL_hands 683 = .ok (.iload 22, 2) := by decide +kernel
theorem dL_hands_685 : decode cL_hands 685 = .ok (.invokestatic 172, 3) := by decide +kernel
theorem dL_hands_688 : decode cL_hands 688 = .ok (.iload 23, 2) := by decide +kernel
theorem dL_hands_690 : decode cL_hands 690 = .ok (.if_icmp .gt 36, 3) := by decide +kernel
theorem dL_hands_693 : decode cL_hands 693 = .ok (.iload 22, 2) := by decide +kernel
theorem dL_hands_695 : decode cL_hands 695 = .ok (.iload 24, 2) := by decide +kernel
theorem dL_hands_697 : decode cL_hands 697 = .ok (.if_icmp .eq 18, 3) := by decide +kernel
theorem dL_hands_700 : decode cL_hands 700 = .ok (.aload_n 0, 1) := by decide +kernel
theorem dL_hands_701 : decode cL_hands 701 = .ok (.iload 6, 2) := by decide +kernel
theorem dL_hands_703 : decode cL_hands 703 = .ok (.iload 22, 2) := by decide +kernel
theorem dL_hands_705 : decode cL_hands 705 = .ok (.iconst 1, 1) := by decide +kernel
theorem dL_hands_706 : decode cL_hands 706 = .ok (.iadd, 1) := by decide +kernel
theorem dL_hands_707 : decode cL_hands 707 = .ok (.invokestatic 172, 3) := by decide +kernel
theorem dL_hands_710 : decode cL_hands 710 = .ok (.iload 23, 2) := by decide +kernel
theorem dL_hands_712 : decode cL_hands 712 = .ok (.if_icmp .le 14, 3) := by decide +kernel
theorem dL_hands_715 : decode cL_hands 715 = .ok (.iload 22, 2) := by decide +kernel
theorem dL_hands_717 : decode cL_hands 717 = .ok (.iload 24, 2) := by decide +kernel
theorem dL_hands_719 : decode cL_hands 719 = .ok (.if_icmp .gt 7, 3) := by decide +kernel
theorem dL_hands_722 : decode cL_hands 722 = .ok (.iconst 1, 1) := by decide +kernel
theorem dL_hands_723 : decode cL_hands 723 = .ok (.goto 4, 3) := by decide +kernel
theorem dL_hands_726 : decode cL_hands 726 = .ok (.iconst 0, 1) := by decide +kernel
theorem dL_hands_727 : decode cL_hands 727 = .ok (.istore 11, 2) := by decide +kernel
theorem dL_hands_729 : decode cL_hands 729 = .ok (.aload_n 0, 1) := by decide +kernel
theorem dL_hands_730 : decode cL_hands 730 = .ok (.iload 5, 2) := by decide +kernel
theorem dL_hands_732 : decode cL_hands 732 = .ok (.iload 6, 2) := by decide +kernel
theorem dL_hands_734 : decode cL_hands 734 = .ok (.invokestatic 178, 3) := by decide +kernel
theorem dL_hands_737 : decode cL_hands 737 = .ok (.istore 25, 2) := by decide +kernel
theorem dL_hands_739 : decode cL_hands 739 = .ok (.aload_n 0, 1) := by decide +kernel
theorem dL_hands_740 : decode cL_hands 740 = .ok (.iload 6, 2) := by decide +kernel
theorem dL_hands_742 : decode cL_hands 742 = .ok (.iconst 1, 1) := by decide +kernel
theorem dL_hands_743 : decode cL_hands 743 = .ok (.invokestatic 145, 3) := by decide +kernel
theorem dL_hands_746 : decode cL_hands 746 = .ok (.iload_n 2, 1) := by decide +kernel
theorem dL_hands_747 : decode cL_hands 747 = .ok (.if_icmp .le 13, 3) := by decide +kernel
theorem dL_hands_750 : decode cL_hands 750 = .ok (.aload_n 0, 1) := by decide +kernel
theorem dL_hands_751 : decode cL_hands 751 = .ok (.iload 6, 2) := by decide +kernel
theorem dL_hands_753 : decode cL_hands 753 = .ok (.iconst 1, 1) := by decide +kernel
theorem dL_hands_754 : decode cL_hands 754 = .ok (.invokestatic 145, 3) := by decide +kernel
theorem dL_hands_757 : decode cL_hands 757 = .ok (.goto 4, 3) := by decide +kernel
theorem dL_hands_760 : decode cL_hands 760 = .ok (.iload_n 2, 1) := by decide +kernel
theorem dL_hands_761 : decode cL_hands 761 = .ok (.istore 26, 2) := by decide +kernel
theorem dL_hands_763 : decode cL_hands 763 = .ok (.iload 11, 2) := by decide +kernel
theorem dL_hands_765 : decode cL_hands 765 = .ok (.ifCond .eq 35, 3) := by decide +kernel
theorem dL_hands_768 : decode cL_hands 768 = .ok (.iload 25, 2) := by decide +kernel
theorem dL_hands_770 : decode cL_hands 770 = .ok (.ifCond .lt 30, 3) := by decide +kernel
theorem dL_hands_773 : decode cL_hands 773 = .ok (.iload 25, 2) := by decide +kernel
theorem dL_hands_775 : decode cL_hands 775 = .ok (.iload 19, 2) := by decide +kernel
theorem dL_hands_777 : decode cL_hands 777 = .ok (.iload 26, 2) := by decide +kernel
theorem dL_hands_779 : decode cL_hands 779 = .ok (.if_icmp .ge 7, 3) := by decide +kernel
theorem dL_hands_782 : decode cL_hands 782 = .ok (.iconst 0, 1) := by decide +kernel
theorem dL_hands_783 : decode cL_hands 783 = .ok (.goto 10, 3) := by decide +kernel
theorem dL_hands_786 : decode cL_hands 786 = .ok (.iload 19, 2) := by decide +kernel
theorem dL_hands_788 : decode cL_hands 788 = .ok (.iload 26, 2) := by decide +kernel
theorem dL_hands_790 : decode cL_hands 790 = .ok (.isub, 1) := by decide +kernel
theorem dL_hands_791 : decode cL_hands 791 = .ok (.iconst 1, 1) := by decide +kernel
theorem dL_hands_792 : decode cL_hands 792 = .ok (.iadd, 1) := by decide +kernel
theorem dL_hands_793 : decode cL_hands 793 = .ok (.if_icmp .gt 7, 3) := by decide +kernel
theorem dL_hands_796 : decode cL_hands 796 = .ok (.iconst 1, 1) := by decide +kernel
theorem dL_hands_797 : decode cL_hands 797 = .ok (.goto 4, 3) := by decide +kernel
theorem dL_hands_800 : decode cL_hands 800 = .ok (.iconst 0, 1) := by decide +kernel
theorem dL_hands_801 : decode cL_hands 801 = .ok (.istore 11, 2) := by decide +kernel
theorem dL_hands_803 : decode cL_hands 803 = .ok (.aload_n 0, 1) := by decide +kernel
theorem dL_hands_804 : decode cL_hands 804 = .ok (.iload 6, 2) := by decide +kernel
theorem dL_hands_806 : decode cL_hands 806 = .ok (.invokestatic 184, 3) := by decide +kernel
theorem dL_hands_809 : decode cL_hands 809 = .ok (.istore 27, 2) := by decide +kernel
theorem dL_hands_811 : decode cL_hands 811 = .ok (.aload_n 0, 1) := by decide +kernel
theorem dL_hands_812 : decode cL_hands 812 = .ok (.iload 6, 2) := by decide +kernel
theorem dL_hands_814 : decode cL_hands 814 = .ok (.invokestatic 187, 3) := by decide +kernel
theorem dL_hands_817 : decode cL_hands 817 = .ok (.istore 28, 2) := by decide +kernel
theorem dL_hands_819 : decode cL_hands 819 = .ok (.iload 11, 2) := by decide +kernel
theorem dL_hands_821 : decode cL_hands 821 = .ok (.ifCond .eq 96, 3) := by decide +kernel
theorem dL_hands_824 : decode cL_hands 824 = .ok (.iload 27, 2) := by decide +kernel
theorem dL_hands_826 : decode cL_hands 826 = .ok (.ifCond .ne 7, 3) := by decide +kernel
theorem dL_hands_829 : decode cL_hands 829 = .ok (.iconst 1, 1) := by decide +kernel
theorem dL_hands_830 : decode cL_hands 830 = .ok (.goto 4, 3) := by decide +kernel
theorem dL_hands_833 : decode cL_hands 833 = .ok (.iconst 0, 1) := by decide +kernel
theorem dL_hands_834 : decode cL_hands 834 = .ok (.iload 6, 2) := by decide +kernel
theorem dL_hands_836 : decode cL_hands 836 = .ok (.iload 7, 2) := by decide +kernel
theorem dL_hands_838 : decode cL_hands 838 = .ok (.if_icmp .ge 7, 3) := by decide +kernel
theorem dL_hands_841 : decode cL_hands 841 = .ok (.iconst 1, 1) := by decide +kernel
theorem dL_hands_842 : decode cL_hands 842 = .ok (.goto 4, 3) := by decide +kernel
theorem dL_hands_845 : decode cL_hands 845 = .ok (.iconst 0, 1) := by decide +kernel
theorem dL_hands_846 : decode cL_hands 846 = .ok (.if_icmp .ne 71, 3) := by decide +kernel
theorem dL_hands_849 : decode cL_hands 849 = .ok (.iload 28, 2) := by decide +kernel
theorem dL_hands_851 : decode cL_hands 851 = .ok (.ifCond .ne 7, 3) := by decide +kernel
theorem dL_hands_854 : decode cL_hands 854 = .ok (.iconst 1, 1) := by decide +kernel
theorem dL_hands_855 : decode cL_hands 855 = .ok (.goto 4, 3) := by decide +kernel
theorem dL_hands_858 : decode cL_hands 858 = .ok (.iconst 0, 1) := by decide +kernel
theorem dL_hands_859 : decode cL_hands 859 = .ok (.iload 27, 2) := by decide +kernel
theorem dL_hands_861 : decode cL_hands 861 = .ok (.bipush (-9), 2) := by decide +kernel
theorem dL_hands_863 : decode cL_hands 863 = .ok (.if_icmp .eq 7, 3) := by decide +kernel
theorem dL_hands_866 : decode cL_hands 866 = .ok (.iconst 1, 1) := by decide +kernel
theorem dL_hands_867 : decode cL_hands 867 = .ok (.goto 4, 3) := by decide +kernel
theorem dL_hands_870 : decode cL_hands 870 = .ok (.iconst 0, 1) := by decide +kernel
theorem dL_hands_871 : decode cL_hands 871 = .ok (.if_icmp .ne 46, 3) := by decide +kernel
theorem dL_hands_874 : decode cL_hands 874 = .ok (.iload 27, 2) := by decide +kernel
theorem dL_hands_876 : decode cL_hands 876 = .ok (.iconst 1, 1) := by decide +kernel
theorem dL_hands_877 : decode cL_hands 877 = .ok (.if_icmp .lt 36, 3) := by decide +kernel
theorem dL_hands_880 : decode cL_hands 880 = .ok (.iload 27, 2) := by decide +kernel
theorem dL_hands_882 : decode cL_hands 882 = .ok (.bipush 99, 2) := by decide +kernel
theorem dL_hands_884 : decode cL_hands 884 = .ok (.if_icmp .gt 29, 3) := by decide +kernel
theorem dL_hands_887 : decode cL_hands 887 = .ok (.aload_n 0, 1) := by decide +kernel
theorem dL_hands_888 : decode cL_hands 888 = .ok (.iload 27, 2) := by decide +kernel
theorem dL_hands_890 : decode cL_hands 890 = .ok (.iconst 1, 1) := by decide +kernel
theorem dL_hands_891 : decode cL_hands 891 = .ok (.invokestatic 181, 3) := by decide +kernel
theorem dL_hands_894 : decode cL_hands 894 = .ok (.iload 6, 2) := by decide +kernel
theorem dL_hands_896 : decode cL_hands 896 = .ok (.if_icmp .le 21, 3) := by decide +kernel
theorem dL_hands_899 : decode cL_hands 899 = .ok (.aload_n 0, 1) := by decide +kernel
theorem dL_hands_900 : decode cL_hands 900 = .ok (.iload 27, 2) := by decide +kernel
theorem dL_hands_902 : decode cL_hands 902 = .ok (.iconst 1, 1) := by decide +kernel
theorem dL_hands_903 : decode cL_hands 903 = .ok (.isub, 1) := by decide +kernel
theorem dL_hands_904 : decode cL_hands 904 = .ok (.iconst 1, 1) := by decide +kernel
theorem dL_hands_905 : decode cL_hands 905 = .ok (.invokestatic 181, 3) := by decide +kernel
theorem dL_hands_908 : decode cL_hands 908 = .ok (.iload 6, 2) := by decide +kernel
theorem dL_hands_910 : decode cL_hands 910 = .ok (.if_icmp .gt 7, 3) := by decide +kernel
theorem dL_hands_913 : decode cL_hands 913 = .ok (.iconst 1, 1) := by decide +kernel
theorem dL_hands_914 : decode cL_hands 914 = .ok (.goto 4, 3) := by decide +kernel
theorem dL_hands_917 : decode cL_hands 917 = .ok (.iconst 0, 1) := by decide +kernel
theorem dL_hands_918 : decode cL_hands 918 = .ok (.istore 11, 2) := by decide +kernel
theorem dL_hands_920 : decode cL_hands 920 = .ok (.iload 28, 2) := by decide +kernel
theorem dL_hands_922 : decode cL_hands 922 = .ok (.ifCond .le 85, 3) := by decide +kernel
theorem dL_hands_925 : decode cL_hands 925 = .ok (.iload 11, 2) := by decide +kernel
theorem dL_hands_927 : decode cL_hands 927 = .ok (.ifCond .eq 80, 3) := by decide +kernel
theorem dL_hands_930 : decode cL_hands 930 = .ok (.aload_n 0, 1) := by decide +kernel
theorem dL_hands_931 : decode cL_hands 931 = .ok (.iload 6, 2) := by decide +kernel
theorem dL_hands_933 : decode cL_hands 933 = .ok (.iload 28, 2) := by decide +kernel
theorem dL_hands_935 : decode cL_hands 935 = .ok (.invokestatic 160, 3) := by decide +kernel
theorem dL_hands_938 : decode cL_hands 938 = .ok (.ifCond .lt 66, 3) := by decide +kernel
theorem dL_hands_941 : decode cL_hands 941 = .ok (.aload_n 0, 1) := by decide +kernel
theorem dL_hands_942 : decode cL_hands 942 = .ok (.iload 6, 2) := by decide +kernel
theorem dL_hands_944 : decode cL_hands 944 = .ok (.invokestatic 184, 3) := by decide +kernel
theorem dL_hands_947 : decode cL_hands 947 = .ok (.bipush (-9), 2) := by decide +kernel
theorem dL_hands_949 : decode cL_hands 949 = .ok (.if_icmp .eq 55, 3) := by decide +kernel
theorem dL_hands_952 : decode cL_hands 952 = .ok (.aload_n 0, 1) := by decide +kernel
theorem dL_hands_953 : decode cL_hands 953 = .ok (.iconst 0, 1) := by decide +kernel
theorem dL_hands_954 : decode cL_hands 954 = .ok (.invokestatic 142, 3) := by decide +kernel
theorem dL_hands_957 : decode cL_hands 957 = .ok (.iload_n 2, 1) := by decide +kernel
theorem dL_hands_958 : decode cL_hands 958 = .ok (.if_icmp .ne 46, 3) := by decide +kernel
theorem dL_hands_961 : decode cL_hands 961 = .ok (.iload 28, 2) := by decide +kernel
theorem dL_hands_963 : decode cL_hands 963 = .ok (.iconst 1, 1) := by decide +kernel
theorem dL_hands_964 : decode cL_hands 964 = .ok (.if_icmp .eq 27, 3) := by decide +kernel
theorem dL_hands_967 : decode cL_hands 967 = .ok (.aload_n 0, 1) := by decide +kernel
theorem dL_hands_968 : decode cL_hands 968 = .ok (.iload 6, 2) := by decide +kernel
theorem dL_hands_970 : decode cL_hands 970 = .ok (.iload 28, 2) := by decide +kernel
theorem dL_hands_972 : decode cL_hands 972 = .ok (.iconst 1, 1) := by decide +kernel
theorem dL_hands_973 : decode cL_hands 973 = .ok (.isub, 1) := by decide +kernel
theorem dL_hands_974 : decode cL_hands 974 = .ok (.invokestatic 160, 3) := by decide +kernel
theorem dL_hands_977 : decode cL_hands 977 = .ok (.ifCond .lt 27, 3) := by decide +kernel
theorem dL_hands_980 : decode cL_hands 980 = .ok (.aload_n 0, 1) := by decide +kernel
theorem dL_hands_981 : decode cL_hands 981 = .ok (.iload 6, 2) := by decide +kernel
theorem dL_hands_983 : decode cL_hands 983 = .ok (.invokestatic 184, 3) := by decide +kernel
theorem dL_hands_986 : decode cL_hands 986 = .ok (.bipush (-9), 2) := by decide +kernel
theorem dL_hands_988 : decode cL_hands 988 = .ok (.if_icmp .ne 16, 3) := by decide +kernel
theorem dL_hands_991 : decode cL_hands 991 = .ok (.aload_n 0, 1) := by decide +kernel
theorem dL_hands_992 : decode cL_hands 992 = .ok (.iconst 0, 1) := by decide +kernel
theorem dL_hands_993 : decode cL_hands 993 = .ok (.invokestatic 142, 3) := by decide +kernel
theorem dL_hands_996 : decode cL_hands 996 = .ok (.iload_n 2, 1) := by decide +kernel
theorem dL_hands_997 : decode cL_hands 997 = .ok (.if_icmp .ne 7, 3) := by decide +kernel
theorem dL_hands_1000 : decode cL_hands 1000 = .ok (.iconst 1, 1) := by decide +kernel
theorem dL_hands_1001 : decode cL_hands 1001 = .ok (.goto 4, 3) := by decide +kernel
theorem dL_hands_1004 : decode cL_hands 1004 = .ok (.iconst 0, 1) := by decide +kernel
theorem dL_hands_1005 : decode cL_hands 1005 = .ok (.istore 11, 2) := by decide +kernel
theorem dL_hands_1007 : decode cL_hands 1007 = .ok (.aload_n 0, 1) := by decide +kernel
theorem dL_hands_1008 : decode cL_hands 1008 = .ok (.invokevirtual 207, 3) := by decide +kernel
theorem dL_hands_1011 : decode cL_hands 1011 = .ok (.istore 29, 2) := by decide +kernel
theorem dL_hands_1013 : decode cL_hands 1013 = .ok (.iload 11, 2) := by decide +kernel
theorem dL_hands_1015 : decode cL_hands 1015 = .ok (.ifCond .eq 31, 3) := by decide +kernel
theorem dL_hands_1018 : decode cL_hands 1018 = .ok (.iload 29, 2) := by decide +kernel
theorem dL_hands_1020 : decode cL_hands 1020 = .ok (.bipush (-9), 2) := by decide +kernel
theorem dL_hands_1022 : decode cL_hands 1022 = .ok (.if_icmp .eq 20, 3) := by decide +kernel
theorem dL_hands_1025 : decode cL_hands 1025 = .ok (.aload_n 0, 1) := by decide +kernel
theorem dL_hands_1026 : decode cL_hands 1026 = .ok (.iload 29, 2) := by decide +kernel
theorem dL_hands_1028 : decode cL_hands 1028 = .ok (.iconst 5, 1) := by decide +kernel
theorem dL_hands_1029 : decode cL_hands 1029 = .ok (.invokestatic 135, 3) := by decide +kernel
theorem dL_hands_1032 : decode cL_hands 1032 = .ok (.ifCond .ne 14, 3) := by decide +kernel
theorem dL_hands_1035 : decode cL_hands 1035 = .ok (.iload 7, 2) := by decide +kernel
theorem dL_hands_1037 : decode cL_hands 1037 = .ok (.iload 4, 2) := by decide +kernel
theorem dL_hands_1039 : decode cL_hands 1039 = .ok (.if_icmp .ge 7, 3) := by decide +kernel
theorem dL_hands_1042 : decode cL_hands 1042 = .ok (.iconst 1, 1) := by decide +kernel
theorem dL_hands_1043 : decode cL_hands 1043 = .ok (.goto 4, 3) := by decide +kernel
theorem dL_hands_1046 : decode cL_hands 1046 = .ok (.iconst 0, 1) := by decide +kernel
theorem dL_hands_1047 : decode cL_hands 1047 = .ok (.istore 11, 2) := by decide +kernel
theorem dL_hands_1049 : decode cL_hands 1049 = .ok (.iload 29, 2) := by decide +kernel
theorem dL_hands_1051 : decode cL_hands 1051 = .ok (.bipush (-9), 2) := by decide +kernel
theorem dL_hands_1053 : decode cL_hands 1053 = .ok (.if_icmp .eq 99, 3) := by decide +kernel
theorem dL_hands_1056 : decode cL_hands 1056 = .ok (.iload 9, 2) := by decide +kernel
theorem dL_hands_1058 : decode cL_hands 1058 = .ok (.ifCond .ne 94, 3) := by decide +kernel
theorem dL_hands_1061 : decode cL_hands 1061 = .ok (.iload 11, 2) := by decide +kernel
theorem dL_hands_1063 : decode cL_hands 1063 = .ok (.ifCond .eq 89, 3) := by decide +kernel
theorem dL_hands_1066 : decode cL_hands 1066 = .ok (.aload_n 0, 1) := by decide +kernel
theorem dL_hands_1067 : decode cL_hands 1067 = .ok (.iload 29, 2) := by decide +kernel
theorem dL_hands_1069 : decode cL_hands 1069 = .ok (.iconst 0, 1) := by decide +kernel
theorem dL_hands_1070 : decode cL_hands 1070 = .ok (.iload_n 2, 1) := by decide +kernel
theorem dL_hands_1071 : decode cL_hands 1071 = .ok (.invokestatic 210, 3) := by decide +kernel
theorem dL_hands_1074 : decode cL_hands 1074 = .ok (.istore 30, 2) := by decide +kernel
theorem dL_hands_1076 : decode cL_hands 1076 = .ok (.aload_n 0, 1) := by decide +kernel
theorem dL_hands_1077 : decode cL_hands 1077 = .ok (.iload 5, 2) := by decide +kernel
theorem dL_hands_1079 : decode cL_hands 1079 = .ok (.iconst 0, 1) := by decide +kernel
theorem dL_hands_1080 : decode cL_hands 1080 = .ok (.iload_n 2, 1) := by decide +kernel
theorem dL_hands_1081 : decode cL_hands 1081 = .ok (.invokestatic 210, 3) := by decide +kernel
theorem dL_hands_1084 : decode cL_hands 1084 = .ok (.istore 31, 2) := by decide +kernel
theorem dL_hands_1086 : decode cL_hands 1086 = .ok (.iload 30, 2) := by decide +kernel
theorem dL_hands_1088 : decode cL_hands 1088 = .ok (.iload 31, 2) := by decide +kernel
theorem dL_hands_1090 : decode cL_hands 1090 = .ok (.if_icmp .gt 55, 3) := by decide +kernel
theorem dL_hands_1093 : decode cL_hands 1093 = .ok (.iload 30, 2) := by decide +kernel
theorem dL_hands_1095 : decode cL_hands 1095 = .ok (.iload 31, 2) := by decide +kernel
theorem dL_hands_1097 : decode cL_hands 1097 = .ok (.if_icmp .ne 52, 3) := by decide +kernel
