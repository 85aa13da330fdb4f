/-! decode rows, part 4 -/
theorem dX11_comb_310 : decode cX11_comb 310 = .ok (.if_icmp .ne 17, 3) := by decide +kernel
theorem dX11_comb_313 : decode cX11_comb 313 = .ok (.iload_n 1, 1) := by decide +kernel
theorem dX11_comb_314 : decode cX11_comb 314 = .ok (.iconst 2, 1) := by decide +kernel
theorem dX11_comb_315 : decode cX11_comb 315 = .ok (.irem, 1) := by decide +kernel
theorem dX11_comb_316 : decode cX11_comb 316 = .ok (.iconst 1, 1) := by decide +kernel
theorem dX11_comb_317 : decode cX11_comb 317 = .ok (.if_icmp .ne 10, 3) := by decide +kernel
theorem dX11_comb_320 : decode cX11_comb 320 = .ok (.fconst 0, 1) := by decide +kernel
theorem dX11_comb_321 : decode cX11_comb 321 = .ok (.fload 15, 2) := by decide +kernel
theorem dX11_comb_323 : decode cX11_comb 323 = .ok (.fsub, 1) := by decide +kernel
theorem dX11_comb_324 : decode cX11_comb 324 = .ok (.goto 5, 3) := by decide +kernel
theorem dX11_comb_327 : decode cX11_comb 327 = .ok (.fload 15, 2) := by decide +kernel
theorem dX11_comb_329 : decode cX11_comb 329 = .ok (.fastore, 1) := by decide +kernel
theorem dX11_comb_330 : decode cX11_comb 330 = .ok (.iload_n 3, 1) := by decide +kernel
theorem dX11_comb_331 : decode cX11_comb 331 = .ok (.ifCond .eq 7, 3) := by decide +kernel
theorem dX11_comb_334 : decode cX11_comb 334 = .ok (.iload_n 1, 1) := by decide +kernel
theorem dX11_comb_335 : decode cX11_comb 335 = .ok (.ifCond .ne 7, 3) := by decide +kernel
theorem dX11_comb_338 : decode cX11_comb 338 = .ok (.iconst 1, 1) := by decide +kernel
theorem dX11_comb_339 : decode cX11_comb 339 = .ok (.goto 4, 3) := by decide +kernel
theorem dX11_comb_342 : decode cX11_comb 342 = .ok (.iconst 0, 1) := by decide +kernel
theorem dX11_comb_343 : decode cX11_comb 343 = .ok (.istore 16, 2) := by decide +kernel
theorem dX11_comb_345 : decode cX11_comb 345 = .ok (.aload_n 0, 1) := by decide +kernel
theorem dX11_comb_346 : decode cX11_comb 346 = .ok (.getfield 91, 3) := by decide +kernel
theorem dX11_comb_349 : decode cX11_comb 349 = .ok (.iload 4, 2) := by decide +kernel
theorem dX11_comb_351 : decode cX11_comb 351 = .ok (.iload 16, 2) := by decide +kernel
theorem dX11_comb_353 : decode cX11_comb 353 = .ok (.ifCond .eq 13, 3) := by decide +kernel
theorem dX11_comb_356 : decode cX11_comb 356 = .ok (.aload_n 0, 1) := by decide +kernel
theorem dX11_comb_357 : decode cX11_comb 357 = .ok (.getfield 85, 3) := by decide +kernel
theorem dX11_comb_360 : decode cX11_comb 360 = .ok (.iload 4, 2) := by decide +kernel
theorem dX11_comb_362 : decode cX11_comb 362 = .ok (.faload, 1) := by decide +kernel
theorem dX11_comb_363 : decode cX11_comb 363 = .ok (.goto 24, 3) := by decide +kernel
theorem dX11_comb_366 : decode cX11_comb 366 = .ok (.aload_n 0, 1) := by decide +kernel
theorem dX11_comb_367 : decode cX11_comb 367 = .ok (.getfield 85, 3) := by decide +kernel
theorem dX11_comb_370 : decode cX11_comb 370 = .ok (.iload 4, 2) := by decide +kernel
theorem dX11_comb_372 : decode cX11_comb 372 = .ok (.faload, 1) := by decide +kernel
theorem dX11_comb_373 : decode cX11_comb 373 = .ok (.aload_n 0, 1) := by decide +kernel
theorem dX11_comb_374 : decode cX11_comb 374 = .ok (.getfield 85, 3) := by decide +kernel
theorem dX11_comb_377 : decode cX11_comb 377 = .ok (.iload 4, 2) := by decide +kernel
theorem dX11_comb_379 : decode cX11_comb 379 = .ok (.bipush 10, 2) := by decide +kernel
theorem dX11_comb_381 : decode cX11_comb 381 = .ok (.isub, 1) := by decide +kernel
theorem dX11_comb_382 : decode cX11_comb 382 = .ok (.faload, 1) := by decide +kernel
theorem dX11_comb_383 : decode cX11_comb 383 = .ok (.fadd, 1) := by decide +kernel
theorem dX11_comb_384 : decode cX11_comb 384 = .ok (.ldc 188, 2) := by decide +kernel
theorem dX11_comb_386 : decode cX11_comb 386 = .ok (.fmul, 1) := by decide +kernel
theorem dX11_comb_387 : decode cX11_comb 387 = .ok (.fastore, 1) := by decide +kernel
theorem dX11_comb_388 : decode cX11_comb 388 = .ok (.aload_n 0, 1) := by decide +kernel
theorem dX11_comb_389 : decode cX11_comb 389 = .ok (.getfield 94, 3) := by decide +kernel
theorem dX11_comb_392 : decode cX11_comb 392 = .ok (.iload 4, 2) := by decide +kernel
theorem dX11_comb_394 : decode cX11_comb 394 = .ok (.iload 16, 2) := by decide +kernel
theorem dX11_comb_396 : decode cX11_comb 396 = .ok (.ifCond .eq 13, 3) := by decide +kernel
theorem dX11_comb_399 : decode cX11_comb 399 = .ok (.aload_n 0, 1) := by decide +kernel
theorem dX11_comb_400 : decode cX11_comb 400 = .ok (.getfield 88, 3) := by decide +kernel
theorem dX11_comb_403 : decode cX11_comb 403 = .ok (.iload 4, 2) := by decide +kernel
theorem dX11_comb_405 : decode cX11_comb 405 = .ok (.faload, 1) := by decide +kernel
theorem dX11_comb_406 : decode cX11_comb 406 = .ok (.goto 24, 3) := by decide +kernel
theorem dX11_comb_409 : decode cX11_comb 409 = .ok (.aload_n 0, 1) := by decide +kernel
theorem dX11_comb_410 : decode cX11_comb 410 = .ok (.getfield 88, 3) := by decide +kernel
theorem dX11_comb_413 : decode cX11_comb 413 = .ok (.iload 4, 2) := by decide +kernel
theorem dX11_comb_415 : decode cX11_comb 415 = .ok (.faload, 1) := by decide +kernel
theorem dX11_comb_416 : decode cX11_comb 416 = .ok (.aload_n 0, 1) := by decide +kernel
theorem dX11_comb_417 : decode cX11_comb 417 = .ok (.getfield 88, 3) := by decide +kernel
theorem dX11_comb_420 : decode cX11_comb 420 = .ok (.iload 4, 2) := by decide +kernel
theorem dX11_comb_422 : decode cX11_comb 422 = .ok (.bipush 10, 2) := by decide +kernel
theorem dX11_comb_424 : decode cX11_comb 424 = .ok (.isub, 1) := by decide +kernel
theorem dX11_comb_425 : decode cX11_comb 425 = .ok (.faload, 1) := by decide +kernel
theorem dX11_comb_426 : decode cX11_comb 426 = .ok (.fadd, 1) := by decide +kernel
theorem dX11_comb_427 : decode cX11_comb 427 = .ok (.ldc 188, 2) := by decide +kernel
theorem dX11_comb_429 : decode cX11_comb 429 = .ok (.fmul, 1) := by decide +kernel
theorem dX11_comb_430 : decode cX11_comb 430 = .ok (.fastore, 1) := by decide +kernel
theorem dX11_comb_431 : decode cX11_comb 431 = .ok (.return_, 1) := by decide +kernel
theorem dX11_findMotion_0 : decode cX11_findMotion 0 = .ok (.iconst 0, 1) := by decide +kernel
theorem dX11_findMotion_1 : decode cX11_findMotion 1 = .ok (.istore_n 1, 1) := by decide +kernel
theorem dX11_findMotion_2 : decode cX11_findMotion 2 = .ok (.iload_n 1, 1) := by decide +kernel
theorem dX11_findMotion_3 : decode cX11_findMotion 3 = .ok (.bipush 80, 2) := by decide +kernel
theorem dX11_findMotion_5 : decode cX11_findMotion 5 = .ok (.if_icmp .ge 53, 3) := by decide +kernel
theorem dX11_findMotion_8 : decode cX11_findMotion 8 = .ok (.aload_n 0, 1) := by decide +kernel
theorem dX11_findMotion_9 : decode cX11_findMotion 9 = .ok (.getfield 100, 3) := by decide +kernel
theorem dX11_findMotion_12 : decode cX11_findMotion 12 = .ok (.iload_n 1, 1) := by decide +kernel
theorem dX11_findMotion_13 : decode cX11_findMotion 13 = .ok (.aload_n 0, 1) := by decide +kernel
theorem dX11_findMotion_14 : decode cX11_findMotion 14 = .ok (.getfield 189, 3) := by decide +kernel
theorem dX11_findMotion_17 : decode cX11_findMotion 17 = .ok (.iconst 1, 1) := by decide +kernel
theorem dX11_findMotion_18 : decode cX11_findMotion 18 = .ok (.if_icmp .le 32, 3) := by decide +kernel
theorem dX11_findMotion_21 : decode cX11_findMotion 21 = .ok (.aload_n 0, 1) := by decide +kernel
theorem dX11_findMotion_22 : decode cX11_findMotion 22 = .ok (.getfield 76, 3) := by decide +kernel
theorem dX11_findMotion_25 : decode cX11_findMotion 25 = .ok (.iload_n 1, 1) := by decide +kernel
theorem dX11_findMotion_26 : decode cX11_findMotion 26 = .ok (.iaload, 1) := by decide +kernel
theorem dX11_findMotion_27 : decode cX11_findMotion 27 = .ok (.aload_n 0, 1) := by decide +kernel
theorem dX11_findMotion_28 : decode cX11_findMotion 28 = .ok (.getfield 79, 3) := by decide +kernel
theorem dX11_findMotion_31 : decode cX11_findMotion 31 = .ok (.iload_n 1, 1) := by decide +kernel
theorem dX11_findMotion_32 : decode cX11_findMotion 32 = .ok (.iaload, 1) := by decide +kernel
theorem dX11_findMotion_33 : decode cX11_findMotion 33 = .ok (.isub, 1) := by decide +kernel
theorem dX11_findMotion_34 : decode cX11_findMotion 34 = .ok (.invokestatic 160, 3) := by decide +kernel
theorem dX11_findMotion_37 : decode cX11_findMotion 37 = .ok (.aload_n 0, 1) := by decide +kernel
theorem dX11_findMotion_38 : decode cX11_findMotion 38 = .ok (.getfield 35, 3) := by decide +kernel
theorem dX11_findMotion_41 : decode cX11_findMotion 41 = .ok (.iconst 1, 1) := by decide +kernel
theorem dX11_findMotion_42 : decode cX11_findMotion 42 = .ok (.iaload, 1) := by decide +kernel
theorem dX11_findMotion_43 : decode cX11_findMotion 43 = .ok (.if_icmp .le 7, 3) := by decide +kernel
theorem dX11_findMotion_46 : decode cX11_findMotion 46 = .ok (.iconst 1, 1) := by decide +kernel
theorem dX11_findMotion_47 : decode cX11_findMotion 47 = .ok (.goto 4, 3) := by decide +kernel
theorem dX11_findMotion_50 : decode cX11_findMotion 50 = .ok (.iconst 0, 1) := by decide +kernel
theorem dX11_findMotion_51 : decode cX11_findMotion 51 = .ok (.bastore, 1) := by decide +kernel
theorem dX11_findMotion_52 : decode cX11_findMotion 52 = .ok (.iinc 1 1, 3) := by decide +kernel
theorem dX11_findMotion_55 : decode cX11_findMotion 55 = .ok (.goto (-53), 3) := by decide +kernel
theorem dX11_findMotion_58 : decode cX11_findMotion 58 = .ok (.return_, 1) := by decide +kernel
theorem dX11_motionAt_0 : decode cX11_motionAt 0 = .ok (.aload_n 0, 1) := by decide +kernel
theorem dX11_motionAt_1 : decode cX11_motionAt 1 = .ok (.getfield 100, 3) := by decide +kernel
theorem dX11_motionAt_4 : decode cX11_motionAt 4 = .ok (.iload_n 1, 1) := by decide +kernel
theorem dX11_motionAt_5 : decode cX11_motionAt 5 = .ok (.baload, 1) := by decide +kernel
theorem dX11_motionAt_6 : decode cX11_motionAt 6 = .ok (.ifCond .ne 5, 3) := by decide +kernel
theorem dX11_motionAt_9 : decode cX11_motionAt 9 = .ok (.iconst 0, 1) := by decide +kernel
theorem dX11_motionAt_10 : decode cX11_motionAt 10 = .ok (.ireturn, 1) := by decide +kernel
theorem dX11_motionAt_11 : decode cX11_motionAt 11 = .ok (.iload_n 1, 1) := by decide +kernel
theorem dX11_motionAt_12 : decode cX11_motionAt 12 = .ok (.bipush 10, 2) := by decide +kernel
theorem dX11_motionAt_14 : decode cX11_motionAt 14 = .ok (.irem, 1) := by decide +kernel
theorem dX11_motionAt_15 : decode cX11_motionAt 15 = .ok (.ifCond .le 18, 3) := by decide +kernel
theorem dX11_motionAt_18 : decode cX11_motionAt 18 = .ok (.aload_n 0, 1) := by decide +kernel
theorem dX11_motionAt_19 : decode cX11_motionAt 19 = .ok (.getfield 100, 3) := by decide +kernel
theorem dX11_motionAt_22 : decode cX11_motionAt 22 = .ok (.iload_n 1, 1) := by decide +kernel
theorem dX11_motionAt_23 : decode cX11_motionAt 23 = .ok (.iconst 1, 1) := by decide +kernel
theorem dX11_motionAt_24 : decode cX11_motionAt 24 = .ok (.isub, 1) := by decide +kernel
theorem dX11_motionAt_25 : decode cX11_motionAt 25 = .ok (.baload, 1) := by decide +kernel
theorem dX11_motionAt_26 : decode cX11_motionAt 26 = .ok (.ifCond .eq 7, 3) := by decide +kernel
theorem dX11_motionAt_29 : decode cX11_motionAt 29 = .ok (.iconst 1, 1) := by decide +kernel
theorem dX11_motionAt_30 : decode cX11_motionAt 30 = .ok (.goto 4, 3) := by decide +kernel
theorem dX11_motionAt_33 : decode cX11_motionAt 33 = .ok (.iconst 0, 1) := by decide +kernel
theorem dX11_motionAt_34 : decode cX11_motionAt 34 = .ok (.istore_n 2, 1) := by decide +kernel
theorem dX11_motionAt_35 : decode cX11_motionAt 35 = .ok (.iload_n 1, 1) := by decide +kernel
theorem dX11_motionAt_36 : decode cX11_motionAt 36 = .ok (.bipush 10, 2) := by decide +kernel
theorem dX11_motionAt_38 : decode cX11_motionAt 38 = .ok (.irem, 1) := by decide +kernel
theorem dX11_motionAt_39 : decode cX11_motionAt 39 = .ok (.bipush 9, 2) := by decide +kernel
theorem dX11_motionAt_41 : decode cX11_motionAt 41 = .ok (.if_icmp .ge 18, 3) := by decide +kernel
theorem dX11_motionAt_44 : decode cX11_motionAt 44 = .ok (.aload_n 0, 1) := by decide +kernel
theorem dX11_motionAt_45 : decode cX11_motionAt 45 = .ok (.getfield 100, 3) := by decide +kernel
theorem dX11_motionAt_48 : decode cX11_motionAt 48 = .ok (.iload_n 1, 1) := by decide +kernel
theorem dX11_motionAt_49 : decode cX11_motionAt 49 = .ok (.iconst 1, 1) := by decide +kernel
theorem dX11_motionAt_50 : decode cX11_motionAt 50 = .ok (.iadd, 1) := by decide +kernel
theorem dX11_motionAt_51 : decode cX11_motionAt 51 = .ok (.baload, 1) := by decide +kernel
theorem dX11_motionAt_52 : decode cX11_motionAt 52 = .ok (.ifCond .eq 7, 3) := by decide +kernel
theorem dX11_motionAt_55 : decode cX11_motionAt 55 = .ok (.iconst 1, 1) := by decide +kernel
theorem dX11_motionAt_56 : decode cX11_motionAt 56 = .ok (.goto 4, 3) := by decide +kernel
theorem dX11_motionAt_59 : decode cX11_motionAt 59 = .ok (.iconst 0, 1) := by decide +kernel
theorem dX11_motionAt_60 : decode cX11_motionAt 60 = .ok (.istore_n 3, 1) := by decide +kernel
theorem dX11_motionAt_61 : decode cX11_motionAt 61 = .ok (.iload_n 1, 1) := by decide +kernel
theorem dX11_motionAt_62 : decode cX11_motionAt 62 = .ok (.bipush 9, 2) := by decide +kernel
theorem dX11_motionAt_64 : decode cX11_motionAt 64 = .ok (.if_icmp .le 19, 3) := by decide +kernel
theorem dX11_motionAt_67 : decode cX11_motionAt 67 = .ok (.aload_n 0, 1) := by decide +kernel
theorem dX11_motionAt_68 : decode cX11_motionAt 68 = .ok (.getfield 100, 3) := by decide +kernel
theorem dX11_motionAt_71 : decode cX11_motionAt 71 = .ok (.iload_n 1, 1) := by decide +kernel
theorem dX11_motionAt_72 : decode cX11_motionAt 72 = .ok (.bipush 10, 2) := by decide +kernel
theorem dX11_motionAt_74 : decode cX11_motionAt 74 = .ok (.isub, 1) := by decide +kernel
theorem dX11_motionAt_75 : decode cX11_motionAt 75 = .ok (.baload, 1) := by decide +kernel
theorem dX11_motionAt_76 : decode cX11_motionAt 76 = .ok (.ifCond .eq 7, 3) := by decide +kernel
theorem dX11_motionAt_79 : decode cX11_motionAt 79 = .ok (.iconst 1, 1) := by decide +kernel
theorem dX11_motionAt_80 : decode cX11_motionAt 80 = .ok (.goto 4, 3) := by decide +kernel
theorem dX11_motionAt_83 : decode cX11_motionAt 83 = .ok (.iconst 0, 1) := by decide +kernel
theorem dX11_motionAt_84 : decode cX11_motionAt 84 = .ok (.istore 4, 2) := by decide +kernel
theorem dX11_motionAt_86 : decode cX11_motionAt 86 = .ok (.iload_n 1, 1) := by decide +kernel
theorem dX11_motionAt_87 : decode cX11_motionAt 87 = .ok (.bipush 70, 2) := by decide +kernel
theorem dX11_motionAt_89 : decode cX11_motionAt 89 = .ok (.if_icmp .ge 19, 3) := by decide +kernel
theorem dX11_motionAt_92 : decode cX11_motionAt 92 = .ok (.aload_n 0, 1) := by decide +kernel
theorem dX11_motionAt_93 : decode cX11_motionAt 93 = .ok (.getfield 100, 3) := by decide +kernel
theorem dX11_motionAt_96 : decode cX11_motionAt 96 = .ok (.iload_n 1, 1) := by decide +kernel
theorem dX11_motionAt_97 : decode cX11_motionAt 97 = .ok (.bipush 10, 2) := by decide +kernel
theorem dX11_motionAt_99 : decode cX11_motionAt 99 = .ok (.iadd, 1) := by decide +kernel
theorem dX11_motionAt_100 : decode cX11_motionAt 100 = .ok (.baload, 1) := by decide +kernel
theorem dX11_motionAt_101 : decode cX11_motionAt 101 = .ok (.ifCond .eq 7, 3) := by decide +kernel
theorem dX11_motionAt_104 : decode cX11_motionAt 104 = .ok (.iconst 1, 1) := by decide +kernel
theorem dX11_motionAt_105 : decode cX11_motionAt 105 = .ok (.goto 4, 3) := by decide +kernel
theorem dX11_motionAt_108 : decode cX11_motionAt 108 = .ok (.iconst 0, 1) := by decide +kernel
theorem dX11_motionAt_109 : decode cX11_motionAt 109 = .ok (.istore 5, 2) := by decide +kernel
theorem dX11_motionAt_111 : decode cX11_motionAt 111 = .ok (.iload_n 2, 1) := by decide +kernel
theorem dX11_motionAt_112 : decode cX11_motionAt 112 = .ok (.ifCond .ne 17, 3) := by decide +kernel
theorem dX11_motionAt_115 : decode cX11_motionAt 115 = .ok (.iload_n 3, 1) := by decide +kernel
theorem dX11_motionAt_116 : decode cX11_motionAt 116 = .ok (.ifCond .ne 13, 3) := by decide +kernel
theorem dX11_motionAt_119 : decode cX11_motionAt 119 = .ok (.iload 4, 2) := by decide +kernel
theorem dX11_motionAt_121 : decode cX11_motionAt 121 = .ok (.ifCond .ne 8, 3) := by decide +kernel
theorem dX11_motionAt_124 : decode cX11_motionAt 124 = .ok (.iload 5, 2) := by decide +kernel
theorem dX11_motionAt_126 : decode cX11_motionAt 126 = .ok (.ifCond .eq 7, 3) := by decide +kernel
theorem dX11_motionAt_129 : decode cX11_motionAt 129 = .ok (.iconst 2, 1) := by decide +kernel
theorem dX11_motionAt_130 : decode cX11_motionAt 130 = .ok (.goto 4, 3) := by decide +kernel
theorem dX11_motionAt_133 : decode cX11_motionAt 133 = .ok (.iconst 1, 1) := by decide +kernel
theorem dX11_motionAt_134 : decode cX11_motionAt 134 = .ok (.ireturn, 1) := by decide +kernel
theorem dX11_decode_0 : decode cX11_decode 0 = .ok (.iconst 0, 1) := by decide +kernel
theorem dX11_decode_1 : decode cX11_decode 1 = .ok (.istore_n 1, 1) := by decide +kernel
theorem dX11_decode_2 : decode cX11_decode 2 = .ok (.iload_n 1, 1) := by decide +kernel
theorem dX11_decode_3 : decode cX11_decode 3 = .ok (.bipush 80, 2) := by decide +kernel
theorem dX11_decode_5 : decode cX11_decode 5 = .ok (.if_icmp .ge 21, 3) := by decide +kernel
theorem dX11_decode_8 : decode cX11_decode 8 = .ok (.aload_n 0, 1) := by decide +kernel
theorem dX11_decode_9 : decode cX11_decode 9 = .ok (.getfield 79, 3) := by decide +kernel
theorem dX11_decode_12 : decode cX11_decode 12 = .ok (.iload_n 1, 1) := by decide +kernel
theorem dX11_decode_13 : decode cX11_decode 13 = .ok (.aload_n 0, 1) := by decide +kernel
theorem dX11_decode_14 : decode cX11_decode 14 = .ok (.getfield 76, 3) := by decide +kernel
theorem dX11_decode_17 : decode cX11_decode 17 = .ok (.iload_n 1, 1) := by decide +kernel
theorem dX11_decode_18 : decode cX11_decode 18 = .ok (.iaload, 1) := by decide +kernel
theorem dX11_decode_19 : decode cX11_decode 19 = .ok (.iastore, 1) := by decide +kernel
theorem dX11_decode_20 : decode cX11_decode 20 = .ok (.iinc 1 1, 3) := by decide +kernel
theorem dX11_decode_23 : decode cX11_decode 23 = .ok (.goto (-21), 3) := by decide +kernel
theorem dX11_decode_26 : decode cX11_decode 26 = .ok (.aload_n 0, 1) := by decide +kernel
theorem dX11_decode_27 : decode cX11_decode 27 = .ok (.dup, 1) := by decide +kernel
theorem dX11_decode_28 : decode cX11_decode 28 = .ok (.getfield 189, 3) := by decide +kernel
theorem dX11_decode_31 : decode cX11_decode 31 = .ok (.iconst 1, 1) := by decide +kernel
theorem dX11_decode_32 : decode cX11_decode 32 = .ok (.iadd, 1) := by decide +kernel
theorem dX11_decode_33 : decode cX11_decode 33 = .ok (.putfield 189, 3) := by decide +kernel
theorem dX11_decode_36 : decode cX11_decode 36 = .ok (.aload_n 0, 1) := by decide +kernel
theorem dX11_decode_37 : decode cX11_decode 37 = .ok (.invokevirtual 192, 3) := by decide +kernel
theorem dX11_decode_40 : decode cX11_decode 40 = .ok (.istore_n 1, 1) := by decide +kernel
theorem dX11_decode_41 : decode cX11_decode 41 = .ok (.aload_n 0, 1) := by decide +kernel
theorem dX11_decode_42 : decode cX11_decode 42 = .ok (.invokevirtual 196, 3) := by decide +kernel
theorem dX11_decode_45 : decode cX11_decode 45 = .ok (.aload_n 0, 1) := by decide +kernel
theorem dX11_decode_46 : decode cX11_decode 46 = .ok (.getfield 35, 3) := by decide +kernel
theorem dX11_decode_49 : decode cX11_decode 49 = .ok (.iconst 3, 1) := by decide +kernel
theorem dX11_decode_50 : decode cX11_decode 50 = .ok (.iaload, 1) := by decide +kernel
theorem dX11_decode_51 : decode cX11_decode 51 = .ok (.iconst 2, 1) := by decide +kernel
theorem dX11_decode_52 : decode cX11_decode 52 = .ok (.if_icmp .ne 10, 3) := by decide +kernel
theorem dX11_decode_55 : decode cX11_decode 55 = .ok (.aload_n 0, 1) := by decide +kernel
theorem dX11_decode_56 : decode cX11_decode 56 = .ok (.invokevirtual 199, 3) := by decide +kernel
theorem dX11_decode_59 : decode cX11_decode 59 = .ok (.goto 9, 3) := by decide +kernel
theorem dX11_decode_62 : decode cX11_decode 62 = .ok (.aload_n 0, 1) := by decide +kernel
theorem dX11_decode_63 : decode cX11_decode 63 = .ok (.getfield 35, 3) := by decide +kernel
theorem dX11_decode_66 : decode cX11_decode 66 = .ok (.iconst 3, 1) := by decide +kernel
theorem dX11_decode_67 : decode cX11_decode 67 = .ok (.iaload, 1) := by decide +kernel
theorem dX11_decode_68 : decode cX11_decode 68 = .ok (.istore_n 2, 1) := by decide +kernel
theorem dX11_decode_69 : decode cX11_decode 69 = .ok (.aload_n 0, 1) := by decide +kernel
theorem dX11_decode_70 : decode cX11_decode 70 = .ok (.iload_n 2, 1) := by decide +kernel
theorem dX11_decode_71 : decode cX11_decode 71 = .ok (.invokevirtual 202, 3) := by decide +kernel
theorem dX11_decode_74 : decode cX11_decode 74 = .ok (.iconst 0, 1) := by decide +kernel
theorem dX11_decode_75 : decode cX11_decode 75 = .ok (.istore_n 3, 1) := by decide +kernel
theorem dX11_decode_76 : decode cX11_decode 76 = .ok (.iload_n 3, 1) := by decide +kernel
theorem dX11_decode_77 : decode cX11_decode 77 = .ok (.bipush 8, 2) := by decide +kernel
theorem dX11_decode_79 : decode cX11_decode 79 = .ok (.if_icmp .ge 33, 3) := by decide +kernel
theorem dX11_decode_82 : decode cX11_decode 82 = .ok (.iconst 0, 1) := by decide +kernel
theorem dX11_decode_83 : decode cX11_decode 83 = .ok (.istore 4, 2) := by decide +kernel
theorem dX11_decode_85 : decode cX11_decode 85 = .ok (.iload 4, 2) := by decide +kernel
theorem dX11_decode_87 : decode cX11_decode 87 = .ok (.bipush 10, 2) := by decide +kernel
theorem dX11_decode_89 : decode cX11_decode 89 = .ok (.if_icmp .ge 17, 3) := by decide +kernel
theorem dX11_decode_92 : decode cX11_decode 92 = .ok (.aload_n 0, 1) := by decide +kernel
theorem dX11_decode_93 : decode cX11_decode 93 = .ok (.iload_n 3, 1) := by decide +kernel
theorem dX11_decode_94 : decode cX11_decode 94 = .ok (.iload 4, 2) := by decide +kernel
theorem dX11_decode_96 : decode cX11_decode 96 = .ok (.iload_n 2, 1) := by decide +kernel
theorem dX11_decode_97 : decode cX11_decode 97 = .ok (.invokevirtual 206, 3) := by decide +kernel
theorem dX11_decode_100 : decode cX11_decode 100 = .ok (.iinc 4 1, 3) := by decide +kernel
theorem dX11_decode_103 : decode cX11_decode 103 = .ok (.goto (-18), 3) := by decide +kernel
theorem dX11_decode_106 : decode cX11_decode 106 = .ok (.iinc 3 1, 3) := by decide +kernel
theorem dX11_decode_109 : decode cX11_decode 109 = .ok (.goto (-33), 3) := by decide +kernel
theorem dX11_decode_112 : decode cX11_decode 112 = .ok (.aload_n 0, 1) := by decide +kernel
theorem dX11_decode_113 : decode cX11_decode 113 = .ok (.invokevirtual 210, 3) := by decide +kernel
theorem dX11_decode_116 : decode cX11_decode 116 = .ok (.iload_n 1, 1) := by decide +kernel
theorem dX11_decode_117 : decode cX11_decode 117 = .ok (.ireturn, 1) := by decide +kernel
theorem dX11_line_0 : decode cX11_line 0 = .ok (.iload_n 1, 1) := by decide +kernel
theorem dX11_line_1 : decode cX11_line 1 = .ok (.invokestatic 107, 3) := by decide +kernel
theorem dX11_line_4 : decode cX11_line 4 = .ok (.ifCond .eq 6, 3) := by decide +kernel
theorem dX11_line_7 : decode cX11_line 7 = .ok (.ldc 115, 2) := by decide +kernel
theorem dX11_line_9 : decode cX11_line 9 = .ok (.ireturn, 1) := by decide +kernel
theorem dX11_line_10 : decode cX11_line 10 = .ok (.iload_n 2, 1) := by decide +kernel
theorem dX11_line_11 : decode cX11_line 11 = .ok (.iconst 0, 1) := by decide +kernel
theorem dX11_line_12 : decode cX11_line 12 = .ok (.bipush 7, 2) := by decide +kernel
theorem dX11_line_14 : decode cX11_line 14 = .ok (.invokestatic 103, 3) := by decide +kernel
theorem dX11_line_17 : decode cX11_line 17 = .ok (.ifCond .ne 6, 3) := by decide +kernel
theorem dX11_line_20 : decode cX11_line 20 = .ok (.ldc 119, 2) := by decide +kernel
theorem dX11_line_22 : decode cX11_line 22 = .ok (.ireturn, 1) := by decide +kernel
theorem dX11_line_23 : decode cX11_line 23 = .ok (.aload_n 0, 1) := by decide +kernel
theorem dX11_line_24 : decode cX11_line 24 = .ok (.getfield 189, 3) := by decide +kernel
theorem dX11_line_27 : decode cX11_line 27 = .ok (.ifCond .ne 6, 3) := by decide +kernel
theorem dX11_line_30 : decode cX11_line 30 = .ok (.ldc 132, 2) := by decide +kernel
theorem dX11_line_32 : decode cX11_line 32 = .ok (.ireturn, 1) := by decide +kernel
theorem dX11_line_33 : decode cX11_line 33 = .ok (.iload_n 2, 1) := by decide +kernel
theorem dX11_line_34 : decode cX11_line 34 = .ok (.tableswitch 115 0 6 #[42, 49, 56, 71, 78, 85, 100], 42) := by decide +kernel
theorem dX11_line_76 : decode cX11_line 76 = .ok (.aload_n 0, 1) := by decide +kernel
theorem dX11_line_77 : decode cX11_line 77 = .ok (.getfield 45, 3) := by decide +kernel
theorem dX11_line_80 : decode cX11_line 80 = .ok (.iload_n 1, 1) := by decide +kernel
theorem dX11_line_81 : decode cX11_line 81 = .ok (.iaload, 1) := by decide +kernel
theorem dX11_line_82 : decode cX11_line 82 = .ok (.ireturn, 1) := by decide +kernel
theorem dX11_line_83 : decode cX11_line 83 = .ok (.aload_n 0, 1) := by decide +kernel
theorem dX11_line_84 : decode cX11_line 84 = .ok (.getfield 48, 3) := by decide +kernel
theorem dX11_line_87 : decode cX11_line 87 = .ok (.iload_n 1, 1) := by decide +kernel
theorem dX11_line_88 : decode cX11_line 88 = .ok (.iaload, 1) := by decide +kernel
theorem dX11_line_89 : decode cX11_line 89 = .ok (.ireturn, 1) := by decide +kernel
theorem dX11_line_90 : decode cX11_line 90 = .ok (.aload_n 0, 1) := by decide +kernel
theorem dX11_line_91 : decode cX11_line 91 = .ok (.getfield 51, 3) := by decide +kernel
theorem dX11_line_94 : decode cX11_line 94 = .ok (.iload_n 1, 1) := by decide +kernel
theorem dX11_line_95 : decode cX11_line 95 = .ok (.baload, 1) := by decide +kernel
theorem dX11_line_96 : decode cX11_line 96 = .ok (.ifCond .eq 7, 3) := by decide +kernel
theorem dX11_line_99 : decode cX11_line 99 = .ok (.iconst 1, 1) := by decide +kernel
theorem dX11_line_100 : decode cX11_line 100 = .ok (.goto 4, 3) := by decide +kernel
theorem dX11_line_103 : decode cX11_line 103 = .ok (.iconst 0, 1) := by decide +kernel
theorem dX11_line_104 : decode cX11_line 104 = .ok (.ireturn, 1) := by decide +kernel
theorem dX11_line_105 : decode cX11_line 105 = .ok (.aload_n 0, 1) := by decide +kernel
theorem dX11_line_106 : decode cX11_line 106 = .ok (.getfield 57, 3) := by decide +kernel
theorem dX11_line_109 : decode cX11_line 109 = .ok (.iload_n 1, 1) := by decide +kernel
theorem dX11_line_110 : decode cX11_line 110 = .ok (.iaload, 1) := by decide +kernel
theorem dX11_line_111 : decode cX11_line 111 = .ok (.ireturn, 1) := by decide +kernel
theorem dX11_line_112 : decode cX11_line 112 = .ok (.aload_n 0, 1) := by decide +kernel
theorem dX11_line_113 : decode cX11_line 113 = .ok (.getfield 60, 3) := by decide +kernel
theorem dX11_line_116 : decode cX11_line 116 = .ok (.iload_n 1, 1) := by decide +kernel
theorem dX11_line_117 : decode cX11_line 117 = .ok (.iaload, 1) := by decide +kernel
theorem dX11_line_118 : decode cX11_line 118 = .ok (.ireturn, 1) := by decide +kernel
theorem dX11_line_119 : decode cX11_line 119 = .ok (.aload_n 0, 1) := by decide +kernel
theorem dX11_line_120 : decode cX11_line 120 = .ok (.getfield 63, 3) := by decide +kernel
theorem dX11_line_123 : decode cX11_line 123 = .ok (.iload_n 1, 1) := by decide +kernel
theorem dX11_line_124 : decode cX11_line 124 = .ok (.baload, 1) := by decide +kernel
theorem dX11_line_125 : decode cX11_line 125 = .ok (.ifCond .eq 7, 3) := by decide +kernel
theorem dX11_line_128 : decode cX11_line 128 = .ok (.iconst 1, 1) := by decide +kernel
theorem dX11_line_129 : decode cX11_line 129 = .ok (.goto 4, 3) := by decide +kernel
theorem dX11_line_132 : decode cX11_line 132 = .ok (.iconst 0, 1) := by decide +kernel
theorem dX11_line_133 : decode cX11_line 133 = .ok (.ireturn, 1) := by decide +kernel
theorem dX11_line_134 : decode cX11_line 134 = .ok (.aload_n 0, 1) := by decide +kernel
theorem dX11_line_135 : decode cX11_line 135 = .ok (.getfield 66, 3) := by decide +kernel
theorem dX11_line_138 : decode cX11_line 138 = .ok (.iload_n 1, 1) := by decide +kernel
theorem dX11_line_139 : decode cX11_line 139 = .ok (.baload, 1) := by decide +kernel
theorem dX11_line_140 : decode cX11_line 140 = .ok (.ifCond .eq 7, 3) := by decide +kernel
theorem dX11_line_143 : decode cX11_line 143 = .ok (.iconst 1, 1) := by decide +kernel
theorem dX11_line_144 : decode cX11_line 144 = .ok (.goto 4, 3) := by decide +kernel
theorem dX11_line_147 : decode cX11_line 147 = .ok (.iconst 0, 1) := by decide +kernel
theorem dX11_line_148 : decode cX11_line 148 = .ok (.ireturn, 1) := by decide +kernel
theorem dX11_line_149 : decode cX11_line 149 = .ok (.aload_n 0, 1) := by decide +kernel
theorem dX11_line_150 : decode cX11_line 150 = .ok (.getfield 54, 3) := by decide +kernel
theorem dX11_line_153 : decode cX11_line 153 = .ok (.iload_n 1, 1) := by decide +kernel
theorem dX11_line_154 : decode cX11_line 154 = .ok (.iaload, 1) := by decide +kernel
theorem dX11_line_155 : decode cX11_line 155 = .ok (.ireturn, 1) := by decide +kernel
theorem dX11_luma_0 : decode cX11_luma 0 = .ok (.iload_n 1, 1) := by decide +kernel
theorem dX11_luma_1 : decode cX11_luma 1 = .ok (.iload_n 2, 1) := by decide +kernel
theorem dX11_luma_2 : decode cX11_luma 2 = .ok (.invokestatic 111, 3) := by decide +kernel
theorem dX11_luma_5 : decode cX11_luma 5 = .ok (.ifCond .eq 6, 3) := by decide +kernel
theorem dX11_luma_8 : decode cX11_luma 8 = .ok (.ldc 115, 2) := by decide +kernel
theorem dX11_luma_10 : decode cX11_luma 10 = .ok (.ireturn, 1) := by decide +kernel
theorem dX11_luma_11 : decode cX11_luma 11 = .ok (.aload_n 0, 1) := by decide +kernel
theorem dX11_luma_12 : decode cX11_luma 12 = .ok (.getfield 189, 3) := by decide +kernel
theorem dX11_luma_15 : decode cX11_luma 15 = .ok (.ifCond .ne 8, 3) := by decide +kernel
theorem dX11_luma_18 : decode cX11_luma 18 = .ok (.ldc 132, 2) := by decide +kernel
theorem dX11_luma_20 : decode cX11_luma 20 = .ok (.goto 14, 3) := by decide +kernel
theorem dX11_luma_23 : decode cX11_luma 23 = .ok (.aload_n 0, 1) := by decide +kernel
theorem dX11_luma_24 : decode cX11_luma 24 = .ok (.getfield 76, 3) := by decide +kernel
theorem dX11_luma_27 : decode cX11_luma 27 = .ok (.bipush 10, 2) := by decide +kernel
theorem dX11_luma_29 : decode cX11_luma 29 = .ok (.iload_n 1, 1) := by decide +kernel
theorem dX11_luma_30 : decode cX11_luma 30 = .ok (.imul, 1) := by decide +kernel
theorem dX11_luma_31 : decode cX11_luma 31 = .ok (.iload_n 2, 1) := by decide +kernel
theorem dX11_luma_32 : decode cX11_luma 32 = .ok (.iadd, 1) := by decide +kernel
theorem dX11_luma_33 : decode cX11_luma 33 = .ok (.iaload, 1) := by decide +kernel
theorem dX11_luma_34 : decode cX11_luma 34 = .ok (.ireturn, 1) := by decide +kernel
theorem dX11_combed_0 : decode cX11_combed 0 = .ok (.iload_n 1, 1) := by decide +kernel
theorem dX11_combed_1 : decode cX11_combed 1 = .ok (.iload_n 2, 1) := by decide +kernel
theorem dX11_combed_2 : decode cX11_combed 2 = .ok (.invokestatic 111, 3) := by decide +kernel
theorem dX11_combed_5 : decode cX11_combed 5 = .ok (.ifCond .eq 6, 3) := by decide +kernel
theorem dX11_combed_8 : decode cX11_combed 8 = .ok (.ldc 115, 2) := by decide +kernel
theorem dX11_combed_10 : decode cX11_combed 10 = .ok (.ireturn, 1) := by decide +kernel
theorem dX11_combed_11 : decode cX11_combed 11 = .ok (.aload_n 0, 1) := by decide +kernel
theorem dX11_combed_12 : decode cX11_combed 12 = .ok (.getfield 189, 3) := by decide +kernel
theorem dX11_combed_15 : decode cX11_combed 15 = .ok (.ifCond .ne 8, 3) := by decide +kernel
theorem dX11_combed_18 : decode cX11_combed 18 = .ok (.ldc 132, 2) := by decide +kernel
theorem dX11_combed_20 : decode cX11_combed 20 = .ok (.goto 14, 3) := by decide +kernel
theorem dX11_combed_23 : decode cX11_combed 23 = .ok (.aload_n 0, 1) := by decide +kernel
theorem dX11_combed_24 : decode cX11_combed 24 = .ok (.getfield 82, 3) := by decide +kernel
theorem dX11_combed_27 : decode cX11_combed 27 = .ok (.bipush 10, 2) := by decide +kernel
theorem dX11_combed_29 : decode cX11_combed 29 = .ok (.iload_n 1, 1) := by decide +kernel
theorem dX11_combed_30 : decode cX11_combed 30 = .ok (.imul, 1) := by decide +kernel
theorem dX11_combed_31 : decode cX11_combed 31 = .ok (.iload_n 2, 1) := by decide +kernel
theorem dX11_combed_32 : decode cX11_combed 32 = .ok (.iadd, 1) := by decide +kernel
theorem dX11_combed_33 : decode cX11_combed 33 = .ok (.iaload, 1) := by decide +kernel
theorem dX11_combed_34 : decode cX11_combed 34 = .ok (.ireturn, 1) := by decide +kernel
theorem dX11_u_0 : decode cX11_u 0 = .ok (.iload_n 1, 1) := by decide +kernel
theorem dX11_u_1 : decode cX11_u 1 = .ok (.iload_n 2, 1) := by decide +kernel
theorem dX11_u_2 : decode cX11_u 2 = .ok (.invokestatic 111, 3) := by decide +kernel
theorem dX11_u_5 : decode cX11_u 5 = .ok (.ifCond .eq 7, 3) := by decide +kernel
theorem dX11_u_8 : decode cX11_u 8 = .ok (.fconst 0, 1) := by decide +kernel
theorem dX11_u_9 : decode cX11_u 9 = .ok (.goto 14, 3) := by decide +kernel
theorem dX11_u_12 : decode cX11_u 12 = .ok (.aload_n 0, 1) := by decide +kernel
theorem dX11_u_13 : decode cX11_u 13 = .ok (.getfield 91, 3) := by decide +kernel
theorem dX11_u_16 : decode cX11_u 16 = .ok (.bipush 10, 2) := by decide +kernel
theorem dX11_u_18 : decode cX11_u 18 = .ok (.iload_n 1, 1) := by decide +kernel
theorem dX11_u_19 : decode cX11_u 19 = .ok (.imul, 1) := by decide +kernel
theorem dX11_u_20 : decode cX11_u 20 = .ok (.iload_n 2, 1) := by decide +kernel
theorem dX11_u_21 : decode cX11_u 21 = .ok (.iadd, 1) := by decide +kernel
theorem dX11_u_22 : decode cX11_u 22 = .ok (.faload, 1) := by decide +kernel
theorem dX11_u_23 : decode cX11_u 23 = .ok (.freturn, 1) := by decide +kernel
theorem dX11_v_0 : decode cX11_v 0 = .ok (.iload_n 1, 1) := by decide +kernel
theorem dX11_v_1 : decode cX11_v 1 = .ok (.iload_n 2, 1) := by decide +kernel
theorem dX11_v_2 : decode cX11_v 2 = .ok (.invokestatic 111, 3) := by decide +kernel
theorem dX11_v_5 : decode cX11_v 5 = .ok (.ifCond .eq 7, 3) := by decide +kernel
theorem dX11_v_8 : decode cX11_v 8 = .ok (.fconst 0, 1) := by decide +kernel
theorem dX11_v_9 : decode cX11_v 9 = .ok (.goto 14, 3) := by decide +kernel
theorem dX11_v_12 : decode cX11_v 12 = .ok (.aload_n 0, 1) := by decide +kernel
theorem dX11_v_13 : decode cX11_v 13 = .ok (.getfield 94, 3) := by decide +kernel
theorem dX11_v_16 : decode cX11_v 16 = .ok (.bipush 10, 2) := by decide +kernel
theorem dX11_v_18 : decode cX11_v 18 = .ok (.iload_n 1, 1) := by decide +kernel
theorem dX11_v_19 : decode cX11_v 19 = .ok (.imul, 1) := by decide +kernel
theorem dX11_v_20 : decode cX11_v 20 = .ok (.iload_n 2, 1) := by decide +kernel
theorem dX11_v_21 : decode cX11_v 21 = .ok (.iadd, 1) := by decide +kernel
theorem dX11_v_22 : decode cX11_v 22 = .ok (.faload, 1) := by decide +kernel
theorem dX11_v_23 : decode cX11_v 23 = .ok (.freturn, 1) := by decide +kernel
theorem dX11_thousandths_0 : decode cX11_thousandths 0 = .ok (.iload_n 1, 1) := by decide +kernel
theorem dX11_thousandths_1 : decode cX11_thousandths 1 = .ok (.iload_n 2, 1) := by decide +kernel
theorem dX11_thousandths_2 : decode cX11_thousandths 2 = .ok (.invokestatic 111, 3) := by decide +kernel
theorem dX11_thousandths_5 : decode cX11_thousandths 5 = .ok (.ifCond .eq 6, 3) := by decide +kernel
theorem dX11_thousandths_8 : decode cX11_thousandths 8 = .ok (.ldc 115, 2) := by decide +kernel
theorem dX11_thousandths_10 : decode cX11_thousandths 10 = .ok (.ireturn, 1) := by decide +kernel
theorem dX11_thousandths_11 : decode cX11_thousandths 11 = .ok (.iload_n 3, 1) := by decide +kernel
theorem dX11_thousandths_12 : decode cX11_thousandths 12 = .ok (.iconst 0, 1) := by decide +kernel
theorem dX11_thousandths_13 : decode cX11_thousandths 13 = .ok (.iconst 1, 1) := by decide +kernel
theorem dX11_thousandths_14 : decode cX11_thousandths 14 = .ok (.invokestatic 103, 3) := by decide +kernel
theorem dX11_thousandths_17 : decode cX11_thousandths 17 = .ok (.ifCond .ne 6, 3) := by decide +kernel
theorem dX11_thousandths_20 : decode cX11_thousandths 20 = .ok (.ldc 119, 2) := by decide +kernel
theorem dX11_thousandths_22 : decode cX11_thousandths 22 = .ok (.ireturn, 1) := by decide +kernel
theorem dX11_thousandths_23 : decode cX11_thousandths 23 = .ok (.aload_n 0, 1) := by decide +kernel
theorem dX11_thousandths_24 : decode cX11_thousandths 24 = .ok (.getfield 189, 3) := by decide +kernel
theorem dX11_thousandths_27 : decode cX11_thousandths 27 = .ok (.ifCond .ne 6, 3) := by decide +kernel
theorem dX11_thousandths_30 : decode cX11_thousandths 30 = .ok (.ldc 132, 2) := by decide +kernel
theorem dX11_thousandths_32 : decode cX11_thousandths 32 = .ok (.ireturn, 1) := by decide +kernel
theorem dX11_thousandths_33 : decode cX11_thousandths 33 = .ok (.iload_n 3, 1) := by decide +kernel
theorem dX11_thousandths_34 : decode cX11_thousandths 34 = .ok (.ifCond .ne 17, 3) := by decide +kernel
theorem dX11_thousandths_37 : decode cX11_thousandths 37 = .ok (.aload_n 0, 1) := by decide +kernel
theorem dX11_thousandths_38 : decode cX11_thousandths 38 = .ok (.getfield 91, 3) := by decide +kernel
theorem dX11_thousandths_41 : decode cX11_thousandths 41 = .ok (.bipush 10, 2) := by decide +kernel
theorem dX11_thousandths_43 : decode cX11_thousandths 43 = .ok (.iload_n 1, 1) := by decide +kernel
theorem dX11_thousandths_44 : decode cX11_thousandths 44 = .ok (.imul, 1) := by decide +kernel
theorem dX11_thousandths_45 : decode cX11_thousandths 45 = .ok (.iload_n 2, 1) := by decide +kernel
theorem dX11_thousandths_46 : decode cX11_thousandths 46 = .ok (.iadd, 1) := by decide +kernel
theorem dX11_thousandths_47 : decode cX11_thousandths 47 = .ok (.faload, 1) := by decide +kernel
theorem dX11_thousandths_48 : decode cX11_thousandths 48 = .ok (.goto 14, 3) := by decide +kernel
theorem dX11_thousandths_51 : decode cX11_thousandths 51 = .ok (.aload_n 0, 1) := by decide +kernel
theorem dX11_thousandths_52 : decode cX11_thousandths 52 = .ok (.getfield 94, 3) := by decide +kernel
theorem dX11_thousandths_55 : decode cX11_thousandths 55 = .ok (.bipush 10, 2) := by decide +kernel
theorem dX11_thousandths_57 : decode cX11_thousandths 57 = .ok (.iload_n 1, 1) := by decide +kernel
theorem dX11_thousandths_58 : decode cX11_thousandths 58 = .ok (.imul, 1) := by decide +kernel
theorem dX11_thousandths_59 : decode cX11_thousandths 59 = .ok (.iload_n 2, 1) := by decide +kernel
theorem dX11_thousandths_60 : decode cX11_thousandths 60 = .ok (.iadd, 1) := by decide +kernel
theorem dX11_thousandths_61 : decode cX11_thousandths 61 = .ok (.faload, 1) := by decide +kernel
theorem dX11_thousandths_62 : decode cX11_thousandths 62 = .ok (.fstore 4, 2) := by decide +kernel
theorem dX11_thousandths_64 : decode cX11_thousandths 64 = .ok (.fload 4, 2) := by decide +kernel
theorem dX11_thousandths_66 : decode cX11_thousandths 66 = .ok (.ldc 213, 2) := by decide +kernel
theorem dX11_thousandths_68 : decode cX11_thousandths 68 = .ok (.fmul, 1) := by decide +kernel
theorem dX11_thousandths_69 : decode cX11_thousandths 69 = .ok (.f2i, 1) := by decide +kernel
theorem dX11_thousandths_70 : decode cX11_thousandths 70 = .ok (.ireturn, 1) := by decide +kernel
theorem dX11_reference_0 : decode cX11_reference 0 = .ok (.iload_n 1, 1) := by decide +kernel
theorem dX11_reference_1 : decode cX11_reference 1 = .ok (.invokestatic 107, 3) := by decide +kernel
theorem dX11_reference_4 : decode cX11_reference 4 = .ok (.ifCond .ne 12, 3) := by decide +kernel
theorem dX11_reference_7 : decode cX11_reference 7 = .ok (.iload_n 2, 1) := by decide +kernel
theorem dX11_reference_8 : decode cX11_reference 8 = .ok (.iconst 0, 1) := by decide +kernel
theorem dX11_reference_9 : decode cX11_reference 9 = .ok (.iconst 1, 1) := by decide +kernel
theorem dX11_reference_10 : decode cX11_reference 10 = .ok (.invokestatic 103, 3) := by decide +kernel
theorem dX11_reference_13 : decode cX11_reference 13 = .ok (.ifCond .ne 7, 3) := by decide +kernel
theorem dX11_reference_16 : decode cX11_reference 16 = .ok (.fconst 0, 1) := by decide +kernel
theorem dX11_reference_17 : decode cX11_reference 17 = .ok (.goto 22, 3) := by decide +kernel
theorem dX11_reference_20 : decode cX11_reference 20 = .ok (.iload_n 2, 1) := by decide +kernel
theorem dX11_reference_21 : decode cX11_reference 21 = .ok (.ifCond .ne 12, 3) := by decide +kernel
theorem dX11_reference_24 : decode cX11_reference 24 = .ok (.aload_n 0, 1) := by decide +kernel
theorem dX11_reference_25 : decode cX11_reference 25 = .ok (.getfield 69, 3) := by decide +kernel
theorem dX11_reference_28 : decode cX11_reference 28 = .ok (.iload_n 1, 1) := by decide +kernel
theorem dX11_reference_29 : decode cX11_reference 29 = .ok (.faload, 1) := by decide +kernel
theorem dX11_reference_30 : decode cX11_reference 30 = .ok (.goto 9, 3) := by decide +kernel
theorem dX11_reference_33 : decode cX11_reference 33 = .ok (.aload_n 0, 1) := by decide +kernel
theorem dX11_reference_34 : decode cX11_reference 34 = .ok (.getfield 73, 3) := by decide +kernel
theorem dX11_reference_37 : decode cX11_reference 37 = .ok (.iload_n 1, 1) := by decide +kernel
theorem dX11_reference_38 : decode cX11_reference 38 = .ok (.faload, 1) := by decide +kernel
theorem dX11_reference_39 : decode cX11_reference 39 = .ok (.freturn, 1) := by decide +kernel
theorem dX11_motion_0 : decode cX11_motion 0 = .ok (.iload_n 1, 1) := by decide +kernel
theorem dX11_motion_1 : decode cX11_motion 1 = .ok (.iload_n 2, 1) := by decide +kernel
theorem dX11_motion_2 : decode cX11_motion 2 = .ok (.invokestatic 111, 3) := by decide +kernel
theorem dX11_motion_5 : decode cX11_motion 5 = .ok (.ifCond .eq 6, 3) := by decide +kernel
theorem dX11_motion_8 : decode cX11_motion 8 = .ok (.ldc 115, 2) := by decide +kernel
theorem dX11_motion_10 : decode cX11_motion 10 = .ok (.ireturn, 1) := by decide +kernel
theorem dX11_motion_11 : decode cX11_motion 11 = .ok (.aload_n 0, 1) := by decide +kernel
theorem dX11_motion_12 : decode cX11_motion 12 = .ok (.getfield 189, 3) := by decide +kernel
theorem dX11_motion_15 : decode cX11_motion 15 = .ok (.iconst 2, 1) := by decide +kernel
theorem dX11_motion_16 : decode cX11_motion 16 = .ok (.if_icmp .ge 8, 3) := by decide +kernel
theorem dX11_motion_19 : decode cX11_motion 19 = .ok (.ldc 132, 2) := by decide +kernel
theorem dX11_motion_21 : decode cX11_motion 21 = .ok (.goto 13, 3) := by decide +kernel
theorem dX11_motion_24 : decode cX11_motion 24 = .ok (.aload_n 0, 1) := by decide +kernel
theorem dX11_motion_25 : decode cX11_motion 25 = .ok (.bipush 10, 2) := by decide +kernel
theorem dX11_motion_27 : decode cX11_motion 27 = .ok (.iload_n 1, 1) := by decide +kernel
theorem dX11_motion_28 : decode cX11_motion 28 = .ok (.imul, 1) := by decide +kernel
theorem dX11_motion_29 : decode cX11_motion 29 = .ok (.iload_n 2, 1) := by decide +kernel
theorem dX11_motion_30 : decode cX11_motion 30 = .ok (.iadd, 1) := by decide +kernel
theorem dX11_motion_31 : decode cX11_motion 31 = .ok (.invokevirtual 214, 3) := by decide +kernel
theorem dX11_motion_34 : decode cX11_motion 34 = .ok (.ireturn, 1) := by decide +kernel
theorem dX11_linesWithColor_0 : decode cX11_linesWithColor 0 = .ok (.iconst 0, 1) := by decide +kernel
theorem dX11_linesWithColor_1 : decode cX11_linesWithColor 1 = .ok (.istore_n 1, 1) := by decide +kernel
theorem dX11_linesWithColor_2 : decode cX11_linesWithColor 2 = .ok (.iconst 0, 1) := by decide +kernel
theorem dX11_linesWithColor_3 : decode cX11_linesWithColor 3 = .ok (.istore_n 2, 1) := by decide +kernel
theorem dX11_linesWithColor_4 : decode cX11_linesWithColor 4 = .ok (.iload_n 2, 1) := by decide +kernel
theorem dX11_linesWithColor_5 : decode cX11_linesWithColor 5 = .ok (.bipush 8, 2) := by decide +kernel
theorem dX11_linesWithColor_7 : decode cX11_linesWithColor 7 = .ok (.if_icmp .ge 26, 3) := by decide +kernel
theorem dX11_linesWithColor_10 : decode cX11_linesWithColor 10 = .ok (.iload_n 1, 1) := by decide +kernel
theorem dX11_linesWithColor_11 : decode cX11_linesWithColor 11 = .ok (.aload_n 0, 1) := by decide +kernel
theorem dX11_linesWithColor_12 : decode cX11_linesWithColor 12 = .ok (.getfield 66, 3) := by decide +kernel
theorem dX11_linesWithColor_15 : decode cX11_linesWithColor 15 = .ok (.iload_n 2, 1) := by decide +kernel
theorem dX11_linesWithColor_16 : decode cX11_linesWithColor 16 = .ok (.baload, 1) := by decide +kernel
theorem dX11_linesWithColor_17 : decode cX11_linesWithColor 17 = .ok (.ifCond .eq 7, 3) := by decide +kernel
theorem dX11_linesWithColor_20 : decode cX11_linesWithColor 20 = .ok (.iconst 1, 1) := by decide +kernel
theorem dX11_linesWithColor_21 : decode cX11_linesWithColor 21 = .ok (.goto 4, 3) := by decide +kernel
theorem dX11_linesWithColor_24 : decode cX11_linesWithColor 24 = .ok (.iconst 0, 1) := by decide +kernel
theorem dX11_linesWithColor_25 : decode cX11_linesWithColor 25 = .ok (.iadd, 1) := by decide +kernel
theorem dX11_linesWithColor_26 : decode cX11_linesWithColor 26 = .ok (.istore_n 1, 1) := by decide +kernel
theorem dX11_linesWithColor_27 : decode cX11_linesWithColor 27 = .ok (.iinc 2 1, 3) := by decide +kernel
theorem dX11_linesWithColor_30 : decode cX11_linesWithColor 30 = .ok (.goto (-26), 3) := by decide +kernel
theorem dX11_linesWithColor_33 : decode cX11_linesWithColor 33 = .ok (.iload_n 1, 1) := by decide +kernel
theorem dX11_linesWithColor_34 : decode cX11_linesWithColor 34 = .ok (.ireturn, 1) := by decide +kernel
theorem dX11_segments_0 : decode cX11_segments 0 = .ok (.iconst 0, 1) := by decide +kernel
theorem dX11_segments_1 : decode cX11_segments 1 = .ok (.istore_n 2, 1) := by decide +kernel
theorem dX11_segments_2 : decode cX11_segments 2 = .ok (.iconst 0, 1) := by decide +kernel
theorem dX11_segments_3 : decode cX11_segments 3 = .ok (.istore_n 3, 1) := by decide +kernel
theorem dX11_segments_4 : decode cX11_segments 4 = .ok (.iload_n 3, 1) := by decide +kernel
theorem dX11_segments_5 : decode cX11_segments 5 = .ok (.bipush 80, 2) := by decide +kernel
theorem dX11_segments_7 : decode cX11_segments 7 = .ok (.if_icmp .ge 110, 3) := by decide +kernel
theorem dX11_segments_10 : decode cX11_segments 10 = .ok (.aload_n 0, 1) := by decide +kernel
theorem dX11_segments_11 : decode cX11_segments 11 = .ok (.getfield 76, 3) := by decide +kernel
theorem dX11_segments_14 : decode cX11_segments 14 = .ok (.iload_n 3, 1) := by decide +kernel
theorem dX11_segments_15 : decode cX11_segments 15 = .ok (.iaload, 1) := by decide +kernel
theorem dX11_segments_16 : decode cX11_segments 16 = .ok (.aload_n 0, 1) := by decide +kernel
theorem dX11_segments_17 : decode cX11_segments 17 = .ok (.getfield 7, 3) := by decide +kernel
theorem dX11_segments_20 : decode cX11_segments 20 = .ok (.iload_n 3, 1) := by decide +kernel
theorem dX11_segments_21 : decode cX11_segments 21 = .ok (.iaload, 1) := by decide +kernel
theorem dX11_segments_22 : decode cX11_segments 22 = .ok (.isub, 1) := by decide +kernel
theorem dX11_segments_23 : decode cX11_segments 23 = .ok (.invokestatic 160, 3) := by decide +kernel
theorem dX11_segments_26 : decode cX11_segments 26 = .ok (.istore 4, 2) := by decide +kernel
theorem dX11_segments_28 : decode cX11_segments 28 = .ok (.aload_n 0, 1) := by decide +kernel
theorem dX11_segments_29 : decode cX11_segments 29 = .ok (.iload_n 3, 1) := by decide +kernel
theorem dX11_segments_30 : decode cX11_segments 30 = .ok (.invokevirtual 214, 3) := by decide +kernel
theorem dX11_segments_33 : decode cX11_segments 33 = .ok (.istore 5, 2) := by decide +kernel
theorem dX11_segments_35 : decode cX11_segments 35 = .ok (.iload_n 2, 1) := by decide +kernel
theorem dX11_segments_36 : decode cX11_segments 36 = .ok (.iload_n 1, 1) := by decide +kernel
theorem dX11_segments_37 : decode cX11_segments 37 = .ok (.iconst 5, 1) := by decide +kernel
theorem dX11_segments_38 : decode cX11_segments 38 = .ok (.if_icmp .ne 8, 3) := by decide +kernel
theorem dX11_segments_41 : decode cX11_segments 41 = .ok (.iload 4, 2) := by decide +kernel
theorem dX11_segments_43 : decode cX11_segments 43 = .ok (.ifCond .gt 46, 3) := by decide +kernel
theorem dX11_segments_46 : decode cX11_segments 46 = .ok (.iload_n 1, 1) := by decide +kernel
theorem dX11_segments_47 : decode cX11_segments 47 = .ok (.bipush 7, 2) := by decide +kernel
theorem dX11_segments_49 : decode cX11_segments 49 = .ok (.if_icmp .ne 9, 3) := by decide +kernel
theorem dX11_segments_52 : decode cX11_segments 52 = .ok (.iload 5, 2) := by decide +kernel
theorem dX11_segments_54 : decode cX11_segments 54 = .ok (.iconst 2, 1) := by decide +kernel
theorem dX11_segments_55 : decode cX11_segments 55 = .ok (.if_icmp .eq 34, 3) := by decide +kernel
theorem dX11_segments_58 : decode cX11_segments 58 = .ok (.iload_n 1, 1) := by decide +kernel
theorem dX11_segments_59 : decode cX11_segments 59 = .ok (.bipush 8, 2) := by decide +kernel
theorem dX11_segments_61 : decode cX11_segments 61 = .ok (.if_icmp .ne 9, 3) := by decide +kernel
theorem dX11_segments_64 : decode cX11_segments 64 = .ok (.iload 5, 2) := by decide +kernel
theorem dX11_segments_66 : decode cX11_segments 66 = .ok (.iconst 1, 1) := by decide +kernel
theorem dX11_segments_67 : decode cX11_segments 67 = .ok (.if_icmp .eq 22, 3) := by decide +kernel
theorem dX11_segments_70 : decode cX11_segments 70 = .ok (.iload_n 1, 1) := by decide +kernel
theorem dX11_segments_71 : decode cX11_segments 71 = .ok (.bipush 8, 2) := by decide +kernel
theorem dX11_segments_73 : decode cX11_segments 73 = .ok (.if_icmp .le 20, 3) := by decide +kernel
theorem dX11_segments_76 : decode cX11_segments 76 = .ok (.aload_n 0, 1) := by decide +kernel
theorem dX11_segments_77 : decode cX11_segments 77 = .ok (.getfield 82, 3) := by decide +kernel
theorem dX11_segments_80 : decode cX11_segments 80 = .ok (.iload_n 3, 1) := by decide +kernel
theorem dX11_segments_81 : decode cX11_segments 81 = .ok (.iaload, 1) := by decide +kernel
theorem dX11_segments_82 : decode cX11_segments 82 = .ok (.iload_n 1, 1) := by decide +kernel
theorem dX11_segments_83 : decode cX11_segments 83 = .ok (.bipush 9, 2) := by decide +kernel
theorem dX11_segments_85 : decode cX11_segments 85 = .ok (.isub, 1) := by decide +kernel
theorem dX11_segments_86 : decode cX11_segments 86 = .ok (.if_icmp .ne 7, 3) := by decide +kernel
theorem dX11_segments_89 : decode cX11_segments 89 = .ok (.iconst 1, 1) := by decide +kernel
theorem dX11_segments_90 : decode cX11_segments 90 = .ok (.goto 4, 3) := by decide +kernel
theorem dX11_segments_93 : decode cX11_segments 93 = .ok (.iconst 0, 1) := by decide +kernel
theorem dX11_segments_94 : decode cX11_segments 94 = .ok (.iadd, 1) := by decide +kernel
theorem dX11_segments_95 : decode cX11_segments 95 = .ok (.istore_n 2, 1) := by decide +kernel
theorem dX11_segments_96 : decode cX11_segments 96 = .ok (.iload_n 2, 1) := by decide +kernel
theorem dX11_segments_97 : decode cX11_segments 97 = .ok (.iload_n 1, 1) := by decide +kernel
theorem dX11_segments_98 : decode cX11_segments 98 = .ok (.bipush 6, 2) := by decide +kernel
theorem dX11_segments_100 : decode cX11_segments 100 = .ok (.if_icmp .ne 8, 3) := by decide +kernel
theorem dX11_segments_103 : decode cX11_segments 103 = .ok (.iload 4, 2) := by decide +kernel
theorem dX11_segments_105 : decode cX11_segments 105 = .ok (.goto 4, 3) := by decide +kernel
theorem dX11_segments_108 : decode cX11_segments 108 = .ok (.iconst 0, 1) := by decide +kernel
theorem dX11_segments_109 : decode cX11_segments 109 = .ok (.iadd, 1) := by decide +kernel
theorem dX11_segments_110 : decode cX11_segments 110 = .ok (.istore_n 2, 1) := by decide +kernel
theorem dX11_segments_111 : decode cX11_segments 111 = .ok (.iinc 3 1, 3) := by decide +kernel
theorem dX11_segments_114 : decode cX11_segments 114 = .ok (.goto (-110), 3) := by decide +kernel
theorem dX11_segments_117 : decode cX11_segments 117 = .ok (.iload_n 2, 1) := by decide +kernel
theorem dX11_segments_118 : decode cX11_segments 118 = .ok (.ireturn, 1) := by decide +kernel
theorem dX11_count_0 : decode cX11_count 0 = .ok (.iload_n 1, 1) := by decide +kernel
theorem dX11_count_1 : decode cX11_count 1 = .ok (.iconst 0, 1) := by decide +kernel
theorem dX11_count_2 : decode cX11_count 2 = .ok (.bipush 18, 2) := by decide +kernel
theorem dX11_count_4 : decode cX11_count 4 = .ok (.invokestatic 103, 3) := by decide +kernel
theorem dX11_count_7 : decode cX11_count 7 = .ok (.ifCond .ne 6, 3) := by decide +kernel
theorem dX11_count_10 : decode cX11_count 10 = .ok (.ldc 119, 2) := by decide +kernel
theorem dX11_count_12 : decode cX11_count 12 = .ok (.ireturn, 1) := by decide +kernel
theorem dX11_count_13 : decode cX11_count 13 = .ok (.iload_n 1, 1) := by decide +kernel
theorem dX11_count_14 : decode cX11_count 14 = .ok (.iconst 1, 1) := by decide +kernel
theorem dX11_count_15 : decode cX11_count 15 = .ok (.bipush 12, 2) := by decide +kernel
theorem dX11_count_17 : decode cX11_count 17 = .ok (.invokestatic 103, 3) := by decide +kernel
theorem dX11_count_20 : decode cX11_count 20 = .ok (.ifCond .eq 33, 3) := by decide +kernel
theorem dX11_count_23 : decode cX11_count 23 = .ok (.aload_n 0, 1) := by decide +kernel
theorem dX11_count_24 : decode cX11_count 24 = .ok (.getfield 189, 3) := by decide +kernel
theorem dX11_count_27 : decode cX11_count 27 = .ok (.ifCond .eq 22, 3) := by decide +kernel
theorem dX11_count_30 : decode cX11_count 30 = .ok (.aload_n 0, 1) := by decide +kernel
theorem dX11_count_31 : decode cX11_count 31 = .ok (.getfield 189, 3) := by decide +kernel
theorem dX11_count_34 : decode cX11_count 34 = .ok (.iconst 1, 1) := by decide +kernel
theorem dX11_count_35 : decode cX11_count 35 = .ok (.if_icmp .ne 18, 3) := by decide +kernel
theorem dX11_count_38 : decode cX11_count 38 = .ok (.iload_n 1, 1) := by decide +kernel
theorem dX11_count_39 : decode cX11_count 39 = .ok (.bipush 7, 2) := by decide +kernel
theorem dX11_count_41 : decode cX11_count 41 = .ok (.bipush 8, 2) := by decide +kernel
theorem dX11_count_43 : decode cX11_count 43 = .ok (.invokestatic 103, 3) := by decide +kernel
theorem dX11_count_46 : decode cX11_count 46 = .ok (.ifCond .eq 7, 3) := by decide +kernel
theorem dX11_count_49 : decode cX11_count 49 = .ok (.iconst 1, 1) := by decide +kernel
theorem dX11_count_50 : decode cX11_count 50 = .ok (.goto 4, 3) := by decide +kernel
theorem dX11_count_53 : decode cX11_count 53 = .ok (.iconst 0, 1) := by decide +kernel
theorem dX11_count_54 : decode cX11_count 54 = .ok (.istore_n 2, 1) := by decide +kernel
theorem dX11_count_55 : decode cX11_count 55 = .ok (.iload_n 2, 1) := by decide +kernel
theorem dX11_count_56 : decode cX11_count 56 = .ok (.ifCond .eq 6, 3) := by decide +kernel
theorem dX11_count_59 : decode cX11_count 59 = .ok (.ldc 132, 2) := by decide +kernel
theorem dX11_count_61 : decode cX11_count 61 = .ok (.ireturn, 1) := by decide +kernel
theorem dX11_count_62 : decode cX11_count 62 = .ok (.iload_n 1, 1) := by decide +kernel
theorem dX11_count_63 : decode cX11_count 63 = .ok (.iconst 5, 1) := by decide +kernel
theorem dX11_count_64 : decode cX11_count 64 = .ok (.bipush 12, 2) := by decide +kernel
theorem dX11_count_66 : decode cX11_count 66 = .ok (.invokestatic 103, 3) := by decide +kernel
theorem dX11_count_69 : decode cX11_count 69 = .ok (.ifCond .eq 9, 3) := by decide +kernel
theorem dX11_count_72 : decode cX11_count 72 = .ok (.aload_n 0, 1) := by decide +kernel
theorem dX11_count_73 : decode cX11_count 73 = .ok (.iload_n 1, 1) := by decide +kernel
theorem dX11_count_74 : decode cX11_count 74 = .ok (.invokevirtual 217, 3) := by decide +kernel
theorem dX11_count_77 : decode cX11_count 77 = .ok (.ireturn, 1) := by decide +kernel
theorem dX11_count_78 : decode cX11_count 78 = .ok (.iload_n 1, 1) := by decide +kernel
theorem dX11_count_79 : decode cX11_count 79 = .ok (.tableswitch 108 0 14 #[73, 78, 83, 88, 93, 108, 108, 108, 108, 108, 108, 108, 108, 98, 103], 73) := by decide +kernel
theorem dX11_count_152 : decode cX11_count 152 = .ok (.aload_n 0, 1) := by decide +kernel
theorem dX11_count_153 : decode cX11_count 153 = .ok (.getfield 189, 3) := by decide +kernel
theorem dX11_count_156 : decode cX11_count 156 = .ok (.ireturn, 1) := by decide +kernel
theorem dX11_count_157 : decode cX11_count 157 = .ok (.aload_n 0, 1) := by decide +kernel
theorem dX11_count_158 : decode cX11_count 158 = .ok (.invokevirtual 199, 3) := by decide +kernel
theorem dX11_count_161 : decode cX11_count 161 = .ok (.ireturn, 1) := by decide +kernel
theorem dX11_count_162 : decode cX11_count 162 = .ok (.aload_n 0, 1) := by decide +kernel
theorem dX11_count_163 : decode cX11_count 163 = .ok (.getfield 163, 3) := by decide +kernel
theorem dX11_count_166 : decode cX11_count 166 = .ok (.ireturn, 1) := by decide +kernel
theorem dX11_count_167 : decode cX11_count 167 = .ok (.aload_n 0, 1) := by decide +kernel
theorem dX11_count_168 : decode cX11_count 168 = .ok (.getfield 166, 3) := by decide +kernel
theorem dX11_count_171 : decode cX11_count 171 = .ok (.ireturn, 1) := by decide +kernel
theorem dX11_count_172 : decode cX11_count 172 = .ok (.aload_n 0, 1) := by decide +kernel
theorem dX11_count_173 : decode cX11_count 173 = .ok (.invokevirtual 220, 3) := by decide +kernel
theorem dX11_count_176 : decode cX11_count 176 = .ok (.ireturn, 1) := by decide +kernel
theorem dX11_count_177 : decode cX11_count 177 = .ok (.aload_n 0, 1) := by decide +kernel
theorem dX11_count_178 : decode cX11_count 178 = .ok (.getfield 124, 3) := by decide +kernel
theorem dX11_count_181 : decode cX11_count 181 = .ok (.ireturn, 1) := by decide +kernel
theorem dX11_count_182 : decode cX11_count 182 = .ok (.aload_n 0, 1) := by decide +kernel
theorem dX11_count_183 : decode cX11_count 183 = .ok (.getfield 128, 3) := by decide +kernel
theorem dX11_count_186 : decode cX11_count 186 = .ok (.ireturn, 1) := by decide +kernel
theorem dX11_count_187 : decode cX11_count 187 = .ok (.aload_n 0, 1) := by decide +kernel
theorem dX11_count_188 : decode cX11_count 188 = .ok (.getfield 35, 3) := by decide +kernel
theorem dX11_count_191 : decode cX11_count 191 = .ok (.iload_n 1, 1) := by decide +kernel
theorem dX11_count_192 : decode cX11_count 192 = .ok (.bipush 15, 2) := by decide +kernel
theorem dX11_count_194 : decode cX11_count 194 = .ok (.isub, 1) := by decide +kernel
theorem dX11_count_195 : decode cX11_count 195 = .ok (.iaload, 1) := by decide +kernel
theorem dX11_count_196 : decode cX11_count 196 = .ok (.ireturn, 1) := by decide +kernel
theorem dJ9_floorDiv_7cf53_0 : decode cJ9_floorDiv_7cf53 0 = .ok (.iload_n 0, 1) := by decide +kernel
theorem dJ9_floorDiv_7cf53_1 : decode cJ9_floorDiv_7cf53 1 = .ok (.iload_n 1, 1) := by decide +kernel
theorem dJ9_floorDiv_7cf53_2 : decode cJ9_floorDiv_7cf53 2 = .ok (.idiv, 1) := by decide +kernel
theorem dJ9_floorDiv_7cf53_3 : decode cJ9_floorDiv_7cf53 3 = .ok (.istore_n 2, 1) := by decide +kernel
theorem dJ9_floorDiv_7cf53_4 : decode cJ9_floorDiv_7cf53 4 = .ok (.iload_n 0, 1) := by decide +kernel
theorem dJ9_floorDiv_7cf53_5 : decode cJ9_floorDiv_7cf53 5 = .ok (.iload_n 1, 1) := by decide +kernel
theorem dJ9_floorDiv_7cf53_6 : decode cJ9_floorDiv_7cf53 6 = .ok (.ixor, 1) := by decide +kernel
theorem dJ9_floorDiv_7cf53_7 : decode cJ9_floorDiv_7cf53 7 = .ok (.ifCond .ge 14, 3) := by decide +kernel
theorem dJ9_floorDiv_7cf53_10 : decode cJ9_floorDiv_7cf53 10 = .ok (.iload_n 2, 1) := by decide +kernel
theorem dJ9_floorDiv_7cf53_11 : decode cJ9_floorDiv_7cf53 11 = .ok (.iload_n 1, 1) := by decide +kernel
theorem dJ9_floorDiv_7cf53_12 : decode cJ9_floorDiv_7cf53 12 = .ok (.imul, 1) := by decide +kernel
theorem dJ9_floorDiv_7cf53_13 : decode cJ9_floorDiv_7cf53 13 = .ok (.iload_n 0, 1) := by decide +kernel
theorem dJ9_floorDiv_7cf53_14 : decode cJ9_floorDiv_7cf53 14 = .ok (.if_icmp .eq 7, 3) := by decide +kernel
theorem dJ9_floorDiv_7cf53_17 : decode cJ9_floorDiv_7cf53 17 = .ok (.iload_n 2, 1) := by decide +kernel
theorem dJ9_floorDiv_7cf53_18 : decode cJ9_floorDiv_7cf53 18 = .ok (.iconst 1, 1) := by decide +kernel
theorem dJ9_floorDiv_7cf53_19 : decode cJ9_floorDiv_7cf53 19 = .ok (.isub, 1) := by decide +kernel
theorem dJ9_floorDiv_7cf53_20 : decode cJ9_floorDiv_7cf53 20 = .ok (.ireturn, 1) := by decide +kernel
theorem dJ9_floorDiv_7cf53_21 : decode cJ9_floorDiv_7cf53 21 = .ok (.iload_n 2, 1) := by decide +kernel
theorem dJ9_floorDiv_7cf53_22 : decode cJ9_floorDiv_7cf53 22 = .ok (.ireturn, 1) := by decide +kernel
theorem dJ9_floorMod_7cf53_0 : decode cJ9_floorMod_7cf53 0 = .ok (.iload_n 0, 1) := by decide +kernel
theorem dJ9_floorMod_7cf53_1 : decode cJ9_floorMod_7cf53 1 = .ok (.iload_n 1, 1) := by decide +kernel
theorem dJ9_floorMod_7cf53_2 : decode cJ9_floorMod_7cf53 2 = .ok (.irem, 1) := by decide +kernel
theorem dJ9_floorMod_7cf53_3 : decode cJ9_floorMod_7cf53 3 = .ok (.istore_n 2, 1) := by decide +kernel
theorem dJ9_floorMod_7cf53_4 : decode cJ9_floorMod_7cf53 4 = .ok (.iload_n 0, 1) := by decide +kernel
theorem dJ9_floorMod_7cf53_5 : decode cJ9_floorMod_7cf53 5 = .ok (.iload_n 1, 1) := by decide +kernel
theorem dJ9_floorMod_7cf53_6 : decode cJ9_floorMod_7cf53 6 = .ok (.ixor, 1) := by decide +kernel
theorem dJ9_floorMod_7cf53_7 : decode cJ9_floorMod_7cf53 7 = .ok (.ifCond .ge 11, 3) := by decide +kernel
theorem dJ9_floorMod_7cf53_10 : decode cJ9_floorMod_7cf53 10 = .ok (.iload_n 2, 1) := by decide +kernel
theorem dJ9_floorMod_7cf53_11 : decode cJ9_floorMod_7cf53 11 = .ok (.ifCond .eq 7, 3) := by decide +kernel
theorem dJ9_floorMod_7cf53_14 : decode cJ9_floorMod_7cf53 14 = .ok (.iload_n 2, 1) := by decide +kernel
theorem dJ9_floorMod_7cf53_15 : decode cJ9_floorMod_7cf53 15 = .ok (.iload_n 1, 1) := by decide +kernel
theorem dJ9_floorMod_7cf53_16 : decode cJ9_floorMod_7cf53 16 = .ok (.iadd, 1) := by decide +kernel
theorem dJ9_floorMod_7cf53_17 : decode cJ9_floorMod_7cf53 17 = .ok (.ireturn, 1) := by decide +kernel
theorem dJ9_floorMod_7cf53_18 : decode cJ9_floorMod_7cf53 18 = .ok (.iload_n 2, 1) := by decide +kernel
theorem dJ9_floorMod_7cf53_19 : decode cJ9_floorMod_7cf53 19 = .ok (.ireturn, 1) := by decide +kernel
theorem dJ9_abs_0f7a4_0 : decode cJ9_abs_0f7a4 0 = .ok (.iload_n 0, 1) := by decide +kernel
theorem dJ9_abs_0f7a4_1 : decode cJ9_abs_0f7a4 1 = .ok (.ifCond .ge 8, 3) := by decide +kernel
theorem dJ9_abs_0f7a4_4 : decode cJ9_abs_0f7a4 4 = .ok (.iload_n 0, 1) := by decide +kernel
theorem dJ9_abs_0f7a4_5 : decode cJ9_abs_0f7a4 5 = .ok (.ineg, 1) := by decide +kernel
theorem dJ9_abs_0f7a4_6 : decode cJ9_abs_0f7a4 6 = .ok (.goto 4, 3) := by decide +kernel
theorem dJ9_abs_0f7a4_9 : decode cJ9_abs_0f7a4 9 = .ok (.iload_n 0, 1) := by decide +kernel
theorem dJ9_abs_0f7a4_10 : decode cJ9_abs_0f7a4 10 = .ok (.ireturn, 1) := by decide +kernel
theorem dL_law_0 : decode cL_law 0 = .ok (.new 7, 3) := by decide +kernel
theorem dL_law_3 : decode cL_law 3 = .ok (.dup, 1) := by decide +kernel
theorem dL_law_4 : decode cL_law 4 = .ok (.invokespecial 9, 3) := by decide +kernel
theorem dL_law_7 : decode cL_law 7 = .ok (.astore_n 1, 1) := by decide +kernel
theorem dL_law_8 : decode cL_law 8 = .ok (.new 10, 3) := by decide +kernel
theorem dL_law_11 : decode cL_law 11 = .ok (.dup, 1) := by decide +kernel
theorem dL_law_12 : decode cL_law 12 = .ok (.invokespecial 12, 3) := by decide +kernel
theorem dL_law_15 : decode cL_law 15 = .ok (.astore_n 2, 1) := by decide +kernel
theorem dL_law_16 : decode cL_law 16 = .ok (.iconst 0, 1) := by decide +kernel
theorem dL_law_17 : decode cL_law 17 = .ok (.istore_n 3, 1) := by decide +kernel
theorem dL_law_18 : decode cL_law 18 = .ok (.iload_n 3, 1) := by decide +kernel
theorem dL_law_19 : decode cL_law 19 = .ok (.aload_n 0, 1) := by decide +kernel
theorem dL_law_20 : decode cL_law 20 = .ok (.arraylength, 1) := by decide +kernel
theorem dL_law_21 : decode cL_law 21 = .ok (.bipush 6, 2) := by decide +kernel
theorem dL_law_23 : decode cL_law 23 = .ok (.isub, 1) := by decide +kernel
theorem dL_law_24 : decode cL_law 24 = .ok (.if_icmp .gt 888, 3) := by decide +kernel
theorem dL_law_27 : decode cL_law 27 = .ok (.aload_n 0, 1) := by decide +kernel
theorem dL_law_28 : decode cL_law 28 = .ok (.iload_n 3, 1) := by decide +kernel
theorem dL_law_29 : decode cL_law 29 = .ok (.iaload, 1) := by decide +kernel
theorem dL_law_30 : decode cL_law 30 = .ok (.bipush 31, 2) := by decide +kernel
theorem dL_law_32 : decode cL_law 32 = .ok (.iand, 1) := by decide +kernel
theorem dL_law_33 : decode cL_law 33 = .ok (.tableswitch 873 0 19 #[95, 158, 211, 274, 323, 346, 371, 384, 407, 440, 473, 486, 519, 552, 585, 648, 711, 754, 817, 850], 95) := by decide +kernel
theorem dL_law_128 : decode cL_law 128 = .ok (.aload_n 1, 1) := by decide +kernel
theorem dL_law_129 : decode cL_law 129 = .ok (.aload_n 0, 1) := by decide +kernel
theorem dL_law_130 : decode cL_law 130 = .ok (.iload_n 3, 1) := by decide +kernel
theorem dL_law_131 : decode cL_law 131 = .ok (.iconst 1, 1) := by decide +kernel
theorem dL_law_132 : decode cL_law 132 = .ok (.iadd, 1) := by decide +kernel
theorem dL_law_133 : decode cL_law 133 = .ok (.iaload, 1) := by decide +kernel
theorem dL_law_134 : decode cL_law 134 = .ok (.aload_n 0, 1) := by decide +kernel
theorem dL_law_135 : decode cL_law 135 = .ok (.iload_n 3, 1) := by decide +kernel
theorem dL_law_136 : decode cL_law 136 = .ok (.iconst 2, 1) := by decide +kernel
theorem dL_law_137 : decode cL_law 137 = .ok (.iadd, 1) := by decide +kernel
theorem dL_law_138 : decode cL_law 138 = .ok (.iaload, 1) := by decide +kernel
theorem dL_law_139 : decode cL_law 139 = .ok (.aload_n 0, 1) := by decide +kernel
theorem dL_law_140 : decode cL_law 140 = .ok (.iload_n 3, 1) := by decide +kernel
theorem dL_law_141 : decode cL_law 141 = .ok (.iconst 3, 1) := by decide +kernel
theorem dL_law_142 : decode cL_law 142 = .ok (.iadd, 1) := by decide +kernel
theorem dL_law_143 : decode cL_law 143 = .ok (.iaload, 1) := by decide +kernel
theorem dL_law_144 : decode cL_law 144 = .ok (.aload_n 0, 1) := by decide +kernel
theorem dL_law_145 : decode cL_law 145 = .ok (.iload_n 3, 1) := by decide +kernel
theorem dL_law_146 : decode cL_law 146 = .ok (.iconst 4, 1) := by decide +kernel
theorem dL_law_147 : decode cL_law 147 = .ok (.iadd, 1) := by decide +kernel
theorem dL_law_148 : decode cL_law 148 = .ok (.iaload, 1) := by decide +kernel
theorem dL_law_149 : decode cL_law 149 = .ok (.aload_n 0, 1) := by decide +kernel
theorem dL_law_150 : decode cL_law 150 = .ok (.iload_n 3, 1) := by decide +kernel
theorem dL_law_151 : decode cL_law 151 = .ok (.iconst 5, 1) := by decide +kernel
theorem dL_law_152 : decode cL_law 152 = .ok (.iadd, 1) := by decide +kernel
theorem dL_law_153 : decode cL_law 153 = .ok (.iaload, 1) := by decide +kernel
theorem dL_law_154 : decode cL_law 154 = .ok (.invokevirtual 13, 3) := by decide +kernel
theorem dL_law_157 : decode cL_law 157 = .ok (.aload_n 2, 1) := by decide +kernel
theorem dL_law_158 : decode cL_law 158 = .ok (.aload_n 0, 1) := by decide +kernel
theorem dL_law_159 : decode cL_law 159 = .ok (.iload_n 3, 1) := by decide +kernel
theorem dL_law_160 : decode cL_law 160 = .ok (.iconst 1, 1) := by decide +kernel
theorem dL_law_161 : decode cL_law 161 = .ok (.iadd, 1) := by decide +kernel
theorem dL_law_162 : decode cL_law 162 = .ok (.iaload, 1) := by decide +kernel
theorem dL_law_163 : decode cL_law 163 = .ok (.aload_n 0, 1) := by decide +kernel
theorem dL_law_164 : decode cL_law 164 = .ok (.iload_n 3, 1) := by decide +kernel
theorem dL_law_165 : decode cL_law 165 = .ok (.iconst 2, 1) := by decide +kernel
theorem dL_law_166 : decode cL_law 166 = .ok (.iadd, 1) := by decide +kernel
theorem dL_law_167 : decode cL_law 167 = .ok (.iaload, 1) := by decide +kernel
theorem dL_law_168 : decode cL_law 168 = .ok (.aload_n 0, 1) := by decide +kernel
theorem dL_law_169 : decode cL_law 169 = .ok (.iload_n 3, 1) := by decide +kernel
theorem dL_law_170 : decode cL_law 170 = .ok (.iconst 3, 1) := by decide +kernel
theorem dL_law_171 : decode cL_law 171 = .ok (.iadd, 1) := by decide +kernel
theorem dL_law_172 : decode cL_law 172 = .ok (.iaload, 1) := by decide +kernel
theorem dL_law_173 : decode cL_law 173 = .ok (.aload_n 0, 1) := by decide +kernel
theorem dL_law_174 : decode cL_law 174 = .ok (.iload_n 3, 1) := by decide +kernel
theorem dL_law_175 : decode cL_law 175 = .ok (.iconst 4, 1) := by decide +kernel
theorem dL_law_176 : decode cL_law 176 = .ok (.iadd, 1) := by decide +kernel
theorem dL_law_177 : decode cL_law 177 = .ok (.iaload, 1) := by decide +kernel
theorem dL_law_178 : decode cL_law 178 = .ok (.aload_n 0, 1) := by decide +kernel
theorem dL_law_179 : decode cL_law 179 = .ok (.iload_n 3, 1) := by decide +kernel
theorem dL_law_180 : decode cL_law 180 = .ok (.iconst 5, 1) := by decide +kernel
theorem dL_law_181 : decode cL_law 181 = .ok (.iadd, 1) := by decide +kernel
theorem dL_law_182 : decode cL_law 182 = .ok (.iaload, 1) := by decide +kernel
theorem dL_law_183 : decode cL_law 183 = .ok (.invokevirtual 17, 3) := by decide +kernel
theorem dL_law_186 : decode cL_law 186 = .ok (.if_icmp .eq 720, 3) := by decide +kernel
theorem dL_law_189 : decode cL_law 189 = .ok (.iconst 0, 1) := by decide +kernel
theorem dL_law_190 : decode cL_law 190 = .ok (.ireturn, 1) := by decide +kernel
theorem dL_law_191 : decode cL_law 191 = .ok (.aload_n 1, 1) := by decide +kernel
theorem dL_law_192 : decode cL_law 192 = .ok (.aload_n 0, 1) := by decide +kernel
theorem dL_law_193 : decode cL_law 193 = .ok (.iload_n 3, 1) := by decide +kernel
theorem dL_law_194 : decode cL_law 194 = .ok (.iconst 1, 1) := by decide +kernel
theorem dL_law_195 : decode cL_law 195 = .ok (.iadd, 1) := by decide +kernel
theorem dL_law_196 : decode cL_law 196 = .ok (.iaload, 1) := by decide +kernel
theorem dL_law_197 : decode cL_law 197 = .ok (.aload_n 0, 1) := by decide +kernel
theorem dL_law_198 : decode cL_law 198 = .ok (.iload_n 3, 1) := by decide +kernel
theorem dL_law_199 : decode cL_law 199 = .ok (.iconst 2, 1) := by decide +kernel
theorem dL_law_200 : decode cL_law 200 = .ok (.iadd, 1) := by decide +kernel
theorem dL_law_201 : decode cL_law 201 = .ok (.iaload, 1) := by decide +kernel
theorem dL_law_202 : decode cL_law 202 = .ok (.aload_n 0, 1) := by decide +kernel
theorem dL_law_203 : decode cL_law 203 = .ok (.iload_n 3, 1) := by decide +kernel
theorem dL_law_204 : decode cL_law 204 = .ok (.iconst 3, 1) := by decide +kernel
theorem dL_law_205 : decode cL_law 205 = .ok (.iadd, 1) := by decide +kernel
theorem dL_law_206 : decode cL_law 206 = .ok (.iaload, 1) := by decide +kernel
theorem dL_law_207 : decode cL_law 207 = .ok (.aload_n 0, 1) := by decide +kernel
theorem dL_law_208 : decode cL_law 208 = .ok (.iload_n 3, 1) := by decide +kernel
theorem dL_law_209 : decode cL_law 209 = .ok (.iconst 4, 1) := by decide +kernel
theorem dL_law_210 : decode cL_law 210 = .ok (.iadd, 1) := by decide +kernel
theorem dL_law_211 : decode cL_law 211 = .ok (.iaload, 1) := by decide +kernel
theorem dL_law_212 : decode cL_law 212 = .ok (.invokevirtual 18, 3) := by decide +kernel
theorem dL_law_215 : decode cL_law 215 = .ok (.aload_n 2, 1) := by decide +kernel
theorem dL_law_216 : decode cL_law 216 = .ok (.aload_n 0, 1) := by decide +kernel
theorem dL_law_217 : decode cL_law 217 = .ok (.iload_n 3, 1) := by decide +kernel
theorem dL_law_218 : decode cL_law 218 = .ok (.iconst 1, 1) := by decide +kernel
theorem dL_law_219 : decode cL_law 219 = .ok (.iadd, 1) := by decide +kernel
theorem dL_law_220 : decode cL_law 220 = .ok (.iaload, 1) := by decide +kernel
theorem dL_law_221 : decode cL_law 221 = .ok (.aload_n 0, 1) := by decide +kernel
theorem dL_law_222 : decode cL_law 222 = .ok (.iload_n 3, 1) := by decide +kernel
theorem dL_law_223 : decode cL_law 223 = .ok (.iconst 2, 1) := by decide +kernel
theorem dL_law_224 : decode cL_law 224 = .ok (.iadd, 1) := by decide +kernel
theorem dL_law_225 : decode cL_law 225 = .ok (.iaload, 1) := by decide +kernel
theorem dL_law_226 : decode cL_law 226 = .ok (.aload_n 0, 1) := by decide +kernel
theorem dL_law_227 : decode cL_law 227 = .ok (.iload_n 3, 1) := by decide +kernel
theorem dL_law_228 : decode cL_law 228 = .ok (.iconst 3, 1) := by decide +kernel
theorem dL_law_229 : decode cL_law 229 = .ok (.iadd, 1) := by decide +kernel
theorem dL_law_230 : decode cL_law 230 = .ok (.iaload, 1) := by decide +kernel
theorem dL_law_231 : decode cL_law 231 = .ok (.aload_n 0, 1) := by decide +kernel
theorem dL_law_232 : decode cL_law 232 = .ok (.iload_n 3, 1) := by decide +kernel
theorem dL_law_233 : decode cL_law 233 = .ok (.iconst 4, 1) := by decide +kernel
theorem dL_law_234 : decode cL_law 234 = .ok (.iadd, 1) := by decide +kernel
theorem dL_law_235 : decode cL_law 235 = .ok (.iaload, 1) := by decide +kernel
theorem dL_law_236 : decode cL_law 236 = .ok (.invokevirtual 22, 3) := by decide +kernel
theorem dL_law_239 : decode cL_law 239 = .ok (.if_icmp .eq 667, 3) := by decide +kernel
theorem dL_law_242 : decode cL_law 242 = .ok (.iconst 0, 1) := by decide +kernel
theorem dL_law_243 : decode cL_law 243 = .ok (.ireturn, 1) := by decide +kernel
theorem dL_law_244 : decode cL_law 244 = .ok (.aload_n 1, 1) := by decide +kernel
theorem dL_law_245 : decode cL_law 245 = .ok (.aload_n 0, 1) := by decide +kernel
theorem dL_law_246 : decode cL_law 246 = .ok (.iload_n 3, 1) := by decide +kernel
theorem dL_law_247 : decode cL_law 247 = .ok (.iconst 1, 1) := by decide +kernel
theorem dL_law_248 : decode cL_law 248 = .ok (.iadd, 1) := by decide +kernel
theorem dL_law_249 : decode cL_law 249 = .ok (.iaload, 1) := by decide +kernel
theorem dL_law_250 : decode cL_law 250 = .ok (.aload_n 0, 1) := by decide +kernel
theorem dL_law_251 : decode cL_law 251 = .ok (.iload_n 3, 1) := by decide +kernel
theorem dL_law_252 : decode cL_law 252 = .ok (.iconst 2, 1) := by decide +kernel
theorem dL_law_253 : decode cL_law 253 = .ok (.iadd, 1) := by decide +kernel
theorem dL_law_254 : decode cL_law 254 = .ok (.iaload, 1) := by decide +kernel
theorem dL_law_255 : decode cL_law 255 = .ok (.aload_n 0, 1) := by decide +kernel
theorem dL_law_256 : decode cL_law 256 = .ok (.iload_n 3, 1) := by decide +kernel
theorem dL_law_257 : decode cL_law 257 = .ok (.iconst 3, 1) := by decide +kernel
theorem dL_law_258 : decode cL_law 258 = .ok (.iadd, 1) := by decide +kernel
theorem dL_law_259 : decode cL_law 259 = .ok (.iaload, 1) := by decide +kernel
theorem dL_law_260 : decode cL_law 260 = .ok (.aload_n 0, 1) := by decide +kernel
theorem dL_law_261 : decode cL_law 261 = .ok (.iload_n 3, 1) := by decide +kernel
theorem dL_law_262 : decode cL_law 262 = .ok (.iconst 4, 1) := by decide +kernel
theorem dL_law_263 : decode cL_law 263 = .ok (.iadd, 1) := by decide +kernel
theorem dL_law_264 : decode cL_law 264 = .ok (.iaload, 1) := by decide +kernel
theorem dL_law_265 : decode cL_law 265 = .ok (.aload_n 0, 1) := by decide +kernel
theorem dL_law_266 : decode cL_law 266 = .ok (.iload_n 3, 1) := by decide +kernel
theorem dL_law_267 : decode cL_law 267 = .ok (.iconst 5, 1) := by decide +kernel
theorem dL_law_268 : decode cL_law 268 = .ok (.iadd, 1) := by decide +kernel
theorem dL_law_269 : decode cL_law 269 = .ok (.iaload, 1) := by decide +kernel
theorem dL_law_270 : decode cL_law 270 = .ok (.invokevirtual 23, 3) := by decide +kernel
theorem dL_law_273 : decode cL_law 273 = .ok (.aload_n 2, 1) := by decide +kernel
theorem dL_law_274 : decode cL_law 274 = .ok (.aload_n 0, 1) := by decide +kernel
theorem dL_law_275 : decode cL_law 275 = .ok (.iload_n 3, 1) := by decide +kernel
theorem dL_law_276 : decode cL_law 276 = .ok (.iconst 1, 1) := by decide +kernel
theorem dL_law_277 : decode cL_law 277 = .ok (.iadd, 1) := by decide +kernel
theorem dL_law_278 : decode cL_law 278 = .ok (.iaload, 1) := by decide +kernel
theorem dL_law_279 : decode cL_law 279 = .ok (.aload_n 0, 1) := by decide +kernel
theorem dL_law_280 : decode cL_law 280 = .ok (.iload_n 3, 1) := by decide +kernel
theorem dL_law_281 : decode cL_law 281 = .ok (.iconst 2, 1) := by decide +kernel
theorem dL_law_282 : decode cL_law 282 = .ok (.iadd, 1) := by decide +kernel
theorem dL_law_283 : decode cL_law 283 = .ok (.iaload, 1) := by decide +kernel
theorem dL_law_284 : decode cL_law 284 = .ok (.aload_n 0, 1) := by decide +kernel
theorem dL_law_285 : decode cL_law 285 = .ok (.iload_n 3, 1) := by decide +kernel
theorem dL_law_286 : decode cL_law 286 = .ok (.iconst 3, 1) := by decide +kernel
theorem dL_law_287 : decode cL_law 287 = .ok (.iadd, 1) := by decide +kernel
theorem dL_law_288 : decode cL_law 288 = .ok (.iaload, 1) := by decide +kernel
theorem dL_law_289 : decode cL_law 289 = .ok (.aload_n 0, 1) := by decide +kernel
theorem dL_law_290 : decode cL_law 290 = .ok (.iload_n 3, 1) := by decide +kernel
theorem dL_law_291 : decode cL_law 291 = .ok (.iconst 4, 1) := by decide +kernel
theorem dL_law_292 : decode cL_law 292 = .ok (.iadd, 1) := by decide +kernel
theorem dL_law_293 : decode cL_law 293 = .ok (.iaload, 1) := by decide +kernel
theorem dL_law_294 : decode cL_law 294 = .ok (.aload_n 0, 1) := by decide +kernel
theorem dL_law_295 : decode cL_law 295 = .ok (.iload_n 3, 1) := by decide +kernel
theorem dL_law_296 : decode cL_law 296 = .ok (.iconst 5, 1) := by decide +kernel
theorem dL_law_297 : decode cL_law 297 = .ok (.iadd, 1) := by decide +kernel
theorem dL_law_298 : decode cL_law 298 = .ok (.iaload, 1) := by decide +kernel
theorem dL_law_299 : decode cL_law 299 = .ok (.invokevirtual 26, 3) := by decide +kernel
theorem dL_law_302 : decode cL_law 302 = .ok (.if_icmp .eq 604, 3) := by decide +kernel
theorem dL_law_305 : decode cL_law 305 = .ok (.iconst 0, 1) := by decide +kernel
theorem dL_law_306 : decode cL_law 306 = .ok (.ireturn, 1) := by decide +kernel
theorem dL_law_307 : decode cL_law 307 = .ok (.aload_n 1, 1) := by decide +kernel
theorem dL_law_308 : decode cL_law 308 = .ok (.aload_n 0, 1) := by decide +kernel
theorem dL_law_309 : decode cL_law 309 = .ok (.iload_n 3, 1) := by decide +kernel
theorem dL_law_310 : decode cL_law 310 = .ok (.iconst 1, 1) := by decide +kernel
theorem dL_law_311 : decode cL_law 311 = .ok (.iadd, 1) := by decide +kernel
theorem dL_law_312 : decode cL_law 312 = .ok (.iaload, 1) := by decide +kernel
theorem dL_law_313 : decode cL_law 313 = .ok (.aload_n 0, 1) := by decide +kernel
theorem dL_law_314 : decode cL_law 314 = .ok (.iload_n 3, 1) := by decide +kernel
theorem dL_law_315 : decode cL_law 315 = .ok (.iconst 2, 1) := by decide +kernel
theorem dL_law_316 : decode cL_law 316 = .ok (.iadd, 1) := by decide +kernel
theorem dL_law_317 : decode cL_law 317 = .ok (.iaload, 1) := by decide +kernel
theorem dL_law_318 : decode cL_law 318 = .ok (.ifCond .eq 7, 3) := by decide +kernel
theorem dL_law_321 : decode cL_law 321 = .ok (.iconst 1, 1) := by decide +kernel
theorem dL_law_322 : decode cL_law 322 = .ok (.goto 4, 3) := by decide +kernel
theorem dL_law_325 : decode cL_law 325 = .ok (.iconst 0, 1) := by decide +kernel
theorem dL_law_326 : decode cL_law 326 = .ok (.invokevirtual 27, 3) := by decide +kernel
theorem dL_law_329 : decode cL_law 329 = .ok (.aload_n 2, 1) := by decide +kernel
theorem dL_law_330 : decode cL_law 330 = .ok (.aload_n 0, 1) := by decide +kernel
theorem dL_law_331 : decode cL_law 331 = .ok (.iload_n 3, 1) := by decide +kernel
theorem dL_law_332 : decode cL_law 332 = .ok (.iconst 1, 1) := by decide +kernel
theorem dL_law_333 : decode cL_law 333 = .ok (.iadd, 1) := by decide +kernel
theorem dL_law_334 : decode cL_law 334 = .ok (.iaload, 1) := by decide +kernel
theorem dL_law_335 : decode cL_law 335 = .ok (.aload_n 0, 1) := by decide +kernel
theorem dL_law_336 : decode cL_law 336 = .ok (.iload_n 3, 1) := by decide +kernel
theorem dL_law_337 : decode cL_law 337 = .ok (.iconst 2, 1) := by decide +kernel
theorem dL_law_338 : decode cL_law 338 = .ok (.iadd, 1) := by decide +kernel
theorem dL_law_339 : decode cL_law 339 = .ok (.iaload, 1) := by decide +kernel
theorem dL_law_340 : decode cL_law 340 = .ok (.ifCond .eq 7, 3) := by decide +kernel
theorem dL_law_343 : decode cL_law 343 = .ok (.iconst 1, 1) := by decide +kernel
theorem dL_law_344 : decode cL_law 344 = .ok (.goto 4, 3) := by decide +kernel
theorem dL_law_347 : decode cL_law 347 = .ok (.iconst 0, 1) := by decide +kernel
theorem dL_law_348 : decode cL_law 348 = .ok (.invokevirtual 31, 3) := by decide +kernel
theorem dL_law_351 : decode cL_law 351 = .ok (.if_icmp .eq 555, 3) := by decide +kernel
theorem dL_law_354 : decode cL_law 354 = .ok (.iconst 0, 1) := by decide +kernel
theorem dL_law_355 : decode cL_law 355 = .ok (.ireturn, 1) := by decide +kernel
theorem dL_law_356 : decode cL_law 356 = .ok (.aload_n 1, 1) := by decide +kernel
theorem dL_law_357 : decode cL_law 357 = .ok (.aload_n 0, 1) := by decide +kernel
theorem dL_law_358 : decode cL_law 358 = .ok (.iload_n 3, 1) := by decide +kernel
theorem dL_law_359 : decode cL_law 359 = .ok (.iconst 1, 1) := by decide +kernel
theorem dL_law_360 : decode cL_law 360 = .ok (.iadd, 1) := by decide +kernel
theorem dL_law_361 : decode cL_law 361 = .ok (.iaload, 1) := by decide +kernel
theorem dL_law_362 : decode cL_law 362 = .ok (.invokevirtual 32, 3) := by decide +kernel
theorem dL_law_365 : decode cL_law 365 = .ok (.aload_n 2, 1) := by decide +kernel
theorem dL_law_366 : decode cL_law 366 = .ok (.aload_n 0, 1) := by decide +kernel
theorem dL_law_367 : decode cL_law 367 = .ok (.iload_n 3, 1) := by decide +kernel
theorem dL_law_368 : decode cL_law 368 = .ok (.iconst 1, 1) := by decide +kernel
theorem dL_law_369 : decode cL_law 369 = .ok (.iadd, 1) := by decide +kernel
theorem dL_law_370 : decode cL_law 370 = .ok (.iaload, 1) := by decide +kernel
theorem dL_law_371 : decode cL_law 371 = .ok (.invokevirtual 36, 3) := by decide +kernel
theorem dL_law_374 : decode cL_law 374 = .ok (.if_icmp .eq 532, 3) := by decide +kernel
theorem dL_law_377 : decode cL_law 377 = .ok (.iconst 0, 1) := by decide +kernel
theorem dL_law_378 : decode cL_law 378 = .ok (.ireturn, 1) := by decide +kernel
theorem dL_law_379 : decode cL_law 379 = .ok (.aload_n 1, 1) := by decide +kernel
theorem dL_law_380 : decode cL_law 380 = .ok (.aload_n 0, 1) := by decide +kernel
theorem dL_law_381 : decode cL_law 381 = .ok (.iload_n 3, 1) := by decide +kernel
theorem dL_law_382 : decode cL_law 382 = .ok (.iconst 1, 1) := by decide +kernel
theorem dL_law_383 : decode cL_law 383 = .ok (.iadd, 1) := by decide +kernel
theorem dL_law_384 : decode cL_law 384 = .ok (.iaload, 1) := by decide +kernel
theorem dL_law_385 : decode cL_law 385 = .ok (.i2c, 1) := by decide +kernel
theorem dL_law_386 : decode cL_law 386 = .ok (.invokevirtual 37, 3) := by decide +kernel
theorem dL_law_389 : decode cL_law 389 = .ok (.aload_n 2, 1) := by decide +kernel
theorem dL_law_390 : decode cL_law 390 = .ok (.aload_n 0, 1) := by decide +kernel
theorem dL_law_391 : decode cL_law 391 = .ok (.iload_n 3, 1) := by decide +kernel
theorem dL_law_392 : decode cL_law 392 = .ok (.iconst 1, 1) := by decide +kernel
theorem dL_law_393 : decode cL_law 393 = .ok (.iadd, 1) := by decide +kernel
theorem dL_law_394 : decode cL_law 394 = .ok (.iaload, 1) := by decide +kernel
theorem dL_law_395 : decode cL_law 395 = .ok (.i2c, 1) := by decide +kernel
theorem dL_law_396 : decode cL_law 396 = .ok (.invokevirtual 41, 3) := by decide +kernel
theorem dL_law_399 : decode cL_law 399 = .ok (.if_icmp .eq 507, 3) := by decide +kernel
theorem dL_law_402 : decode cL_law 402 = .ok (.iconst 0, 1) := by decide +kernel
theorem dL_law_403 : decode cL_law 403 = .ok (.ireturn, 1) := by decide +kernel
theorem dL_law_404 : decode cL_law 404 = .ok (.aload_n 1, 1) := by decide +kernel
theorem dL_law_405 : decode cL_law 405 = .ok (.invokevirtual 42, 3) := by decide +kernel
theorem dL_law_408 : decode cL_law 408 = .ok (.aload_n 2, 1) := by decide +kernel
theorem dL_law_409 : decode cL_law 409 = .ok (.invokevirtual 46, 3) := by decide +kernel
theorem dL_law_412 : decode cL_law 412 = .ok (.if_icmp .eq 494, 3) := by decide +kernel
theorem dL_law_415 : decode cL_law 415 = .ok (.iconst 0, 1) := by decide +kernel
theorem dL_law_416 : decode cL_law 416 = .ok (.ireturn, 1) := by decide +kernel
theorem dL_law_417 : decode cL_law 417 = .ok (.aload_n 1, 1) := by decide +kernel
theorem dL_law_418 : decode cL_law 418 = .ok (.aload_n 0, 1) := by decide +kernel
theorem dL_law_419 : decode cL_law 419 = .ok (.iload_n 3, 1) := by decide +kernel
theorem dL_law_420 : decode cL_law 420 = .ok (.iconst 1, 1) := by decide +kernel
theorem dL_law_421 : decode cL_law 421 = .ok (.iadd, 1) := by decide +kernel
theorem dL_law_422 : decode cL_law 422 = .ok (.iaload, 1) := by decide +kernel
theorem dL_law_423 : decode cL_law 423 = .ok (.invokevirtual 47, 3) := by decide +kernel
theorem dL_law_426 : decode cL_law 426 = .ok (.aload_n 2, 1) := by decide +kernel
theorem dL_law_427 : decode cL_law 427 = .ok (.aload_n 0, 1) := by decide +kernel
theorem dL_law_428 : decode cL_law 428 = .ok (.iload_n 3, 1) := by decide +kernel
theorem dL_law_429 : decode cL_law 429 = .ok (.iconst 1, 1) := by decide +kernel
theorem dL_law_430 : decode cL_law 430 = .ok (.iadd, 1) := by decide +kernel
theorem dL_law_431 : decode cL_law 431 = .ok (.iaload, 1) := by decide +kernel
theorem dL_law_432 : decode cL_law 432 = .ok (.invokevirtual 50, 3) := by decide +kernel
theorem dL_law_435 : decode cL_law 435 = .ok (.if_icmp .eq 471, 3) := by decide +kernel
theorem dL_law_438 : decode cL_law 438 = .ok (.iconst 0, 1) := by decide +kernel
theorem dL_law_439 : decode cL_law 439 = .ok (.ireturn, 1) := by decide +kernel
theorem dL_law_440 : decode cL_law 440 = .ok (.aload_n 1, 1) := by decide +kernel
theorem dL_law_441 : decode cL_law 441 = .ok (.aload_n 0, 1) := by decide +kernel
theorem dL_law_442 : decode cL_law 442 = .ok (.iload_n 3, 1) := by decide +kernel
theorem dL_law_443 : decode cL_law 443 = .ok (.iconst 1, 1) := by decide +kernel
theorem dL_law_444 : decode cL_law 444 = .ok (.iadd, 1) := by decide +kernel
theorem dL_law_445 : decode cL_law 445 = .ok (.iaload, 1) := by decide +kernel
theorem dL_law_446 : decode cL_law 446 = .ok (.aload_n 0, 1) := by decide +kernel
theorem dL_law_447 : decode cL_law 447 = .ok (.iload_n 3, 1) := by decide +kernel
theorem dL_law_448 : decode cL_law 448 = .ok (.iconst 2, 1) := by decide +kernel
theorem dL_law_449 : decode cL_law 449 = .ok (.iadd, 1) := by decide +kernel
theorem dL_law_450 : decode cL_law 450 = .ok (.iaload, 1) := by decide +kernel
theorem dL_law_451 : decode cL_law 451 = .ok (.invokevirtual 51, 3) := by decide +kernel
theorem dL_law_454 : decode cL_law 454 = .ok (.aload_n 2, 1) := by decide +kernel
theorem dL_law_455 : decode cL_law 455 = .ok (.aload_n 0, 1) := by decide +kernel
theorem dL_law_456 : decode cL_law 456 = .ok (.iload_n 3, 1) := by decide +kernel
theorem dL_law_457 : decode cL_law 457 = .ok (.iconst 1, 1) := by decide +kernel
theorem dL_law_458 : decode cL_law 458 = .ok (.iadd, 1) := by decide +kernel
theorem dL_law_459 : decode cL_law 459 = .ok (.iaload, 1) := by decide +kernel
theorem dL_law_460 : decode cL_law 460 = .ok (.aload_n 0, 1) := by decide +kernel
theorem dL_law_461 : decode cL_law 461 = .ok (.iload_n 3, 1) := by decide +kernel
theorem dL_law_462 : decode cL_law 462 = .ok (.iconst 2, 1) := by decide +kernel
theorem dL_law_463 : decode cL_law 463 = .ok (.iadd, 1) := by decide +kernel
theorem dL_law_464 : decode cL_law 464 = .ok (.iaload, 1) := by decide +kernel
theorem dL_law_465 : decode cL_law 465 = .ok (.invokevirtual 55, 3) := by decide +kernel
theorem dL_law_468 : decode cL_law 468 = .ok (.if_icmp .eq 438, 3) := by decide +kernel
theorem dL_law_471 : decode cL_law 471 = .ok (.iconst 0, 1) := by decide +kernel
theorem dL_law_472 : decode cL_law 472 = .ok (.ireturn, 1) := by decide +kernel
theorem dL_law_473 : decode cL_law 473 = .ok (.aload_n 1, 1) := by decide +kernel
theorem dL_law_474 : decode cL_law 474 = .ok (.aload_n 0, 1) := by decide +kernel
theorem dL_law_475 : decode cL_law 475 = .ok (.iload_n 3, 1) := by decide +kernel
theorem dL_law_476 : decode cL_law 476 = .ok (.iconst 1, 1) := by decide +kernel
theorem dL_law_477 : decode cL_law 477 = .ok (.iadd, 1) := by decide +kernel
theorem dL_law_478 : decode cL_law 478 = .ok (.iaload, 1) := by decide +kernel
theorem dL_law_479 : decode cL_law 479 = .ok (.aload_n 0, 1) := by decide +kernel
theorem dL_law_480 : decode cL_law 480 = .ok (.iload_n 3, 1) := by decide +kernel
theorem dL_law_481 : decode cL_law 481 = .ok (.iconst 2, 1) := by decide +kernel
theorem dL_law_482 : decode cL_law 482 = .ok (.iadd, 1) := by decide +kernel
theorem dL_law_483 : decode cL_law 483 = .ok (.iaload, 1) := by decide +kernel
theorem dL_law_484 : decode cL_law 484 = .ok (.invokevirtual 56, 3) := by decide +kernel
theorem dL_law_487 : decode cL_law 487 = .ok (.aload_n 2, 1) := by decide +kernel
theorem dL_law_488 : decode cL_law 488 = .ok (.aload_n 0, 1) := by decide +kernel
theorem dL_law_489 : decode cL_law 489 = .ok (.iload_n 3, 1) := by decide +kernel
theorem dL_law_490 : decode cL_law 490 = .ok (.iconst 1, 1) := by decide +kernel
theorem dL_law_491 : decode cL_law 491 = .ok (.iadd, 1) := by decide +kernel
theorem dL_law_492 : decode cL_law 492 = .ok (.iaload, 1) := by decide +kernel
theorem dL_law_493 : decode cL_law 493 = .ok (.aload_n 0, 1) := by decide +kernel
theorem dL_law_494 : decode cL_law 494 = .ok (.iload_n 3, 1) := by decide +kernel
theorem dL_law_495 : decode cL_law 495 = .ok (.iconst 2, 1) := by decide +kernel
theorem dL_law_496 : decode cL_law 496 = .ok (.iadd, 1) := by decide +kernel
theorem dL_law_497 : decode cL_law 497 = .ok (.iaload, 1) := by decide +kernel
theorem dL_law_498 : decode cL_law 498 = .ok (.invokevirtual 59, 3) := by decide +kernel
theorem dL_law_501 : decode cL_law 501 = .ok (.if_icmp .eq 405, 3) := by decide +kernel
theorem dL_law_504 : decode cL_law 504 = .ok (.iconst 0, 1) := by decide +kernel
theorem dL_law_505 : decode cL_law 505 = .ok (.ireturn, 1) := by decide +kernel
theorem dL_law_506 : decode cL_law 506 = .ok (.aload_n 1, 1) := by decide +kernel
theorem dL_law_507 : decode cL_law 507 = .ok (.invokevirtual 60, 3) := by decide +kernel
theorem dL_law_510 : decode cL_law 510 = .ok (.aload_n 2, 1) := by decide +kernel
theorem dL_law_511 : decode cL_law 511 = .ok (.invokevirtual 63, 3) := by decide +kernel
theorem dL_law_514 : decode cL_law 514 = .ok (.if_icmp .eq 392, 3) := by decide +kernel
theorem dL_law_517 : decode cL_law 517 = .ok (.iconst 0, 1) := by decide +kernel
theorem dL_law_518 : decode cL_law 518 = .ok (.ireturn, 1) := by decide +kernel
theorem dL_law_519 : decode cL_law 519 = .ok (.aload_n 1, 1) := by decide +kernel
theorem dL_law_520 : decode cL_law 520 = .ok (.aload_n 0, 1) := by decide +kernel
theorem dL_law_521 : decode cL_law 521 = .ok (.iload_n 3, 1) := by decide +kernel
theorem dL_law_522 : decode cL_law 522 = .ok (.iconst 1, 1) := by decide +kernel
theorem dL_law_523 : decode cL_law 523 = .ok (.iadd, 1) := by decide +kernel
theorem dL_law_524 : decode cL_law 524 = .ok (.iaload, 1) := by decide +kernel
theorem dL_law_525 : decode cL_law 525 = .ok (.aload_n 0, 1) := by decide +kernel
theorem dL_law_526 : decode cL_law 526 = .ok (.iload_n 3, 1) := by decide +kernel
theorem dL_law_527 : decode cL_law 527 = .ok (.iconst 2, 1) := by decide +kernel
theorem dL_law_528 : decode cL_law 528 = .ok (.iadd, 1) := by decide +kernel
theorem dL_law_529 : decode cL_law 529 = .ok (.iaload, 1) := by decide +kernel
theorem dL_law_530 : decode cL_law 530 = .ok (.invokevirtual 64, 3) := by decide +kernel
theorem dL_law_533 : decode cL_law 533 = .ok (.aload_n 2, 1) := by decide +kernel
theorem dL_law_534 : decode cL_law 534 = .ok (.aload_n 0, 1) := by decide +kernel
theorem dL_law_535 : decode cL_law 535 = .ok (.iload_n 3, 1) := by decide +kernel
theorem dL_law_536 : decode cL_law 536 = .ok (.iconst 1, 1) := by decide +kernel
theorem dL_law_537 : decode cL_law 537 = .ok (.iadd, 1) := by decide +kernel
theorem dL_law_538 : decode cL_law 538 = .ok (.iaload, 1) := by decide +kernel
theorem dL_law_539 : decode cL_law 539 = .ok (.aload_n 0, 1) := by decide +kernel
theorem dL_law_540 : decode cL_law 540 = .ok (.iload_n 3, 1) := by decide +kernel
theorem dL_law_541 : decode cL_law 541 = .ok (.iconst 2, 1) := by decide +kernel
theorem dL_law_542 : decode cL_law 542 = .ok (.iadd, 1) := by decide +kernel
theorem dL_law_543 : decode cL_law 543 = .ok (.iaload, 1) := by decide +kernel
theorem dL_law_544 : decode cL_law 544 = .ok (.invokevirtual 67, 3) := by decide +kernel
theorem dL_law_547 : decode cL_law 547 = .ok (.if_icmp .eq 359, 3) := by decide +kernel
theorem dL_law_550 : decode cL_law 550 = .ok (.iconst 0, 1) := by decide +kernel
theorem dL_law_551 : decode cL_law 551 = .ok (.ireturn, 1) := by decide +kernel
theorem dL_law_552 : decode cL_law 552 = .ok (.aload_n 1, 1) := by decide +kernel
theorem dL_law_553 : decode cL_law 553 = .ok (.aload_n 0, 1) := by decide +kernel
theorem dL_law_554 : decode cL_law 554 = .ok (.iload_n 3, 1) := by decide +kernel
theorem dL_law_555 : decode cL_law 555 = .ok (.iconst 1, 1) := by decide +kernel
theorem dL_law_556 : decode cL_law 556 = .ok (.iadd, 1) := by decide +kernel
theorem dL_law_557 : decode cL_law 557 = .ok (.iaload, 1) := by decide +kernel
theorem dL_law_558 : decode cL_law 558 = .ok (.aload_n 0, 1) := by decide +kernel
theorem dL_law_559 : decode cL_law 559 = .ok (.iload_n 3, 1) := by decide +kernel
theorem dL_law_560 : decode cL_law 560 = .ok (.iconst 2, 1) := by decide +kernel
theorem dL_law_561 : decode cL_law 561 = .ok (.iadd, 1) := by decide +kernel
theorem dL_law_562 : decode cL_law 562 = .ok (.iaload, 1) := by decide +kernel
theorem dL_law_563 : decode cL_law 563 = .ok (.invokevirtual 68, 3) := by decide +kernel
theorem dL_law_566 : decode cL_law 566 = .ok (.aload_n 2, 1) := by decide +kernel
theorem dL_law_567 : decode cL_law 567 = .ok (.aload_n 0, 1) := by decide +kernel
theorem dL_law_568 : decode cL_law 568 = .ok (.iload_n 3, 1) := by decide +kernel
theorem dL_law_569 : decode cL_law 569 = .ok (.iconst 1, 1) := by decide +kernel
theorem dL_law_570 : decode cL_law 570 = .ok (.iadd, 1) := by decide +kernel
theorem dL_law_571 : decode cL_law 571 = .ok (.iaload, 1) := by decide +kernel
theorem dL_law_572 : decode cL_law 572 = .ok (.aload_n 0, 1) := by decide +kernel
theorem dL_law_573 : decode cL_law 573 = .ok (.iload_n 3, 1) := by decide +kernel
theorem dL_law_574 : decode cL_law 574 = .ok (.iconst 2, 1) := by decide +kernel
theorem dL_law_575 : decode cL_law 575 = .ok (.iadd, 1) := by decide +kernel
theorem dL_law_576 : decode cL_law 576 = .ok (.iaload, 1) := by decide +kernel
theorem dL_law_577 : decode cL_law 577 = .ok (.invokevirtual 71, 3) := by decide +kernel
theorem dL_law_580 : decode cL_law 580 = .ok (.if_icmp .eq 326, 3) := by decide +kernel
theorem dL_law_583 : decode cL_law 583 = .ok (.iconst 0, 1) := by decide +kernel
theorem dL_law_584 : decode cL_law 584 = .ok (.ireturn, 1) := by decide +kernel
theorem dL_law_585 : decode cL_law 585 = .ok (.aload_n 1, 1) := by decide +kernel
theorem dL_law_586 : decode cL_law 586 = .ok (.aload_n 0, 1) := by decide +kernel
theorem dL_law_587 : decode cL_law 587 = .ok (.iload_n 3, 1) := by decide +kernel
theorem dL_law_588 : decode cL_law 588 = .ok (.iconst 1, 1) := by decide +kernel
theorem dL_law_589 : decode cL_law 589 = .ok (.iadd, 1) := by decide +kernel
theorem dL_law_590 : decode cL_law 590 = .ok (.iaload, 1) := by decide +kernel
theorem dL_law_591 : decode cL_law 591 = .ok (.aload_n 0, 1) := by decide +kernel
theorem dL_law_592 : decode cL_law 592 = .ok (.iload_n 3, 1) := by decide +kernel
theorem dL_law_593 : decode cL_law 593 = .ok (.iconst 2, 1) := by decide +kernel
theorem dL_law_594 : decode cL_law 594 = .ok (.iadd, 1) := by decide +kernel
theorem dL_law_595 : decode cL_law 595 = .ok (.iaload, 1) := by decide +kernel
theorem dL_law_596 : decode cL_law 596 = .ok (.invokevirtual 72, 3) := by decide +kernel
theorem dL_law_599 : decode cL_law 599 = .ok (.aload_n 2, 1) := by decide +kernel
theorem dL_law_600 : decode cL_law 600 = .ok (.aload_n 0, 1) := by decide +kernel
theorem dL_law_601 : decode cL_law 601 = .ok (.iload_n 3, 1) := by decide +kernel
theorem dL_law_602 : decode cL_law 602 = .ok (.iconst 1, 1) := by decide +kernel
theorem dL_law_603 : decode cL_law 603 = .ok (.iadd, 1) := by decide +kernel
theorem dL_law_604 : decode cL_law 604 = .ok (.iaload, 1) := by decide +kernel
theorem dL_law_605 : decode cL_law 605 = .ok (.aload_n 0, 1) := by decide +kernel
theorem dL_law_606 : decode cL_law 606 = .ok (.iload_n 3, 1) := by decide +kernel
theorem dL_law_607 : decode cL_law 607 = .ok (.iconst 2, 1) := by decide +kernel
theorem dL_law_608 : decode cL_law 608 = .ok (.iadd, 1) := by decide +kernel
theorem dL_law_609 : decode cL_law 609 = .ok (.iaload, 1) := by decide +kernel
theorem dL_law_610 : decode cL_law 610 = .ok (.invokevirtual 75, 3) := by decide +kernel
theorem dL_law_613 : decode cL_law 613 = .ok (.if_icmp .eq 293, 3) := by decide +kernel
theorem dL_law_616 : decode cL_law 616 = .ok (.iconst 0, 1) := by decide +kernel
theorem dL_law_617 : decode cL_law 617 = .ok (.ireturn, 1) := by decide +kernel
theorem dL_law_618 : decode cL_law 618 = .ok (.aload_n 1, 1) := by decide +kernel
theorem dL_law_619 : decode cL_law 619 = .ok (.aload_n 0, 1) := by decide +kernel
theorem dL_law_620 : decode cL_law 620 = .ok (.iload_n 3, 1) := by decide +kernel
theorem dL_law_621 : decode cL_law 621 = .ok (.iconst 1, 1) := by decide +kernel
theorem dL_law_622 : decode cL_law 622 = .ok (.iadd, 1) := by decide +kernel
theorem dL_law_623 : decode cL_law 623 = .ok (.iaload, 1) := by decide +kernel
theorem dL_law_624 : decode cL_law 624 = .ok (.aload_n 0, 1) := by decide +kernel
theorem dL_law_625 : decode cL_law 625 = .ok (.iload_n 3, 1) := by decide +kernel
theorem dL_law_626 : decode cL_law 626 = .ok (.iconst 2, 1) := by decide +kernel
theorem dL_law_627 : decode cL_law 627 = .ok (.iadd, 1) := by decide +kernel
theorem dL_law_628 : decode cL_law 628 = .ok (.iaload, 1) := by decide +kernel
theorem dL_law_629 : decode cL_law 629 = .ok (.invokevirtual 76, 3) := by decide +kernel
theorem dL_law_632 : decode cL_law 632 = .ok (.f2d, 1) := by decide +kernel
theorem dL_law_633 : decode cL_law 633 = .ok (.dstore 4, 2) := by decide +kernel
theorem dL_law_635 : decode cL_law 635 = .ok (.aload_n 2, 1) := by decide +kernel
theorem dL_law_636 : decode cL_law 636 = .ok (.aload_n 0, 1) := by decide +kernel
theorem dL_law_637 : decode cL_law 637 = .ok (.iload_n 3, 1) := by decide +kernel
theorem dL_law_638 : decode cL_law 638 = .ok (.iconst 1, 1) := by decide +kernel
theorem dL_law_639 : decode cL_law 639 = .ok (.iadd, 1) := by decide +kernel
theorem dL_law_640 : decode cL_law 640 = .ok (.iaload, 1) := by decide +kernel
theorem dL_law_641 : decode cL_law 641 = .ok (.aload_n 0, 1) := by decide +kernel
theorem dL_law_642 : decode cL_law 642 = .ok (.iload_n 3, 1) := by decide +kernel
theorem dL_law_643 : decode cL_law 643 = .ok (.iconst 2, 1) := by decide +kernel
theorem dL_law_644 : decode cL_law 644 = .ok (.iadd, 1) := by decide +kernel
theorem dL_law_645 : decode cL_law 645 = .ok (.iaload, 1) := by decide +kernel
theorem dL_law_646 : decode cL_law 646 = .ok (.invokevirtual 80, 3) := by decide +kernel
theorem dL_law_649 : decode cL_law 649 = .ok (.f2d, 1) := by decide +kernel
theorem dL_law_650 : decode cL_law 650 = .ok (.dstore 6, 2) := by decide +kernel
theorem dL_law_652 : decode cL_law 652 = .ok (.dload 4, 2) := by decide +kernel
theorem dL_law_654 : decode cL_law 654 = .ok (.dload 6, 2) := by decide +kernel
theorem dL_law_656 : decode cL_law 656 = .ok (.dcmp .l, 1) := by decide +kernel
theorem dL_law_657 : decode cL_law 657 = .ok (.ifCond .eq 21, 3) := by decide +kernel
theorem dL_law_660 : decode cL_law 660 = .ok (.dload 4, 2) := by decide +kernel
theorem dL_law_662 : decode cL_law 662 = .ok (.dload 4, 2) := by decide +kernel
theorem dL_law_664 : decode cL_law 664 = .ok (.dcmp .l, 1) := by decide +kernel
theorem dL_law_665 : decode cL_law 665 = .ok (.ifCond .eq 11, 3) := by decide +kernel
theorem dL_law_668 : decode cL_law 668 = .ok (.dload 6, 2) := by decide +kernel
theorem dL_law_670 : decode cL_law 670 = .ok (.dload 6, 2) := by decide +kernel
theorem dL_law_672 : decode cL_law 672 = .ok (.dcmp .l, 1) := by decide +kernel
theorem dL_law_673 : decode cL_law 673 = .ok (.ifCond .ne 5, 3) := by decide +kernel
theorem dL_law_676 : decode cL_law 676 = .ok (.iconst 0, 1) := by decide +kernel
theorem dL_law_677 : decode cL_law 677 = .ok (.ireturn, 1) := by decide +kernel
theorem dL_law_678 : decode cL_law 678 = .ok (.goto 228, 3) := by decide +kernel
theorem dL_law_681 : decode cL_law 681 = .ok (.aload_n 1, 1) := by decide +kernel
theorem dL_law_682 : decode cL_law 682 = .ok (.aload_n 0, 1) := by decide +kernel
theorem dL_law_683 : decode cL_law 683 = .ok (.iload_n 3, 1) := by decide +kernel
theorem dL_law_684 : decode cL_law 684 = .ok (.iconst 1, 1) := by decide +kernel
theorem dL_law_685 : decode cL_law 685 = .ok (.iadd, 1) := by decide +kernel
theorem dL_law_686 : decode cL_law 686 = .ok (.iaload, 1) := by decide +kernel
theorem dL_law_687 : decode cL_law 687 = .ok (.aload_n 0, 1) := by decide +kernel
theorem dL_law_688 : decode cL_law 688 = .ok (.iload_n 3, 1) := by decide +kernel
theorem dL_law_689 : decode cL_law 689 = .ok (.iconst 2, 1) := by decide +kernel
theorem dL_law_690 : decode cL_law 690 = .ok (.iadd, 1) := by decide +kernel
theorem dL_law_691 : decode cL_law 691 = .ok (.iaload, 1) := by decide +kernel
theorem dL_law_692 : decode cL_law 692 = .ok (.invokevirtual 81, 3) := by decide +kernel
theorem dL_law_695 : decode cL_law 695 = .ok (.f2d, 1) := by decide +kernel
theorem dL_law_696 : decode cL_law 696 = .ok (.dstore 4, 2) := by decide +kernel
theorem dL_law_698 : decode cL_law 698 = .ok (.aload_n 2, 1) := by decide +kernel
theorem dL_law_699 : decode cL_law 699 = .ok (.aload_n 0, 1) := by decide +kernel
theorem dL_law_700 : decode cL_law 700 = .ok (.iload_n 3, 1) := by decide +kernel
theorem dL_law_701 : decode cL_law 701 = .ok (.iconst 1, 1) := by decide +kernel
theorem dL_law_702 : decode cL_law 702 = .ok (.iadd, 1) := by decide +kernel
theorem dL_law_703 : decode cL_law 703 = .ok (.iaload, 1) := by decide +kernel
theorem dL_law_704 : decode cL_law 704 = .ok (.aload_n 0, 1) := by decide +kernel
theorem dL_law_705 : decode cL_law 705 = .ok (.iload_n 3, 1) := by decide +kernel
theorem dL_law_706 : decode cL_law 706 = .ok (.iconst 2, 1) := by decide +kernel
theorem dL_law_707 : decode cL_law 707 = .ok (.iadd, 1) := by decide +kernel
theorem dL_law_708 : decode cL_law 708 = .ok (.iaload, 1) := by decide +kernel
theorem dL_law_709 : decode cL_law 709 = .ok (.invokevirtual 84, 3) := by decide +kernel
theorem dL_law_712 : decode cL_law 712 = .ok (.f2d, 1) := by decide +kernel
theorem dL_law_713 : decode cL_law 713 = .ok (.dstore 6, 2) := by decide +kernel
theorem dL_law_715 : decode cL_law 715 = .ok (.dload 4, 2) := by decide +kernel
theorem dL_law_717 : decode cL_law 717 = .ok (.dload 6, 2) := by decide +kernel
theorem dL_law_719 : decode cL_law 719 = .ok (.dcmp .l, 1) := by decide +kernel
theorem dL_law_720 : decode cL_law 720 = .ok (.ifCond .eq 21, 3) := by decide +kernel
theorem dL_law_723 : decode cL_law 723 = .ok (.dload 4, 2) := by decide +kernel
theorem dL_law_725 : decode cL_law 725 = .ok (.dload 4, 2) := by decide +kernel
theorem dL_law_727 : decode cL_law 727 = .ok (.dcmp .l, 1) := by decide +kernel
theorem dL_law_728 : decode cL_law 728 = .ok (.ifCond .eq 11, 3) := by decide +kernel
theorem dL_law_731 : decode cL_law 731 = .ok (.dload 6, 2) := by decide +kernel
theorem dL_law_733 : decode cL_law 733 = .ok (.dload 6, 2) := by decide +kernel
theorem dL_law_735 : decode cL_law 735 = .ok (.dcmp .l, 1) := by decide +kernel
theorem dL_law_736 : decode cL_law 736 = .ok (.ifCond .ne 5, 3) := by decide +kernel
theorem dL_law_739 : decode cL_law 739 = .ok (.iconst 0, 1) := by decide +kernel
theorem dL_law_740 : decode cL_law 740 = .ok (.ireturn, 1) := by decide +kernel
theorem dL_law_741 : decode cL_law 741 = .ok (.goto 165, 3) := by decide +kernel
theorem dL_law_744 : decode cL_law 744 = .ok (.aload_n 1, 1) := by decide +kernel
theorem dL_law_745 : decode cL_law 745 = .ok (.aload_n 0, 1) := by decide +kernel
theorem dL_law_746 : decode cL_law 746 = .ok (.iload_n 3, 1) := by decide +kernel
theorem dL_law_747 : decode cL_law 747 = .ok (.iconst 1, 1) := by decide +kernel
theorem dL_law_748 : decode cL_law 748 = .ok (.iadd, 1) := by decide +kernel
theorem dL_law_749 : decode cL_law 749 = .ok (.iaload, 1) := by decide +kernel
theorem dL_law_750 : decode cL_law 750 = .ok (.aload_n 0, 1) := by decide +kernel
theorem dL_law_751 : decode cL_law 751 = .ok (.iload_n 3, 1) := by decide +kernel
theorem dL_law_752 : decode cL_law 752 = .ok (.iconst 2, 1) := by decide +kernel
theorem dL_law_753 : decode cL_law 753 = .ok (.iadd, 1) := by decide +kernel
theorem dL_law_754 : decode cL_law 754 = .ok (.iaload, 1) := by decide +kernel
theorem dL_law_755 : decode cL_law 755 = .ok (.aload_n 0, 1) := by decide +kernel
theorem dL_law_756 : decode cL_law 756 = .ok (.iload_n 3, 1) := by decide +kernel
theorem dL_law_757 : decode cL_law 757 = .ok (.iconst 3, 1) := by decide +kernel
theorem dL_law_758 : decode cL_law 758 = .ok (.iadd, 1) := by decide +kernel
theorem dL_law_759 : decode cL_law 759 = .ok (.iaload, 1) := by decide +kernel
theorem dL_law_760 : decode cL_law 760 = .ok (.invokevirtual 85, 3) := by decide +kernel
theorem dL_law_763 : decode cL_law 763 = .ok (.aload_n 2, 1) := by decide +kernel
theorem dL_law_764 : decode cL_law 764 = .ok (.aload_n 0, 1) := by decide +kernel
theorem dL_law_765 : decode cL_law 765 = .ok (.iload_n 3, 1) := by decide +kernel
theorem dL_law_766 : decode cL_law 766 = .ok (.iconst 1, 1) := by decide +kernel
theorem dL_law_767 : decode cL_law 767 = .ok (.iadd, 1) := by decide +kernel
theorem dL_law_768 : decode cL_law 768 = .ok (.iaload, 1) := by decide +kernel
theorem dL_law_769 : decode cL_law 769 = .ok (.aload_n 0, 1) := by decide +kernel
theorem dL_law_770 : decode cL_law 770 = .ok (.iload_n 3, 1) := by decide +kernel
theorem dL_law_771 : decode cL_law 771 = .ok (.iconst 2, 1) := by decide +kernel
theorem dL_law_772 : decode cL_law 772 = .ok (.iadd, 1) := by decide +kernel
theorem dL_law_773 : decode cL_law 773 = .ok (.iaload, 1) := by decide +kernel
theorem dL_law_774 : decode cL_law 774 = .ok (.aload_n 0, 1) := by decide +kernel
theorem dL_law_775 : decode cL_law 775 = .ok (.iload_n 3, 1) := by decide +kernel
theorem dL_law_776 : decode cL_law 776 = .ok (.iconst 3, 1) := by decide +kernel
theorem dL_law_777 : decode cL_law 777 = .ok (.iadd, 1) := by decide +kernel
theorem dL_law_778 : decode cL_law 778 = .ok (.iaload, 1) := by decide +kernel
theorem dL_law_779 : decode cL_law 779 = .ok (.invokevirtual 89, 3) := by decide +kernel
theorem dL_law_782 : decode cL_law 782 = .ok (.if_icmp .eq 124, 3) := by decide +kernel
theorem dL_law_785 : decode cL_law 785 = .ok (.iconst 0, 1) := by decide +kernel
theorem dL_law_786 : decode cL_law 786 = .ok (.ireturn, 1) := by decide +kernel
theorem dL_law_787 : decode cL_law 787 = .ok (.aload_n 1, 1) := by decide +kernel
theorem dL_law_788 : decode cL_law 788 = .ok (.aload_n 0, 1) := by decide +kernel
theorem dL_law_789 : decode cL_law 789 = .ok (.iload_n 3, 1) := by decide +kernel
theorem dL_law_790 : decode cL_law 790 = .ok (.iconst 1, 1) := by decide +kernel
theorem dL_law_791 : decode cL_law 791 = .ok (.iadd, 1) := by decide +kernel
theorem dL_law_792 : decode cL_law 792 = .ok (.iaload, 1) := by decide +kernel
theorem dL_law_793 : decode cL_law 793 = .ok (.aload_n 0, 1) := by decide +kernel
theorem dL_law_794 : decode cL_law 794 = .ok (.iload_n 3, 1) := by decide +kernel
theorem dL_law_795 : decode cL_law 795 = .ok (.iconst 2, 1) := by decide +kernel
theorem dL_law_796 : decode cL_law 796 = .ok (.iadd, 1) := by decide +kernel
theorem dL_law_797 : decode cL_law 797 = .ok (.iaload, 1) := by decide +kernel
theorem dL_law_798 : decode cL_law 798 = .ok (.invokevirtual 90, 3) := by decide +kernel
theorem dL_law_801 : decode cL_law 801 = .ok (.f2d, 1) := by decide +kernel
theorem dL_law_802 : decode cL_law 802 = .ok (.dstore 4, 2) := by decide +kernel
theorem dL_law_804 : decode cL_law 804 = .ok (.aload_n 2, 1) := by decide +kernel
theorem dL_law_805 : decode cL_law 805 = .ok (.aload_n 0, 1) := by decide +kernel
theorem dL_law_806 : decode cL_law 806 = .ok (.iload_n 3, 1) := by decide +kernel
theorem dL_law_807 : decode cL_law 807 = .ok (.iconst 1, 1) := by decide +kernel
theorem dL_law_808 : decode cL_law 808 = .ok (.iadd, 1) := by decide +kernel
theorem dL_law_809 : decode cL_law 809 = .ok (.iaload, 1) := by decide +kernel
theorem dL_law_810 : decode cL_law 810 = .ok (.aload_n 0, 1) := by decide +kernel
theorem dL_law_811 : decode cL_law 811 = .ok (.iload_n 3, 1) := by decide +kernel
theorem dL_law_812 : decode cL_law 812 = .ok (.iconst 2, 1) := by decide +kernel
theorem dL_law_813 : decode cL_law 813 = .ok (.iadd, 1) := by decide +kernel
theorem dL_law_814 : decode cL_law 814 = .ok (.iaload, 1) := by decide +kernel
theorem dL_law_815 : decode cL_law 815 = .ok (.invokevirtual 93, 3) := by decide +kernel
theorem dL_law_818 : decode cL_law 818 = .ok (.f2d, 1) := by decide +kernel
theorem dL_law_819 : decode cL_law 819 = .ok (.dstore 6, 2) := by decide +kernel
theorem dL_law_821 : decode cL_law 821 = .ok (.dload 4, 2) := by decide +kernel
theorem dL_law_823 : decode cL_law 823 = .ok (.dload 6, 2) := by decide +kernel
theorem dL_law_825 : decode cL_law 825 = .ok (.dcmp .l, 1) := by decide +kernel
theorem dL_law_826 : decode cL_law 826 = .ok (.ifCond .eq 21, 3) := by decide +kernel
theorem dL_law_829 : decode cL_law 829 = .ok (.dload 4, 2) := by decide +kernel
theorem dL_law_831 : decode cL_law 831 = .ok (.dload 4, 2) := by decide +kernel
theorem dL_law_833 : decode cL_law 833 = .ok (.dcmp .l, 1) := by decide +kernel
theorem dL_law_834 : decode cL_law 834 = .ok (.ifCond .eq 11, 3) := by decide +kernel
theorem dL_law_837 : decode cL_law 837 = .ok (.dload 6, 2) := by decide +kernel
theorem dL_law_839 : decode cL_law 839 = .ok (.dload 6, 2) := by decide +kernel
theorem dL_law_841 : decode cL_law 841 = .ok (.dcmp .l, 1) := by decide +kernel
theorem dL_law_842 : decode cL_law 842 = .ok (.ifCond .ne 5, 3) := by decide +kernel
theorem dL_law_845 : decode cL_law 845 = .ok (.iconst 0, 1) := by decide +kernel
theorem dL_law_846 : decode cL_law 846 = .ok (.ireturn, 1) := by decide +kernel
theorem dL_law_847 : decode cL_law 847 = .ok (.goto 59, 3) := by decide +kernel
theorem dL_law_850 : decode cL_law 850 = .ok (.aload_n 1, 1) := by decide +kernel
theorem dL_law_851 : decode cL_law 851 = .ok (.aload_n 0, 1) := by decide +kernel
theorem dL_law_852 : decode cL_law 852 = .ok (.iload_n 3, 1) := by decide +kernel
theorem dL_law_853 : decode cL_law 853 = .ok (.iconst 1, 1) := by decide +kernel
theorem dL_law_854 : decode cL_law 854 = .ok (.iadd, 1) := by decide +kernel
theorem dL_law_855 : decode cL_law 855 = .ok (.iaload, 1) := by decide +kernel
theorem dL_law_856 : decode cL_law 856 = .ok (.aload_n 0, 1) := by decide +kernel
theorem dL_law_857 : decode cL_law 857 = .ok (.iload_n 3, 1) := by decide +kernel
theorem dL_law_858 : decode cL_law 858 = .ok (.iconst 2, 1) := by decide +kernel
theorem dL_law_859 : decode cL_law 859 = .ok (.iadd, 1) := by decide +kernel
theorem dL_law_860 : decode cL_law 860 = .ok (.iaload, 1) := by decide +kernel
theorem dL_law_861 : decode cL_law 861 = .ok (.invokevirtual 94, 3) := by decide +kernel
theorem dL_law_864 : decode cL_law 864 = .ok (.aload_n 2, 1) := by decide +kernel
theorem dL_law_865 : decode cL_law 865 = .ok (.aload_n 0, 1) := by decide +kernel
theorem dL_law_866 : decode cL_law 866 = .ok (.iload_n 3, 1) := by decide +kernel
theorem dL_law_867 : decode cL_law 867 = .ok (.iconst 1, 1) := by decide +kernel
theorem dL_law_868 : decode cL_law 868 = .ok (.iadd, 1) := by decide +kernel
theorem dL_law_869 : decode cL_law 869 = .ok (.iaload, 1) := by decide +kernel
theorem dL_law_870 : decode cL_law 870 = .ok (.aload_n 0, 1) := by decide +kernel
theorem dL_law_871 : decode cL_law 871 = .ok (.iload_n 3, 1) := by decide +kernel
theorem dL_law_872 : decode cL_law 872 = .ok (.iconst 2, 1) := by decide +kernel
theorem dL_law_873 : decode cL_law 873 = .ok (.iadd, 1) := by decide +kernel
theorem dL_law_874 : decode cL_law 874 = .ok (.iaload, 1) := by decide +kernel
theorem dL_law_875 : decode cL_law 875 = .ok (.invokevirtual 97, 3) := by decide +kernel
theorem dL_law_878 : decode cL_law 878 = .ok (.if_icmp .eq 28, 3) := by decide +kernel
theorem dL_law_881 : decode cL_law 881 = .ok (.iconst 0, 1) := by decide +kernel
theorem dL_law_882 : decode cL_law 882 = .ok (.ireturn, 1) := by decide +kernel
theorem dL_law_883 : decode cL_law 883 = .ok (.aload_n 1, 1) := by decide +kernel
theorem dL_law_884 : decode cL_law 884 = .ok (.aload_n 0, 1) := by decide +kernel
theorem dL_law_885 : decode cL_law 885 = .ok (.iload_n 3, 1) := by decide +kernel
theorem dL_law_886 : decode cL_law 886 = .ok (.iconst 1, 1) := by decide +kernel
theorem dL_law_887 : decode cL_law 887 = .ok (.iadd, 1) := by decide +kernel
theorem dL_law_888 : decode cL_law 888 = .ok (.iaload, 1) := by decide +kernel
theorem dL_law_889 : decode cL_law 889 = .ok (.invokevirtual 98, 3) := by decide +kernel
theorem dL_law_892 : decode cL_law 892 = .ok (.aload_n 2, 1) := by decide +kernel
theorem dL_law_893 : decode cL_law 893 = .ok (.aload_n 0, 1) := by decide +kernel
theorem dL_law_894 : decode cL_law 894 = .ok (.iload_n 3, 1) := by decide +kernel
theorem dL_law_895 : decode cL_law 895 = .ok (.iconst 1, 1) := by decide +kernel
theorem dL_law_896 : decode cL_law 896 = .ok (.iadd, 1) := by decide +kernel
theorem dL_law_897 : decode cL_law 897 = .ok (.iaload, 1) := by decide +kernel
theorem dL_law_898 : decode cL_law 898 = .ok (.invokevirtual 101, 3) := by decide +kernel
theorem dL_law_901 : decode cL_law 901 = .ok (.if_icmp .eq 5, 3) := by decide +kernel
theorem dL_law_904 : decode cL_law 904 = .ok (.iconst 0, 1) := by decide +kernel
theorem dL_law_905 : decode cL_law 905 = .ok (.ireturn, 1) := by decide +kernel
theorem dL_law_906 : decode cL_law 906 = .ok (.iinc 3 6, 3) := by decide +kernel
theorem dL_law_909 : decode cL_law 909 = .ok (.goto (-891), 3) := by decide +kernel
theorem dL_law_912 : decode cL_law 912 = .ok (.iconst 1, 1) := by decide +kernel
theorem dL_law_913 : decode cL_law 913 = .ok (.ireturn, 1) := by decide +kernel
