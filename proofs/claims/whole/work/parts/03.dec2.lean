theorem dX5_direction_337 : decode cX5_direction 337 = .ok (.iconst 0, 1) := by decide +kernel
theorem dX5_direction_338 : decode cX5_direction 338 = .ok (.istore 9, 2) := by decide +kernel
theorem dX5_direction_340 : decode cX5_direction 340 = .ok (.iload 8, 2) := by decide +kernel
theorem dX5_direction_342 : decode cX5_direction 342 = .ok (.iconst 1, 1) := by decide +kernel
theorem dX5_direction_343 : decode cX5_direction 343 = .ok (.iadd, 1) := by decide +kernel
theorem dX5_direction_344 : decode cX5_direction 344 = .ok (.istore 10, 2) := by decide +kernel
theorem dX5_direction_346 : decode cX5_direction 346 = .ok (.iload 10, 2) := by decide +kernel
theorem dX5_direction_348 : decode cX5_direction 348 = .ok (.aload_n 0, 1) := by decide +kernel
theorem dX5_direction_349 : decode cX5_direction 349 = .ok (.getfield 16, 3) := by decide +kernel
theorem dX5_direction_352 : decode cX5_direction 352 = .ok (.iload_n 1, 1) := by decide +kernel
theorem dX5_direction_353 : decode cX5_direction 353 = .ok (.iaload, 1) := by decide +kernel
theorem dX5_direction_354 : decode cX5_direction 354 = .ok (.if_icmp .gt 46, 3) := by decide +kernel
theorem dX5_direction_357 : decode cX5_direction 357 = .ok (.iload 9, 2) := by decide +kernel
theorem dX5_direction_359 : decode cX5_direction 359 = .ok (.aload_n 0, 1) := by decide +kernel
theorem dX5_direction_360 : decode cX5_direction 360 = .ok (.getfield 49, 3) := by decide +kernel
theorem dX5_direction_363 : decode cX5_direction 363 = .ok (.iload 10, 2) := by decide +kernel
theorem dX5_direction_365 : decode cX5_direction 365 = .ok (.laload, 1) := by decide +kernel
theorem dX5_direction_366 : decode cX5_direction 366 = .ok (.iload 10, 2) := by decide +kernel
theorem dX5_direction_368 : decode cX5_direction 368 = .ok (.iconst 1, 1) := by decide +kernel
theorem dX5_direction_369 : decode cX5_direction 369 = .ok (.isub, 1) := by decide +kernel
theorem dX5_direction_370 : decode cX5_direction 370 = .ok (.iload 8, 2) := by decide +kernel
theorem dX5_direction_372 : decode cX5_direction 372 = .ok (.isub, 1) := by decide +kernel
theorem dX5_direction_373 : decode cX5_direction 373 = .ok (.lshr, 1) := by decide +kernel
theorem dX5_direction_374 : decode cX5_direction 374 = .ok (.lconst 1, 1) := by decide +kernel
theorem dX5_direction_375 : decode cX5_direction 375 = .ok (.land, 1) := by decide +kernel
theorem dX5_direction_376 : decode cX5_direction 376 = .ok (.lconst 1, 1) := by decide +kernel
theorem dX5_direction_377 : decode cX5_direction 377 = .ok (.lcmp, 1) := by decide +kernel
theorem dX5_direction_378 : decode cX5_direction 378 = .ok (.ifCond .ne 12, 3) := by decide +kernel
theorem dX5_direction_381 : decode cX5_direction 381 = .ok (.iconst 1, 1) := by decide +kernel
theorem dX5_direction_382 : decode cX5_direction 382 = .ok (.iload 10, 2) := by decide +kernel
theorem dX5_direction_384 : decode cX5_direction 384 = .ok (.iconst 1, 1) := by decide +kernel
theorem dX5_direction_385 : decode cX5_direction 385 = .ok (.isub, 1) := by decide +kernel
theorem dX5_direction_386 : decode cX5_direction 386 = .ok (.ishl, 1) := by decide +kernel
theorem dX5_direction_387 : decode cX5_direction 387 = .ok (.goto 4, 3) := by decide +kernel
theorem dX5_direction_390 : decode cX5_direction 390 = .ok (.iconst 0, 1) := by decide +kernel
theorem dX5_direction_391 : decode cX5_direction 391 = .ok (.ior, 1) := by decide +kernel
theorem dX5_direction_392 : decode cX5_direction 392 = .ok (.istore 9, 2) := by decide +kernel
theorem dX5_direction_394 : decode cX5_direction 394 = .ok (.iinc 10 1, 3) := by decide +kernel
theorem dX5_direction_397 : decode cX5_direction 397 = .ok (.goto (-51), 3) := by decide +kernel
theorem dX5_direction_400 : decode cX5_direction 400 = .ok (.aload_n 0, 1) := by decide +kernel
theorem dX5_direction_401 : decode cX5_direction 401 = .ok (.getfield 25, 3) := by decide +kernel
theorem dX5_direction_404 : decode cX5_direction 404 = .ok (.bipush 48, 2) := by decide +kernel
theorem dX5_direction_406 : decode cX5_direction 406 = .ok (.iload_n 1, 1) := by decide +kernel
theorem dX5_direction_407 : decode cX5_direction 407 = .ok (.imul, 1) := by decide +kernel
theorem dX5_direction_408 : decode cX5_direction 408 = .ok (.bipush 8, 2) := by decide +kernel
theorem dX5_direction_410 : decode cX5_direction 410 = .ok (.iload 7, 2) := by decide +kernel
theorem dX5_direction_412 : decode cX5_direction 412 = .ok (.imul, 1) := by decide +kernel
theorem dX5_direction_413 : decode cX5_direction 413 = .ok (.iadd, 1) := by decide +kernel
theorem dX5_direction_414 : decode cX5_direction 414 = .ok (.iload 8, 2) := by decide +kernel
theorem dX5_direction_416 : decode cX5_direction 416 = .ok (.iadd, 1) := by decide +kernel
theorem dX5_direction_417 : decode cX5_direction 417 = .ok (.iload 9, 2) := by decide +kernel
theorem dX5_direction_419 : decode cX5_direction 419 = .ok (.iastore, 1) := by decide +kernel
theorem dX5_direction_420 : decode cX5_direction 420 = .ok (.iinc 8 1, 3) := by decide +kernel
theorem dX5_direction_423 : decode cX5_direction 423 = .ok (.goto (-97), 3) := by decide +kernel
theorem dX5_direction_426 : decode cX5_direction 426 = .ok (.iload 7, 2) := by decide +kernel
theorem dX5_direction_428 : decode cX5_direction 428 = .ok (.ireturn, 1) := by decide +kernel
theorem dX5_turned_0 : decode cX5_turned 0 = .ok (.aload_n 0, 1) := by decide +kernel
theorem dX5_turned_1 : decode cX5_turned 1 = .ok (.iload_n 1, 1) := by decide +kernel
theorem dX5_turned_2 : decode cX5_turned 2 = .ok (.invokevirtual 80, 3) := by decide +kernel
theorem dX5_turned_5 : decode cX5_turned 5 = .ok (.ifCond .ne 9, 3) := by decide +kernel
theorem dX5_turned_8 : decode cX5_turned 8 = .ok (.aload_n 0, 1) := by decide +kernel
theorem dX5_turned_9 : decode cX5_turned 9 = .ok (.iconst (-1), 1) := by decide +kernel
theorem dX5_turned_10 : decode cX5_turned 10 = .ok (.invokevirtual 88, 3) := by decide +kernel
theorem dX5_turned_13 : decode cX5_turned 13 = .ok (.ireturn, 1) := by decide +kernel
theorem dX5_turned_14 : decode cX5_turned 14 = .ok (.aload_n 0, 1) := by decide +kernel
theorem dX5_turned_15 : decode cX5_turned 15 = .ok (.getfield 7, 3) := by decide +kernel
theorem dX5_turned_18 : decode cX5_turned 18 = .ok (.iload_n 1, 1) := by decide +kernel
theorem dX5_turned_19 : decode cX5_turned 19 = .ok (.iaload, 1) := by decide +kernel
theorem dX5_turned_20 : decode cX5_turned 20 = .ok (.iconst 3, 1) := by decide +kernel
theorem dX5_turned_21 : decode cX5_turned 21 = .ok (.if_icmp .eq 13, 3) := by decide +kernel
theorem dX5_turned_24 : decode cX5_turned 24 = .ok (.aload_n 0, 1) := by decide +kernel
theorem dX5_turned_25 : decode cX5_turned 25 = .ok (.getfield 7, 3) := by decide +kernel
theorem dX5_turned_28 : decode cX5_turned 28 = .ok (.iload_n 1, 1) := by decide +kernel
theorem dX5_turned_29 : decode cX5_turned 29 = .ok (.iaload, 1) := by decide +kernel
theorem dX5_turned_30 : decode cX5_turned 30 = .ok (.iconst 4, 1) := by decide +kernel
theorem dX5_turned_31 : decode cX5_turned 31 = .ok (.if_icmp .ne 10, 3) := by decide +kernel
theorem dX5_turned_34 : decode cX5_turned 34 = .ok (.aload_n 0, 1) := by decide +kernel
theorem dX5_turned_35 : decode cX5_turned 35 = .ok (.bipush (-2), 2) := by decide +kernel
theorem dX5_turned_37 : decode cX5_turned 37 = .ok (.invokevirtual 88, 3) := by decide +kernel
theorem dX5_turned_40 : decode cX5_turned 40 = .ok (.ireturn, 1) := by decide +kernel
theorem dX5_turned_41 : decode cX5_turned 41 = .ok (.aload_n 0, 1) := by decide +kernel
theorem dX5_turned_42 : decode cX5_turned 42 = .ok (.getfield 72, 3) := by decide +kernel
theorem dX5_turned_45 : decode cX5_turned 45 = .ok (.bipush 12, 2) := by decide +kernel
theorem dX5_turned_47 : decode cX5_turned 47 = .ok (.if_icmp .ne 10, 3) := by decide +kernel
theorem dX5_turned_50 : decode cX5_turned 50 = .ok (.aload_n 0, 1) := by decide +kernel
theorem dX5_turned_51 : decode cX5_turned 51 = .ok (.bipush (-6), 2) := by decide +kernel
theorem dX5_turned_53 : decode cX5_turned 53 = .ok (.invokevirtual 88, 3) := by decide +kernel
theorem dX5_turned_56 : decode cX5_turned 56 = .ok (.ireturn, 1) := by decide +kernel
theorem dX5_turned_57 : decode cX5_turned 57 = .ok (.aload_n 0, 1) := by decide +kernel
theorem dX5_turned_58 : decode cX5_turned 58 = .ok (.iconst 2, 1) := by decide +kernel
theorem dX5_turned_59 : decode cX5_turned 59 = .ok (.aload_n 0, 1) := by decide +kernel
theorem dX5_turned_60 : decode cX5_turned 60 = .ok (.getfield 13, 3) := by decide +kernel
theorem dX5_turned_63 : decode cX5_turned 63 = .ok (.iload_n 1, 1) := by decide +kernel
theorem dX5_turned_64 : decode cX5_turned 64 = .ok (.iaload, 1) := by decide +kernel
theorem dX5_turned_65 : decode cX5_turned 65 = .ok (.aload_n 0, 1) := by decide +kernel
theorem dX5_turned_66 : decode cX5_turned 66 = .ok (.getfield 16, 3) := by decide +kernel
theorem dX5_turned_69 : decode cX5_turned 69 = .ok (.iload_n 1, 1) := by decide +kernel
theorem dX5_turned_70 : decode cX5_turned 70 = .ok (.iaload, 1) := by decide +kernel
theorem dX5_turned_71 : decode cX5_turned 71 = .ok (.aload_n 0, 1) := by decide +kernel
theorem dX5_turned_72 : decode cX5_turned 72 = .ok (.getfield 19, 3) := by decide +kernel
theorem dX5_turned_75 : decode cX5_turned 75 = .ok (.iload_n 1, 1) := by decide +kernel
theorem dX5_turned_76 : decode cX5_turned 76 = .ok (.iaload, 1) := by decide +kernel
theorem dX5_turned_77 : decode cX5_turned 77 = .ok (.invokevirtual 92, 3) := by decide +kernel
theorem dX5_turned_80 : decode cX5_turned 80 = .ok (.istore_n 2, 1) := by decide +kernel
theorem dX5_turned_81 : decode cX5_turned 81 = .ok (.iconst 0, 1) := by decide +kernel
theorem dX5_turned_82 : decode cX5_turned 82 = .ok (.istore_n 3, 1) := by decide +kernel
theorem dX5_turned_83 : decode cX5_turned 83 = .ok (.iload_n 3, 1) := by decide +kernel
theorem dX5_turned_84 : decode cX5_turned 84 = .ok (.bipush 48, 2) := by decide +kernel
theorem dX5_turned_86 : decode cX5_turned 86 = .ok (.if_icmp .ge 31, 3) := by decide +kernel
theorem dX5_turned_89 : decode cX5_turned 89 = .ok (.aload_n 0, 1) := by decide +kernel
theorem dX5_turned_90 : decode cX5_turned 90 = .ok (.getfield 25, 3) := by decide +kernel
theorem dX5_turned_93 : decode cX5_turned 93 = .ok (.bipush 48, 2) := by decide +kernel
theorem dX5_turned_95 : decode cX5_turned 95 = .ok (.iload_n 2, 1) := by decide +kernel
theorem dX5_turned_96 : decode cX5_turned 96 = .ok (.imul, 1) := by decide +kernel
theorem dX5_turned_97 : decode cX5_turned 97 = .ok (.iload_n 3, 1) := by decide +kernel
theorem dX5_turned_98 : decode cX5_turned 98 = .ok (.iadd, 1) := by decide +kernel
theorem dX5_turned_99 : decode cX5_turned 99 = .ok (.aload_n 0, 1) := by decide +kernel
theorem dX5_turned_100 : decode cX5_turned 100 = .ok (.getfield 25, 3) := by decide +kernel
theorem dX5_turned_103 : decode cX5_turned 103 = .ok (.bipush 48, 2) := by decide +kernel
theorem dX5_turned_105 : decode cX5_turned 105 = .ok (.iload_n 1, 1) := by decide +kernel
theorem dX5_turned_106 : decode cX5_turned 106 = .ok (.imul, 1) := by decide +kernel
theorem dX5_turned_107 : decode cX5_turned 107 = .ok (.iload_n 3, 1) := by decide +kernel
theorem dX5_turned_108 : decode cX5_turned 108 = .ok (.iadd, 1) := by decide +kernel
theorem dX5_turned_109 : decode cX5_turned 109 = .ok (.iaload, 1) := by decide +kernel
theorem dX5_turned_110 : decode cX5_turned 110 = .ok (.iastore, 1) := by decide +kernel
theorem dX5_turned_111 : decode cX5_turned 111 = .ok (.iinc 3 1, 3) := by decide +kernel
theorem dX5_turned_114 : decode cX5_turned 114 = .ok (.goto (-31), 3) := by decide +kernel
theorem dX5_turned_117 : decode cX5_turned 117 = .ok (.iconst 0, 1) := by decide +kernel
theorem dX5_turned_118 : decode cX5_turned 118 = .ok (.istore_n 3, 1) := by decide +kernel
theorem dX5_turned_119 : decode cX5_turned 119 = .ok (.iload_n 3, 1) := by decide +kernel
theorem dX5_turned_120 : decode cX5_turned 120 = .ok (.bipush 6, 2) := by decide +kernel
theorem dX5_turned_122 : decode cX5_turned 122 = .ok (.if_icmp .ge 31, 3) := by decide +kernel
theorem dX5_turned_125 : decode cX5_turned 125 = .ok (.aload_n 0, 1) := by decide +kernel
theorem dX5_turned_126 : decode cX5_turned 126 = .ok (.getfield 28, 3) := by decide +kernel
theorem dX5_turned_129 : decode cX5_turned 129 = .ok (.bipush 6, 2) := by decide +kernel
theorem dX5_turned_131 : decode cX5_turned 131 = .ok (.iload_n 2, 1) := by decide +kernel
theorem dX5_turned_132 : decode cX5_turned 132 = .ok (.imul, 1) := by decide +kernel
theorem dX5_turned_133 : decode cX5_turned 133 = .ok (.iload_n 3, 1) := by decide +kernel
theorem dX5_turned_134 : decode cX5_turned 134 = .ok (.iadd, 1) := by decide +kernel
theorem dX5_turned_135 : decode cX5_turned 135 = .ok (.aload_n 0, 1) := by decide +kernel
theorem dX5_turned_136 : decode cX5_turned 136 = .ok (.getfield 28, 3) := by decide +kernel
theorem dX5_turned_139 : decode cX5_turned 139 = .ok (.bipush 6, 2) := by decide +kernel
theorem dX5_turned_141 : decode cX5_turned 141 = .ok (.iload_n 1, 1) := by decide +kernel
theorem dX5_turned_142 : decode cX5_turned 142 = .ok (.imul, 1) := by decide +kernel
theorem dX5_turned_143 : decode cX5_turned 143 = .ok (.iload_n 3, 1) := by decide +kernel
theorem dX5_turned_144 : decode cX5_turned 144 = .ok (.iadd, 1) := by decide +kernel
theorem dX5_turned_145 : decode cX5_turned 145 = .ok (.iaload, 1) := by decide +kernel
theorem dX5_turned_146 : decode cX5_turned 146 = .ok (.iastore, 1) := by decide +kernel
theorem dX5_turned_147 : decode cX5_turned 147 = .ok (.iinc 3 1, 3) := by decide +kernel
theorem dX5_turned_150 : decode cX5_turned 150 = .ok (.goto (-31), 3) := by decide +kernel
theorem dX5_turned_153 : decode cX5_turned 153 = .ok (.iload_n 2, 1) := by decide +kernel
theorem dX5_turned_154 : decode cX5_turned 154 = .ok (.ireturn, 1) := by decide +kernel
theorem dX5_mask_0 : decode cX5_mask 0 = .ok (.aload_n 0, 1) := by decide +kernel
theorem dX5_mask_1 : decode cX5_mask 1 = .ok (.iload_n 1, 1) := by decide +kernel
theorem dX5_mask_2 : decode cX5_mask 2 = .ok (.iload_n 2, 1) := by decide +kernel
theorem dX5_mask_3 : decode cX5_mask 3 = .ok (.invokevirtual 96, 3) := by decide +kernel
theorem dX5_mask_6 : decode cX5_mask 6 = .ok (.ifCond .ne 9, 3) := by decide +kernel
theorem dX5_mask_9 : decode cX5_mask 9 = .ok (.aload_n 0, 1) := by decide +kernel
theorem dX5_mask_10 : decode cX5_mask 10 = .ok (.iconst (-1), 1) := by decide +kernel
theorem dX5_mask_11 : decode cX5_mask 11 = .ok (.invokevirtual 88, 3) := by decide +kernel
theorem dX5_mask_14 : decode cX5_mask 14 = .ok (.ireturn, 1) := by decide +kernel
theorem dX5_mask_15 : decode cX5_mask 15 = .ok (.aload_n 0, 1) := by decide +kernel
theorem dX5_mask_16 : decode cX5_mask 16 = .ok (.getfield 7, 3) := by decide +kernel
theorem dX5_mask_19 : decode cX5_mask 19 = .ok (.iload_n 1, 1) := by decide +kernel
theorem dX5_mask_20 : decode cX5_mask 20 = .ok (.iaload, 1) := by decide +kernel
theorem dX5_mask_21 : decode cX5_mask 21 = .ok (.iconst 2, 1) := by decide +kernel
theorem dX5_mask_22 : decode cX5_mask 22 = .ok (.if_icmp .eq 10, 3) := by decide +kernel
theorem dX5_mask_25 : decode cX5_mask 25 = .ok (.aload_n 0, 1) := by decide +kernel
theorem dX5_mask_26 : decode cX5_mask 26 = .ok (.bipush (-2), 2) := by decide +kernel
theorem dX5_mask_28 : decode cX5_mask 28 = .ok (.invokevirtual 88, 3) := by decide +kernel
theorem dX5_mask_31 : decode cX5_mask 31 = .ok (.ireturn, 1) := by decide +kernel
theorem dX5_mask_32 : decode cX5_mask 32 = .ok (.iload_n 3, 1) := by decide +kernel
theorem dX5_mask_33 : decode cX5_mask 33 = .ok (.i2l, 1) := by decide +kernel
theorem dX5_mask_34 : decode cX5_mask 34 = .ok (.lconst 0, 1) := by decide +kernel
theorem dX5_mask_35 : decode cX5_mask 35 = .ok (.aload_n 0, 1) := by decide +kernel
theorem dX5_mask_36 : decode cX5_mask 36 = .ok (.getfield 19, 3) := by decide +kernel
theorem dX5_mask_39 : decode cX5_mask 39 = .ok (.iload_n 1, 1) := by decide +kernel
theorem dX5_mask_40 : decode cX5_mask 40 = .ok (.iaload, 1) := by decide +kernel
theorem dX5_mask_41 : decode cX5_mask 41 = .ok (.iconst 1, 1) := by decide +kernel
theorem dX5_mask_42 : decode cX5_mask 42 = .ok (.isub, 1) := by decide +kernel
theorem dX5_mask_43 : decode cX5_mask 43 = .ok (.i2l, 1) := by decide +kernel
theorem dX5_mask_44 : decode cX5_mask 44 = .ok (.invokestatic 76, 3) := by decide +kernel
theorem dX5_mask_47 : decode cX5_mask 47 = .ok (.ifCond .ne 10, 3) := by decide +kernel
theorem dX5_mask_50 : decode cX5_mask 50 = .ok (.aload_n 0, 1) := by decide +kernel
theorem dX5_mask_51 : decode cX5_mask 51 = .ok (.bipush (-3), 2) := by decide +kernel
theorem dX5_mask_53 : decode cX5_mask 53 = .ok (.invokevirtual 88, 3) := by decide +kernel
theorem dX5_mask_56 : decode cX5_mask 56 = .ok (.ireturn, 1) := by decide +kernel
theorem dX5_mask_57 : decode cX5_mask 57 = .ok (.aload_n 0, 1) := by decide +kernel
theorem dX5_mask_58 : decode cX5_mask 58 = .ok (.getfield 28, 3) := by decide +kernel
theorem dX5_mask_61 : decode cX5_mask 61 = .ok (.bipush 6, 2) := by decide +kernel
theorem dX5_mask_63 : decode cX5_mask 63 = .ok (.iload_n 1, 1) := by decide +kernel
theorem dX5_mask_64 : decode cX5_mask 64 = .ok (.imul, 1) := by decide +kernel
theorem dX5_mask_65 : decode cX5_mask 65 = .ok (.iload_n 2, 1) := by decide +kernel
theorem dX5_mask_66 : decode cX5_mask 66 = .ok (.iadd, 1) := by decide +kernel
theorem dX5_mask_67 : decode cX5_mask 67 = .ok (.iaload, 1) := by decide +kernel
theorem dX5_mask_68 : decode cX5_mask 68 = .ok (.istore 4, 2) := by decide +kernel
theorem dX5_mask_70 : decode cX5_mask 70 = .ok (.aload_n 0, 1) := by decide +kernel
theorem dX5_mask_71 : decode cX5_mask 71 = .ok (.getfield 28, 3) := by decide +kernel
theorem dX5_mask_74 : decode cX5_mask 74 = .ok (.bipush 6, 2) := by decide +kernel
theorem dX5_mask_76 : decode cX5_mask 76 = .ok (.iload_n 1, 1) := by decide +kernel
theorem dX5_mask_77 : decode cX5_mask 77 = .ok (.imul, 1) := by decide +kernel
theorem dX5_mask_78 : decode cX5_mask 78 = .ok (.iload_n 2, 1) := by decide +kernel
theorem dX5_mask_79 : decode cX5_mask 79 = .ok (.iadd, 1) := by decide +kernel
theorem dX5_mask_80 : decode cX5_mask 80 = .ok (.iload_n 3, 1) := by decide +kernel
theorem dX5_mask_81 : decode cX5_mask 81 = .ok (.iastore, 1) := by decide +kernel
theorem dX5_mask_82 : decode cX5_mask 82 = .ok (.iload 4, 2) := by decide +kernel
theorem dX5_mask_84 : decode cX5_mask 84 = .ok (.ireturn, 1) := by decide +kernel
theorem dX5_grid_0 : decode cX5_grid 0 = .ok (.iload_n 1, 1) := by decide +kernel
theorem dX5_grid_1 : decode cX5_grid 1 = .ok (.iconst 1, 1) := by decide +kernel
theorem dX5_grid_2 : decode cX5_grid 2 = .ok (.if_icmp .lt 8, 3) := by decide +kernel
theorem dX5_grid_5 : decode cX5_grid 5 = .ok (.iload_n 2, 1) := by decide +kernel
theorem dX5_grid_6 : decode cX5_grid 6 = .ok (.iconst 1, 1) := by decide +kernel
theorem dX5_grid_7 : decode cX5_grid 7 = .ok (.if_icmp .ge 10, 3) := by decide +kernel
theorem dX5_grid_10 : decode cX5_grid 10 = .ok (.aload_n 0, 1) := by decide +kernel
theorem dX5_grid_11 : decode cX5_grid 11 = .ok (.bipush (-4), 2) := by decide +kernel
theorem dX5_grid_13 : decode cX5_grid 13 = .ok (.invokevirtual 88, 3) := by decide +kernel
theorem dX5_grid_16 : decode cX5_grid 16 = .ok (.ireturn, 1) := by decide +kernel
theorem dX5_grid_17 : decode cX5_grid 17 = .ok (.iload_n 1, 1) := by decide +kernel
theorem dX5_grid_18 : decode cX5_grid 18 = .ok (.sipush 256, 3) := by decide +kernel
theorem dX5_grid_21 : decode cX5_grid 21 = .ok (.if_icmp .gt 18, 3) := by decide +kernel
theorem dX5_grid_24 : decode cX5_grid 24 = .ok (.iload_n 2, 1) := by decide +kernel
theorem dX5_grid_25 : decode cX5_grid 25 = .ok (.bipush 6, 2) := by decide +kernel
theorem dX5_grid_27 : decode cX5_grid 27 = .ok (.if_icmp .gt 12, 3) := by decide +kernel
theorem dX5_grid_30 : decode cX5_grid 30 = .ok (.aload_n 0, 1) := by decide +kernel
theorem dX5_grid_31 : decode cX5_grid 31 = .ok (.getfield 72, 3) := by decide +kernel
theorem dX5_grid_34 : decode cX5_grid 34 = .ok (.bipush 12, 2) := by decide +kernel
theorem dX5_grid_36 : decode cX5_grid 36 = .ok (.if_icmp .ne 10, 3) := by decide +kernel
theorem dX5_grid_39 : decode cX5_grid 39 = .ok (.aload_n 0, 1) := by decide +kernel
theorem dX5_grid_40 : decode cX5_grid 40 = .ok (.bipush (-6), 2) := by decide +kernel
theorem dX5_grid_42 : decode cX5_grid 42 = .ok (.invokevirtual 88, 3) := by decide +kernel
theorem dX5_grid_45 : decode cX5_grid 45 = .ok (.ireturn, 1) := by decide +kernel
theorem dX5_grid_46 : decode cX5_grid 46 = .ok (.aload_n 0, 1) := by decide +kernel
theorem dX5_grid_47 : decode cX5_grid 47 = .ok (.iconst 3, 1) := by decide +kernel
theorem dX5_grid_48 : decode cX5_grid 48 = .ok (.iload_n 2, 1) := by decide +kernel
theorem dX5_grid_49 : decode cX5_grid 49 = .ok (.iconst (-1), 1) := by decide +kernel
theorem dX5_grid_50 : decode cX5_grid 50 = .ok (.iload_n 1, 1) := by decide +kernel
theorem dX5_grid_51 : decode cX5_grid 51 = .ok (.invokevirtual 92, 3) := by decide +kernel
theorem dX5_grid_54 : decode cX5_grid 54 = .ok (.ireturn, 1) := by decide +kernel
theorem dX5_step_0 : decode cX5_step 0 = .ok (.aload_n 0, 1) := by decide +kernel
theorem dX5_step_1 : decode cX5_step 1 = .ok (.iload_n 1, 1) := by decide +kernel
theorem dX5_step_2 : decode cX5_step 2 = .ok (.iload_n 2, 1) := by decide +kernel
theorem dX5_step_3 : decode cX5_step 3 = .ok (.invokevirtual 96, 3) := by decide +kernel
theorem dX5_step_6 : decode cX5_step 6 = .ok (.ifCond .ne 9, 3) := by decide +kernel
theorem dX5_step_9 : decode cX5_step 9 = .ok (.aload_n 0, 1) := by decide +kernel
theorem dX5_step_10 : decode cX5_step 10 = .ok (.iconst (-1), 1) := by decide +kernel
theorem dX5_step_11 : decode cX5_step 11 = .ok (.invokevirtual 88, 3) := by decide +kernel
theorem dX5_step_14 : decode cX5_step 14 = .ok (.ireturn, 1) := by decide +kernel
theorem dX5_step_15 : decode cX5_step 15 = .ok (.aload_n 0, 1) := by decide +kernel
theorem dX5_step_16 : decode cX5_step 16 = .ok (.getfield 7, 3) := by decide +kernel
theorem dX5_step_19 : decode cX5_step 19 = .ok (.iload_n 1, 1) := by decide +kernel
theorem dX5_step_20 : decode cX5_step 20 = .ok (.iaload, 1) := by decide +kernel
theorem dX5_step_21 : decode cX5_step 21 = .ok (.iconst 3, 1) := by decide +kernel
theorem dX5_step_22 : decode cX5_step 22 = .ok (.if_icmp .eq 10, 3) := by decide +kernel
theorem dX5_step_25 : decode cX5_step 25 = .ok (.aload_n 0, 1) := by decide +kernel
theorem dX5_step_26 : decode cX5_step 26 = .ok (.bipush (-2), 2) := by decide +kernel
theorem dX5_step_28 : decode cX5_step 28 = .ok (.invokevirtual 88, 3) := by decide +kernel
theorem dX5_step_31 : decode cX5_step 31 = .ok (.ireturn, 1) := by decide +kernel
theorem dX5_step_32 : decode cX5_step 32 = .ok (.iload_n 3, 1) := by decide +kernel
theorem dX5_step_33 : decode cX5_step 33 = .ok (.i2l, 1) := by decide +kernel
theorem dX5_step_34 : decode cX5_step 34 = .ok (.lconst 0, 1) := by decide +kernel
theorem dX5_step_35 : decode cX5_step 35 = .ok (.aload_n 0, 1) := by decide +kernel
theorem dX5_step_36 : decode cX5_step 36 = .ok (.getfield 19, 3) := by decide +kernel
theorem dX5_step_39 : decode cX5_step 39 = .ok (.iload_n 1, 1) := by decide +kernel
theorem dX5_step_40 : decode cX5_step 40 = .ok (.iaload, 1) := by decide +kernel
theorem dX5_step_41 : decode cX5_step 41 = .ok (.iconst 1, 1) := by decide +kernel
theorem dX5_step_42 : decode cX5_step 42 = .ok (.isub, 1) := by decide +kernel
theorem dX5_step_43 : decode cX5_step 43 = .ok (.i2l, 1) := by decide +kernel
theorem dX5_step_44 : decode cX5_step 44 = .ok (.invokestatic 76, 3) := by decide +kernel
theorem dX5_step_47 : decode cX5_step 47 = .ok (.ifCond .ne 10, 3) := by decide +kernel
theorem dX5_step_50 : decode cX5_step 50 = .ok (.aload_n 0, 1) := by decide +kernel
theorem dX5_step_51 : decode cX5_step 51 = .ok (.bipush (-3), 2) := by decide +kernel
theorem dX5_step_53 : decode cX5_step 53 = .ok (.invokevirtual 88, 3) := by decide +kernel
theorem dX5_step_56 : decode cX5_step 56 = .ok (.ireturn, 1) := by decide +kernel
theorem dX5_step_57 : decode cX5_step 57 = .ok (.aload_n 0, 1) := by decide +kernel
theorem dX5_step_58 : decode cX5_step 58 = .ok (.getfield 31, 3) := by decide +kernel
theorem dX5_step_61 : decode cX5_step 61 = .ok (.bipush 6, 2) := by decide +kernel
theorem dX5_step_63 : decode cX5_step 63 = .ok (.iload_n 1, 1) := by decide +kernel
theorem dX5_step_64 : decode cX5_step 64 = .ok (.imul, 1) := by decide +kernel
theorem dX5_step_65 : decode cX5_step 65 = .ok (.iload_n 2, 1) := by decide +kernel
theorem dX5_step_66 : decode cX5_step 66 = .ok (.iadd, 1) := by decide +kernel
theorem dX5_step_67 : decode cX5_step 67 = .ok (.iaload, 1) := by decide +kernel
theorem dX5_step_68 : decode cX5_step 68 = .ok (.istore 4, 2) := by decide +kernel
theorem dX5_step_70 : decode cX5_step 70 = .ok (.aload_n 0, 1) := by decide +kernel
theorem dX5_step_71 : decode cX5_step 71 = .ok (.getfield 31, 3) := by decide +kernel
theorem dX5_step_74 : decode cX5_step 74 = .ok (.bipush 6, 2) := by decide +kernel
theorem dX5_step_76 : decode cX5_step 76 = .ok (.iload_n 1, 1) := by decide +kernel
theorem dX5_step_77 : decode cX5_step 77 = .ok (.imul, 1) := by decide +kernel
theorem dX5_step_78 : decode cX5_step 78 = .ok (.iload_n 2, 1) := by decide +kernel
theorem dX5_step_79 : decode cX5_step 79 = .ok (.iadd, 1) := by decide +kernel
theorem dX5_step_80 : decode cX5_step 80 = .ok (.iload_n 3, 1) := by decide +kernel
theorem dX5_step_81 : decode cX5_step 81 = .ok (.iastore, 1) := by decide +kernel
theorem dX5_step_82 : decode cX5_step 82 = .ok (.iload 4, 2) := by decide +kernel
theorem dX5_step_84 : decode cX5_step 84 = .ok (.ireturn, 1) := by decide +kernel
theorem dX5_lots_0 : decode cX5_lots 0 = .ok (.iload_n 1, 1) := by decide +kernel
theorem dX5_lots_1 : decode cX5_lots 1 = .ok (.iload_n 2, 1) := by decide +kernel
theorem dX5_lots_2 : decode cX5_lots 2 = .ok (.invokestatic 84, 3) := by decide +kernel
theorem dX5_lots_5 : decode cX5_lots 5 = .ok (.istore 5, 2) := by decide +kernel
theorem dX5_lots_7 : decode cX5_lots 7 = .ok (.iload 5, 2) := by decide +kernel
theorem dX5_lots_9 : decode cX5_lots 9 = .ok (.ifCond .ne 16, 3) := by decide +kernel
theorem dX5_lots_12 : decode cX5_lots 12 = .ok (.aload_n 0, 1) := by decide +kernel
theorem dX5_lots_13 : decode cX5_lots 13 = .ok (.getfield 72, 3) := by decide +kernel
theorem dX5_lots_16 : decode cX5_lots 16 = .ok (.bipush 12, 2) := by decide +kernel
theorem dX5_lots_18 : decode cX5_lots 18 = .ok (.if_icmp .ne 7, 3) := by decide +kernel
theorem dX5_lots_21 : decode cX5_lots 21 = .ok (.bipush (-6), 2) := by decide +kernel
theorem dX5_lots_23 : decode cX5_lots 23 = .ok (.istore 5, 2) := by decide +kernel
theorem dX5_lots_25 : decode cX5_lots 25 = .ok (.iload 5, 2) := by decide +kernel
theorem dX5_lots_27 : decode cX5_lots 27 = .ok (.ifCond .ge 10, 3) := by decide +kernel
theorem dX5_lots_30 : decode cX5_lots 30 = .ok (.aload_n 0, 1) := by decide +kernel
theorem dX5_lots_31 : decode cX5_lots 31 = .ok (.iload 5, 2) := by decide +kernel
theorem dX5_lots_33 : decode cX5_lots 33 = .ok (.invokevirtual 88, 3) := by decide +kernel
theorem dX5_lots_36 : decode cX5_lots 36 = .ok (.ireturn, 1) := by decide +kernel
theorem dX5_lots_37 : decode cX5_lots 37 = .ok (.aload_n 0, 1) := by decide +kernel
theorem dX5_lots_38 : decode cX5_lots 38 = .ok (.iconst 4, 1) := by decide +kernel
theorem dX5_lots_39 : decode cX5_lots 39 = .ok (.iload_n 1, 1) := by decide +kernel
theorem dX5_lots_40 : decode cX5_lots 40 = .ok (.iload_n 2, 1) := by decide +kernel
theorem dX5_lots_41 : decode cX5_lots 41 = .ok (.iconst 1, 1) := by decide +kernel
theorem dX5_lots_42 : decode cX5_lots 42 = .ok (.iload_n 2, 1) := by decide +kernel
theorem dX5_lots_43 : decode cX5_lots 43 = .ok (.ishl, 1) := by decide +kernel
theorem dX5_lots_44 : decode cX5_lots 44 = .ok (.invokevirtual 92, 3) := by decide +kernel
theorem dX5_lots_47 : decode cX5_lots 47 = .ok (.istore 6, 2) := by decide +kernel
theorem dX5_lots_49 : decode cX5_lots 49 = .ok (.lload_n 3, 1) := by decide +kernel
theorem dX5_lots_50 : decode cX5_lots 50 = .ok (.lstore 7, 2) := by decide +kernel
theorem dX5_lots_52 : decode cX5_lots 52 = .ok (.iconst 0, 1) := by decide +kernel
theorem dX5_lots_53 : decode cX5_lots 53 = .ok (.istore 9, 2) := by decide +kernel
theorem dX5_lots_55 : decode cX5_lots 55 = .ok (.iload 9, 2) := by decide +kernel
theorem dX5_lots_57 : decode cX5_lots 57 = .ok (.iconst 1, 1) := by decide +kernel
theorem dX5_lots_58 : decode cX5_lots 58 = .ok (.iload_n 2, 1) := by decide +kernel
theorem dX5_lots_59 : decode cX5_lots 59 = .ok (.ishl, 1) := by decide +kernel
theorem dX5_lots_60 : decode cX5_lots 60 = .ok (.if_icmp .ge 72, 3) := by decide +kernel
theorem dX5_lots_63 : decode cX5_lots 63 = .ok (.iconst 0, 1) := by decide +kernel
theorem dX5_lots_64 : decode cX5_lots 64 = .ok (.istore 10, 2) := by decide +kernel
theorem dX5_lots_66 : decode cX5_lots 66 = .ok (.iload 10, 2) := by decide +kernel
theorem dX5_lots_68 : decode cX5_lots 68 = .ok (.iload_n 1, 1) := by decide +kernel
theorem dX5_lots_69 : decode cX5_lots 69 = .ok (.if_icmp .ge 57, 3) := by decide +kernel
theorem dX5_lots_72 : decode cX5_lots 72 = .ok (.lload 7, 2) := by decide +kernel
theorem dX5_lots_74 : decode cX5_lots 74 = .ok (.ldc2_w 102, 3) := by decide +kernel
theorem dX5_lots_77 : decode cX5_lots 77 = .ok (.lmul, 1) := by decide +kernel
theorem dX5_lots_78 : decode cX5_lots 78 = .ok (.ldc2_w 104, 3) := by decide +kernel
theorem dX5_lots_81 : decode cX5_lots 81 = .ok (.ladd, 1) := by decide +kernel
theorem dX5_lots_82 : decode cX5_lots 82 = .ok (.lstore 7, 2) := by decide +kernel
theorem dX5_lots_84 : decode cX5_lots 84 = .ok (.aload_n 0, 1) := by decide +kernel
theorem dX5_lots_85 : decode cX5_lots 85 = .ok (.getfield 34, 3) := by decide +kernel
theorem dX5_lots_88 : decode cX5_lots 88 = .ok (.sipush 1536, 3) := by decide +kernel
theorem dX5_lots_91 : decode cX5_lots 91 = .ok (.iload 6, 2) := by decide +kernel
theorem dX5_lots_93 : decode cX5_lots 93 = .ok (.imul, 1) := by decide +kernel
theorem dX5_lots_94 : decode cX5_lots 94 = .ok (.bipush 6, 2) := by decide +kernel
theorem dX5_lots_96 : decode cX5_lots 96 = .ok (.iload 9, 2) := by decide +kernel
theorem dX5_lots_98 : decode cX5_lots 98 = .ok (.imul, 1) := by decide +kernel
theorem dX5_lots_99 : decode cX5_lots 99 = .ok (.iadd, 1) := by decide +kernel
theorem dX5_lots_100 : decode cX5_lots 100 = .ok (.iload 10, 2) := by decide +kernel
theorem dX5_lots_102 : decode cX5_lots 102 = .ok (.iadd, 1) := by decide +kernel
theorem dX5_lots_103 : decode cX5_lots 103 = .ok (.iload_n 2, 1) := by decide +kernel
theorem dX5_lots_104 : decode cX5_lots 104 = .ok (.ifCond .ne 7, 3) := by decide +kernel
theorem dX5_lots_107 : decode cX5_lots 107 = .ok (.iconst 0, 1) := by decide +kernel
theorem dX5_lots_108 : decode cX5_lots 108 = .ok (.goto 11, 3) := by decide +kernel
theorem dX5_lots_111 : decode cX5_lots 111 = .ok (.lload 7, 2) := by decide +kernel
theorem dX5_lots_113 : decode cX5_lots 113 = .ok (.bipush 64, 2) := by decide +kernel
theorem dX5_lots_115 : decode cX5_lots 115 = .ok (.iload_n 2, 1) := by decide +kernel
theorem dX5_lots_116 : decode cX5_lots 116 = .ok (.isub, 1) := by decide +kernel
theorem dX5_lots_117 : decode cX5_lots 117 = .ok (.lushr, 1) := by decide +kernel
theorem dX5_lots_118 : decode cX5_lots 118 = .ok (.l2i, 1) := by decide +kernel
theorem dX5_lots_119 : decode cX5_lots 119 = .ok (.iastore, 1) := by decide +kernel
theorem dX5_lots_120 : decode cX5_lots 120 = .ok (.iinc 10 1, 3) := by decide +kernel
theorem dX5_lots_123 : decode cX5_lots 123 = .ok (.goto (-57), 3) := by decide +kernel
theorem dX5_lots_126 : decode cX5_lots 126 = .ok (.iinc 9 1, 3) := by decide +kernel
theorem dX5_lots_129 : decode cX5_lots 129 = .ok (.goto (-74), 3) := by decide +kernel
theorem dX5_lots_132 : decode cX5_lots 132 = .ok (.iload 6, 2) := by decide +kernel
theorem dX5_lots_134 : decode cX5_lots 134 = .ok (.ireturn, 1) := by decide +kernel
theorem dX5_scatter_0 : decode cX5_scatter 0 = .ok (.aload_n 0, 1) := by decide +kernel
theorem dX5_scatter_1 : decode cX5_scatter 1 = .ok (.iload_n 1, 1) := by decide +kernel
theorem dX5_scatter_2 : decode cX5_scatter 2 = .ok (.invokevirtual 80, 3) := by decide +kernel
theorem dX5_scatter_5 : decode cX5_scatter 5 = .ok (.ifCond .ne 9, 3) := by decide +kernel
theorem dX5_scatter_8 : decode cX5_scatter 8 = .ok (.aload_n 0, 1) := by decide +kernel
theorem dX5_scatter_9 : decode cX5_scatter 9 = .ok (.iconst (-1), 1) := by decide +kernel
theorem dX5_scatter_10 : decode cX5_scatter 10 = .ok (.invokevirtual 88, 3) := by decide +kernel
theorem dX5_scatter_13 : decode cX5_scatter 13 = .ok (.ireturn, 1) := by decide +kernel
theorem dX5_scatter_14 : decode cX5_scatter 14 = .ok (.iload_n 2, 1) := by decide +kernel
theorem dX5_scatter_15 : decode cX5_scatter 15 = .ok (.tableswitch 68 0 4 #[33, 40, 47, 54, 61], 33) := by decide +kernel
theorem dX5_scatter_48 : decode cX5_scatter 48 = .ok (.aload_n 0, 1) := by decide +kernel
theorem dX5_scatter_49 : decode cX5_scatter 49 = .ok (.getfield 7, 3) := by decide +kernel
theorem dX5_scatter_52 : decode cX5_scatter 52 = .ok (.iload_n 1, 1) := by decide +kernel
theorem dX5_scatter_53 : decode cX5_scatter 53 = .ok (.iaload, 1) := by decide +kernel
theorem dX5_scatter_54 : decode cX5_scatter 54 = .ok (.ireturn, 1) := by decide +kernel
theorem dX5_scatter_55 : decode cX5_scatter 55 = .ok (.aload_n 0, 1) := by decide +kernel
theorem dX5_scatter_56 : decode cX5_scatter 56 = .ok (.getfield 13, 3) := by decide +kernel
theorem dX5_scatter_59 : decode cX5_scatter 59 = .ok (.iload_n 1, 1) := by decide +kernel
theorem dX5_scatter_60 : decode cX5_scatter 60 = .ok (.iaload, 1) := by decide +kernel
theorem dX5_scatter_61 : decode cX5_scatter 61 = .ok (.ireturn, 1) := by decide +kernel
theorem dX5_scatter_62 : decode cX5_scatter 62 = .ok (.aload_n 0, 1) := by decide +kernel
theorem dX5_scatter_63 : decode cX5_scatter 63 = .ok (.getfield 19, 3) := by decide +kernel
theorem dX5_scatter_66 : decode cX5_scatter 66 = .ok (.iload_n 1, 1) := by decide +kernel
theorem dX5_scatter_67 : decode cX5_scatter 67 = .ok (.iaload, 1) := by decide +kernel
theorem dX5_scatter_68 : decode cX5_scatter 68 = .ok (.ireturn, 1) := by decide +kernel
theorem dX5_scatter_69 : decode cX5_scatter 69 = .ok (.aload_n 0, 1) := by decide +kernel
theorem dX5_scatter_70 : decode cX5_scatter 70 = .ok (.getfield 16, 3) := by decide +kernel
theorem dX5_scatter_73 : decode cX5_scatter 73 = .ok (.iload_n 1, 1) := by decide +kernel
theorem dX5_scatter_74 : decode cX5_scatter 74 = .ok (.iaload, 1) := by decide +kernel
theorem dX5_scatter_75 : decode cX5_scatter 75 = .ok (.ireturn, 1) := by decide +kernel
theorem dX5_scatter_76 : decode cX5_scatter 76 = .ok (.aload_n 0, 1) := by decide +kernel
theorem dX5_scatter_77 : decode cX5_scatter 77 = .ok (.getfield 22, 3) := by decide +kernel
theorem dX5_scatter_80 : decode cX5_scatter 80 = .ok (.iload_n 1, 1) := by decide +kernel
theorem dX5_scatter_81 : decode cX5_scatter 81 = .ok (.iaload, 1) := by decide +kernel
theorem dX5_scatter_82 : decode cX5_scatter 82 = .ok (.ireturn, 1) := by decide +kernel
theorem dX5_scatter_83 : decode cX5_scatter 83 = .ok (.aload_n 0, 1) := by decide +kernel
theorem dX5_scatter_84 : decode cX5_scatter 84 = .ok (.bipush (-2), 2) := by decide +kernel
theorem dX5_scatter_86 : decode cX5_scatter 86 = .ok (.invokevirtual 88, 3) := by decide +kernel
theorem dX5_scatter_89 : decode cX5_scatter 89 = .ok (.ireturn, 1) := by decide +kernel
theorem dX5_odd_0 : decode cX5_odd 0 = .ok (.iconst 0, 1) := by decide +kernel
theorem dX5_odd_1 : decode cX5_odd 1 = .ok (.istore_n 1, 1) := by decide +kernel
theorem dX5_odd_2 : decode cX5_odd 2 = .ok (.iload_n 0, 1) := by decide +kernel
theorem dX5_odd_3 : decode cX5_odd 3 = .ok (.istore_n 2, 1) := by decide +kernel
theorem dX5_odd_4 : decode cX5_odd 4 = .ok (.iload_n 2, 1) := by decide +kernel
theorem dX5_odd_5 : decode cX5_odd 5 = .ok (.ifCond .eq 16, 3) := by decide +kernel
theorem dX5_odd_8 : decode cX5_odd 8 = .ok (.iload_n 1, 1) := by decide +kernel
theorem dX5_odd_9 : decode cX5_odd 9 = .ok (.iload_n 2, 1) := by decide +kernel
theorem dX5_odd_10 : decode cX5_odd 10 = .ok (.iconst 1, 1) := by decide +kernel
theorem dX5_odd_11 : decode cX5_odd 11 = .ok (.iand, 1) := by decide +kernel
theorem dX5_odd_12 : decode cX5_odd 12 = .ok (.ixor, 1) := by decide +kernel
theorem dX5_odd_13 : decode cX5_odd 13 = .ok (.istore_n 1, 1) := by decide +kernel
theorem dX5_odd_14 : decode cX5_odd 14 = .ok (.iload_n 2, 1) := by decide +kernel
theorem dX5_odd_15 : decode cX5_odd 15 = .ok (.iconst 1, 1) := by decide +kernel
theorem dX5_odd_16 : decode cX5_odd 16 = .ok (.iushr, 1) := by decide +kernel
theorem dX5_odd_17 : decode cX5_odd 17 = .ok (.istore_n 2, 1) := by decide +kernel
theorem dX5_odd_18 : decode cX5_odd 18 = .ok (.goto (-14), 3) := by decide +kernel
theorem dX5_odd_21 : decode cX5_odd 21 = .ok (.iload_n 1, 1) := by decide +kernel
theorem dX5_odd_22 : decode cX5_odd 22 = .ok (.ireturn, 1) := by decide +kernel
theorem dX5_partOf_0 : decode cX5_partOf 0 = .ok (.aload_n 0, 1) := by decide +kernel
theorem dX5_partOf_1 : decode cX5_partOf 1 = .ok (.getfield 7, 3) := by decide +kernel
theorem dX5_partOf_4 : decode cX5_partOf 4 = .ok (.iload_n 1, 1) := by decide +kernel
theorem dX5_partOf_5 : decode cX5_partOf 5 = .ok (.iaload, 1) := by decide +kernel
theorem dX5_partOf_6 : decode cX5_partOf 6 = .ok (.iconst 3, 1) := by decide +kernel
theorem dX5_partOf_7 : decode cX5_partOf 7 = .ok (.if_icmp .ne 24, 3) := by decide +kernel
theorem dX5_partOf_10 : decode cX5_partOf 10 = .ok (.iload_n 2, 1) := by decide +kernel
theorem dX5_partOf_11 : decode cX5_partOf 11 = .ok (.aload_n 0, 1) := by decide +kernel
theorem dX5_partOf_12 : decode cX5_partOf 12 = .ok (.getfield 31, 3) := by decide +kernel
theorem dX5_partOf_15 : decode cX5_partOf 15 = .ok (.bipush 6, 2) := by decide +kernel
theorem dX5_partOf_17 : decode cX5_partOf 17 = .ok (.iload_n 1, 1) := by decide +kernel
theorem dX5_partOf_18 : decode cX5_partOf 18 = .ok (.imul, 1) := by decide +kernel
theorem dX5_partOf_19 : decode cX5_partOf 19 = .ok (.iload_n 3, 1) := by decide +kernel
theorem dX5_partOf_20 : decode cX5_partOf 20 = .ok (.iadd, 1) := by decide +kernel
theorem dX5_partOf_21 : decode cX5_partOf 21 = .ok (.iaload, 1) := by decide +kernel
theorem dX5_partOf_22 : decode cX5_partOf 22 = .ok (.imul, 1) := by decide +kernel
theorem dX5_partOf_23 : decode cX5_partOf 23 = .ok (.aload_n 0, 1) := by decide +kernel
theorem dX5_partOf_24 : decode cX5_partOf 24 = .ok (.getfield 19, 3) := by decide +kernel
theorem dX5_partOf_27 : decode cX5_partOf 27 = .ok (.iload_n 1, 1) := by decide +kernel
theorem dX5_partOf_28 : decode cX5_partOf 28 = .ok (.iaload, 1) := by decide +kernel
theorem dX5_partOf_29 : decode cX5_partOf 29 = .ok (.irem, 1) := by decide +kernel
theorem dX5_partOf_30 : decode cX5_partOf 30 = .ok (.ireturn, 1) := by decide +kernel
theorem dX5_partOf_31 : decode cX5_partOf 31 = .ok (.aload_n 0, 1) := by decide +kernel
theorem dX5_partOf_32 : decode cX5_partOf 32 = .ok (.getfield 7, 3) := by decide +kernel
theorem dX5_partOf_35 : decode cX5_partOf 35 = .ok (.iload_n 1, 1) := by decide +kernel
theorem dX5_partOf_36 : decode cX5_partOf 36 = .ok (.iaload, 1) := by decide +kernel
theorem dX5_partOf_37 : decode cX5_partOf 37 = .ok (.iconst 4, 1) := by decide +kernel
theorem dX5_partOf_38 : decode cX5_partOf 38 = .ok (.if_icmp .ne 21, 3) := by decide +kernel
theorem dX5_partOf_41 : decode cX5_partOf 41 = .ok (.aload_n 0, 1) := by decide +kernel
theorem dX5_partOf_42 : decode cX5_partOf 42 = .ok (.getfield 34, 3) := by decide +kernel
theorem dX5_partOf_45 : decode cX5_partOf 45 = .ok (.sipush 1536, 3) := by decide +kernel
theorem dX5_partOf_48 : decode cX5_partOf 48 = .ok (.iload_n 1, 1) := by decide +kernel
theorem dX5_partOf_49 : decode cX5_partOf 49 = .ok (.imul, 1) := by decide +kernel
theorem dX5_partOf_50 : decode cX5_partOf 50 = .ok (.bipush 6, 2) := by decide +kernel
theorem dX5_partOf_52 : decode cX5_partOf 52 = .ok (.iload_n 2, 1) := by decide +kernel
theorem dX5_partOf_53 : decode cX5_partOf 53 = .ok (.imul, 1) := by decide +kernel
theorem dX5_partOf_54 : decode cX5_partOf 54 = .ok (.iadd, 1) := by decide +kernel
theorem dX5_partOf_55 : decode cX5_partOf 55 = .ok (.iload_n 3, 1) := by decide +kernel
theorem dX5_partOf_56 : decode cX5_partOf 56 = .ok (.iadd, 1) := by decide +kernel
theorem dX5_partOf_57 : decode cX5_partOf 57 = .ok (.iaload, 1) := by decide +kernel
theorem dX5_partOf_58 : decode cX5_partOf 58 = .ok (.ireturn, 1) := by decide +kernel
theorem dX5_partOf_59 : decode cX5_partOf 59 = .ok (.iconst 0, 1) := by decide +kernel
theorem dX5_partOf_60 : decode cX5_partOf 60 = .ok (.istore 4, 2) := by decide +kernel
theorem dX5_partOf_62 : decode cX5_partOf 62 = .ok (.iconst 0, 1) := by decide +kernel
theorem dX5_partOf_63 : decode cX5_partOf 63 = .ok (.istore 5, 2) := by decide +kernel
theorem dX5_partOf_65 : decode cX5_partOf 65 = .ok (.iload 5, 2) := by decide +kernel
theorem dX5_partOf_67 : decode cX5_partOf 67 = .ok (.aload_n 0, 1) := by decide +kernel
theorem dX5_partOf_68 : decode cX5_partOf 68 = .ok (.getfield 16, 3) := by decide +kernel
theorem dX5_partOf_71 : decode cX5_partOf 71 = .ok (.iload_n 1, 1) := by decide +kernel
theorem dX5_partOf_72 : decode cX5_partOf 72 = .ok (.iaload, 1) := by decide +kernel
theorem dX5_partOf_73 : decode cX5_partOf 73 = .ok (.if_icmp .ge 38, 3) := by decide +kernel
theorem dX5_partOf_76 : decode cX5_partOf 76 = .ok (.iconst 2, 1) := by decide +kernel
theorem dX5_partOf_77 : decode cX5_partOf 77 = .ok (.iload 4, 2) := by decide +kernel
theorem dX5_partOf_79 : decode cX5_partOf 79 = .ok (.imul, 1) := by decide +kernel
theorem dX5_partOf_80 : decode cX5_partOf 80 = .ok (.aload_n 0, 1) := by decide +kernel
theorem dX5_partOf_81 : decode cX5_partOf 81 = .ok (.getfield 25, 3) := by decide +kernel
theorem dX5_partOf_84 : decode cX5_partOf 84 = .ok (.bipush 48, 2) := by decide +kernel
theorem dX5_partOf_86 : decode cX5_partOf 86 = .ok (.iload_n 1, 1) := by decide +kernel
theorem dX5_partOf_87 : decode cX5_partOf 87 = .ok (.imul, 1) := by decide +kernel
theorem dX5_partOf_88 : decode cX5_partOf 88 = .ok (.bipush 8, 2) := by decide +kernel
theorem dX5_partOf_90 : decode cX5_partOf 90 = .ok (.iload_n 3, 1) := by decide +kernel
theorem dX5_partOf_91 : decode cX5_partOf 91 = .ok (.imul, 1) := by decide +kernel
theorem dX5_partOf_92 : decode cX5_partOf 92 = .ok (.iadd, 1) := by decide +kernel
theorem dX5_partOf_93 : decode cX5_partOf 93 = .ok (.iload 5, 2) := by decide +kernel
theorem dX5_partOf_95 : decode cX5_partOf 95 = .ok (.iadd, 1) := by decide +kernel
theorem dX5_partOf_96 : decode cX5_partOf 96 = .ok (.iaload, 1) := by decide +kernel
theorem dX5_partOf_97 : decode cX5_partOf 97 = .ok (.iload_n 2, 1) := by decide +kernel
theorem dX5_partOf_98 : decode cX5_partOf 98 = .ok (.iand, 1) := by decide +kernel
theorem dX5_partOf_99 : decode cX5_partOf 99 = .ok (.invokestatic 106, 3) := by decide +kernel
theorem dX5_partOf_102 : decode cX5_partOf 102 = .ok (.iadd, 1) := by decide +kernel
theorem dX5_partOf_103 : decode cX5_partOf 103 = .ok (.istore 4, 2) := by decide +kernel
theorem dX5_partOf_105 : decode cX5_partOf 105 = .ok (.iinc 5 1, 3) := by decide +kernel
theorem dX5_partOf_108 : decode cX5_partOf 108 = .ok (.goto (-43), 3) := by decide +kernel
theorem dX5_partOf_111 : decode cX5_partOf 111 = .ok (.iload 4, 2) := by decide +kernel
theorem dX5_partOf_113 : decode cX5_partOf 113 = .ok (.aload_n 0, 1) := by decide +kernel
theorem dX5_partOf_114 : decode cX5_partOf 114 = .ok (.getfield 28, 3) := by decide +kernel
theorem dX5_partOf_117 : decode cX5_partOf 117 = .ok (.bipush 6, 2) := by decide +kernel
theorem dX5_partOf_119 : decode cX5_partOf 119 = .ok (.iload_n 1, 1) := by decide +kernel
theorem dX5_partOf_120 : decode cX5_partOf 120 = .ok (.imul, 1) := by decide +kernel
theorem dX5_partOf_121 : decode cX5_partOf 121 = .ok (.iload_n 3, 1) := by decide +kernel
theorem dX5_partOf_122 : decode cX5_partOf 122 = .ok (.iadd, 1) := by decide +kernel
theorem dX5_partOf_123 : decode cX5_partOf 123 = .ok (.iaload, 1) := by decide +kernel
theorem dX5_partOf_124 : decode cX5_partOf 124 = .ok (.ixor, 1) := by decide +kernel
theorem dX5_partOf_125 : decode cX5_partOf 125 = .ok (.ireturn, 1) := by decide +kernel
theorem dX5_part_0 : decode cX5_part 0 = .ok (.aload_n 0, 1) := by decide +kernel
theorem dX5_part_1 : decode cX5_part 1 = .ok (.iload_n 1, 1) := by decide +kernel
theorem dX5_part_2 : decode cX5_part 2 = .ok (.iload_n 3, 1) := by decide +kernel
theorem dX5_part_3 : decode cX5_part 3 = .ok (.invokevirtual 96, 3) := by decide +kernel
theorem dX5_part_6 : decode cX5_part 6 = .ok (.ifCond .eq 31, 3) := by decide +kernel
theorem dX5_part_9 : decode cX5_part 9 = .ok (.iload_n 2, 1) := by decide +kernel
theorem dX5_part_10 : decode cX5_part 10 = .ok (.i2l, 1) := by decide +kernel
theorem dX5_part_11 : decode cX5_part 11 = .ok (.lconst 0, 1) := by decide +kernel
theorem dX5_part_12 : decode cX5_part 12 = .ok (.aload_n 0, 1) := by decide +kernel
theorem dX5_part_13 : decode cX5_part 13 = .ok (.getfield 19, 3) := by decide +kernel
theorem dX5_part_16 : decode cX5_part 16 = .ok (.iload_n 1, 1) := by decide +kernel
theorem dX5_part_17 : decode cX5_part 17 = .ok (.iaload, 1) := by decide +kernel
theorem dX5_part_18 : decode cX5_part 18 = .ok (.iconst 1, 1) := by decide +kernel
theorem dX5_part_19 : decode cX5_part 19 = .ok (.isub, 1) := by decide +kernel
theorem dX5_part_20 : decode cX5_part 20 = .ok (.i2l, 1) := by decide +kernel
theorem dX5_part_21 : decode cX5_part 21 = .ok (.invokestatic 76, 3) := by decide +kernel
theorem dX5_part_24 : decode cX5_part 24 = .ok (.ifCond .eq 13, 3) := by decide +kernel
theorem dX5_part_27 : decode cX5_part 27 = .ok (.aload_n 0, 1) := by decide +kernel
theorem dX5_part_28 : decode cX5_part 28 = .ok (.iload_n 1, 1) := by decide +kernel
theorem dX5_part_29 : decode cX5_part 29 = .ok (.iload_n 2, 1) := by decide +kernel
theorem dX5_part_30 : decode cX5_part 30 = .ok (.iload_n 3, 1) := by decide +kernel
theorem dX5_part_31 : decode cX5_part 31 = .ok (.invokevirtual 109, 3) := by decide +kernel
theorem dX5_part_34 : decode cX5_part 34 = .ok (.goto 8, 3) := by decide +kernel
theorem dX5_part_37 : decode cX5_part 37 = .ok (.aload_n 0, 1) := by decide +kernel
theorem dX5_part_38 : decode cX5_part 38 = .ok (.iconst (-1), 1) := by decide +kernel
theorem dX5_part_39 : decode cX5_part 39 = .ok (.invokevirtual 88, 3) := by decide +kernel
theorem dX5_part_42 : decode cX5_part 42 = .ok (.ireturn, 1) := by decide +kernel
theorem dX5_next_0 : decode cX5_next 0 = .ok (.aload_n 0, 1) := by decide +kernel
theorem dX5_next_1 : decode cX5_next 1 = .ok (.iload_n 1, 1) := by decide +kernel
theorem dX5_next_2 : decode cX5_next 2 = .ok (.invokevirtual 80, 3) := by decide +kernel
theorem dX5_next_5 : decode cX5_next 5 = .ok (.ifCond .ne 9, 3) := by decide +kernel
theorem dX5_next_8 : decode cX5_next 8 = .ok (.aload_n 0, 1) := by decide +kernel
theorem dX5_next_9 : decode cX5_next 9 = .ok (.iconst (-1), 1) := by decide +kernel
theorem dX5_next_10 : decode cX5_next 10 = .ok (.invokevirtual 88, 3) := by decide +kernel
theorem dX5_next_13 : decode cX5_next 13 = .ok (.ireturn, 1) := by decide +kernel
theorem dX5_next_14 : decode cX5_next 14 = .ok (.aload_n 0, 1) := by decide +kernel
theorem dX5_next_15 : decode cX5_next 15 = .ok (.getfield 22, 3) := by decide +kernel
theorem dX5_next_18 : decode cX5_next 18 = .ok (.iload_n 1, 1) := by decide +kernel
theorem dX5_next_19 : decode cX5_next 19 = .ok (.iaload, 1) := by decide +kernel
theorem dX5_next_20 : decode cX5_next 20 = .ok (.ldc 113, 2) := by decide +kernel
theorem dX5_next_22 : decode cX5_next 22 = .ok (.if_icmp .ne 10, 3) := by decide +kernel
theorem dX5_next_25 : decode cX5_next 25 = .ok (.aload_n 0, 1) := by decide +kernel
theorem dX5_next_26 : decode cX5_next 26 = .ok (.bipush (-6), 2) := by decide +kernel
theorem dX5_next_28 : decode cX5_next 28 = .ok (.invokevirtual 88, 3) := by decide +kernel
theorem dX5_next_31 : decode cX5_next 31 = .ok (.ireturn, 1) := by decide +kernel
theorem dX5_next_32 : decode cX5_next 32 = .ok (.aload_n 0, 1) := by decide +kernel
theorem dX5_next_33 : decode cX5_next 33 = .ok (.getfield 22, 3) := by decide +kernel
theorem dX5_next_36 : decode cX5_next 36 = .ok (.iload_n 1, 1) := by decide +kernel
theorem dX5_next_37 : decode cX5_next 37 = .ok (.iaload, 1) := by decide +kernel
theorem dX5_next_38 : decode cX5_next 38 = .ok (.aload_n 0, 1) := by decide +kernel
theorem dX5_next_39 : decode cX5_next 39 = .ok (.getfield 19, 3) := by decide +kernel
theorem dX5_next_42 : decode cX5_next 42 = .ok (.iload_n 1, 1) := by decide +kernel
theorem dX5_next_43 : decode cX5_next 43 = .ok (.iaload, 1) := by decide +kernel
theorem dX5_next_44 : decode cX5_next 44 = .ok (.irem, 1) := by decide +kernel
theorem dX5_next_45 : decode cX5_next 45 = .ok (.istore_n 2, 1) := by decide +kernel
theorem dX5_next_46 : decode cX5_next 46 = .ok (.aload_n 0, 1) := by decide +kernel
theorem dX5_next_47 : decode cX5_next 47 = .ok (.getfield 22, 3) := by decide +kernel
theorem dX5_next_50 : decode cX5_next 50 = .ok (.iload_n 1, 1) := by decide +kernel
theorem dX5_next_51 : decode cX5_next 51 = .ok (.dup2, 1) := by decide +kernel
theorem dX5_next_52 : decode cX5_next 52 = .ok (.iaload, 1) := by decide +kernel
theorem dX5_next_53 : decode cX5_next 53 = .ok (.iconst 1, 1) := by decide +kernel
theorem dX5_next_54 : decode cX5_next 54 = .ok (.iadd, 1) := by decide +kernel
theorem dX5_next_55 : decode cX5_next 55 = .ok (.iastore, 1) := by decide +kernel
theorem dX5_next_56 : decode cX5_next 56 = .ok (.aload_n 0, 1) := by decide +kernel
theorem dX5_next_57 : decode cX5_next 57 = .ok (.dup, 1) := by decide +kernel
theorem dX5_next_58 : decode cX5_next 58 = .ok (.getfield 114, 3) := by decide +kernel
theorem dX5_next_61 : decode cX5_next 61 = .ok (.iconst 1, 1) := by decide +kernel
theorem dX5_next_62 : decode cX5_next 62 = .ok (.iadd, 1) := by decide +kernel
theorem dX5_next_63 : decode cX5_next 63 = .ok (.putfield 114, 3) := by decide +kernel
theorem dX5_next_66 : decode cX5_next 66 = .ok (.aload_n 0, 1) := by decide +kernel
theorem dX5_next_67 : decode cX5_next 67 = .ok (.getfield 7, 3) := by decide +kernel
theorem dX5_next_70 : decode cX5_next 70 = .ok (.iload_n 1, 1) := by decide +kernel
theorem dX5_next_71 : decode cX5_next 71 = .ok (.iaload, 1) := by decide +kernel
theorem dX5_next_72 : decode cX5_next 72 = .ok (.iconst 3, 1) := by decide +kernel
theorem dX5_next_73 : decode cX5_next 73 = .ok (.if_icmp .ne 7, 3) := by decide +kernel
theorem dX5_next_76 : decode cX5_next 76 = .ok (.iload_n 2, 1) := by decide +kernel
theorem dX5_next_77 : decode cX5_next 77 = .ok (.goto 8, 3) := by decide +kernel
theorem dX5_next_80 : decode cX5_next 80 = .ok (.iload_n 2, 1) := by decide +kernel
theorem dX5_next_81 : decode cX5_next 81 = .ok (.iload_n 2, 1) := by decide +kernel
theorem dX5_next_82 : decode cX5_next 82 = .ok (.iconst 1, 1) := by decide +kernel
theorem dX5_next_83 : decode cX5_next 83 = .ok (.ishr, 1) := by decide +kernel
theorem dX5_next_84 : decode cX5_next 84 = .ok (.ixor, 1) := by decide +kernel
theorem dX5_next_85 : decode cX5_next 85 = .ok (.ireturn, 1) := by decide +kernel
theorem dX5_skip_0 : decode cX5_skip 0 = .ok (.aload_n 0, 1) := by decide +kernel
theorem dX5_skip_1 : decode cX5_skip 1 = .ok (.iload_n 1, 1) := by decide +kernel
theorem dX5_skip_2 : decode cX5_skip 2 = .ok (.invokevirtual 80, 3) := by decide +kernel
theorem dX5_skip_5 : decode cX5_skip 5 = .ok (.ifCond .ne 9, 3) := by decide +kernel
theorem dX5_skip_8 : decode cX5_skip 8 = .ok (.aload_n 0, 1) := by decide +kernel
theorem dX5_skip_9 : decode cX5_skip 9 = .ok (.iconst (-1), 1) := by decide +kernel
theorem dX5_skip_10 : decode cX5_skip 10 = .ok (.invokevirtual 88, 3) := by decide +kernel
theorem dX5_skip_13 : decode cX5_skip 13 = .ok (.ireturn, 1) := by decide +kernel
theorem dX5_skip_14 : decode cX5_skip 14 = .ok (.iload_n 2, 1) := by decide +kernel
theorem dX5_skip_15 : decode cX5_skip 15 = .ok (.ifCond .ge 10, 3) := by decide +kernel
theorem dX5_skip_18 : decode cX5_skip 18 = .ok (.aload_n 0, 1) := by decide +kernel
theorem dX5_skip_19 : decode cX5_skip 19 = .ok (.bipush (-4), 2) := by decide +kernel
theorem dX5_skip_21 : decode cX5_skip 21 = .ok (.invokevirtual 88, 3) := by decide +kernel
theorem dX5_skip_24 : decode cX5_skip 24 = .ok (.ireturn, 1) := by decide +kernel
theorem dX5_skip_25 : decode cX5_skip 25 = .ok (.iload_n 2, 1) := by decide +kernel
theorem dX5_skip_26 : decode cX5_skip 26 = .ok (.ldc 113, 2) := by decide +kernel
theorem dX5_skip_28 : decode cX5_skip 28 = .ok (.if_icmp .le 10, 3) := by decide +kernel
theorem dX5_skip_31 : decode cX5_skip 31 = .ok (.aload_n 0, 1) := by decide +kernel
theorem dX5_skip_32 : decode cX5_skip 32 = .ok (.bipush (-6), 2) := by decide +kernel
theorem dX5_skip_34 : decode cX5_skip 34 = .ok (.invokevirtual 88, 3) := by decide +kernel
theorem dX5_skip_37 : decode cX5_skip 37 = .ok (.ireturn, 1) := by decide +kernel
theorem dX5_skip_38 : decode cX5_skip 38 = .ok (.aload_n 0, 1) := by decide +kernel
theorem dX5_skip_39 : decode cX5_skip 39 = .ok (.getfield 22, 3) := by decide +kernel
theorem dX5_skip_42 : decode cX5_skip 42 = .ok (.iload_n 1, 1) := by decide +kernel
theorem dX5_skip_43 : decode cX5_skip 43 = .ok (.iaload, 1) := by decide +kernel
theorem dX5_skip_44 : decode cX5_skip 44 = .ok (.istore_n 3, 1) := by decide +kernel
theorem dX5_skip_45 : decode cX5_skip 45 = .ok (.aload_n 0, 1) := by decide +kernel
theorem dX5_skip_46 : decode cX5_skip 46 = .ok (.getfield 22, 3) := by decide +kernel
theorem dX5_skip_49 : decode cX5_skip 49 = .ok (.iload_n 1, 1) := by decide +kernel
theorem dX5_skip_50 : decode cX5_skip 50 = .ok (.iload_n 2, 1) := by decide +kernel
theorem dX5_skip_51 : decode cX5_skip 51 = .ok (.iastore, 1) := by decide +kernel
theorem dX5_skip_52 : decode cX5_skip 52 = .ok (.iload_n 3, 1) := by decide +kernel
theorem dX5_skip_53 : decode cX5_skip 53 = .ok (.ireturn, 1) := by decide +kernel
theorem dX5_side_0 : decode cX5_side 0 = .ok (.iload_n 1, 1) := by decide +kernel
theorem dX5_side_1 : decode cX5_side 1 = .ok (.i2l, 1) := by decide +kernel
theorem dX5_side_2 : decode cX5_side 2 = .ok (.lconst 0, 1) := by decide +kernel
theorem dX5_side_3 : decode cX5_side 3 = .ok (.ldc2_w 117, 3) := by decide +kernel
theorem dX5_side_6 : decode cX5_side 6 = .ok (.invokestatic 76, 3) := by decide +kernel
theorem dX5_side_9 : decode cX5_side 9 = .ok (.ifCond .ne 9, 3) := by decide +kernel
theorem dX5_side_12 : decode cX5_side 12 = .ok (.aload_n 0, 1) := by decide +kernel
theorem dX5_side_13 : decode cX5_side 13 = .ok (.iconst (-1), 1) := by decide +kernel
theorem dX5_side_14 : decode cX5_side 14 = .ok (.invokevirtual 88, 3) := by decide +kernel
theorem dX5_side_17 : decode cX5_side 17 = .ok (.ireturn, 1) := by decide +kernel
theorem dX5_side_18 : decode cX5_side 18 = .ok (.aload_n 0, 1) := by decide +kernel
theorem dX5_side_19 : decode cX5_side 19 = .ok (.getfield 37, 3) := by decide +kernel
theorem dX5_side_22 : decode cX5_side 22 = .ok (.iload_n 1, 1) := by decide +kernel
theorem dX5_side_23 : decode cX5_side 23 = .ok (.iload_n 2, 1) := by decide +kernel
theorem dX5_side_24 : decode cX5_side 24 = .ok (.iastore, 1) := by decide +kernel
theorem dX5_side_25 : decode cX5_side 25 = .ok (.aload_n 0, 1) := by decide +kernel
theorem dX5_side_26 : decode cX5_side 26 = .ok (.getfield 40, 3) := by decide +kernel
theorem dX5_side_29 : decode cX5_side 29 = .ok (.iload_n 1, 1) := by decide +kernel
theorem dX5_side_30 : decode cX5_side 30 = .ok (.iload_n 3, 1) := by decide +kernel
theorem dX5_side_31 : decode cX5_side 31 = .ok (.iastore, 1) := by decide +kernel
theorem dX5_side_32 : decode cX5_side 32 = .ok (.iconst 1, 1) := by decide +kernel
theorem dX5_side_33 : decode cX5_side 33 = .ok (.ireturn, 1) := by decide +kernel
theorem dX5_mark_0 : decode cX5_mark 0 = .ok (.iload_n 1, 1) := by decide +kernel
theorem dX5_mark_1 : decode cX5_mark 1 = .ok (.i2l, 1) := by decide +kernel
theorem dX5_mark_2 : decode cX5_mark 2 = .ok (.lconst 0, 1) := by decide +kernel
theorem dX5_mark_3 : decode cX5_mark 3 = .ok (.ldc2_w 117, 3) := by decide +kernel
theorem dX5_mark_6 : decode cX5_mark 6 = .ok (.invokestatic 76, 3) := by decide +kernel
theorem dX5_mark_9 : decode cX5_mark 9 = .ok (.ifCond .ne 9, 3) := by decide +kernel
theorem dX5_mark_12 : decode cX5_mark 12 = .ok (.aload_n 0, 1) := by decide +kernel
theorem dX5_mark_13 : decode cX5_mark 13 = .ok (.iconst (-1), 1) := by decide +kernel
theorem dX5_mark_14 : decode cX5_mark 14 = .ok (.invokevirtual 88, 3) := by decide +kernel
theorem dX5_mark_17 : decode cX5_mark 17 = .ok (.ireturn, 1) := by decide +kernel
theorem dX5_mark_18 : decode cX5_mark 18 = .ok (.aload_n 0, 1) := by decide +kernel
theorem dX5_mark_19 : decode cX5_mark 19 = .ok (.getfield 43, 3) := by decide +kernel
theorem dX5_mark_22 : decode cX5_mark 22 = .ok (.iload_n 1, 1) := by decide +kernel
theorem dX5_mark_23 : decode cX5_mark 23 = .ok (.iaload, 1) := by decide +kernel
theorem dX5_mark_24 : decode cX5_mark 24 = .ok (.istore_n 3, 1) := by decide +kernel
theorem dX5_mark_25 : decode cX5_mark 25 = .ok (.aload_n 0, 1) := by decide +kernel
theorem dX5_mark_26 : decode cX5_mark 26 = .ok (.getfield 43, 3) := by decide +kernel
theorem dX5_mark_29 : decode cX5_mark 29 = .ok (.iload_n 1, 1) := by decide +kernel
theorem dX5_mark_30 : decode cX5_mark 30 = .ok (.iload_n 2, 1) := by decide +kernel
theorem dX5_mark_31 : decode cX5_mark 31 = .ok (.iastore, 1) := by decide +kernel
theorem dX5_mark_32 : decode cX5_mark 32 = .ok (.iload_n 3, 1) := by decide +kernel
theorem dX5_mark_33 : decode cX5_mark 33 = .ok (.ireturn, 1) := by decide +kernel
theorem dX5_count_0 : decode cX5_count 0 = .ok (.aload_n 0, 1) := by decide +kernel
theorem dX5_count_1 : decode cX5_count 1 = .ok (.iload_n 1, 1) := by decide +kernel
theorem dX5_count_2 : decode cX5_count 2 = .ok (.invokevirtual 80, 3) := by decide +kernel
theorem dX5_count_5 : decode cX5_count 5 = .ok (.ifCond .ne 9, 3) := by decide +kernel
theorem dX5_count_8 : decode cX5_count 8 = .ok (.aload_n 0, 1) := by decide +kernel
theorem dX5_count_9 : decode cX5_count 9 = .ok (.iconst (-1), 1) := by decide +kernel
theorem dX5_count_10 : decode cX5_count 10 = .ok (.invokevirtual 88, 3) := by decide +kernel
theorem dX5_count_13 : decode cX5_count 13 = .ok (.ireturn, 1) := by decide +kernel
theorem dX5_count_14 : decode cX5_count 14 = .ok (.iconst 0, 1) := by decide +kernel
theorem dX5_count_15 : decode cX5_count 15 = .ok (.istore_n 2, 1) := by decide +kernel
theorem dX5_count_16 : decode cX5_count 16 = .ok (.iconst 0, 1) := by decide +kernel
theorem dX5_count_17 : decode cX5_count 17 = .ok (.istore_n 3, 1) := by decide +kernel
theorem dX5_count_18 : decode cX5_count 18 = .ok (.iload_n 3, 1) := by decide +kernel
theorem dX5_count_19 : decode cX5_count 19 = .ok (.aload_n 0, 1) := by decide +kernel
theorem dX5_count_20 : decode cX5_count 20 = .ok (.getfield 19, 3) := by decide +kernel
theorem dX5_count_23 : decode cX5_count 23 = .ok (.iload_n 1, 1) := by decide +kernel
theorem dX5_count_24 : decode cX5_count 24 = .ok (.iaload, 1) := by decide +kernel
theorem dX5_count_25 : decode cX5_count 25 = .ok (.if_icmp .ge 91, 3) := by decide +kernel
theorem dX5_count_28 : decode cX5_count 28 = .ok (.iconst 1, 1) := by decide +kernel
theorem dX5_count_29 : decode cX5_count 29 = .ok (.istore 4, 2) := by decide +kernel
theorem dX5_count_31 : decode cX5_count 31 = .ok (.iconst 0, 1) := by decide +kernel
theorem dX5_count_32 : decode cX5_count 32 = .ok (.istore 5, 2) := by decide +kernel
theorem dX5_count_34 : decode cX5_count 34 = .ok (.iload 5, 2) := by decide +kernel
theorem dX5_count_36 : decode cX5_count 36 = .ok (.aload_n 0, 1) := by decide +kernel
theorem dX5_count_37 : decode cX5_count 37 = .ok (.getfield 13, 3) := by decide +kernel
theorem dX5_count_40 : decode cX5_count 40 = .ok (.iload_n 1, 1) := by decide +kernel
theorem dX5_count_41 : decode cX5_count 41 = .ok (.iaload, 1) := by decide +kernel
theorem dX5_count_42 : decode cX5_count 42 = .ok (.if_icmp .ge 55, 3) := by decide +kernel
theorem dX5_count_45 : decode cX5_count 45 = .ok (.aload_n 0, 1) := by decide +kernel
theorem dX5_count_46 : decode cX5_count 46 = .ok (.iload_n 1, 1) := by decide +kernel
theorem dX5_count_47 : decode cX5_count 47 = .ok (.iload_n 3, 1) := by decide +kernel
theorem dX5_count_48 : decode cX5_count 48 = .ok (.iload 5, 2) := by decide +kernel
theorem dX5_count_50 : decode cX5_count 50 = .ok (.invokevirtual 109, 3) := by decide +kernel
theorem dX5_count_53 : decode cX5_count 53 = .ok (.istore 6, 2) := by decide +kernel
theorem dX5_count_55 : decode cX5_count 55 = .ok (.iload 4, 2) := by decide +kernel
theorem dX5_count_57 : decode cX5_count 57 = .ok (.ifCond .eq 31, 3) := by decide +kernel
theorem dX5_count_60 : decode cX5_count 60 = .ok (.iload 6, 2) := by decide +kernel
theorem dX5_count_62 : decode cX5_count 62 = .ok (.aload_n 0, 1) := by decide +kernel
theorem dX5_count_63 : decode cX5_count 63 = .ok (.getfield 37, 3) := by decide +kernel
theorem dX5_count_66 : decode cX5_count 66 = .ok (.iload 5, 2) := by decide +kernel
theorem dX5_count_68 : decode cX5_count 68 = .ok (.iaload, 1) := by decide +kernel
theorem dX5_count_69 : decode cX5_count 69 = .ok (.if_icmp .lt 19, 3) := by decide +kernel
theorem dX5_count_72 : decode cX5_count 72 = .ok (.iload 6, 2) := by decide +kernel
theorem dX5_count_74 : decode cX5_count 74 = .ok (.aload_n 0, 1) := by decide +kernel
theorem dX5_count_75 : decode cX5_count 75 = .ok (.getfield 40, 3) := by decide +kernel
theorem dX5_count_78 : decode cX5_count 78 = .ok (.iload 5, 2) := by decide +kernel
theorem dX5_count_80 : decode cX5_count 80 = .ok (.iaload, 1) := by decide +kernel
theorem dX5_count_81 : decode cX5_count 81 = .ok (.if_icmp .ge 7, 3) := by decide +kernel
theorem dX5_count_84 : decode cX5_count 84 = .ok (.iconst 1, 1) := by decide +kernel
theorem dX5_count_85 : decode cX5_count 85 = .ok (.goto 4, 3) := by decide +kernel
theorem dX5_count_88 : decode cX5_count 88 = .ok (.iconst 0, 1) := by decide +kernel
theorem dX5_count_89 : decode cX5_count 89 = .ok (.istore 4, 2) := by decide +kernel
theorem dX5_count_91 : decode cX5_count 91 = .ok (.iinc 5 1, 3) := by decide +kernel
theorem dX5_count_94 : decode cX5_count 94 = .ok (.goto (-60), 3) := by decide +kernel
theorem dX5_count_97 : decode cX5_count 97 = .ok (.iload_n 2, 1) := by decide +kernel
theorem dX5_count_98 : decode cX5_count 98 = .ok (.iload 4, 2) := by decide +kernel
theorem dX5_count_100 : decode cX5_count 100 = .ok (.ifCond .eq 7, 3) := by decide +kernel
theorem dX5_count_103 : decode cX5_count 103 = .ok (.iconst 1, 1) := by decide +kernel
theorem dX5_count_104 : decode cX5_count 104 = .ok (.goto 4, 3) := by decide +kernel
theorem dX5_count_107 : decode cX5_count 107 = .ok (.iconst 0, 1) := by decide +kernel
theorem dX5_count_108 : decode cX5_count 108 = .ok (.iadd, 1) := by decide +kernel
theorem dX5_count_109 : decode cX5_count 109 = .ok (.istore_n 2, 1) := by decide +kernel
theorem dX5_count_110 : decode cX5_count 110 = .ok (.iinc 3 1, 3) := by decide +kernel
theorem dX5_count_113 : decode cX5_count 113 = .ok (.goto (-95), 3) := by decide +kernel
theorem dX5_count_116 : decode cX5_count 116 = .ok (.iload_n 2, 1) := by decide +kernel
theorem dX5_count_117 : decode cX5_count 117 = .ok (.ireturn, 1) := by decide +kernel
theorem dX5_back_0 : decode cX5_back 0 = .ok (.aload_n 0, 1) := by decide +kernel
theorem dX5_back_1 : decode cX5_back 1 = .ok (.iload_n 1, 1) := by decide +kernel
theorem dX5_back_2 : decode cX5_back 2 = .ok (.invokevirtual 80, 3) := by decide +kernel
theorem dX5_back_5 : decode cX5_back 5 = .ok (.ifCond .ne 9, 3) := by decide +kernel
theorem dX5_back_8 : decode cX5_back 8 = .ok (.aload_n 0, 1) := by decide +kernel
theorem dX5_back_9 : decode cX5_back 9 = .ok (.iconst (-1), 1) := by decide +kernel
theorem dX5_back_10 : decode cX5_back 10 = .ok (.invokevirtual 88, 3) := by decide +kernel
theorem dX5_back_13 : decode cX5_back 13 = .ok (.ireturn, 1) := by decide +kernel
theorem dX5_back_14 : decode cX5_back 14 = .ok (.iconst 0, 1) := by decide +kernel
theorem dX5_back_15 : decode cX5_back 15 = .ok (.istore_n 2, 1) := by decide +kernel
theorem dX5_back_16 : decode cX5_back 16 = .ok (.iload_n 2, 1) := by decide +kernel
theorem dX5_back_17 : decode cX5_back 17 = .ok (.aload_n 0, 1) := by decide +kernel
theorem dX5_back_18 : decode cX5_back 18 = .ok (.getfield 19, 3) := by decide +kernel
theorem dX5_back_21 : decode cX5_back 21 = .ok (.iload_n 1, 1) := by decide +kernel
theorem dX5_back_22 : decode cX5_back 22 = .ok (.iaload, 1) := by decide +kernel
theorem dX5_back_23 : decode cX5_back 23 = .ok (.if_icmp .ge 65, 3) := by decide +kernel
theorem dX5_back_26 : decode cX5_back 26 = .ok (.iconst 1, 1) := by decide +kernel
theorem dX5_back_27 : decode cX5_back 27 = .ok (.istore_n 3, 1) := by decide +kernel
theorem dX5_back_28 : decode cX5_back 28 = .ok (.iconst 0, 1) := by decide +kernel
theorem dX5_back_29 : decode cX5_back 29 = .ok (.istore 4, 2) := by decide +kernel
theorem dX5_back_31 : decode cX5_back 31 = .ok (.iload 4, 2) := by decide +kernel
theorem dX5_back_33 : decode cX5_back 33 = .ok (.aload_n 0, 1) := by decide +kernel
theorem dX5_back_34 : decode cX5_back 34 = .ok (.getfield 13, 3) := by decide +kernel
theorem dX5_back_37 : decode cX5_back 37 = .ok (.iload_n 1, 1) := by decide +kernel
theorem dX5_back_38 : decode cX5_back 38 = .ok (.iaload, 1) := by decide +kernel
theorem dX5_back_39 : decode cX5_back 39 = .ok (.if_icmp .ge 37, 3) := by decide +kernel
theorem dX5_back_42 : decode cX5_back 42 = .ok (.iload_n 3, 1) := by decide +kernel
theorem dX5_back_43 : decode cX5_back 43 = .ok (.ifCond .eq 25, 3) := by decide +kernel
theorem dX5_back_46 : decode cX5_back 46 = .ok (.aload_n 0, 1) := by decide +kernel
theorem dX5_back_47 : decode cX5_back 47 = .ok (.iload_n 1, 1) := by decide +kernel
theorem dX5_back_48 : decode cX5_back 48 = .ok (.iload_n 2, 1) := by decide +kernel
theorem dX5_back_49 : decode cX5_back 49 = .ok (.iload 4, 2) := by decide +kernel
theorem dX5_back_51 : decode cX5_back 51 = .ok (.invokevirtual 109, 3) := by decide +kernel
theorem dX5_back_54 : decode cX5_back 54 = .ok (.aload_n 0, 1) := by decide +kernel
theorem dX5_back_55 : decode cX5_back 55 = .ok (.getfield 43, 3) := by decide +kernel
theorem dX5_back_58 : decode cX5_back 58 = .ok (.iload 4, 2) := by decide +kernel
theorem dX5_back_60 : decode cX5_back 60 = .ok (.iaload, 1) := by decide +kernel
theorem dX5_back_61 : decode cX5_back 61 = .ok (.if_icmp .ne 7, 3) := by decide +kernel
theorem dX5_back_64 : decode cX5_back 64 = .ok (.iconst 1, 1) := by decide +kernel
theorem dX5_back_65 : decode cX5_back 65 = .ok (.goto 4, 3) := by decide +kernel
theorem dX5_back_68 : decode cX5_back 68 = .ok (.iconst 0, 1) := by decide +kernel
theorem dX5_back_69 : decode cX5_back 69 = .ok (.istore_n 3, 1) := by decide +kernel
theorem dX5_back_70 : decode cX5_back 70 = .ok (.iinc 4 1, 3) := by decide +kernel
theorem dX5_back_73 : decode cX5_back 73 = .ok (.goto (-42), 3) := by decide +kernel
theorem dX5_back_76 : decode cX5_back 76 = .ok (.iload_n 3, 1) := by decide +kernel
theorem dX5_back_77 : decode cX5_back 77 = .ok (.ifCond .eq 5, 3) := by decide +kernel
theorem dX5_back_80 : decode cX5_back 80 = .ok (.iload_n 2, 1) := by decide +kernel
theorem dX5_back_81 : decode cX5_back 81 = .ok (.ireturn, 1) := by decide +kernel
theorem dX5_back_82 : decode cX5_back 82 = .ok (.iinc 2 1, 3) := by decide +kernel
theorem dX5_back_85 : decode cX5_back 85 = .ok (.goto (-69), 3) := by decide +kernel
theorem dX5_back_88 : decode cX5_back 88 = .ok (.bipush (-9), 2) := by decide +kernel
theorem dX5_back_90 : decode cX5_back 90 = .ok (.ireturn, 1) := by decide +kernel
theorem dX5_uneven_0 : decode cX5_uneven 0 = .ok (.iconst 0, 1) := by decide +kernel
theorem dX5_uneven_1 : decode cX5_uneven 1 = .ok (.istore_n 2, 1) := by decide +kernel
theorem dX5_uneven_2 : decode cX5_uneven 2 = .ok (.iconst 0, 1) := by decide +kernel
theorem dX5_uneven_3 : decode cX5_uneven 3 = .ok (.istore_n 3, 1) := by decide +kernel
theorem dX5_uneven_4 : decode cX5_uneven 4 = .ok (.iload_n 3, 1) := by decide +kernel
theorem dX5_uneven_5 : decode cX5_uneven 5 = .ok (.aload_n 0, 1) := by decide +kernel
theorem dX5_uneven_6 : decode cX5_uneven 6 = .ok (.getfield 13, 3) := by decide +kernel
theorem dX5_uneven_9 : decode cX5_uneven 9 = .ok (.iload_n 1, 1) := by decide +kernel
theorem dX5_uneven_10 : decode cX5_uneven 10 = .ok (.iaload, 1) := by decide +kernel
theorem dX5_uneven_11 : decode cX5_uneven 11 = .ok (.if_icmp .ge 18, 3) := by decide +kernel
theorem dX5_uneven_14 : decode cX5_uneven 14 = .ok (.iload_n 2, 1) := by decide +kernel
theorem dX5_uneven_15 : decode cX5_uneven 15 = .ok (.aload_n 0, 1) := by decide +kernel
theorem dX5_uneven_16 : decode cX5_uneven 16 = .ok (.getfield 57, 3) := by decide +kernel
theorem dX5_uneven_19 : decode cX5_uneven 19 = .ok (.iload_n 3, 1) := by decide +kernel
theorem dX5_uneven_20 : decode cX5_uneven 20 = .ok (.iaload, 1) := by decide +kernel
theorem dX5_uneven_21 : decode cX5_uneven 21 = .ok (.iadd, 1) := by decide +kernel
theorem dX5_uneven_22 : decode cX5_uneven 22 = .ok (.istore_n 2, 1) := by decide +kernel
theorem dX5_uneven_23 : decode cX5_uneven 23 = .ok (.iinc 3 1, 3) := by decide +kernel
theorem dX5_uneven_26 : decode cX5_uneven 26 = .ok (.goto (-22), 3) := by decide +kernel
theorem dX5_uneven_29 : decode cX5_uneven 29 = .ok (.iconst 0, 1) := by decide +kernel
theorem dX5_uneven_30 : decode cX5_uneven 30 = .ok (.istore_n 3, 1) := by decide +kernel
theorem dX5_uneven_31 : decode cX5_uneven 31 = .ok (.iload_n 3, 1) := by decide +kernel
theorem dX5_uneven_32 : decode cX5_uneven 32 = .ok (.iconst 1, 1) := by decide +kernel
theorem dX5_uneven_33 : decode cX5_uneven 33 = .ok (.iload_n 2, 1) := by decide +kernel
theorem dX5_uneven_34 : decode cX5_uneven 34 = .ok (.ishl, 1) := by decide +kernel
theorem dX5_uneven_35 : decode cX5_uneven 35 = .ok (.if_icmp .ge 16, 3) := by decide +kernel
theorem dX5_uneven_38 : decode cX5_uneven 38 = .ok (.aload_n 0, 1) := by decide +kernel
theorem dX5_uneven_39 : decode cX5_uneven 39 = .ok (.getfield 54, 3) := by decide +kernel
theorem dX5_uneven_42 : decode cX5_uneven 42 = .ok (.iload_n 3, 1) := by decide +kernel
theorem dX5_uneven_43 : decode cX5_uneven 43 = .ok (.iconst 0, 1) := by decide +kernel
theorem dX5_uneven_44 : decode cX5_uneven 44 = .ok (.iastore, 1) := by decide +kernel
theorem dX5_uneven_45 : decode cX5_uneven 45 = .ok (.iinc 3 1, 3) := by decide +kernel
theorem dX5_uneven_48 : decode cX5_uneven 48 = .ok (.goto (-17), 3) := by decide +kernel
theorem dX5_uneven_51 : decode cX5_uneven 51 = .ok (.iconst 0, 1) := by decide +kernel
theorem dX5_uneven_52 : decode cX5_uneven 52 = .ok (.istore_n 3, 1) := by decide +kernel
theorem dX5_uneven_53 : decode cX5_uneven 53 = .ok (.iload_n 3, 1) := by decide +kernel
theorem dX5_uneven_54 : decode cX5_uneven 54 = .ok (.aload_n 0, 1) := by decide +kernel
theorem dX5_uneven_55 : decode cX5_uneven 55 = .ok (.getfield 19, 3) := by decide +kernel
theorem dX5_uneven_58 : decode cX5_uneven 58 = .ok (.iload_n 1, 1) := by decide +kernel
theorem dX5_uneven_59 : decode cX5_uneven 59 = .ok (.iaload, 1) := by decide +kernel
theorem dX5_uneven_60 : decode cX5_uneven 60 = .ok (.if_icmp .ge 93, 3) := by decide +kernel
theorem dX5_uneven_63 : decode cX5_uneven 63 = .ok (.iconst 0, 1) := by decide +kernel
theorem dX5_uneven_64 : decode cX5_uneven 64 = .ok (.istore 4, 2) := by decide +kernel
theorem dX5_uneven_66 : decode cX5_uneven 66 = .ok (.iconst 0, 1) := by decide +kernel
theorem dX5_uneven_67 : decode cX5_uneven 67 = .ok (.istore 5, 2) := by decide +kernel
theorem dX5_uneven_69 : decode cX5_uneven 69 = .ok (.iload 5, 2) := by decide +kernel
theorem dX5_uneven_71 : decode cX5_uneven 71 = .ok (.aload_n 0, 1) := by decide +kernel
theorem dX5_uneven_72 : decode cX5_uneven 72 = .ok (.getfield 13, 3) := by decide +kernel
theorem dX5_uneven_75 : decode cX5_uneven 75 = .ok (.iload_n 1, 1) := by decide +kernel
theorem dX5_uneven_76 : decode cX5_uneven 76 = .ok (.iaload, 1) := by decide +kernel
theorem dX5_uneven_77 : decode cX5_uneven 77 = .ok (.if_icmp .ge 59, 3) := by decide +kernel
theorem dX5_uneven_80 : decode cX5_uneven 80 = .ok (.iload 4, 2) := by decide +kernel
theorem dX5_uneven_82 : decode cX5_uneven 82 = .ok (.aload_n 0, 1) := by decide +kernel
theorem dX5_uneven_83 : decode cX5_uneven 83 = .ok (.getfield 57, 3) := by decide +kernel
theorem dX5_uneven_86 : decode cX5_uneven 86 = .ok (.iload 5, 2) := by decide +kernel
theorem dX5_uneven_88 : decode cX5_uneven 88 = .ok (.iaload, 1) := by decide +kernel
theorem dX5_uneven_89 : decode cX5_uneven 89 = .ok (.ishl, 1) := by decide +kernel
theorem dX5_uneven_90 : decode cX5_uneven 90 = .ok (.aload_n 0, 1) := by decide +kernel
theorem dX5_uneven_91 : decode cX5_uneven 91 = .ok (.getfield 57, 3) := by decide +kernel
theorem dX5_uneven_94 : decode cX5_uneven 94 = .ok (.iload 5, 2) := by decide +kernel
theorem dX5_uneven_96 : decode cX5_uneven 96 = .ok (.iaload, 1) := by decide +kernel
theorem dX5_uneven_97 : decode cX5_uneven 97 = .ok (.ifCond .ne 7, 3) := by decide +kernel
theorem dX5_uneven_100 : decode cX5_uneven 100 = .ok (.iconst 0, 1) := by decide +kernel
theorem dX5_uneven_101 : decode cX5_uneven 101 = .ok (.goto 26, 3) := by decide +kernel
theorem dX5_uneven_104 : decode cX5_uneven 104 = .ok (.aload_n 0, 1) := by decide +kernel
theorem dX5_uneven_105 : decode cX5_uneven 105 = .ok (.iload_n 1, 1) := by decide +kernel
theorem dX5_uneven_106 : decode cX5_uneven 106 = .ok (.iload_n 3, 1) := by decide +kernel
theorem dX5_uneven_107 : decode cX5_uneven 107 = .ok (.iload 5, 2) := by decide +kernel
theorem dX5_uneven_109 : decode cX5_uneven 109 = .ok (.invokevirtual 109, 3) := by decide +kernel
theorem dX5_uneven_112 : decode cX5_uneven 112 = .ok (.aload_n 0, 1) := by decide +kernel
theorem dX5_uneven_113 : decode cX5_uneven 113 = .ok (.getfield 16, 3) := by decide +kernel
theorem dX5_uneven_116 : decode cX5_uneven 116 = .ok (.iload_n 1, 1) := by decide +kernel
theorem dX5_uneven_117 : decode cX5_uneven 117 = .ok (.iaload, 1) := by decide +kernel
theorem dX5_uneven_118 : decode cX5_uneven 118 = .ok (.aload_n 0, 1) := by decide +kernel
theorem dX5_uneven_119 : decode cX5_uneven 119 = .ok (.getfield 57, 3) := by decide +kernel
theorem dX5_uneven_122 : decode cX5_uneven 122 = .ok (.iload 5, 2) := by decide +kernel
theorem dX5_uneven_124 : decode cX5_uneven 124 = .ok (.iaload, 1) := by decide +kernel
theorem dX5_uneven_125 : decode cX5_uneven 125 = .ok (.isub, 1) := by decide +kernel
theorem dX5_uneven_126 : decode cX5_uneven 126 = .ok (.ishr, 1) := by decide +kernel
theorem dX5_uneven_127 : decode cX5_uneven 127 = .ok (.ior, 1) := by decide +kernel
theorem dX5_uneven_128 : decode cX5_uneven 128 = .ok (.istore 4, 2) := by decide +kernel
theorem dX5_uneven_130 : decode cX5_uneven 130 = .ok (.iinc 5 1, 3) := by decide +kernel
theorem dX5_uneven_133 : decode cX5_uneven 133 = .ok (.goto (-64), 3) := by decide +kernel
theorem dX5_uneven_136 : decode cX5_uneven 136 = .ok (.aload_n 0, 1) := by decide +kernel
theorem dX5_uneven_137 : decode cX5_uneven 137 = .ok (.getfield 54, 3) := by decide +kernel
theorem dX5_uneven_140 : decode cX5_uneven 140 = .ok (.iload 4, 2) := by decide +kernel
theorem dX5_uneven_142 : decode cX5_uneven 142 = .ok (.dup2, 1) := by decide +kernel
theorem dX5_uneven_143 : decode cX5_uneven 143 = .ok (.iaload, 1) := by decide +kernel
theorem dX5_uneven_144 : decode cX5_uneven 144 = .ok (.iconst 1, 1) := by decide +kernel
theorem dX5_uneven_145 : decode cX5_uneven 145 = .ok (.iadd, 1) := by decide +kernel
theorem dX5_uneven_146 : decode cX5_uneven 146 = .ok (.iastore, 1) := by decide +kernel
theorem dX5_uneven_147 : decode cX5_uneven 147 = .ok (.iinc 3 1, 3) := by decide +kernel
theorem dX5_uneven_150 : decode cX5_uneven 150 = .ok (.goto (-97), 3) := by decide +kernel
theorem dX5_uneven_153 : decode cX5_uneven 153 = .ok (.iconst 0, 1) := by decide +kernel
theorem dX5_uneven_154 : decode cX5_uneven 154 = .ok (.istore_n 3, 1) := by decide +kernel
theorem dX5_uneven_155 : decode cX5_uneven 155 = .ok (.iload_n 3, 1) := by decide +kernel
theorem dX5_uneven_156 : decode cX5_uneven 156 = .ok (.iconst 1, 1) := by decide +kernel
theorem dX5_uneven_157 : decode cX5_uneven 157 = .ok (.iload_n 2, 1) := by decide +kernel
theorem dX5_uneven_158 : decode cX5_uneven 158 = .ok (.ishl, 1) := by decide +kernel
theorem dX5_uneven_159 : decode cX5_uneven 159 = .ok (.if_icmp .ge 31, 3) := by decide +kernel
theorem dX5_uneven_162 : decode cX5_uneven 162 = .ok (.aload_n 0, 1) := by decide +kernel
theorem dX5_uneven_163 : decode cX5_uneven 163 = .ok (.getfield 54, 3) := by decide +kernel
theorem dX5_uneven_166 : decode cX5_uneven 166 = .ok (.iload_n 3, 1) := by decide +kernel
theorem dX5_uneven_167 : decode cX5_uneven 167 = .ok (.iaload, 1) := by decide +kernel
theorem dX5_uneven_168 : decode cX5_uneven 168 = .ok (.i2l, 1) := by decide +kernel
theorem dX5_uneven_169 : decode cX5_uneven 169 = .ok (.iload_n 2, 1) := by decide +kernel
theorem dX5_uneven_170 : decode cX5_uneven 170 = .ok (.lshl, 1) := by decide +kernel
theorem dX5_uneven_171 : decode cX5_uneven 171 = .ok (.aload_n 0, 1) := by decide +kernel
theorem dX5_uneven_172 : decode cX5_uneven 172 = .ok (.getfield 19, 3) := by decide +kernel
theorem dX5_uneven_175 : decode cX5_uneven 175 = .ok (.iload_n 1, 1) := by decide +kernel
theorem dX5_uneven_176 : decode cX5_uneven 176 = .ok (.iaload, 1) := by decide +kernel
theorem dX5_uneven_177 : decode cX5_uneven 177 = .ok (.i2l, 1) := by decide +kernel
theorem dX5_uneven_178 : decode cX5_uneven 178 = .ok (.lcmp, 1) := by decide +kernel
theorem dX5_uneven_179 : decode cX5_uneven 179 = .ok (.ifCond .eq 5, 3) := by decide +kernel
theorem dX5_uneven_182 : decode cX5_uneven 182 = .ok (.iload_n 3, 1) := by decide +kernel
theorem dX5_uneven_183 : decode cX5_uneven 183 = .ok (.ireturn, 1) := by decide +kernel
theorem dX5_uneven_184 : decode cX5_uneven 184 = .ok (.iinc 3 1, 3) := by decide +kernel
theorem dX5_uneven_187 : decode cX5_uneven 187 = .ok (.goto (-32), 3) := by decide +kernel
theorem dX5_uneven_190 : decode cX5_uneven 190 = .ok (.iconst (-1), 1) := by decide +kernel
theorem dX5_uneven_191 : decode cX5_uneven 191 = .ok (.ireturn, 1) := by decide +kernel
theorem dX5_lacksShape_0 : decode cX5_lacksShape 0 = .ok (.aload_n 0, 1) := by decide +kernel
theorem dX5_lacksShape_1 : decode cX5_lacksShape 1 = .ok (.iload_n 1, 1) := by decide +kernel
theorem dX5_lacksShape_2 : decode cX5_lacksShape 2 = .ok (.invokevirtual 80, 3) := by decide +kernel
theorem dX5_lacksShape_5 : decode cX5_lacksShape 5 = .ok (.ifCond .ne 5, 3) := by decide +kernel
theorem dX5_lacksShape_8 : decode cX5_lacksShape 8 = .ok (.iconst (-1), 1) := by decide +kernel
theorem dX5_lacksShape_9 : decode cX5_lacksShape 9 = .ok (.ireturn, 1) := by decide +kernel
theorem dX5_lacksShape_10 : decode cX5_lacksShape 10 = .ok (.aload_n 0, 1) := by decide +kernel
theorem dX5_lacksShape_11 : decode cX5_lacksShape 11 = .ok (.getfield 7, 3) := by decide +kernel
theorem dX5_lacksShape_14 : decode cX5_lacksShape 14 = .ok (.iload_n 1, 1) := by decide +kernel
theorem dX5_lacksShape_15 : decode cX5_lacksShape 15 = .ok (.iaload, 1) := by decide +kernel
theorem dX5_lacksShape_16 : decode cX5_lacksShape 16 = .ok (.iconst 3, 1) := by decide +kernel
theorem dX5_lacksShape_17 : decode cX5_lacksShape 17 = .ok (.if_icmp .ne 6, 3) := by decide +kernel
theorem dX5_lacksShape_20 : decode cX5_lacksShape 20 = .ok (.bipush (-2), 2) := by decide +kernel
theorem dX5_lacksShape_22 : decode cX5_lacksShape 22 = .ok (.ireturn, 1) := by decide +kernel
theorem dX5_lacksShape_23 : decode cX5_lacksShape 23 = .ok (.iconst 0, 1) := by decide +kernel
theorem dX5_lacksShape_24 : decode cX5_lacksShape 24 = .ok (.istore_n 2, 1) := by decide +kernel
theorem dX5_lacksShape_25 : decode cX5_lacksShape 25 = .ok (.iconst 0, 1) := by decide +kernel
theorem dX5_lacksShape_26 : decode cX5_lacksShape 26 = .ok (.istore_n 3, 1) := by decide +kernel
theorem dX5_lacksShape_27 : decode cX5_lacksShape 27 = .ok (.iload_n 3, 1) := by decide +kernel
theorem dX5_lacksShape_28 : decode cX5_lacksShape 28 = .ok (.aload_n 0, 1) := by decide +kernel
theorem dX5_lacksShape_29 : decode cX5_lacksShape 29 = .ok (.getfield 13, 3) := by decide +kernel
theorem dX5_lacksShape_32 : decode cX5_lacksShape 32 = .ok (.iload_n 1, 1) := by decide +kernel
theorem dX5_lacksShape_33 : decode cX5_lacksShape 33 = .ok (.iaload, 1) := by decide +kernel
theorem dX5_lacksShape_34 : decode cX5_lacksShape 34 = .ok (.if_icmp .ge 54, 3) := by decide +kernel
theorem dX5_lacksShape_37 : decode cX5_lacksShape 37 = .ok (.aload_n 0, 1) := by decide +kernel
theorem dX5_lacksShape_38 : decode cX5_lacksShape 38 = .ok (.getfield 43, 3) := by decide +kernel
theorem dX5_lacksShape_41 : decode cX5_lacksShape 41 = .ok (.iload_n 3, 1) := by decide +kernel
theorem dX5_lacksShape_42 : decode cX5_lacksShape 42 = .ok (.iaload, 1) := by decide +kernel
theorem dX5_lacksShape_43 : decode cX5_lacksShape 43 = .ok (.i2l, 1) := by decide +kernel
theorem dX5_lacksShape_44 : decode cX5_lacksShape 44 = .ok (.lconst 0, 1) := by decide +kernel
theorem dX5_lacksShape_45 : decode cX5_lacksShape 45 = .ok (.aload_n 0, 1) := by decide +kernel
theorem dX5_lacksShape_46 : decode cX5_lacksShape 46 = .ok (.getfield 16, 3) := by decide +kernel
theorem dX5_lacksShape_49 : decode cX5_lacksShape 49 = .ok (.iload_n 1, 1) := by decide +kernel
theorem dX5_lacksShape_50 : decode cX5_lacksShape 50 = .ok (.iaload, 1) := by decide +kernel
theorem dX5_lacksShape_51 : decode cX5_lacksShape 51 = .ok (.i2l, 1) := by decide +kernel
theorem dX5_lacksShape_52 : decode cX5_lacksShape 52 = .ok (.invokestatic 76, 3) := by decide +kernel
theorem dX5_lacksShape_55 : decode cX5_lacksShape 55 = .ok (.ifCond .ne 6, 3) := by decide +kernel
theorem dX5_lacksShape_58 : decode cX5_lacksShape 58 = .ok (.bipush (-3), 2) := by decide +kernel
theorem dX5_lacksShape_60 : decode cX5_lacksShape 60 = .ok (.ireturn, 1) := by decide +kernel
theorem dX5_lacksShape_61 : decode cX5_lacksShape 61 = .ok (.aload_n 0, 1) := by decide +kernel
theorem dX5_lacksShape_62 : decode cX5_lacksShape 62 = .ok (.getfield 57, 3) := by decide +kernel
theorem dX5_lacksShape_65 : decode cX5_lacksShape 65 = .ok (.iload_n 3, 1) := by decide +kernel
theorem dX5_lacksShape_66 : decode cX5_lacksShape 66 = .ok (.aload_n 0, 1) := by decide +kernel
theorem dX5_lacksShape_67 : decode cX5_lacksShape 67 = .ok (.getfield 43, 3) := by decide +kernel
theorem dX5_lacksShape_70 : decode cX5_lacksShape 70 = .ok (.iload_n 3, 1) := by decide +kernel
theorem dX5_lacksShape_71 : decode cX5_lacksShape 71 = .ok (.iaload, 1) := by decide +kernel
theorem dX5_lacksShape_72 : decode cX5_lacksShape 72 = .ok (.iastore, 1) := by decide +kernel
theorem dX5_lacksShape_73 : decode cX5_lacksShape 73 = .ok (.iload_n 2, 1) := by decide +kernel
theorem dX5_lacksShape_74 : decode cX5_lacksShape 74 = .ok (.aload_n 0, 1) := by decide +kernel
theorem dX5_lacksShape_75 : decode cX5_lacksShape 75 = .ok (.getfield 43, 3) := by decide +kernel
theorem dX5_lacksShape_78 : decode cX5_lacksShape 78 = .ok (.iload_n 3, 1) := by decide +kernel
theorem dX5_lacksShape_79 : decode cX5_lacksShape 79 = .ok (.iaload, 1) := by decide +kernel
theorem dX5_lacksShape_80 : decode cX5_lacksShape 80 = .ok (.iadd, 1) := by decide +kernel
theorem dX5_lacksShape_81 : decode cX5_lacksShape 81 = .ok (.istore_n 2, 1) := by decide +kernel
theorem dX5_lacksShape_82 : decode cX5_lacksShape 82 = .ok (.iinc 3 1, 3) := by decide +kernel
theorem dX5_lacksShape_85 : decode cX5_lacksShape 85 = .ok (.goto (-58), 3) := by decide +kernel
theorem dX5_lacksShape_88 : decode cX5_lacksShape 88 = .ok (.iload_n 2, 1) := by decide +kernel
theorem dX5_lacksShape_89 : decode cX5_lacksShape 89 = .ok (.bipush 16, 2) := by decide +kernel
theorem dX5_lacksShape_91 : decode cX5_lacksShape 91 = .ok (.if_icmp .le 8, 3) := by decide +kernel
theorem dX5_lacksShape_94 : decode cX5_lacksShape 94 = .ok (.bipush (-6), 2) := by decide +kernel
theorem dX5_lacksShape_96 : decode cX5_lacksShape 96 = .ok (.goto 4, 3) := by decide +kernel
theorem dX5_lacksShape_99 : decode cX5_lacksShape 99 = .ok (.iconst 0, 1) := by decide +kernel
theorem dX5_lacksShape_100 : decode cX5_lacksShape 100 = .ok (.ireturn, 1) := by decide +kernel
theorem dX5_even_0 : decode cX5_even 0 = .ok (.aload_n 0, 1) := by decide +kernel
theorem dX5_even_1 : decode cX5_even 1 = .ok (.iload_n 1, 1) := by decide +kernel
theorem dX5_even_2 : decode cX5_even 2 = .ok (.invokevirtual 119, 3) := by decide +kernel
theorem dX5_even_5 : decode cX5_even 5 = .ok (.istore_n 2, 1) := by decide +kernel
theorem dX5_even_6 : decode cX5_even 6 = .ok (.iload_n 2, 1) := by decide +kernel
theorem dX5_even_7 : decode cX5_even 7 = .ok (.ifCond .ge 11, 3) := by decide +kernel
theorem dX5_even_10 : decode cX5_even 10 = .ok (.aload_n 0, 1) := by decide +kernel
theorem dX5_even_11 : decode cX5_even 11 = .ok (.iload_n 2, 1) := by decide +kernel
theorem dX5_even_12 : decode cX5_even 12 = .ok (.invokevirtual 88, 3) := by decide +kernel
theorem dX5_even_15 : decode cX5_even 15 = .ok (.goto 16, 3) := by decide +kernel
theorem dX5_even_18 : decode cX5_even 18 = .ok (.aload_n 0, 1) := by decide +kernel
theorem dX5_even_19 : decode cX5_even 19 = .ok (.iload_n 1, 1) := by decide +kernel
theorem dX5_even_20 : decode cX5_even 20 = .ok (.invokevirtual 122, 3) := by decide +kernel
theorem dX5_even_23 : decode cX5_even 23 = .ok (.ifCond .ge 7, 3) := by decide +kernel
theorem dX5_even_26 : decode cX5_even 26 = .ok (.iconst 1, 1) := by decide +kernel
theorem dX5_even_27 : decode cX5_even 27 = .ok (.goto 4, 3) := by decide +kernel
theorem dX5_even_30 : decode cX5_even 30 = .ok (.iconst 0, 1) := by decide +kernel
theorem dX5_even_31 : decode cX5_even 31 = .ok (.ireturn, 1) := by decide +kernel
theorem dX5_why_0 : decode cX5_why 0 = .ok (.aload_n 0, 1) := by decide +kernel
theorem dX5_why_1 : decode cX5_why 1 = .ok (.iload_n 1, 1) := by decide +kernel
theorem dX5_why_2 : decode cX5_why 2 = .ok (.invokevirtual 119, 3) := by decide +kernel
theorem dX5_why_5 : decode cX5_why 5 = .ok (.ifCond .ge 7, 3) := by decide +kernel
theorem dX5_why_8 : decode cX5_why 8 = .ok (.iconst (-1), 1) := by decide +kernel
theorem dX5_why_9 : decode cX5_why 9 = .ok (.goto 8, 3) := by decide +kernel
theorem dX5_why_12 : decode cX5_why 12 = .ok (.aload_n 0, 1) := by decide +kernel
theorem dX5_why_13 : decode cX5_why 13 = .ok (.iload_n 1, 1) := by decide +kernel
theorem dX5_why_14 : decode cX5_why 14 = .ok (.invokevirtual 122, 3) := by decide +kernel
theorem dX5_why_17 : decode cX5_why 17 = .ok (.istore_n 2, 1) := by decide +kernel
theorem dX5_why_18 : decode cX5_why 18 = .ok (.iload_n 2, 1) := by decide +kernel
theorem dX5_why_19 : decode cX5_why 19 = .ok (.ifCond .ge 8, 3) := by decide +kernel
theorem dX5_why_22 : decode cX5_why 22 = .ok (.bipush (-9), 2) := by decide +kernel
theorem dX5_why_24 : decode cX5_why 24 = .ok (.goto 9, 3) := by decide +kernel
theorem dX5_why_27 : decode cX5_why 27 = .ok (.aload_n 0, 1) := by decide +kernel
theorem dX5_why_28 : decode cX5_why 28 = .ok (.getfield 54, 3) := by decide +kernel
theorem dX5_why_31 : decode cX5_why 31 = .ok (.iload_n 2, 1) := by decide +kernel
theorem dX5_why_32 : decode cX5_why 32 = .ok (.iaload, 1) := by decide +kernel
theorem dX5_why_33 : decode cX5_why 33 = .ok (.ireturn, 1) := by decide +kernel
theorem dX5_areEven_0 : decode cX5_areEven 0 = .ok (.iconst 0, 1) := by decide +kernel
theorem dX5_areEven_1 : decode cX5_areEven 1 = .ok (.istore 4, 2) := by decide +kernel
theorem dX5_areEven_3 : decode cX5_areEven 3 = .ok (.iconst 0, 1) := by decide +kernel
theorem dX5_areEven_4 : decode cX5_areEven 4 = .ok (.istore 5, 2) := by decide +kernel
theorem dX5_areEven_6 : decode cX5_areEven 6 = .ok (.iload 5, 2) := by decide +kernel
theorem dX5_areEven_8 : decode cX5_areEven 8 = .ok (.bipush 6, 2) := by decide +kernel
theorem dX5_areEven_10 : decode cX5_areEven 10 = .ok (.if_icmp .ge 50, 3) := by decide +kernel
theorem dX5_areEven_13 : decode cX5_areEven 13 = .ok (.aload_n 0, 1) := by decide +kernel
theorem dX5_areEven_14 : decode cX5_areEven 14 = .ok (.getfield 57, 3) := by decide +kernel
theorem dX5_areEven_17 : decode cX5_areEven 17 = .ok (.iload 5, 2) := by decide +kernel
theorem dX5_areEven_19 : decode cX5_areEven 19 = .ok (.iconst 0, 1) := by decide +kernel
theorem dX5_areEven_20 : decode cX5_areEven 20 = .ok (.iastore, 1) := by decide +kernel
theorem dX5_areEven_21 : decode cX5_areEven 21 = .ok (.iload 5, 2) := by decide +kernel
theorem dX5_areEven_23 : decode cX5_areEven 23 = .ok (.aload_n 0, 1) := by decide +kernel
theorem dX5_areEven_24 : decode cX5_areEven 24 = .ok (.getfield 13, 3) := by decide +kernel
theorem dX5_areEven_27 : decode cX5_areEven 27 = .ok (.iload_n 1, 1) := by decide +kernel
theorem dX5_areEven_28 : decode cX5_areEven 28 = .ok (.iaload, 1) := by decide +kernel
theorem dX5_areEven_29 : decode cX5_areEven 29 = .ok (.if_icmp .ge 25, 3) := by decide +kernel
theorem dX5_areEven_32 : decode cX5_areEven 32 = .ok (.iload_n 3, 1) := by decide +kernel
theorem dX5_areEven_33 : decode cX5_areEven 33 = .ok (.iload 5, 2) := by decide +kernel
theorem dX5_areEven_35 : decode cX5_areEven 35 = .ok (.ishr, 1) := by decide +kernel
theorem dX5_areEven_36 : decode cX5_areEven 36 = .ok (.iconst 1, 1) := by decide +kernel
theorem dX5_areEven_37 : decode cX5_areEven 37 = .ok (.iand, 1) := by decide +kernel
theorem dX5_areEven_38 : decode cX5_areEven 38 = .ok (.iconst 1, 1) := by decide +kernel
theorem dX5_areEven_39 : decode cX5_areEven 39 = .ok (.if_icmp .ne 15, 3) := by decide +kernel
theorem dX5_areEven_42 : decode cX5_areEven 42 = .ok (.aload_n 0, 1) := by decide +kernel
theorem dX5_areEven_43 : decode cX5_areEven 43 = .ok (.getfield 60, 3) := by decide +kernel
theorem dX5_areEven_46 : decode cX5_areEven 46 = .ok (.iload 4, 2) := by decide +kernel
theorem dX5_areEven_48 : decode cX5_areEven 48 = .ok (.iload 5, 2) := by decide +kernel
theorem dX5_areEven_50 : decode cX5_areEven 50 = .ok (.iastore, 1) := by decide +kernel
theorem dX5_areEven_51 : decode cX5_areEven 51 = .ok (.iinc 4 1, 3) := by decide +kernel
theorem dX5_areEven_54 : decode cX5_areEven 54 = .ok (.iinc 5 1, 3) := by decide +kernel
theorem dX5_areEven_57 : decode cX5_areEven 57 = .ok (.goto (-51), 3) := by decide +kernel
theorem dX5_areEven_60 : decode cX5_areEven 60 = .ok (.aload_n 0, 1) := by decide +kernel
theorem dX5_areEven_61 : decode cX5_areEven 61 = .ok (.getfield 60, 3) := by decide +kernel
theorem dX5_areEven_64 : decode cX5_areEven 64 = .ok (.iload 4, 2) := by decide +kernel
theorem dX5_areEven_66 : decode cX5_areEven 66 = .ok (.iconst 1, 1) := by decide +kernel
theorem dX5_areEven_67 : decode cX5_areEven 67 = .ok (.isub, 1) := by decide +kernel
theorem dX5_areEven_68 : decode cX5_areEven 68 = .ok (.iaload, 1) := by decide +kernel
theorem dX5_areEven_69 : decode cX5_areEven 69 = .ok (.istore 5, 2) := by decide +kernel
theorem dX5_areEven_71 : decode cX5_areEven 71 = .ok (.aload_n 0, 1) := by decide +kernel
theorem dX5_areEven_72 : decode cX5_areEven 72 = .ok (.getfield 57, 3) := by decide +kernel
theorem dX5_areEven_75 : decode cX5_areEven 75 = .ok (.iload 5, 2) := by decide +kernel
theorem dX5_areEven_77 : decode cX5_areEven 77 = .ok (.iload_n 2, 1) := by decide +kernel
theorem dX5_areEven_78 : decode cX5_areEven 78 = .ok (.iastore, 1) := by decide +kernel
theorem dX5_areEven_79 : decode cX5_areEven 79 = .ok (.aload_n 0, 1) := by decide +kernel
theorem dX5_areEven_80 : decode cX5_areEven 80 = .ok (.iload_n 1, 1) := by decide +kernel
theorem dX5_areEven_81 : decode cX5_areEven 81 = .ok (.invokevirtual 122, 3) := by decide +kernel
theorem dX5_areEven_84 : decode cX5_areEven 84 = .ok (.ifCond .ge 106, 3) := by decide +kernel
theorem dX5_areEven_87 : decode cX5_areEven 87 = .ok (.aload_n 0, 1) := by decide +kernel
theorem dX5_areEven_88 : decode cX5_areEven 88 = .ok (.getfield 57, 3) := by decide +kernel
theorem dX5_areEven_91 : decode cX5_areEven 91 = .ok (.iload 5, 2) := by decide +kernel
theorem dX5_areEven_93 : decode cX5_areEven 93 = .ok (.iaload, 1) := by decide +kernel
theorem dX5_areEven_94 : decode cX5_areEven 94 = .ok (.istore 6, 2) := by decide +kernel
theorem dX5_areEven_96 : decode cX5_areEven 96 = .ok (.aload_n 0, 1) := by decide +kernel
theorem dX5_areEven_97 : decode cX5_areEven 97 = .ok (.getfield 57, 3) := by decide +kernel
theorem dX5_areEven_100 : decode cX5_areEven 100 = .ok (.iload 5, 2) := by decide +kernel
theorem dX5_areEven_102 : decode cX5_areEven 102 = .ok (.iconst 0, 1) := by decide +kernel
theorem dX5_areEven_103 : decode cX5_areEven 103 = .ok (.iastore, 1) := by decide +kernel
theorem dX5_areEven_104 : decode cX5_areEven 104 = .ok (.iload 4, 2) := by decide +kernel
theorem dX5_areEven_106 : decode cX5_areEven 106 = .ok (.iconst 2, 1) := by decide +kernel
theorem dX5_areEven_107 : decode cX5_areEven 107 = .ok (.isub, 1) := by decide +kernel
theorem dX5_areEven_108 : decode cX5_areEven 108 = .ok (.istore 7, 2) := by decide +kernel
theorem dX5_areEven_110 : decode cX5_areEven 110 = .ok (.iload 7, 2) := by decide +kernel
theorem dX5_areEven_112 : decode cX5_areEven 112 = .ok (.ifCond .lt 41, 3) := by decide +kernel
theorem dX5_areEven_115 : decode cX5_areEven 115 = .ok (.iload 6, 2) := by decide +kernel
theorem dX5_areEven_117 : decode cX5_areEven 117 = .ok (.ifCond .ne 36, 3) := by decide +kernel
theorem dX5_areEven_120 : decode cX5_areEven 120 = .ok (.aload_n 0, 1) := by decide +kernel
theorem dX5_areEven_121 : decode cX5_areEven 121 = .ok (.getfield 57, 3) := by decide +kernel
theorem dX5_areEven_124 : decode cX5_areEven 124 = .ok (.aload_n 0, 1) := by decide +kernel
theorem dX5_areEven_125 : decode cX5_areEven 125 = .ok (.getfield 60, 3) := by decide +kernel
theorem dX5_areEven_128 : decode cX5_areEven 128 = .ok (.iload 7, 2) := by decide +kernel
theorem dX5_areEven_130 : decode cX5_areEven 130 = .ok (.iaload, 1) := by decide +kernel
theorem dX5_areEven_131 : decode cX5_areEven 131 = .ok (.iaload, 1) := by decide +kernel
theorem dX5_areEven_132 : decode cX5_areEven 132 = .ok (.istore 6, 2) := by decide +kernel
theorem dX5_areEven_134 : decode cX5_areEven 134 = .ok (.aload_n 0, 1) := by decide +kernel
theorem dX5_areEven_135 : decode cX5_areEven 135 = .ok (.getfield 57, 3) := by decide +kernel
theorem dX5_areEven_138 : decode cX5_areEven 138 = .ok (.aload_n 0, 1) := by decide +kernel
theorem dX5_areEven_139 : decode cX5_areEven 139 = .ok (.getfield 60, 3) := by decide +kernel
theorem dX5_areEven_142 : decode cX5_areEven 142 = .ok (.iload 7, 2) := by decide +kernel
theorem dX5_areEven_144 : decode cX5_areEven 144 = .ok (.iaload, 1) := by decide +kernel
theorem dX5_areEven_145 : decode cX5_areEven 145 = .ok (.iconst 0, 1) := by decide +kernel
theorem dX5_areEven_146 : decode cX5_areEven 146 = .ok (.iastore, 1) := by decide +kernel
theorem dX5_areEven_147 : decode cX5_areEven 147 = .ok (.iinc 7 (-1), 3) := by decide +kernel
theorem dX5_areEven_150 : decode cX5_areEven 150 = .ok (.goto (-40), 3) := by decide +kernel
theorem dX5_areEven_153 : decode cX5_areEven 153 = .ok (.iload 7, 2) := by decide +kernel
theorem dX5_areEven_155 : decode cX5_areEven 155 = .ok (.ifCond .ge 5, 3) := by decide +kernel
theorem dX5_areEven_158 : decode cX5_areEven 158 = .ok (.iconst 1, 1) := by decide +kernel
theorem dX5_areEven_159 : decode cX5_areEven 159 = .ok (.ireturn, 1) := by decide +kernel
theorem dX5_areEven_160 : decode cX5_areEven 160 = .ok (.aload_n 0, 1) := by decide +kernel
theorem dX5_areEven_161 : decode cX5_areEven 161 = .ok (.getfield 57, 3) := by decide +kernel
theorem dX5_areEven_164 : decode cX5_areEven 164 = .ok (.aload_n 0, 1) := by decide +kernel
theorem dX5_areEven_165 : decode cX5_areEven 165 = .ok (.getfield 60, 3) := by decide +kernel
theorem dX5_areEven_168 : decode cX5_areEven 168 = .ok (.iload 7, 2) := by decide +kernel
theorem dX5_areEven_170 : decode cX5_areEven 170 = .ok (.iaload, 1) := by decide +kernel
theorem dX5_areEven_171 : decode cX5_areEven 171 = .ok (.dup2, 1) := by decide +kernel
theorem dX5_areEven_172 : decode cX5_areEven 172 = .ok (.iaload, 1) := by decide +kernel
theorem dX5_areEven_173 : decode cX5_areEven 173 = .ok (.iconst 1, 1) := by decide +kernel
theorem dX5_areEven_174 : decode cX5_areEven 174 = .ok (.iadd, 1) := by decide +kernel
theorem dX5_areEven_175 : decode cX5_areEven 175 = .ok (.iastore, 1) := by decide +kernel
theorem dX5_areEven_176 : decode cX5_areEven 176 = .ok (.aload_n 0, 1) := by decide +kernel
theorem dX5_areEven_177 : decode cX5_areEven 177 = .ok (.getfield 57, 3) := by decide +kernel
theorem dX5_areEven_180 : decode cX5_areEven 180 = .ok (.iload 5, 2) := by decide +kernel
theorem dX5_areEven_182 : decode cX5_areEven 182 = .ok (.iload 6, 2) := by decide +kernel
theorem dX5_areEven_184 : decode cX5_areEven 184 = .ok (.iconst 1, 1) := by decide +kernel
theorem dX5_areEven_185 : decode cX5_areEven 185 = .ok (.isub, 1) := by decide +kernel
theorem dX5_areEven_186 : decode cX5_areEven 186 = .ok (.iastore, 1) := by decide +kernel
theorem dX5_areEven_187 : decode cX5_areEven 187 = .ok (.goto (-108), 3) := by decide +kernel
theorem dX5_areEven_190 : decode cX5_areEven 190 = .ok (.iconst 0, 1) := by decide +kernel
theorem dX5_areEven_191 : decode cX5_areEven 191 = .ok (.ireturn, 1) := by decide +kernel
theorem dX5_gradeOf_0 : decode cX5_gradeOf 0 = .ok (.iconst 0, 1) := by decide +kernel
theorem dX5_gradeOf_1 : decode cX5_gradeOf 1 = .ok (.istore_n 3, 1) := by decide +kernel
theorem dX5_gradeOf_2 : decode cX5_gradeOf 2 = .ok (.aload_n 0, 1) := by decide +kernel
theorem dX5_gradeOf_3 : decode cX5_gradeOf 3 = .ok (.iload_n 1, 1) := by decide +kernel
theorem dX5_gradeOf_4 : decode cX5_gradeOf 4 = .ok (.aload_n 0, 1) := by decide +kernel
theorem dX5_gradeOf_5 : decode cX5_gradeOf 5 = .ok (.getfield 16, 3) := by decide +kernel
theorem dX5_gradeOf_8 : decode cX5_gradeOf 8 = .ok (.iload_n 1, 1) := by decide +kernel
theorem dX5_gradeOf_9 : decode cX5_gradeOf 9 = .ok (.iaload, 1) := by decide +kernel
theorem dX5_gradeOf_10 : decode cX5_gradeOf 10 = .ok (.iload_n 3, 1) := by decide +kernel
theorem dX5_gradeOf_11 : decode cX5_gradeOf 11 = .ok (.isub, 1) := by decide +kernel
theorem dX5_gradeOf_12 : decode cX5_gradeOf 12 = .ok (.iload_n 2, 1) := by decide +kernel
theorem dX5_gradeOf_13 : decode cX5_gradeOf 13 = .ok (.invokevirtual 125, 3) := by decide +kernel
theorem dX5_gradeOf_16 : decode cX5_gradeOf 16 = .ok (.ifCond .ne 9, 3) := by decide +kernel
theorem dX5_gradeOf_19 : decode cX5_gradeOf 19 = .ok (.iinc 3 1, 3) := by decide +kernel
theorem dX5_gradeOf_22 : decode cX5_gradeOf 22 = .ok (.goto (-20), 3) := by decide +kernel
theorem dX5_gradeOf_25 : decode cX5_gradeOf 25 = .ok (.iload_n 3, 1) := by decide +kernel
theorem dX5_gradeOf_26 : decode cX5_gradeOf 26 = .ok (.ireturn, 1) := by decide +kernel
theorem dX5_grade_0 : decode cX5_grade 0 = .ok (.aload_n 0, 1) := by decide +kernel
theorem dX5_grade_1 : decode cX5_grade 1 = .ok (.iload_n 1, 1) := by decide +kernel
theorem dX5_grade_2 : decode cX5_grade 2 = .ok (.invokevirtual 80, 3) := by decide +kernel
theorem dX5_grade_5 : decode cX5_grade 5 = .ok (.ifCond .ne 9, 3) := by decide +kernel
theorem dX5_grade_8 : decode cX5_grade 8 = .ok (.aload_n 0, 1) := by decide +kernel
theorem dX5_grade_9 : decode cX5_grade 9 = .ok (.iconst (-1), 1) := by decide +kernel
theorem dX5_grade_10 : decode cX5_grade 10 = .ok (.invokevirtual 88, 3) := by decide +kernel
theorem dX5_grade_13 : decode cX5_grade 13 = .ok (.ireturn, 1) := by decide +kernel
theorem dX5_grade_14 : decode cX5_grade 14 = .ok (.aload_n 0, 1) := by decide +kernel
theorem dX5_grade_15 : decode cX5_grade 15 = .ok (.getfield 7, 3) := by decide +kernel
theorem dX5_grade_18 : decode cX5_grade 18 = .ok (.iload_n 1, 1) := by decide +kernel
theorem dX5_grade_19 : decode cX5_grade 19 = .ok (.iaload, 1) := by decide +kernel
theorem dX5_grade_20 : decode cX5_grade 20 = .ok (.iconst 3, 1) := by decide +kernel
theorem dX5_grade_21 : decode cX5_grade 21 = .ok (.if_icmp .eq 13, 3) := by decide +kernel
theorem dX5_grade_24 : decode cX5_grade 24 = .ok (.aload_n 0, 1) := by decide +kernel
theorem dX5_grade_25 : decode cX5_grade 25 = .ok (.getfield 7, 3) := by decide +kernel
theorem dX5_grade_28 : decode cX5_grade 28 = .ok (.iload_n 1, 1) := by decide +kernel
theorem dX5_grade_29 : decode cX5_grade 29 = .ok (.iaload, 1) := by decide +kernel
theorem dX5_grade_30 : decode cX5_grade 30 = .ok (.iconst 4, 1) := by decide +kernel
theorem dX5_grade_31 : decode cX5_grade 31 = .ok (.if_icmp .ne 12, 3) := by decide +kernel
theorem dX5_grade_34 : decode cX5_grade 34 = .ok (.aload_n 0, 1) := by decide +kernel
theorem dX5_grade_35 : decode cX5_grade 35 = .ok (.bipush (-2), 2) := by decide +kernel
theorem dX5_grade_37 : decode cX5_grade 37 = .ok (.invokevirtual 88, 3) := by decide +kernel
theorem dX5_grade_40 : decode cX5_grade 40 = .ok (.goto 10, 3) := by decide +kernel
theorem dX5_grade_43 : decode cX5_grade 43 = .ok (.aload_n 0, 1) := by decide +kernel
theorem dX5_grade_44 : decode cX5_grade 44 = .ok (.iload_n 1, 1) := by decide +kernel
theorem dX5_grade_45 : decode cX5_grade 45 = .ok (.bipush 63, 2) := by decide +kernel
theorem dX5_grade_47 : decode cX5_grade 47 = .ok (.invokevirtual 129, 3) := by decide +kernel
theorem dX5_grade_50 : decode cX5_grade 50 = .ok (.ireturn, 1) := by decide +kernel
theorem dX5_pair_0 : decode cX5_pair 0 = .ok (.aload_n 0, 1) := by decide +kernel
theorem dX5_pair_1 : decode cX5_pair 1 = .ok (.iload_n 1, 1) := by decide +kernel
theorem dX5_pair_2 : decode cX5_pair 2 = .ok (.iload_n 2, 1) := by decide +kernel
theorem dX5_pair_3 : decode cX5_pair 3 = .ok (.invokevirtual 96, 3) := by decide +kernel
theorem dX5_pair_6 : decode cX5_pair 6 = .ok (.ifCond .eq 17, 3) := by decide +kernel
theorem dX5_pair_9 : decode cX5_pair 9 = .ok (.aload_n 0, 1) := by decide +kernel
theorem dX5_pair_10 : decode cX5_pair 10 = .ok (.iload_n 1, 1) := by decide +kernel
theorem dX5_pair_11 : decode cX5_pair 11 = .ok (.iload_n 3, 1) := by decide +kernel
theorem dX5_pair_12 : decode cX5_pair 12 = .ok (.invokevirtual 96, 3) := by decide +kernel
theorem dX5_pair_15 : decode cX5_pair 15 = .ok (.ifCond .eq 8, 3) := by decide +kernel
theorem dX5_pair_18 : decode cX5_pair 18 = .ok (.iload_n 2, 1) := by decide +kernel
theorem dX5_pair_19 : decode cX5_pair 19 = .ok (.iload_n 3, 1) := by decide +kernel
theorem dX5_pair_20 : decode cX5_pair 20 = .ok (.if_icmp .ne 9, 3) := by decide +kernel
theorem dX5_pair_23 : decode cX5_pair 23 = .ok (.aload_n 0, 1) := by decide +kernel
theorem dX5_pair_24 : decode cX5_pair 24 = .ok (.iconst (-1), 1) := by decide +kernel
theorem dX5_pair_25 : decode cX5_pair 25 = .ok (.invokevirtual 88, 3) := by decide +kernel
theorem dX5_pair_28 : decode cX5_pair 28 = .ok (.ireturn, 1) := by decide +kernel
theorem dX5_pair_29 : decode cX5_pair 29 = .ok (.aload_n 0, 1) := by decide +kernel
theorem dX5_pair_30 : decode cX5_pair 30 = .ok (.getfield 7, 3) := by decide +kernel
theorem dX5_pair_33 : decode cX5_pair 33 = .ok (.iload_n 1, 1) := by decide +kernel
theorem dX5_pair_34 : decode cX5_pair 34 = .ok (.iaload, 1) := by decide +kernel
theorem dX5_pair_35 : decode cX5_pair 35 = .ok (.iconst 3, 1) := by decide +kernel
theorem dX5_pair_36 : decode cX5_pair 36 = .ok (.if_icmp .eq 13, 3) := by decide +kernel
theorem dX5_pair_39 : decode cX5_pair 39 = .ok (.aload_n 0, 1) := by decide +kernel
theorem dX5_pair_40 : decode cX5_pair 40 = .ok (.getfield 7, 3) := by decide +kernel
theorem dX5_pair_43 : decode cX5_pair 43 = .ok (.iload_n 1, 1) := by decide +kernel
theorem dX5_pair_44 : decode cX5_pair 44 = .ok (.iaload, 1) := by decide +kernel
theorem dX5_pair_45 : decode cX5_pair 45 = .ok (.iconst 4, 1) := by decide +kernel
theorem dX5_pair_46 : decode cX5_pair 46 = .ok (.if_icmp .ne 12, 3) := by decide +kernel
theorem dX5_pair_49 : decode cX5_pair 49 = .ok (.aload_n 0, 1) := by decide +kernel
theorem dX5_pair_50 : decode cX5_pair 50 = .ok (.bipush (-2), 2) := by decide +kernel
theorem dX5_pair_52 : decode cX5_pair 52 = .ok (.invokevirtual 88, 3) := by decide +kernel
theorem dX5_pair_55 : decode cX5_pair 55 = .ok (.goto 15, 3) := by decide +kernel
theorem dX5_pair_58 : decode cX5_pair 58 = .ok (.aload_n 0, 1) := by decide +kernel
theorem dX5_pair_59 : decode cX5_pair 59 = .ok (.iload_n 1, 1) := by decide +kernel
theorem dX5_pair_60 : decode cX5_pair 60 = .ok (.iconst 1, 1) := by decide +kernel
theorem dX5_pair_61 : decode cX5_pair 61 = .ok (.iload_n 2, 1) := by decide +kernel
theorem dX5_pair_62 : decode cX5_pair 62 = .ok (.ishl, 1) := by decide +kernel
theorem dX5_pair_63 : decode cX5_pair 63 = .ok (.iconst 1, 1) := by decide +kernel
theorem dX5_pair_64 : decode cX5_pair 64 = .ok (.iload_n 3, 1) := by decide +kernel
theorem dX5_pair_65 : decode cX5_pair 65 = .ok (.ishl, 1) := by decide +kernel
theorem dX5_pair_66 : decode cX5_pair 66 = .ok (.ior, 1) := by decide +kernel
theorem dX5_pair_67 : decode cX5_pair 67 = .ok (.invokevirtual 129, 3) := by decide +kernel
theorem dX5_pair_70 : decode cX5_pair 70 = .ok (.ireturn, 1) := by decide +kernel
theorem dX5_power_0 : decode cX5_power 0 = .ok (.lconst 1, 1) := by decide +kernel
theorem dX5_power_1 : decode cX5_power 1 = .ok (.lstore_n 3, 1) := by decide +kernel
theorem dX5_power_2 : decode cX5_power 2 = .ok (.iconst 0, 1) := by decide +kernel
theorem dX5_power_3 : decode cX5_power 3 = .ok (.istore 5, 2) := by decide +kernel
theorem dX5_power_5 : decode cX5_power 5 = .ok (.iload 5, 2) := by decide +kernel
theorem dX5_power_7 : decode cX5_power 7 = .ok (.iload_n 2, 1) := by decide +kernel
theorem dX5_power_8 : decode cX5_power 8 = .ok (.if_icmp .ge 13, 3) := by decide +kernel
theorem dX5_power_11 : decode cX5_power 11 = .ok (.lload_n 3, 1) := by decide +kernel
theorem dX5_power_12 : decode cX5_power 12 = .ok (.lload_n 0, 1) := by decide +kernel
theorem dX5_power_13 : decode cX5_power 13 = .ok (.lmul, 1) := by decide +kernel
theorem dX5_power_14 : decode cX5_power 14 = .ok (.lstore_n 3, 1) := by decide +kernel
theorem dX5_power_15 : decode cX5_power 15 = .ok (.iinc 5 1, 3) := by decide +kernel
theorem dX5_power_18 : decode cX5_power 18 = .ok (.goto (-13), 3) := by decide +kernel
theorem dX5_power_21 : decode cX5_power 21 = .ok (.lload_n 3, 1) := by decide +kernel
theorem dX5_power_22 : decode cX5_power 22 = .ok (.lreturn, 1) := by decide +kernel
theorem dX5_common_0 : decode cX5_common 0 = .ok (.lload_n 0, 1) := by decide +kernel
theorem dX5_common_1 : decode cX5_common 1 = .ok (.lconst 0, 1) := by decide +kernel
theorem dX5_common_2 : decode cX5_common 2 = .ok (.lcmp, 1) := by decide +kernel
theorem dX5_common_3 : decode cX5_common 3 = .ok (.ifCond .ge 8, 3) := by decide +kernel
theorem dX5_common_6 : decode cX5_common 6 = .ok (.lload_n 0, 1) := by decide +kernel
theorem dX5_common_7 : decode cX5_common 7 = .ok (.lneg, 1) := by decide +kernel
theorem dX5_common_8 : decode cX5_common 8 = .ok (.goto 4, 3) := by decide +kernel
theorem dX5_common_11 : decode cX5_common 11 = .ok (.lload_n 0, 1) := by decide +kernel
theorem dX5_common_12 : decode cX5_common 12 = .ok (.lstore 4, 2) := by decide +kernel
theorem dX5_common_14 : decode cX5_common 14 = .ok (.lload_n 2, 1) := by decide +kernel
theorem dX5_common_15 : decode cX5_common 15 = .ok (.lstore 6, 2) := by decide +kernel
theorem dX5_common_17 : decode cX5_common 17 = .ok (.lload 6, 2) := by decide +kernel
theorem dX5_common_19 : decode cX5_common 19 = .ok (.lconst 0, 1) := by decide +kernel
theorem dX5_common_20 : decode cX5_common 20 = .ok (.lcmp, 1) := by decide +kernel
theorem dX5_common_21 : decode cX5_common 21 = .ok (.ifCond .eq 21, 3) := by decide +kernel
theorem dX5_common_24 : decode cX5_common 24 = .ok (.lload 4, 2) := by decide +kernel
theorem dX5_common_26 : decode cX5_common 26 = .ok (.lload 6, 2) := by decide +kernel
theorem dX5_common_28 : decode cX5_common 28 = .ok (.lrem, 1) := by decide +kernel
theorem dX5_common_29 : decode cX5_common 29 = .ok (.lstore 8, 2) := by decide +kernel
theorem dX5_common_31 : decode cX5_common 31 = .ok (.lload 6, 2) := by decide +kernel
theorem dX5_common_33 : decode cX5_common 33 = .ok (.lstore 4, 2) := by decide +kernel
theorem dX5_common_35 : decode cX5_common 35 = .ok (.lload 8, 2) := by decide +kernel
theorem dX5_common_37 : decode cX5_common 37 = .ok (.lstore 6, 2) := by decide +kernel
theorem dX5_common_39 : decode cX5_common 39 = .ok (.goto (-22), 3) := by decide +kernel
theorem dX5_common_42 : decode cX5_common 42 = .ok (.lload 4, 2) := by decide +kernel
theorem dX5_common_44 : decode cX5_common 44 = .ok (.lreturn, 1) := by decide +kernel
theorem dX5_ratio_0 : decode cX5_ratio 0 = .ok (.lload_n 0, 1) := by decide +kernel
theorem dX5_ratio_1 : decode cX5_ratio 1 = .ok (.lload_n 2, 1) := by decide +kernel
theorem dX5_ratio_2 : decode cX5_ratio 2 = .ok (.invokestatic 132, 3) := by decide +kernel
theorem dX5_ratio_5 : decode cX5_ratio 5 = .ok (.lstore 5, 2) := by decide +kernel
theorem dX5_ratio_7 : decode cX5_ratio 7 = .ok (.iload 4, 2) := by decide +kernel
theorem dX5_ratio_9 : decode cX5_ratio 9 = .ok (.ifCond .eq 10, 3) := by decide +kernel
theorem dX5_ratio_12 : decode cX5_ratio 12 = .ok (.lload_n 0, 1) := by decide +kernel
theorem dX5_ratio_13 : decode cX5_ratio 13 = .ok (.lload 5, 2) := by decide +kernel
theorem dX5_ratio_15 : decode cX5_ratio 15 = .ok (.ldiv, 1) := by decide +kernel
theorem dX5_ratio_16 : decode cX5_ratio 16 = .ok (.goto 7, 3) := by decide +kernel
theorem dX5_ratio_19 : decode cX5_ratio 19 = .ok (.lload_n 2, 1) := by decide +kernel
theorem dX5_ratio_20 : decode cX5_ratio 20 = .ok (.lload 5, 2) := by decide +kernel
theorem dX5_ratio_22 : decode cX5_ratio 22 = .ok (.ldiv, 1) := by decide +kernel
theorem dX5_ratio_23 : decode cX5_ratio 23 = .ok (.lreturn, 1) := by decide +kernel
theorem dX5_inCorner_0 : decode cX5_inCorner 0 = .ok (.iconst 0, 1) := by decide +kernel
theorem dX5_inCorner_1 : decode cX5_inCorner 1 = .ok (.istore_n 3, 1) := by decide +kernel
theorem dX5_inCorner_2 : decode cX5_inCorner 2 = .ok (.iconst 0, 1) := by decide +kernel
theorem dX5_inCorner_3 : decode cX5_inCorner 3 = .ok (.istore 4, 2) := by decide +kernel
theorem dX5_inCorner_5 : decode cX5_inCorner 5 = .ok (.iload 4, 2) := by decide +kernel
theorem dX5_inCorner_7 : decode cX5_inCorner 7 = .ok (.aload_n 0, 1) := by decide +kernel
theorem dX5_inCorner_8 : decode cX5_inCorner 8 = .ok (.getfield 19, 3) := by decide +kernel
theorem dX5_inCorner_11 : decode cX5_inCorner 11 = .ok (.iload_n 1, 1) := by decide +kernel
theorem dX5_inCorner_12 : decode cX5_inCorner 12 = .ok (.iaload, 1) := by decide +kernel
theorem dX5_inCorner_13 : decode cX5_inCorner 13 = .ok (.if_icmp .ge 96, 3) := by decide +kernel
theorem dX5_inCorner_16 : decode cX5_inCorner 16 = .ok (.iconst 1, 1) := by decide +kernel
theorem dX5_inCorner_17 : decode cX5_inCorner 17 = .ok (.istore 5, 2) := by decide +kernel
theorem dX5_inCorner_19 : decode cX5_inCorner 19 = .ok (.iconst 0, 1) := by decide +kernel
theorem dX5_inCorner_20 : decode cX5_inCorner 20 = .ok (.istore 6, 2) := by decide +kernel
theorem dX5_inCorner_22 : decode cX5_inCorner 22 = .ok (.iload 6, 2) := by decide +kernel
theorem dX5_inCorner_24 : decode cX5_inCorner 24 = .ok (.aload_n 0, 1) := by decide +kernel
theorem dX5_inCorner_25 : decode cX5_inCorner 25 = .ok (.getfield 13, 3) := by decide +kernel
theorem dX5_inCorner_28 : decode cX5_inCorner 28 = .ok (.iload_n 1, 1) := by decide +kernel
theorem dX5_inCorner_29 : decode cX5_inCorner 29 = .ok (.iaload, 1) := by decide +kernel
theorem dX5_inCorner_30 : decode cX5_inCorner 30 = .ok (.if_icmp .ge 60, 3) := by decide +kernel
theorem dX5_inCorner_33 : decode cX5_inCorner 33 = .ok (.aload_n 0, 1) := by decide +kernel
theorem dX5_inCorner_34 : decode cX5_inCorner 34 = .ok (.iload_n 1, 1) := by decide +kernel
theorem dX5_inCorner_35 : decode cX5_inCorner 35 = .ok (.iload 4, 2) := by decide +kernel
theorem dX5_inCorner_37 : decode cX5_inCorner 37 = .ok (.iload 6, 2) := by decide +kernel
theorem dX5_inCorner_39 : decode cX5_inCorner 39 = .ok (.invokevirtual 109, 3) := by decide +kernel
theorem dX5_inCorner_42 : decode cX5_inCorner 42 = .ok (.istore 7, 2) := by decide +kernel
theorem dX5_inCorner_44 : decode cX5_inCorner 44 = .ok (.iload 5, 2) := by decide +kernel
theorem dX5_inCorner_46 : decode cX5_inCorner 46 = .ok (.ifCond .eq 35, 3) := by decide +kernel
theorem dX5_inCorner_49 : decode cX5_inCorner 49 = .ok (.iload 7, 2) := by decide +kernel
theorem dX5_inCorner_51 : decode cX5_inCorner 51 = .ok (.aload_n 0, 1) := by decide +kernel
theorem dX5_inCorner_52 : decode cX5_inCorner 52 = .ok (.getfield 63, 3) := by decide +kernel
theorem dX5_inCorner_55 : decode cX5_inCorner 55 = .ok (.iload 6, 2) := by decide +kernel
theorem dX5_inCorner_57 : decode cX5_inCorner 57 = .ok (.iaload, 1) := by decide +kernel
theorem dX5_inCorner_58 : decode cX5_inCorner 58 = .ok (.if_icmp .lt 19, 3) := by decide +kernel
theorem dX5_inCorner_61 : decode cX5_inCorner 61 = .ok (.iload_n 2, 1) := by decide +kernel
theorem dX5_inCorner_62 : decode cX5_inCorner 62 = .ok (.ifCond .eq 19, 3) := by decide +kernel
theorem dX5_inCorner_65 : decode cX5_inCorner 65 = .ok (.iload 7, 2) := by decide +kernel
theorem dX5_inCorner_67 : decode cX5_inCorner 67 = .ok (.aload_n 0, 1) := by decide +kernel
theorem dX5_inCorner_68 : decode cX5_inCorner 68 = .ok (.getfield 63, 3) := by decide +kernel
theorem dX5_inCorner_71 : decode cX5_inCorner 71 = .ok (.iload 6, 2) := by decide +kernel
theorem dX5_inCorner_73 : decode cX5_inCorner 73 = .ok (.iaload, 1) := by decide +kernel
theorem dX5_inCorner_74 : decode cX5_inCorner 74 = .ok (.if_icmp .ne 7, 3) := by decide +kernel
theorem dX5_inCorner_77 : decode cX5_inCorner 77 = .ok (.iconst 1, 1) := by decide +kernel
theorem dX5_inCorner_78 : decode cX5_inCorner 78 = .ok (.goto 4, 3) := by decide +kernel
theorem dX5_inCorner_81 : decode cX5_inCorner 81 = .ok (.iconst 0, 1) := by decide +kernel
theorem dX5_inCorner_82 : decode cX5_inCorner 82 = .ok (.istore 5, 2) := by decide +kernel
theorem dX5_inCorner_84 : decode cX5_inCorner 84 = .ok (.iinc 6 1, 3) := by decide +kernel
theorem dX5_inCorner_87 : decode cX5_inCorner 87 = .ok (.goto (-65), 3) := by decide +kernel
theorem dX5_inCorner_90 : decode cX5_inCorner 90 = .ok (.iload_n 3, 1) := by decide +kernel
theorem dX5_inCorner_91 : decode cX5_inCorner 91 = .ok (.iload 5, 2) := by decide +kernel
theorem dX5_inCorner_93 : decode cX5_inCorner 93 = .ok (.ifCond .eq 7, 3) := by decide +kernel
theorem dX5_inCorner_96 : decode cX5_inCorner 96 = .ok (.iconst 1, 1) := by decide +kernel
theorem dX5_inCorner_97 : decode cX5_inCorner 97 = .ok (.goto 4, 3) := by decide +kernel
theorem dX5_inCorner_100 : decode cX5_inCorner 100 = .ok (.iconst 0, 1) := by decide +kernel
theorem dX5_inCorner_101 : decode cX5_inCorner 101 = .ok (.iadd, 1) := by decide +kernel
theorem dX5_inCorner_102 : decode cX5_inCorner 102 = .ok (.istore_n 3, 1) := by decide +kernel
theorem dX5_inCorner_103 : decode cX5_inCorner 103 = .ok (.iinc 4 1, 3) := by decide +kernel
theorem dX5_inCorner_106 : decode cX5_inCorner 106 = .ok (.goto (-101), 3) := by decide +kernel
theorem dX5_inCorner_109 : decode cX5_inCorner 109 = .ok (.iload_n 3, 1) := by decide +kernel
theorem dX5_inCorner_110 : decode cX5_inCorner 110 = .ok (.ireturn, 1) := by decide +kernel
theorem dX5_cornerLess_0 : decode cX5_cornerLess 0 = .ok (.lconst 1, 1) := by decide +kernel
theorem dX5_cornerLess_1 : decode cX5_cornerLess 1 = .ok (.lstore_n 3, 1) := by decide +kernel
theorem dX5_cornerLess_2 : decode cX5_cornerLess 2 = .ok (.iconst 0, 1) := by decide +kernel
theorem dX5_cornerLess_3 : decode cX5_cornerLess 3 = .ok (.istore 5, 2) := by decide +kernel
theorem dX5_cornerLess_5 : decode cX5_cornerLess 5 = .ok (.iload 5, 2) := by decide +kernel
theorem dX5_cornerLess_7 : decode cX5_cornerLess 7 = .ok (.aload_n 0, 1) := by decide +kernel
theorem dX5_cornerLess_8 : decode cX5_cornerLess 8 = .ok (.getfield 13, 3) := by decide +kernel
theorem dX5_cornerLess_11 : decode cX5_cornerLess 11 = .ok (.iload_n 1, 1) := by decide +kernel
theorem dX5_cornerLess_12 : decode cX5_cornerLess 12 = .ok (.iaload, 1) := by decide +kernel
theorem dX5_cornerLess_13 : decode cX5_cornerLess 13 = .ok (.if_icmp .ge 20, 3) := by decide +kernel
theorem dX5_cornerLess_16 : decode cX5_cornerLess 16 = .ok (.lload_n 3, 1) := by decide +kernel
theorem dX5_cornerLess_17 : decode cX5_cornerLess 17 = .ok (.aload_n 0, 1) := by decide +kernel
theorem dX5_cornerLess_18 : decode cX5_cornerLess 18 = .ok (.getfield 63, 3) := by decide +kernel
theorem dX5_cornerLess_21 : decode cX5_cornerLess 21 = .ok (.iload 5, 2) := by decide +kernel
theorem dX5_cornerLess_23 : decode cX5_cornerLess 23 = .ok (.iaload, 1) := by decide +kernel
theorem dX5_cornerLess_24 : decode cX5_cornerLess 24 = .ok (.i2l, 1) := by decide +kernel
theorem dX5_cornerLess_25 : decode cX5_cornerLess 25 = .ok (.lmul, 1) := by decide +kernel
theorem dX5_cornerLess_26 : decode cX5_cornerLess 26 = .ok (.lstore_n 3, 1) := by decide +kernel
theorem dX5_cornerLess_27 : decode cX5_cornerLess 27 = .ok (.iinc 5 1, 3) := by decide +kernel
theorem dX5_cornerLess_30 : decode cX5_cornerLess 30 = .ok (.goto (-25), 3) := by decide +kernel
theorem dX5_cornerLess_33 : decode cX5_cornerLess 33 = .ok (.lload_n 3, 1) := by decide +kernel
theorem dX5_cornerLess_34 : decode cX5_cornerLess 34 = .ok (.aload_n 0, 1) := by decide +kernel
theorem dX5_cornerLess_35 : decode cX5_cornerLess 35 = .ok (.iload_n 1, 1) := by decide +kernel
theorem dX5_cornerLess_36 : decode cX5_cornerLess 36 = .ok (.iload_n 2, 1) := by decide +kernel
theorem dX5_cornerLess_37 : decode cX5_cornerLess 37 = .ok (.invokevirtual 136, 3) := by decide +kernel
theorem dX5_cornerLess_40 : decode cX5_cornerLess 40 = .ok (.i2l, 1) := by decide +kernel
theorem dX5_cornerLess_41 : decode cX5_cornerLess 41 = .ok (.aload_n 0, 1) := by decide +kernel
theorem dX5_cornerLess_42 : decode cX5_cornerLess 42 = .ok (.getfield 19, 3) := by decide +kernel
theorem dX5_cornerLess_45 : decode cX5_cornerLess 45 = .ok (.iload_n 1, 1) := by decide +kernel
theorem dX5_cornerLess_46 : decode cX5_cornerLess 46 = .ok (.iaload, 1) := by decide +kernel
theorem dX5_cornerLess_47 : decode cX5_cornerLess 47 = .ok (.i2l, 1) := by decide +kernel
theorem dX5_cornerLess_48 : decode cX5_cornerLess 48 = .ok (.aload_n 0, 1) := by decide +kernel
theorem dX5_cornerLess_49 : decode cX5_cornerLess 49 = .ok (.getfield 13, 3) := by decide +kernel
theorem dX5_cornerLess_52 : decode cX5_cornerLess 52 = .ok (.iload_n 1, 1) := by decide +kernel
theorem dX5_cornerLess_53 : decode cX5_cornerLess 53 = .ok (.iaload, 1) := by decide +kernel
theorem dX5_cornerLess_54 : decode cX5_cornerLess 54 = .ok (.iconst 1, 1) := by decide +kernel
theorem dX5_cornerLess_55 : decode cX5_cornerLess 55 = .ok (.isub, 1) := by decide +kernel
theorem dX5_cornerLess_56 : decode cX5_cornerLess 56 = .ok (.invokestatic 140, 3) := by decide +kernel
theorem dX5_cornerLess_59 : decode cX5_cornerLess 59 = .ok (.lmul, 1) := by decide +kernel
theorem dX5_cornerLess_60 : decode cX5_cornerLess 60 = .ok (.lsub, 1) := by decide +kernel
theorem dX5_cornerLess_61 : decode cX5_cornerLess 61 = .ok (.lreturn, 1) := by decide +kernel
theorem dX5_gap_0 : decode cX5_gap 0 = .ok (.aload_n 0, 1) := by decide +kernel
theorem dX5_gap_1 : decode cX5_gap 1 = .ok (.iload_n 1, 1) := by decide +kernel
theorem dX5_gap_2 : decode cX5_gap 2 = .ok (.invokevirtual 80, 3) := by decide +kernel
theorem dX5_gap_5 : decode cX5_gap 5 = .ok (.ifCond .ne 9, 3) := by decide +kernel
theorem dX5_gap_8 : decode cX5_gap 8 = .ok (.aload_n 0, 1) := by decide +kernel
theorem dX5_gap_9 : decode cX5_gap 9 = .ok (.iconst (-1), 1) := by decide +kernel
theorem dX5_gap_10 : decode cX5_gap 10 = .ok (.invokevirtual 143, 3) := by decide +kernel
theorem dX5_gap_13 : decode cX5_gap 13 = .ok (.lreturn, 1) := by decide +kernel
theorem dX5_gap_14 : decode cX5_gap 14 = .ok (.iload_n 3, 1) := by decide +kernel
theorem dX5_gap_15 : decode cX5_gap 15 = .ok (.i2l, 1) := by decide +kernel
theorem dX5_gap_16 : decode cX5_gap 16 = .ok (.lconst 0, 1) := by decide +kernel
theorem dX5_gap_17 : decode cX5_gap 17 = .ok (.lconst 1, 1) := by decide +kernel
theorem dX5_gap_18 : decode cX5_gap 18 = .ok (.invokestatic 76, 3) := by decide +kernel
theorem dX5_gap_21 : decode cX5_gap 21 = .ok (.ifCond .ne 10, 3) := by decide +kernel
theorem dX5_gap_24 : decode cX5_gap 24 = .ok (.aload_n 0, 1) := by decide +kernel
theorem dX5_gap_25 : decode cX5_gap 25 = .ok (.bipush (-2), 2) := by decide +kernel
theorem dX5_gap_27 : decode cX5_gap 27 = .ok (.invokevirtual 143, 3) := by decide +kernel
theorem dX5_gap_30 : decode cX5_gap 30 = .ok (.lreturn, 1) := by decide +kernel
theorem dX5_gap_31 : decode cX5_gap 31 = .ok (.iconst 0, 1) := by decide +kernel
theorem dX5_gap_32 : decode cX5_gap 32 = .ok (.istore 4, 2) := by decide +kernel
theorem dX5_gap_34 : decode cX5_gap 34 = .ok (.iload 4, 2) := by decide +kernel
theorem dX5_gap_36 : decode cX5_gap 36 = .ok (.aload_n 0, 1) := by decide +kernel
theorem dX5_gap_37 : decode cX5_gap 37 = .ok (.getfield 13, 3) := by decide +kernel
theorem dX5_gap_40 : decode cX5_gap 40 = .ok (.iload_n 1, 1) := by decide +kernel
theorem dX5_gap_41 : decode cX5_gap 41 = .ok (.iaload, 1) := by decide +kernel
theorem dX5_gap_42 : decode cX5_gap 42 = .ok (.if_icmp .ge 52, 3) := by decide +kernel
theorem dX5_gap_45 : decode cX5_gap 45 = .ok (.aload_n 0, 1) := by decide +kernel
theorem dX5_gap_46 : decode cX5_gap 46 = .ok (.getfield 40, 3) := by decide +kernel
theorem dX5_gap_49 : decode cX5_gap 49 = .ok (.iload 4, 2) := by decide +kernel
theorem dX5_gap_51 : decode cX5_gap 51 = .ok (.iaload, 1) := by decide +kernel
theorem dX5_gap_52 : decode cX5_gap 52 = .ok (.i2l, 1) := by decide +kernel
theorem dX5_gap_53 : decode cX5_gap 53 = .ok (.lconst 0, 1) := by decide +kernel
theorem dX5_gap_54 : decode cX5_gap 54 = .ok (.aload_n 0, 1) := by decide +kernel
theorem dX5_gap_55 : decode cX5_gap 55 = .ok (.getfield 19, 3) := by decide +kernel
theorem dX5_gap_58 : decode cX5_gap 58 = .ok (.iload_n 1, 1) := by decide +kernel
theorem dX5_gap_59 : decode cX5_gap 59 = .ok (.iaload, 1) := by decide +kernel
theorem dX5_gap_60 : decode cX5_gap 60 = .ok (.i2l, 1) := by decide +kernel
theorem dX5_gap_61 : decode cX5_gap 61 = .ok (.invokestatic 76, 3) := by decide +kernel
theorem dX5_gap_64 : decode cX5_gap 64 = .ok (.ifCond .ne 10, 3) := by decide +kernel
theorem dX5_gap_67 : decode cX5_gap 67 = .ok (.aload_n 0, 1) := by decide +kernel
theorem dX5_gap_68 : decode cX5_gap 68 = .ok (.bipush (-3), 2) := by decide +kernel
theorem dX5_gap_70 : decode cX5_gap 70 = .ok (.invokevirtual 143, 3) := by decide +kernel
theorem dX5_gap_73 : decode cX5_gap 73 = .ok (.lreturn, 1) := by decide +kernel
theorem dX5_gap_74 : decode cX5_gap 74 = .ok (.aload_n 0, 1) := by decide +kernel
theorem dX5_gap_75 : decode cX5_gap 75 = .ok (.getfield 63, 3) := by decide +kernel
theorem dX5_gap_78 : decode cX5_gap 78 = .ok (.iload 4, 2) := by decide +kernel
theorem dX5_gap_80 : decode cX5_gap 80 = .ok (.aload_n 0, 1) := by decide +kernel
theorem dX5_gap_81 : decode cX5_gap 81 = .ok (.getfield 40, 3) := by decide +kernel
theorem dX5_gap_84 : decode cX5_gap 84 = .ok (.iload 4, 2) := by decide +kernel
theorem dX5_gap_86 : decode cX5_gap 86 = .ok (.iaload, 1) := by decide +kernel
theorem dX5_gap_87 : decode cX5_gap 87 = .ok (.iastore, 1) := by decide +kernel
theorem dX5_gap_88 : decode cX5_gap 88 = .ok (.iinc 4 1, 3) := by decide +kernel
theorem dX5_gap_91 : decode cX5_gap 91 = .ok (.goto (-57), 3) := by decide +kernel
theorem dX5_gap_94 : decode cX5_gap 94 = .ok (.aload_n 0, 1) := by decide +kernel
theorem dX5_gap_95 : decode cX5_gap 95 = .ok (.iload_n 1, 1) := by decide +kernel
theorem dX5_gap_96 : decode cX5_gap 96 = .ok (.iload_n 2, 1) := by decide +kernel
theorem dX5_gap_97 : decode cX5_gap 97 = .ok (.invokevirtual 147, 3) := by decide +kernel
theorem dX5_gap_100 : decode cX5_gap 100 = .ok (.lstore 4, 2) := by decide +kernel
theorem dX5_gap_102 : decode cX5_gap 102 = .ok (.lload 4, 2) := by decide +kernel
theorem dX5_gap_104 : decode cX5_gap 104 = .ok (.lconst 0, 1) := by decide +kernel
theorem dX5_gap_105 : decode cX5_gap 105 = .ok (.lcmp, 1) := by decide +kernel
theorem dX5_gap_106 : decode cX5_gap 106 = .ok (.ifCond .ge 9, 3) := by decide +kernel
theorem dX5_gap_109 : decode cX5_gap 109 = .ok (.lload 4, 2) := by decide +kernel
theorem dX5_gap_111 : decode cX5_gap 111 = .ok (.lneg, 1) := by decide +kernel
theorem dX5_gap_112 : decode cX5_gap 112 = .ok (.goto 5, 3) := by decide +kernel
theorem dX5_gap_115 : decode cX5_gap 115 = .ok (.lload 4, 2) := by decide +kernel
theorem dX5_gap_117 : decode cX5_gap 117 = .ok (.aload_n 0, 1) := by decide +kernel
theorem dX5_gap_118 : decode cX5_gap 118 = .ok (.getfield 19, 3) := by decide +kernel
theorem dX5_gap_121 : decode cX5_gap 121 = .ok (.iload_n 1, 1) := by decide +kernel
theorem dX5_gap_122 : decode cX5_gap 122 = .ok (.iaload, 1) := by decide +kernel
theorem dX5_gap_123 : decode cX5_gap 123 = .ok (.i2l, 1) := by decide +kernel
theorem dX5_gap_124 : decode cX5_gap 124 = .ok (.aload_n 0, 1) := by decide +kernel
theorem dX5_gap_125 : decode cX5_gap 125 = .ok (.getfield 13, 3) := by decide +kernel
theorem dX5_gap_128 : decode cX5_gap 128 = .ok (.iload_n 1, 1) := by decide +kernel
theorem dX5_gap_129 : decode cX5_gap 129 = .ok (.iaload, 1) := by decide +kernel
theorem dX5_gap_130 : decode cX5_gap 130 = .ok (.invokestatic 140, 3) := by decide +kernel
theorem dX5_gap_133 : decode cX5_gap 133 = .ok (.iload_n 3, 1) := by decide +kernel
theorem dX5_gap_134 : decode cX5_gap 134 = .ok (.ifCond .ne 7, 3) := by decide +kernel
theorem dX5_gap_137 : decode cX5_gap 137 = .ok (.iconst 1, 1) := by decide +kernel
theorem dX5_gap_138 : decode cX5_gap 138 = .ok (.goto 4, 3) := by decide +kernel
theorem dX5_gap_141 : decode cX5_gap 141 = .ok (.iconst 0, 1) := by decide +kernel
theorem dX5_gap_142 : decode cX5_gap 142 = .ok (.invokestatic 151, 3) := by decide +kernel
theorem dX5_gap_145 : decode cX5_gap 145 = .ok (.lreturn, 1) := by decide +kernel
theorem dX5_worst_0 : decode cX5_worst 0 = .ok (.aload_n 0, 1) := by decide +kernel
theorem dX5_worst_1 : decode cX5_worst 1 = .ok (.iload_n 1, 1) := by decide +kernel
theorem dX5_worst_2 : decode cX5_worst 2 = .ok (.invokevirtual 80, 3) := by decide +kernel
theorem dX5_worst_5 : decode cX5_worst 5 = .ok (.ifCond .ne 9, 3) := by decide +kernel
theorem dX5_worst_8 : decode cX5_worst 8 = .ok (.aload_n 0, 1) := by decide +kernel
theorem dX5_worst_9 : decode cX5_worst 9 = .ok (.iconst (-1), 1) := by decide +kernel
theorem dX5_worst_10 : decode cX5_worst 10 = .ok (.invokevirtual 143, 3) := by decide +kernel
theorem dX5_worst_13 : decode cX5_worst 13 = .ok (.lreturn, 1) := by decide +kernel
theorem dX5_worst_14 : decode cX5_worst 14 = .ok (.iload_n 2, 1) := by decide +kernel
theorem dX5_worst_15 : decode cX5_worst 15 = .ok (.i2l, 1) := by decide +kernel
theorem dX5_worst_16 : decode cX5_worst 16 = .ok (.lconst 0, 1) := by decide +kernel
theorem dX5_worst_17 : decode cX5_worst 17 = .ok (.iconst 2, 1) := by decide +kernel
theorem dX5_worst_18 : decode cX5_worst 18 = .ok (.aload_n 0, 1) := by decide +kernel
theorem dX5_worst_19 : decode cX5_worst 19 = .ok (.getfield 13, 3) := by decide +kernel
theorem dX5_worst_22 : decode cX5_worst 22 = .ok (.iload_n 1, 1) := by decide +kernel
theorem dX5_worst_23 : decode cX5_worst 23 = .ok (.iaload, 1) := by decide +kernel
theorem dX5_worst_24 : decode cX5_worst 24 = .ok (.iadd, 1) := by decide +kernel
theorem dX5_worst_25 : decode cX5_worst 25 = .ok (.i2l, 1) := by decide +kernel
theorem dX5_worst_26 : decode cX5_worst 26 = .ok (.invokestatic 76, 3) := by decide +kernel
theorem dX5_worst_29 : decode cX5_worst 29 = .ok (.ifCond .ne 10, 3) := by decide +kernel
theorem dX5_worst_32 : decode cX5_worst 32 = .ok (.aload_n 0, 1) := by decide +kernel
theorem dX5_worst_33 : decode cX5_worst 33 = .ok (.bipush (-2), 2) := by decide +kernel
theorem dX5_worst_35 : decode cX5_worst 35 = .ok (.invokevirtual 143, 3) := by decide +kernel
theorem dX5_worst_38 : decode cX5_worst 38 = .ok (.lreturn, 1) := by decide +kernel
theorem dX5_worst_39 : decode cX5_worst 39 = .ok (.aload_n 0, 1) := by decide +kernel
theorem dX5_worst_40 : decode cX5_worst 40 = .ok (.getfield 13, 3) := by decide +kernel
theorem dX5_worst_43 : decode cX5_worst 43 = .ok (.iload_n 1, 1) := by decide +kernel
theorem dX5_worst_44 : decode cX5_worst 44 = .ok (.iaload, 1) := by decide +kernel
theorem dX5_worst_45 : decode cX5_worst 45 = .ok (.iconst 3, 1) := by decide +kernel
theorem dX5_worst_46 : decode cX5_worst 46 = .ok (.if_icmp .gt 29, 3) := by decide +kernel
theorem dX5_worst_49 : decode cX5_worst 49 = .ok (.aload_n 0, 1) := by decide +kernel
theorem dX5_worst_50 : decode cX5_worst 50 = .ok (.getfield 19, 3) := by decide +kernel
theorem dX5_worst_53 : decode cX5_worst 53 = .ok (.iload_n 1, 1) := by decide +kernel
theorem dX5_worst_54 : decode cX5_worst 54 = .ok (.iaload, 1) := by decide +kernel
theorem dX5_worst_55 : decode cX5_worst 55 = .ok (.aload_n 0, 1) := by decide +kernel
theorem dX5_worst_56 : decode cX5_worst 56 = .ok (.getfield 13, 3) := by decide +kernel
theorem dX5_worst_59 : decode cX5_worst 59 = .ok (.iload_n 1, 1) := by decide +kernel
theorem dX5_worst_60 : decode cX5_worst 60 = .ok (.iaload, 1) := by decide +kernel
theorem dX5_worst_61 : decode cX5_worst 61 = .ok (.iconst 3, 1) := by decide +kernel
theorem dX5_worst_62 : decode cX5_worst 62 = .ok (.if_icmp .ne 8, 3) := by decide +kernel
theorem dX5_worst_65 : decode cX5_worst 65 = .ok (.bipush 16, 2) := by decide +kernel
theorem dX5_worst_67 : decode cX5_worst 67 = .ok (.goto 5, 3) := by decide +kernel
theorem dX5_worst_70 : decode cX5_worst 70 = .ok (.bipush 64, 2) := by decide +kernel
theorem dX5_worst_72 : decode cX5_worst 72 = .ok (.if_icmp .le 10, 3) := by decide +kernel
theorem dX5_worst_75 : decode cX5_worst 75 = .ok (.aload_n 0, 1) := by decide +kernel
theorem dX5_worst_76 : decode cX5_worst 76 = .ok (.bipush (-6), 2) := by decide +kernel
theorem dX5_worst_78 : decode cX5_worst 78 = .ok (.invokevirtual 143, 3) := by decide +kernel
theorem dX5_worst_81 : decode cX5_worst 81 = .ok (.lreturn, 1) := by decide +kernel
theorem dX5_worst_82 : decode cX5_worst 82 = .ok (.aload_n 0, 1) := by decide +kernel
theorem dX5_worst_83 : decode cX5_worst 83 = .ok (.getfield 19, 3) := by decide +kernel
theorem dX5_worst_86 : decode cX5_worst 86 = .ok (.iload_n 1, 1) := by decide +kernel
theorem dX5_worst_87 : decode cX5_worst 87 = .ok (.iaload, 1) := by decide +kernel
theorem dX5_worst_88 : decode cX5_worst 88 = .ok (.istore_n 3, 1) := by decide +kernel
theorem dX5_worst_89 : decode cX5_worst 89 = .ok (.iconst 0, 1) := by decide +kernel
theorem dX5_worst_90 : decode cX5_worst 90 = .ok (.istore 4, 2) := by decide +kernel
theorem dX5_worst_92 : decode cX5_worst 92 = .ok (.iload 4, 2) := by decide +kernel
theorem dX5_worst_94 : decode cX5_worst 94 = .ok (.sipush 195, 3) := by decide +kernel
theorem dX5_worst_97 : decode cX5_worst 97 = .ok (.if_icmp .ge 17, 3) := by decide +kernel
theorem dX5_worst_100 : decode cX5_worst 100 = .ok (.aload_n 0, 1) := by decide +kernel
theorem dX5_worst_101 : decode cX5_worst 101 = .ok (.getfield 66, 3) := by decide +kernel
theorem dX5_worst_104 : decode cX5_worst 104 = .ok (.iload 4, 2) := by decide +kernel
theorem dX5_worst_106 : decode cX5_worst 106 = .ok (.iconst 0, 1) := by decide +kernel
theorem dX5_worst_107 : decode cX5_worst 107 = .ok (.bastore, 1) := by decide +kernel
theorem dX5_worst_108 : decode cX5_worst 108 = .ok (.iinc 4 1, 3) := by decide +kernel
theorem dX5_worst_111 : decode cX5_worst 111 = .ok (.goto (-19), 3) := by decide +kernel
theorem dX5_worst_114 : decode cX5_worst 114 = .ok (.iconst 0, 1) := by decide +kernel
theorem dX5_worst_115 : decode cX5_worst 115 = .ok (.istore 4, 2) := by decide +kernel
theorem dX5_worst_117 : decode cX5_worst 117 = .ok (.iload 4, 2) := by decide +kernel
theorem dX5_worst_119 : decode cX5_worst 119 = .ok (.iload_n 3, 1) := by decide +kernel
theorem dX5_worst_120 : decode cX5_worst 120 = .ok (.if_icmp .ge 50, 3) := by decide +kernel
theorem dX5_worst_123 : decode cX5_worst 123 = .ok (.iconst 0, 1) := by decide +kernel
theorem dX5_worst_124 : decode cX5_worst 124 = .ok (.istore 5, 2) := by decide +kernel
theorem dX5_worst_126 : decode cX5_worst 126 = .ok (.iload 5, 2) := by decide +kernel
theorem dX5_worst_128 : decode cX5_worst 128 = .ok (.aload_n 0, 1) := by decide +kernel
theorem dX5_worst_129 : decode cX5_worst 129 = .ok (.getfield 13, 3) := by decide +kernel
theorem dX5_worst_132 : decode cX5_worst 132 = .ok (.iload_n 1, 1) := by decide +kernel
theorem dX5_worst_133 : decode cX5_worst 133 = .ok (.iaload, 1) := by decide +kernel
theorem dX5_worst_134 : decode cX5_worst 134 = .ok (.if_icmp .ge 30, 3) := by decide +kernel
theorem dX5_worst_137 : decode cX5_worst 137 = .ok (.aload_n 0, 1) := by decide +kernel
theorem dX5_worst_138 : decode cX5_worst 138 = .ok (.getfield 66, 3) := by decide +kernel
theorem dX5_worst_141 : decode cX5_worst 141 = .ok (.bipush 65, 2) := by decide +kernel
theorem dX5_worst_143 : decode cX5_worst 143 = .ok (.iload 5, 2) := by decide +kernel
theorem dX5_worst_145 : decode cX5_worst 145 = .ok (.imul, 1) := by decide +kernel
theorem dX5_worst_146 : decode cX5_worst 146 = .ok (.aload_n 0, 1) := by decide +kernel
theorem dX5_worst_147 : decode cX5_worst 147 = .ok (.iload_n 1, 1) := by decide +kernel
theorem dX5_worst_148 : decode cX5_worst 148 = .ok (.iload 4, 2) := by decide +kernel
theorem dX5_worst_150 : decode cX5_worst 150 = .ok (.iload 5, 2) := by decide +kernel
theorem dX5_worst_152 : decode cX5_worst 152 = .ok (.invokevirtual 109, 3) := by decide +kernel
theorem dX5_worst_155 : decode cX5_worst 155 = .ok (.iadd, 1) := by decide +kernel
theorem dX5_worst_156 : decode cX5_worst 156 = .ok (.iconst 1, 1) := by decide +kernel
theorem dX5_worst_157 : decode cX5_worst 157 = .ok (.bastore, 1) := by decide +kernel
theorem dX5_worst_158 : decode cX5_worst 158 = .ok (.iinc 5 1, 3) := by decide +kernel
theorem dX5_worst_161 : decode cX5_worst 161 = .ok (.goto (-35), 3) := by decide +kernel
theorem dX5_worst_164 : decode cX5_worst 164 = .ok (.iinc 4 1, 3) := by decide +kernel
theorem dX5_worst_167 : decode cX5_worst 167 = .ok (.goto (-50), 3) := by decide +kernel
theorem dX5_worst_170 : decode cX5_worst 170 = .ok (.lconst 0, 1) := by decide +kernel
theorem dX5_worst_171 : decode cX5_worst 171 = .ok (.lstore 4, 2) := by decide +kernel
theorem dX5_worst_173 : decode cX5_worst 173 = .ok (.iconst 0, 1) := by decide +kernel
theorem dX5_worst_174 : decode cX5_worst 174 = .ok (.istore 6, 2) := by decide +kernel
theorem dX5_worst_176 : decode cX5_worst 176 = .ok (.iconst 0, 1) := by decide +kernel
theorem dX5_worst_177 : decode cX5_worst 177 = .ok (.istore 7, 2) := by decide +kernel
theorem dX5_worst_179 : decode cX5_worst 179 = .ok (.iconst 0, 1) := by decide +kernel
theorem dX5_worst_180 : decode cX5_worst 180 = .ok (.istore 8, 2) := by decide +kernel
theorem dX5_worst_182 : decode cX5_worst 182 = .ok (.iload_n 3, 1) := by decide +kernel
theorem dX5_worst_183 : decode cX5_worst 183 = .ok (.iconst 1, 1) := by decide +kernel
theorem dX5_worst_184 : decode cX5_worst 184 = .ok (.iadd, 1) := by decide +kernel
theorem dX5_worst_185 : decode cX5_worst 185 = .ok (.i2l, 1) := by decide +kernel
theorem dX5_worst_186 : decode cX5_worst 186 = .ok (.aload_n 0, 1) := by decide +kernel
theorem dX5_worst_187 : decode cX5_worst 187 = .ok (.getfield 13, 3) := by decide +kernel
theorem dX5_worst_190 : decode cX5_worst 190 = .ok (.iload_n 1, 1) := by decide +kernel
theorem dX5_worst_191 : decode cX5_worst 191 = .ok (.iaload, 1) := by decide +kernel
theorem dX5_worst_192 : decode cX5_worst 192 = .ok (.invokestatic 140, 3) := by decide +kernel
theorem dX5_worst_195 : decode cX5_worst 195 = .ok (.l2i, 1) := by decide +kernel
theorem dX5_worst_196 : decode cX5_worst 196 = .ok (.istore 9, 2) := by decide +kernel
theorem dX5_worst_198 : decode cX5_worst 198 = .ok (.iconst 0, 1) := by decide +kernel
theorem dX5_worst_199 : decode cX5_worst 199 = .ok (.istore 10, 2) := by decide +kernel
theorem dX5_worst_201 : decode cX5_worst 201 = .ok (.iload 10, 2) := by decide +kernel
theorem dX5_worst_203 : decode cX5_worst 203 = .ok (.iload 9, 2) := by decide +kernel
theorem dX5_worst_205 : decode cX5_worst 205 = .ok (.if_icmp .ge 249, 3) := by decide +kernel
theorem dX5_worst_208 : decode cX5_worst 208 = .ok (.iload 10, 2) := by decide +kernel
theorem dX5_worst_210 : decode cX5_worst 210 = .ok (.istore 11, 2) := by decide +kernel
theorem dX5_worst_212 : decode cX5_worst 212 = .ok (.iconst 1, 1) := by decide +kernel
theorem dX5_worst_213 : decode cX5_worst 213 = .ok (.istore 12, 2) := by decide +kernel
theorem dX5_worst_215 : decode cX5_worst 215 = .ok (.iconst 1, 1) := by decide +kernel
theorem dX5_worst_216 : decode cX5_worst 216 = .ok (.istore 13, 2) := by decide +kernel
theorem dX5_worst_218 : decode cX5_worst 218 = .ok (.aload_n 0, 1) := by decide +kernel
theorem dX5_worst_219 : decode cX5_worst 219 = .ok (.getfield 13, 3) := by decide +kernel
theorem dX5_worst_222 : decode cX5_worst 222 = .ok (.iload_n 1, 1) := by decide +kernel
theorem dX5_worst_223 : decode cX5_worst 223 = .ok (.iaload, 1) := by decide +kernel
theorem dX5_worst_224 : decode cX5_worst 224 = .ok (.iconst 1, 1) := by decide +kernel
theorem dX5_worst_225 : decode cX5_worst 225 = .ok (.isub, 1) := by decide +kernel
theorem dX5_worst_226 : decode cX5_worst 226 = .ok (.istore 14, 2) := by decide +kernel
theorem dX5_worst_228 : decode cX5_worst 228 = .ok (.iload 14, 2) := by decide +kernel
theorem dX5_worst_230 : decode cX5_worst 230 = .ok (.ifCond .lt 114, 3) := by decide +kernel
theorem dX5_worst_233 : decode cX5_worst 233 = .ok (.aload_n 0, 1) := by decide +kernel
theorem dX5_worst_234 : decode cX5_worst 234 = .ok (.getfield 63, 3) := by decide +kernel
theorem dX5_worst_237 : decode cX5_worst 237 = .ok (.iload 14, 2) := by decide +kernel
theorem dX5_worst_239 : decode cX5_worst 239 = .ok (.iload 11, 2) := by decide +kernel
theorem dX5_worst_241 : decode cX5_worst 241 = .ok (.iload_n 3, 1) := by decide +kernel
theorem dX5_worst_242 : decode cX5_worst 242 = .ok (.iconst 1, 1) := by decide +kernel
theorem dX5_worst_243 : decode cX5_worst 243 = .ok (.iadd, 1) := by decide +kernel
theorem dX5_worst_244 : decode cX5_worst 244 = .ok (.irem, 1) := by decide +kernel
theorem dX5_worst_245 : decode cX5_worst 245 = .ok (.iastore, 1) := by decide +kernel
theorem dX5_worst_246 : decode cX5_worst 246 = .ok (.iload 11, 2) := by decide +kernel
theorem dX5_worst_248 : decode cX5_worst 248 = .ok (.iload_n 3, 1) := by decide +kernel
theorem dX5_worst_249 : decode cX5_worst 249 = .ok (.iconst 1, 1) := by decide +kernel
theorem dX5_worst_250 : decode cX5_worst 250 = .ok (.iadd, 1) := by decide +kernel
theorem dX5_worst_251 : decode cX5_worst 251 = .ok (.idiv, 1) := by decide +kernel
theorem dX5_worst_252 : decode cX5_worst 252 = .ok (.istore 11, 2) := by decide +kernel
theorem dX5_worst_254 : decode cX5_worst 254 = .ok (.aload_n 0, 1) := by decide +kernel
theorem dX5_worst_255 : decode cX5_worst 255 = .ok (.getfield 63, 3) := by decide +kernel
theorem dX5_worst_258 : decode cX5_worst 258 = .ok (.iload 14, 2) := by decide +kernel
theorem dX5_worst_260 : decode cX5_worst 260 = .ok (.iaload, 1) := by decide +kernel
theorem dX5_worst_261 : decode cX5_worst 261 = .ok (.iload_n 3, 1) := by decide +kernel
theorem dX5_worst_262 : decode cX5_worst 262 = .ok (.if_icmp .ge 28, 3) := by decide +kernel
theorem dX5_worst_265 : decode cX5_worst 265 = .ok (.aload_n 0, 1) := by decide +kernel
theorem dX5_worst_266 : decode cX5_worst 266 = .ok (.getfield 66, 3) := by decide +kernel
theorem dX5_worst_269 : decode cX5_worst 269 = .ok (.bipush 65, 2) := by decide +kernel
theorem dX5_worst_271 : decode cX5_worst 271 = .ok (.iload 14, 2) := by decide +kernel
theorem dX5_worst_273 : decode cX5_worst 273 = .ok (.imul, 1) := by decide +kernel
theorem dX5_worst_274 : decode cX5_worst 274 = .ok (.aload_n 0, 1) := by decide +kernel
theorem dX5_worst_275 : decode cX5_worst 275 = .ok (.getfield 63, 3) := by decide +kernel
theorem dX5_worst_278 : decode cX5_worst 278 = .ok (.iload 14, 2) := by decide +kernel
theorem dX5_worst_280 : decode cX5_worst 280 = .ok (.iaload, 1) := by decide +kernel
theorem dX5_worst_281 : decode cX5_worst 281 = .ok (.iadd, 1) := by decide +kernel
theorem dX5_worst_282 : decode cX5_worst 282 = .ok (.baload, 1) := by decide +kernel
theorem dX5_worst_283 : decode cX5_worst 283 = .ok (.ifCond .eq 7, 3) := by decide +kernel
theorem dX5_worst_286 : decode cX5_worst 286 = .ok (.iconst 1, 1) := by decide +kernel
theorem dX5_worst_287 : decode cX5_worst 287 = .ok (.goto 4, 3) := by decide +kernel
theorem dX5_worst_290 : decode cX5_worst 290 = .ok (.iconst 0, 1) := by decide +kernel
theorem dX5_worst_291 : decode cX5_worst 291 = .ok (.istore 15, 2) := by decide +kernel
theorem dX5_worst_293 : decode cX5_worst 293 = .ok (.iload 13, 2) := by decide +kernel
theorem dX5_worst_295 : decode cX5_worst 295 = .ok (.ifCond .eq 12, 3) := by decide +kernel
theorem dX5_worst_298 : decode cX5_worst 298 = .ok (.iload 15, 2) := by decide +kernel
theorem dX5_worst_300 : decode cX5_worst 300 = .ok (.ifCond .eq 7, 3) := by decide +kernel
theorem dX5_worst_303 : decode cX5_worst 303 = .ok (.iconst 1, 1) := by decide +kernel
theorem dX5_worst_304 : decode cX5_worst 304 = .ok (.goto 4, 3) := by decide +kernel
theorem dX5_worst_307 : decode cX5_worst 307 = .ok (.iconst 0, 1) := by decide +kernel
theorem dX5_worst_308 : decode cX5_worst 308 = .ok (.istore 13, 2) := by decide +kernel
theorem dX5_worst_310 : decode cX5_worst 310 = .ok (.iload 12, 2) := by decide +kernel
theorem dX5_worst_312 : decode cX5_worst 312 = .ok (.ifCond .eq 23, 3) := by decide +kernel
theorem dX5_worst_315 : decode cX5_worst 315 = .ok (.iload 15, 2) := by decide +kernel
theorem dX5_worst_317 : decode cX5_worst 317 = .ok (.ifCond .ne 14, 3) := by decide +kernel
theorem dX5_worst_320 : decode cX5_worst 320 = .ok (.aload_n 0, 1) := by decide +kernel
theorem dX5_worst_321 : decode cX5_worst 321 = .ok (.getfield 63, 3) := by decide +kernel
theorem dX5_worst_324 : decode cX5_worst 324 = .ok (.iload 14, 2) := by decide +kernel
theorem dX5_worst_326 : decode cX5_worst 326 = .ok (.iaload, 1) := by decide +kernel
theorem dX5_worst_327 : decode cX5_worst 327 = .ok (.iload_n 3, 1) := by decide +kernel
theorem dX5_worst_328 : decode cX5_worst 328 = .ok (.if_icmp .ne 7, 3) := by decide +kernel
theorem dX5_worst_331 : decode cX5_worst 331 = .ok (.iconst 1, 1) := by decide +kernel
theorem dX5_worst_332 : decode cX5_worst 332 = .ok (.goto 4, 3) := by decide +kernel
theorem dX5_worst_335 : decode cX5_worst 335 = .ok (.iconst 0, 1) := by decide +kernel
theorem dX5_worst_336 : decode cX5_worst 336 = .ok (.istore 12, 2) := by decide +kernel
theorem dX5_worst_338 : decode cX5_worst 338 = .ok (.iinc 14 (-1), 3) := by decide +kernel
theorem dX5_worst_341 : decode cX5_worst 341 = .ok (.goto (-113), 3) := by decide +kernel
theorem dX5_worst_344 : decode cX5_worst 344 = .ok (.iconst 0, 1) := by decide +kernel
theorem dX5_worst_345 : decode cX5_worst 345 = .ok (.istore 14, 2) := by decide +kernel
theorem dX5_worst_347 : decode cX5_worst 347 = .ok (.iload 14, 2) := by decide +kernel
theorem dX5_worst_349 : decode cX5_worst 349 = .ok (.iconst 2, 1) := by decide +kernel
theorem dX5_worst_350 : decode cX5_worst 350 = .ok (.if_icmp .ge 98, 3) := by decide +kernel
theorem dX5_worst_353 : decode cX5_worst 353 = .ok (.iload 14, 2) := by decide +kernel
theorem dX5_worst_355 : decode cX5_worst 355 = .ok (.ifCond .ne 11, 3) := by decide +kernel
theorem dX5_worst_358 : decode cX5_worst 358 = .ok (.iload 12, 2) := by decide +kernel
theorem dX5_worst_360 : decode cX5_worst 360 = .ok (.ifCond .eq 82, 3) := by decide +kernel
theorem dX5_worst_363 : decode cX5_worst 363 = .ok (.goto 8, 3) := by decide +kernel
theorem dX5_worst_366 : decode cX5_worst 366 = .ok (.iload 13, 2) := by decide +kernel
theorem dX5_worst_368 : decode cX5_worst 368 = .ok (.ifCond .eq 74, 3) := by decide +kernel
theorem dX5_worst_371 : decode cX5_worst 371 = .ok (.aload_n 0, 1) := by decide +kernel
theorem dX5_worst_372 : decode cX5_worst 372 = .ok (.iload_n 1, 1) := by decide +kernel
theorem dX5_worst_373 : decode cX5_worst 373 = .ok (.iload 14, 2) := by decide +kernel
theorem dX5_worst_375 : decode cX5_worst 375 = .ok (.iconst 1, 1) := by decide +kernel
theorem dX5_worst_376 : decode cX5_worst 376 = .ok (.if_icmp .ne 7, 3) := by decide +kernel
theorem dX5_worst_379 : decode cX5_worst 379 = .ok (.iconst 1, 1) := by decide +kernel
theorem dX5_worst_380 : decode cX5_worst 380 = .ok (.goto 4, 3) := by decide +kernel
theorem dX5_worst_383 : decode cX5_worst 383 = .ok (.iconst 0, 1) := by decide +kernel
theorem dX5_worst_384 : decode cX5_worst 384 = .ok (.invokevirtual 147, 3) := by decide +kernel
theorem dX5_worst_387 : decode cX5_worst 387 = .ok (.lstore 15, 2) := by decide +kernel
theorem dX5_worst_389 : decode cX5_worst 389 = .ok (.iload 14, 2) := by decide +kernel
theorem dX5_worst_391 : decode cX5_worst 391 = .ok (.iconst 1, 1) := by decide +kernel
theorem dX5_worst_392 : decode cX5_worst 392 = .ok (.if_icmp .ne 9, 3) := by decide +kernel
theorem dX5_worst_395 : decode cX5_worst 395 = .ok (.lload 15, 2) := by decide +kernel
theorem dX5_worst_397 : decode cX5_worst 397 = .ok (.lneg, 1) := by decide +kernel
theorem dX5_worst_398 : decode cX5_worst 398 = .ok (.goto 5, 3) := by decide +kernel
theorem dX5_worst_401 : decode cX5_worst 401 = .ok (.lload 15, 2) := by decide +kernel
theorem dX5_worst_403 : decode cX5_worst 403 = .ok (.lstore 15, 2) := by decide +kernel
theorem dX5_worst_405 : decode cX5_worst 405 = .ok (.iload 6, 2) := by decide +kernel
theorem dX5_worst_407 : decode cX5_worst 407 = .ok (.ifCond .eq 11, 3) := by decide +kernel
theorem dX5_worst_410 : decode cX5_worst 410 = .ok (.lload 15, 2) := by decide +kernel
theorem dX5_worst_412 : decode cX5_worst 412 = .ok (.lload 4, 2) := by decide +kernel
theorem dX5_worst_414 : decode cX5_worst 414 = .ok (.lcmp, 1) := by decide +kernel
theorem dX5_worst_415 : decode cX5_worst 415 = .ok (.ifCond .le 27, 3) := by decide +kernel
theorem dX5_worst_418 : decode cX5_worst 418 = .ok (.iconst 1, 1) := by decide +kernel
theorem dX5_worst_419 : decode cX5_worst 419 = .ok (.istore 6, 2) := by decide +kernel
theorem dX5_worst_421 : decode cX5_worst 421 = .ok (.lload 15, 2) := by decide +kernel
theorem dX5_worst_423 : decode cX5_worst 423 = .ok (.lstore 4, 2) := by decide +kernel
theorem dX5_worst_425 : decode cX5_worst 425 = .ok (.iload 10, 2) := by decide +kernel
theorem dX5_worst_427 : decode cX5_worst 427 = .ok (.istore 7, 2) := by decide +kernel
theorem dX5_worst_429 : decode cX5_worst 429 = .ok (.iload 14, 2) := by decide +kernel
theorem dX5_worst_431 : decode cX5_worst 431 = .ok (.iconst 1, 1) := by decide +kernel
theorem dX5_worst_432 : decode cX5_worst 432 = .ok (.if_icmp .ne 7, 3) := by decide +kernel
theorem dX5_worst_435 : decode cX5_worst 435 = .ok (.iconst 1, 1) := by decide +kernel
theorem dX5_worst_436 : decode cX5_worst 436 = .ok (.goto 4, 3) := by decide +kernel
theorem dX5_worst_439 : decode cX5_worst 439 = .ok (.iconst 0, 1) := by decide +kernel
theorem dX5_worst_440 : decode cX5_worst 440 = .ok (.istore 8, 2) := by decide +kernel
theorem dX5_worst_442 : decode cX5_worst 442 = .ok (.iinc 14 1, 3) := by decide +kernel
theorem dX5_worst_445 : decode cX5_worst 445 = .ok (.goto (-98), 3) := by decide +kernel
theorem dX5_worst_448 : decode cX5_worst 448 = .ok (.iinc 10 1, 3) := by decide +kernel
theorem dX5_worst_451 : decode cX5_worst 451 = .ok (.goto (-250), 3) := by decide +kernel
theorem dX5_worst_454 : decode cX5_worst 454 = .ok (.iload_n 2, 1) := by decide +kernel
theorem dX5_worst_455 : decode cX5_worst 455 = .ok (.iconst 2, 1) := by decide +kernel
theorem dX5_worst_456 : decode cX5_worst 456 = .ok (.if_icmp .ge 29, 3) := by decide +kernel
theorem dX5_worst_459 : decode cX5_worst 459 = .ok (.lload 4, 2) := by decide +kernel
theorem dX5_worst_461 : decode cX5_worst 461 = .ok (.iload_n 3, 1) := by decide +kernel
theorem dX5_worst_462 : decode cX5_worst 462 = .ok (.i2l, 1) := by decide +kernel
theorem dX5_worst_463 : decode cX5_worst 463 = .ok (.aload_n 0, 1) := by decide +kernel
theorem dX5_worst_464 : decode cX5_worst 464 = .ok (.getfield 13, 3) := by decide +kernel
theorem dX5_worst_467 : decode cX5_worst 467 = .ok (.iload_n 1, 1) := by decide +kernel
theorem dX5_worst_468 : decode cX5_worst 468 = .ok (.iaload, 1) := by decide +kernel
theorem dX5_worst_469 : decode cX5_worst 469 = .ok (.invokestatic 140, 3) := by decide +kernel
theorem dX5_worst_472 : decode cX5_worst 472 = .ok (.iload_n 2, 1) := by decide +kernel
theorem dX5_worst_473 : decode cX5_worst 473 = .ok (.ifCond .ne 7, 3) := by decide +kernel
theorem dX5_worst_476 : decode cX5_worst 476 = .ok (.iconst 1, 1) := by decide +kernel
theorem dX5_worst_477 : decode cX5_worst 477 = .ok (.goto 4, 3) := by decide +kernel
theorem dX5_worst_480 : decode cX5_worst 480 = .ok (.iconst 0, 1) := by decide +kernel
theorem dX5_worst_481 : decode cX5_worst 481 = .ok (.invokestatic 151, 3) := by decide +kernel
theorem dX5_worst_484 : decode cX5_worst 484 = .ok (.lreturn, 1) := by decide +kernel
theorem dX5_worst_485 : decode cX5_worst 485 = .ok (.iload_n 2, 1) := by decide +kernel
theorem dX5_worst_486 : decode cX5_worst 486 = .ok (.iconst 2, 1) := by decide +kernel
theorem dX5_worst_487 : decode cX5_worst 487 = .ok (.if_icmp .ne 14, 3) := by decide +kernel
theorem dX5_worst_490 : decode cX5_worst 490 = .ok (.iload 8, 2) := by decide +kernel
theorem dX5_worst_492 : decode cX5_worst 492 = .ok (.ifCond .eq 7, 3) := by decide +kernel
theorem dX5_worst_495 : decode cX5_worst 495 = .ok (.lconst 1, 1) := by decide +kernel
theorem dX5_worst_496 : decode cX5_worst 496 = .ok (.goto 4, 3) := by decide +kernel
theorem dX5_worst_499 : decode cX5_worst 499 = .ok (.lconst 0, 1) := by decide +kernel
theorem dX5_worst_500 : decode cX5_worst 500 = .ok (.lreturn, 1) := by decide +kernel
theorem dX5_worst_501 : decode cX5_worst 501 = .ok (.aload_n 0, 1) := by decide +kernel
theorem dX5_worst_502 : decode cX5_worst 502 = .ok (.getfield 13, 3) := by decide +kernel
theorem dX5_worst_505 : decode cX5_worst 505 = .ok (.iload_n 1, 1) := by decide +kernel
theorem dX5_worst_506 : decode cX5_worst 506 = .ok (.iaload, 1) := by decide +kernel
theorem dX5_worst_507 : decode cX5_worst 507 = .ok (.iconst 1, 1) := by decide +kernel
theorem dX5_worst_508 : decode cX5_worst 508 = .ok (.isub, 1) := by decide +kernel
theorem dX5_worst_509 : decode cX5_worst 509 = .ok (.istore 10, 2) := by decide +kernel
theorem dX5_worst_511 : decode cX5_worst 511 = .ok (.iload 10, 2) := by decide +kernel
theorem dX5_worst_513 : decode cX5_worst 513 = .ok (.iload_n 2, 1) := by decide +kernel
theorem dX5_worst_514 : decode cX5_worst 514 = .ok (.iconst 3, 1) := by decide +kernel
theorem dX5_worst_515 : decode cX5_worst 515 = .ok (.isub, 1) := by decide +kernel
theorem dX5_worst_516 : decode cX5_worst 516 = .ok (.if_icmp .le 17, 3) := by decide +kernel
theorem dX5_worst_519 : decode cX5_worst 519 = .ok (.iload 7, 2) := by decide +kernel
theorem dX5_worst_521 : decode cX5_worst 521 = .ok (.iload_n 3, 1) := by decide +kernel
theorem dX5_worst_522 : decode cX5_worst 522 = .ok (.iconst 1, 1) := by decide +kernel
theorem dX5_worst_523 : decode cX5_worst 523 = .ok (.iadd, 1) := by decide +kernel
theorem dX5_worst_524 : decode cX5_worst 524 = .ok (.idiv, 1) := by decide +kernel
theorem dX5_worst_525 : decode cX5_worst 525 = .ok (.istore 7, 2) := by decide +kernel
theorem dX5_worst_527 : decode cX5_worst 527 = .ok (.iinc 10 (-1), 3) := by decide +kernel
theorem dX5_worst_530 : decode cX5_worst 530 = .ok (.goto (-19), 3) := by decide +kernel
theorem dX5_worst_533 : decode cX5_worst 533 = .ok (.iload 7, 2) := by decide +kernel
theorem dX5_worst_535 : decode cX5_worst 535 = .ok (.iload_n 3, 1) := by decide +kernel
theorem dX5_worst_536 : decode cX5_worst 536 = .ok (.iconst 1, 1) := by decide +kernel
theorem dX5_worst_537 : decode cX5_worst 537 = .ok (.iadd, 1) := by decide +kernel
theorem dX5_worst_538 : decode cX5_worst 538 = .ok (.irem, 1) := by decide +kernel
theorem dX5_worst_539 : decode cX5_worst 539 = .ok (.i2l, 1) := by decide +kernel
theorem dX5_worst_540 : decode cX5_worst 540 = .ok (.lreturn, 1) := by decide +kernel
theorem dX5_square_0 : decode cX5_square 0 = .ok (.aload_n 0, 1) := by decide +kernel
