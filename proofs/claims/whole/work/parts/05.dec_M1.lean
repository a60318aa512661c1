theorem dc_M_lookOn_353 : decode cd_M_lookOn 353 = .ok (.iaload, 1) := by decide +kernel
theorem dc_M_lookOn_354 : decode cd_M_lookOn 354 = .ok (.invokevirtual 135, 3) := by decide +kernel
theorem dc_M_lookOn_357 : decode cd_M_lookOn 357 = .ok (.goto 77, 3) := by decide +kernel
theorem dc_M_lookOn_360 : decode cd_M_lookOn 360 = .ok (.iload 4, 2) := by decide +kernel
theorem dc_M_lookOn_362 : decode cd_M_lookOn 362 = .ok (.iconst 1, 1) := by decide +kernel
theorem dc_M_lookOn_363 : decode cd_M_lookOn 363 = .ok (.if_icmp .ne 43, 3) := by decide +kernel
theorem dc_M_lookOn_366 : decode cd_M_lookOn 366 = .ok (.iload 5, 2) := by decide +kernel
theorem dc_M_lookOn_368 : decode cd_M_lookOn 368 = .ok (.iconst 1, 1) := by decide +kernel
theorem dc_M_lookOn_369 : decode cd_M_lookOn 369 = .ok (.if_icmp .eq 37, 3) := by decide +kernel
theorem dc_M_lookOn_372 : decode cd_M_lookOn 372 = .ok (.iload 5, 2) := by decide +kernel
theorem dc_M_lookOn_374 : decode cd_M_lookOn 374 = .ok (.iconst 2, 1) := by decide +kernel
theorem dc_M_lookOn_375 : decode cd_M_lookOn 375 = .ok (.if_icmp .eq 31, 3) := by decide +kernel
theorem dc_M_lookOn_378 : decode cd_M_lookOn 378 = .ok (.aload_n 0, 1) := by decide +kernel
theorem dc_M_lookOn_379 : decode cd_M_lookOn 379 = .ok (.iload_n 3, 1) := by decide +kernel
theorem dc_M_lookOn_380 : decode cd_M_lookOn 380 = .ok (.bipush 10, 2) := by decide +kernel
theorem dc_M_lookOn_382 : decode cd_M_lookOn 382 = .ok (.if_icmp .ne 12, 3) := by decide +kernel
theorem dc_M_lookOn_385 : decode cd_M_lookOn 385 = .ok (.aload_n 0, 1) := by decide +kernel
theorem dc_M_lookOn_386 : decode cd_M_lookOn 386 = .ok (.getfield 19, 3) := by decide +kernel
theorem dc_M_lookOn_389 : decode cd_M_lookOn 389 = .ok (.iload_n 2, 1) := by decide +kernel
theorem dc_M_lookOn_390 : decode cd_M_lookOn 390 = .ok (.iaload, 1) := by decide +kernel
theorem dc_M_lookOn_391 : decode cd_M_lookOn 391 = .ok (.goto 9, 3) := by decide +kernel
theorem dc_M_lookOn_394 : decode cd_M_lookOn 394 = .ok (.aload_n 0, 1) := by decide +kernel
theorem dc_M_lookOn_395 : decode cd_M_lookOn 395 = .ok (.getfield 16, 3) := by decide +kernel
theorem dc_M_lookOn_398 : decode cd_M_lookOn 398 = .ok (.iload_n 2, 1) := by decide +kernel
theorem dc_M_lookOn_399 : decode cd_M_lookOn 399 = .ok (.iaload, 1) := by decide +kernel
theorem dc_M_lookOn_400 : decode cd_M_lookOn 400 = .ok (.invokevirtual 128, 3) := by decide +kernel
theorem dc_M_lookOn_403 : decode cd_M_lookOn 403 = .ok (.goto 31, 3) := by decide +kernel
theorem dc_M_lookOn_406 : decode cd_M_lookOn 406 = .ok (.aload_n 0, 1) := by decide +kernel
theorem dc_M_lookOn_407 : decode cd_M_lookOn 407 = .ok (.iload_n 2, 1) := by decide +kernel
theorem dc_M_lookOn_408 : decode cd_M_lookOn 408 = .ok (.aload_n 0, 1) := by decide +kernel
theorem dc_M_lookOn_409 : decode cd_M_lookOn 409 = .ok (.iload_n 2, 1) := by decide +kernel
theorem dc_M_lookOn_410 : decode cd_M_lookOn 410 = .ok (.aload_n 0, 1) := by decide +kernel
theorem dc_M_lookOn_411 : decode cd_M_lookOn 411 = .ok (.getfield 56, 3) := by decide +kernel
theorem dc_M_lookOn_414 : decode cd_M_lookOn 414 = .ok (.iconst 2, 1) := by decide +kernel
theorem dc_M_lookOn_415 : decode cd_M_lookOn 415 = .ok (.iload_n 1, 1) := by decide +kernel
theorem dc_M_lookOn_416 : decode cd_M_lookOn 416 = .ok (.imul, 1) := by decide +kernel
theorem dc_M_lookOn_417 : decode cd_M_lookOn 417 = .ok (.iaload, 1) := by decide +kernel
theorem dc_M_lookOn_418 : decode cd_M_lookOn 418 = .ok (.aload_n 0, 1) := by decide +kernel
theorem dc_M_lookOn_419 : decode cd_M_lookOn 419 = .ok (.getfield 56, 3) := by decide +kernel
theorem dc_M_lookOn_422 : decode cd_M_lookOn 422 = .ok (.iconst 2, 1) := by decide +kernel
theorem dc_M_lookOn_423 : decode cd_M_lookOn 423 = .ok (.iload_n 1, 1) := by decide +kernel
theorem dc_M_lookOn_424 : decode cd_M_lookOn 424 = .ok (.imul, 1) := by decide +kernel
theorem dc_M_lookOn_425 : decode cd_M_lookOn 425 = .ok (.iconst 1, 1) := by decide +kernel
theorem dc_M_lookOn_426 : decode cd_M_lookOn 426 = .ok (.iadd, 1) := by decide +kernel
theorem dc_M_lookOn_427 : decode cd_M_lookOn 427 = .ok (.iaload, 1) := by decide +kernel
theorem dc_M_lookOn_428 : decode cd_M_lookOn 428 = .ok (.invokevirtual 143, 3) := by decide +kernel
theorem dc_M_lookOn_431 : decode cd_M_lookOn 431 = .ok (.invokevirtual 135, 3) := by decide +kernel
theorem dc_M_lookOn_434 : decode cd_M_lookOn 434 = .ok (.return_, 1) := by decide +kernel
theorem dc_M_leaf_0 : decode cd_M_leaf 0 = .ok (.aload_n 0, 1) := by decide +kernel
theorem dc_M_leaf_1 : decode cd_M_leaf 1 = .ok (.getfield 7, 3) := by decide +kernel
theorem dc_M_leaf_4 : decode cd_M_leaf 4 = .ok (.iload_n 1, 1) := by decide +kernel
theorem dc_M_leaf_5 : decode cd_M_leaf 5 = .ok (.iaload, 1) := by decide +kernel
theorem dc_M_leaf_6 : decode cd_M_leaf 6 = .ok (.tableswitch 71 0 3 #[30, 46, 55, 67], 30) := by decide +kernel
theorem dc_M_leaf_36 : decode cd_M_leaf 36 = .ok (.aload_n 0, 1) := by decide +kernel
theorem dc_M_leaf_37 : decode cd_M_leaf 37 = .ok (.getfield 53, 3) := by decide +kernel
theorem dc_M_leaf_40 : decode cd_M_leaf 40 = .ok (.iconst 4, 1) := by decide +kernel
theorem dc_M_leaf_41 : decode cd_M_leaf 41 = .ok (.iload_n 2, 1) := by decide +kernel
theorem dc_M_leaf_42 : decode cd_M_leaf 42 = .ok (.imul, 1) := by decide +kernel
theorem dc_M_leaf_43 : decode cd_M_leaf 43 = .ok (.aload_n 0, 1) := by decide +kernel
theorem dc_M_leaf_44 : decode cd_M_leaf 44 = .ok (.getfield 13, 3) := by decide +kernel
theorem dc_M_leaf_47 : decode cd_M_leaf 47 = .ok (.iload_n 1, 1) := by decide +kernel
theorem dc_M_leaf_48 : decode cd_M_leaf 48 = .ok (.iaload, 1) := by decide +kernel
theorem dc_M_leaf_49 : decode cd_M_leaf 49 = .ok (.iadd, 1) := by decide +kernel
theorem dc_M_leaf_50 : decode cd_M_leaf 50 = .ok (.iaload, 1) := by decide +kernel
theorem dc_M_leaf_51 : decode cd_M_leaf 51 = .ok (.ireturn, 1) := by decide +kernel
theorem dc_M_leaf_52 : decode cd_M_leaf 52 = .ok (.iconst 1, 1) := by decide +kernel
theorem dc_M_leaf_53 : decode cd_M_leaf 53 = .ok (.aload_n 0, 1) := by decide +kernel
theorem dc_M_leaf_54 : decode cd_M_leaf 54 = .ok (.getfield 13, 3) := by decide +kernel
theorem dc_M_leaf_57 : decode cd_M_leaf 57 = .ok (.iload_n 1, 1) := by decide +kernel
theorem dc_M_leaf_58 : decode cd_M_leaf 58 = .ok (.iaload, 1) := by decide +kernel
theorem dc_M_leaf_59 : decode cd_M_leaf 59 = .ok (.ishl, 1) := by decide +kernel
theorem dc_M_leaf_60 : decode cd_M_leaf 60 = .ok (.ireturn, 1) := by decide +kernel
theorem dc_M_leaf_61 : decode cd_M_leaf 61 = .ok (.iconst 1, 1) := by decide +kernel
theorem dc_M_leaf_62 : decode cd_M_leaf 62 = .ok (.aload_n 0, 1) := by decide +kernel
theorem dc_M_leaf_63 : decode cd_M_leaf 63 = .ok (.getfield 13, 3) := by decide +kernel
theorem dc_M_leaf_66 : decode cd_M_leaf 66 = .ok (.iload_n 1, 1) := by decide +kernel
theorem dc_M_leaf_67 : decode cd_M_leaf 67 = .ok (.iaload, 1) := by decide +kernel
theorem dc_M_leaf_68 : decode cd_M_leaf 68 = .ok (.invokestatic 122, 3) := by decide +kernel
theorem dc_M_leaf_71 : decode cd_M_leaf 71 = .ok (.ishl, 1) := by decide +kernel
theorem dc_M_leaf_72 : decode cd_M_leaf 72 = .ok (.ireturn, 1) := by decide +kernel
theorem dc_M_leaf_73 : decode cd_M_leaf 73 = .ok (.sipush 128, 3) := by decide +kernel
theorem dc_M_leaf_76 : decode cd_M_leaf 76 = .ok (.ireturn, 1) := by decide +kernel
theorem dc_M_leaf_77 : decode cd_M_leaf 77 = .ok (.iconst 0, 1) := by decide +kernel
theorem dc_M_leaf_78 : decode cd_M_leaf 78 = .ok (.ireturn, 1) := by decide +kernel
theorem dc_M_kindOf_0 : decode cd_M_kindOf 0 = .ok (.iload_n 0, 1) := by decide +kernel
theorem dc_M_kindOf_1 : decode cd_M_kindOf 1 = .ok (.ifCond .ge 7, 3) := by decide +kernel
theorem dc_M_kindOf_4 : decode cd_M_kindOf 4 = .ok (.iconst 4, 1) := by decide +kernel
theorem dc_M_kindOf_5 : decode cd_M_kindOf 5 = .ok (.goto 13, 3) := by decide +kernel
theorem dc_M_kindOf_8 : decode cd_M_kindOf 8 = .ok (.iload_n 0, 1) := by decide +kernel
theorem dc_M_kindOf_9 : decode cd_M_kindOf 9 = .ok (.ifCond .ne 7, 3) := by decide +kernel
theorem dc_M_kindOf_12 : decode cd_M_kindOf 12 = .ok (.iconst 5, 1) := by decide +kernel
theorem dc_M_kindOf_13 : decode cd_M_kindOf 13 = .ok (.goto 5, 3) := by decide +kernel
theorem dc_M_kindOf_16 : decode cd_M_kindOf 16 = .ok (.bipush 6, 2) := by decide +kernel
theorem dc_M_kindOf_18 : decode cd_M_kindOf 18 = .ok (.ireturn, 1) := by decide +kernel
theorem dc_M_close_0 : decode cd_M_close 0 = .ok (.aload_n 0, 1) := by decide +kernel
theorem dc_M_close_1 : decode cd_M_close 1 = .ok (.iload_n 2, 1) := by decide +kernel
theorem dc_M_close_2 : decode cd_M_close 2 = .ok (.putfield 125, 3) := by decide +kernel
theorem dc_M_close_5 : decode cd_M_close 5 = .ok (.aload_n 0, 1) := by decide +kernel
theorem dc_M_close_6 : decode cd_M_close 6 = .ok (.dup, 1) := by decide +kernel
theorem dc_M_close_7 : decode cd_M_close 7 = .ok (.getfield 111, 3) := by decide +kernel
theorem dc_M_close_10 : decode cd_M_close 10 = .ok (.iconst 1, 1) := by decide +kernel
theorem dc_M_close_11 : decode cd_M_close 11 = .ok (.isub, 1) := by decide +kernel
theorem dc_M_close_12 : decode cd_M_close 12 = .ok (.putfield 111, 3) := by decide +kernel
theorem dc_M_close_15 : decode cd_M_close 15 = .ok (.aload_n 0, 1) := by decide +kernel
theorem dc_M_close_16 : decode cd_M_close 16 = .ok (.getfield 40, 3) := by decide +kernel
theorem dc_M_close_19 : decode cd_M_close 19 = .ok (.iload_n 1, 1) := by decide +kernel
theorem dc_M_close_20 : decode cd_M_close 20 = .ok (.iconst 1, 1) := by decide +kernel
theorem dc_M_close_21 : decode cd_M_close 21 = .ok (.bastore, 1) := by decide +kernel
theorem dc_M_close_22 : decode cd_M_close 22 = .ok (.aload_n 0, 1) := by decide +kernel
theorem dc_M_close_23 : decode cd_M_close 23 = .ok (.getfield 44, 3) := by decide +kernel
theorem dc_M_close_26 : decode cd_M_close 26 = .ok (.iload_n 1, 1) := by decide +kernel
theorem dc_M_close_27 : decode cd_M_close 27 = .ok (.aload_n 0, 1) := by decide +kernel
theorem dc_M_close_28 : decode cd_M_close 28 = .ok (.getfield 44, 3) := by decide +kernel
theorem dc_M_close_31 : decode cd_M_close 31 = .ok (.iload_n 1, 1) := by decide +kernel
theorem dc_M_close_32 : decode cd_M_close 32 = .ok (.baload, 1) := by decide +kernel
theorem dc_M_close_33 : decode cd_M_close 33 = .ok (.ifCond .ne 7, 3) := by decide +kernel
theorem dc_M_close_36 : decode cd_M_close 36 = .ok (.iload_n 2, 1) := by decide +kernel
theorem dc_M_close_37 : decode cd_M_close 37 = .ok (.ifCond .eq 7, 3) := by decide +kernel
theorem dc_M_close_40 : decode cd_M_close 40 = .ok (.iconst 1, 1) := by decide +kernel
theorem dc_M_close_41 : decode cd_M_close 41 = .ok (.goto 4, 3) := by decide +kernel
theorem dc_M_close_44 : decode cd_M_close 44 = .ok (.iconst 0, 1) := by decide +kernel
theorem dc_M_close_45 : decode cd_M_close 45 = .ok (.bastore, 1) := by decide +kernel
theorem dc_M_close_46 : decode cd_M_close 46 = .ok (.return_, 1) := by decide +kernel
theorem dc_M_lookCase_0 : decode cd_M_lookCase 0 = .ok (.aload_n 0, 1) := by decide +kernel
theorem dc_M_lookCase_1 : decode cd_M_lookCase 1 = .ok (.iconst 0, 1) := by decide +kernel
theorem dc_M_lookCase_2 : decode cd_M_lookCase 2 = .ok (.putfield 125, 3) := by decide +kernel
theorem dc_M_lookCase_5 : decode cd_M_lookCase 5 = .ok (.aload_n 0, 1) := by decide +kernel
theorem dc_M_lookCase_6 : decode cd_M_lookCase 6 = .ok (.getfield 56, 3) := by decide +kernel
theorem dc_M_lookCase_9 : decode cd_M_lookCase 9 = .ok (.iconst 2, 1) := by decide +kernel
theorem dc_M_lookCase_10 : decode cd_M_lookCase 10 = .ok (.iload_n 2, 1) := by decide +kernel
theorem dc_M_lookCase_11 : decode cd_M_lookCase 11 = .ok (.imul, 1) := by decide +kernel
theorem dc_M_lookCase_12 : decode cd_M_lookCase 12 = .ok (.iaload, 1) := by decide +kernel
theorem dc_M_lookCase_13 : decode cd_M_lookCase 13 = .ok (.iload_n 3, 1) := by decide +kernel
theorem dc_M_lookCase_14 : decode cd_M_lookCase 14 = .ok (.iand, 1) := by decide +kernel
theorem dc_M_lookCase_15 : decode cd_M_lookCase 15 = .ok (.ifCond .eq 52, 3) := by decide +kernel
theorem dc_M_lookCase_18 : decode cd_M_lookCase 18 = .ok (.aload_n 0, 1) := by decide +kernel
theorem dc_M_lookCase_19 : decode cd_M_lookCase 19 = .ok (.iload 4, 2) := by decide +kernel
theorem dc_M_lookCase_21 : decode cd_M_lookCase 21 = .ok (.invokevirtual 128, 3) := by decide +kernel
theorem dc_M_lookCase_24 : decode cd_M_lookCase 24 = .ok (.aload_n 0, 1) := by decide +kernel
theorem dc_M_lookCase_25 : decode cd_M_lookCase 25 = .ok (.getfield 13, 3) := by decide +kernel
theorem dc_M_lookCase_28 : decode cd_M_lookCase 28 = .ok (.iload_n 1, 1) := by decide +kernel
theorem dc_M_lookCase_29 : decode cd_M_lookCase 29 = .ok (.iaload, 1) := by decide +kernel
theorem dc_M_lookCase_30 : decode cd_M_lookCase 30 = .ok (.istore 5, 2) := by decide +kernel
theorem dc_M_lookCase_32 : decode cd_M_lookCase 32 = .ok (.aload_n 0, 1) := by decide +kernel
theorem dc_M_lookCase_33 : decode cd_M_lookCase 33 = .ok (.getfield 7, 3) := by decide +kernel
theorem dc_M_lookCase_36 : decode cd_M_lookCase 36 = .ok (.iload 5, 2) := by decide +kernel
theorem dc_M_lookCase_38 : decode cd_M_lookCase 38 = .ok (.iaload, 1) := by decide +kernel
theorem dc_M_lookCase_39 : decode cd_M_lookCase 39 = .ok (.ifCond .ne 28, 3) := by decide +kernel
theorem dc_M_lookCase_42 : decode cd_M_lookCase 42 = .ok (.aload_n 0, 1) := by decide +kernel
theorem dc_M_lookCase_43 : decode cd_M_lookCase 43 = .ok (.getfield 53, 3) := by decide +kernel
theorem dc_M_lookCase_46 : decode cd_M_lookCase 46 = .ok (.iconst 4, 1) := by decide +kernel
theorem dc_M_lookCase_47 : decode cd_M_lookCase 47 = .ok (.aload_n 0, 1) := by decide +kernel
theorem dc_M_lookCase_48 : decode cd_M_lookCase 48 = .ok (.getfield 111, 3) := by decide +kernel
theorem dc_M_lookCase_51 : decode cd_M_lookCase 51 = .ok (.iconst 1, 1) := by decide +kernel
theorem dc_M_lookCase_52 : decode cd_M_lookCase 52 = .ok (.isub, 1) := by decide +kernel
theorem dc_M_lookCase_53 : decode cd_M_lookCase 53 = .ok (.imul, 1) := by decide +kernel
theorem dc_M_lookCase_54 : decode cd_M_lookCase 54 = .ok (.aload_n 0, 1) := by decide +kernel
theorem dc_M_lookCase_55 : decode cd_M_lookCase 55 = .ok (.getfield 13, 3) := by decide +kernel
theorem dc_M_lookCase_58 : decode cd_M_lookCase 58 = .ok (.iload 5, 2) := by decide +kernel
theorem dc_M_lookCase_60 : decode cd_M_lookCase 60 = .ok (.iaload, 1) := by decide +kernel
theorem dc_M_lookCase_61 : decode cd_M_lookCase 61 = .ok (.iadd, 1) := by decide +kernel
theorem dc_M_lookCase_62 : decode cd_M_lookCase 62 = .ok (.dup2, 1) := by decide +kernel
theorem dc_M_lookCase_63 : decode cd_M_lookCase 63 = .ok (.iaload, 1) := by decide +kernel
theorem dc_M_lookCase_64 : decode cd_M_lookCase 64 = .ok (.iload_n 3, 1) := by decide +kernel
theorem dc_M_lookCase_65 : decode cd_M_lookCase 65 = .ok (.iand, 1) := by decide +kernel
theorem dc_M_lookCase_66 : decode cd_M_lookCase 66 = .ok (.iastore, 1) := by decide +kernel
theorem dc_M_lookCase_67 : decode cd_M_lookCase 67 = .ok (.return_, 1) := by decide +kernel
theorem dc_M_together_0 : decode cd_M_together 0 = .ok (.iload_n 2, 1) := by decide +kernel
theorem dc_M_together_1 : decode cd_M_together 1 = .ok (.ifCond .eq 7, 3) := by decide +kernel
theorem dc_M_together_4 : decode cd_M_together 4 = .ok (.iload_n 3, 1) := by decide +kernel
theorem dc_M_together_5 : decode cd_M_together 5 = .ok (.ifCond .ne 7, 3) := by decide +kernel
theorem dc_M_together_8 : decode cd_M_together 8 = .ok (.iconst 1, 1) := by decide +kernel
theorem dc_M_together_9 : decode cd_M_together 9 = .ok (.goto 4, 3) := by decide +kernel
theorem dc_M_together_12 : decode cd_M_together 12 = .ok (.iconst 0, 1) := by decide +kernel
theorem dc_M_together_13 : decode cd_M_together 13 = .ok (.istore 4, 2) := by decide +kernel
theorem dc_M_together_15 : decode cd_M_together 15 = .ok (.aload_n 0, 1) := by decide +kernel
theorem dc_M_together_16 : decode cd_M_together 16 = .ok (.getfield 7, 3) := by decide +kernel
theorem dc_M_together_19 : decode cd_M_together 19 = .ok (.iload_n 1, 1) := by decide +kernel
theorem dc_M_together_20 : decode cd_M_together 20 = .ok (.iaload, 1) := by decide +kernel
theorem dc_M_together_21 : decode cd_M_together 21 = .ok (.tableswitch 122 4 13 #[55, 62, 69, 82, 82, 122, 98, 122, 122, 111], 55) := by decide +kernel
theorem dc_M_together_76 : decode cd_M_together 76 = .ok (.iload_n 2, 1) := by decide +kernel
theorem dc_M_together_77 : decode cd_M_together 77 = .ok (.iload_n 3, 1) := by decide +kernel
theorem dc_M_together_78 : decode cd_M_together 78 = .ok (.iconst 1, 1) := by decide +kernel
theorem dc_M_together_79 : decode cd_M_together 79 = .ok (.invokestatic 114, 3) := by decide +kernel
theorem dc_M_together_82 : decode cd_M_together 82 = .ok (.ireturn, 1) := by decide +kernel
theorem dc_M_together_83 : decode cd_M_together 83 = .ok (.iload_n 2, 1) := by decide +kernel
theorem dc_M_together_84 : decode cd_M_together 84 = .ok (.iload_n 3, 1) := by decide +kernel
theorem dc_M_together_85 : decode cd_M_together 85 = .ok (.iconst 0, 1) := by decide +kernel
theorem dc_M_together_86 : decode cd_M_together 86 = .ok (.invokestatic 114, 3) := by decide +kernel
theorem dc_M_together_89 : decode cd_M_together 89 = .ok (.ireturn, 1) := by decide +kernel
theorem dc_M_together_90 : decode cd_M_together 90 = .ok (.iload 4, 2) := by decide +kernel
theorem dc_M_together_92 : decode cd_M_together 92 = .ok (.ifCond .eq 7, 3) := by decide +kernel
theorem dc_M_together_95 : decode cd_M_together 95 = .ok (.iconst 0, 1) := by decide +kernel
theorem dc_M_together_96 : decode cd_M_together 96 = .ok (.goto 6, 3) := by decide +kernel
theorem dc_M_together_99 : decode cd_M_together 99 = .ok (.sipush 256, 3) := by decide +kernel
theorem dc_M_together_102 : decode cd_M_together 102 = .ok (.ireturn, 1) := by decide +kernel
theorem dc_M_together_103 : decode cd_M_together 103 = .ok (.iload_n 2, 1) := by decide +kernel
theorem dc_M_together_104 : decode cd_M_together 104 = .ok (.sipush 256, 3) := by decide +kernel
theorem dc_M_together_107 : decode cd_M_together 107 = .ok (.iand, 1) := by decide +kernel
theorem dc_M_together_108 : decode cd_M_together 108 = .ok (.ifCond .eq 9, 3) := by decide +kernel
theorem dc_M_together_111 : decode cd_M_together 111 = .ok (.sipush 511, 3) := by decide +kernel
theorem dc_M_together_114 : decode cd_M_together 114 = .ok (.goto 4, 3) := by decide +kernel
theorem dc_M_together_117 : decode cd_M_together 117 = .ok (.iconst 0, 1) := by decide +kernel
theorem dc_M_together_118 : decode cd_M_together 118 = .ok (.ireturn, 1) := by decide +kernel
theorem dc_M_together_119 : decode cd_M_together 119 = .ok (.aload_n 0, 1) := by decide +kernel
theorem dc_M_together_120 : decode cd_M_together 120 = .ok (.aload_n 0, 1) := by decide +kernel
theorem dc_M_together_121 : decode cd_M_together 121 = .ok (.getfield 13, 3) := by decide +kernel
theorem dc_M_together_124 : decode cd_M_together 124 = .ok (.iload_n 1, 1) := by decide +kernel
theorem dc_M_together_125 : decode cd_M_together 125 = .ok (.iaload, 1) := by decide +kernel
theorem dc_M_together_126 : decode cd_M_together 126 = .ok (.iload_n 2, 1) := by decide +kernel
theorem dc_M_together_127 : decode cd_M_together 127 = .ok (.iload_n 3, 1) := by decide +kernel
theorem dc_M_together_128 : decode cd_M_together 128 = .ok (.invokevirtual 118, 3) := by decide +kernel
theorem dc_M_together_131 : decode cd_M_together 131 = .ok (.ireturn, 1) := by decide +kernel
theorem dc_M_together_132 : decode cd_M_together 132 = .ok (.iload 4, 2) := by decide +kernel
theorem dc_M_together_134 : decode cd_M_together 134 = .ok (.ifCond .eq 7, 3) := by decide +kernel
theorem dc_M_together_137 : decode cd_M_together 137 = .ok (.iconst 0, 1) := by decide +kernel
theorem dc_M_together_138 : decode cd_M_together 138 = .ok (.goto 4, 3) := by decide +kernel
theorem dc_M_together_141 : decode cd_M_together 141 = .ok (.iconst 3, 1) := by decide +kernel
theorem dc_M_together_142 : decode cd_M_together 142 = .ok (.ireturn, 1) := by decide +kernel
theorem dc_M_together_143 : decode cd_M_together 143 = .ok (.iload_n 2, 1) := by decide +kernel
theorem dc_M_together_144 : decode cd_M_together 144 = .ok (.iload_n 3, 1) := by decide +kernel
theorem dc_M_together_145 : decode cd_M_together 145 = .ok (.ior, 1) := by decide +kernel
theorem dc_M_together_146 : decode cd_M_together 146 = .ok (.ireturn, 1) := by decide +kernel
theorem dc_M_sums_0 : decode cd_M_sums 0 = .ok (.iconst 0, 1) := by decide +kernel
theorem dc_M_sums_1 : decode cd_M_sums 1 = .ok (.istore_n 3, 1) := by decide +kernel
theorem dc_M_sums_2 : decode cd_M_sums 2 = .ok (.iconst 4, 1) := by decide +kernel
theorem dc_M_sums_3 : decode cd_M_sums 3 = .ok (.istore 4, 2) := by decide +kernel
theorem dc_M_sums_5 : decode cd_M_sums 5 = .ok (.iload 4, 2) := by decide +kernel
theorem dc_M_sums_7 : decode cd_M_sums 7 = .ok (.bipush 7, 2) := by decide +kernel
theorem dc_M_sums_9 : decode cd_M_sums 9 = .ok (.if_icmp .ge 100, 3) := by decide +kernel
theorem dc_M_sums_12 : decode cd_M_sums 12 = .ok (.iconst 4, 1) := by decide +kernel
theorem dc_M_sums_13 : decode cd_M_sums 13 = .ok (.istore 5, 2) := by decide +kernel
theorem dc_M_sums_15 : decode cd_M_sums 15 = .ok (.iload 5, 2) := by decide +kernel
theorem dc_M_sums_17 : decode cd_M_sums 17 = .ok (.bipush 7, 2) := by decide +kernel
theorem dc_M_sums_19 : decode cd_M_sums 19 = .ok (.if_icmp .ge 84, 3) := by decide +kernel
theorem dc_M_sums_22 : decode cd_M_sums 22 = .ok (.iload_n 0, 1) := by decide +kernel
theorem dc_M_sums_23 : decode cd_M_sums 23 = .ok (.iload 4, 2) := by decide +kernel
theorem dc_M_sums_25 : decode cd_M_sums 25 = .ok (.ishr, 1) := by decide +kernel
theorem dc_M_sums_26 : decode cd_M_sums 26 = .ok (.iconst 1, 1) := by decide +kernel
theorem dc_M_sums_27 : decode cd_M_sums 27 = .ok (.iand, 1) := by decide +kernel
theorem dc_M_sums_28 : decode cd_M_sums 28 = .ok (.iconst 1, 1) := by decide +kernel
theorem dc_M_sums_29 : decode cd_M_sums 29 = .ok (.if_icmp .ne 17, 3) := by decide +kernel
theorem dc_M_sums_32 : decode cd_M_sums 32 = .ok (.iload_n 1, 1) := by decide +kernel
theorem dc_M_sums_33 : decode cd_M_sums 33 = .ok (.iload 5, 2) := by decide +kernel
theorem dc_M_sums_35 : decode cd_M_sums 35 = .ok (.ishr, 1) := by decide +kernel
theorem dc_M_sums_36 : decode cd_M_sums 36 = .ok (.iconst 1, 1) := by decide +kernel
theorem dc_M_sums_37 : decode cd_M_sums 37 = .ok (.iand, 1) := by decide +kernel
theorem dc_M_sums_38 : decode cd_M_sums 38 = .ok (.iconst 1, 1) := by decide +kernel
theorem dc_M_sums_39 : decode cd_M_sums 39 = .ok (.if_icmp .ne 7, 3) := by decide +kernel
theorem dc_M_sums_42 : decode cd_M_sums 42 = .ok (.iconst 1, 1) := by decide +kernel
theorem dc_M_sums_43 : decode cd_M_sums 43 = .ok (.goto 4, 3) := by decide +kernel
theorem dc_M_sums_46 : decode cd_M_sums 46 = .ok (.iconst 0, 1) := by decide +kernel
theorem dc_M_sums_47 : decode cd_M_sums 47 = .ok (.istore 6, 2) := by decide +kernel
theorem dc_M_sums_49 : decode cd_M_sums 49 = .ok (.iload 5, 2) := by decide +kernel
theorem dc_M_sums_51 : decode cd_M_sums 51 = .ok (.iconst 5, 1) := by decide +kernel
theorem dc_M_sums_52 : decode cd_M_sums 52 = .ok (.if_icmp .ne 10, 3) := by decide +kernel
theorem dc_M_sums_55 : decode cd_M_sums 55 = .ok (.iconst 1, 1) := by decide +kernel
theorem dc_M_sums_56 : decode cd_M_sums 56 = .ok (.iload 4, 2) := by decide +kernel
theorem dc_M_sums_58 : decode cd_M_sums 58 = .ok (.ishl, 1) := by decide +kernel
theorem dc_M_sums_59 : decode cd_M_sums 59 = .ok (.goto 22, 3) := by decide +kernel
theorem dc_M_sums_62 : decode cd_M_sums 62 = .ok (.iload_n 2, 1) := by decide +kernel
theorem dc_M_sums_63 : decode cd_M_sums 63 = .ok (.ifCond .eq 16, 3) := by decide +kernel
theorem dc_M_sums_66 : decode cd_M_sums 66 = .ok (.iload 4, 2) := by decide +kernel
theorem dc_M_sums_68 : decode cd_M_sums 68 = .ok (.iconst 5, 1) := by decide +kernel
theorem dc_M_sums_69 : decode cd_M_sums 69 = .ok (.if_icmp .ne 10, 3) := by decide +kernel
theorem dc_M_sums_72 : decode cd_M_sums 72 = .ok (.iconst 1, 1) := by decide +kernel
theorem dc_M_sums_73 : decode cd_M_sums 73 = .ok (.iload 5, 2) := by decide +kernel
theorem dc_M_sums_75 : decode cd_M_sums 75 = .ok (.ishl, 1) := by decide +kernel
theorem dc_M_sums_76 : decode cd_M_sums 76 = .ok (.goto 5, 3) := by decide +kernel
theorem dc_M_sums_79 : decode cd_M_sums 79 = .ok (.bipush 112, 2) := by decide +kernel
theorem dc_M_sums_81 : decode cd_M_sums 81 = .ok (.istore 7, 2) := by decide +kernel
theorem dc_M_sums_83 : decode cd_M_sums 83 = .ok (.iload_n 3, 1) := by decide +kernel
theorem dc_M_sums_84 : decode cd_M_sums 84 = .ok (.iload 6, 2) := by decide +kernel
theorem dc_M_sums_86 : decode cd_M_sums 86 = .ok (.ifCond .eq 8, 3) := by decide +kernel
theorem dc_M_sums_89 : decode cd_M_sums 89 = .ok (.iload 7, 2) := by decide +kernel
theorem dc_M_sums_91 : decode cd_M_sums 91 = .ok (.goto 4, 3) := by decide +kernel
theorem dc_M_sums_94 : decode cd_M_sums 94 = .ok (.iconst 0, 1) := by decide +kernel
theorem dc_M_sums_95 : decode cd_M_sums 95 = .ok (.ior, 1) := by decide +kernel
theorem dc_M_sums_96 : decode cd_M_sums 96 = .ok (.istore_n 3, 1) := by decide +kernel
theorem dc_M_sums_97 : decode cd_M_sums 97 = .ok (.iinc 5 1, 3) := by decide +kernel
theorem dc_M_sums_100 : decode cd_M_sums 100 = .ok (.goto (-85), 3) := by decide +kernel
theorem dc_M_sums_103 : decode cd_M_sums 103 = .ok (.iinc 4 1, 3) := by decide +kernel
theorem dc_M_sums_106 : decode cd_M_sums 106 = .ok (.goto (-101), 3) := by decide +kernel
theorem dc_M_sums_109 : decode cd_M_sums 109 = .ok (.iload_n 3, 1) := by decide +kernel
theorem dc_M_sums_110 : decode cd_M_sums 110 = .ok (.ireturn, 1) := by decide +kernel
theorem dc_M_called_0 : decode cd_M_called 0 = .ok (.iload_n 2, 1) := by decide +kernel
theorem dc_M_called_1 : decode cd_M_called 1 = .ok (.aload_n 0, 1) := by decide +kernel
theorem dc_M_called_2 : decode cd_M_called 2 = .ok (.getfield 34, 3) := by decide +kernel
theorem dc_M_called_5 : decode cd_M_called 5 = .ok (.iconst 2, 1) := by decide +kernel
theorem dc_M_called_6 : decode cd_M_called 6 = .ok (.iload_n 1, 1) := by decide +kernel
theorem dc_M_called_7 : decode cd_M_called 7 = .ok (.imul, 1) := by decide +kernel
theorem dc_M_called_8 : decode cd_M_called 8 = .ok (.iaload, 1) := by decide +kernel
theorem dc_M_called_9 : decode cd_M_called 9 = .ok (.iand, 1) := by decide +kernel
theorem dc_M_called_10 : decode cd_M_called 10 = .ok (.ifCond .eq 26, 3) := by decide +kernel
theorem dc_M_called_13 : decode cd_M_called 13 = .ok (.iload_n 1, 1) := by decide +kernel
theorem dc_M_called_14 : decode cd_M_called 14 = .ok (.invokestatic 91, 3) := by decide +kernel
theorem dc_M_called_17 : decode cd_M_called 17 = .ok (.iconst 2, 1) := by decide +kernel
theorem dc_M_called_18 : decode cd_M_called 18 = .ok (.if_icmp .ne 22, 3) := by decide +kernel
theorem dc_M_called_21 : decode cd_M_called 21 = .ok (.iload_n 3, 1) := by decide +kernel
theorem dc_M_called_22 : decode cd_M_called 22 = .ok (.aload_n 0, 1) := by decide +kernel
theorem dc_M_called_23 : decode cd_M_called 23 = .ok (.getfield 34, 3) := by decide +kernel
theorem dc_M_called_26 : decode cd_M_called 26 = .ok (.iconst 2, 1) := by decide +kernel
theorem dc_M_called_27 : decode cd_M_called 27 = .ok (.iload_n 1, 1) := by decide +kernel
theorem dc_M_called_28 : decode cd_M_called 28 = .ok (.imul, 1) := by decide +kernel
theorem dc_M_called_29 : decode cd_M_called 29 = .ok (.iconst 1, 1) := by decide +kernel
theorem dc_M_called_30 : decode cd_M_called 30 = .ok (.iadd, 1) := by decide +kernel
theorem dc_M_called_31 : decode cd_M_called 31 = .ok (.iaload, 1) := by decide +kernel
theorem dc_M_called_32 : decode cd_M_called 32 = .ok (.iand, 1) := by decide +kernel
theorem dc_M_called_33 : decode cd_M_called 33 = .ok (.ifCond .ne 7, 3) := by decide +kernel
theorem dc_M_called_36 : decode cd_M_called 36 = .ok (.iconst 1, 1) := by decide +kernel
theorem dc_M_called_37 : decode cd_M_called 37 = .ok (.goto 4, 3) := by decide +kernel
theorem dc_M_called_40 : decode cd_M_called 40 = .ok (.iconst 0, 1) := by decide +kernel
theorem dc_M_called_41 : decode cd_M_called 41 = .ok (.istore 4, 2) := by decide +kernel
theorem dc_M_called_43 : decode cd_M_called 43 = .ok (.iload 4, 2) := by decide +kernel
theorem dc_M_called_45 : decode cd_M_called 45 = .ok (.ifCond .eq 7, 3) := by decide +kernel
theorem dc_M_called_48 : decode cd_M_called 48 = .ok (.iconst 0, 1) := by decide +kernel
theorem dc_M_called_49 : decode cd_M_called 49 = .ok (.goto 9, 3) := by decide +kernel
theorem dc_M_called_52 : decode cd_M_called 52 = .ok (.aload_n 0, 1) := by decide +kernel
theorem dc_M_called_53 : decode cd_M_called 53 = .ok (.getfield 37, 3) := by decide +kernel
theorem dc_M_called_56 : decode cd_M_called 56 = .ok (.iload_n 1, 1) := by decide +kernel
theorem dc_M_called_57 : decode cd_M_called 57 = .ok (.iaload, 1) := by decide +kernel
theorem dc_M_called_58 : decode cd_M_called 58 = .ok (.ireturn, 1) := by decide +kernel
theorem dc_M_gives_0 : decode cd_M_gives 0 = .ok (.aload_n 0, 1) := by decide +kernel
theorem dc_M_gives_1 : decode cd_M_gives 1 = .ok (.iload_n 1, 1) := by decide +kernel
theorem dc_M_gives_2 : decode cd_M_gives 2 = .ok (.iconst 5, 1) := by decide +kernel
theorem dc_M_gives_3 : decode cd_M_gives 3 = .ok (.invokestatic 87, 3) := by decide +kernel
theorem dc_M_gives_6 : decode cd_M_gives 6 = .ok (.ifCond .eq 7, 3) := by decide +kernel
theorem dc_M_gives_9 : decode cd_M_gives 9 = .ok (.iconst 1, 1) := by decide +kernel
theorem dc_M_gives_10 : decode cd_M_gives 10 = .ok (.goto 4, 3) := by decide +kernel
theorem dc_M_gives_13 : decode cd_M_gives 13 = .ok (.iconst 0, 1) := by decide +kernel
theorem dc_M_gives_14 : decode cd_M_gives 14 = .ok (.putfield 80, 3) := by decide +kernel
theorem dc_M_gives_17 : decode cd_M_gives 17 = .ok (.aload_n 0, 1) := by decide +kernel
theorem dc_M_gives_18 : decode cd_M_gives 18 = .ok (.getfield 80, 3) := by decide +kernel
theorem dc_M_gives_21 : decode cd_M_gives 21 = .ok (.ifCond .eq 5, 3) := by decide +kernel
theorem dc_M_gives_24 : decode cd_M_gives 24 = .ok (.iconst 0, 1) := by decide +kernel
theorem dc_M_gives_25 : decode cd_M_gives 25 = .ok (.ireturn, 1) := by decide +kernel
theorem dc_M_gives_26 : decode cd_M_gives 26 = .ok (.aload_n 0, 1) := by decide +kernel
theorem dc_M_gives_27 : decode cd_M_gives 27 = .ok (.invokevirtual 155, 3) := by decide +kernel
theorem dc_M_gives_30 : decode cd_M_gives 30 = .ok (.aload_n 0, 1) := by decide +kernel
theorem dc_M_gives_31 : decode cd_M_gives 31 = .ok (.getfield 37, 3) := by decide +kernel
theorem dc_M_gives_34 : decode cd_M_gives 34 = .ok (.iload_n 1, 1) := by decide +kernel
theorem dc_M_gives_35 : decode cd_M_gives 35 = .ok (.iaload, 1) := by decide +kernel
theorem dc_M_gives_36 : decode cd_M_gives 36 = .ok (.ireturn, 1) := by decide +kernel
theorem dc_M_hopeless_0 : decode cd_M_hopeless 0 = .ok (.aload_n 0, 1) := by decide +kernel
theorem dc_M_hopeless_1 : decode cd_M_hopeless 1 = .ok (.iload_n 1, 1) := by decide +kernel
theorem dc_M_hopeless_2 : decode cd_M_hopeless 2 = .ok (.iconst 5, 1) := by decide +kernel
theorem dc_M_hopeless_3 : decode cd_M_hopeless 3 = .ok (.invokestatic 87, 3) := by decide +kernel
theorem dc_M_hopeless_6 : decode cd_M_hopeless 6 = .ok (.ifCond .eq 7, 3) := by decide +kernel
theorem dc_M_hopeless_9 : decode cd_M_hopeless 9 = .ok (.iconst 1, 1) := by decide +kernel
theorem dc_M_hopeless_10 : decode cd_M_hopeless 10 = .ok (.goto 4, 3) := by decide +kernel
theorem dc_M_hopeless_13 : decode cd_M_hopeless 13 = .ok (.iconst 0, 1) := by decide +kernel
theorem dc_M_hopeless_14 : decode cd_M_hopeless 14 = .ok (.putfield 80, 3) := by decide +kernel
theorem dc_M_hopeless_17 : decode cd_M_hopeless 17 = .ok (.aload_n 0, 1) := by decide +kernel
theorem dc_M_hopeless_18 : decode cd_M_hopeless 18 = .ok (.getfield 80, 3) := by decide +kernel
theorem dc_M_hopeless_21 : decode cd_M_hopeless 21 = .ok (.ifCond .eq 5, 3) := by decide +kernel
theorem dc_M_hopeless_24 : decode cd_M_hopeless 24 = .ok (.iconst 0, 1) := by decide +kernel
theorem dc_M_hopeless_25 : decode cd_M_hopeless 25 = .ok (.ireturn, 1) := by decide +kernel
theorem dc_M_hopeless_26 : decode cd_M_hopeless 26 = .ok (.aload_n 0, 1) := by decide +kernel
theorem dc_M_hopeless_27 : decode cd_M_hopeless 27 = .ok (.iload_n 1, 1) := by decide +kernel
theorem dc_M_hopeless_28 : decode cd_M_hopeless 28 = .ok (.invokevirtual 158, 3) := by decide +kernel
theorem dc_M_hopeless_31 : decode cd_M_hopeless 31 = .ok (.iconst 0, 1) := by decide +kernel
theorem dc_M_hopeless_32 : decode cd_M_hopeless 32 = .ok (.istore_n 2, 1) := by decide +kernel
theorem dc_M_hopeless_33 : decode cd_M_hopeless 33 = .ok (.iconst 0, 1) := by decide +kernel
theorem dc_M_hopeless_34 : decode cd_M_hopeless 34 = .ok (.istore_n 3, 1) := by decide +kernel
theorem dc_M_hopeless_35 : decode cd_M_hopeless 35 = .ok (.iload_n 3, 1) := by decide +kernel
theorem dc_M_hopeless_36 : decode cd_M_hopeless 36 = .ok (.aload_n 0, 1) := by decide +kernel
theorem dc_M_hopeless_37 : decode cd_M_hopeless 37 = .ok (.getfield 84, 3) := by decide +kernel
theorem dc_M_hopeless_40 : decode cd_M_hopeless 40 = .ok (.if_icmp .ge 46, 3) := by decide +kernel
theorem dc_M_hopeless_43 : decode cd_M_hopeless 43 = .ok (.aload_n 0, 1) := by decide +kernel
theorem dc_M_hopeless_44 : decode cd_M_hopeless 44 = .ok (.getfield 7, 3) := by decide +kernel
theorem dc_M_hopeless_47 : decode cd_M_hopeless 47 = .ok (.iload_n 3, 1) := by decide +kernel
theorem dc_M_hopeless_48 : decode cd_M_hopeless 48 = .ok (.iaload, 1) := by decide +kernel
theorem dc_M_hopeless_49 : decode cd_M_hopeless 49 = .ok (.bipush 10, 2) := by decide +kernel
theorem dc_M_hopeless_51 : decode cd_M_hopeless 51 = .ok (.if_icmp .ne 27, 3) := by decide +kernel
theorem dc_M_hopeless_54 : decode cd_M_hopeless 54 = .ok (.aload_n 0, 1) := by decide +kernel
theorem dc_M_hopeless_55 : decode cd_M_hopeless 55 = .ok (.getfield 40, 3) := by decide +kernel
theorem dc_M_hopeless_58 : decode cd_M_hopeless 58 = .ok (.iload_n 3, 1) := by decide +kernel
theorem dc_M_hopeless_59 : decode cd_M_hopeless 59 = .ok (.baload, 1) := by decide +kernel
theorem dc_M_hopeless_60 : decode cd_M_hopeless 60 = .ok (.ifCond .eq 18, 3) := by decide +kernel
theorem dc_M_hopeless_63 : decode cd_M_hopeless 63 = .ok (.aload_n 0, 1) := by decide +kernel
theorem dc_M_hopeless_64 : decode cd_M_hopeless 64 = .ok (.getfield 44, 3) := by decide +kernel
theorem dc_M_hopeless_67 : decode cd_M_hopeless 67 = .ok (.iload_n 3, 1) := by decide +kernel
theorem dc_M_hopeless_68 : decode cd_M_hopeless 68 = .ok (.baload, 1) := by decide +kernel
theorem dc_M_hopeless_69 : decode cd_M_hopeless 69 = .ok (.ifCond .ne 9, 3) := by decide +kernel
theorem dc_M_hopeless_72 : decode cd_M_hopeless 72 = .ok (.iload_n 2, 1) := by decide +kernel
theorem dc_M_hopeless_73 : decode cd_M_hopeless 73 = .ok (.iconst 1, 1) := by decide +kernel
theorem dc_M_hopeless_74 : decode cd_M_hopeless 74 = .ok (.iadd, 1) := by decide +kernel
theorem dc_M_hopeless_75 : decode cd_M_hopeless 75 = .ok (.goto 4, 3) := by decide +kernel
theorem dc_M_hopeless_78 : decode cd_M_hopeless 78 = .ok (.iload_n 2, 1) := by decide +kernel
theorem dc_M_hopeless_79 : decode cd_M_hopeless 79 = .ok (.istore_n 2, 1) := by decide +kernel
theorem dc_M_hopeless_80 : decode cd_M_hopeless 80 = .ok (.iinc 3 1, 3) := by decide +kernel
theorem dc_M_hopeless_83 : decode cd_M_hopeless 83 = .ok (.goto (-48), 3) := by decide +kernel
theorem dc_M_hopeless_86 : decode cd_M_hopeless 86 = .ok (.iload_n 2, 1) := by decide +kernel
theorem dc_M_hopeless_87 : decode cd_M_hopeless 87 = .ok (.ireturn, 1) := by decide +kernel
theorem dc_M_walk_0 : decode cd_M_walk 0 = .ok (.aload_n 0, 1) := by decide +kernel
theorem dc_M_walk_1 : decode cd_M_walk 1 = .ok (.invokevirtual 155, 3) := by decide +kernel
theorem dc_M_walk_4 : decode cd_M_walk 4 = .ok (.iconst 0, 1) := by decide +kernel
theorem dc_M_walk_5 : decode cd_M_walk 5 = .ok (.istore_n 2, 1) := by decide +kernel
theorem dc_M_walk_6 : decode cd_M_walk 6 = .ok (.iload_n 2, 1) := by decide +kernel
theorem dc_M_walk_7 : decode cd_M_walk 7 = .ok (.bipush 90, 2) := by decide +kernel
theorem dc_M_walk_9 : decode cd_M_walk 9 = .ok (.if_icmp .ge 23, 3) := by decide +kernel
theorem dc_M_walk_12 : decode cd_M_walk 12 = .ok (.aload_n 0, 1) := by decide +kernel
theorem dc_M_walk_13 : decode cd_M_walk 13 = .ok (.getfield 40, 3) := by decide +kernel
theorem dc_M_walk_16 : decode cd_M_walk 16 = .ok (.iload_n 2, 1) := by decide +kernel
theorem dc_M_walk_17 : decode cd_M_walk 17 = .ok (.iconst 0, 1) := by decide +kernel
theorem dc_M_walk_18 : decode cd_M_walk 18 = .ok (.bastore, 1) := by decide +kernel
theorem dc_M_walk_19 : decode cd_M_walk 19 = .ok (.aload_n 0, 1) := by decide +kernel
theorem dc_M_walk_20 : decode cd_M_walk 20 = .ok (.getfield 44, 3) := by decide +kernel
theorem dc_M_walk_23 : decode cd_M_walk 23 = .ok (.iload_n 2, 1) := by decide +kernel
theorem dc_M_walk_24 : decode cd_M_walk 24 = .ok (.iconst 0, 1) := by decide +kernel
theorem dc_M_walk_25 : decode cd_M_walk 25 = .ok (.bastore, 1) := by decide +kernel
theorem dc_M_walk_26 : decode cd_M_walk 26 = .ok (.iinc 2 1, 3) := by decide +kernel
theorem dc_M_walk_29 : decode cd_M_walk 29 = .ok (.goto (-23), 3) := by decide +kernel
theorem dc_M_walk_32 : decode cd_M_walk 32 = .ok (.aload_n 0, 1) := by decide +kernel
theorem dc_M_walk_33 : decode cd_M_walk 33 = .ok (.getfield 31, 3) := by decide +kernel
theorem dc_M_walk_36 : decode cd_M_walk 36 = .ok (.iload_n 1, 1) := by decide +kernel
theorem dc_M_walk_37 : decode cd_M_walk 37 = .ok (.iaload, 1) := by decide +kernel
theorem dc_M_walk_38 : decode cd_M_walk 38 = .ok (.ifCond .lt 15, 3) := by decide +kernel
theorem dc_M_walk_41 : decode cd_M_walk 41 = .ok (.aload_n 0, 1) := by decide +kernel
theorem dc_M_walk_42 : decode cd_M_walk 42 = .ok (.iload_n 1, 1) := by decide +kernel
theorem dc_M_walk_43 : decode cd_M_walk 43 = .ok (.sipush 511, 3) := by decide +kernel
theorem dc_M_walk_46 : decode cd_M_walk 46 = .ok (.sipush 511, 3) := by decide +kernel
theorem dc_M_walk_49 : decode cd_M_walk 49 = .ok (.invokevirtual 149, 3) := by decide +kernel
theorem dc_M_walk_52 : decode cd_M_walk 52 = .ok (.istore_n 2, 1) := by decide +kernel
theorem dc_M_walk_53 : decode cd_M_walk 53 = .ok (.return_, 1) := by decide +kernel
theorem dc_M_isHopeless_0 : decode cd_M_isHopeless 0 = .ok (.aload_n 0, 1) := by decide +kernel
theorem dc_M_isHopeless_1 : decode cd_M_isHopeless 1 = .ok (.iload_n 1, 1) := by decide +kernel
theorem dc_M_isHopeless_2 : decode cd_M_isHopeless 2 = .ok (.iconst 5, 1) := by decide +kernel
theorem dc_M_isHopeless_3 : decode cd_M_isHopeless 3 = .ok (.invokestatic 87, 3) := by decide +kernel
theorem dc_M_isHopeless_6 : decode cd_M_isHopeless 6 = .ok (.ifCond .ne 11, 3) := by decide +kernel
theorem dc_M_isHopeless_9 : decode cd_M_isHopeless 9 = .ok (.aload_n 0, 1) := by decide +kernel
theorem dc_M_isHopeless_10 : decode cd_M_isHopeless 10 = .ok (.iload_n 2, 1) := by decide +kernel
theorem dc_M_isHopeless_11 : decode cd_M_isHopeless 11 = .ok (.invokevirtual 107, 3) := by decide +kernel
theorem dc_M_isHopeless_14 : decode cd_M_isHopeless 14 = .ok (.ifCond .ne 7, 3) := by decide +kernel
theorem dc_M_isHopeless_17 : decode cd_M_isHopeless 17 = .ok (.iconst 1, 1) := by decide +kernel
theorem dc_M_isHopeless_18 : decode cd_M_isHopeless 18 = .ok (.goto 4, 3) := by decide +kernel
theorem dc_M_isHopeless_21 : decode cd_M_isHopeless 21 = .ok (.iconst 0, 1) := by decide +kernel
theorem dc_M_isHopeless_22 : decode cd_M_isHopeless 22 = .ok (.putfield 80, 3) := by decide +kernel
theorem dc_M_isHopeless_25 : decode cd_M_isHopeless 25 = .ok (.aload_n 0, 1) := by decide +kernel
theorem dc_M_isHopeless_26 : decode cd_M_isHopeless 26 = .ok (.getfield 80, 3) := by decide +kernel
theorem dc_M_isHopeless_29 : decode cd_M_isHopeless 29 = .ok (.ifCond .eq 5, 3) := by decide +kernel
theorem dc_M_isHopeless_32 : decode cd_M_isHopeless 32 = .ok (.iconst 0, 1) := by decide +kernel
theorem dc_M_isHopeless_33 : decode cd_M_isHopeless 33 = .ok (.ireturn, 1) := by decide +kernel
theorem dc_M_isHopeless_34 : decode cd_M_isHopeless 34 = .ok (.aload_n 0, 1) := by decide +kernel
theorem dc_M_isHopeless_35 : decode cd_M_isHopeless 35 = .ok (.iload_n 1, 1) := by decide +kernel
theorem dc_M_isHopeless_36 : decode cd_M_isHopeless 36 = .ok (.invokevirtual 158, 3) := by decide +kernel
theorem dc_M_isHopeless_39 : decode cd_M_isHopeless 39 = .ok (.aload_n 0, 1) := by decide +kernel
theorem dc_M_isHopeless_40 : decode cd_M_isHopeless 40 = .ok (.getfield 7, 3) := by decide +kernel
theorem dc_M_isHopeless_43 : decode cd_M_isHopeless 43 = .ok (.iload_n 2, 1) := by decide +kernel
theorem dc_M_isHopeless_44 : decode cd_M_isHopeless 44 = .ok (.iaload, 1) := by decide +kernel
theorem dc_M_isHopeless_45 : decode cd_M_isHopeless 45 = .ok (.bipush 10, 2) := by decide +kernel
theorem dc_M_isHopeless_47 : decode cd_M_isHopeless 47 = .ok (.if_icmp .ne 25, 3) := by decide +kernel
theorem dc_M_isHopeless_50 : decode cd_M_isHopeless 50 = .ok (.aload_n 0, 1) := by decide +kernel
theorem dc_M_isHopeless_51 : decode cd_M_isHopeless 51 = .ok (.getfield 40, 3) := by decide +kernel
theorem dc_M_isHopeless_54 : decode cd_M_isHopeless 54 = .ok (.iload_n 2, 1) := by decide +kernel
theorem dc_M_isHopeless_55 : decode cd_M_isHopeless 55 = .ok (.baload, 1) := by decide +kernel
theorem dc_M_isHopeless_56 : decode cd_M_isHopeless 56 = .ok (.ifCond .eq 16, 3) := by decide +kernel
theorem dc_M_isHopeless_59 : decode cd_M_isHopeless 59 = .ok (.aload_n 0, 1) := by decide +kernel
theorem dc_M_isHopeless_60 : decode cd_M_isHopeless 60 = .ok (.getfield 44, 3) := by decide +kernel
theorem dc_M_isHopeless_63 : decode cd_M_isHopeless 63 = .ok (.iload_n 2, 1) := by decide +kernel
theorem dc_M_isHopeless_64 : decode cd_M_isHopeless 64 = .ok (.baload, 1) := by decide +kernel
theorem dc_M_isHopeless_65 : decode cd_M_isHopeless 65 = .ok (.ifCond .ne 7, 3) := by decide +kernel
theorem dc_M_isHopeless_68 : decode cd_M_isHopeless 68 = .ok (.iconst 1, 1) := by decide +kernel
theorem dc_M_isHopeless_69 : decode cd_M_isHopeless 69 = .ok (.goto 4, 3) := by decide +kernel
theorem dc_M_isHopeless_72 : decode cd_M_isHopeless 72 = .ok (.iconst 0, 1) := by decide +kernel
theorem dc_M_isHopeless_73 : decode cd_M_isHopeless 73 = .ok (.ireturn, 1) := by decide +kernel
theorem dc_M_run_0 : decode cd_M_run 0 = .ok (.iload_n 1, 1) := by decide +kernel
theorem dc_M_run_1 : decode cd_M_run 1 = .ok (.iconst 5, 1) := by decide +kernel
theorem dc_M_run_2 : decode cd_M_run 2 = .ok (.invokestatic 87, 3) := by decide +kernel
theorem dc_M_run_5 : decode cd_M_run 5 = .ok (.ifCond .ne 27, 3) := by decide +kernel
theorem dc_M_run_8 : decode cd_M_run 8 = .ok (.aload_n 0, 1) := by decide +kernel
theorem dc_M_run_9 : decode cd_M_run 9 = .ok (.iload_n 2, 1) := by decide +kernel
theorem dc_M_run_10 : decode cd_M_run 10 = .ok (.invokevirtual 107, 3) := by decide +kernel
theorem dc_M_run_13 : decode cd_M_run 13 = .ok (.ifCond .eq 19, 3) := by decide +kernel
theorem dc_M_run_16 : decode cd_M_run 16 = .ok (.iload_n 1, 1) := by decide +kernel
theorem dc_M_run_17 : decode cd_M_run 17 = .ok (.invokestatic 91, 3) := by decide +kernel
theorem dc_M_run_20 : decode cd_M_run 20 = .ok (.iconst 2, 1) := by decide +kernel
theorem dc_M_run_21 : decode cd_M_run 21 = .ok (.if_icmp .ne 15, 3) := by decide +kernel
theorem dc_M_run_24 : decode cd_M_run 24 = .ok (.aload_n 0, 1) := by decide +kernel
theorem dc_M_run_25 : decode cd_M_run 25 = .ok (.iload_n 3, 1) := by decide +kernel
theorem dc_M_run_26 : decode cd_M_run 26 = .ok (.invokevirtual 107, 3) := by decide +kernel
theorem dc_M_run_29 : decode cd_M_run 29 = .ok (.ifCond .ne 7, 3) := by decide +kernel
theorem dc_M_run_32 : decode cd_M_run 32 = .ok (.iconst 1, 1) := by decide +kernel
theorem dc_M_run_33 : decode cd_M_run 33 = .ok (.goto 4, 3) := by decide +kernel
theorem dc_M_run_36 : decode cd_M_run 36 = .ok (.iconst 0, 1) := by decide +kernel
theorem dc_M_run_37 : decode cd_M_run 37 = .ok (.istore 4, 2) := by decide +kernel
theorem dc_M_run_39 : decode cd_M_run 39 = .ok (.aload_n 0, 1) := by decide +kernel
theorem dc_M_run_40 : decode cd_M_run 40 = .ok (.iload 4, 2) := by decide +kernel
theorem dc_M_run_42 : decode cd_M_run 42 = .ok (.ifCond .eq 7, 3) := by decide +kernel
theorem dc_M_run_45 : decode cd_M_run 45 = .ok (.iconst 1, 1) := by decide +kernel
theorem dc_M_run_46 : decode cd_M_run 46 = .ok (.goto 4, 3) := by decide +kernel
theorem dc_M_run_49 : decode cd_M_run 49 = .ok (.iconst 0, 1) := by decide +kernel
theorem dc_M_run_50 : decode cd_M_run 50 = .ok (.putfield 80, 3) := by decide +kernel
theorem dc_M_run_53 : decode cd_M_run 53 = .ok (.iload 4, 2) := by decide +kernel
theorem dc_M_run_55 : decode cd_M_run 55 = .ok (.ifCond .eq 5, 3) := by decide +kernel
theorem dc_M_run_58 : decode cd_M_run 58 = .ok (.iconst 0, 1) := by decide +kernel
theorem dc_M_run_59 : decode cd_M_run 59 = .ok (.ireturn, 1) := by decide +kernel
theorem dc_M_run_60 : decode cd_M_run 60 = .ok (.aload_n 0, 1) := by decide +kernel
theorem dc_M_run_61 : decode cd_M_run 61 = .ok (.iconst 0, 1) := by decide +kernel
theorem dc_M_run_62 : decode cd_M_run 62 = .ok (.putfield 161, 3) := by decide +kernel
theorem dc_M_run_65 : decode cd_M_run 65 = .ok (.aload_n 0, 1) := by decide +kernel
theorem dc_M_run_66 : decode cd_M_run 66 = .ok (.iconst 0, 1) := by decide +kernel
theorem dc_M_run_67 : decode cd_M_run 67 = .ok (.putfield 174, 3) := by decide +kernel
theorem dc_M_run_70 : decode cd_M_run 70 = .ok (.aload_n 0, 1) := by decide +kernel
theorem dc_M_run_71 : decode cd_M_run 71 = .ok (.iconst 0, 1) := by decide +kernel
theorem dc_M_run_72 : decode cd_M_run 72 = .ok (.putfield 167, 3) := by decide +kernel
theorem dc_M_run_75 : decode cd_M_run 75 = .ok (.aload_n 0, 1) := by decide +kernel
theorem dc_M_run_76 : decode cd_M_run 76 = .ok (.iconst 0, 1) := by decide +kernel
theorem dc_M_run_77 : decode cd_M_run 77 = .ok (.putfield 164, 3) := by decide +kernel
theorem dc_M_run_80 : decode cd_M_run 80 = .ok (.aload_n 0, 1) := by decide +kernel
theorem dc_M_run_81 : decode cd_M_run 81 = .ok (.iconst 0, 1) := by decide +kernel
theorem dc_M_run_82 : decode cd_M_run 82 = .ok (.putfield 180, 3) := by decide +kernel
theorem dc_M_run_85 : decode cd_M_run 85 = .ok (.aload_n 0, 1) := by decide +kernel
theorem dc_M_run_86 : decode cd_M_run 86 = .ok (.iconst 0, 1) := by decide +kernel
theorem dc_M_run_87 : decode cd_M_run 87 = .ok (.putfield 171, 3) := by decide +kernel
theorem dc_M_run_90 : decode cd_M_run 90 = .ok (.aload_n 0, 1) := by decide +kernel
theorem dc_M_run_91 : decode cd_M_run 91 = .ok (.iconst 0, 1) := by decide +kernel
theorem dc_M_run_92 : decode cd_M_run 92 = .ok (.putfield 201, 3) := by decide +kernel
theorem dc_M_run_95 : decode cd_M_run 95 = .ok (.aload_n 0, 1) := by decide +kernel
theorem dc_M_run_96 : decode cd_M_run 96 = .ok (.iconst 0, 1) := by decide +kernel
theorem dc_M_run_97 : decode cd_M_run 97 = .ok (.putfield 204, 3) := by decide +kernel
theorem dc_M_run_100 : decode cd_M_run 100 = .ok (.aload_n 0, 1) := by decide +kernel
theorem dc_M_run_101 : decode cd_M_run 101 = .ok (.iload_n 2, 1) := by decide +kernel
theorem dc_M_run_102 : decode cd_M_run 102 = .ok (.invokevirtual 235, 3) := by decide +kernel
theorem dc_M_run_105 : decode cd_M_run 105 = .ok (.istore 5, 2) := by decide +kernel
theorem dc_M_run_107 : decode cd_M_run 107 = .ok (.iconst (-1), 1) := by decide +kernel
theorem dc_M_run_108 : decode cd_M_run 108 = .ok (.istore 6, 2) := by decide +kernel
theorem dc_M_run_110 : decode cd_M_run 110 = .ok (.aload_n 0, 1) := by decide +kernel
theorem dc_M_run_111 : decode cd_M_run 111 = .ok (.getfield 174, 3) := by decide +kernel
theorem dc_M_run_114 : decode cd_M_run 114 = .ok (.ifCond .ne 25, 3) := by decide +kernel
theorem dc_M_run_117 : decode cd_M_run 117 = .ok (.aload_n 0, 1) := by decide +kernel
theorem dc_M_run_118 : decode cd_M_run 118 = .ok (.getfield 167, 3) := by decide +kernel
theorem dc_M_run_121 : decode cd_M_run 121 = .ok (.ifCond .ne 18, 3) := by decide +kernel
theorem dc_M_run_124 : decode cd_M_run 124 = .ok (.iload_n 1, 1) := by decide +kernel
theorem dc_M_run_125 : decode cd_M_run 125 = .ok (.invokestatic 91, 3) := by decide +kernel
theorem dc_M_run_128 : decode cd_M_run 128 = .ok (.iconst 2, 1) := by decide +kernel
theorem dc_M_run_129 : decode cd_M_run 129 = .ok (.if_icmp .ne 10, 3) := by decide +kernel
theorem dc_M_run_132 : decode cd_M_run 132 = .ok (.aload_n 0, 1) := by decide +kernel
theorem dc_M_run_133 : decode cd_M_run 133 = .ok (.iload_n 3, 1) := by decide +kernel
theorem dc_M_run_134 : decode cd_M_run 134 = .ok (.invokevirtual 235, 3) := by decide +kernel
theorem dc_M_run_137 : decode cd_M_run 137 = .ok (.istore 6, 2) := by decide +kernel
theorem dc_M_run_139 : decode cd_M_run 139 = .ok (.aload_n 0, 1) := by decide +kernel
theorem dc_M_run_140 : decode cd_M_run 140 = .ok (.getfield 174, 3) := by decide +kernel
theorem dc_M_run_143 : decode cd_M_run 143 = .ok (.ifCond .ne 28, 3) := by decide +kernel
theorem dc_M_run_146 : decode cd_M_run 146 = .ok (.aload_n 0, 1) := by decide +kernel
theorem dc_M_run_147 : decode cd_M_run 147 = .ok (.getfield 167, 3) := by decide +kernel
theorem dc_M_run_150 : decode cd_M_run 150 = .ok (.ifCond .ne 21, 3) := by decide +kernel
theorem dc_M_run_153 : decode cd_M_run 153 = .ok (.aload_n 0, 1) := by decide +kernel
theorem dc_M_run_154 : decode cd_M_run 154 = .ok (.iconst 0, 1) := by decide +kernel
theorem dc_M_run_155 : decode cd_M_run 155 = .ok (.putfield 111, 3) := by decide +kernel
theorem dc_M_run_158 : decode cd_M_run 158 = .ok (.aload_n 0, 1) := by decide +kernel
theorem dc_M_run_159 : decode cd_M_run 159 = .ok (.iload_n 1, 1) := by decide +kernel
theorem dc_M_run_160 : decode cd_M_run 160 = .ok (.iload 5, 2) := by decide +kernel
theorem dc_M_run_162 : decode cd_M_run 162 = .ok (.iload 6, 2) := by decide +kernel
theorem dc_M_run_164 : decode cd_M_run 164 = .ok (.invokevirtual 210, 3) := by decide +kernel
theorem dc_M_run_167 : decode cd_M_run 167 = .ok (.aload_n 0, 1) := by decide +kernel
theorem dc_M_run_168 : decode cd_M_run 168 = .ok (.invokevirtual 229, 3) := by decide +kernel
theorem dc_M_run_171 : decode cd_M_run 171 = .ok (.aload_n 0, 1) := by decide +kernel
theorem dc_M_run_172 : decode cd_M_run 172 = .ok (.aload_n 0, 1) := by decide +kernel
theorem dc_M_run_173 : decode cd_M_run 173 = .ok (.getfield 167, 3) := by decide +kernel
theorem dc_M_run_176 : decode cd_M_run 176 = .ok (.ifCond .eq 7, 3) := by decide +kernel
theorem dc_M_run_179 : decode cd_M_run 179 = .ok (.iconst 3, 1) := by decide +kernel
theorem dc_M_run_180 : decode cd_M_run 180 = .ok (.goto 15, 3) := by decide +kernel
theorem dc_M_run_183 : decode cd_M_run 183 = .ok (.aload_n 0, 1) := by decide +kernel
theorem dc_M_run_184 : decode cd_M_run 184 = .ok (.getfield 174, 3) := by decide +kernel
theorem dc_M_run_187 : decode cd_M_run 187 = .ok (.ifCond .eq 7, 3) := by decide +kernel
theorem dc_M_run_190 : decode cd_M_run 190 = .ok (.iconst 2, 1) := by decide +kernel
theorem dc_M_run_191 : decode cd_M_run 191 = .ok (.goto 4, 3) := by decide +kernel
theorem dc_M_run_194 : decode cd_M_run 194 = .ok (.iconst 0, 1) := by decide +kernel
theorem dc_M_run_195 : decode cd_M_run 195 = .ok (.putfield 80, 3) := by decide +kernel
theorem dc_M_run_198 : decode cd_M_run 198 = .ok (.aload_n 0, 1) := by decide +kernel
theorem dc_M_run_199 : decode cd_M_run 199 = .ok (.getfield 80, 3) := by decide +kernel
theorem dc_M_run_202 : decode cd_M_run 202 = .ok (.ifCond .eq 5, 3) := by decide +kernel
theorem dc_M_run_205 : decode cd_M_run 205 = .ok (.iconst 0, 1) := by decide +kernel
theorem dc_M_run_206 : decode cd_M_run 206 = .ok (.ireturn, 1) := by decide +kernel
theorem dc_M_run_207 : decode cd_M_run 207 = .ok (.aload_n 0, 1) := by decide +kernel
theorem dc_M_run_208 : decode cd_M_run 208 = .ok (.aload_n 0, 1) := by decide +kernel
theorem dc_M_run_209 : decode cd_M_run 209 = .ok (.getfield 125, 3) := by decide +kernel
theorem dc_M_run_212 : decode cd_M_run 212 = .ok (.invokevirtual 238, 3) := by decide +kernel
theorem dc_M_run_215 : decode cd_M_run 215 = .ok (.aload_n 0, 1) := by decide +kernel
theorem dc_M_run_216 : decode cd_M_run 216 = .ok (.getfield 59, 3) := by decide +kernel
theorem dc_M_run_219 : decode cd_M_run 219 = .ok (.aload_n 0, 1) := by decide +kernel
theorem dc_M_run_220 : decode cd_M_run 220 = .ok (.getfield 125, 3) := by decide +kernel
theorem dc_M_run_223 : decode cd_M_run 223 = .ok (.iaload, 1) := by decide +kernel
theorem dc_M_run_224 : decode cd_M_run 224 = .ok (.ireturn, 1) := by decide +kernel
theorem dc_M_worked_0 : decode cd_M_worked 0 = .ok (.aload_n 0, 1) := by decide +kernel
theorem dc_M_worked_1 : decode cd_M_worked 1 = .ok (.iconst 0, 1) := by decide +kernel
theorem dc_M_worked_2 : decode cd_M_worked 2 = .ok (.putfield 111, 3) := by decide +kernel
theorem dc_M_worked_5 : decode cd_M_worked 5 = .ok (.aload_n 0, 1) := by decide +kernel
theorem dc_M_worked_6 : decode cd_M_worked 6 = .ok (.iload_n 1, 1) := by decide +kernel
theorem dc_M_worked_7 : decode cd_M_worked 7 = .ok (.invokevirtual 207, 3) := by decide +kernel
theorem dc_M_worked_10 : decode cd_M_worked 10 = .ok (.iconst 0, 1) := by decide +kernel
theorem dc_M_worked_11 : decode cd_M_worked 11 = .ok (.istore_n 2, 1) := by decide +kernel
theorem dc_M_worked_12 : decode cd_M_worked 12 = .ok (.iload_n 2, 1) := by decide +kernel
theorem dc_M_worked_13 : decode cd_M_worked 13 = .ok (.iconst 4, 1) := by decide +kernel
theorem dc_M_worked_14 : decode cd_M_worked 14 = .ok (.if_icmp .ge 23, 3) := by decide +kernel
theorem dc_M_worked_17 : decode cd_M_worked 17 = .ok (.aload_n 0, 1) := by decide +kernel
theorem dc_M_worked_18 : decode cd_M_worked 18 = .ok (.getfield 167, 3) := by decide +kernel
theorem dc_M_worked_21 : decode cd_M_worked 21 = .ok (.ifCond .ne 16, 3) := by decide +kernel
theorem dc_M_worked_24 : decode cd_M_worked 24 = .ok (.aload_n 0, 1) := by decide +kernel
theorem dc_M_worked_25 : decode cd_M_worked 25 = .ok (.getfield 53, 3) := by decide +kernel
theorem dc_M_worked_28 : decode cd_M_worked 28 = .ok (.iload_n 2, 1) := by decide +kernel
theorem dc_M_worked_29 : decode cd_M_worked 29 = .ok (.iconst (-1), 1) := by decide +kernel
theorem dc_M_worked_30 : decode cd_M_worked 30 = .ok (.iastore, 1) := by decide +kernel
theorem dc_M_worked_31 : decode cd_M_worked 31 = .ok (.iinc 2 1, 3) := by decide +kernel
theorem dc_M_worked_34 : decode cd_M_worked 34 = .ok (.goto (-22), 3) := by decide +kernel
theorem dc_M_worked_37 : decode cd_M_worked 37 = .ok (.aload_n 0, 1) := by decide +kernel
theorem dc_M_worked_38 : decode cd_M_worked 38 = .ok (.invokevirtual 229, 3) := by decide +kernel
theorem dc_M_worked_41 : decode cd_M_worked 41 = .ok (.aload_n 0, 1) := by decide +kernel
theorem dc_M_worked_42 : decode cd_M_worked 42 = .ok (.getfield 125, 3) := by decide +kernel
theorem dc_M_worked_45 : decode cd_M_worked 45 = .ok (.ireturn, 1) := by decide +kernel
theorem dc_M_work_0 : decode cd_M_work 0 = .ok (.aload_n 0, 1) := by decide +kernel
theorem dc_M_work_1 : decode cd_M_work 1 = .ok (.getfield 164, 3) := by decide +kernel
theorem dc_M_work_4 : decode cd_M_work 4 = .ok (.sipush 200, 3) := by decide +kernel
theorem dc_M_work_7 : decode cd_M_work 7 = .ok (.if_icmp .ne 9, 3) := by decide +kernel
theorem dc_M_work_10 : decode cd_M_work 10 = .ok (.aload_n 0, 1) := by decide +kernel
theorem dc_M_work_11 : decode cd_M_work 11 = .ok (.iconst 1, 1) := by decide +kernel
theorem dc_M_work_12 : decode cd_M_work 12 = .ok (.putfield 167, 3) := by decide +kernel
theorem dc_M_work_15 : decode cd_M_work 15 = .ok (.return_, 1) := by decide +kernel
theorem dc_M_work_16 : decode cd_M_work 16 = .ok (.aload_n 0, 1) := by decide +kernel
theorem dc_M_work_17 : decode cd_M_work 17 = .ok (.dup, 1) := by decide +kernel
theorem dc_M_work_18 : decode cd_M_work 18 = .ok (.getfield 164, 3) := by decide +kernel
theorem dc_M_work_21 : decode cd_M_work 21 = .ok (.iconst 1, 1) := by decide +kernel
theorem dc_M_work_22 : decode cd_M_work 22 = .ok (.iadd, 1) := by decide +kernel
theorem dc_M_work_23 : decode cd_M_work 23 = .ok (.putfield 164, 3) := by decide +kernel
theorem dc_M_work_26 : decode cd_M_work 26 = .ok (.aload_n 0, 1) := by decide +kernel
theorem dc_M_work_27 : decode cd_M_work 27 = .ok (.iload_n 1, 1) := by decide +kernel
theorem dc_M_work_28 : decode cd_M_work 28 = .ok (.invokevirtual 128, 3) := by decide +kernel
theorem dc_M_work_31 : decode cd_M_work 31 = .ok (.return_, 1) := by decide +kernel
theorem dc_M_go_0 : decode cd_M_go 0 = .ok (.aload_n 0, 1) := by decide +kernel
theorem dc_M_go_1 : decode cd_M_go 1 = .ok (.getfield 111, 3) := by decide +kernel
theorem dc_M_go_4 : decode cd_M_go 4 = .ok (.ifCond .le 31, 3) := by decide +kernel
theorem dc_M_go_7 : decode cd_M_go 7 = .ok (.aload_n 0, 1) := by decide +kernel
theorem dc_M_go_8 : decode cd_M_go 8 = .ok (.getfield 167, 3) := by decide +kernel
theorem dc_M_go_11 : decode cd_M_go 11 = .ok (.ifCond .ne 24, 3) := by decide +kernel
theorem dc_M_go_14 : decode cd_M_go 14 = .ok (.aload_n 0, 1) := by decide +kernel
theorem dc_M_go_15 : decode cd_M_go 15 = .ok (.getfield 174, 3) := by decide +kernel
theorem dc_M_go_18 : decode cd_M_go 18 = .ok (.ifCond .eq 10, 3) := by decide +kernel
theorem dc_M_go_21 : decode cd_M_go 21 = .ok (.aload_n 0, 1) := by decide +kernel
theorem dc_M_go_22 : decode cd_M_go 22 = .ok (.invokevirtual 223, 3) := by decide +kernel
theorem dc_M_go_25 : decode cd_M_go 25 = .ok (.goto (-25), 3) := by decide +kernel
theorem dc_M_go_28 : decode cd_M_go 28 = .ok (.aload_n 0, 1) := by decide +kernel
theorem dc_M_go_29 : decode cd_M_go 29 = .ok (.invokevirtual 226, 3) := by decide +kernel
theorem dc_M_go_32 : decode cd_M_go 32 = .ok (.goto (-32), 3) := by decide +kernel
theorem dc_M_go_35 : decode cd_M_go 35 = .ok (.return_, 1) := by decide +kernel
theorem dc_M_goUp_0 : decode cd_M_goUp 0 = .ok (.aload_n 0, 1) := by decide +kernel
theorem dc_M_goUp_1 : decode cd_M_goUp 1 = .ok (.getfield 111, 3) := by decide +kernel
theorem dc_M_goUp_4 : decode cd_M_goUp 4 = .ok (.iconst 1, 1) := by decide +kernel
theorem dc_M_goUp_5 : decode cd_M_goUp 5 = .ok (.isub, 1) := by decide +kernel
theorem dc_M_goUp_6 : decode cd_M_goUp 6 = .ok (.istore_n 1, 1) := by decide +kernel
theorem dc_M_goUp_7 : decode cd_M_goUp 7 = .ok (.aload_n 0, 1) := by decide +kernel
theorem dc_M_goUp_8 : decode cd_M_goUp 8 = .ok (.getfield 47, 3) := by decide +kernel
theorem dc_M_goUp_11 : decode cd_M_goUp 11 = .ok (.iload_n 1, 1) := by decide +kernel
theorem dc_M_goUp_12 : decode cd_M_goUp 12 = .ok (.iaload, 1) := by decide +kernel
theorem dc_M_goUp_13 : decode cd_M_goUp 13 = .ok (.istore_n 2, 1) := by decide +kernel
theorem dc_M_goUp_14 : decode cd_M_goUp 14 = .ok (.aload_n 0, 1) := by decide +kernel
theorem dc_M_goUp_15 : decode cd_M_goUp 15 = .ok (.getfield 7, 3) := by decide +kernel
theorem dc_M_goUp_18 : decode cd_M_goUp 18 = .ok (.iload_n 2, 1) := by decide +kernel
theorem dc_M_goUp_19 : decode cd_M_goUp 19 = .ok (.iaload, 1) := by decide +kernel
theorem dc_M_goUp_20 : decode cd_M_goUp 20 = .ok (.bipush 12, 2) := by decide +kernel
theorem dc_M_goUp_22 : decode cd_M_goUp 22 = .ok (.if_icmp .ne 38, 3) := by decide +kernel
theorem dc_M_goUp_25 : decode cd_M_goUp 25 = .ok (.aload_n 0, 1) := by decide +kernel
theorem dc_M_goUp_26 : decode cd_M_goUp 26 = .ok (.getfield 50, 3) := by decide +kernel
theorem dc_M_goUp_29 : decode cd_M_goUp 29 = .ok (.iload_n 1, 1) := by decide +kernel
theorem dc_M_goUp_30 : decode cd_M_goUp 30 = .ok (.iaload, 1) := by decide +kernel
theorem dc_M_goUp_31 : decode cd_M_goUp 31 = .ok (.iconst 1, 1) := by decide +kernel
theorem dc_M_goUp_32 : decode cd_M_goUp 32 = .ok (.if_icmp .ne 28, 3) := by decide +kernel
theorem dc_M_goUp_35 : decode cd_M_goUp 35 = .ok (.aload_n 0, 1) := by decide +kernel
theorem dc_M_goUp_36 : decode cd_M_goUp 36 = .ok (.iconst 0, 1) := by decide +kernel
theorem dc_M_goUp_37 : decode cd_M_goUp 37 = .ok (.putfield 174, 3) := by decide +kernel
theorem dc_M_goUp_40 : decode cd_M_goUp 40 = .ok (.aload_n 0, 1) := by decide +kernel
theorem dc_M_goUp_41 : decode cd_M_goUp 41 = .ok (.getfield 50, 3) := by decide +kernel
theorem dc_M_goUp_44 : decode cd_M_goUp 44 = .ok (.iload_n 1, 1) := by decide +kernel
theorem dc_M_goUp_45 : decode cd_M_goUp 45 = .ok (.iconst 2, 1) := by decide +kernel
theorem dc_M_goUp_46 : decode cd_M_goUp 46 = .ok (.iastore, 1) := by decide +kernel
theorem dc_M_goUp_47 : decode cd_M_goUp 47 = .ok (.aload_n 0, 1) := by decide +kernel
theorem dc_M_goUp_48 : decode cd_M_goUp 48 = .ok (.aload_n 0, 1) := by decide +kernel
theorem dc_M_goUp_49 : decode cd_M_goUp 49 = .ok (.getfield 16, 3) := by decide +kernel
theorem dc_M_goUp_52 : decode cd_M_goUp 52 = .ok (.iload_n 2, 1) := by decide +kernel
theorem dc_M_goUp_53 : decode cd_M_goUp 53 = .ok (.iaload, 1) := by decide +kernel
theorem dc_M_goUp_54 : decode cd_M_goUp 54 = .ok (.invokevirtual 207, 3) := by decide +kernel
theorem dc_M_goUp_57 : decode cd_M_goUp 57 = .ok (.goto 51, 3) := by decide +kernel
theorem dc_M_goUp_60 : decode cd_M_goUp 60 = .ok (.aload_n 0, 1) := by decide +kernel
theorem dc_M_goUp_61 : decode cd_M_goUp 61 = .ok (.aload_n 0, 1) := by decide +kernel
theorem dc_M_goUp_62 : decode cd_M_goUp 62 = .ok (.getfield 7, 3) := by decide +kernel
theorem dc_M_goUp_65 : decode cd_M_goUp 65 = .ok (.iload_n 2, 1) := by decide +kernel
theorem dc_M_goUp_66 : decode cd_M_goUp 66 = .ok (.iaload, 1) := by decide +kernel
theorem dc_M_goUp_67 : decode cd_M_goUp 67 = .ok (.bipush 10, 2) := by decide +kernel
theorem dc_M_goUp_69 : decode cd_M_goUp 69 = .ok (.if_icmp .ne 22, 3) := by decide +kernel
theorem dc_M_goUp_72 : decode cd_M_goUp 72 = .ok (.aload_n 0, 1) := by decide +kernel
theorem dc_M_goUp_73 : decode cd_M_goUp 73 = .ok (.getfield 50, 3) := by decide +kernel
theorem dc_M_goUp_76 : decode cd_M_goUp 76 = .ok (.iload_n 1, 1) := by decide +kernel
theorem dc_M_goUp_77 : decode cd_M_goUp 77 = .ok (.iaload, 1) := by decide +kernel
theorem dc_M_goUp_78 : decode cd_M_goUp 78 = .ok (.iconst 4, 1) := by decide +kernel
theorem dc_M_goUp_79 : decode cd_M_goUp 79 = .ok (.if_icmp .lt 12, 3) := by decide +kernel
theorem dc_M_goUp_82 : decode cd_M_goUp 82 = .ok (.aload_n 0, 1) := by decide +kernel
theorem dc_M_goUp_83 : decode cd_M_goUp 83 = .ok (.getfield 201, 3) := by decide +kernel
theorem dc_M_goUp_86 : decode cd_M_goUp 86 = .ok (.iconst 1, 1) := by decide +kernel
theorem dc_M_goUp_87 : decode cd_M_goUp 87 = .ok (.isub, 1) := by decide +kernel
theorem dc_M_goUp_88 : decode cd_M_goUp 88 = .ok (.goto 7, 3) := by decide +kernel
theorem dc_M_goUp_91 : decode cd_M_goUp 91 = .ok (.aload_n 0, 1) := by decide +kernel
theorem dc_M_goUp_92 : decode cd_M_goUp 92 = .ok (.getfield 201, 3) := by decide +kernel
theorem dc_M_goUp_95 : decode cd_M_goUp 95 = .ok (.putfield 201, 3) := by decide +kernel
theorem dc_M_goUp_98 : decode cd_M_goUp 98 = .ok (.aload_n 0, 1) := by decide +kernel
theorem dc_M_goUp_99 : decode cd_M_goUp 99 = .ok (.dup, 1) := by decide +kernel
theorem dc_M_goUp_100 : decode cd_M_goUp 100 = .ok (.getfield 111, 3) := by decide +kernel
theorem dc_M_goUp_103 : decode cd_M_goUp 103 = .ok (.iconst 1, 1) := by decide +kernel
theorem dc_M_goUp_104 : decode cd_M_goUp 104 = .ok (.isub, 1) := by decide +kernel
theorem dc_M_goUp_105 : decode cd_M_goUp 105 = .ok (.putfield 111, 3) := by decide +kernel
theorem dc_M_goUp_108 : decode cd_M_goUp 108 = .ok (.return_, 1) := by decide +kernel
theorem dc_M_workOn_0 : decode cd_M_workOn 0 = .ok (.aload_n 0, 1) := by decide +kernel
theorem dc_M_workOn_1 : decode cd_M_workOn 1 = .ok (.getfield 111, 3) := by decide +kernel
theorem dc_M_workOn_4 : decode cd_M_workOn 4 = .ok (.iconst 1, 1) := by decide +kernel
theorem dc_M_workOn_5 : decode cd_M_workOn 5 = .ok (.isub, 1) := by decide +kernel
theorem dc_M_workOn_6 : decode cd_M_workOn 6 = .ok (.istore_n 1, 1) := by decide +kernel
theorem dc_M_workOn_7 : decode cd_M_workOn 7 = .ok (.aload_n 0, 1) := by decide +kernel
theorem dc_M_workOn_8 : decode cd_M_workOn 8 = .ok (.getfield 47, 3) := by decide +kernel
theorem dc_M_workOn_11 : decode cd_M_workOn 11 = .ok (.iload_n 1, 1) := by decide +kernel
theorem dc_M_workOn_12 : decode cd_M_workOn 12 = .ok (.iaload, 1) := by decide +kernel
theorem dc_M_workOn_13 : decode cd_M_workOn 13 = .ok (.istore_n 2, 1) := by decide +kernel
theorem dc_M_workOn_14 : decode cd_M_workOn 14 = .ok (.aload_n 0, 1) := by decide +kernel
theorem dc_M_workOn_15 : decode cd_M_workOn 15 = .ok (.getfield 7, 3) := by decide +kernel
theorem dc_M_workOn_18 : decode cd_M_workOn 18 = .ok (.iload_n 2, 1) := by decide +kernel
theorem dc_M_workOn_19 : decode cd_M_workOn 19 = .ok (.iaload, 1) := by decide +kernel
theorem dc_M_workOn_20 : decode cd_M_workOn 20 = .ok (.istore_n 3, 1) := by decide +kernel
theorem dc_M_workOn_21 : decode cd_M_workOn 21 = .ok (.aload_n 0, 1) := by decide +kernel
theorem dc_M_workOn_22 : decode cd_M_workOn 22 = .ok (.getfield 50, 3) := by decide +kernel
theorem dc_M_workOn_25 : decode cd_M_workOn 25 = .ok (.iload_n 1, 1) := by decide +kernel
theorem dc_M_workOn_26 : decode cd_M_workOn 26 = .ok (.iaload, 1) := by decide +kernel
theorem dc_M_workOn_27 : decode cd_M_workOn 27 = .ok (.istore 4, 2) := by decide +kernel
theorem dc_M_workOn_29 : decode cd_M_workOn 29 = .ok (.aload_n 0, 1) := by decide +kernel
theorem dc_M_workOn_30 : decode cd_M_workOn 30 = .ok (.getfield 50, 3) := by decide +kernel
theorem dc_M_workOn_33 : decode cd_M_workOn 33 = .ok (.iload_n 1, 1) := by decide +kernel
theorem dc_M_workOn_34 : decode cd_M_workOn 34 = .ok (.dup2, 1) := by decide +kernel
theorem dc_M_workOn_35 : decode cd_M_workOn 35 = .ok (.iaload, 1) := by decide +kernel
theorem dc_M_workOn_36 : decode cd_M_workOn 36 = .ok (.iconst 1, 1) := by decide +kernel
theorem dc_M_workOn_37 : decode cd_M_workOn 37 = .ok (.iadd, 1) := by decide +kernel
theorem dc_M_workOn_38 : decode cd_M_workOn 38 = .ok (.iastore, 1) := by decide +kernel
theorem dc_M_workOn_39 : decode cd_M_workOn 39 = .ok (.iload 4, 2) := by decide +kernel
theorem dc_M_workOn_41 : decode cd_M_workOn 41 = .ok (.ifCond .le 26, 3) := by decide +kernel
theorem dc_M_workOn_44 : decode cd_M_workOn 44 = .ok (.iload 4, 2) := by decide +kernel
theorem dc_M_workOn_46 : decode cd_M_workOn 46 = .ok (.iconst 3, 1) := by decide +kernel
theorem dc_M_workOn_47 : decode cd_M_workOn 47 = .ok (.if_icmp .ge 20, 3) := by decide +kernel
theorem dc_M_workOn_50 : decode cd_M_workOn 50 = .ok (.aload_n 0, 1) := by decide +kernel
theorem dc_M_workOn_51 : decode cd_M_workOn 51 = .ok (.getfield 56, 3) := by decide +kernel
theorem dc_M_workOn_54 : decode cd_M_workOn 54 = .ok (.iconst 2, 1) := by decide +kernel
theorem dc_M_workOn_55 : decode cd_M_workOn 55 = .ok (.iload_n 1, 1) := by decide +kernel
theorem dc_M_workOn_56 : decode cd_M_workOn 56 = .ok (.imul, 1) := by decide +kernel
theorem dc_M_workOn_57 : decode cd_M_workOn 57 = .ok (.iload 4, 2) := by decide +kernel
theorem dc_M_workOn_59 : decode cd_M_workOn 59 = .ok (.iadd, 1) := by decide +kernel
theorem dc_M_workOn_60 : decode cd_M_workOn 60 = .ok (.iconst 1, 1) := by decide +kernel
theorem dc_M_workOn_61 : decode cd_M_workOn 61 = .ok (.isub, 1) := by decide +kernel
theorem dc_M_workOn_62 : decode cd_M_workOn 62 = .ok (.aload_n 0, 1) := by decide +kernel
theorem dc_M_workOn_63 : decode cd_M_workOn 63 = .ok (.getfield 125, 3) := by decide +kernel
theorem dc_M_workOn_66 : decode cd_M_workOn 66 = .ok (.iastore, 1) := by decide +kernel
theorem dc_M_workOn_67 : decode cd_M_workOn 67 = .ok (.iload_n 3, 1) := by decide +kernel
theorem dc_M_workOn_68 : decode cd_M_workOn 68 = .ok (.aload_n 0, 1) := by decide +kernel
theorem dc_M_workOn_69 : decode cd_M_workOn 69 = .ok (.getfield 13, 3) := by decide +kernel
theorem dc_M_workOn_72 : decode cd_M_workOn 72 = .ok (.iload_n 2, 1) := by decide +kernel
theorem dc_M_workOn_73 : decode cd_M_workOn 73 = .ok (.iaload, 1) := by decide +kernel
theorem dc_M_workOn_74 : decode cd_M_workOn 74 = .ok (.invokestatic 99, 3) := by decide +kernel
theorem dc_M_workOn_77 : decode cd_M_workOn 77 = .ok (.istore 5, 2) := by decide +kernel
theorem dc_M_workOn_79 : decode cd_M_workOn 79 = .ok (.iload 5, 2) := by decide +kernel
theorem dc_M_workOn_81 : decode cd_M_workOn 81 = .ok (.ifCond .ne 12, 3) := by decide +kernel
theorem dc_M_workOn_84 : decode cd_M_workOn 84 = .ok (.aload_n 0, 1) := by decide +kernel
theorem dc_M_workOn_85 : decode cd_M_workOn 85 = .ok (.iload_n 2, 1) := by decide +kernel
theorem dc_M_workOn_86 : decode cd_M_workOn 86 = .ok (.iload_n 1, 1) := by decide +kernel
theorem dc_M_workOn_87 : decode cd_M_workOn 87 = .ok (.invokevirtual 214, 3) := by decide +kernel
theorem dc_M_workOn_90 : decode cd_M_workOn 90 = .ok (.goto 303, 3) := by decide +kernel
theorem dc_M_workOn_93 : decode cd_M_workOn 93 = .ok (.iload 4, 2) := by decide +kernel
theorem dc_M_workOn_95 : decode cd_M_workOn 95 = .ok (.ifCond .ne 33, 3) := by decide +kernel
theorem dc_M_workOn_98 : decode cd_M_workOn 98 = .ok (.aload_n 0, 1) := by decide +kernel
theorem dc_M_workOn_99 : decode cd_M_workOn 99 = .ok (.iload 5, 2) := by decide +kernel
theorem dc_M_workOn_101 : decode cd_M_workOn 101 = .ok (.iconst 1, 1) := by decide +kernel
theorem dc_M_workOn_102 : decode cd_M_workOn 102 = .ok (.iand, 1) := by decide +kernel
theorem dc_M_workOn_103 : decode cd_M_workOn 103 = .ok (.iconst 1, 1) := by decide +kernel
theorem dc_M_workOn_104 : decode cd_M_workOn 104 = .ok (.if_icmp .ne 12, 3) := by decide +kernel
theorem dc_M_workOn_107 : decode cd_M_workOn 107 = .ok (.aload_n 0, 1) := by decide +kernel
theorem dc_M_workOn_108 : decode cd_M_workOn 108 = .ok (.getfield 13, 3) := by decide +kernel
theorem dc_M_workOn_111 : decode cd_M_workOn 111 = .ok (.iload_n 2, 1) := by decide +kernel
theorem dc_M_workOn_112 : decode cd_M_workOn 112 = .ok (.iaload, 1) := by decide +kernel
theorem dc_M_workOn_113 : decode cd_M_workOn 113 = .ok (.goto 9, 3) := by decide +kernel
theorem dc_M_workOn_116 : decode cd_M_workOn 116 = .ok (.aload_n 0, 1) := by decide +kernel
theorem dc_M_workOn_117 : decode cd_M_workOn 117 = .ok (.getfield 16, 3) := by decide +kernel
theorem dc_M_workOn_120 : decode cd_M_workOn 120 = .ok (.iload_n 2, 1) := by decide +kernel
theorem dc_M_workOn_121 : decode cd_M_workOn 121 = .ok (.iaload, 1) := by decide +kernel
theorem dc_M_workOn_122 : decode cd_M_workOn 122 = .ok (.invokevirtual 207, 3) := by decide +kernel
theorem dc_M_workOn_125 : decode cd_M_workOn 125 = .ok (.goto 268, 3) := by decide +kernel
theorem dc_M_workOn_128 : decode cd_M_workOn 128 = .ok (.iload_n 3, 1) := by decide +kernel
theorem dc_M_workOn_129 : decode cd_M_workOn 129 = .ok (.bipush 10, 2) := by decide +kernel
theorem dc_M_workOn_131 : decode cd_M_workOn 131 = .ok (.if_icmp .ne 14, 3) := by decide +kernel
theorem dc_M_workOn_134 : decode cd_M_workOn 134 = .ok (.aload_n 0, 1) := by decide +kernel
theorem dc_M_workOn_135 : decode cd_M_workOn 135 = .ok (.iload_n 2, 1) := by decide +kernel
theorem dc_M_workOn_136 : decode cd_M_workOn 136 = .ok (.iload_n 1, 1) := by decide +kernel
theorem dc_M_workOn_137 : decode cd_M_workOn 137 = .ok (.iload 4, 2) := by decide +kernel
theorem dc_M_workOn_139 : decode cd_M_workOn 139 = .ok (.invokevirtual 217, 3) := by decide +kernel
theorem dc_M_workOn_142 : decode cd_M_workOn 142 = .ok (.goto 251, 3) := by decide +kernel
theorem dc_M_workOn_145 : decode cd_M_workOn 145 = .ok (.iload_n 3, 1) := by decide +kernel
theorem dc_M_workOn_146 : decode cd_M_workOn 146 = .ok (.bipush 9, 2) := by decide +kernel
theorem dc_M_workOn_148 : decode cd_M_workOn 148 = .ok (.if_icmp .ne 53, 3) := by decide +kernel
theorem dc_M_workOn_151 : decode cd_M_workOn 151 = .ok (.iload 4, 2) := by decide +kernel
theorem dc_M_workOn_153 : decode cd_M_workOn 153 = .ok (.iconst 1, 1) := by decide +kernel
theorem dc_M_workOn_154 : decode cd_M_workOn 154 = .ok (.if_icmp .ne 47, 3) := by decide +kernel
theorem dc_M_workOn_157 : decode cd_M_workOn 157 = .ok (.aload_n 0, 1) := by decide +kernel
theorem dc_M_workOn_158 : decode cd_M_workOn 158 = .ok (.aload_n 0, 1) := by decide +kernel
theorem dc_M_workOn_159 : decode cd_M_workOn 159 = .ok (.getfield 16, 3) := by decide +kernel
theorem dc_M_workOn_162 : decode cd_M_workOn 162 = .ok (.iload_n 2, 1) := by decide +kernel
theorem dc_M_workOn_163 : decode cd_M_workOn 163 = .ok (.iaload, 1) := by decide +kernel
theorem dc_M_workOn_164 : decode cd_M_workOn 164 = .ok (.aload_n 0, 1) := by decide +kernel
theorem dc_M_workOn_165 : decode cd_M_workOn 165 = .ok (.getfield 59, 3) := by decide +kernel
theorem dc_M_workOn_168 : decode cd_M_workOn 168 = .ok (.aload_n 0, 1) := by decide +kernel
theorem dc_M_workOn_169 : decode cd_M_workOn 169 = .ok (.getfield 125, 3) := by decide +kernel
theorem dc_M_workOn_172 : decode cd_M_workOn 172 = .ok (.iaload, 1) := by decide +kernel
theorem dc_M_workOn_173 : decode cd_M_workOn 173 = .ok (.ishr, 1) := by decide +kernel
theorem dc_M_workOn_174 : decode cd_M_workOn 174 = .ok (.iconst 1, 1) := by decide +kernel
theorem dc_M_workOn_175 : decode cd_M_workOn 175 = .ok (.iand, 1) := by decide +kernel
theorem dc_M_workOn_176 : decode cd_M_workOn 176 = .ok (.iconst 1, 1) := by decide +kernel
theorem dc_M_workOn_177 : decode cd_M_workOn 177 = .ok (.if_icmp .ne 12, 3) := by decide +kernel
theorem dc_M_workOn_180 : decode cd_M_workOn 180 = .ok (.aload_n 0, 1) := by decide +kernel
theorem dc_M_workOn_181 : decode cd_M_workOn 181 = .ok (.getfield 19, 3) := by decide +kernel
theorem dc_M_workOn_184 : decode cd_M_workOn 184 = .ok (.iload_n 2, 1) := by decide +kernel
theorem dc_M_workOn_185 : decode cd_M_workOn 185 = .ok (.iaload, 1) := by decide +kernel
theorem dc_M_workOn_186 : decode cd_M_workOn 186 = .ok (.goto 9, 3) := by decide +kernel
theorem dc_M_workOn_189 : decode cd_M_workOn 189 = .ok (.aload_n 0, 1) := by decide +kernel
theorem dc_M_workOn_190 : decode cd_M_workOn 190 = .ok (.getfield 22, 3) := by decide +kernel
theorem dc_M_workOn_193 : decode cd_M_workOn 193 = .ok (.iload_n 2, 1) := by decide +kernel
theorem dc_M_workOn_194 : decode cd_M_workOn 194 = .ok (.iaload, 1) := by decide +kernel
theorem dc_M_workOn_195 : decode cd_M_workOn 195 = .ok (.invokevirtual 207, 3) := by decide +kernel
theorem dc_M_workOn_198 : decode cd_M_workOn 198 = .ok (.goto 195, 3) := by decide +kernel
theorem dc_M_workOn_201 : decode cd_M_workOn 201 = .ok (.iload_n 3, 1) := by decide +kernel
theorem dc_M_workOn_202 : decode cd_M_workOn 202 = .ok (.bipush 11, 2) := by decide +kernel
theorem dc_M_workOn_204 : decode cd_M_workOn 204 = .ok (.if_icmp .ne 57, 3) := by decide +kernel
theorem dc_M_workOn_207 : decode cd_M_workOn 207 = .ok (.iload 4, 2) := by decide +kernel
theorem dc_M_workOn_209 : decode cd_M_workOn 209 = .ok (.iconst 1, 1) := by decide +kernel
theorem dc_M_workOn_210 : decode cd_M_workOn 210 = .ok (.if_icmp .ne 51, 3) := by decide +kernel
theorem dc_M_workOn_213 : decode cd_M_workOn 213 = .ok (.aload_n 0, 1) := by decide +kernel
theorem dc_M_workOn_214 : decode cd_M_workOn 214 = .ok (.aload_n 0, 1) := by decide +kernel
theorem dc_M_workOn_215 : decode cd_M_workOn 215 = .ok (.getfield 19, 3) := by decide +kernel
theorem dc_M_workOn_218 : decode cd_M_workOn 218 = .ok (.iload_n 2, 1) := by decide +kernel
theorem dc_M_workOn_219 : decode cd_M_workOn 219 = .ok (.iaload, 1) := by decide +kernel
theorem dc_M_workOn_220 : decode cd_M_workOn 220 = .ok (.invokevirtual 207, 3) := by decide +kernel
theorem dc_M_workOn_223 : decode cd_M_workOn 223 = .ok (.aload_n 0, 1) := by decide +kernel
theorem dc_M_workOn_224 : decode cd_M_workOn 224 = .ok (.getfield 167, 3) := by decide +kernel
theorem dc_M_workOn_227 : decode cd_M_workOn 227 = .ok (.ifCond .ne 166, 3) := by decide +kernel
theorem dc_M_workOn_230 : decode cd_M_workOn 230 = .ok (.aload_n 0, 1) := by decide +kernel
theorem dc_M_workOn_231 : decode cd_M_workOn 231 = .ok (.getfield 53, 3) := by decide +kernel
theorem dc_M_workOn_234 : decode cd_M_workOn 234 = .ok (.iconst 4, 1) := by decide +kernel
theorem dc_M_workOn_235 : decode cd_M_workOn 235 = .ok (.aload_n 0, 1) := by decide +kernel
theorem dc_M_workOn_236 : decode cd_M_workOn 236 = .ok (.getfield 111, 3) := by decide +kernel
theorem dc_M_workOn_239 : decode cd_M_workOn 239 = .ok (.iconst 1, 1) := by decide +kernel
theorem dc_M_workOn_240 : decode cd_M_workOn 240 = .ok (.isub, 1) := by decide +kernel
theorem dc_M_workOn_241 : decode cd_M_workOn 241 = .ok (.imul, 1) := by decide +kernel
theorem dc_M_workOn_242 : decode cd_M_workOn 242 = .ok (.aload_n 0, 1) := by decide +kernel
theorem dc_M_workOn_243 : decode cd_M_workOn 243 = .ok (.getfield 13, 3) := by decide +kernel
theorem dc_M_workOn_246 : decode cd_M_workOn 246 = .ok (.iload_n 2, 1) := by decide +kernel
theorem dc_M_workOn_247 : decode cd_M_workOn 247 = .ok (.iaload, 1) := by decide +kernel
theorem dc_M_workOn_248 : decode cd_M_workOn 248 = .ok (.iadd, 1) := by decide +kernel
theorem dc_M_workOn_249 : decode cd_M_workOn 249 = .ok (.aload_n 0, 1) := by decide +kernel
theorem dc_M_workOn_250 : decode cd_M_workOn 250 = .ok (.getfield 56, 3) := by decide +kernel
theorem dc_M_workOn_253 : decode cd_M_workOn 253 = .ok (.iconst 2, 1) := by decide +kernel
theorem dc_M_workOn_254 : decode cd_M_workOn 254 = .ok (.iload_n 1, 1) := by decide +kernel
theorem dc_M_workOn_255 : decode cd_M_workOn 255 = .ok (.imul, 1) := by decide +kernel
theorem dc_M_workOn_256 : decode cd_M_workOn 256 = .ok (.iaload, 1) := by decide +kernel
theorem dc_M_workOn_257 : decode cd_M_workOn 257 = .ok (.iastore, 1) := by decide +kernel
theorem dc_M_workOn_258 : decode cd_M_workOn 258 = .ok (.goto 135, 3) := by decide +kernel
theorem dc_M_workOn_261 : decode cd_M_workOn 261 = .ok (.iload_n 3, 1) := by decide +kernel
theorem dc_M_workOn_262 : decode cd_M_workOn 262 = .ok (.bipush 9, 2) := by decide +kernel
theorem dc_M_workOn_264 : decode cd_M_workOn 264 = .ok (.if_icmp .eq 15, 3) := by decide +kernel
theorem dc_M_workOn_267 : decode cd_M_workOn 267 = .ok (.iload_n 3, 1) := by decide +kernel
theorem dc_M_workOn_268 : decode cd_M_workOn 268 = .ok (.bipush 11, 2) := by decide +kernel
theorem dc_M_workOn_270 : decode cd_M_workOn 270 = .ok (.if_icmp .eq 9, 3) := by decide +kernel
theorem dc_M_workOn_273 : decode cd_M_workOn 273 = .ok (.iload_n 3, 1) := by decide +kernel
theorem dc_M_workOn_274 : decode cd_M_workOn 274 = .ok (.bipush 12, 2) := by decide +kernel
theorem dc_M_workOn_276 : decode cd_M_workOn 276 = .ok (.if_icmp .ne 14, 3) := by decide +kernel
theorem dc_M_workOn_279 : decode cd_M_workOn 279 = .ok (.aload_n 0, 1) := by decide +kernel
theorem dc_M_workOn_280 : decode cd_M_workOn 280 = .ok (.aload_n 0, 1) := by decide +kernel
theorem dc_M_workOn_281 : decode cd_M_workOn 281 = .ok (.getfield 125, 3) := by decide +kernel
theorem dc_M_workOn_284 : decode cd_M_workOn 284 = .ok (.invokevirtual 186, 3) := by decide +kernel
theorem dc_M_workOn_287 : decode cd_M_workOn 287 = .ok (.goto 106, 3) := by decide +kernel
theorem dc_M_workOn_290 : decode cd_M_workOn 290 = .ok (.iload 5, 2) := by decide +kernel
theorem dc_M_workOn_292 : decode cd_M_workOn 292 = .ok (.iconst 1, 1) := by decide +kernel
theorem dc_M_workOn_293 : decode cd_M_workOn 293 = .ok (.if_icmp .ne 58, 3) := by decide +kernel
theorem dc_M_workOn_296 : decode cd_M_workOn 296 = .ok (.aload_n 0, 1) := by decide +kernel
theorem dc_M_workOn_297 : decode cd_M_workOn 297 = .ok (.getfield 59, 3) := by decide +kernel
theorem dc_M_workOn_300 : decode cd_M_workOn 300 = .ok (.aload_n 0, 1) := by decide +kernel
theorem dc_M_workOn_301 : decode cd_M_workOn 301 = .ok (.getfield 125, 3) := by decide +kernel
theorem dc_M_workOn_304 : decode cd_M_workOn 304 = .ok (.iaload, 1) := by decide +kernel
theorem dc_M_workOn_305 : decode cd_M_workOn 305 = .ok (.bipush 8, 2) := by decide +kernel
theorem dc_M_workOn_307 : decode cd_M_workOn 307 = .ok (.if_icmp .ne 37, 3) := by decide +kernel
theorem dc_M_workOn_310 : decode cd_M_workOn 310 = .ok (.aload_n 0, 1) := by decide +kernel
theorem dc_M_workOn_311 : decode cd_M_workOn 311 = .ok (.iload_n 3, 1) := by decide +kernel
theorem dc_M_workOn_312 : decode cd_M_workOn 312 = .ok (.bipush 7, 2) := by decide +kernel
theorem dc_M_workOn_314 : decode cd_M_workOn 314 = .ok (.if_icmp .ne 15, 3) := by decide +kernel
theorem dc_M_workOn_317 : decode cd_M_workOn 317 = .ok (.aload_n 0, 1) := by decide +kernel
theorem dc_M_workOn_318 : decode cd_M_workOn 318 = .ok (.getfield 65, 3) := by decide +kernel
theorem dc_M_workOn_321 : decode cd_M_workOn 321 = .ok (.aload_n 0, 1) := by decide +kernel
theorem dc_M_workOn_322 : decode cd_M_workOn 322 = .ok (.getfield 125, 3) := by decide +kernel
theorem dc_M_workOn_325 : decode cd_M_workOn 325 = .ok (.iaload, 1) := by decide +kernel
theorem dc_M_workOn_326 : decode cd_M_workOn 326 = .ok (.goto 12, 3) := by decide +kernel
theorem dc_M_workOn_329 : decode cd_M_workOn 329 = .ok (.aload_n 0, 1) := by decide +kernel
