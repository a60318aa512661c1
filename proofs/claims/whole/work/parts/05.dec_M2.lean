theorem dc_M_workOn_330 : decode cd_M_workOn 330 = .ok (.getfield 68, 3) := by decide +kernel
theorem dc_M_workOn_333 : decode cd_M_workOn 333 = .ok (.aload_n 0, 1) := by decide +kernel
theorem dc_M_workOn_334 : decode cd_M_workOn 334 = .ok (.getfield 125, 3) := by decide +kernel
theorem dc_M_workOn_337 : decode cd_M_workOn 337 = .ok (.iaload, 1) := by decide +kernel
theorem dc_M_workOn_338 : decode cd_M_workOn 338 = .ok (.invokevirtual 186, 3) := by decide +kernel
theorem dc_M_workOn_341 : decode cd_M_workOn 341 = .ok (.goto 52, 3) := by decide +kernel
theorem dc_M_workOn_344 : decode cd_M_workOn 344 = .ok (.aload_n 0, 1) := by decide +kernel
theorem dc_M_workOn_345 : decode cd_M_workOn 345 = .ok (.invokevirtual 198, 3) := by decide +kernel
theorem dc_M_workOn_348 : decode cd_M_workOn 348 = .ok (.goto 45, 3) := by decide +kernel
theorem dc_M_workOn_351 : decode cd_M_workOn 351 = .ok (.iload 4, 2) := by decide +kernel
theorem dc_M_workOn_353 : decode cd_M_workOn 353 = .ok (.iconst 1, 1) := by decide +kernel
theorem dc_M_workOn_354 : decode cd_M_workOn 354 = .ok (.if_icmp .ne 16, 3) := by decide +kernel
theorem dc_M_workOn_357 : decode cd_M_workOn 357 = .ok (.aload_n 0, 1) := by decide +kernel
theorem dc_M_workOn_358 : decode cd_M_workOn 358 = .ok (.aload_n 0, 1) := by decide +kernel
theorem dc_M_workOn_359 : decode cd_M_workOn 359 = .ok (.getfield 16, 3) := by decide +kernel
theorem dc_M_workOn_362 : decode cd_M_workOn 362 = .ok (.iload_n 2, 1) := by decide +kernel
theorem dc_M_workOn_363 : decode cd_M_workOn 363 = .ok (.iaload, 1) := by decide +kernel
theorem dc_M_workOn_364 : decode cd_M_workOn 364 = .ok (.invokevirtual 207, 3) := by decide +kernel
theorem dc_M_workOn_367 : decode cd_M_workOn 367 = .ok (.goto 26, 3) := by decide +kernel
theorem dc_M_workOn_370 : decode cd_M_workOn 370 = .ok (.aload_n 0, 1) := by decide +kernel
theorem dc_M_workOn_371 : decode cd_M_workOn 371 = .ok (.iload_n 3, 1) := by decide +kernel
theorem dc_M_workOn_372 : decode cd_M_workOn 372 = .ok (.aload_n 0, 1) := by decide +kernel
theorem dc_M_workOn_373 : decode cd_M_workOn 373 = .ok (.getfield 56, 3) := by decide +kernel
theorem dc_M_workOn_376 : decode cd_M_workOn 376 = .ok (.iconst 2, 1) := by decide +kernel
theorem dc_M_workOn_377 : decode cd_M_workOn 377 = .ok (.iload_n 1, 1) := by decide +kernel
theorem dc_M_workOn_378 : decode cd_M_workOn 378 = .ok (.imul, 1) := by decide +kernel
theorem dc_M_workOn_379 : decode cd_M_workOn 379 = .ok (.iaload, 1) := by decide +kernel
theorem dc_M_workOn_380 : decode cd_M_workOn 380 = .ok (.aload_n 0, 1) := by decide +kernel
theorem dc_M_workOn_381 : decode cd_M_workOn 381 = .ok (.getfield 56, 3) := by decide +kernel
theorem dc_M_workOn_384 : decode cd_M_workOn 384 = .ok (.iconst 2, 1) := by decide +kernel
theorem dc_M_workOn_385 : decode cd_M_workOn 385 = .ok (.iload_n 1, 1) := by decide +kernel
theorem dc_M_workOn_386 : decode cd_M_workOn 386 = .ok (.imul, 1) := by decide +kernel
theorem dc_M_workOn_387 : decode cd_M_workOn 387 = .ok (.iconst 1, 1) := by decide +kernel
theorem dc_M_workOn_388 : decode cd_M_workOn 388 = .ok (.iadd, 1) := by decide +kernel
theorem dc_M_workOn_389 : decode cd_M_workOn 389 = .ok (.iaload, 1) := by decide +kernel
theorem dc_M_workOn_390 : decode cd_M_workOn 390 = .ok (.invokevirtual 220, 3) := by decide +kernel
theorem dc_M_workOn_393 : decode cd_M_workOn 393 = .ok (.return_, 1) := by decide +kernel
theorem dc_M_leafValue_0 : decode cd_M_leafValue 0 = .ok (.aload_n 0, 1) := by decide +kernel
theorem dc_M_leafValue_1 : decode cd_M_leafValue 1 = .ok (.getfield 7, 3) := by decide +kernel
theorem dc_M_leafValue_4 : decode cd_M_leafValue 4 = .ok (.iload_n 1, 1) := by decide +kernel
theorem dc_M_leafValue_5 : decode cd_M_leafValue 5 = .ok (.iaload, 1) := by decide +kernel
theorem dc_M_leafValue_6 : decode cd_M_leafValue 6 = .ok (.istore_n 3, 1) := by decide +kernel
theorem dc_M_leafValue_7 : decode cd_M_leafValue 7 = .ok (.iload_n 3, 1) := by decide +kernel
theorem dc_M_leafValue_8 : decode cd_M_leafValue 8 = .ok (.ifCond .ne 43, 3) := by decide +kernel
theorem dc_M_leafValue_11 : decode cd_M_leafValue 11 = .ok (.aload_n 0, 1) := by decide +kernel
theorem dc_M_leafValue_12 : decode cd_M_leafValue 12 = .ok (.getfield 53, 3) := by decide +kernel
theorem dc_M_leafValue_15 : decode cd_M_leafValue 15 = .ok (.iconst 4, 1) := by decide +kernel
theorem dc_M_leafValue_16 : decode cd_M_leafValue 16 = .ok (.iload_n 2, 1) := by decide +kernel
theorem dc_M_leafValue_17 : decode cd_M_leafValue 17 = .ok (.imul, 1) := by decide +kernel
theorem dc_M_leafValue_18 : decode cd_M_leafValue 18 = .ok (.aload_n 0, 1) := by decide +kernel
theorem dc_M_leafValue_19 : decode cd_M_leafValue 19 = .ok (.getfield 13, 3) := by decide +kernel
theorem dc_M_leafValue_22 : decode cd_M_leafValue 22 = .ok (.iload_n 1, 1) := by decide +kernel
theorem dc_M_leafValue_23 : decode cd_M_leafValue 23 = .ok (.iaload, 1) := by decide +kernel
theorem dc_M_leafValue_24 : decode cd_M_leafValue 24 = .ok (.iadd, 1) := by decide +kernel
theorem dc_M_leafValue_25 : decode cd_M_leafValue 25 = .ok (.iaload, 1) := by decide +kernel
theorem dc_M_leafValue_26 : decode cd_M_leafValue 26 = .ok (.ifCond .lt 25, 3) := by decide +kernel
theorem dc_M_leafValue_29 : decode cd_M_leafValue 29 = .ok (.aload_n 0, 1) := by decide +kernel
theorem dc_M_leafValue_30 : decode cd_M_leafValue 30 = .ok (.aload_n 0, 1) := by decide +kernel
theorem dc_M_leafValue_31 : decode cd_M_leafValue 31 = .ok (.getfield 53, 3) := by decide +kernel
theorem dc_M_leafValue_34 : decode cd_M_leafValue 34 = .ok (.iconst 4, 1) := by decide +kernel
theorem dc_M_leafValue_35 : decode cd_M_leafValue 35 = .ok (.iload_n 2, 1) := by decide +kernel
theorem dc_M_leafValue_36 : decode cd_M_leafValue 36 = .ok (.imul, 1) := by decide +kernel
theorem dc_M_leafValue_37 : decode cd_M_leafValue 37 = .ok (.aload_n 0, 1) := by decide +kernel
theorem dc_M_leafValue_38 : decode cd_M_leafValue 38 = .ok (.getfield 13, 3) := by decide +kernel
theorem dc_M_leafValue_41 : decode cd_M_leafValue 41 = .ok (.iload_n 1, 1) := by decide +kernel
theorem dc_M_leafValue_42 : decode cd_M_leafValue 42 = .ok (.iaload, 1) := by decide +kernel
theorem dc_M_leafValue_43 : decode cd_M_leafValue 43 = .ok (.iadd, 1) := by decide +kernel
theorem dc_M_leafValue_44 : decode cd_M_leafValue 44 = .ok (.iaload, 1) := by decide +kernel
theorem dc_M_leafValue_45 : decode cd_M_leafValue 45 = .ok (.invokevirtual 186, 3) := by decide +kernel
theorem dc_M_leafValue_48 : decode cd_M_leafValue 48 = .ok (.goto 80, 3) := by decide +kernel
theorem dc_M_leafValue_51 : decode cd_M_leafValue 51 = .ok (.iload_n 3, 1) := by decide +kernel
theorem dc_M_leafValue_52 : decode cd_M_leafValue 52 = .ok (.iconst 1, 1) := by decide +kernel
theorem dc_M_leafValue_53 : decode cd_M_leafValue 53 = .ok (.if_icmp .ne 21, 3) := by decide +kernel
theorem dc_M_leafValue_56 : decode cd_M_leafValue 56 = .ok (.aload_n 0, 1) := by decide +kernel
theorem dc_M_leafValue_57 : decode cd_M_leafValue 57 = .ok (.aload_n 0, 1) := by decide +kernel
theorem dc_M_leafValue_58 : decode cd_M_leafValue 58 = .ok (.aload_n 0, 1) := by decide +kernel
theorem dc_M_leafValue_59 : decode cd_M_leafValue 59 = .ok (.getfield 13, 3) := by decide +kernel
theorem dc_M_leafValue_62 : decode cd_M_leafValue 62 = .ok (.iload_n 1, 1) := by decide +kernel
theorem dc_M_leafValue_63 : decode cd_M_leafValue 63 = .ok (.iaload, 1) := by decide +kernel
theorem dc_M_leafValue_64 : decode cd_M_leafValue 64 = .ok (.iconst 0, 1) := by decide +kernel
theorem dc_M_leafValue_65 : decode cd_M_leafValue 65 = .ok (.invokevirtual 183, 3) := by decide +kernel
theorem dc_M_leafValue_68 : decode cd_M_leafValue 68 = .ok (.invokevirtual 186, 3) := by decide +kernel
theorem dc_M_leafValue_71 : decode cd_M_leafValue 71 = .ok (.goto 57, 3) := by decide +kernel
theorem dc_M_leafValue_74 : decode cd_M_leafValue 74 = .ok (.iload_n 3, 1) := by decide +kernel
theorem dc_M_leafValue_75 : decode cd_M_leafValue 75 = .ok (.iconst 2, 1) := by decide +kernel
theorem dc_M_leafValue_76 : decode cd_M_leafValue 76 = .ok (.if_icmp .ne 29, 3) := by decide +kernel
theorem dc_M_leafValue_79 : decode cd_M_leafValue 79 = .ok (.aload_n 0, 1) := by decide +kernel
theorem dc_M_leafValue_80 : decode cd_M_leafValue 80 = .ok (.aload_n 0, 1) := by decide +kernel
theorem dc_M_leafValue_81 : decode cd_M_leafValue 81 = .ok (.aload_n 0, 1) := by decide +kernel
theorem dc_M_leafValue_82 : decode cd_M_leafValue 82 = .ok (.getfield 13, 3) := by decide +kernel
theorem dc_M_leafValue_85 : decode cd_M_leafValue 85 = .ok (.iload_n 1, 1) := by decide +kernel
theorem dc_M_leafValue_86 : decode cd_M_leafValue 86 = .ok (.iaload, 1) := by decide +kernel
theorem dc_M_leafValue_87 : decode cd_M_leafValue 87 = .ok (.invokestatic 122, 3) := by decide +kernel
theorem dc_M_leafValue_90 : decode cd_M_leafValue 90 = .ok (.aload_n 0, 1) := by decide +kernel
theorem dc_M_leafValue_91 : decode cd_M_leafValue 91 = .ok (.getfield 13, 3) := by decide +kernel
theorem dc_M_leafValue_94 : decode cd_M_leafValue 94 = .ok (.iload_n 1, 1) := by decide +kernel
theorem dc_M_leafValue_95 : decode cd_M_leafValue 95 = .ok (.iaload, 1) := by decide +kernel
theorem dc_M_leafValue_96 : decode cd_M_leafValue 96 = .ok (.invokevirtual 183, 3) := by decide +kernel
theorem dc_M_leafValue_99 : decode cd_M_leafValue 99 = .ok (.invokevirtual 186, 3) := by decide +kernel
theorem dc_M_leafValue_102 : decode cd_M_leafValue 102 = .ok (.goto 26, 3) := by decide +kernel
theorem dc_M_leafValue_105 : decode cd_M_leafValue 105 = .ok (.iload_n 3, 1) := by decide +kernel
theorem dc_M_leafValue_106 : decode cd_M_leafValue 106 = .ok (.iconst 3, 1) := by decide +kernel
theorem dc_M_leafValue_107 : decode cd_M_leafValue 107 = .ok (.if_icmp .ne 17, 3) := by decide +kernel
theorem dc_M_leafValue_110 : decode cd_M_leafValue 110 = .ok (.aload_n 0, 1) := by decide +kernel
theorem dc_M_leafValue_111 : decode cd_M_leafValue 111 = .ok (.aload_n 0, 1) := by decide +kernel
theorem dc_M_leafValue_112 : decode cd_M_leafValue 112 = .ok (.bipush 7, 2) := by decide +kernel
theorem dc_M_leafValue_114 : decode cd_M_leafValue 114 = .ok (.iconst 0, 1) := by decide +kernel
theorem dc_M_leafValue_115 : decode cd_M_leafValue 115 = .ok (.invokevirtual 183, 3) := by decide +kernel
theorem dc_M_leafValue_118 : decode cd_M_leafValue 118 = .ok (.invokevirtual 186, 3) := by decide +kernel
theorem dc_M_leafValue_121 : decode cd_M_leafValue 121 = .ok (.goto 7, 3) := by decide +kernel
theorem dc_M_leafValue_124 : decode cd_M_leafValue 124 = .ok (.aload_n 0, 1) := by decide +kernel
theorem dc_M_leafValue_125 : decode cd_M_leafValue 125 = .ok (.invokevirtual 198, 3) := by decide +kernel
theorem dc_M_leafValue_128 : decode cd_M_leafValue 128 = .ok (.return_, 1) := by decide +kernel
theorem dc_M_end_0 : decode cd_M_end 0 = .ok (.aload_n 0, 1) := by decide +kernel
theorem dc_M_end_1 : decode cd_M_end 1 = .ok (.iload_n 1, 1) := by decide +kernel
theorem dc_M_end_2 : decode cd_M_end 2 = .ok (.putfield 125, 3) := by decide +kernel
theorem dc_M_end_5 : decode cd_M_end 5 = .ok (.aload_n 0, 1) := by decide +kernel
theorem dc_M_end_6 : decode cd_M_end 6 = .ok (.dup, 1) := by decide +kernel
theorem dc_M_end_7 : decode cd_M_end 7 = .ok (.getfield 111, 3) := by decide +kernel
theorem dc_M_end_10 : decode cd_M_end 10 = .ok (.iconst 1, 1) := by decide +kernel
theorem dc_M_end_11 : decode cd_M_end 11 = .ok (.isub, 1) := by decide +kernel
theorem dc_M_end_12 : decode cd_M_end 12 = .ok (.putfield 111, 3) := by decide +kernel
theorem dc_M_end_15 : decode cd_M_end 15 = .ok (.return_, 1) := by decide +kernel
theorem dc_M_value_0 : decode cd_M_value 0 = .ok (.aload_n 0, 1) := by decide +kernel
theorem dc_M_value_1 : decode cd_M_value 1 = .ok (.getfield 59, 3) := by decide +kernel
theorem dc_M_value_4 : decode cd_M_value 4 = .ok (.aload_n 0, 1) := by decide +kernel
theorem dc_M_value_5 : decode cd_M_value 5 = .ok (.getfield 161, 3) := by decide +kernel
theorem dc_M_value_8 : decode cd_M_value 8 = .ok (.iload_n 1, 1) := by decide +kernel
theorem dc_M_value_9 : decode cd_M_value 9 = .ok (.iastore, 1) := by decide +kernel
theorem dc_M_value_10 : decode cd_M_value 10 = .ok (.aload_n 0, 1) := by decide +kernel
theorem dc_M_value_11 : decode cd_M_value 11 = .ok (.getfield 62, 3) := by decide +kernel
theorem dc_M_value_14 : decode cd_M_value 14 = .ok (.aload_n 0, 1) := by decide +kernel
theorem dc_M_value_15 : decode cd_M_value 15 = .ok (.getfield 161, 3) := by decide +kernel
theorem dc_M_value_18 : decode cd_M_value 18 = .ok (.iload_n 2, 1) := by decide +kernel
theorem dc_M_value_19 : decode cd_M_value 19 = .ok (.iastore, 1) := by decide +kernel
theorem dc_M_value_20 : decode cd_M_value 20 = .ok (.aload_n 0, 1) := by decide +kernel
theorem dc_M_value_21 : decode cd_M_value 21 = .ok (.dup, 1) := by decide +kernel
theorem dc_M_value_22 : decode cd_M_value 22 = .ok (.getfield 161, 3) := by decide +kernel
theorem dc_M_value_25 : decode cd_M_value 25 = .ok (.iconst 1, 1) := by decide +kernel
theorem dc_M_value_26 : decode cd_M_value 26 = .ok (.iadd, 1) := by decide +kernel
theorem dc_M_value_27 : decode cd_M_value 27 = .ok (.putfield 161, 3) := by decide +kernel
theorem dc_M_value_30 : decode cd_M_value 30 = .ok (.aload_n 0, 1) := by decide +kernel
theorem dc_M_value_31 : decode cd_M_value 31 = .ok (.getfield 161, 3) := by decide +kernel
theorem dc_M_value_34 : decode cd_M_value 34 = .ok (.iconst 1, 1) := by decide +kernel
theorem dc_M_value_35 : decode cd_M_value 35 = .ok (.isub, 1) := by decide +kernel
theorem dc_M_value_36 : decode cd_M_value 36 = .ok (.ireturn, 1) := by decide +kernel
theorem dc_M_fail_0 : decode cd_M_fail 0 = .ok (.aload_n 0, 1) := by decide +kernel
theorem dc_M_fail_1 : decode cd_M_fail 1 = .ok (.invokevirtual 177, 3) := by decide +kernel
theorem dc_M_fail_4 : decode cd_M_fail 4 = .ok (.aload_n 0, 1) := by decide +kernel
theorem dc_M_fail_5 : decode cd_M_fail 5 = .ok (.dup, 1) := by decide +kernel
theorem dc_M_fail_6 : decode cd_M_fail 6 = .ok (.getfield 111, 3) := by decide +kernel
theorem dc_M_fail_9 : decode cd_M_fail 9 = .ok (.iconst 1, 1) := by decide +kernel
theorem dc_M_fail_10 : decode cd_M_fail 10 = .ok (.isub, 1) := by decide +kernel
theorem dc_M_fail_11 : decode cd_M_fail 11 = .ok (.putfield 111, 3) := by decide +kernel
theorem dc_M_fail_14 : decode cd_M_fail 14 = .ok (.return_, 1) := by decide +kernel
theorem dc_M_fails_0 : decode cd_M_fails 0 = .ok (.aload_n 0, 1) := by decide +kernel
theorem dc_M_fails_1 : decode cd_M_fails 1 = .ok (.aload_n 0, 1) := by decide +kernel
theorem dc_M_fails_2 : decode cd_M_fails 2 = .ok (.getfield 171, 3) := by decide +kernel
theorem dc_M_fails_5 : decode cd_M_fails 5 = .ok (.bipush 6, 2) := by decide +kernel
theorem dc_M_fails_7 : decode cd_M_fails 7 = .ok (.if_icmp .ne 7, 3) := by decide +kernel
theorem dc_M_fails_10 : decode cd_M_fails 10 = .ok (.iconst 1, 1) := by decide +kernel
theorem dc_M_fails_11 : decode cd_M_fails 11 = .ok (.goto 4, 3) := by decide +kernel
theorem dc_M_fails_14 : decode cd_M_fails 14 = .ok (.iconst 0, 1) := by decide +kernel
theorem dc_M_fails_15 : decode cd_M_fails 15 = .ok (.putfield 167, 3) := by decide +kernel
theorem dc_M_fails_18 : decode cd_M_fails 18 = .ok (.aload_n 0, 1) := by decide +kernel
theorem dc_M_fails_19 : decode cd_M_fails 19 = .ok (.aload_n 0, 1) := by decide +kernel
theorem dc_M_fails_20 : decode cd_M_fails 20 = .ok (.getfield 167, 3) := by decide +kernel
theorem dc_M_fails_23 : decode cd_M_fails 23 = .ok (.ifCond .eq 8, 3) := by decide +kernel
theorem dc_M_fails_26 : decode cd_M_fails 26 = .ok (.bipush 6, 2) := by decide +kernel
theorem dc_M_fails_28 : decode cd_M_fails 28 = .ok (.goto 9, 3) := by decide +kernel
theorem dc_M_fails_31 : decode cd_M_fails 31 = .ok (.aload_n 0, 1) := by decide +kernel
theorem dc_M_fails_32 : decode cd_M_fails 32 = .ok (.getfield 171, 3) := by decide +kernel
theorem dc_M_fails_35 : decode cd_M_fails 35 = .ok (.iconst 1, 1) := by decide +kernel
theorem dc_M_fails_36 : decode cd_M_fails 36 = .ok (.iadd, 1) := by decide +kernel
theorem dc_M_fails_37 : decode cd_M_fails 37 = .ok (.putfield 171, 3) := by decide +kernel
theorem dc_M_fails_40 : decode cd_M_fails 40 = .ok (.aload_n 0, 1) := by decide +kernel
theorem dc_M_fails_41 : decode cd_M_fails 41 = .ok (.aload_n 0, 1) := by decide +kernel
theorem dc_M_fails_42 : decode cd_M_fails 42 = .ok (.getfield 167, 3) := by decide +kernel
theorem dc_M_fails_45 : decode cd_M_fails 45 = .ok (.ifCond .ne 7, 3) := by decide +kernel
theorem dc_M_fails_48 : decode cd_M_fails 48 = .ok (.iconst 1, 1) := by decide +kernel
theorem dc_M_fails_49 : decode cd_M_fails 49 = .ok (.goto 4, 3) := by decide +kernel
theorem dc_M_fails_52 : decode cd_M_fails 52 = .ok (.iconst 0, 1) := by decide +kernel
theorem dc_M_fails_53 : decode cd_M_fails 53 = .ok (.putfield 174, 3) := by decide +kernel
theorem dc_M_fails_56 : decode cd_M_fails 56 = .ok (.return_, 1) := by decide +kernel
theorem dc_M_callOn_0 : decode cd_M_callOn 0 = .ok (.aload_n 0, 1) := by decide +kernel
theorem dc_M_callOn_1 : decode cd_M_callOn 1 = .ok (.getfield 13, 3) := by decide +kernel
theorem dc_M_callOn_4 : decode cd_M_callOn 4 = .ok (.iload_n 1, 1) := by decide +kernel
theorem dc_M_callOn_5 : decode cd_M_callOn 5 = .ok (.iaload, 1) := by decide +kernel
theorem dc_M_callOn_6 : decode cd_M_callOn 6 = .ok (.istore 4, 2) := by decide +kernel
theorem dc_M_callOn_8 : decode cd_M_callOn 8 = .ok (.iload_n 3, 1) := by decide +kernel
theorem dc_M_callOn_9 : decode cd_M_callOn 9 = .ok (.iconst 1, 1) := by decide +kernel
theorem dc_M_callOn_10 : decode cd_M_callOn 10 = .ok (.if_icmp .ne 25, 3) := by decide +kernel
theorem dc_M_callOn_13 : decode cd_M_callOn 13 = .ok (.iload 4, 2) := by decide +kernel
theorem dc_M_callOn_15 : decode cd_M_callOn 15 = .ok (.invokestatic 91, 3) := by decide +kernel
theorem dc_M_callOn_18 : decode cd_M_callOn 18 = .ok (.iconst 2, 1) := by decide +kernel
theorem dc_M_callOn_19 : decode cd_M_callOn 19 = .ok (.if_icmp .ne 16, 3) := by decide +kernel
theorem dc_M_callOn_22 : decode cd_M_callOn 22 = .ok (.aload_n 0, 1) := by decide +kernel
theorem dc_M_callOn_23 : decode cd_M_callOn 23 = .ok (.aload_n 0, 1) := by decide +kernel
theorem dc_M_callOn_24 : decode cd_M_callOn 24 = .ok (.getfield 19, 3) := by decide +kernel
theorem dc_M_callOn_27 : decode cd_M_callOn 27 = .ok (.iload_n 1, 1) := by decide +kernel
theorem dc_M_callOn_28 : decode cd_M_callOn 28 = .ok (.iaload, 1) := by decide +kernel
theorem dc_M_callOn_29 : decode cd_M_callOn 29 = .ok (.invokevirtual 207, 3) := by decide +kernel
theorem dc_M_callOn_32 : decode cd_M_callOn 32 = .ok (.goto 86, 3) := by decide +kernel
theorem dc_M_callOn_35 : decode cd_M_callOn 35 = .ok (.iload_n 3, 1) := by decide +kernel
theorem dc_M_callOn_36 : decode cd_M_callOn 36 = .ok (.iconst 2, 1) := by decide +kernel
theorem dc_M_callOn_37 : decode cd_M_callOn 37 = .ok (.if_icmp .gt 63, 3) := by decide +kernel
theorem dc_M_callOn_40 : decode cd_M_callOn 40 = .ok (.iload_n 3, 1) := by decide +kernel
theorem dc_M_callOn_41 : decode cd_M_callOn 41 = .ok (.iload 4, 2) := by decide +kernel
theorem dc_M_callOn_43 : decode cd_M_callOn 43 = .ok (.invokestatic 91, 3) := by decide +kernel
theorem dc_M_callOn_46 : decode cd_M_callOn 46 = .ok (.if_icmp .ne 54, 3) := by decide +kernel
theorem dc_M_callOn_49 : decode cd_M_callOn 49 = .ok (.aload_n 0, 1) := by decide +kernel
theorem dc_M_callOn_50 : decode cd_M_callOn 50 = .ok (.getfield 50, 3) := by decide +kernel
theorem dc_M_callOn_53 : decode cd_M_callOn 53 = .ok (.iload_n 2, 1) := by decide +kernel
theorem dc_M_callOn_54 : decode cd_M_callOn 54 = .ok (.iconst 4, 1) := by decide +kernel
theorem dc_M_callOn_55 : decode cd_M_callOn 55 = .ok (.iastore, 1) := by decide +kernel
theorem dc_M_callOn_56 : decode cd_M_callOn 56 = .ok (.aload_n 0, 1) := by decide +kernel
theorem dc_M_callOn_57 : decode cd_M_callOn 57 = .ok (.iload 4, 2) := by decide +kernel
theorem dc_M_callOn_59 : decode cd_M_callOn 59 = .ok (.aload_n 0, 1) := by decide +kernel
theorem dc_M_callOn_60 : decode cd_M_callOn 60 = .ok (.getfield 56, 3) := by decide +kernel
theorem dc_M_callOn_63 : decode cd_M_callOn 63 = .ok (.iconst 2, 1) := by decide +kernel
theorem dc_M_callOn_64 : decode cd_M_callOn 64 = .ok (.iload_n 2, 1) := by decide +kernel
theorem dc_M_callOn_65 : decode cd_M_callOn 65 = .ok (.imul, 1) := by decide +kernel
theorem dc_M_callOn_66 : decode cd_M_callOn 66 = .ok (.iaload, 1) := by decide +kernel
theorem dc_M_callOn_67 : decode cd_M_callOn 67 = .ok (.aload_n 0, 1) := by decide +kernel
theorem dc_M_callOn_68 : decode cd_M_callOn 68 = .ok (.getfield 56, 3) := by decide +kernel
theorem dc_M_callOn_71 : decode cd_M_callOn 71 = .ok (.iconst 2, 1) := by decide +kernel
theorem dc_M_callOn_72 : decode cd_M_callOn 72 = .ok (.iload_n 2, 1) := by decide +kernel
theorem dc_M_callOn_73 : decode cd_M_callOn 73 = .ok (.imul, 1) := by decide +kernel
theorem dc_M_callOn_74 : decode cd_M_callOn 74 = .ok (.iconst 1, 1) := by decide +kernel
theorem dc_M_callOn_75 : decode cd_M_callOn 75 = .ok (.iadd, 1) := by decide +kernel
theorem dc_M_callOn_76 : decode cd_M_callOn 76 = .ok (.iaload, 1) := by decide +kernel
theorem dc_M_callOn_77 : decode cd_M_callOn 77 = .ok (.invokevirtual 210, 3) := by decide +kernel
theorem dc_M_callOn_80 : decode cd_M_callOn 80 = .ok (.aload_n 0, 1) := by decide +kernel
theorem dc_M_callOn_81 : decode cd_M_callOn 81 = .ok (.getfield 174, 3) := by decide +kernel
theorem dc_M_callOn_84 : decode cd_M_callOn 84 = .ok (.ifCond .eq 34, 3) := by decide +kernel
theorem dc_M_callOn_87 : decode cd_M_callOn 87 = .ok (.aload_n 0, 1) := by decide +kernel
theorem dc_M_callOn_88 : decode cd_M_callOn 88 = .ok (.dup, 1) := by decide +kernel
theorem dc_M_callOn_89 : decode cd_M_callOn 89 = .ok (.getfield 111, 3) := by decide +kernel
theorem dc_M_callOn_92 : decode cd_M_callOn 92 = .ok (.iconst 1, 1) := by decide +kernel
theorem dc_M_callOn_93 : decode cd_M_callOn 93 = .ok (.isub, 1) := by decide +kernel
theorem dc_M_callOn_94 : decode cd_M_callOn 94 = .ok (.putfield 111, 3) := by decide +kernel
theorem dc_M_callOn_97 : decode cd_M_callOn 97 = .ok (.goto 21, 3) := by decide +kernel
theorem dc_M_callOn_100 : decode cd_M_callOn 100 = .ok (.aload_n 0, 1) := by decide +kernel
theorem dc_M_callOn_101 : decode cd_M_callOn 101 = .ok (.dup, 1) := by decide +kernel
theorem dc_M_callOn_102 : decode cd_M_callOn 102 = .ok (.getfield 201, 3) := by decide +kernel
theorem dc_M_callOn_105 : decode cd_M_callOn 105 = .ok (.iconst 1, 1) := by decide +kernel
theorem dc_M_callOn_106 : decode cd_M_callOn 106 = .ok (.isub, 1) := by decide +kernel
theorem dc_M_callOn_107 : decode cd_M_callOn 107 = .ok (.putfield 201, 3) := by decide +kernel
theorem dc_M_callOn_110 : decode cd_M_callOn 110 = .ok (.aload_n 0, 1) := by decide +kernel
theorem dc_M_callOn_111 : decode cd_M_callOn 111 = .ok (.aload_n 0, 1) := by decide +kernel
theorem dc_M_callOn_112 : decode cd_M_callOn 112 = .ok (.getfield 125, 3) := by decide +kernel
theorem dc_M_callOn_115 : decode cd_M_callOn 115 = .ok (.invokevirtual 186, 3) := by decide +kernel
theorem dc_M_callOn_118 : decode cd_M_callOn 118 = .ok (.return_, 1) := by decide +kernel
theorem dc_M_call_0 : decode cd_M_call 0 = .ok (.aload_n 0, 1) := by decide +kernel
theorem dc_M_call_1 : decode cd_M_call 1 = .ok (.getfield 201, 3) := by decide +kernel
theorem dc_M_call_4 : decode cd_M_call 4 = .ok (.iconst 5, 1) := by decide +kernel
theorem dc_M_call_5 : decode cd_M_call 5 = .ok (.if_icmp .ne 9, 3) := by decide +kernel
theorem dc_M_call_8 : decode cd_M_call 8 = .ok (.aload_n 0, 1) := by decide +kernel
theorem dc_M_call_9 : decode cd_M_call 9 = .ok (.iconst 1, 1) := by decide +kernel
theorem dc_M_call_10 : decode cd_M_call 10 = .ok (.putfield 167, 3) := by decide +kernel
theorem dc_M_call_13 : decode cd_M_call 13 = .ok (.return_, 1) := by decide +kernel
theorem dc_M_call_14 : decode cd_M_call 14 = .ok (.aload_n 0, 1) := by decide +kernel
theorem dc_M_call_15 : decode cd_M_call 15 = .ok (.dup, 1) := by decide +kernel
theorem dc_M_call_16 : decode cd_M_call 16 = .ok (.getfield 204, 3) := by decide +kernel
theorem dc_M_call_19 : decode cd_M_call 19 = .ok (.iconst 1, 1) := by decide +kernel
theorem dc_M_call_20 : decode cd_M_call 20 = .ok (.iadd, 1) := by decide +kernel
theorem dc_M_call_21 : decode cd_M_call 21 = .ok (.putfield 204, 3) := by decide +kernel
theorem dc_M_call_24 : decode cd_M_call 24 = .ok (.aload_n 0, 1) := by decide +kernel
theorem dc_M_call_25 : decode cd_M_call 25 = .ok (.getfield 31, 3) := by decide +kernel
theorem dc_M_call_28 : decode cd_M_call 28 = .ok (.iload_n 1, 1) := by decide +kernel
theorem dc_M_call_29 : decode cd_M_call 29 = .ok (.iaload, 1) := by decide +kernel
theorem dc_M_call_30 : decode cd_M_call 30 = .ok (.ifCond .ge 8, 3) := by decide +kernel
theorem dc_M_call_33 : decode cd_M_call 33 = .ok (.aload_n 0, 1) := by decide +kernel
theorem dc_M_call_34 : decode cd_M_call 34 = .ok (.invokevirtual 177, 3) := by decide +kernel
theorem dc_M_call_37 : decode cd_M_call 37 = .ok (.return_, 1) := by decide +kernel
theorem dc_M_call_38 : decode cd_M_call 38 = .ok (.aload_n 0, 1) := by decide +kernel
theorem dc_M_call_39 : decode cd_M_call 39 = .ok (.dup, 1) := by decide +kernel
theorem dc_M_call_40 : decode cd_M_call 40 = .ok (.getfield 201, 3) := by decide +kernel
theorem dc_M_call_43 : decode cd_M_call 43 = .ok (.iconst 1, 1) := by decide +kernel
theorem dc_M_call_44 : decode cd_M_call 44 = .ok (.iadd, 1) := by decide +kernel
theorem dc_M_call_45 : decode cd_M_call 45 = .ok (.putfield 201, 3) := by decide +kernel
theorem dc_M_call_48 : decode cd_M_call 48 = .ok (.aload_n 0, 1) := by decide +kernel
theorem dc_M_call_49 : decode cd_M_call 49 = .ok (.aload_n 0, 1) := by decide +kernel
theorem dc_M_call_50 : decode cd_M_call 50 = .ok (.getfield 31, 3) := by decide +kernel
theorem dc_M_call_53 : decode cd_M_call 53 = .ok (.iload_n 1, 1) := by decide +kernel
theorem dc_M_call_54 : decode cd_M_call 54 = .ok (.iaload, 1) := by decide +kernel
theorem dc_M_call_55 : decode cd_M_call 55 = .ok (.invokevirtual 207, 3) := by decide +kernel
theorem dc_M_call_58 : decode cd_M_call 58 = .ok (.aload_n 0, 1) := by decide +kernel
theorem dc_M_call_59 : decode cd_M_call 59 = .ok (.getfield 167, 3) := by decide +kernel
theorem dc_M_call_62 : decode cd_M_call 62 = .ok (.ifCond .ne 63, 3) := by decide +kernel
theorem dc_M_call_65 : decode cd_M_call 65 = .ok (.iconst 4, 1) := by decide +kernel
theorem dc_M_call_66 : decode cd_M_call 66 = .ok (.aload_n 0, 1) := by decide +kernel
theorem dc_M_call_67 : decode cd_M_call 67 = .ok (.getfield 111, 3) := by decide +kernel
theorem dc_M_call_70 : decode cd_M_call 70 = .ok (.iconst 1, 1) := by decide +kernel
theorem dc_M_call_71 : decode cd_M_call 71 = .ok (.isub, 1) := by decide +kernel
theorem dc_M_call_72 : decode cd_M_call 72 = .ok (.imul, 1) := by decide +kernel
theorem dc_M_call_73 : decode cd_M_call 73 = .ok (.istore 4, 2) := by decide +kernel
theorem dc_M_call_75 : decode cd_M_call 75 = .ok (.aload_n 0, 1) := by decide +kernel
theorem dc_M_call_76 : decode cd_M_call 76 = .ok (.getfield 53, 3) := by decide +kernel
theorem dc_M_call_79 : decode cd_M_call 79 = .ok (.iload 4, 2) := by decide +kernel
theorem dc_M_call_81 : decode cd_M_call 81 = .ok (.iload_n 2, 1) := by decide +kernel
theorem dc_M_call_82 : decode cd_M_call 82 = .ok (.iastore, 1) := by decide +kernel
theorem dc_M_call_83 : decode cd_M_call 83 = .ok (.aload_n 0, 1) := by decide +kernel
theorem dc_M_call_84 : decode cd_M_call 84 = .ok (.getfield 53, 3) := by decide +kernel
theorem dc_M_call_87 : decode cd_M_call 87 = .ok (.iload 4, 2) := by decide +kernel
theorem dc_M_call_89 : decode cd_M_call 89 = .ok (.iconst 1, 1) := by decide +kernel
theorem dc_M_call_90 : decode cd_M_call 90 = .ok (.iadd, 1) := by decide +kernel
theorem dc_M_call_91 : decode cd_M_call 91 = .ok (.iload_n 1, 1) := by decide +kernel
theorem dc_M_call_92 : decode cd_M_call 92 = .ok (.invokestatic 91, 3) := by decide +kernel
theorem dc_M_call_95 : decode cd_M_call 95 = .ok (.iconst 1, 1) := by decide +kernel
theorem dc_M_call_96 : decode cd_M_call 96 = .ok (.if_icmp .ne 7, 3) := by decide +kernel
theorem dc_M_call_99 : decode cd_M_call 99 = .ok (.iconst (-1), 1) := by decide +kernel
theorem dc_M_call_100 : decode cd_M_call 100 = .ok (.goto 4, 3) := by decide +kernel
theorem dc_M_call_103 : decode cd_M_call 103 = .ok (.iload_n 3, 1) := by decide +kernel
theorem dc_M_call_104 : decode cd_M_call 104 = .ok (.iastore, 1) := by decide +kernel
theorem dc_M_call_105 : decode cd_M_call 105 = .ok (.aload_n 0, 1) := by decide +kernel
theorem dc_M_call_106 : decode cd_M_call 106 = .ok (.getfield 53, 3) := by decide +kernel
theorem dc_M_call_109 : decode cd_M_call 109 = .ok (.iload 4, 2) := by decide +kernel
theorem dc_M_call_111 : decode cd_M_call 111 = .ok (.iconst 2, 1) := by decide +kernel
theorem dc_M_call_112 : decode cd_M_call 112 = .ok (.iadd, 1) := by decide +kernel
theorem dc_M_call_113 : decode cd_M_call 113 = .ok (.iconst (-1), 1) := by decide +kernel
theorem dc_M_call_114 : decode cd_M_call 114 = .ok (.iastore, 1) := by decide +kernel
theorem dc_M_call_115 : decode cd_M_call 115 = .ok (.aload_n 0, 1) := by decide +kernel
theorem dc_M_call_116 : decode cd_M_call 116 = .ok (.getfield 53, 3) := by decide +kernel
theorem dc_M_call_119 : decode cd_M_call 119 = .ok (.iload 4, 2) := by decide +kernel
theorem dc_M_call_121 : decode cd_M_call 121 = .ok (.iconst 3, 1) := by decide +kernel
theorem dc_M_call_122 : decode cd_M_call 122 = .ok (.iadd, 1) := by decide +kernel
theorem dc_M_call_123 : decode cd_M_call 123 = .ok (.iconst (-1), 1) := by decide +kernel
theorem dc_M_call_124 : decode cd_M_call 124 = .ok (.iastore, 1) := by decide +kernel
theorem dc_M_call_125 : decode cd_M_call 125 = .ok (.return_, 1) := by decide +kernel
theorem dc_M_combine_0 : decode cd_M_combine 0 = .ok (.iload_n 1, 1) := by decide +kernel
theorem dc_M_combine_1 : decode cd_M_combine 1 = .ok (.bipush 6, 2) := by decide +kernel
theorem dc_M_combine_3 : decode cd_M_combine 3 = .ok (.if_icmp .ne 12, 3) := by decide +kernel
theorem dc_M_combine_6 : decode cd_M_combine 6 = .ok (.aload_n 0, 1) := by decide +kernel
theorem dc_M_combine_7 : decode cd_M_combine 7 = .ok (.iload_n 2, 1) := by decide +kernel
theorem dc_M_combine_8 : decode cd_M_combine 8 = .ok (.iload_n 3, 1) := by decide +kernel
theorem dc_M_combine_9 : decode cd_M_combine 9 = .ok (.invokevirtual 189, 3) := by decide +kernel
theorem dc_M_combine_12 : decode cd_M_combine 12 = .ok (.goto 117, 3) := by decide +kernel
theorem dc_M_combine_15 : decode cd_M_combine 15 = .ok (.iload_n 1, 1) := by decide +kernel
theorem dc_M_combine_16 : decode cd_M_combine 16 = .ok (.bipush 13, 2) := by decide +kernel
theorem dc_M_combine_18 : decode cd_M_combine 18 = .ok (.if_icmp .ne 29, 3) := by decide +kernel
theorem dc_M_combine_21 : decode cd_M_combine 21 = .ok (.aload_n 0, 1) := by decide +kernel
theorem dc_M_combine_22 : decode cd_M_combine 22 = .ok (.aload_n 0, 1) := by decide +kernel
theorem dc_M_combine_23 : decode cd_M_combine 23 = .ok (.aload_n 0, 1) := by decide +kernel
theorem dc_M_combine_24 : decode cd_M_combine 24 = .ok (.iload_n 2, 1) := by decide +kernel
theorem dc_M_combine_25 : decode cd_M_combine 25 = .ok (.iload_n 3, 1) := by decide +kernel
theorem dc_M_combine_26 : decode cd_M_combine 26 = .ok (.invokevirtual 192, 3) := by decide +kernel
theorem dc_M_combine_29 : decode cd_M_combine 29 = .ok (.ifCond .eq 7, 3) := by decide +kernel
theorem dc_M_combine_32 : decode cd_M_combine 32 = .ok (.iconst 1, 1) := by decide +kernel
theorem dc_M_combine_33 : decode cd_M_combine 33 = .ok (.goto 4, 3) := by decide +kernel
theorem dc_M_combine_36 : decode cd_M_combine 36 = .ok (.iconst 0, 1) := by decide +kernel
theorem dc_M_combine_37 : decode cd_M_combine 37 = .ok (.iconst 0, 1) := by decide +kernel
theorem dc_M_combine_38 : decode cd_M_combine 38 = .ok (.invokevirtual 183, 3) := by decide +kernel
theorem dc_M_combine_41 : decode cd_M_combine 41 = .ok (.invokevirtual 186, 3) := by decide +kernel
theorem dc_M_combine_44 : decode cd_M_combine 44 = .ok (.goto 85, 3) := by decide +kernel
theorem dc_M_combine_47 : decode cd_M_combine 47 = .ok (.aload_n 0, 1) := by decide +kernel
theorem dc_M_combine_48 : decode cd_M_combine 48 = .ok (.getfield 59, 3) := by decide +kernel
theorem dc_M_combine_51 : decode cd_M_combine 51 = .ok (.iload_n 2, 1) := by decide +kernel
theorem dc_M_combine_52 : decode cd_M_combine 52 = .ok (.iaload, 1) := by decide +kernel
theorem dc_M_combine_53 : decode cd_M_combine 53 = .ok (.invokestatic 195, 3) := by decide +kernel
theorem dc_M_combine_56 : decode cd_M_combine 56 = .ok (.ifCond .eq 69, 3) := by decide +kernel
theorem dc_M_combine_59 : decode cd_M_combine 59 = .ok (.aload_n 0, 1) := by decide +kernel
theorem dc_M_combine_60 : decode cd_M_combine 60 = .ok (.getfield 59, 3) := by decide +kernel
theorem dc_M_combine_63 : decode cd_M_combine 63 = .ok (.iload_n 3, 1) := by decide +kernel
theorem dc_M_combine_64 : decode cd_M_combine 64 = .ok (.iaload, 1) := by decide +kernel
theorem dc_M_combine_65 : decode cd_M_combine 65 = .ok (.invokestatic 195, 3) := by decide +kernel
theorem dc_M_combine_68 : decode cd_M_combine 68 = .ok (.ifCond .eq 57, 3) := by decide +kernel
theorem dc_M_combine_71 : decode cd_M_combine 71 = .ok (.iload_n 1, 1) := by decide +kernel
theorem dc_M_combine_72 : decode cd_M_combine 72 = .ok (.iconst 4, 1) := by decide +kernel
theorem dc_M_combine_73 : decode cd_M_combine 73 = .ok (.if_icmp .ne 19, 3) := by decide +kernel
theorem dc_M_combine_76 : decode cd_M_combine 76 = .ok (.aload_n 0, 1) := by decide +kernel
theorem dc_M_combine_77 : decode cd_M_combine 77 = .ok (.getfield 62, 3) := by decide +kernel
theorem dc_M_combine_80 : decode cd_M_combine 80 = .ok (.iload_n 2, 1) := by decide +kernel
theorem dc_M_combine_81 : decode cd_M_combine 81 = .ok (.iaload, 1) := by decide +kernel
theorem dc_M_combine_82 : decode cd_M_combine 82 = .ok (.aload_n 0, 1) := by decide +kernel
theorem dc_M_combine_83 : decode cd_M_combine 83 = .ok (.getfield 62, 3) := by decide +kernel
theorem dc_M_combine_86 : decode cd_M_combine 86 = .ok (.iload_n 3, 1) := by decide +kernel
theorem dc_M_combine_87 : decode cd_M_combine 87 = .ok (.iaload, 1) := by decide +kernel
theorem dc_M_combine_88 : decode cd_M_combine 88 = .ok (.iadd, 1) := by decide +kernel
theorem dc_M_combine_89 : decode cd_M_combine 89 = .ok (.goto 16, 3) := by decide +kernel
theorem dc_M_combine_92 : decode cd_M_combine 92 = .ok (.aload_n 0, 1) := by decide +kernel
theorem dc_M_combine_93 : decode cd_M_combine 93 = .ok (.getfield 62, 3) := by decide +kernel
theorem dc_M_combine_96 : decode cd_M_combine 96 = .ok (.iload_n 2, 1) := by decide +kernel
theorem dc_M_combine_97 : decode cd_M_combine 97 = .ok (.iaload, 1) := by decide +kernel
theorem dc_M_combine_98 : decode cd_M_combine 98 = .ok (.aload_n 0, 1) := by decide +kernel
theorem dc_M_combine_99 : decode cd_M_combine 99 = .ok (.getfield 62, 3) := by decide +kernel
theorem dc_M_combine_102 : decode cd_M_combine 102 = .ok (.iload_n 3, 1) := by decide +kernel
theorem dc_M_combine_103 : decode cd_M_combine 103 = .ok (.iaload, 1) := by decide +kernel
theorem dc_M_combine_104 : decode cd_M_combine 104 = .ok (.isub, 1) := by decide +kernel
theorem dc_M_combine_105 : decode cd_M_combine 105 = .ok (.istore 4, 2) := by decide +kernel
theorem dc_M_combine_107 : decode cd_M_combine 107 = .ok (.aload_n 0, 1) := by decide +kernel
theorem dc_M_combine_108 : decode cd_M_combine 108 = .ok (.aload_n 0, 1) := by decide +kernel
theorem dc_M_combine_109 : decode cd_M_combine 109 = .ok (.iload 4, 2) := by decide +kernel
theorem dc_M_combine_111 : decode cd_M_combine 111 = .ok (.invokestatic 122, 3) := by decide +kernel
theorem dc_M_combine_114 : decode cd_M_combine 114 = .ok (.iload 4, 2) := by decide +kernel
theorem dc_M_combine_116 : decode cd_M_combine 116 = .ok (.invokevirtual 183, 3) := by decide +kernel
theorem dc_M_combine_119 : decode cd_M_combine 119 = .ok (.invokevirtual 186, 3) := by decide +kernel
theorem dc_M_combine_122 : decode cd_M_combine 122 = .ok (.goto 7, 3) := by decide +kernel
theorem dc_M_combine_125 : decode cd_M_combine 125 = .ok (.aload_n 0, 1) := by decide +kernel
theorem dc_M_combine_126 : decode cd_M_combine 126 = .ok (.invokevirtual 198, 3) := by decide +kernel
theorem dc_M_combine_129 : decode cd_M_combine 129 = .ok (.return_, 1) := by decide +kernel
theorem dc_M_pair_0 : decode cd_M_pair 0 = .ok (.aload_n 0, 1) := by decide +kernel
theorem dc_M_pair_1 : decode cd_M_pair 1 = .ok (.getfield 180, 3) := by decide +kernel
theorem dc_M_pair_4 : decode cd_M_pair 4 = .ok (.bipush 40, 2) := by decide +kernel
theorem dc_M_pair_6 : decode cd_M_pair 6 = .ok (.if_icmp .ne 9, 3) := by decide +kernel
theorem dc_M_pair_9 : decode cd_M_pair 9 = .ok (.aload_n 0, 1) := by decide +kernel
theorem dc_M_pair_10 : decode cd_M_pair 10 = .ok (.iconst 1, 1) := by decide +kernel
theorem dc_M_pair_11 : decode cd_M_pair 11 = .ok (.putfield 167, 3) := by decide +kernel
theorem dc_M_pair_14 : decode cd_M_pair 14 = .ok (.return_, 1) := by decide +kernel
theorem dc_M_pair_15 : decode cd_M_pair 15 = .ok (.aload_n 0, 1) := by decide +kernel
theorem dc_M_pair_16 : decode cd_M_pair 16 = .ok (.dup, 1) := by decide +kernel
theorem dc_M_pair_17 : decode cd_M_pair 17 = .ok (.getfield 180, 3) := by decide +kernel
theorem dc_M_pair_20 : decode cd_M_pair 20 = .ok (.iconst 1, 1) := by decide +kernel
theorem dc_M_pair_21 : decode cd_M_pair 21 = .ok (.iadd, 1) := by decide +kernel
theorem dc_M_pair_22 : decode cd_M_pair 22 = .ok (.putfield 180, 3) := by decide +kernel
theorem dc_M_pair_25 : decode cd_M_pair 25 = .ok (.aload_n 0, 1) := by decide +kernel
theorem dc_M_pair_26 : decode cd_M_pair 26 = .ok (.bipush 8, 2) := by decide +kernel
theorem dc_M_pair_28 : decode cd_M_pair 28 = .ok (.iconst 0, 1) := by decide +kernel
theorem dc_M_pair_29 : decode cd_M_pair 29 = .ok (.invokevirtual 183, 3) := by decide +kernel
theorem dc_M_pair_32 : decode cd_M_pair 32 = .ok (.istore_n 3, 1) := by decide +kernel
theorem dc_M_pair_33 : decode cd_M_pair 33 = .ok (.aload_n 0, 1) := by decide +kernel
theorem dc_M_pair_34 : decode cd_M_pair 34 = .ok (.getfield 65, 3) := by decide +kernel
theorem dc_M_pair_37 : decode cd_M_pair 37 = .ok (.iload_n 3, 1) := by decide +kernel
theorem dc_M_pair_38 : decode cd_M_pair 38 = .ok (.iload_n 1, 1) := by decide +kernel
theorem dc_M_pair_39 : decode cd_M_pair 39 = .ok (.iastore, 1) := by decide +kernel
theorem dc_M_pair_40 : decode cd_M_pair 40 = .ok (.aload_n 0, 1) := by decide +kernel
theorem dc_M_pair_41 : decode cd_M_pair 41 = .ok (.getfield 68, 3) := by decide +kernel
theorem dc_M_pair_44 : decode cd_M_pair 44 = .ok (.iload_n 3, 1) := by decide +kernel
theorem dc_M_pair_45 : decode cd_M_pair 45 = .ok (.iload_n 2, 1) := by decide +kernel
theorem dc_M_pair_46 : decode cd_M_pair 46 = .ok (.iastore, 1) := by decide +kernel
theorem dc_M_pair_47 : decode cd_M_pair 47 = .ok (.aload_n 0, 1) := by decide +kernel
theorem dc_M_pair_48 : decode cd_M_pair 48 = .ok (.iload_n 3, 1) := by decide +kernel
theorem dc_M_pair_49 : decode cd_M_pair 49 = .ok (.invokevirtual 186, 3) := by decide +kernel
theorem dc_M_pair_52 : decode cd_M_pair 52 = .ok (.return_, 1) := by decide +kernel
theorem dc_M_same_0 : decode cd_M_same 0 = .ok (.iconst 1, 1) := by decide +kernel
theorem dc_M_same_1 : decode cd_M_same 1 = .ok (.istore_n 3, 1) := by decide +kernel
theorem dc_M_same_2 : decode cd_M_same 2 = .ok (.aload_n 0, 1) := by decide +kernel
theorem dc_M_same_3 : decode cd_M_same 3 = .ok (.getfield 71, 3) := by decide +kernel
theorem dc_M_same_6 : decode cd_M_same 6 = .ok (.iconst 0, 1) := by decide +kernel
theorem dc_M_same_7 : decode cd_M_same 7 = .ok (.iload_n 1, 1) := by decide +kernel
theorem dc_M_same_8 : decode cd_M_same 8 = .ok (.iastore, 1) := by decide +kernel
theorem dc_M_same_9 : decode cd_M_same 9 = .ok (.aload_n 0, 1) := by decide +kernel
theorem dc_M_same_10 : decode cd_M_same 10 = .ok (.getfield 74, 3) := by decide +kernel
theorem dc_M_same_13 : decode cd_M_same 13 = .ok (.iconst 0, 1) := by decide +kernel
theorem dc_M_same_14 : decode cd_M_same 14 = .ok (.iload_n 2, 1) := by decide +kernel
theorem dc_M_same_15 : decode cd_M_same 15 = .ok (.iastore, 1) := by decide +kernel
theorem dc_M_same_16 : decode cd_M_same 16 = .ok (.iload_n 3, 1) := by decide +kernel
theorem dc_M_same_17 : decode cd_M_same 17 = .ok (.ifCond .le 139, 3) := by decide +kernel
theorem dc_M_same_20 : decode cd_M_same 20 = .ok (.iinc 3 (-1), 3) := by decide +kernel
theorem dc_M_same_23 : decode cd_M_same 23 = .ok (.aload_n 0, 1) := by decide +kernel
theorem dc_M_same_24 : decode cd_M_same 24 = .ok (.getfield 71, 3) := by decide +kernel
theorem dc_M_same_27 : decode cd_M_same 27 = .ok (.iload_n 3, 1) := by decide +kernel
theorem dc_M_same_28 : decode cd_M_same 28 = .ok (.iaload, 1) := by decide +kernel
theorem dc_M_same_29 : decode cd_M_same 29 = .ok (.istore 4, 2) := by decide +kernel
theorem dc_M_same_31 : decode cd_M_same 31 = .ok (.aload_n 0, 1) := by decide +kernel
theorem dc_M_same_32 : decode cd_M_same 32 = .ok (.getfield 74, 3) := by decide +kernel
theorem dc_M_same_35 : decode cd_M_same 35 = .ok (.iload_n 3, 1) := by decide +kernel
theorem dc_M_same_36 : decode cd_M_same 36 = .ok (.iaload, 1) := by decide +kernel
theorem dc_M_same_37 : decode cd_M_same 37 = .ok (.istore 5, 2) := by decide +kernel
theorem dc_M_same_39 : decode cd_M_same 39 = .ok (.iload 4, 2) := by decide +kernel
theorem dc_M_same_41 : decode cd_M_same 41 = .ok (.iload 5, 2) := by decide +kernel
theorem dc_M_same_43 : decode cd_M_same 43 = .ok (.if_icmp .eq 110, 3) := by decide +kernel
theorem dc_M_same_46 : decode cd_M_same 46 = .ok (.aload_n 0, 1) := by decide +kernel
theorem dc_M_same_47 : decode cd_M_same 47 = .ok (.getfield 59, 3) := by decide +kernel
theorem dc_M_same_50 : decode cd_M_same 50 = .ok (.iload 4, 2) := by decide +kernel
theorem dc_M_same_52 : decode cd_M_same 52 = .ok (.iaload, 1) := by decide +kernel
theorem dc_M_same_53 : decode cd_M_same 53 = .ok (.aload_n 0, 1) := by decide +kernel
theorem dc_M_same_54 : decode cd_M_same 54 = .ok (.getfield 59, 3) := by decide +kernel
theorem dc_M_same_57 : decode cd_M_same 57 = .ok (.iload 5, 2) := by decide +kernel
theorem dc_M_same_59 : decode cd_M_same 59 = .ok (.iaload, 1) := by decide +kernel
theorem dc_M_same_60 : decode cd_M_same 60 = .ok (.if_icmp .ne 20, 3) := by decide +kernel
theorem dc_M_same_63 : decode cd_M_same 63 = .ok (.aload_n 0, 1) := by decide +kernel
theorem dc_M_same_64 : decode cd_M_same 64 = .ok (.getfield 62, 3) := by decide +kernel
theorem dc_M_same_67 : decode cd_M_same 67 = .ok (.iload 4, 2) := by decide +kernel
theorem dc_M_same_69 : decode cd_M_same 69 = .ok (.iaload, 1) := by decide +kernel
theorem dc_M_same_70 : decode cd_M_same 70 = .ok (.aload_n 0, 1) := by decide +kernel
theorem dc_M_same_71 : decode cd_M_same 71 = .ok (.getfield 62, 3) := by decide +kernel
theorem dc_M_same_74 : decode cd_M_same 74 = .ok (.iload 5, 2) := by decide +kernel
theorem dc_M_same_76 : decode cd_M_same 76 = .ok (.iaload, 1) := by decide +kernel
theorem dc_M_same_77 : decode cd_M_same 77 = .ok (.if_icmp .eq 5, 3) := by decide +kernel
theorem dc_M_same_80 : decode cd_M_same 80 = .ok (.iconst 0, 1) := by decide +kernel
theorem dc_M_same_81 : decode cd_M_same 81 = .ok (.ireturn, 1) := by decide +kernel
theorem dc_M_same_82 : decode cd_M_same 82 = .ok (.aload_n 0, 1) := by decide +kernel
theorem dc_M_same_83 : decode cd_M_same 83 = .ok (.getfield 59, 3) := by decide +kernel
theorem dc_M_same_86 : decode cd_M_same 86 = .ok (.iload 4, 2) := by decide +kernel
theorem dc_M_same_88 : decode cd_M_same 88 = .ok (.iaload, 1) := by decide +kernel
theorem dc_M_same_89 : decode cd_M_same 89 = .ok (.bipush 8, 2) := by decide +kernel
theorem dc_M_same_91 : decode cd_M_same 91 = .ok (.if_icmp .ne 62, 3) := by decide +kernel
theorem dc_M_same_94 : decode cd_M_same 94 = .ok (.aload_n 0, 1) := by decide +kernel
theorem dc_M_same_95 : decode cd_M_same 95 = .ok (.getfield 71, 3) := by decide +kernel
theorem dc_M_same_98 : decode cd_M_same 98 = .ok (.iload_n 3, 1) := by decide +kernel
theorem dc_M_same_99 : decode cd_M_same 99 = .ok (.aload_n 0, 1) := by decide +kernel
theorem dc_M_same_100 : decode cd_M_same 100 = .ok (.getfield 68, 3) := by decide +kernel
theorem dc_M_same_103 : decode cd_M_same 103 = .ok (.iload 4, 2) := by decide +kernel
theorem dc_M_same_105 : decode cd_M_same 105 = .ok (.iaload, 1) := by decide +kernel
theorem dc_M_same_106 : decode cd_M_same 106 = .ok (.iastore, 1) := by decide +kernel
theorem dc_M_same_107 : decode cd_M_same 107 = .ok (.aload_n 0, 1) := by decide +kernel
theorem dc_M_same_108 : decode cd_M_same 108 = .ok (.getfield 74, 3) := by decide +kernel
theorem dc_M_same_111 : decode cd_M_same 111 = .ok (.iload_n 3, 1) := by decide +kernel
theorem dc_M_same_112 : decode cd_M_same 112 = .ok (.aload_n 0, 1) := by decide +kernel
theorem dc_M_same_113 : decode cd_M_same 113 = .ok (.getfield 68, 3) := by decide +kernel
theorem dc_M_same_116 : decode cd_M_same 116 = .ok (.iload 5, 2) := by decide +kernel
theorem dc_M_same_118 : decode cd_M_same 118 = .ok (.iaload, 1) := by decide +kernel
theorem dc_M_same_119 : decode cd_M_same 119 = .ok (.iastore, 1) := by decide +kernel
theorem dc_M_same_120 : decode cd_M_same 120 = .ok (.aload_n 0, 1) := by decide +kernel
theorem dc_M_same_121 : decode cd_M_same 121 = .ok (.getfield 71, 3) := by decide +kernel
theorem dc_M_same_124 : decode cd_M_same 124 = .ok (.iload_n 3, 1) := by decide +kernel
theorem dc_M_same_125 : decode cd_M_same 125 = .ok (.iconst 1, 1) := by decide +kernel
theorem dc_M_same_126 : decode cd_M_same 126 = .ok (.iadd, 1) := by decide +kernel
theorem dc_M_same_127 : decode cd_M_same 127 = .ok (.aload_n 0, 1) := by decide +kernel
theorem dc_M_same_128 : decode cd_M_same 128 = .ok (.getfield 65, 3) := by decide +kernel
theorem dc_M_same_131 : decode cd_M_same 131 = .ok (.iload 4, 2) := by decide +kernel
theorem dc_M_same_133 : decode cd_M_same 133 = .ok (.iaload, 1) := by decide +kernel
theorem dc_M_same_134 : decode cd_M_same 134 = .ok (.iastore, 1) := by decide +kernel
theorem dc_M_same_135 : decode cd_M_same 135 = .ok (.aload_n 0, 1) := by decide +kernel
theorem dc_M_same_136 : decode cd_M_same 136 = .ok (.getfield 74, 3) := by decide +kernel
theorem dc_M_same_139 : decode cd_M_same 139 = .ok (.iload_n 3, 1) := by decide +kernel
theorem dc_M_same_140 : decode cd_M_same 140 = .ok (.iconst 1, 1) := by decide +kernel
theorem dc_M_same_141 : decode cd_M_same 141 = .ok (.iadd, 1) := by decide +kernel
theorem dc_M_same_142 : decode cd_M_same 142 = .ok (.aload_n 0, 1) := by decide +kernel
theorem dc_M_same_143 : decode cd_M_same 143 = .ok (.getfield 65, 3) := by decide +kernel
theorem dc_M_same_146 : decode cd_M_same 146 = .ok (.iload 5, 2) := by decide +kernel
theorem dc_M_same_148 : decode cd_M_same 148 = .ok (.iaload, 1) := by decide +kernel
theorem dc_M_same_149 : decode cd_M_same 149 = .ok (.iastore, 1) := by decide +kernel
theorem dc_M_same_150 : decode cd_M_same 150 = .ok (.iinc 3 2, 3) := by decide +kernel
theorem dc_M_same_153 : decode cd_M_same 153 = .ok (.goto (-137), 3) := by decide +kernel
theorem dc_M_same_156 : decode cd_M_same 156 = .ok (.iconst 1, 1) := by decide +kernel
theorem dc_M_same_157 : decode cd_M_same 157 = .ok (.ireturn, 1) := by decide +kernel
theorem dc_M_isNumber_0 : decode cd_M_isNumber 0 = .ok (.iload_n 0, 1) := by decide +kernel
theorem dc_M_isNumber_1 : decode cd_M_isNumber 1 = .ok (.iconst 4, 1) := by decide +kernel
theorem dc_M_isNumber_2 : decode cd_M_isNumber 2 = .ok (.if_icmp .lt 13, 3) := by decide +kernel
theorem dc_M_isNumber_5 : decode cd_M_isNumber 5 = .ok (.iload_n 0, 1) := by decide +kernel
theorem dc_M_isNumber_6 : decode cd_M_isNumber 6 = .ok (.bipush 6, 2) := by decide +kernel
theorem dc_M_isNumber_8 : decode cd_M_isNumber 8 = .ok (.if_icmp .gt 7, 3) := by decide +kernel
theorem dc_M_isNumber_11 : decode cd_M_isNumber 11 = .ok (.iconst 1, 1) := by decide +kernel
theorem dc_M_isNumber_12 : decode cd_M_isNumber 12 = .ok (.goto 4, 3) := by decide +kernel
theorem dc_M_isNumber_15 : decode cd_M_isNumber 15 = .ok (.iconst 0, 1) := by decide +kernel
theorem dc_M_isNumber_16 : decode cd_M_isNumber 16 = .ok (.ireturn, 1) := by decide +kernel
theorem dc_M_flatten_0 : decode cd_M_flatten 0 = .ok (.iconst 1, 1) := by decide +kernel
theorem dc_M_flatten_1 : decode cd_M_flatten 1 = .ok (.istore_n 2, 1) := by decide +kernel
theorem dc_M_flatten_2 : decode cd_M_flatten 2 = .ok (.aload_n 0, 1) := by decide +kernel
theorem dc_M_flatten_3 : decode cd_M_flatten 3 = .ok (.getfield 71, 3) := by decide +kernel
theorem dc_M_flatten_6 : decode cd_M_flatten 6 = .ok (.iconst 0, 1) := by decide +kernel
theorem dc_M_flatten_7 : decode cd_M_flatten 7 = .ok (.iload_n 1, 1) := by decide +kernel
theorem dc_M_flatten_8 : decode cd_M_flatten 8 = .ok (.iastore, 1) := by decide +kernel
theorem dc_M_flatten_9 : decode cd_M_flatten 9 = .ok (.aload_n 0, 1) := by decide +kernel
theorem dc_M_flatten_10 : decode cd_M_flatten 10 = .ok (.iconst 0, 1) := by decide +kernel
theorem dc_M_flatten_11 : decode cd_M_flatten 11 = .ok (.putfield 232, 3) := by decide +kernel
theorem dc_M_flatten_14 : decode cd_M_flatten 14 = .ok (.iload_n 2, 1) := by decide +kernel
theorem dc_M_flatten_15 : decode cd_M_flatten 15 = .ok (.ifCond .le 111, 3) := by decide +kernel
theorem dc_M_flatten_18 : decode cd_M_flatten 18 = .ok (.aload_n 0, 1) := by decide +kernel
theorem dc_M_flatten_19 : decode cd_M_flatten 19 = .ok (.getfield 232, 3) := by decide +kernel
theorem dc_M_flatten_22 : decode cd_M_flatten 22 = .ok (.bipush 60, 2) := by decide +kernel
theorem dc_M_flatten_24 : decode cd_M_flatten 24 = .ok (.if_icmp .ge 102, 3) := by decide +kernel
theorem dc_M_flatten_27 : decode cd_M_flatten 27 = .ok (.iinc 2 (-1), 3) := by decide +kernel
theorem dc_M_flatten_30 : decode cd_M_flatten 30 = .ok (.aload_n 0, 1) := by decide +kernel
theorem dc_M_flatten_31 : decode cd_M_flatten 31 = .ok (.getfield 71, 3) := by decide +kernel
theorem dc_M_flatten_34 : decode cd_M_flatten 34 = .ok (.iload_n 2, 1) := by decide +kernel
theorem dc_M_flatten_35 : decode cd_M_flatten 35 = .ok (.iaload, 1) := by decide +kernel
theorem dc_M_flatten_36 : decode cd_M_flatten 36 = .ok (.istore_n 3, 1) := by decide +kernel
theorem dc_M_flatten_37 : decode cd_M_flatten 37 = .ok (.aload_n 0, 1) := by decide +kernel
theorem dc_M_flatten_38 : decode cd_M_flatten 38 = .ok (.getfield 77, 3) := by decide +kernel
theorem dc_M_flatten_41 : decode cd_M_flatten 41 = .ok (.aload_n 0, 1) := by decide +kernel
theorem dc_M_flatten_42 : decode cd_M_flatten 42 = .ok (.getfield 232, 3) := by decide +kernel
theorem dc_M_flatten_45 : decode cd_M_flatten 45 = .ok (.aload_n 0, 1) := by decide +kernel
theorem dc_M_flatten_46 : decode cd_M_flatten 46 = .ok (.getfield 59, 3) := by decide +kernel
theorem dc_M_flatten_49 : decode cd_M_flatten 49 = .ok (.iload_n 3, 1) := by decide +kernel
theorem dc_M_flatten_50 : decode cd_M_flatten 50 = .ok (.iaload, 1) := by decide +kernel
theorem dc_M_flatten_51 : decode cd_M_flatten 51 = .ok (.invokestatic 195, 3) := by decide +kernel
theorem dc_M_flatten_54 : decode cd_M_flatten 54 = .ok (.ifCond .eq 12, 3) := by decide +kernel
theorem dc_M_flatten_57 : decode cd_M_flatten 57 = .ok (.aload_n 0, 1) := by decide +kernel
theorem dc_M_flatten_58 : decode cd_M_flatten 58 = .ok (.getfield 62, 3) := by decide +kernel
theorem dc_M_flatten_61 : decode cd_M_flatten 61 = .ok (.iload_n 3, 1) := by decide +kernel
theorem dc_M_flatten_62 : decode cd_M_flatten 62 = .ok (.iaload, 1) := by decide +kernel
theorem dc_M_flatten_63 : decode cd_M_flatten 63 = .ok (.goto 9, 3) := by decide +kernel
theorem dc_M_flatten_66 : decode cd_M_flatten 66 = .ok (.aload_n 0, 1) := by decide +kernel
theorem dc_M_flatten_67 : decode cd_M_flatten 67 = .ok (.getfield 59, 3) := by decide +kernel
theorem dc_M_flatten_70 : decode cd_M_flatten 70 = .ok (.iload_n 3, 1) := by decide +kernel
theorem dc_M_flatten_71 : decode cd_M_flatten 71 = .ok (.iaload, 1) := by decide +kernel
theorem dc_M_flatten_72 : decode cd_M_flatten 72 = .ok (.iastore, 1) := by decide +kernel
theorem dc_M_flatten_73 : decode cd_M_flatten 73 = .ok (.aload_n 0, 1) := by decide +kernel
theorem dc_M_flatten_74 : decode cd_M_flatten 74 = .ok (.dup, 1) := by decide +kernel
theorem dc_M_flatten_75 : decode cd_M_flatten 75 = .ok (.getfield 232, 3) := by decide +kernel
theorem dc_M_flatten_78 : decode cd_M_flatten 78 = .ok (.iconst 1, 1) := by decide +kernel
theorem dc_M_flatten_79 : decode cd_M_flatten 79 = .ok (.iadd, 1) := by decide +kernel
theorem dc_M_flatten_80 : decode cd_M_flatten 80 = .ok (.putfield 232, 3) := by decide +kernel
theorem dc_M_flatten_83 : decode cd_M_flatten 83 = .ok (.aload_n 0, 1) := by decide +kernel
theorem dc_M_flatten_84 : decode cd_M_flatten 84 = .ok (.getfield 59, 3) := by decide +kernel
theorem dc_M_flatten_87 : decode cd_M_flatten 87 = .ok (.iload_n 3, 1) := by decide +kernel
theorem dc_M_flatten_88 : decode cd_M_flatten 88 = .ok (.iaload, 1) := by decide +kernel
theorem dc_M_flatten_89 : decode cd_M_flatten 89 = .ok (.bipush 8, 2) := by decide +kernel
theorem dc_M_flatten_91 : decode cd_M_flatten 91 = .ok (.if_icmp .ne 32, 3) := by decide +kernel
theorem dc_M_flatten_94 : decode cd_M_flatten 94 = .ok (.aload_n 0, 1) := by decide +kernel
theorem dc_M_flatten_95 : decode cd_M_flatten 95 = .ok (.getfield 71, 3) := by decide +kernel
theorem dc_M_flatten_98 : decode cd_M_flatten 98 = .ok (.iload_n 2, 1) := by decide +kernel
theorem dc_M_flatten_99 : decode cd_M_flatten 99 = .ok (.aload_n 0, 1) := by decide +kernel
theorem dc_M_flatten_100 : decode cd_M_flatten 100 = .ok (.getfield 68, 3) := by decide +kernel
theorem dc_M_flatten_103 : decode cd_M_flatten 103 = .ok (.iload_n 3, 1) := by decide +kernel
theorem dc_M_flatten_104 : decode cd_M_flatten 104 = .ok (.iaload, 1) := by decide +kernel
theorem dc_M_flatten_105 : decode cd_M_flatten 105 = .ok (.iastore, 1) := by decide +kernel
theorem dc_M_flatten_106 : decode cd_M_flatten 106 = .ok (.aload_n 0, 1) := by decide +kernel
theorem dc_M_flatten_107 : decode cd_M_flatten 107 = .ok (.getfield 71, 3) := by decide +kernel
theorem dc_M_flatten_110 : decode cd_M_flatten 110 = .ok (.iload_n 2, 1) := by decide +kernel
theorem dc_M_flatten_111 : decode cd_M_flatten 111 = .ok (.iconst 1, 1) := by decide +kernel
theorem dc_M_flatten_112 : decode cd_M_flatten 112 = .ok (.iadd, 1) := by decide +kernel
theorem dc_M_flatten_113 : decode cd_M_flatten 113 = .ok (.aload_n 0, 1) := by decide +kernel
theorem dc_M_flatten_114 : decode cd_M_flatten 114 = .ok (.getfield 65, 3) := by decide +kernel
theorem dc_M_flatten_117 : decode cd_M_flatten 117 = .ok (.iload_n 3, 1) := by decide +kernel
theorem dc_M_flatten_118 : decode cd_M_flatten 118 = .ok (.iaload, 1) := by decide +kernel
theorem dc_M_flatten_119 : decode cd_M_flatten 119 = .ok (.iastore, 1) := by decide +kernel
theorem dc_M_flatten_120 : decode cd_M_flatten 120 = .ok (.iinc 2 2, 3) := by decide +kernel
theorem dc_M_flatten_123 : decode cd_M_flatten 123 = .ok (.goto (-109), 3) := by decide +kernel
theorem dc_M_flatten_126 : decode cd_M_flatten 126 = .ok (.return_, 1) := by decide +kernel
theorem dc_M_part_0 : decode cd_M_part 0 = .ok (.aload_n 0, 1) := by decide +kernel
theorem dc_M_part_1 : decode cd_M_part 1 = .ok (.iload_n 1, 1) := by decide +kernel
theorem dc_M_part_2 : decode cd_M_part 2 = .ok (.ifCond .lt 11, 3) := by decide +kernel
theorem dc_M_part_5 : decode cd_M_part 5 = .ok (.iload_n 1, 1) := by decide +kernel
theorem dc_M_part_6 : decode cd_M_part 6 = .ok (.aload_n 0, 1) := by decide +kernel
theorem dc_M_part_7 : decode cd_M_part 7 = .ok (.getfield 232, 3) := by decide +kernel
theorem dc_M_part_10 : decode cd_M_part 10 = .ok (.if_icmp .lt 7, 3) := by decide +kernel
theorem dc_M_part_13 : decode cd_M_part 13 = .ok (.iconst 1, 1) := by decide +kernel
theorem dc_M_part_14 : decode cd_M_part 14 = .ok (.goto 4, 3) := by decide +kernel
theorem dc_M_part_17 : decode cd_M_part 17 = .ok (.iconst 0, 1) := by decide +kernel
theorem dc_M_part_18 : decode cd_M_part 18 = .ok (.putfield 80, 3) := by decide +kernel
theorem dc_M_part_21 : decode cd_M_part 21 = .ok (.aload_n 0, 1) := by decide +kernel
theorem dc_M_part_22 : decode cd_M_part 22 = .ok (.getfield 80, 3) := by decide +kernel
theorem dc_M_part_25 : decode cd_M_part 25 = .ok (.ifCond .ne 12, 3) := by decide +kernel
theorem dc_M_part_28 : decode cd_M_part 28 = .ok (.aload_n 0, 1) := by decide +kernel
theorem dc_M_part_29 : decode cd_M_part 29 = .ok (.getfield 77, 3) := by decide +kernel
theorem dc_M_part_32 : decode cd_M_part 32 = .ok (.iload_n 1, 1) := by decide +kernel
theorem dc_M_part_33 : decode cd_M_part 33 = .ok (.iaload, 1) := by decide +kernel
theorem dc_M_part_34 : decode cd_M_part 34 = .ok (.goto 4, 3) := by decide +kernel
theorem dc_M_part_37 : decode cd_M_part 37 = .ok (.iconst 0, 1) := by decide +kernel
theorem dc_M_part_38 : decode cd_M_part 38 = .ok (.ireturn, 1) := by decide +kernel
theorem dc_M_calls_0 : decode cd_M_calls 0 = .ok (.aload_n 0, 1) := by decide +kernel
theorem dc_M_calls_1 : decode cd_M_calls 1 = .ok (.iconst 0, 1) := by decide +kernel
theorem dc_M_calls_2 : decode cd_M_calls 2 = .ok (.putfield 80, 3) := by decide +kernel
theorem dc_M_calls_5 : decode cd_M_calls 5 = .ok (.aload_n 0, 1) := by decide +kernel
theorem dc_M_calls_6 : decode cd_M_calls 6 = .ok (.getfield 204, 3) := by decide +kernel
theorem dc_M_calls_9 : decode cd_M_calls 9 = .ok (.ireturn, 1) := by decide +kernel
