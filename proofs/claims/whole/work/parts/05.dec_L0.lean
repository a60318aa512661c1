theorem dc_L_make_0 : decode cd_L_make 0 = .ok (.aload 6, 2) := by decide +kernel
theorem dc_L_make_2 : decode cd_L_make 2 = .ok (.iconst 0, 1) := by decide +kernel
theorem dc_L_make_3 : decode cd_L_make 3 = .ok (.aload_n 0, 1) := by decide +kernel
theorem dc_L_make_4 : decode cd_L_make 4 = .ok (.iload_n 1, 1) := by decide +kernel
theorem dc_L_make_5 : decode cd_L_make 5 = .ok (.iload_n 2, 1) := by decide +kernel
theorem dc_L_make_6 : decode cd_L_make 6 = .ok (.iload_n 3, 1) := by decide +kernel
theorem dc_L_make_7 : decode cd_L_make 7 = .ok (.iload 4, 2) := by decide +kernel
theorem dc_L_make_9 : decode cd_L_make 9 = .ok (.iload 5, 2) := by decide +kernel
theorem dc_L_make_11 : decode cd_L_make 11 = .ok (.invokevirtual 7, 3) := by decide +kernel
theorem dc_L_make_14 : decode cd_L_make 14 = .ok (.i2l, 1) := by decide +kernel
theorem dc_L_make_15 : decode cd_L_make 15 = .ok (.lastore, 1) := by decide +kernel
theorem dc_L_make_16 : decode cd_L_make 16 = .ok (.goto 11, 3) := by decide +kernel
theorem dc_L_make_19 : decode cd_L_make 19 = .ok (.astore 7, 2) := by decide +kernel
theorem dc_L_make_21 : decode cd_L_make 21 = .ok (.iconst 1, 1) := by decide +kernel
theorem dc_L_make_22 : decode cd_L_make 22 = .ok (.ireturn, 1) := by decide +kernel
theorem dc_L_make_23 : decode cd_L_make 23 = .ok (.astore 7, 2) := by decide +kernel
theorem dc_L_make_25 : decode cd_L_make 25 = .ok (.iconst 2, 1) := by decide +kernel
theorem dc_L_make_26 : decode cd_L_make 26 = .ok (.ireturn, 1) := by decide +kernel
theorem dc_L_make_27 : decode cd_L_make 27 = .ok (.iconst 0, 1) := by decide +kernel
theorem dc_L_make_28 : decode cd_L_make 28 = .ok (.ireturn, 1) := by decide +kernel
theorem dc_L_define_0 : decode cd_L_define 0 = .ok (.aload_n 3, 1) := by decide +kernel
theorem dc_L_define_1 : decode cd_L_define 1 = .ok (.iconst 0, 1) := by decide +kernel
theorem dc_L_define_2 : decode cd_L_define 2 = .ok (.aload_n 0, 1) := by decide +kernel
theorem dc_L_define_3 : decode cd_L_define 3 = .ok (.iload_n 1, 1) := by decide +kernel
theorem dc_L_define_4 : decode cd_L_define 4 = .ok (.iload_n 2, 1) := by decide +kernel
theorem dc_L_define_5 : decode cd_L_define 5 = .ok (.invokevirtual 17, 3) := by decide +kernel
theorem dc_L_define_8 : decode cd_L_define 8 = .ok (.i2l, 1) := by decide +kernel
theorem dc_L_define_9 : decode cd_L_define 9 = .ok (.lastore, 1) := by decide +kernel
theorem dc_L_define_10 : decode cd_L_define 10 = .ok (.goto 7, 3) := by decide +kernel
theorem dc_L_define_13 : decode cd_L_define 13 = .ok (.astore 4, 2) := by decide +kernel
theorem dc_L_define_15 : decode cd_L_define 15 = .ok (.iconst 1, 1) := by decide +kernel
theorem dc_L_define_16 : decode cd_L_define 16 = .ok (.ireturn, 1) := by decide +kernel
theorem dc_L_define_17 : decode cd_L_define 17 = .ok (.iconst 0, 1) := by decide +kernel
theorem dc_L_define_18 : decode cd_L_define 18 = .ok (.ireturn, 1) := by decide +kernel
theorem dc_L_may_0 : decode cd_L_may 0 = .ok (.aload_n 3, 1) := by decide +kernel
theorem dc_L_may_1 : decode cd_L_may 1 = .ok (.iconst 0, 1) := by decide +kernel
theorem dc_L_may_2 : decode cd_L_may 2 = .ok (.aload_n 0, 1) := by decide +kernel
theorem dc_L_may_3 : decode cd_L_may 3 = .ok (.iload_n 1, 1) := by decide +kernel
theorem dc_L_may_4 : decode cd_L_may 4 = .ok (.iload_n 2, 1) := by decide +kernel
theorem dc_L_may_5 : decode cd_L_may 5 = .ok (.invokevirtual 21, 3) := by decide +kernel
theorem dc_L_may_8 : decode cd_L_may 8 = .ok (.i2l, 1) := by decide +kernel
theorem dc_L_may_9 : decode cd_L_may 9 = .ok (.lastore, 1) := by decide +kernel
theorem dc_L_may_10 : decode cd_L_may 10 = .ok (.goto 7, 3) := by decide +kernel
theorem dc_L_may_13 : decode cd_L_may 13 = .ok (.astore 4, 2) := by decide +kernel
theorem dc_L_may_15 : decode cd_L_may 15 = .ok (.iconst 1, 1) := by decide +kernel
theorem dc_L_may_16 : decode cd_L_may 16 = .ok (.ireturn, 1) := by decide +kernel
theorem dc_L_may_17 : decode cd_L_may 17 = .ok (.iconst 0, 1) := by decide +kernel
theorem dc_L_may_18 : decode cd_L_may 18 = .ok (.ireturn, 1) := by decide +kernel
theorem dc_L_gives_0 : decode cd_L_gives 0 = .ok (.aload_n 2, 1) := by decide +kernel
theorem dc_L_gives_1 : decode cd_L_gives 1 = .ok (.iconst 0, 1) := by decide +kernel
theorem dc_L_gives_2 : decode cd_L_gives 2 = .ok (.aload_n 0, 1) := by decide +kernel
theorem dc_L_gives_3 : decode cd_L_gives 3 = .ok (.iload_n 1, 1) := by decide +kernel
theorem dc_L_gives_4 : decode cd_L_gives 4 = .ok (.invokevirtual 24, 3) := by decide +kernel
theorem dc_L_gives_7 : decode cd_L_gives 7 = .ok (.i2l, 1) := by decide +kernel
theorem dc_L_gives_8 : decode cd_L_gives 8 = .ok (.lastore, 1) := by decide +kernel
theorem dc_L_gives_9 : decode cd_L_gives 9 = .ok (.goto 6, 3) := by decide +kernel
theorem dc_L_gives_12 : decode cd_L_gives 12 = .ok (.astore_n 3, 1) := by decide +kernel
theorem dc_L_gives_13 : decode cd_L_gives 13 = .ok (.iconst 1, 1) := by decide +kernel
theorem dc_L_gives_14 : decode cd_L_gives 14 = .ok (.ireturn, 1) := by decide +kernel
theorem dc_L_gives_15 : decode cd_L_gives 15 = .ok (.iconst 0, 1) := by decide +kernel
theorem dc_L_gives_16 : decode cd_L_gives 16 = .ok (.ireturn, 1) := by decide +kernel
theorem dc_L_hopeless_0 : decode cd_L_hopeless 0 = .ok (.aload_n 2, 1) := by decide +kernel
theorem dc_L_hopeless_1 : decode cd_L_hopeless 1 = .ok (.iconst 0, 1) := by decide +kernel
theorem dc_L_hopeless_2 : decode cd_L_hopeless 2 = .ok (.aload_n 0, 1) := by decide +kernel
theorem dc_L_hopeless_3 : decode cd_L_hopeless 3 = .ok (.iload_n 1, 1) := by decide +kernel
theorem dc_L_hopeless_4 : decode cd_L_hopeless 4 = .ok (.invokevirtual 28, 3) := by decide +kernel
theorem dc_L_hopeless_7 : decode cd_L_hopeless 7 = .ok (.i2l, 1) := by decide +kernel
theorem dc_L_hopeless_8 : decode cd_L_hopeless 8 = .ok (.lastore, 1) := by decide +kernel
theorem dc_L_hopeless_9 : decode cd_L_hopeless 9 = .ok (.goto 6, 3) := by decide +kernel
theorem dc_L_hopeless_12 : decode cd_L_hopeless 12 = .ok (.astore_n 3, 1) := by decide +kernel
theorem dc_L_hopeless_13 : decode cd_L_hopeless 13 = .ok (.iconst 1, 1) := by decide +kernel
theorem dc_L_hopeless_14 : decode cd_L_hopeless 14 = .ok (.ireturn, 1) := by decide +kernel
theorem dc_L_hopeless_15 : decode cd_L_hopeless 15 = .ok (.iconst 0, 1) := by decide +kernel
theorem dc_L_hopeless_16 : decode cd_L_hopeless 16 = .ok (.ireturn, 1) := by decide +kernel
theorem dc_L_isHopeless_0 : decode cd_L_isHopeless 0 = .ok (.aload_n 3, 1) := by decide +kernel
theorem dc_L_isHopeless_1 : decode cd_L_isHopeless 1 = .ok (.iconst 0, 1) := by decide +kernel
theorem dc_L_isHopeless_2 : decode cd_L_isHopeless 2 = .ok (.aload_n 0, 1) := by decide +kernel
theorem dc_L_isHopeless_3 : decode cd_L_isHopeless 3 = .ok (.iload_n 1, 1) := by decide +kernel
theorem dc_L_isHopeless_4 : decode cd_L_isHopeless 4 = .ok (.iload_n 2, 1) := by decide +kernel
theorem dc_L_isHopeless_5 : decode cd_L_isHopeless 5 = .ok (.invokevirtual 31, 3) := by decide +kernel
theorem dc_L_isHopeless_8 : decode cd_L_isHopeless 8 = .ok (.ifCond .eq 7, 3) := by decide +kernel
theorem dc_L_isHopeless_11 : decode cd_L_isHopeless 11 = .ok (.lconst 1, 1) := by decide +kernel
theorem dc_L_isHopeless_12 : decode cd_L_isHopeless 12 = .ok (.goto 4, 3) := by decide +kernel
theorem dc_L_isHopeless_15 : decode cd_L_isHopeless 15 = .ok (.lconst 0, 1) := by decide +kernel
theorem dc_L_isHopeless_16 : decode cd_L_isHopeless 16 = .ok (.lastore, 1) := by decide +kernel
theorem dc_L_isHopeless_17 : decode cd_L_isHopeless 17 = .ok (.goto 7, 3) := by decide +kernel
theorem dc_L_isHopeless_20 : decode cd_L_isHopeless 20 = .ok (.astore 4, 2) := by decide +kernel
theorem dc_L_isHopeless_22 : decode cd_L_isHopeless 22 = .ok (.iconst 1, 1) := by decide +kernel
theorem dc_L_isHopeless_23 : decode cd_L_isHopeless 23 = .ok (.ireturn, 1) := by decide +kernel
theorem dc_L_isHopeless_24 : decode cd_L_isHopeless 24 = .ok (.iconst 0, 1) := by decide +kernel
theorem dc_L_isHopeless_25 : decode cd_L_isHopeless 25 = .ok (.ireturn, 1) := by decide +kernel
theorem dc_L_run_0 : decode cd_L_run 0 = .ok (.aload 4, 2) := by decide +kernel
theorem dc_L_run_2 : decode cd_L_run 2 = .ok (.iconst 0, 1) := by decide +kernel
theorem dc_L_run_3 : decode cd_L_run 3 = .ok (.aload_n 0, 1) := by decide +kernel
theorem dc_L_run_4 : decode cd_L_run 4 = .ok (.iload_n 1, 1) := by decide +kernel
theorem dc_L_run_5 : decode cd_L_run 5 = .ok (.iload_n 2, 1) := by decide +kernel
theorem dc_L_run_6 : decode cd_L_run 6 = .ok (.iload_n 3, 1) := by decide +kernel
theorem dc_L_run_7 : decode cd_L_run 7 = .ok (.invokevirtual 35, 3) := by decide +kernel
theorem dc_L_run_10 : decode cd_L_run 10 = .ok (.i2l, 1) := by decide +kernel
theorem dc_L_run_11 : decode cd_L_run 11 = .ok (.lastore, 1) := by decide +kernel
theorem dc_L_run_12 : decode cd_L_run 12 = .ok (.goto 15, 3) := by decide +kernel
theorem dc_L_run_15 : decode cd_L_run 15 = .ok (.astore 5, 2) := by decide +kernel
theorem dc_L_run_17 : decode cd_L_run 17 = .ok (.iconst 1, 1) := by decide +kernel
theorem dc_L_run_18 : decode cd_L_run 18 = .ok (.ireturn, 1) := by decide +kernel
theorem dc_L_run_19 : decode cd_L_run 19 = .ok (.astore 5, 2) := by decide +kernel
theorem dc_L_run_21 : decode cd_L_run 21 = .ok (.iconst 2, 1) := by decide +kernel
theorem dc_L_run_22 : decode cd_L_run 22 = .ok (.ireturn, 1) := by decide +kernel
theorem dc_L_run_23 : decode cd_L_run 23 = .ok (.astore 5, 2) := by decide +kernel
theorem dc_L_run_25 : decode cd_L_run 25 = .ok (.iconst 3, 1) := by decide +kernel
theorem dc_L_run_26 : decode cd_L_run 26 = .ok (.ireturn, 1) := by decide +kernel
theorem dc_L_run_27 : decode cd_L_run 27 = .ok (.iconst 0, 1) := by decide +kernel
theorem dc_L_run_28 : decode cd_L_run 28 = .ok (.ireturn, 1) := by decide +kernel
theorem dc_L_part_0 : decode cd_L_part 0 = .ok (.aload_n 2, 1) := by decide +kernel
theorem dc_L_part_1 : decode cd_L_part 1 = .ok (.iconst 0, 1) := by decide +kernel
theorem dc_L_part_2 : decode cd_L_part 2 = .ok (.aload_n 0, 1) := by decide +kernel
theorem dc_L_part_3 : decode cd_L_part 3 = .ok (.iload_n 1, 1) := by decide +kernel
theorem dc_L_part_4 : decode cd_L_part 4 = .ok (.invokevirtual 41, 3) := by decide +kernel
theorem dc_L_part_7 : decode cd_L_part 7 = .ok (.i2l, 1) := by decide +kernel
theorem dc_L_part_8 : decode cd_L_part 8 = .ok (.lastore, 1) := by decide +kernel
theorem dc_L_part_9 : decode cd_L_part 9 = .ok (.goto 6, 3) := by decide +kernel
theorem dc_L_part_12 : decode cd_L_part 12 = .ok (.astore_n 3, 1) := by decide +kernel
theorem dc_L_part_13 : decode cd_L_part 13 = .ok (.iconst 1, 1) := by decide +kernel
theorem dc_L_part_14 : decode cd_L_part 14 = .ok (.ireturn, 1) := by decide +kernel
theorem dc_L_part_15 : decode cd_L_part 15 = .ok (.iconst 0, 1) := by decide +kernel
theorem dc_L_part_16 : decode cd_L_part 16 = .ok (.ireturn, 1) := by decide +kernel
