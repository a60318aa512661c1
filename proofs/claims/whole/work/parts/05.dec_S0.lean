theorem dc_S_init_0 : decode cd_S_init 0 = .ok (.aload_n 0, 1) := by decide +kernel
theorem dc_S_init_1 : decode cd_S_init 1 = .ok (.invokespecial 1, 3) := by decide +kernel
theorem dc_S_init_4 : decode cd_S_init 4 = .ok (.aload_n 0, 1) := by decide +kernel
theorem dc_S_init_5 : decode cd_S_init 5 = .ok (.new 7, 3) := by decide +kernel
theorem dc_S_init_8 : decode cd_S_init 8 = .ok (.dup, 1) := by decide +kernel
theorem dc_S_init_9 : decode cd_S_init 9 = .ok (.invokespecial 9, 3) := by decide +kernel
theorem dc_S_init_12 : decode cd_S_init 12 = .ok (.putfield 10, 3) := by decide +kernel
theorem dc_S_init_15 : decode cd_S_init 15 = .ok (.aload_n 0, 1) := by decide +kernel
theorem dc_S_init_16 : decode cd_S_init 16 = .ok (.new 16, 3) := by decide +kernel
theorem dc_S_init_19 : decode cd_S_init 19 = .ok (.dup, 1) := by decide +kernel
theorem dc_S_init_20 : decode cd_S_init 20 = .ok (.aload_n 0, 1) := by decide +kernel
theorem dc_S_init_21 : decode cd_S_init 21 = .ok (.getfield 10, 3) := by decide +kernel
theorem dc_S_init_24 : decode cd_S_init 24 = .ok (.invokespecial 18, 3) := by decide +kernel
theorem dc_S_init_27 : decode cd_S_init 27 = .ok (.putfield 21, 3) := by decide +kernel
theorem dc_S_init_30 : decode cd_S_init 30 = .ok (.aload_n 0, 1) := by decide +kernel
theorem dc_S_init_31 : decode cd_S_init 31 = .ok (.new 25, 3) := by decide +kernel
theorem dc_S_init_34 : decode cd_S_init 34 = .ok (.dup, 1) := by decide +kernel
theorem dc_S_init_35 : decode cd_S_init 35 = .ok (.aload_n 0, 1) := by decide +kernel
theorem dc_S_init_36 : decode cd_S_init 36 = .ok (.getfield 10, 3) := by decide +kernel
theorem dc_S_init_39 : decode cd_S_init 39 = .ok (.invokespecial 27, 3) := by decide +kernel
theorem dc_S_init_42 : decode cd_S_init 42 = .ok (.putfield 28, 3) := by decide +kernel
theorem dc_S_init_45 : decode cd_S_init 45 = .ok (.return_, 1) := by decide +kernel
theorem dc_S_calls_0 : decode cd_S_calls 0 = .ok (.aload_n 0, 1) := by decide +kernel
theorem dc_S_calls_1 : decode cd_S_calls 1 = .ok (.getfield 28, 3) := by decide +kernel
theorem dc_S_calls_4 : decode cd_S_calls 4 = .ok (.getfield 132, 3) := by decide +kernel
theorem dc_S_calls_7 : decode cd_S_calls 7 = .ok (.ireturn, 1) := by decide +kernel
theorem dc_S_make_0 : decode cd_S_make 0 = .ok (.aload_n 0, 1) := by decide +kernel
theorem dc_S_make_1 : decode cd_S_make 1 = .ok (.getfield 10, 3) := by decide +kernel
theorem dc_S_make_4 : decode cd_S_make 4 = .ok (.iload_n 1, 1) := by decide +kernel
theorem dc_S_make_5 : decode cd_S_make 5 = .ok (.iload_n 2, 1) := by decide +kernel
theorem dc_S_make_6 : decode cd_S_make 6 = .ok (.iload_n 3, 1) := by decide +kernel
theorem dc_S_make_7 : decode cd_S_make 7 = .ok (.iload 4, 2) := by decide +kernel
theorem dc_S_make_9 : decode cd_S_make 9 = .ok (.iload 5, 2) := by decide +kernel
theorem dc_S_make_11 : decode cd_S_make 11 = .ok (.invokevirtual 32, 3) := by decide +kernel
theorem dc_S_make_14 : decode cd_S_make 14 = .ok (.ifCond .ne 13, 3) := by decide +kernel
theorem dc_S_make_17 : decode cd_S_make 17 = .ok (.new 36, 3) := by decide +kernel
theorem dc_S_make_20 : decode cd_S_make 20 = .ok (.dup, 1) := by decide +kernel
theorem dc_S_make_21 : decode cd_S_make 21 = .ok (.ldc 38, 2) := by decide +kernel
theorem dc_S_make_23 : decode cd_S_make 23 = .ok (.invokespecial 40, 3) := by decide +kernel
theorem dc_S_make_26 : decode cd_S_make 26 = .ok (.athrow, 1) := by decide +kernel
theorem dc_S_make_27 : decode cd_S_make 27 = .ok (.aload_n 0, 1) := by decide +kernel
theorem dc_S_make_28 : decode cd_S_make 28 = .ok (.getfield 10, 3) := by decide +kernel
theorem dc_S_make_31 : decode cd_S_make 31 = .ok (.invokevirtual 43, 3) := by decide +kernel
theorem dc_S_make_34 : decode cd_S_make 34 = .ok (.ifCond .eq 13, 3) := by decide +kernel
theorem dc_S_make_37 : decode cd_S_make 37 = .ok (.new 47, 3) := by decide +kernel
theorem dc_S_make_40 : decode cd_S_make 40 = .ok (.dup, 1) := by decide +kernel
theorem dc_S_make_41 : decode cd_S_make 41 = .ok (.ldc 49, 2) := by decide +kernel
theorem dc_S_make_43 : decode cd_S_make 43 = .ok (.invokespecial 51, 3) := by decide +kernel
theorem dc_S_make_46 : decode cd_S_make 46 = .ok (.athrow, 1) := by decide +kernel
theorem dc_S_make_47 : decode cd_S_make 47 = .ok (.aload_n 0, 1) := by decide +kernel
theorem dc_S_make_48 : decode cd_S_make 48 = .ok (.getfield 10, 3) := by decide +kernel
theorem dc_S_make_51 : decode cd_S_make 51 = .ok (.invokevirtual 52, 3) := by decide +kernel
theorem dc_S_make_54 : decode cd_S_make 54 = .ok (.ireturn, 1) := by decide +kernel
theorem dc_S_isFunction_0 : decode cd_S_isFunction 0 = .ok (.iload_n 0, 1) := by decide +kernel
theorem dc_S_isFunction_1 : decode cd_S_isFunction 1 = .ok (.ifCond .lt 13, 3) := by decide +kernel
theorem dc_S_isFunction_4 : decode cd_S_isFunction 4 = .ok (.iload_n 0, 1) := by decide +kernel
theorem dc_S_isFunction_5 : decode cd_S_isFunction 5 = .ok (.bipush 6, 2) := by decide +kernel
theorem dc_S_isFunction_7 : decode cd_S_isFunction 7 = .ok (.if_icmp .ge 7, 3) := by decide +kernel
theorem dc_S_isFunction_10 : decode cd_S_isFunction 10 = .ok (.iconst 1, 1) := by decide +kernel
theorem dc_S_isFunction_11 : decode cd_S_isFunction 11 = .ok (.goto 4, 3) := by decide +kernel
theorem dc_S_isFunction_14 : decode cd_S_isFunction 14 = .ok (.iconst 0, 1) := by decide +kernel
theorem dc_S_isFunction_15 : decode cd_S_isFunction 15 = .ok (.ireturn, 1) := by decide +kernel
theorem dc_S_parametersOf_0 : decode cd_S_parametersOf 0 = .ok (.iload_n 0, 1) := by decide +kernel
theorem dc_S_parametersOf_1 : decode cd_S_parametersOf 1 = .ok (.iconst 3, 1) := by decide +kernel
theorem dc_S_parametersOf_2 : decode cd_S_parametersOf 2 = .ok (.if_icmp .ge 7, 3) := by decide +kernel
theorem dc_S_parametersOf_5 : decode cd_S_parametersOf 5 = .ok (.iconst 1, 1) := by decide +kernel
theorem dc_S_parametersOf_6 : decode cd_S_parametersOf 6 = .ok (.goto 4, 3) := by decide +kernel
theorem dc_S_parametersOf_9 : decode cd_S_parametersOf 9 = .ok (.iconst 2, 1) := by decide +kernel
theorem dc_S_parametersOf_10 : decode cd_S_parametersOf 10 = .ok (.ireturn, 1) := by decide +kernel
theorem dc_S_define_0 : decode cd_S_define 0 = .ok (.iload_n 1, 1) := by decide +kernel
theorem dc_S_define_1 : decode cd_S_define 1 = .ok (.invokestatic 56, 3) := by decide +kernel
theorem dc_S_define_4 : decode cd_S_define 4 = .ok (.aload_n 0, 1) := by decide +kernel
theorem dc_S_define_5 : decode cd_S_define 5 = .ok (.iload_n 2, 1) := by decide +kernel
theorem dc_S_define_6 : decode cd_S_define 6 = .ok (.invokevirtual 60, 3) := by decide +kernel
theorem dc_S_define_9 : decode cd_S_define 9 = .ok (.aload_n 0, 1) := by decide +kernel
theorem dc_S_define_10 : decode cd_S_define 10 = .ok (.getfield 10, 3) := by decide +kernel
theorem dc_S_define_13 : decode cd_S_define 13 = .ok (.iload_n 1, 1) := by decide +kernel
theorem dc_S_define_14 : decode cd_S_define 14 = .ok (.iload_n 2, 1) := by decide +kernel
theorem dc_S_define_15 : decode cd_S_define 15 = .ok (.invokevirtual 63, 3) := by decide +kernel
theorem dc_S_define_18 : decode cd_S_define 18 = .ok (.aload_n 0, 1) := by decide +kernel
theorem dc_S_define_19 : decode cd_S_define 19 = .ok (.getfield 21, 3) := by decide +kernel
theorem dc_S_define_22 : decode cd_S_define 22 = .ok (.invokevirtual 67, 3) := by decide +kernel
theorem dc_S_define_25 : decode cd_S_define 25 = .ok (.aload_n 0, 1) := by decide +kernel
theorem dc_S_define_26 : decode cd_S_define 26 = .ok (.getfield 10, 3) := by decide +kernel
theorem dc_S_define_29 : decode cd_S_define 29 = .ok (.invokevirtual 70, 3) := by decide +kernel
theorem dc_S_define_32 : decode cd_S_define 32 = .ok (.ireturn, 1) := by decide +kernel
theorem dc_S_checkFunction_0 : decode cd_S_checkFunction 0 = .ok (.iload_n 0, 1) := by decide +kernel
theorem dc_S_checkFunction_1 : decode cd_S_checkFunction 1 = .ok (.invokestatic 135, 3) := by decide +kernel
theorem dc_S_checkFunction_4 : decode cd_S_checkFunction 4 = .ok (.ifCond .ne 13, 3) := by decide +kernel
theorem dc_S_checkFunction_7 : decode cd_S_checkFunction 7 = .ok (.new 36, 3) := by decide +kernel
theorem dc_S_checkFunction_10 : decode cd_S_checkFunction 10 = .ok (.dup, 1) := by decide +kernel
theorem dc_S_checkFunction_11 : decode cd_S_checkFunction 11 = .ok (.ldc 139, 2) := by decide +kernel
theorem dc_S_checkFunction_13 : decode cd_S_checkFunction 13 = .ok (.invokespecial 40, 3) := by decide +kernel
theorem dc_S_checkFunction_16 : decode cd_S_checkFunction 16 = .ok (.athrow, 1) := by decide +kernel
theorem dc_S_checkFunction_17 : decode cd_S_checkFunction 17 = .ok (.return_, 1) := by decide +kernel
theorem dc_S_checkExpression_0 : decode cd_S_checkExpression 0 = .ok (.aload_n 0, 1) := by decide +kernel
theorem dc_S_checkExpression_1 : decode cd_S_checkExpression 1 = .ok (.getfield 10, 3) := by decide +kernel
theorem dc_S_checkExpression_4 : decode cd_S_checkExpression 4 = .ok (.iload_n 1, 1) := by decide +kernel
theorem dc_S_checkExpression_5 : decode cd_S_checkExpression 5 = .ok (.invokevirtual 141, 3) := by decide +kernel
theorem dc_S_checkExpression_8 : decode cd_S_checkExpression 8 = .ok (.ifCond .ne 13, 3) := by decide +kernel
theorem dc_S_checkExpression_11 : decode cd_S_checkExpression 11 = .ok (.new 36, 3) := by decide +kernel
theorem dc_S_checkExpression_14 : decode cd_S_checkExpression 14 = .ok (.dup, 1) := by decide +kernel
theorem dc_S_checkExpression_15 : decode cd_S_checkExpression 15 = .ok (.ldc 144, 2) := by decide +kernel
theorem dc_S_checkExpression_17 : decode cd_S_checkExpression 17 = .ok (.invokespecial 40, 3) := by decide +kernel
theorem dc_S_checkExpression_20 : decode cd_S_checkExpression 20 = .ok (.athrow, 1) := by decide +kernel
theorem dc_S_checkExpression_21 : decode cd_S_checkExpression 21 = .ok (.return_, 1) := by decide +kernel
theorem dc_S_may_0 : decode cd_S_may 0 = .ok (.iload_n 1, 1) := by decide +kernel
theorem dc_S_may_1 : decode cd_S_may 1 = .ok (.invokestatic 56, 3) := by decide +kernel
theorem dc_S_may_4 : decode cd_S_may 4 = .ok (.iload_n 2, 1) := by decide +kernel
theorem dc_S_may_5 : decode cd_S_may 5 = .ok (.ifCond .lt 11, 3) := by decide +kernel
theorem dc_S_may_8 : decode cd_S_may 8 = .ok (.iload_n 2, 1) := by decide +kernel
theorem dc_S_may_9 : decode cd_S_may 9 = .ok (.iload_n 1, 1) := by decide +kernel
theorem dc_S_may_10 : decode cd_S_may 10 = .ok (.invokestatic 73, 3) := by decide +kernel
theorem dc_S_may_13 : decode cd_S_may 13 = .ok (.if_icmp .lt 13, 3) := by decide +kernel
theorem dc_S_may_16 : decode cd_S_may 16 = .ok (.new 36, 3) := by decide +kernel
theorem dc_S_may_19 : decode cd_S_may 19 = .ok (.dup, 1) := by decide +kernel
theorem dc_S_may_20 : decode cd_S_may 20 = .ok (.ldc 77, 2) := by decide +kernel
theorem dc_S_may_22 : decode cd_S_may 22 = .ok (.invokespecial 40, 3) := by decide +kernel
theorem dc_S_may_25 : decode cd_S_may 25 = .ok (.athrow, 1) := by decide +kernel
theorem dc_S_may_26 : decode cd_S_may 26 = .ok (.aload_n 0, 1) := by decide +kernel
theorem dc_S_may_27 : decode cd_S_may 27 = .ok (.getfield 21, 3) := by decide +kernel
theorem dc_S_may_30 : decode cd_S_may 30 = .ok (.invokevirtual 79, 3) := by decide +kernel
theorem dc_S_may_33 : decode cd_S_may 33 = .ok (.aload_n 0, 1) := by decide +kernel
theorem dc_S_may_34 : decode cd_S_may 34 = .ok (.getfield 21, 3) := by decide +kernel
theorem dc_S_may_37 : decode cd_S_may 37 = .ok (.iload_n 1, 1) := by decide +kernel
theorem dc_S_may_38 : decode cd_S_may 38 = .ok (.iload_n 2, 1) := by decide +kernel
theorem dc_S_may_39 : decode cd_S_may 39 = .ok (.invokevirtual 82, 3) := by decide +kernel
theorem dc_S_may_42 : decode cd_S_may 42 = .ok (.ireturn, 1) := by decide +kernel
theorem dc_S_gives_0 : decode cd_S_gives 0 = .ok (.iload_n 1, 1) := by decide +kernel
theorem dc_S_gives_1 : decode cd_S_gives 1 = .ok (.invokestatic 56, 3) := by decide +kernel
theorem dc_S_gives_4 : decode cd_S_gives 4 = .ok (.aload_n 0, 1) := by decide +kernel
theorem dc_S_gives_5 : decode cd_S_gives 5 = .ok (.getfield 21, 3) := by decide +kernel
theorem dc_S_gives_8 : decode cd_S_gives 8 = .ok (.invokevirtual 79, 3) := by decide +kernel
theorem dc_S_gives_11 : decode cd_S_gives 11 = .ok (.aload_n 0, 1) := by decide +kernel
theorem dc_S_gives_12 : decode cd_S_gives 12 = .ok (.getfield 21, 3) := by decide +kernel
theorem dc_S_gives_15 : decode cd_S_gives 15 = .ok (.iload_n 1, 1) := by decide +kernel
theorem dc_S_gives_16 : decode cd_S_gives 16 = .ok (.invokevirtual 86, 3) := by decide +kernel
theorem dc_S_gives_19 : decode cd_S_gives 19 = .ok (.ireturn, 1) := by decide +kernel
theorem dc_S_hopeless_0 : decode cd_S_hopeless 0 = .ok (.iload_n 1, 1) := by decide +kernel
theorem dc_S_hopeless_1 : decode cd_S_hopeless 1 = .ok (.invokestatic 56, 3) := by decide +kernel
theorem dc_S_hopeless_4 : decode cd_S_hopeless 4 = .ok (.aload_n 0, 1) := by decide +kernel
theorem dc_S_hopeless_5 : decode cd_S_hopeless 5 = .ok (.getfield 21, 3) := by decide +kernel
theorem dc_S_hopeless_8 : decode cd_S_hopeless 8 = .ok (.invokevirtual 79, 3) := by decide +kernel
theorem dc_S_hopeless_11 : decode cd_S_hopeless 11 = .ok (.aload_n 0, 1) := by decide +kernel
theorem dc_S_hopeless_12 : decode cd_S_hopeless 12 = .ok (.getfield 21, 3) := by decide +kernel
theorem dc_S_hopeless_15 : decode cd_S_hopeless 15 = .ok (.iload_n 1, 1) := by decide +kernel
theorem dc_S_hopeless_16 : decode cd_S_hopeless 16 = .ok (.invokevirtual 89, 3) := by decide +kernel
theorem dc_S_hopeless_19 : decode cd_S_hopeless 19 = .ok (.ireturn, 1) := by decide +kernel
theorem dc_S_isHopeless_0 : decode cd_S_isHopeless 0 = .ok (.iload_n 1, 1) := by decide +kernel
theorem dc_S_isHopeless_1 : decode cd_S_isHopeless 1 = .ok (.invokestatic 56, 3) := by decide +kernel
theorem dc_S_isHopeless_4 : decode cd_S_isHopeless 4 = .ok (.aload_n 0, 1) := by decide +kernel
theorem dc_S_isHopeless_5 : decode cd_S_isHopeless 5 = .ok (.iload_n 2, 1) := by decide +kernel
theorem dc_S_isHopeless_6 : decode cd_S_isHopeless 6 = .ok (.invokevirtual 60, 3) := by decide +kernel
theorem dc_S_isHopeless_9 : decode cd_S_isHopeless 9 = .ok (.aload_n 0, 1) := by decide +kernel
theorem dc_S_isHopeless_10 : decode cd_S_isHopeless 10 = .ok (.getfield 21, 3) := by decide +kernel
theorem dc_S_isHopeless_13 : decode cd_S_isHopeless 13 = .ok (.invokevirtual 79, 3) := by decide +kernel
theorem dc_S_isHopeless_16 : decode cd_S_isHopeless 16 = .ok (.aload_n 0, 1) := by decide +kernel
theorem dc_S_isHopeless_17 : decode cd_S_isHopeless 17 = .ok (.getfield 21, 3) := by decide +kernel
theorem dc_S_isHopeless_20 : decode cd_S_isHopeless 20 = .ok (.iload_n 1, 1) := by decide +kernel
theorem dc_S_isHopeless_21 : decode cd_S_isHopeless 21 = .ok (.iload_n 2, 1) := by decide +kernel
theorem dc_S_isHopeless_22 : decode cd_S_isHopeless 22 = .ok (.invokevirtual 92, 3) := by decide +kernel
theorem dc_S_isHopeless_25 : decode cd_S_isHopeless 25 = .ok (.ireturn, 1) := by decide +kernel
theorem dc_S_run_0 : decode cd_S_run 0 = .ok (.iload_n 1, 1) := by decide +kernel
theorem dc_S_run_1 : decode cd_S_run 1 = .ok (.invokestatic 56, 3) := by decide +kernel
theorem dc_S_run_4 : decode cd_S_run 4 = .ok (.aload_n 0, 1) := by decide +kernel
theorem dc_S_run_5 : decode cd_S_run 5 = .ok (.iload_n 2, 1) := by decide +kernel
theorem dc_S_run_6 : decode cd_S_run 6 = .ok (.invokevirtual 60, 3) := by decide +kernel
theorem dc_S_run_9 : decode cd_S_run 9 = .ok (.iload_n 1, 1) := by decide +kernel
theorem dc_S_run_10 : decode cd_S_run 10 = .ok (.invokestatic 73, 3) := by decide +kernel
theorem dc_S_run_13 : decode cd_S_run 13 = .ok (.iconst 2, 1) := by decide +kernel
theorem dc_S_run_14 : decode cd_S_run 14 = .ok (.if_icmp .ne 8, 3) := by decide +kernel
theorem dc_S_run_17 : decode cd_S_run 17 = .ok (.aload_n 0, 1) := by decide +kernel
theorem dc_S_run_18 : decode cd_S_run 18 = .ok (.iload_n 3, 1) := by decide +kernel
theorem dc_S_run_19 : decode cd_S_run 19 = .ok (.invokevirtual 60, 3) := by decide +kernel
theorem dc_S_run_22 : decode cd_S_run 22 = .ok (.aload_n 0, 1) := by decide +kernel
theorem dc_S_run_23 : decode cd_S_run 23 = .ok (.getfield 28, 3) := by decide +kernel
theorem dc_S_run_26 : decode cd_S_run 26 = .ok (.iload_n 1, 1) := by decide +kernel
theorem dc_S_run_27 : decode cd_S_run 27 = .ok (.iload_n 2, 1) := by decide +kernel
theorem dc_S_run_28 : decode cd_S_run 28 = .ok (.iload_n 3, 1) := by decide +kernel
theorem dc_S_run_29 : decode cd_S_run 29 = .ok (.invokevirtual 96, 3) := by decide +kernel
theorem dc_S_run_32 : decode cd_S_run 32 = .ok (.lstore 4, 2) := by decide +kernel
theorem dc_S_run_34 : decode cd_S_run 34 = .ok (.lload 4, 2) := by decide +kernel
theorem dc_S_run_36 : decode cd_S_run 36 = .ok (.ldc2_w 100, 3) := by decide +kernel
theorem dc_S_run_39 : decode cd_S_run 39 = .ok (.lcmp, 1) := by decide +kernel
theorem dc_S_run_40 : decode cd_S_run 40 = .ok (.ifCond .ne 13, 3) := by decide +kernel
theorem dc_S_run_43 : decode cd_S_run 43 = .ok (.new 102, 3) := by decide +kernel
theorem dc_S_run_46 : decode cd_S_run 46 = .ok (.dup, 1) := by decide +kernel
theorem dc_S_run_47 : decode cd_S_run 47 = .ok (.ldc 104, 2) := by decide +kernel
theorem dc_S_run_49 : decode cd_S_run 49 = .ok (.invokespecial 106, 3) := by decide +kernel
theorem dc_S_run_52 : decode cd_S_run 52 = .ok (.athrow, 1) := by decide +kernel
theorem dc_S_run_53 : decode cd_S_run 53 = .ok (.lload 4, 2) := by decide +kernel
theorem dc_S_run_55 : decode cd_S_run 55 = .ok (.ldc2_w 107, 3) := by decide +kernel
theorem dc_S_run_58 : decode cd_S_run 58 = .ok (.lcmp, 1) := by decide +kernel
theorem dc_S_run_59 : decode cd_S_run 59 = .ok (.ifCond .ne 13, 3) := by decide +kernel
theorem dc_S_run_62 : decode cd_S_run 62 = .ok (.new 47, 3) := by decide +kernel
theorem dc_S_run_65 : decode cd_S_run 65 = .ok (.dup, 1) := by decide +kernel
theorem dc_S_run_66 : decode cd_S_run 66 = .ok (.ldc 109, 2) := by decide +kernel
theorem dc_S_run_68 : decode cd_S_run 68 = .ok (.invokespecial 51, 3) := by decide +kernel
theorem dc_S_run_71 : decode cd_S_run 71 = .ok (.athrow, 1) := by decide +kernel
theorem dc_S_run_72 : decode cd_S_run 72 = .ok (.aload_n 0, 1) := by decide +kernel
theorem dc_S_run_73 : decode cd_S_run 73 = .ok (.getfield 28, 3) := by decide +kernel
theorem dc_S_run_76 : decode cd_S_run 76 = .ok (.lload 4, 2) := by decide +kernel
theorem dc_S_run_78 : decode cd_S_run 78 = .ok (.invokevirtual 111, 3) := by decide +kernel
theorem dc_S_run_81 : decode cd_S_run 81 = .ok (.lload 4, 2) := by decide +kernel
theorem dc_S_run_83 : decode cd_S_run 83 = .ok (.invokestatic 115, 3) := by decide +kernel
theorem dc_S_run_86 : decode cd_S_run 86 = .ok (.ireturn, 1) := by decide +kernel
theorem dc_S_part_0 : decode cd_S_part 0 = .ok (.iload_n 1, 1) := by decide +kernel
theorem dc_S_part_1 : decode cd_S_part 1 = .ok (.ifCond .lt 14, 3) := by decide +kernel
theorem dc_S_part_4 : decode cd_S_part 4 = .ok (.iload_n 1, 1) := by decide +kernel
theorem dc_S_part_5 : decode cd_S_part 5 = .ok (.aload_n 0, 1) := by decide +kernel
theorem dc_S_part_6 : decode cd_S_part 6 = .ok (.getfield 28, 3) := by decide +kernel
theorem dc_S_part_9 : decode cd_S_part 9 = .ok (.getfield 119, 3) := by decide +kernel
theorem dc_S_part_12 : decode cd_S_part 12 = .ok (.if_icmp .lt 13, 3) := by decide +kernel
theorem dc_S_part_15 : decode cd_S_part 15 = .ok (.new 123, 3) := by decide +kernel
theorem dc_S_part_18 : decode cd_S_part 18 = .ok (.dup, 1) := by decide +kernel
theorem dc_S_part_19 : decode cd_S_part 19 = .ok (.ldc 125, 2) := by decide +kernel
theorem dc_S_part_21 : decode cd_S_part 21 = .ok (.invokespecial 127, 3) := by decide +kernel
theorem dc_S_part_24 : decode cd_S_part 24 = .ok (.athrow, 1) := by decide +kernel
theorem dc_S_part_25 : decode cd_S_part 25 = .ok (.aload_n 0, 1) := by decide +kernel
theorem dc_S_part_26 : decode cd_S_part 26 = .ok (.getfield 28, 3) := by decide +kernel
theorem dc_S_part_29 : decode cd_S_part 29 = .ok (.getfield 128, 3) := by decide +kernel
theorem dc_S_part_32 : decode cd_S_part 32 = .ok (.iload_n 1, 1) := by decide +kernel
theorem dc_S_part_33 : decode cd_S_part 33 = .ok (.iaload, 1) := by decide +kernel
theorem dc_S_part_34 : decode cd_S_part 34 = .ok (.ireturn, 1) := by decide +kernel
