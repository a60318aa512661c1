theorem dc_H_init_0 : decode cd_H_init 0 = .ok (.aload_n 0, 1) := by decide +kernel
theorem dc_H_init_1 : decode cd_H_init 1 = .ok (.invokespecial 3, 3) := by decide +kernel
theorem dc_H_init_4 : decode cd_H_init 4 = .ok (.aload_n 0, 1) := by decide +kernel
theorem dc_H_init_5 : decode cd_H_init 5 = .ok (.bipush 60, 2) := by decide +kernel
theorem dc_H_init_7 : decode cd_H_init 7 = .ok (.newarray .int, 2) := by decide +kernel
theorem dc_H_init_9 : decode cd_H_init 9 = .ok (.putfield 11, 3) := by decide +kernel
theorem dc_H_init_12 : decode cd_H_init 12 = .ok (.aload_n 0, 1) := by decide +kernel
theorem dc_H_init_13 : decode cd_H_init 13 = .ok (.bipush 24, 2) := by decide +kernel
theorem dc_H_init_15 : decode cd_H_init 15 = .ok (.newarray .long, 2) := by decide +kernel
theorem dc_H_init_17 : decode cd_H_init 17 = .ok (.putfield 15, 3) := by decide +kernel
theorem dc_H_init_20 : decode cd_H_init 20 = .ok (.aload_n 0, 1) := by decide +kernel
theorem dc_H_init_21 : decode cd_H_init 21 = .ok (.bipush 40, 2) := by decide +kernel
theorem dc_H_init_23 : decode cd_H_init 23 = .ok (.newarray .long, 2) := by decide +kernel
theorem dc_H_init_25 : decode cd_H_init 25 = .ok (.putfield 19, 3) := by decide +kernel
theorem dc_H_init_28 : decode cd_H_init 28 = .ok (.aload_n 0, 1) := by decide +kernel
theorem dc_H_init_29 : decode cd_H_init 29 = .ok (.bipush 40, 2) := by decide +kernel
theorem dc_H_init_31 : decode cd_H_init 31 = .ok (.newarray .long, 2) := by decide +kernel
theorem dc_H_init_33 : decode cd_H_init 33 = .ok (.putfield 22, 3) := by decide +kernel
theorem dc_H_init_36 : decode cd_H_init 36 = .ok (.aload_n 0, 1) := by decide +kernel
theorem dc_H_init_37 : decode cd_H_init 37 = .ok (.bipush 61, 2) := by decide +kernel
theorem dc_H_init_39 : decode cd_H_init 39 = .ok (.newarray .long, 2) := by decide +kernel
theorem dc_H_init_41 : decode cd_H_init 41 = .ok (.putfield 25, 3) := by decide +kernel
theorem dc_H_init_44 : decode cd_H_init 44 = .ok (.aload_n 0, 1) := by decide +kernel
theorem dc_H_init_45 : decode cd_H_init 45 = .ok (.aload_n 1, 1) := by decide +kernel
theorem dc_H_init_46 : decode cd_H_init 46 = .ok (.putfield 28, 3) := by decide +kernel
theorem dc_H_init_49 : decode cd_H_init 49 = .ok (.return_, 1) := by decide +kernel
theorem dc_H_kindOfNumber_0 : decode cd_H_kindOfNumber 0 = .ok (.iload_n 0, 1) := by decide +kernel
theorem dc_H_kindOfNumber_1 : decode cd_H_kindOfNumber 1 = .ok (.ifCond .ne 5, 3) := by decide +kernel
theorem dc_H_kindOfNumber_4 : decode cd_H_kindOfNumber 4 = .ok (.iconst 5, 1) := by decide +kernel
theorem dc_H_kindOfNumber_5 : decode cd_H_kindOfNumber 5 = .ok (.ireturn, 1) := by decide +kernel
theorem dc_H_kindOfNumber_6 : decode cd_H_kindOfNumber 6 = .ok (.iload_n 0, 1) := by decide +kernel
theorem dc_H_kindOfNumber_7 : decode cd_H_kindOfNumber 7 = .ok (.ifCond .ge 7, 3) := by decide +kernel
theorem dc_H_kindOfNumber_10 : decode cd_H_kindOfNumber 10 = .ok (.iconst 4, 1) := by decide +kernel
theorem dc_H_kindOfNumber_11 : decode cd_H_kindOfNumber 11 = .ok (.goto 5, 3) := by decide +kernel
theorem dc_H_kindOfNumber_14 : decode cd_H_kindOfNumber 14 = .ok (.bipush 6, 2) := by decide +kernel
theorem dc_H_kindOfNumber_16 : decode cd_H_kindOfNumber 16 = .ok (.ireturn, 1) := by decide +kernel
theorem dc_H_start_0 : decode cd_H_start 0 = .ok (.aload_n 0, 1) := by decide +kernel
theorem dc_H_start_1 : decode cd_H_start 1 = .ok (.iconst 0, 1) := by decide +kernel
theorem dc_H_start_2 : decode cd_H_start 2 = .ok (.putfield 32, 3) := by decide +kernel
theorem dc_H_start_5 : decode cd_H_start 5 = .ok (.aload_n 0, 1) := by decide +kernel
theorem dc_H_start_6 : decode cd_H_start 6 = .ok (.iconst 0, 1) := by decide +kernel
theorem dc_H_start_7 : decode cd_H_start 7 = .ok (.putfield 36, 3) := by decide +kernel
theorem dc_H_start_10 : decode cd_H_start 10 = .ok (.aload_n 0, 1) := by decide +kernel
theorem dc_H_start_11 : decode cd_H_start 11 = .ok (.iconst 0, 1) := by decide +kernel
theorem dc_H_start_12 : decode cd_H_start 12 = .ok (.putfield 39, 3) := by decide +kernel
theorem dc_H_start_15 : decode cd_H_start 15 = .ok (.aload_n 0, 1) := by decide +kernel
theorem dc_H_start_16 : decode cd_H_start 16 = .ok (.iconst 0, 1) := by decide +kernel
theorem dc_H_start_17 : decode cd_H_start 17 = .ok (.putfield 42, 3) := by decide +kernel
theorem dc_H_start_20 : decode cd_H_start 20 = .ok (.aload_n 0, 1) := by decide +kernel
theorem dc_H_start_21 : decode cd_H_start 21 = .ok (.iconst 0, 1) := by decide +kernel
theorem dc_H_start_22 : decode cd_H_start 22 = .ok (.putfield 45, 3) := by decide +kernel
theorem dc_H_start_25 : decode cd_H_start 25 = .ok (.aload_n 0, 1) := by decide +kernel
theorem dc_H_start_26 : decode cd_H_start 26 = .ok (.iconst 0, 1) := by decide +kernel
theorem dc_H_start_27 : decode cd_H_start 27 = .ok (.ldc2_w 48, 3) := by decide +kernel
theorem dc_H_start_30 : decode cd_H_start 30 = .ok (.ldc2_w 48, 3) := by decide +kernel
theorem dc_H_start_33 : decode cd_H_start 33 = .ok (.invokevirtual 50, 3) := by decide +kernel
theorem dc_H_start_36 : decode cd_H_start 36 = .ok (.aload_n 0, 1) := by decide +kernel
theorem dc_H_start_37 : decode cd_H_start 37 = .ok (.iload_n 1, 1) := by decide +kernel
theorem dc_H_start_38 : decode cd_H_start 38 = .ok (.iload_n 2, 1) := by decide +kernel
theorem dc_H_start_39 : decode cd_H_start 39 = .ok (.iload_n 3, 1) := by decide +kernel
theorem dc_H_start_40 : decode cd_H_start 40 = .ok (.iconst 0, 1) := by decide +kernel
theorem dc_H_start_41 : decode cd_H_start 41 = .ok (.invokevirtual 54, 3) := by decide +kernel
theorem dc_H_start_44 : decode cd_H_start 44 = .ok (.lreturn, 1) := by decide +kernel
theorem dc_H_openFrame_0 : decode cd_H_openFrame 0 = .ok (.iload_n 1, 1) := by decide +kernel
theorem dc_H_openFrame_1 : decode cd_H_openFrame 1 = .ok (.iconst 4, 1) := by decide +kernel
theorem dc_H_openFrame_2 : decode cd_H_openFrame 2 = .ok (.imul, 1) := by decide +kernel
theorem dc_H_openFrame_3 : decode cd_H_openFrame 3 = .ok (.istore 6, 2) := by decide +kernel
theorem dc_H_openFrame_5 : decode cd_H_openFrame 5 = .ok (.aload_n 0, 1) := by decide +kernel
theorem dc_H_openFrame_6 : decode cd_H_openFrame 6 = .ok (.getfield 15, 3) := by decide +kernel
theorem dc_H_openFrame_9 : decode cd_H_openFrame 9 = .ok (.iload 6, 2) := by decide +kernel
theorem dc_H_openFrame_11 : decode cd_H_openFrame 11 = .ok (.lload_n 2, 1) := by decide +kernel
theorem dc_H_openFrame_12 : decode cd_H_openFrame 12 = .ok (.lastore, 1) := by decide +kernel
theorem dc_H_openFrame_13 : decode cd_H_openFrame 13 = .ok (.aload_n 0, 1) := by decide +kernel
theorem dc_H_openFrame_14 : decode cd_H_openFrame 14 = .ok (.getfield 15, 3) := by decide +kernel
theorem dc_H_openFrame_17 : decode cd_H_openFrame 17 = .ok (.iload 6, 2) := by decide +kernel
theorem dc_H_openFrame_19 : decode cd_H_openFrame 19 = .ok (.iconst 1, 1) := by decide +kernel
theorem dc_H_openFrame_20 : decode cd_H_openFrame 20 = .ok (.iadd, 1) := by decide +kernel
theorem dc_H_openFrame_21 : decode cd_H_openFrame 21 = .ok (.lload 4, 2) := by decide +kernel
theorem dc_H_openFrame_23 : decode cd_H_openFrame 23 = .ok (.lastore, 1) := by decide +kernel
theorem dc_H_openFrame_24 : decode cd_H_openFrame 24 = .ok (.aload_n 0, 1) := by decide +kernel
theorem dc_H_openFrame_25 : decode cd_H_openFrame 25 = .ok (.getfield 15, 3) := by decide +kernel
theorem dc_H_openFrame_28 : decode cd_H_openFrame 28 = .ok (.iload 6, 2) := by decide +kernel
theorem dc_H_openFrame_30 : decode cd_H_openFrame 30 = .ok (.iconst 2, 1) := by decide +kernel
theorem dc_H_openFrame_31 : decode cd_H_openFrame 31 = .ok (.iadd, 1) := by decide +kernel
theorem dc_H_openFrame_32 : decode cd_H_openFrame 32 = .ok (.ldc2_w 48, 3) := by decide +kernel
theorem dc_H_openFrame_35 : decode cd_H_openFrame 35 = .ok (.lastore, 1) := by decide +kernel
theorem dc_H_openFrame_36 : decode cd_H_openFrame 36 = .ok (.aload_n 0, 1) := by decide +kernel
theorem dc_H_openFrame_37 : decode cd_H_openFrame 37 = .ok (.getfield 15, 3) := by decide +kernel
theorem dc_H_openFrame_40 : decode cd_H_openFrame 40 = .ok (.iload 6, 2) := by decide +kernel
theorem dc_H_openFrame_42 : decode cd_H_openFrame 42 = .ok (.iconst 3, 1) := by decide +kernel
theorem dc_H_openFrame_43 : decode cd_H_openFrame 43 = .ok (.iadd, 1) := by decide +kernel
theorem dc_H_openFrame_44 : decode cd_H_openFrame 44 = .ok (.ldc2_w 48, 3) := by decide +kernel
theorem dc_H_openFrame_47 : decode cd_H_openFrame 47 = .ok (.lastore, 1) := by decide +kernel
theorem dc_H_openFrame_48 : decode cd_H_openFrame 48 = .ok (.return_, 1) := by decide +kernel
theorem dc_H_callWith_0 : decode cd_H_callWith 0 = .ok (.aload_n 0, 1) := by decide +kernel
theorem dc_H_callWith_1 : decode cd_H_callWith 1 = .ok (.iload_n 2, 1) := by decide +kernel
theorem dc_H_callWith_2 : decode cd_H_callWith 2 = .ok (.iload 4, 2) := by decide +kernel
theorem dc_H_callWith_4 : decode cd_H_callWith 4 = .ok (.invokevirtual 123, 3) := by decide +kernel
theorem dc_H_callWith_7 : decode cd_H_callWith 7 = .ok (.lstore 5, 2) := by decide +kernel
theorem dc_H_callWith_9 : decode cd_H_callWith 9 = .ok (.lload 5, 2) := by decide +kernel
theorem dc_H_callWith_11 : decode cd_H_callWith 11 = .ok (.lconst 0, 1) := by decide +kernel
theorem dc_H_callWith_12 : decode cd_H_callWith 12 = .ok (.lcmp, 1) := by decide +kernel
theorem dc_H_callWith_13 : decode cd_H_callWith 13 = .ok (.ifCond .ge 6, 3) := by decide +kernel
theorem dc_H_callWith_16 : decode cd_H_callWith 16 = .ok (.lload 5, 2) := by decide +kernel
theorem dc_H_callWith_18 : decode cd_H_callWith 18 = .ok (.lreturn, 1) := by decide +kernel
theorem dc_H_callWith_19 : decode cd_H_callWith 19 = .ok (.ldc2_w 48, 3) := by decide +kernel
theorem dc_H_callWith_22 : decode cd_H_callWith 22 = .ok (.lstore 7, 2) := by decide +kernel
theorem dc_H_callWith_24 : decode cd_H_callWith 24 = .ok (.iload_n 1, 1) := by decide +kernel
theorem dc_H_callWith_25 : decode cd_H_callWith 25 = .ok (.invokestatic 135, 3) := by decide +kernel
theorem dc_H_callWith_28 : decode cd_H_callWith 28 = .ok (.iconst 2, 1) := by decide +kernel
theorem dc_H_callWith_29 : decode cd_H_callWith 29 = .ok (.if_icmp .ne 22, 3) := by decide +kernel
theorem dc_H_callWith_32 : decode cd_H_callWith 32 = .ok (.aload_n 0, 1) := by decide +kernel
theorem dc_H_callWith_33 : decode cd_H_callWith 33 = .ok (.iload_n 3, 1) := by decide +kernel
theorem dc_H_callWith_34 : decode cd_H_callWith 34 = .ok (.iload 4, 2) := by decide +kernel
theorem dc_H_callWith_36 : decode cd_H_callWith 36 = .ok (.invokevirtual 123, 3) := by decide +kernel
theorem dc_H_callWith_39 : decode cd_H_callWith 39 = .ok (.lstore 7, 2) := by decide +kernel
theorem dc_H_callWith_41 : decode cd_H_callWith 41 = .ok (.lload 7, 2) := by decide +kernel
theorem dc_H_callWith_43 : decode cd_H_callWith 43 = .ok (.lconst 0, 1) := by decide +kernel
theorem dc_H_callWith_44 : decode cd_H_callWith 44 = .ok (.lcmp, 1) := by decide +kernel
theorem dc_H_callWith_45 : decode cd_H_callWith 45 = .ok (.ifCond .ge 6, 3) := by decide +kernel
theorem dc_H_callWith_48 : decode cd_H_callWith 48 = .ok (.lload 7, 2) := by decide +kernel
theorem dc_H_callWith_50 : decode cd_H_callWith 50 = .ok (.lreturn, 1) := by decide +kernel
theorem dc_H_callWith_51 : decode cd_H_callWith 51 = .ok (.iload 4, 2) := by decide +kernel
theorem dc_H_callWith_53 : decode cd_H_callWith 53 = .ok (.iconst 5, 1) := by decide +kernel
theorem dc_H_callWith_54 : decode cd_H_callWith 54 = .ok (.if_icmp .lt 7, 3) := by decide +kernel
theorem dc_H_callWith_57 : decode cd_H_callWith 57 = .ok (.ldc2_w 75, 3) := by decide +kernel
theorem dc_H_callWith_60 : decode cd_H_callWith 60 = .ok (.lreturn, 1) := by decide +kernel
theorem dc_H_callWith_61 : decode cd_H_callWith 61 = .ok (.aload_n 0, 1) := by decide +kernel
theorem dc_H_callWith_62 : decode cd_H_callWith 62 = .ok (.dup, 1) := by decide +kernel
theorem dc_H_callWith_63 : decode cd_H_callWith 63 = .ok (.getfield 32, 3) := by decide +kernel
theorem dc_H_callWith_66 : decode cd_H_callWith 66 = .ok (.iconst 1, 1) := by decide +kernel
theorem dc_H_callWith_67 : decode cd_H_callWith 67 = .ok (.iadd, 1) := by decide +kernel
theorem dc_H_callWith_68 : decode cd_H_callWith 68 = .ok (.putfield 32, 3) := by decide +kernel
theorem dc_H_callWith_71 : decode cd_H_callWith 71 = .ok (.aload_n 0, 1) := by decide +kernel
theorem dc_H_callWith_72 : decode cd_H_callWith 72 = .ok (.getfield 28, 3) := by decide +kernel
theorem dc_H_callWith_75 : decode cd_H_callWith 75 = .ok (.getfield 139, 3) := by decide +kernel
theorem dc_H_callWith_78 : decode cd_H_callWith 78 = .ok (.iload_n 1, 1) := by decide +kernel
theorem dc_H_callWith_79 : decode cd_H_callWith 79 = .ok (.iaload, 1) := by decide +kernel
theorem dc_H_callWith_80 : decode cd_H_callWith 80 = .ok (.istore 9, 2) := by decide +kernel
theorem dc_H_callWith_82 : decode cd_H_callWith 82 = .ok (.iload 9, 2) := by decide +kernel
theorem dc_H_callWith_84 : decode cd_H_callWith 84 = .ok (.iconst (-1), 1) := by decide +kernel
theorem dc_H_callWith_85 : decode cd_H_callWith 85 = .ok (.if_icmp .ne 8, 3) := by decide +kernel
theorem dc_H_callWith_88 : decode cd_H_callWith 88 = .ok (.aload_n 0, 1) := by decide +kernel
theorem dc_H_callWith_89 : decode cd_H_callWith 89 = .ok (.invokevirtual 114, 3) := by decide +kernel
theorem dc_H_callWith_92 : decode cd_H_callWith 92 = .ok (.lreturn, 1) := by decide +kernel
theorem dc_H_callWith_93 : decode cd_H_callWith 93 = .ok (.aload_n 0, 1) := by decide +kernel
theorem dc_H_callWith_94 : decode cd_H_callWith 94 = .ok (.iload 4, 2) := by decide +kernel
theorem dc_H_callWith_96 : decode cd_H_callWith 96 = .ok (.iconst 1, 1) := by decide +kernel
theorem dc_H_callWith_97 : decode cd_H_callWith 97 = .ok (.iadd, 1) := by decide +kernel
theorem dc_H_callWith_98 : decode cd_H_callWith 98 = .ok (.lload 5, 2) := by decide +kernel
theorem dc_H_callWith_100 : decode cd_H_callWith 100 = .ok (.lload 7, 2) := by decide +kernel
theorem dc_H_callWith_102 : decode cd_H_callWith 102 = .ok (.invokevirtual 50, 3) := by decide +kernel
theorem dc_H_callWith_105 : decode cd_H_callWith 105 = .ok (.aload_n 0, 1) := by decide +kernel
theorem dc_H_callWith_106 : decode cd_H_callWith 106 = .ok (.iload 9, 2) := by decide +kernel
theorem dc_H_callWith_108 : decode cd_H_callWith 108 = .ok (.iload 4, 2) := by decide +kernel
theorem dc_H_callWith_110 : decode cd_H_callWith 110 = .ok (.iconst 1, 1) := by decide +kernel
theorem dc_H_callWith_111 : decode cd_H_callWith 111 = .ok (.iadd, 1) := by decide +kernel
theorem dc_H_callWith_112 : decode cd_H_callWith 112 = .ok (.invokevirtual 123, 3) := by decide +kernel
theorem dc_H_callWith_115 : decode cd_H_callWith 115 = .ok (.lreturn, 1) := by decide +kernel
theorem dc_H_workOut_0 : decode cd_H_workOut 0 = .ok (.aload_n 0, 1) := by decide +kernel
theorem dc_H_workOut_1 : decode cd_H_workOut 1 = .ok (.getfield 42, 3) := by decide +kernel
theorem dc_H_workOut_4 : decode cd_H_workOut 4 = .ok (.sipush 200, 3) := by decide +kernel
theorem dc_H_workOut_7 : decode cd_H_workOut 7 = .ok (.if_icmp .lt 7, 3) := by decide +kernel
theorem dc_H_workOut_10 : decode cd_H_workOut 10 = .ok (.ldc2_w 75, 3) := by decide +kernel
theorem dc_H_workOut_13 : decode cd_H_workOut 13 = .ok (.lreturn, 1) := by decide +kernel
theorem dc_H_workOut_14 : decode cd_H_workOut 14 = .ok (.aload_n 0, 1) := by decide +kernel
theorem dc_H_workOut_15 : decode cd_H_workOut 15 = .ok (.dup, 1) := by decide +kernel
theorem dc_H_workOut_16 : decode cd_H_workOut 16 = .ok (.getfield 42, 3) := by decide +kernel
theorem dc_H_workOut_19 : decode cd_H_workOut 19 = .ok (.iconst 1, 1) := by decide +kernel
theorem dc_H_workOut_20 : decode cd_H_workOut 20 = .ok (.iadd, 1) := by decide +kernel
theorem dc_H_workOut_21 : decode cd_H_workOut 21 = .ok (.putfield 42, 3) := by decide +kernel
theorem dc_H_workOut_24 : decode cd_H_workOut 24 = .ok (.aload_n 0, 1) := by decide +kernel
theorem dc_H_workOut_25 : decode cd_H_workOut 25 = .ok (.getfield 28, 3) := by decide +kernel
theorem dc_H_workOut_28 : decode cd_H_workOut 28 = .ok (.getfield 77, 3) := by decide +kernel
theorem dc_H_workOut_31 : decode cd_H_workOut 31 = .ok (.iload_n 1, 1) := by decide +kernel
theorem dc_H_workOut_32 : decode cd_H_workOut 32 = .ok (.iaload, 1) := by decide +kernel
theorem dc_H_workOut_33 : decode cd_H_workOut 33 = .ok (.istore_n 3, 1) := by decide +kernel
theorem dc_H_workOut_34 : decode cd_H_workOut 34 = .ok (.aload_n 0, 1) := by decide +kernel
theorem dc_H_workOut_35 : decode cd_H_workOut 35 = .ok (.getfield 28, 3) := by decide +kernel
theorem dc_H_workOut_38 : decode cd_H_workOut 38 = .ok (.getfield 82, 3) := by decide +kernel
theorem dc_H_workOut_41 : decode cd_H_workOut 41 = .ok (.iload_n 1, 1) := by decide +kernel
theorem dc_H_workOut_42 : decode cd_H_workOut 42 = .ok (.iaload, 1) := by decide +kernel
theorem dc_H_workOut_43 : decode cd_H_workOut 43 = .ok (.tableswitch 156 0 14 #[73, 80, 86, 91, 156, 156, 156, 98, 98, 105, 112, 137, 144, 156, 151], 73) := by decide +kernel
theorem dc_H_workOut_116 : decode cd_H_workOut 116 = .ok (.aload_n 0, 1) := by decide +kernel
theorem dc_H_workOut_117 : decode cd_H_workOut 117 = .ok (.iload_n 3, 1) := by decide +kernel
theorem dc_H_workOut_118 : decode cd_H_workOut 118 = .ok (.iload_n 2, 1) := by decide +kernel
theorem dc_H_workOut_119 : decode cd_H_workOut 119 = .ok (.invokevirtual 85, 3) := by decide +kernel
theorem dc_H_workOut_122 : decode cd_H_workOut 122 = .ok (.lreturn, 1) := by decide +kernel
theorem dc_H_workOut_123 : decode cd_H_workOut 123 = .ok (.iload_n 3, 1) := by decide +kernel
theorem dc_H_workOut_124 : decode cd_H_workOut 124 = .ok (.iconst 0, 1) := by decide +kernel
theorem dc_H_workOut_125 : decode cd_H_workOut 125 = .ok (.invokestatic 89, 3) := by decide +kernel
theorem dc_H_workOut_128 : decode cd_H_workOut 128 = .ok (.lreturn, 1) := by decide +kernel
theorem dc_H_workOut_129 : decode cd_H_workOut 129 = .ok (.iload_n 3, 1) := by decide +kernel
theorem dc_H_workOut_130 : decode cd_H_workOut 130 = .ok (.invokestatic 92, 3) := by decide +kernel
theorem dc_H_workOut_133 : decode cd_H_workOut 133 = .ok (.lreturn, 1) := by decide +kernel
theorem dc_H_workOut_134 : decode cd_H_workOut 134 = .ok (.bipush 7, 2) := by decide +kernel
theorem dc_H_workOut_136 : decode cd_H_workOut 136 = .ok (.iconst 0, 1) := by decide +kernel
theorem dc_H_workOut_137 : decode cd_H_workOut 137 = .ok (.invokestatic 89, 3) := by decide +kernel
theorem dc_H_workOut_140 : decode cd_H_workOut 140 = .ok (.lreturn, 1) := by decide +kernel
theorem dc_H_workOut_141 : decode cd_H_workOut 141 = .ok (.aload_n 0, 1) := by decide +kernel
theorem dc_H_workOut_142 : decode cd_H_workOut 142 = .ok (.iload_n 1, 1) := by decide +kernel
theorem dc_H_workOut_143 : decode cd_H_workOut 143 = .ok (.iload_n 2, 1) := by decide +kernel
theorem dc_H_workOut_144 : decode cd_H_workOut 144 = .ok (.invokevirtual 96, 3) := by decide +kernel
theorem dc_H_workOut_147 : decode cd_H_workOut 147 = .ok (.lreturn, 1) := by decide +kernel
theorem dc_H_workOut_148 : decode cd_H_workOut 148 = .ok (.aload_n 0, 1) := by decide +kernel
theorem dc_H_workOut_149 : decode cd_H_workOut 149 = .ok (.iload_n 1, 1) := by decide +kernel
theorem dc_H_workOut_150 : decode cd_H_workOut 150 = .ok (.iload_n 2, 1) := by decide +kernel
theorem dc_H_workOut_151 : decode cd_H_workOut 151 = .ok (.invokevirtual 99, 3) := by decide +kernel
theorem dc_H_workOut_154 : decode cd_H_workOut 154 = .ok (.lreturn, 1) := by decide +kernel
theorem dc_H_workOut_155 : decode cd_H_workOut 155 = .ok (.aload_n 0, 1) := by decide +kernel
theorem dc_H_workOut_156 : decode cd_H_workOut 156 = .ok (.iload_n 3, 1) := by decide +kernel
theorem dc_H_workOut_157 : decode cd_H_workOut 157 = .ok (.aload_n 0, 1) := by decide +kernel
theorem dc_H_workOut_158 : decode cd_H_workOut 158 = .ok (.getfield 28, 3) := by decide +kernel
theorem dc_H_workOut_161 : decode cd_H_workOut 161 = .ok (.getfield 102, 3) := by decide +kernel
theorem dc_H_workOut_164 : decode cd_H_workOut 164 = .ok (.iload_n 1, 1) := by decide +kernel
theorem dc_H_workOut_165 : decode cd_H_workOut 165 = .ok (.iaload, 1) := by decide +kernel
theorem dc_H_workOut_166 : decode cd_H_workOut 166 = .ok (.aload_n 0, 1) := by decide +kernel
theorem dc_H_workOut_167 : decode cd_H_workOut 167 = .ok (.getfield 28, 3) := by decide +kernel
theorem dc_H_workOut_170 : decode cd_H_workOut 170 = .ok (.getfield 105, 3) := by decide +kernel
theorem dc_H_workOut_173 : decode cd_H_workOut 173 = .ok (.iload_n 1, 1) := by decide +kernel
theorem dc_H_workOut_174 : decode cd_H_workOut 174 = .ok (.iaload, 1) := by decide +kernel
theorem dc_H_workOut_175 : decode cd_H_workOut 175 = .ok (.iload_n 2, 1) := by decide +kernel
theorem dc_H_workOut_176 : decode cd_H_workOut 176 = .ok (.invokevirtual 54, 3) := by decide +kernel
theorem dc_H_workOut_179 : decode cd_H_workOut 179 = .ok (.lreturn, 1) := by decide +kernel
theorem dc_H_workOut_180 : decode cd_H_workOut 180 = .ok (.aload_n 0, 1) := by decide +kernel
theorem dc_H_workOut_181 : decode cd_H_workOut 181 = .ok (.iload_n 1, 1) := by decide +kernel
theorem dc_H_workOut_182 : decode cd_H_workOut 182 = .ok (.iload_n 2, 1) := by decide +kernel
theorem dc_H_workOut_183 : decode cd_H_workOut 183 = .ok (.invokevirtual 108, 3) := by decide +kernel
theorem dc_H_workOut_186 : decode cd_H_workOut 186 = .ok (.lreturn, 1) := by decide +kernel
theorem dc_H_workOut_187 : decode cd_H_workOut 187 = .ok (.aload_n 0, 1) := by decide +kernel
theorem dc_H_workOut_188 : decode cd_H_workOut 188 = .ok (.iload_n 1, 1) := by decide +kernel
theorem dc_H_workOut_189 : decode cd_H_workOut 189 = .ok (.iload_n 2, 1) := by decide +kernel
theorem dc_H_workOut_190 : decode cd_H_workOut 190 = .ok (.invokevirtual 111, 3) := by decide +kernel
theorem dc_H_workOut_193 : decode cd_H_workOut 193 = .ok (.lreturn, 1) := by decide +kernel
theorem dc_H_workOut_194 : decode cd_H_workOut 194 = .ok (.aload_n 0, 1) := by decide +kernel
theorem dc_H_workOut_195 : decode cd_H_workOut 195 = .ok (.invokevirtual 114, 3) := by decide +kernel
theorem dc_H_workOut_198 : decode cd_H_workOut 198 = .ok (.lreturn, 1) := by decide +kernel
theorem dc_H_workOut_199 : decode cd_H_workOut 199 = .ok (.aload_n 0, 1) := by decide +kernel
theorem dc_H_workOut_200 : decode cd_H_workOut 200 = .ok (.iload_n 1, 1) := by decide +kernel
theorem dc_H_workOut_201 : decode cd_H_workOut 201 = .ok (.iload_n 2, 1) := by decide +kernel
theorem dc_H_workOut_202 : decode cd_H_workOut 202 = .ok (.invokevirtual 118, 3) := by decide +kernel
theorem dc_H_workOut_205 : decode cd_H_workOut 205 = .ok (.lreturn, 1) := by decide +kernel
theorem dc_H_variable_0 : decode cd_H_variable 0 = .ok (.aload_n 0, 1) := by decide +kernel
theorem dc_H_variable_1 : decode cd_H_variable 1 = .ok (.getfield 15, 3) := by decide +kernel
theorem dc_H_variable_4 : decode cd_H_variable 4 = .ok (.iload_n 2, 1) := by decide +kernel
theorem dc_H_variable_5 : decode cd_H_variable 5 = .ok (.iconst 4, 1) := by decide +kernel
theorem dc_H_variable_6 : decode cd_H_variable 6 = .ok (.imul, 1) := by decide +kernel
theorem dc_H_variable_7 : decode cd_H_variable 7 = .ok (.iload_n 1, 1) := by decide +kernel
theorem dc_H_variable_8 : decode cd_H_variable 8 = .ok (.iadd, 1) := by decide +kernel
theorem dc_H_variable_9 : decode cd_H_variable 9 = .ok (.laload, 1) := by decide +kernel
theorem dc_H_variable_10 : decode cd_H_variable 10 = .ok (.lstore_n 3, 1) := by decide +kernel
theorem dc_H_variable_11 : decode cd_H_variable 11 = .ok (.lload_n 3, 1) := by decide +kernel
theorem dc_H_variable_12 : decode cd_H_variable 12 = .ok (.ldc2_w 48, 3) := by decide +kernel
theorem dc_H_variable_15 : decode cd_H_variable 15 = .ok (.lcmp, 1) := by decide +kernel
theorem dc_H_variable_16 : decode cd_H_variable 16 = .ok (.ifCond .ne 10, 3) := by decide +kernel
theorem dc_H_variable_19 : decode cd_H_variable 19 = .ok (.aload_n 0, 1) := by decide +kernel
theorem dc_H_variable_20 : decode cd_H_variable 20 = .ok (.invokevirtual 114, 3) := by decide +kernel
theorem dc_H_variable_23 : decode cd_H_variable 23 = .ok (.goto 4, 3) := by decide +kernel
theorem dc_H_variable_26 : decode cd_H_variable 26 = .ok (.lload_n 3, 1) := by decide +kernel
theorem dc_H_variable_27 : decode cd_H_variable 27 = .ok (.lreturn, 1) := by decide +kernel
theorem dc_H_fail_0 : decode cd_H_fail 0 = .ok (.aload_n 0, 1) := by decide +kernel
theorem dc_H_fail_1 : decode cd_H_fail 1 = .ok (.dup, 1) := by decide +kernel
theorem dc_H_fail_2 : decode cd_H_fail 2 = .ok (.getfield 45, 3) := by decide +kernel
theorem dc_H_fail_5 : decode cd_H_fail 5 = .ok (.iconst 1, 1) := by decide +kernel
theorem dc_H_fail_6 : decode cd_H_fail 6 = .ok (.iadd, 1) := by decide +kernel
theorem dc_H_fail_7 : decode cd_H_fail 7 = .ok (.putfield 45, 3) := by decide +kernel
theorem dc_H_fail_10 : decode cd_H_fail 10 = .ok (.aload_n 0, 1) := by decide +kernel
theorem dc_H_fail_11 : decode cd_H_fail 11 = .ok (.getfield 45, 3) := by decide +kernel
theorem dc_H_fail_14 : decode cd_H_fail 14 = .ok (.bipush 6, 2) := by decide +kernel
theorem dc_H_fail_16 : decode cd_H_fail 16 = .ok (.if_icmp .le 9, 3) := by decide +kernel
theorem dc_H_fail_19 : decode cd_H_fail 19 = .ok (.ldc2_w 75, 3) := by decide +kernel
theorem dc_H_fail_22 : decode cd_H_fail 22 = .ok (.goto 6, 3) := by decide +kernel
theorem dc_H_fail_25 : decode cd_H_fail 25 = .ok (.ldc2_w 121, 3) := by decide +kernel
theorem dc_H_fail_28 : decode cd_H_fail 28 = .ok (.lreturn, 1) := by decide +kernel
theorem dc_H_value_0 : decode cd_H_value 0 = .ok (.iload_n 0, 1) := by decide +kernel
theorem dc_H_value_1 : decode cd_H_value 1 = .ok (.i2l, 1) := by decide +kernel
theorem dc_H_value_2 : decode cd_H_value 2 = .ok (.bipush 32, 2) := by decide +kernel
theorem dc_H_value_4 : decode cd_H_value 4 = .ok (.lshl, 1) := by decide +kernel
theorem dc_H_value_5 : decode cd_H_value 5 = .ok (.iload_n 1, 1) := by decide +kernel
theorem dc_H_value_6 : decode cd_H_value 6 = .ok (.i2l, 1) := by decide +kernel
theorem dc_H_value_7 : decode cd_H_value 7 = .ok (.ldc2_w 153, 3) := by decide +kernel
theorem dc_H_value_10 : decode cd_H_value 10 = .ok (.land, 1) := by decide +kernel
theorem dc_H_value_11 : decode cd_H_value 11 = .ok (.lor, 1) := by decide +kernel
theorem dc_H_value_12 : decode cd_H_value 12 = .ok (.lreturn, 1) := by decide +kernel
theorem dc_H_number_0 : decode cd_H_number 0 = .ok (.iload_n 0, 1) := by decide +kernel
theorem dc_H_number_1 : decode cd_H_number 1 = .ok (.invokestatic 150, 3) := by decide +kernel
theorem dc_H_number_4 : decode cd_H_number 4 = .ok (.iload_n 0, 1) := by decide +kernel
theorem dc_H_number_5 : decode cd_H_number 5 = .ok (.invokestatic 89, 3) := by decide +kernel
theorem dc_H_number_8 : decode cd_H_number 8 = .ok (.lreturn, 1) := by decide +kernel
theorem dc_H_headOrTail_0 : decode cd_H_headOrTail 0 = .ok (.aload_n 0, 1) := by decide +kernel
theorem dc_H_headOrTail_1 : decode cd_H_headOrTail 1 = .ok (.aload_n 0, 1) := by decide +kernel
theorem dc_H_headOrTail_2 : decode cd_H_headOrTail 2 = .ok (.getfield 28, 3) := by decide +kernel
theorem dc_H_headOrTail_5 : decode cd_H_headOrTail 5 = .ok (.getfield 102, 3) := by decide +kernel
theorem dc_H_headOrTail_8 : decode cd_H_headOrTail 8 = .ok (.iload_n 1, 1) := by decide +kernel
theorem dc_H_headOrTail_9 : decode cd_H_headOrTail 9 = .ok (.iaload, 1) := by decide +kernel
theorem dc_H_headOrTail_10 : decode cd_H_headOrTail 10 = .ok (.iload_n 2, 1) := by decide +kernel
theorem dc_H_headOrTail_11 : decode cd_H_headOrTail 11 = .ok (.invokevirtual 123, 3) := by decide +kernel
theorem dc_H_headOrTail_14 : decode cd_H_headOrTail 14 = .ok (.lstore_n 3, 1) := by decide +kernel
theorem dc_H_headOrTail_15 : decode cd_H_headOrTail 15 = .ok (.lload_n 3, 1) := by decide +kernel
theorem dc_H_headOrTail_16 : decode cd_H_headOrTail 16 = .ok (.lconst 0, 1) := by decide +kernel
theorem dc_H_headOrTail_17 : decode cd_H_headOrTail 17 = .ok (.lcmp, 1) := by decide +kernel
theorem dc_H_headOrTail_18 : decode cd_H_headOrTail 18 = .ok (.ifCond .ge 5, 3) := by decide +kernel
theorem dc_H_headOrTail_21 : decode cd_H_headOrTail 21 = .ok (.lload_n 3, 1) := by decide +kernel
theorem dc_H_headOrTail_22 : decode cd_H_headOrTail 22 = .ok (.lreturn, 1) := by decide +kernel
theorem dc_H_headOrTail_23 : decode cd_H_headOrTail 23 = .ok (.lload_n 3, 1) := by decide +kernel
theorem dc_H_headOrTail_24 : decode cd_H_headOrTail 24 = .ok (.invokestatic 69, 3) := by decide +kernel
theorem dc_H_headOrTail_27 : decode cd_H_headOrTail 27 = .ok (.ifCond .ne 8, 3) := by decide +kernel
theorem dc_H_headOrTail_30 : decode cd_H_headOrTail 30 = .ok (.aload_n 0, 1) := by decide +kernel
theorem dc_H_headOrTail_31 : decode cd_H_headOrTail 31 = .ok (.invokevirtual 114, 3) := by decide +kernel
theorem dc_H_headOrTail_34 : decode cd_H_headOrTail 34 = .ok (.lreturn, 1) := by decide +kernel
theorem dc_H_headOrTail_35 : decode cd_H_headOrTail 35 = .ok (.aload_n 0, 1) := by decide +kernel
theorem dc_H_headOrTail_36 : decode cd_H_headOrTail 36 = .ok (.getfield 28, 3) := by decide +kernel
theorem dc_H_headOrTail_39 : decode cd_H_headOrTail 39 = .ok (.getfield 82, 3) := by decide +kernel
theorem dc_H_headOrTail_42 : decode cd_H_headOrTail 42 = .ok (.iload_n 1, 1) := by decide +kernel
theorem dc_H_headOrTail_43 : decode cd_H_headOrTail 43 = .ok (.iaload, 1) := by decide +kernel
theorem dc_H_headOrTail_44 : decode cd_H_headOrTail 44 = .ok (.bipush 7, 2) := by decide +kernel
theorem dc_H_headOrTail_46 : decode cd_H_headOrTail 46 = .ok (.if_icmp .ne 15, 3) := by decide +kernel
theorem dc_H_headOrTail_49 : decode cd_H_headOrTail 49 = .ok (.aload_n 0, 1) := by decide +kernel
theorem dc_H_headOrTail_50 : decode cd_H_headOrTail 50 = .ok (.getfield 19, 3) := by decide +kernel
theorem dc_H_headOrTail_53 : decode cd_H_headOrTail 53 = .ok (.lload_n 3, 1) := by decide +kernel
theorem dc_H_headOrTail_54 : decode cd_H_headOrTail 54 = .ok (.invokestatic 62, 3) := by decide +kernel
theorem dc_H_headOrTail_57 : decode cd_H_headOrTail 57 = .ok (.laload, 1) := by decide +kernel
theorem dc_H_headOrTail_58 : decode cd_H_headOrTail 58 = .ok (.goto 12, 3) := by decide +kernel
theorem dc_H_headOrTail_61 : decode cd_H_headOrTail 61 = .ok (.aload_n 0, 1) := by decide +kernel
theorem dc_H_headOrTail_62 : decode cd_H_headOrTail 62 = .ok (.getfield 22, 3) := by decide +kernel
theorem dc_H_headOrTail_65 : decode cd_H_headOrTail 65 = .ok (.lload_n 3, 1) := by decide +kernel
theorem dc_H_headOrTail_66 : decode cd_H_headOrTail 66 = .ok (.invokestatic 62, 3) := by decide +kernel
theorem dc_H_headOrTail_69 : decode cd_H_headOrTail 69 = .ok (.laload, 1) := by decide +kernel
theorem dc_H_headOrTail_70 : decode cd_H_headOrTail 70 = .ok (.lreturn, 1) := by decide +kernel
theorem dc_H_isPair_0 : decode cd_H_isPair 0 = .ok (.lload_n 0, 1) := by decide +kernel
theorem dc_H_isPair_1 : decode cd_H_isPair 1 = .ok (.invokestatic 66, 3) := by decide +kernel
theorem dc_H_isPair_4 : decode cd_H_isPair 4 = .ok (.bipush 8, 2) := by decide +kernel
theorem dc_H_isPair_6 : decode cd_H_isPair 6 = .ok (.if_icmp .ne 7, 3) := by decide +kernel
theorem dc_H_isPair_9 : decode cd_H_isPair 9 = .ok (.iconst 1, 1) := by decide +kernel
theorem dc_H_isPair_10 : decode cd_H_isPair 10 = .ok (.goto 4, 3) := by decide +kernel
theorem dc_H_isPair_13 : decode cd_H_isPair 13 = .ok (.iconst 0, 1) := by decide +kernel
theorem dc_H_isPair_14 : decode cd_H_isPair 14 = .ok (.ireturn, 1) := by decide +kernel
theorem dc_H_kindOf_0 : decode cd_H_kindOf 0 = .ok (.lload_n 0, 1) := by decide +kernel
theorem dc_H_kindOf_1 : decode cd_H_kindOf 1 = .ok (.bipush 32, 2) := by decide +kernel
theorem dc_H_kindOf_3 : decode cd_H_kindOf 3 = .ok (.lshr, 1) := by decide +kernel
theorem dc_H_kindOf_4 : decode cd_H_kindOf 4 = .ok (.l2i, 1) := by decide +kernel
theorem dc_H_kindOf_5 : decode cd_H_kindOf 5 = .ok (.ireturn, 1) := by decide +kernel
theorem dc_H_detailOf_0 : decode cd_H_detailOf 0 = .ok (.lload_n 0, 1) := by decide +kernel
theorem dc_H_detailOf_1 : decode cd_H_detailOf 1 = .ok (.l2i, 1) := by decide +kernel
theorem dc_H_detailOf_2 : decode cd_H_detailOf 2 = .ok (.ireturn, 1) := by decide +kernel
theorem dc_H_oneOfCase_0 : decode cd_H_oneOfCase 0 = .ok (.aload_n 0, 1) := by decide +kernel
theorem dc_H_oneOfCase_1 : decode cd_H_oneOfCase 1 = .ok (.aload_n 0, 1) := by decide +kernel
theorem dc_H_oneOfCase_2 : decode cd_H_oneOfCase 2 = .ok (.getfield 28, 3) := by decide +kernel
theorem dc_H_oneOfCase_5 : decode cd_H_oneOfCase 5 = .ok (.getfield 102, 3) := by decide +kernel
theorem dc_H_oneOfCase_8 : decode cd_H_oneOfCase 8 = .ok (.iload_n 1, 1) := by decide +kernel
theorem dc_H_oneOfCase_9 : decode cd_H_oneOfCase 9 = .ok (.iaload, 1) := by decide +kernel
theorem dc_H_oneOfCase_10 : decode cd_H_oneOfCase 10 = .ok (.iload_n 2, 1) := by decide +kernel
theorem dc_H_oneOfCase_11 : decode cd_H_oneOfCase 11 = .ok (.invokevirtual 123, 3) := by decide +kernel
theorem dc_H_oneOfCase_14 : decode cd_H_oneOfCase 14 = .ok (.lstore_n 3, 1) := by decide +kernel
theorem dc_H_oneOfCase_15 : decode cd_H_oneOfCase 15 = .ok (.lload_n 3, 1) := by decide +kernel
theorem dc_H_oneOfCase_16 : decode cd_H_oneOfCase 16 = .ok (.lconst 0, 1) := by decide +kernel
theorem dc_H_oneOfCase_17 : decode cd_H_oneOfCase 17 = .ok (.lcmp, 1) := by decide +kernel
theorem dc_H_oneOfCase_18 : decode cd_H_oneOfCase 18 = .ok (.ifCond .ge 5, 3) := by decide +kernel
theorem dc_H_oneOfCase_21 : decode cd_H_oneOfCase 21 = .ok (.lload_n 3, 1) := by decide +kernel
theorem dc_H_oneOfCase_22 : decode cd_H_oneOfCase 22 = .ok (.lreturn, 1) := by decide +kernel
theorem dc_H_oneOfCase_23 : decode cd_H_oneOfCase 23 = .ok (.aload_n 0, 1) := by decide +kernel
theorem dc_H_oneOfCase_24 : decode cd_H_oneOfCase 24 = .ok (.getfield 28, 3) := by decide +kernel
theorem dc_H_oneOfCase_27 : decode cd_H_oneOfCase 27 = .ok (.getfield 77, 3) := by decide +kernel
theorem dc_H_oneOfCase_30 : decode cd_H_oneOfCase 30 = .ok (.iload_n 1, 1) := by decide +kernel
theorem dc_H_oneOfCase_31 : decode cd_H_oneOfCase 31 = .ok (.iaload, 1) := by decide +kernel
theorem dc_H_oneOfCase_32 : decode cd_H_oneOfCase 32 = .ok (.lload_n 3, 1) := by decide +kernel
theorem dc_H_oneOfCase_33 : decode cd_H_oneOfCase 33 = .ok (.invokestatic 66, 3) := by decide +kernel
theorem dc_H_oneOfCase_36 : decode cd_H_oneOfCase 36 = .ok (.invokestatic 126, 3) := by decide +kernel
theorem dc_H_oneOfCase_39 : decode cd_H_oneOfCase 39 = .ok (.istore 5, 2) := by decide +kernel
theorem dc_H_oneOfCase_41 : decode cd_H_oneOfCase 41 = .ok (.aload_n 0, 1) := by decide +kernel
theorem dc_H_oneOfCase_42 : decode cd_H_oneOfCase 42 = .ok (.iload 5, 2) := by decide +kernel
theorem dc_H_oneOfCase_44 : decode cd_H_oneOfCase 44 = .ok (.ifCond .eq 15, 3) := by decide +kernel
theorem dc_H_oneOfCase_47 : decode cd_H_oneOfCase 47 = .ok (.aload_n 0, 1) := by decide +kernel
theorem dc_H_oneOfCase_48 : decode cd_H_oneOfCase 48 = .ok (.getfield 28, 3) := by decide +kernel
theorem dc_H_oneOfCase_51 : decode cd_H_oneOfCase 51 = .ok (.getfield 105, 3) := by decide +kernel
theorem dc_H_oneOfCase_54 : decode cd_H_oneOfCase 54 = .ok (.iload_n 1, 1) := by decide +kernel
theorem dc_H_oneOfCase_55 : decode cd_H_oneOfCase 55 = .ok (.iaload, 1) := by decide +kernel
theorem dc_H_oneOfCase_56 : decode cd_H_oneOfCase 56 = .ok (.goto 12, 3) := by decide +kernel
theorem dc_H_oneOfCase_59 : decode cd_H_oneOfCase 59 = .ok (.aload_n 0, 1) := by decide +kernel
theorem dc_H_oneOfCase_60 : decode cd_H_oneOfCase 60 = .ok (.getfield 28, 3) := by decide +kernel
theorem dc_H_oneOfCase_63 : decode cd_H_oneOfCase 63 = .ok (.getfield 132, 3) := by decide +kernel
theorem dc_H_oneOfCase_66 : decode cd_H_oneOfCase 66 = .ok (.iload_n 1, 1) := by decide +kernel
theorem dc_H_oneOfCase_67 : decode cd_H_oneOfCase 67 = .ok (.iaload, 1) := by decide +kernel
theorem dc_H_oneOfCase_68 : decode cd_H_oneOfCase 68 = .ok (.iload_n 2, 1) := by decide +kernel
theorem dc_H_oneOfCase_69 : decode cd_H_oneOfCase 69 = .ok (.invokevirtual 123, 3) := by decide +kernel
theorem dc_H_oneOfCase_72 : decode cd_H_oneOfCase 72 = .ok (.lreturn, 1) := by decide +kernel
theorem dc_H_letIn_0 : decode cd_H_letIn 0 = .ok (.aload_n 0, 1) := by decide +kernel
theorem dc_H_letIn_1 : decode cd_H_letIn 1 = .ok (.aload_n 0, 1) := by decide +kernel
theorem dc_H_letIn_2 : decode cd_H_letIn 2 = .ok (.getfield 28, 3) := by decide +kernel
theorem dc_H_letIn_5 : decode cd_H_letIn 5 = .ok (.getfield 102, 3) := by decide +kernel
theorem dc_H_letIn_8 : decode cd_H_letIn 8 = .ok (.iload_n 1, 1) := by decide +kernel
theorem dc_H_letIn_9 : decode cd_H_letIn 9 = .ok (.iaload, 1) := by decide +kernel
theorem dc_H_letIn_10 : decode cd_H_letIn 10 = .ok (.iload_n 2, 1) := by decide +kernel
theorem dc_H_letIn_11 : decode cd_H_letIn 11 = .ok (.invokevirtual 123, 3) := by decide +kernel
theorem dc_H_letIn_14 : decode cd_H_letIn 14 = .ok (.lstore_n 3, 1) := by decide +kernel
theorem dc_H_letIn_15 : decode cd_H_letIn 15 = .ok (.lload_n 3, 1) := by decide +kernel
theorem dc_H_letIn_16 : decode cd_H_letIn 16 = .ok (.lconst 0, 1) := by decide +kernel
theorem dc_H_letIn_17 : decode cd_H_letIn 17 = .ok (.lcmp, 1) := by decide +kernel
theorem dc_H_letIn_18 : decode cd_H_letIn 18 = .ok (.ifCond .ge 5, 3) := by decide +kernel
theorem dc_H_letIn_21 : decode cd_H_letIn 21 = .ok (.lload_n 3, 1) := by decide +kernel
theorem dc_H_letIn_22 : decode cd_H_letIn 22 = .ok (.lreturn, 1) := by decide +kernel
theorem dc_H_letIn_23 : decode cd_H_letIn 23 = .ok (.iload_n 2, 1) := by decide +kernel
theorem dc_H_letIn_24 : decode cd_H_letIn 24 = .ok (.iconst 4, 1) := by decide +kernel
theorem dc_H_letIn_25 : decode cd_H_letIn 25 = .ok (.imul, 1) := by decide +kernel
theorem dc_H_letIn_26 : decode cd_H_letIn 26 = .ok (.aload_n 0, 1) := by decide +kernel
theorem dc_H_letIn_27 : decode cd_H_letIn 27 = .ok (.getfield 28, 3) := by decide +kernel
theorem dc_H_letIn_30 : decode cd_H_letIn 30 = .ok (.getfield 77, 3) := by decide +kernel
theorem dc_H_letIn_33 : decode cd_H_letIn 33 = .ok (.iload_n 1, 1) := by decide +kernel
theorem dc_H_letIn_34 : decode cd_H_letIn 34 = .ok (.iaload, 1) := by decide +kernel
theorem dc_H_letIn_35 : decode cd_H_letIn 35 = .ok (.iadd, 1) := by decide +kernel
theorem dc_H_letIn_36 : decode cd_H_letIn 36 = .ok (.istore 5, 2) := by decide +kernel
theorem dc_H_letIn_38 : decode cd_H_letIn 38 = .ok (.aload_n 0, 1) := by decide +kernel
theorem dc_H_letIn_39 : decode cd_H_letIn 39 = .ok (.getfield 15, 3) := by decide +kernel
theorem dc_H_letIn_42 : decode cd_H_letIn 42 = .ok (.iload 5, 2) := by decide +kernel
theorem dc_H_letIn_44 : decode cd_H_letIn 44 = .ok (.laload, 1) := by decide +kernel
theorem dc_H_letIn_45 : decode cd_H_letIn 45 = .ok (.lstore 6, 2) := by decide +kernel
theorem dc_H_letIn_47 : decode cd_H_letIn 47 = .ok (.aload_n 0, 1) := by decide +kernel
theorem dc_H_letIn_48 : decode cd_H_letIn 48 = .ok (.getfield 15, 3) := by decide +kernel
theorem dc_H_letIn_51 : decode cd_H_letIn 51 = .ok (.iload 5, 2) := by decide +kernel
theorem dc_H_letIn_53 : decode cd_H_letIn 53 = .ok (.lload_n 3, 1) := by decide +kernel
theorem dc_H_letIn_54 : decode cd_H_letIn 54 = .ok (.lastore, 1) := by decide +kernel
theorem dc_H_letIn_55 : decode cd_H_letIn 55 = .ok (.aload_n 0, 1) := by decide +kernel
theorem dc_H_letIn_56 : decode cd_H_letIn 56 = .ok (.aload_n 0, 1) := by decide +kernel
theorem dc_H_letIn_57 : decode cd_H_letIn 57 = .ok (.getfield 28, 3) := by decide +kernel
theorem dc_H_letIn_60 : decode cd_H_letIn 60 = .ok (.getfield 105, 3) := by decide +kernel
theorem dc_H_letIn_63 : decode cd_H_letIn 63 = .ok (.iload_n 1, 1) := by decide +kernel
theorem dc_H_letIn_64 : decode cd_H_letIn 64 = .ok (.iaload, 1) := by decide +kernel
theorem dc_H_letIn_65 : decode cd_H_letIn 65 = .ok (.iload_n 2, 1) := by decide +kernel
theorem dc_H_letIn_66 : decode cd_H_letIn 66 = .ok (.invokevirtual 123, 3) := by decide +kernel
theorem dc_H_letIn_69 : decode cd_H_letIn 69 = .ok (.lstore 8, 2) := by decide +kernel
theorem dc_H_letIn_71 : decode cd_H_letIn 71 = .ok (.aload_n 0, 1) := by decide +kernel
theorem dc_H_letIn_72 : decode cd_H_letIn 72 = .ok (.getfield 15, 3) := by decide +kernel
theorem dc_H_letIn_75 : decode cd_H_letIn 75 = .ok (.iload 5, 2) := by decide +kernel
theorem dc_H_letIn_77 : decode cd_H_letIn 77 = .ok (.lload 6, 2) := by decide +kernel
theorem dc_H_letIn_79 : decode cd_H_letIn 79 = .ok (.lastore, 1) := by decide +kernel
theorem dc_H_letIn_80 : decode cd_H_letIn 80 = .ok (.lload 8, 2) := by decide +kernel
theorem dc_H_letIn_82 : decode cd_H_letIn 82 = .ok (.lreturn, 1) := by decide +kernel
theorem dc_H_firstOrElse_0 : decode cd_H_firstOrElse 0 = .ok (.aload_n 0, 1) := by decide +kernel
theorem dc_H_firstOrElse_1 : decode cd_H_firstOrElse 1 = .ok (.aload_n 0, 1) := by decide +kernel
theorem dc_H_firstOrElse_2 : decode cd_H_firstOrElse 2 = .ok (.getfield 28, 3) := by decide +kernel
theorem dc_H_firstOrElse_5 : decode cd_H_firstOrElse 5 = .ok (.getfield 102, 3) := by decide +kernel
theorem dc_H_firstOrElse_8 : decode cd_H_firstOrElse 8 = .ok (.iload_n 1, 1) := by decide +kernel
theorem dc_H_firstOrElse_9 : decode cd_H_firstOrElse 9 = .ok (.iaload, 1) := by decide +kernel
theorem dc_H_firstOrElse_10 : decode cd_H_firstOrElse 10 = .ok (.iload_n 2, 1) := by decide +kernel
theorem dc_H_firstOrElse_11 : decode cd_H_firstOrElse 11 = .ok (.invokevirtual 123, 3) := by decide +kernel
theorem dc_H_firstOrElse_14 : decode cd_H_firstOrElse 14 = .ok (.lstore_n 3, 1) := by decide +kernel
theorem dc_H_firstOrElse_15 : decode cd_H_firstOrElse 15 = .ok (.lload_n 3, 1) := by decide +kernel
theorem dc_H_firstOrElse_16 : decode cd_H_firstOrElse 16 = .ok (.ldc2_w 121, 3) := by decide +kernel
theorem dc_H_firstOrElse_19 : decode cd_H_firstOrElse 19 = .ok (.lcmp, 1) := by decide +kernel
theorem dc_H_firstOrElse_20 : decode cd_H_firstOrElse 20 = .ok (.ifCond .ne 20, 3) := by decide +kernel
theorem dc_H_firstOrElse_23 : decode cd_H_firstOrElse 23 = .ok (.aload_n 0, 1) := by decide +kernel
theorem dc_H_firstOrElse_24 : decode cd_H_firstOrElse 24 = .ok (.aload_n 0, 1) := by decide +kernel
theorem dc_H_firstOrElse_25 : decode cd_H_firstOrElse 25 = .ok (.getfield 28, 3) := by decide +kernel
theorem dc_H_firstOrElse_28 : decode cd_H_firstOrElse 28 = .ok (.getfield 105, 3) := by decide +kernel
theorem dc_H_firstOrElse_31 : decode cd_H_firstOrElse 31 = .ok (.iload_n 1, 1) := by decide +kernel
theorem dc_H_firstOrElse_32 : decode cd_H_firstOrElse 32 = .ok (.iaload, 1) := by decide +kernel
theorem dc_H_firstOrElse_33 : decode cd_H_firstOrElse 33 = .ok (.iload_n 2, 1) := by decide +kernel
theorem dc_H_firstOrElse_34 : decode cd_H_firstOrElse 34 = .ok (.invokevirtual 123, 3) := by decide +kernel
theorem dc_H_firstOrElse_37 : decode cd_H_firstOrElse 37 = .ok (.goto 4, 3) := by decide +kernel
theorem dc_H_firstOrElse_40 : decode cd_H_firstOrElse 40 = .ok (.lload_n 3, 1) := by decide +kernel
theorem dc_H_firstOrElse_41 : decode cd_H_firstOrElse 41 = .ok (.lreturn, 1) := by decide +kernel
theorem dc_H_fromTwo_0 : decode cd_H_fromTwo 0 = .ok (.aload_n 0, 1) := by decide +kernel
theorem dc_H_fromTwo_1 : decode cd_H_fromTwo 1 = .ok (.aload_n 0, 1) := by decide +kernel
theorem dc_H_fromTwo_2 : decode cd_H_fromTwo 2 = .ok (.getfield 28, 3) := by decide +kernel
theorem dc_H_fromTwo_5 : decode cd_H_fromTwo 5 = .ok (.getfield 102, 3) := by decide +kernel
theorem dc_H_fromTwo_8 : decode cd_H_fromTwo 8 = .ok (.iload_n 1, 1) := by decide +kernel
theorem dc_H_fromTwo_9 : decode cd_H_fromTwo 9 = .ok (.iaload, 1) := by decide +kernel
theorem dc_H_fromTwo_10 : decode cd_H_fromTwo 10 = .ok (.iload_n 2, 1) := by decide +kernel
theorem dc_H_fromTwo_11 : decode cd_H_fromTwo 11 = .ok (.invokevirtual 123, 3) := by decide +kernel
theorem dc_H_fromTwo_14 : decode cd_H_fromTwo 14 = .ok (.lstore_n 3, 1) := by decide +kernel
theorem dc_H_fromTwo_15 : decode cd_H_fromTwo 15 = .ok (.lload_n 3, 1) := by decide +kernel
theorem dc_H_fromTwo_16 : decode cd_H_fromTwo 16 = .ok (.lconst 0, 1) := by decide +kernel
theorem dc_H_fromTwo_17 : decode cd_H_fromTwo 17 = .ok (.lcmp, 1) := by decide +kernel
theorem dc_H_fromTwo_18 : decode cd_H_fromTwo 18 = .ok (.ifCond .ge 5, 3) := by decide +kernel
theorem dc_H_fromTwo_21 : decode cd_H_fromTwo 21 = .ok (.lload_n 3, 1) := by decide +kernel
theorem dc_H_fromTwo_22 : decode cd_H_fromTwo 22 = .ok (.lreturn, 1) := by decide +kernel
theorem dc_H_fromTwo_23 : decode cd_H_fromTwo 23 = .ok (.aload_n 0, 1) := by decide +kernel
theorem dc_H_fromTwo_24 : decode cd_H_fromTwo 24 = .ok (.aload_n 0, 1) := by decide +kernel
theorem dc_H_fromTwo_25 : decode cd_H_fromTwo 25 = .ok (.getfield 28, 3) := by decide +kernel
theorem dc_H_fromTwo_28 : decode cd_H_fromTwo 28 = .ok (.getfield 105, 3) := by decide +kernel
theorem dc_H_fromTwo_31 : decode cd_H_fromTwo 31 = .ok (.iload_n 1, 1) := by decide +kernel
theorem dc_H_fromTwo_32 : decode cd_H_fromTwo 32 = .ok (.iaload, 1) := by decide +kernel
theorem dc_H_fromTwo_33 : decode cd_H_fromTwo 33 = .ok (.iload_n 2, 1) := by decide +kernel
theorem dc_H_fromTwo_34 : decode cd_H_fromTwo 34 = .ok (.invokevirtual 123, 3) := by decide +kernel
theorem dc_H_fromTwo_37 : decode cd_H_fromTwo 37 = .ok (.lstore 5, 2) := by decide +kernel
theorem dc_H_fromTwo_39 : decode cd_H_fromTwo 39 = .ok (.lload 5, 2) := by decide +kernel
theorem dc_H_fromTwo_41 : decode cd_H_fromTwo 41 = .ok (.lconst 0, 1) := by decide +kernel
theorem dc_H_fromTwo_42 : decode cd_H_fromTwo 42 = .ok (.lcmp, 1) := by decide +kernel
theorem dc_H_fromTwo_43 : decode cd_H_fromTwo 43 = .ok (.ifCond .ge 6, 3) := by decide +kernel
theorem dc_H_fromTwo_46 : decode cd_H_fromTwo 46 = .ok (.lload 5, 2) := by decide +kernel
theorem dc_H_fromTwo_48 : decode cd_H_fromTwo 48 = .ok (.lreturn, 1) := by decide +kernel
theorem dc_H_fromTwo_49 : decode cd_H_fromTwo 49 = .ok (.aload_n 0, 1) := by decide +kernel
theorem dc_H_fromTwo_50 : decode cd_H_fromTwo 50 = .ok (.getfield 28, 3) := by decide +kernel
theorem dc_H_fromTwo_53 : decode cd_H_fromTwo 53 = .ok (.getfield 82, 3) := by decide +kernel
theorem dc_H_fromTwo_56 : decode cd_H_fromTwo 56 = .ok (.iload_n 1, 1) := by decide +kernel
theorem dc_H_fromTwo_57 : decode cd_H_fromTwo 57 = .ok (.iaload, 1) := by decide +kernel
theorem dc_H_fromTwo_58 : decode cd_H_fromTwo 58 = .ok (.istore 7, 2) := by decide +kernel
theorem dc_H_fromTwo_60 : decode cd_H_fromTwo 60 = .ok (.iload 7, 2) := by decide +kernel
theorem dc_H_fromTwo_62 : decode cd_H_fromTwo 62 = .ok (.bipush 6, 2) := by decide +kernel
theorem dc_H_fromTwo_64 : decode cd_H_fromTwo 64 = .ok (.if_icmp .ne 11, 3) := by decide +kernel
theorem dc_H_fromTwo_67 : decode cd_H_fromTwo 67 = .ok (.aload_n 0, 1) := by decide +kernel
theorem dc_H_fromTwo_68 : decode cd_H_fromTwo 68 = .ok (.lload_n 3, 1) := by decide +kernel
theorem dc_H_fromTwo_69 : decode cd_H_fromTwo 69 = .ok (.lload 5, 2) := by decide +kernel
theorem dc_H_fromTwo_71 : decode cd_H_fromTwo 71 = .ok (.invokevirtual 142, 3) := by decide +kernel
theorem dc_H_fromTwo_74 : decode cd_H_fromTwo 74 = .ok (.lreturn, 1) := by decide +kernel
theorem dc_H_fromTwo_75 : decode cd_H_fromTwo 75 = .ok (.iload 7, 2) := by decide +kernel
theorem dc_H_fromTwo_77 : decode cd_H_fromTwo 77 = .ok (.bipush 13, 2) := by decide +kernel
theorem dc_H_fromTwo_79 : decode cd_H_fromTwo 79 = .ok (.if_icmp .ne 22, 3) := by decide +kernel
theorem dc_H_fromTwo_82 : decode cd_H_fromTwo 82 = .ok (.lload_n 3, 1) := by decide +kernel
theorem dc_H_fromTwo_83 : decode cd_H_fromTwo 83 = .ok (.lload 5, 2) := by decide +kernel
theorem dc_H_fromTwo_85 : decode cd_H_fromTwo 85 = .ok (.lcmp, 1) := by decide +kernel
theorem dc_H_fromTwo_86 : decode cd_H_fromTwo 86 = .ok (.ifCond .ne 7, 3) := by decide +kernel
theorem dc_H_fromTwo_89 : decode cd_H_fromTwo 89 = .ok (.iconst 1, 1) := by decide +kernel
theorem dc_H_fromTwo_90 : decode cd_H_fromTwo 90 = .ok (.goto 4, 3) := by decide +kernel
theorem dc_H_fromTwo_93 : decode cd_H_fromTwo 93 = .ok (.iconst 0, 1) := by decide +kernel
theorem dc_H_fromTwo_94 : decode cd_H_fromTwo 94 = .ok (.iconst 0, 1) := by decide +kernel
theorem dc_H_fromTwo_95 : decode cd_H_fromTwo 95 = .ok (.invokestatic 89, 3) := by decide +kernel
theorem dc_H_fromTwo_98 : decode cd_H_fromTwo 98 = .ok (.goto 12, 3) := by decide +kernel
theorem dc_H_fromTwo_101 : decode cd_H_fromTwo 101 = .ok (.aload_n 0, 1) := by decide +kernel
theorem dc_H_fromTwo_102 : decode cd_H_fromTwo 102 = .ok (.iload 7, 2) := by decide +kernel
theorem dc_H_fromTwo_104 : decode cd_H_fromTwo 104 = .ok (.lload_n 3, 1) := by decide +kernel
theorem dc_H_fromTwo_105 : decode cd_H_fromTwo 105 = .ok (.lload 5, 2) := by decide +kernel
theorem dc_H_fromTwo_107 : decode cd_H_fromTwo 107 = .ok (.invokevirtual 146, 3) := by decide +kernel
theorem dc_H_fromTwo_110 : decode cd_H_fromTwo 110 = .ok (.lreturn, 1) := by decide +kernel
theorem dc_H_pair_0 : decode cd_H_pair 0 = .ok (.aload_n 0, 1) := by decide +kernel
theorem dc_H_pair_1 : decode cd_H_pair 1 = .ok (.getfield 39, 3) := by decide +kernel
theorem dc_H_pair_4 : decode cd_H_pair 4 = .ok (.bipush 40, 2) := by decide +kernel
theorem dc_H_pair_6 : decode cd_H_pair 6 = .ok (.if_icmp .lt 7, 3) := by decide +kernel
theorem dc_H_pair_9 : decode cd_H_pair 9 = .ok (.ldc2_w 75, 3) := by decide +kernel
theorem dc_H_pair_12 : decode cd_H_pair 12 = .ok (.lreturn, 1) := by decide +kernel
theorem dc_H_pair_13 : decode cd_H_pair 13 = .ok (.aload_n 0, 1) := by decide +kernel
theorem dc_H_pair_14 : decode cd_H_pair 14 = .ok (.dup, 1) := by decide +kernel
theorem dc_H_pair_15 : decode cd_H_pair 15 = .ok (.getfield 39, 3) := by decide +kernel
theorem dc_H_pair_18 : decode cd_H_pair 18 = .ok (.iconst 1, 1) := by decide +kernel
theorem dc_H_pair_19 : decode cd_H_pair 19 = .ok (.iadd, 1) := by decide +kernel
theorem dc_H_pair_20 : decode cd_H_pair 20 = .ok (.putfield 39, 3) := by decide +kernel
theorem dc_H_pair_23 : decode cd_H_pair 23 = .ok (.iconst 0, 1) := by decide +kernel
theorem dc_H_pair_24 : decode cd_H_pair 24 = .ok (.istore 5, 2) := by decide +kernel
theorem dc_H_pair_26 : decode cd_H_pair 26 = .ok (.iload 5, 2) := by decide +kernel
theorem dc_H_pair_28 : decode cd_H_pair 28 = .ok (.aload_n 0, 1) := by decide +kernel
theorem dc_H_pair_29 : decode cd_H_pair 29 = .ok (.getfield 36, 3) := by decide +kernel
theorem dc_H_pair_32 : decode cd_H_pair 32 = .ok (.if_icmp .ge 41, 3) := by decide +kernel
theorem dc_H_pair_35 : decode cd_H_pair 35 = .ok (.aload_n 0, 1) := by decide +kernel
theorem dc_H_pair_36 : decode cd_H_pair 36 = .ok (.getfield 19, 3) := by decide +kernel
theorem dc_H_pair_39 : decode cd_H_pair 39 = .ok (.iload 5, 2) := by decide +kernel
theorem dc_H_pair_41 : decode cd_H_pair 41 = .ok (.laload, 1) := by decide +kernel
theorem dc_H_pair_42 : decode cd_H_pair 42 = .ok (.lload_n 1, 1) := by decide +kernel
theorem dc_H_pair_43 : decode cd_H_pair 43 = .ok (.lcmp, 1) := by decide +kernel
theorem dc_H_pair_44 : decode cd_H_pair 44 = .ok (.ifCond .ne 23, 3) := by decide +kernel
theorem dc_H_pair_47 : decode cd_H_pair 47 = .ok (.aload_n 0, 1) := by decide +kernel
theorem dc_H_pair_48 : decode cd_H_pair 48 = .ok (.getfield 22, 3) := by decide +kernel
theorem dc_H_pair_51 : decode cd_H_pair 51 = .ok (.iload 5, 2) := by decide +kernel
theorem dc_H_pair_53 : decode cd_H_pair 53 = .ok (.laload, 1) := by decide +kernel
theorem dc_H_pair_54 : decode cd_H_pair 54 = .ok (.lload_n 3, 1) := by decide +kernel
theorem dc_H_pair_55 : decode cd_H_pair 55 = .ok (.lcmp, 1) := by decide +kernel
theorem dc_H_pair_56 : decode cd_H_pair 56 = .ok (.ifCond .ne 11, 3) := by decide +kernel
theorem dc_H_pair_59 : decode cd_H_pair 59 = .ok (.bipush 8, 2) := by decide +kernel
theorem dc_H_pair_61 : decode cd_H_pair 61 = .ok (.iload 5, 2) := by decide +kernel
theorem dc_H_pair_63 : decode cd_H_pair 63 = .ok (.invokestatic 89, 3) := by decide +kernel
theorem dc_H_pair_66 : decode cd_H_pair 66 = .ok (.lreturn, 1) := by decide +kernel
theorem dc_H_pair_67 : decode cd_H_pair 67 = .ok (.iinc 5 1, 3) := by decide +kernel
theorem dc_H_pair_70 : decode cd_H_pair 70 = .ok (.goto (-44), 3) := by decide +kernel
theorem dc_H_pair_73 : decode cd_H_pair 73 = .ok (.aload_n 0, 1) := by decide +kernel
theorem dc_H_pair_74 : decode cd_H_pair 74 = .ok (.getfield 36, 3) := by decide +kernel
theorem dc_H_pair_77 : decode cd_H_pair 77 = .ok (.istore 5, 2) := by decide +kernel
theorem dc_H_pair_79 : decode cd_H_pair 79 = .ok (.aload_n 0, 1) := by decide +kernel
theorem dc_H_pair_80 : decode cd_H_pair 80 = .ok (.getfield 19, 3) := by decide +kernel
theorem dc_H_pair_83 : decode cd_H_pair 83 = .ok (.iload 5, 2) := by decide +kernel
theorem dc_H_pair_85 : decode cd_H_pair 85 = .ok (.lload_n 1, 1) := by decide +kernel
theorem dc_H_pair_86 : decode cd_H_pair 86 = .ok (.lastore, 1) := by decide +kernel
theorem dc_H_pair_87 : decode cd_H_pair 87 = .ok (.aload_n 0, 1) := by decide +kernel
theorem dc_H_pair_88 : decode cd_H_pair 88 = .ok (.getfield 22, 3) := by decide +kernel
theorem dc_H_pair_91 : decode cd_H_pair 91 = .ok (.iload 5, 2) := by decide +kernel
theorem dc_H_pair_93 : decode cd_H_pair 93 = .ok (.lload_n 3, 1) := by decide +kernel
theorem dc_H_pair_94 : decode cd_H_pair 94 = .ok (.lastore, 1) := by decide +kernel
theorem dc_H_pair_95 : decode cd_H_pair 95 = .ok (.aload_n 0, 1) := by decide +kernel
theorem dc_H_pair_96 : decode cd_H_pair 96 = .ok (.dup, 1) := by decide +kernel
theorem dc_H_pair_97 : decode cd_H_pair 97 = .ok (.getfield 36, 3) := by decide +kernel
theorem dc_H_pair_100 : decode cd_H_pair 100 = .ok (.iconst 1, 1) := by decide +kernel
theorem dc_H_pair_101 : decode cd_H_pair 101 = .ok (.iadd, 1) := by decide +kernel
theorem dc_H_pair_102 : decode cd_H_pair 102 = .ok (.putfield 36, 3) := by decide +kernel
theorem dc_H_pair_105 : decode cd_H_pair 105 = .ok (.bipush 8, 2) := by decide +kernel
theorem dc_H_pair_107 : decode cd_H_pair 107 = .ok (.iload 5, 2) := by decide +kernel
theorem dc_H_pair_109 : decode cd_H_pair 109 = .ok (.invokestatic 89, 3) := by decide +kernel
theorem dc_H_pair_112 : decode cd_H_pair 112 = .ok (.lreturn, 1) := by decide +kernel
theorem dc_H_calculate_0 : decode cd_H_calculate 0 = .ok (.lload_n 2, 1) := by decide +kernel
theorem dc_H_calculate_1 : decode cd_H_calculate 1 = .ok (.invokestatic 58, 3) := by decide +kernel
theorem dc_H_calculate_4 : decode cd_H_calculate 4 = .ok (.ifCond .eq 11, 3) := by decide +kernel
theorem dc_H_calculate_7 : decode cd_H_calculate 7 = .ok (.lload 4, 2) := by decide +kernel
theorem dc_H_calculate_9 : decode cd_H_calculate 9 = .ok (.invokestatic 58, 3) := by decide +kernel
theorem dc_H_calculate_12 : decode cd_H_calculate 12 = .ok (.ifCond .ne 8, 3) := by decide +kernel
theorem dc_H_calculate_15 : decode cd_H_calculate 15 = .ok (.aload_n 0, 1) := by decide +kernel
theorem dc_H_calculate_16 : decode cd_H_calculate 16 = .ok (.invokevirtual 114, 3) := by decide +kernel
theorem dc_H_calculate_19 : decode cd_H_calculate 19 = .ok (.lreturn, 1) := by decide +kernel
theorem dc_H_calculate_20 : decode cd_H_calculate 20 = .ok (.lload_n 2, 1) := by decide +kernel
theorem dc_H_calculate_21 : decode cd_H_calculate 21 = .ok (.invokestatic 62, 3) := by decide +kernel
theorem dc_H_calculate_24 : decode cd_H_calculate 24 = .ok (.istore 6, 2) := by decide +kernel
theorem dc_H_calculate_26 : decode cd_H_calculate 26 = .ok (.lload 4, 2) := by decide +kernel
theorem dc_H_calculate_28 : decode cd_H_calculate 28 = .ok (.invokestatic 62, 3) := by decide +kernel
theorem dc_H_calculate_31 : decode cd_H_calculate 31 = .ok (.istore 7, 2) := by decide +kernel
theorem dc_H_calculate_33 : decode cd_H_calculate 33 = .ok (.iload_n 1, 1) := by decide +kernel
theorem dc_H_calculate_34 : decode cd_H_calculate 34 = .ok (.iconst 5, 1) := by decide +kernel
theorem dc_H_calculate_35 : decode cd_H_calculate 35 = .ok (.if_icmp .ne 11, 3) := by decide +kernel
theorem dc_H_calculate_38 : decode cd_H_calculate 38 = .ok (.iload 6, 2) := by decide +kernel
theorem dc_H_calculate_40 : decode cd_H_calculate 40 = .ok (.iload 7, 2) := by decide +kernel
theorem dc_H_calculate_42 : decode cd_H_calculate 42 = .ok (.isub, 1) := by decide +kernel
theorem dc_H_calculate_43 : decode cd_H_calculate 43 = .ok (.goto 8, 3) := by decide +kernel
theorem dc_H_calculate_46 : decode cd_H_calculate 46 = .ok (.iload 6, 2) := by decide +kernel
theorem dc_H_calculate_48 : decode cd_H_calculate 48 = .ok (.iload 7, 2) := by decide +kernel
theorem dc_H_calculate_50 : decode cd_H_calculate 50 = .ok (.iadd, 1) := by decide +kernel
theorem dc_H_calculate_51 : decode cd_H_calculate 51 = .ok (.invokestatic 92, 3) := by decide +kernel
theorem dc_H_calculate_54 : decode cd_H_calculate 54 = .ok (.lreturn, 1) := by decide +kernel
theorem dc_H_isNumber_0 : decode cd_H_isNumber 0 = .ok (.lload_n 0, 1) := by decide +kernel
theorem dc_H_isNumber_1 : decode cd_H_isNumber 1 = .ok (.invokestatic 66, 3) := by decide +kernel
theorem dc_H_isNumber_4 : decode cd_H_isNumber 4 = .ok (.iconst 4, 1) := by decide +kernel
theorem dc_H_isNumber_5 : decode cd_H_isNumber 5 = .ok (.if_icmp .lt 16, 3) := by decide +kernel
theorem dc_H_isNumber_8 : decode cd_H_isNumber 8 = .ok (.lload_n 0, 1) := by decide +kernel
theorem dc_H_isNumber_9 : decode cd_H_isNumber 9 = .ok (.invokestatic 66, 3) := by decide +kernel
theorem dc_H_isNumber_12 : decode cd_H_isNumber 12 = .ok (.bipush 6, 2) := by decide +kernel
theorem dc_H_isNumber_14 : decode cd_H_isNumber 14 = .ok (.if_icmp .gt 7, 3) := by decide +kernel
theorem dc_H_isNumber_17 : decode cd_H_isNumber 17 = .ok (.iconst 1, 1) := by decide +kernel
theorem dc_H_isNumber_18 : decode cd_H_isNumber 18 = .ok (.goto 4, 3) := by decide +kernel
theorem dc_H_isNumber_21 : decode cd_H_isNumber 21 = .ok (.iconst 0, 1) := by decide +kernel
theorem dc_H_isNumber_22 : decode cd_H_isNumber 22 = .ok (.ireturn, 1) := by decide +kernel
theorem dc_H_keepParts_0 : decode cd_H_keepParts 0 = .ok (.aload_n 0, 1) := by decide +kernel
theorem dc_H_keepParts_1 : decode cd_H_keepParts 1 = .ok (.getfield 25, 3) := by decide +kernel
theorem dc_H_keepParts_4 : decode cd_H_keepParts 4 = .ok (.iconst 0, 1) := by decide +kernel
theorem dc_H_keepParts_5 : decode cd_H_keepParts 5 = .ok (.lload_n 1, 1) := by decide +kernel
theorem dc_H_keepParts_6 : decode cd_H_keepParts 6 = .ok (.lastore, 1) := by decide +kernel
theorem dc_H_keepParts_7 : decode cd_H_keepParts 7 = .ok (.iconst 1, 1) := by decide +kernel
theorem dc_H_keepParts_8 : decode cd_H_keepParts 8 = .ok (.istore_n 3, 1) := by decide +kernel
theorem dc_H_keepParts_9 : decode cd_H_keepParts 9 = .ok (.iconst 0, 1) := by decide +kernel
theorem dc_H_keepParts_10 : decode cd_H_keepParts 10 = .ok (.istore 4, 2) := by decide +kernel
theorem dc_H_keepParts_12 : decode cd_H_keepParts 12 = .ok (.iload_n 3, 1) := by decide +kernel
theorem dc_H_keepParts_13 : decode cd_H_keepParts 13 = .ok (.ifCond .le 100, 3) := by decide +kernel
theorem dc_H_keepParts_16 : decode cd_H_keepParts 16 = .ok (.iload 4, 2) := by decide +kernel
theorem dc_H_keepParts_18 : decode cd_H_keepParts 18 = .ok (.bipush 60, 2) := by decide +kernel
theorem dc_H_keepParts_20 : decode cd_H_keepParts 20 = .ok (.if_icmp .ge 93, 3) := by decide +kernel
theorem dc_H_keepParts_23 : decode cd_H_keepParts 23 = .ok (.iinc 3 (-1), 3) := by decide +kernel
theorem dc_H_keepParts_26 : decode cd_H_keepParts 26 = .ok (.aload_n 0, 1) := by decide +kernel
theorem dc_H_keepParts_27 : decode cd_H_keepParts 27 = .ok (.getfield 25, 3) := by decide +kernel
theorem dc_H_keepParts_30 : decode cd_H_keepParts 30 = .ok (.iload_n 3, 1) := by decide +kernel
theorem dc_H_keepParts_31 : decode cd_H_keepParts 31 = .ok (.laload, 1) := by decide +kernel
theorem dc_H_keepParts_32 : decode cd_H_keepParts 32 = .ok (.lstore 5, 2) := by decide +kernel
theorem dc_H_keepParts_34 : decode cd_H_keepParts 34 = .ok (.aload_n 0, 1) := by decide +kernel
theorem dc_H_keepParts_35 : decode cd_H_keepParts 35 = .ok (.getfield 11, 3) := by decide +kernel
theorem dc_H_keepParts_38 : decode cd_H_keepParts 38 = .ok (.iload 4, 2) := by decide +kernel
theorem dc_H_keepParts_40 : decode cd_H_keepParts 40 = .ok (.lload 5, 2) := by decide +kernel
theorem dc_H_keepParts_42 : decode cd_H_keepParts 42 = .ok (.invokestatic 58, 3) := by decide +kernel
theorem dc_H_keepParts_45 : decode cd_H_keepParts 45 = .ok (.ifCond .eq 11, 3) := by decide +kernel
theorem dc_H_keepParts_48 : decode cd_H_keepParts 48 = .ok (.lload 5, 2) := by decide +kernel
theorem dc_H_keepParts_50 : decode cd_H_keepParts 50 = .ok (.invokestatic 62, 3) := by decide +kernel
theorem dc_H_keepParts_53 : decode cd_H_keepParts 53 = .ok (.goto 8, 3) := by decide +kernel
theorem dc_H_keepParts_56 : decode cd_H_keepParts 56 = .ok (.lload 5, 2) := by decide +kernel
theorem dc_H_keepParts_58 : decode cd_H_keepParts 58 = .ok (.invokestatic 66, 3) := by decide +kernel
theorem dc_H_keepParts_61 : decode cd_H_keepParts 61 = .ok (.iastore, 1) := by decide +kernel
theorem dc_H_keepParts_62 : decode cd_H_keepParts 62 = .ok (.iinc 4 1, 3) := by decide +kernel
theorem dc_H_keepParts_65 : decode cd_H_keepParts 65 = .ok (.lload 5, 2) := by decide +kernel
theorem dc_H_keepParts_67 : decode cd_H_keepParts 67 = .ok (.invokestatic 69, 3) := by decide +kernel
theorem dc_H_keepParts_70 : decode cd_H_keepParts 70 = .ok (.ifCond .eq 40, 3) := by decide +kernel
theorem dc_H_keepParts_73 : decode cd_H_keepParts 73 = .ok (.aload_n 0, 1) := by decide +kernel
theorem dc_H_keepParts_74 : decode cd_H_keepParts 74 = .ok (.getfield 25, 3) := by decide +kernel
theorem dc_H_keepParts_77 : decode cd_H_keepParts 77 = .ok (.iload_n 3, 1) := by decide +kernel
theorem dc_H_keepParts_78 : decode cd_H_keepParts 78 = .ok (.aload_n 0, 1) := by decide +kernel
theorem dc_H_keepParts_79 : decode cd_H_keepParts 79 = .ok (.getfield 22, 3) := by decide +kernel
theorem dc_H_keepParts_82 : decode cd_H_keepParts 82 = .ok (.lload 5, 2) := by decide +kernel
theorem dc_H_keepParts_84 : decode cd_H_keepParts 84 = .ok (.invokestatic 62, 3) := by decide +kernel
theorem dc_H_keepParts_87 : decode cd_H_keepParts 87 = .ok (.laload, 1) := by decide +kernel
theorem dc_H_keepParts_88 : decode cd_H_keepParts 88 = .ok (.lastore, 1) := by decide +kernel
theorem dc_H_keepParts_89 : decode cd_H_keepParts 89 = .ok (.aload_n 0, 1) := by decide +kernel
theorem dc_H_keepParts_90 : decode cd_H_keepParts 90 = .ok (.getfield 25, 3) := by decide +kernel
theorem dc_H_keepParts_93 : decode cd_H_keepParts 93 = .ok (.iload_n 3, 1) := by decide +kernel
theorem dc_H_keepParts_94 : decode cd_H_keepParts 94 = .ok (.iconst 1, 1) := by decide +kernel
theorem dc_H_keepParts_95 : decode cd_H_keepParts 95 = .ok (.iadd, 1) := by decide +kernel
theorem dc_H_keepParts_96 : decode cd_H_keepParts 96 = .ok (.aload_n 0, 1) := by decide +kernel
theorem dc_H_keepParts_97 : decode cd_H_keepParts 97 = .ok (.getfield 19, 3) := by decide +kernel
theorem dc_H_keepParts_100 : decode cd_H_keepParts 100 = .ok (.lload 5, 2) := by decide +kernel
theorem dc_H_keepParts_102 : decode cd_H_keepParts 102 = .ok (.invokestatic 62, 3) := by decide +kernel
theorem dc_H_keepParts_105 : decode cd_H_keepParts 105 = .ok (.laload, 1) := by decide +kernel
theorem dc_H_keepParts_106 : decode cd_H_keepParts 106 = .ok (.lastore, 1) := by decide +kernel
theorem dc_H_keepParts_107 : decode cd_H_keepParts 107 = .ok (.iinc 3 2, 3) := by decide +kernel
theorem dc_H_keepParts_110 : decode cd_H_keepParts 110 = .ok (.goto (-98), 3) := by decide +kernel
theorem dc_H_keepParts_113 : decode cd_H_keepParts 113 = .ok (.aload_n 0, 1) := by decide +kernel
theorem dc_H_keepParts_114 : decode cd_H_keepParts 114 = .ok (.iload 4, 2) := by decide +kernel
theorem dc_H_keepParts_116 : decode cd_H_keepParts 116 = .ok (.putfield 72, 3) := by decide +kernel
theorem dc_H_keepParts_119 : decode cd_H_keepParts 119 = .ok (.return_, 1) := by decide +kernel
