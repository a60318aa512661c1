theorem dc_K_init_0 : decode cd_K_init 0 = .ok (.aload_n 0, 1) := by decide +kernel
theorem dc_K_init_1 : decode cd_K_init 1 = .ok (.invokespecial 3, 3) := by decide +kernel
theorem dc_K_init_4 : decode cd_K_init 4 = .ok (.aload_n 0, 1) := by decide +kernel
theorem dc_K_init_5 : decode cd_K_init 5 = .ok (.bipush 12, 2) := by decide +kernel
theorem dc_K_init_7 : decode cd_K_init 7 = .ok (.newarray .int, 2) := by decide +kernel
theorem dc_K_init_9 : decode cd_K_init 9 = .ok (.putfield 9, 3) := by decide +kernel
theorem dc_K_init_12 : decode cd_K_init 12 = .ok (.aload_n 0, 1) := by decide +kernel
theorem dc_K_init_13 : decode cd_K_init 13 = .ok (.bipush 6, 2) := by decide +kernel
theorem dc_K_init_15 : decode cd_K_init 15 = .ok (.newarray .int, 2) := by decide +kernel
theorem dc_K_init_17 : decode cd_K_init 17 = .ok (.putfield 15, 3) := by decide +kernel
theorem dc_K_init_20 : decode cd_K_init 20 = .ok (.aload_n 0, 1) := by decide +kernel
theorem dc_K_init_21 : decode cd_K_init 21 = .ok (.bipush 90, 2) := by decide +kernel
theorem dc_K_init_23 : decode cd_K_init 23 = .ok (.newarray .int, 2) := by decide +kernel
theorem dc_K_init_25 : decode cd_K_init 25 = .ok (.putfield 20, 3) := by decide +kernel
theorem dc_K_init_28 : decode cd_K_init 28 = .ok (.aload_n 0, 1) := by decide +kernel
theorem dc_K_init_29 : decode cd_K_init 29 = .ok (.aload_n 1, 1) := by decide +kernel
theorem dc_K_init_30 : decode cd_K_init 30 = .ok (.putfield 23, 3) := by decide +kernel
theorem dc_K_init_33 : decode cd_K_init 33 = .ok (.return_, 1) := by decide +kernel
theorem dc_K_forget_0 : decode cd_K_forget 0 = .ok (.aload_n 0, 1) := by decide +kernel
theorem dc_K_forget_1 : decode cd_K_forget 1 = .ok (.iconst 0, 1) := by decide +kernel
theorem dc_K_forget_2 : decode cd_K_forget 2 = .ok (.putfield 27, 3) := by decide +kernel
theorem dc_K_forget_5 : decode cd_K_forget 5 = .ok (.return_, 1) := by decide +kernel
theorem dc_K_learn_0 : decode cd_K_learn 0 = .ok (.aload_n 0, 1) := by decide +kernel
theorem dc_K_learn_1 : decode cd_K_learn 1 = .ok (.getfield 27, 3) := by decide +kernel
theorem dc_K_learn_4 : decode cd_K_learn 4 = .ok (.ifCond .eq 4, 3) := by decide +kernel
theorem dc_K_learn_7 : decode cd_K_learn 7 = .ok (.return_, 1) := by decide +kernel
theorem dc_K_learn_8 : decode cd_K_learn 8 = .ok (.aload_n 0, 1) := by decide +kernel
theorem dc_K_learn_9 : decode cd_K_learn 9 = .ok (.getfield 9, 3) := by decide +kernel
theorem dc_K_learn_12 : decode cd_K_learn 12 = .ok (.iconst 0, 1) := by decide +kernel
theorem dc_K_learn_13 : decode cd_K_learn 13 = .ok (.invokestatic 31, 3) := by decide +kernel
theorem dc_K_learn_16 : decode cd_K_learn 16 = .ok (.aload_n 0, 1) := by decide +kernel
theorem dc_K_learn_17 : decode cd_K_learn 17 = .ok (.getfield 15, 3) := by decide +kernel
theorem dc_K_learn_20 : decode cd_K_learn 20 = .ok (.iconst 0, 1) := by decide +kernel
theorem dc_K_learn_21 : decode cd_K_learn 21 = .ok (.invokestatic 31, 3) := by decide +kernel
theorem dc_K_learn_24 : decode cd_K_learn 24 = .ok (.iconst 1, 1) := by decide +kernel
theorem dc_K_learn_25 : decode cd_K_learn 25 = .ok (.istore_n 1, 1) := by decide +kernel
theorem dc_K_learn_26 : decode cd_K_learn 26 = .ok (.iconst 0, 1) := by decide +kernel
theorem dc_K_learn_27 : decode cd_K_learn 27 = .ok (.istore_n 2, 1) := by decide +kernel
theorem dc_K_learn_28 : decode cd_K_learn 28 = .ok (.iload_n 1, 1) := by decide +kernel
theorem dc_K_learn_29 : decode cd_K_learn 29 = .ok (.ifCond .eq 68, 3) := by decide +kernel
theorem dc_K_learn_32 : decode cd_K_learn 32 = .ok (.iload_n 2, 1) := by decide +kernel
theorem dc_K_learn_33 : decode cd_K_learn 33 = .ok (.sipush 163, 3) := by decide +kernel
theorem dc_K_learn_36 : decode cd_K_learn 36 = .ok (.if_icmp .ge 61, 3) := by decide +kernel
theorem dc_K_learn_39 : decode cd_K_learn 39 = .ok (.iconst 0, 1) := by decide +kernel
theorem dc_K_learn_40 : decode cd_K_learn 40 = .ok (.istore_n 1, 1) := by decide +kernel
theorem dc_K_learn_41 : decode cd_K_learn 41 = .ok (.iconst 0, 1) := by decide +kernel
theorem dc_K_learn_42 : decode cd_K_learn 42 = .ok (.istore_n 3, 1) := by decide +kernel
theorem dc_K_learn_43 : decode cd_K_learn 43 = .ok (.iload_n 3, 1) := by decide +kernel
theorem dc_K_learn_44 : decode cd_K_learn 44 = .ok (.bipush 6, 2) := by decide +kernel
theorem dc_K_learn_46 : decode cd_K_learn 46 = .ok (.if_icmp .ge 45, 3) := by decide +kernel
theorem dc_K_learn_49 : decode cd_K_learn 49 = .ok (.iload_n 1, 1) := by decide +kernel
theorem dc_K_learn_50 : decode cd_K_learn 50 = .ok (.aload_n 0, 1) := by decide +kernel
theorem dc_K_learn_51 : decode cd_K_learn 51 = .ok (.iload_n 3, 1) := by decide +kernel
theorem dc_K_learn_52 : decode cd_K_learn 52 = .ok (.invokevirtual 37, 3) := by decide +kernel
theorem dc_K_learn_55 : decode cd_K_learn 55 = .ok (.ior, 1) := by decide +kernel
theorem dc_K_learn_56 : decode cd_K_learn 56 = .ok (.istore_n 1, 1) := by decide +kernel
theorem dc_K_learn_57 : decode cd_K_learn 57 = .ok (.iconst 0, 1) := by decide +kernel
theorem dc_K_learn_58 : decode cd_K_learn 58 = .ok (.istore 4, 2) := by decide +kernel
theorem dc_K_learn_60 : decode cd_K_learn 60 = .ok (.iload 4, 2) := by decide +kernel
theorem dc_K_learn_62 : decode cd_K_learn 62 = .ok (.iload_n 3, 1) := by decide +kernel
theorem dc_K_learn_63 : decode cd_K_learn 63 = .ok (.invokestatic 41, 3) := by decide +kernel
theorem dc_K_learn_66 : decode cd_K_learn 66 = .ok (.if_icmp .ge 19, 3) := by decide +kernel
theorem dc_K_learn_69 : decode cd_K_learn 69 = .ok (.iload_n 1, 1) := by decide +kernel
theorem dc_K_learn_70 : decode cd_K_learn 70 = .ok (.aload_n 0, 1) := by decide +kernel
theorem dc_K_learn_71 : decode cd_K_learn 71 = .ok (.iload_n 3, 1) := by decide +kernel
theorem dc_K_learn_72 : decode cd_K_learn 72 = .ok (.iload 4, 2) := by decide +kernel
theorem dc_K_learn_74 : decode cd_K_learn 74 = .ok (.invokevirtual 45, 3) := by decide +kernel
theorem dc_K_learn_77 : decode cd_K_learn 77 = .ok (.ior, 1) := by decide +kernel
theorem dc_K_learn_78 : decode cd_K_learn 78 = .ok (.istore_n 1, 1) := by decide +kernel
theorem dc_K_learn_79 : decode cd_K_learn 79 = .ok (.iinc 4 1, 3) := by decide +kernel
theorem dc_K_learn_82 : decode cd_K_learn 82 = .ok (.goto (-22), 3) := by decide +kernel
theorem dc_K_learn_85 : decode cd_K_learn 85 = .ok (.iinc 3 1, 3) := by decide +kernel
theorem dc_K_learn_88 : decode cd_K_learn 88 = .ok (.goto (-45), 3) := by decide +kernel
theorem dc_K_learn_91 : decode cd_K_learn 91 = .ok (.iinc 2 1, 3) := by decide +kernel
theorem dc_K_learn_94 : decode cd_K_learn 94 = .ok (.goto (-66), 3) := by decide +kernel
theorem dc_K_learn_97 : decode cd_K_learn 97 = .ok (.aload_n 0, 1) := by decide +kernel
theorem dc_K_learn_98 : decode cd_K_learn 98 = .ok (.iconst 1, 1) := by decide +kernel
theorem dc_K_learn_99 : decode cd_K_learn 99 = .ok (.putfield 27, 3) := by decide +kernel
theorem dc_K_learn_102 : decode cd_K_learn 102 = .ok (.return_, 1) := by decide +kernel
theorem dc_K_growGives_0 : decode cd_K_growGives 0 = .ok (.aload_n 0, 1) := by decide +kernel
theorem dc_K_growGives_1 : decode cd_K_growGives 1 = .ok (.getfield 15, 3) := by decide +kernel
theorem dc_K_growGives_4 : decode cd_K_growGives 4 = .ok (.iload_n 1, 1) := by decide +kernel
theorem dc_K_growGives_5 : decode cd_K_growGives 5 = .ok (.iaload, 1) := by decide +kernel
theorem dc_K_growGives_6 : decode cd_K_growGives 6 = .ok (.istore_n 2, 1) := by decide +kernel
theorem dc_K_growGives_7 : decode cd_K_growGives 7 = .ok (.aload_n 0, 1) := by decide +kernel
theorem dc_K_growGives_8 : decode cd_K_growGives 8 = .ok (.getfield 15, 3) := by decide +kernel
theorem dc_K_growGives_11 : decode cd_K_growGives 11 = .ok (.iload_n 1, 1) := by decide +kernel
theorem dc_K_growGives_12 : decode cd_K_growGives 12 = .ok (.aload_n 0, 1) := by decide +kernel
theorem dc_K_growGives_13 : decode cd_K_growGives 13 = .ok (.iload_n 1, 1) := by decide +kernel
theorem dc_K_growGives_14 : decode cd_K_growGives 14 = .ok (.iload_n 1, 1) := by decide +kernel
theorem dc_K_growGives_15 : decode cd_K_growGives 15 = .ok (.invokestatic 53, 3) := by decide +kernel
theorem dc_K_growGives_18 : decode cd_K_growGives 18 = .ok (.invokevirtual 57, 3) := by decide +kernel
theorem dc_K_growGives_21 : decode cd_K_growGives 21 = .ok (.iastore, 1) := by decide +kernel
theorem dc_K_growGives_22 : decode cd_K_growGives 22 = .ok (.aload_n 0, 1) := by decide +kernel
theorem dc_K_growGives_23 : decode cd_K_growGives 23 = .ok (.getfield 15, 3) := by decide +kernel
theorem dc_K_growGives_26 : decode cd_K_growGives 26 = .ok (.iload_n 1, 1) := by decide +kernel
theorem dc_K_growGives_27 : decode cd_K_growGives 27 = .ok (.iaload, 1) := by decide +kernel
theorem dc_K_growGives_28 : decode cd_K_growGives 28 = .ok (.iload_n 2, 1) := by decide +kernel
theorem dc_K_growGives_29 : decode cd_K_growGives 29 = .ok (.if_icmp .eq 7, 3) := by decide +kernel
theorem dc_K_growGives_32 : decode cd_K_growGives 32 = .ok (.iconst 1, 1) := by decide +kernel
theorem dc_K_growGives_33 : decode cd_K_growGives 33 = .ok (.goto 4, 3) := by decide +kernel
theorem dc_K_growGives_36 : decode cd_K_growGives 36 = .ok (.iconst 0, 1) := by decide +kernel
theorem dc_K_growGives_37 : decode cd_K_growGives 37 = .ok (.ireturn, 1) := by decide +kernel
theorem dc_K_anyArguments_0 : decode cd_K_anyArguments 0 = .ok (.lconst 0, 1) := by decide +kernel
theorem dc_K_anyArguments_1 : decode cd_K_anyArguments 1 = .ok (.iconst 0, 1) := by decide +kernel
theorem dc_K_anyArguments_2 : decode cd_K_anyArguments 2 = .ok (.sipush 511, 3) := by decide +kernel
theorem dc_K_anyArguments_5 : decode cd_K_anyArguments 5 = .ok (.invokestatic 61, 3) := by decide +kernel
theorem dc_K_anyArguments_8 : decode cd_K_anyArguments 8 = .ok (.lstore_n 1, 1) := by decide +kernel
theorem dc_K_anyArguments_9 : decode cd_K_anyArguments 9 = .ok (.iload_n 0, 1) := by decide +kernel
theorem dc_K_anyArguments_10 : decode cd_K_anyArguments 10 = .ok (.invokestatic 41, 3) := by decide +kernel
theorem dc_K_anyArguments_13 : decode cd_K_anyArguments 13 = .ok (.iconst 2, 1) := by decide +kernel
theorem dc_K_anyArguments_14 : decode cd_K_anyArguments 14 = .ok (.if_icmp .ne 14, 3) := by decide +kernel
theorem dc_K_anyArguments_17 : decode cd_K_anyArguments 17 = .ok (.lload_n 1, 1) := by decide +kernel
theorem dc_K_anyArguments_18 : decode cd_K_anyArguments 18 = .ok (.iconst 1, 1) := by decide +kernel
theorem dc_K_anyArguments_19 : decode cd_K_anyArguments 19 = .ok (.sipush 511, 3) := by decide +kernel
theorem dc_K_anyArguments_22 : decode cd_K_anyArguments 22 = .ok (.invokestatic 61, 3) := by decide +kernel
theorem dc_K_anyArguments_25 : decode cd_K_anyArguments 25 = .ok (.goto 4, 3) := by decide +kernel
theorem dc_K_anyArguments_28 : decode cd_K_anyArguments 28 = .ok (.lload_n 1, 1) := by decide +kernel
theorem dc_K_anyArguments_29 : decode cd_K_anyArguments 29 = .ok (.lreturn, 1) := by decide +kernel
theorem dc_K_with_0 : decode cd_K_with 0 = .ok (.iload_n 2, 1) := by decide +kernel
theorem dc_K_with_1 : decode cd_K_with 1 = .ok (.bipush 9, 2) := by decide +kernel
theorem dc_K_with_3 : decode cd_K_with 3 = .ok (.imul, 1) := by decide +kernel
theorem dc_K_with_4 : decode cd_K_with 4 = .ok (.istore 4, 2) := by decide +kernel
theorem dc_K_with_6 : decode cd_K_with 6 = .ok (.lload_n 0, 1) := by decide +kernel
theorem dc_K_with_7 : decode cd_K_with 7 = .ok (.ldc2_w 74, 3) := by decide +kernel
theorem dc_K_with_10 : decode cd_K_with 10 = .ok (.iload 4, 2) := by decide +kernel
theorem dc_K_with_12 : decode cd_K_with 12 = .ok (.lshl, 1) := by decide +kernel
theorem dc_K_with_13 : decode cd_K_with 13 = .ok (.ldc2_w 76, 3) := by decide +kernel
theorem dc_K_with_16 : decode cd_K_with 16 = .ok (.lxor, 1) := by decide +kernel
theorem dc_K_with_17 : decode cd_K_with 17 = .ok (.land, 1) := by decide +kernel
theorem dc_K_with_18 : decode cd_K_with 18 = .ok (.iload_n 3, 1) := by decide +kernel
theorem dc_K_with_19 : decode cd_K_with 19 = .ok (.i2l, 1) := by decide +kernel
theorem dc_K_with_20 : decode cd_K_with 20 = .ok (.iload 4, 2) := by decide +kernel
theorem dc_K_with_22 : decode cd_K_with 22 = .ok (.lshl, 1) := by decide +kernel
theorem dc_K_with_23 : decode cd_K_with 23 = .ok (.lor, 1) := by decide +kernel
theorem dc_K_with_24 : decode cd_K_with 24 = .ok (.lreturn, 1) := by decide +kernel
theorem dc_K_bodyKinds_0 : decode cd_K_bodyKinds 0 = .ok (.aload_n 0, 1) := by decide +kernel
theorem dc_K_bodyKinds_1 : decode cd_K_bodyKinds 1 = .ok (.getfield 23, 3) := by decide +kernel
theorem dc_K_bodyKinds_4 : decode cd_K_bodyKinds 4 = .ok (.getfield 68, 3) := by decide +kernel
theorem dc_K_bodyKinds_7 : decode cd_K_bodyKinds 7 = .ok (.iload_n 1, 1) := by decide +kernel
theorem dc_K_bodyKinds_8 : decode cd_K_bodyKinds 8 = .ok (.iaload, 1) := by decide +kernel
theorem dc_K_bodyKinds_9 : decode cd_K_bodyKinds 9 = .ok (.istore 4, 2) := by decide +kernel
theorem dc_K_bodyKinds_11 : decode cd_K_bodyKinds 11 = .ok (.iload 4, 2) := by decide +kernel
theorem dc_K_bodyKinds_13 : decode cd_K_bodyKinds 13 = .ok (.iconst (-1), 1) := by decide +kernel
theorem dc_K_bodyKinds_14 : decode cd_K_bodyKinds 14 = .ok (.if_icmp .ne 7, 3) := by decide +kernel
theorem dc_K_bodyKinds_17 : decode cd_K_bodyKinds 17 = .ok (.iconst 0, 1) := by decide +kernel
theorem dc_K_bodyKinds_18 : decode cd_K_bodyKinds 18 = .ok (.goto 10, 3) := by decide +kernel
theorem dc_K_bodyKinds_21 : decode cd_K_bodyKinds 21 = .ok (.aload_n 0, 1) := by decide +kernel
theorem dc_K_bodyKinds_22 : decode cd_K_bodyKinds 22 = .ok (.iload 4, 2) := by decide +kernel
theorem dc_K_bodyKinds_24 : decode cd_K_bodyKinds 24 = .ok (.lload_n 2, 1) := by decide +kernel
theorem dc_K_bodyKinds_25 : decode cd_K_bodyKinds 25 = .ok (.invokevirtual 71, 3) := by decide +kernel
theorem dc_K_bodyKinds_28 : decode cd_K_bodyKinds 28 = .ok (.ireturn, 1) := by decide +kernel
theorem dc_K_kinds_0 : decode cd_K_kinds 0 = .ok (.aload_n 0, 1) := by decide +kernel
theorem dc_K_kinds_1 : decode cd_K_kinds 1 = .ok (.getfield 23, 3) := by decide +kernel
theorem dc_K_kinds_4 : decode cd_K_kinds 4 = .ok (.getfield 78, 3) := by decide +kernel
theorem dc_K_kinds_7 : decode cd_K_kinds 7 = .ok (.iload_n 1, 1) := by decide +kernel
theorem dc_K_kinds_8 : decode cd_K_kinds 8 = .ok (.iaload, 1) := by decide +kernel
theorem dc_K_kinds_9 : decode cd_K_kinds 9 = .ok (.istore 4, 2) := by decide +kernel
theorem dc_K_kinds_11 : decode cd_K_kinds 11 = .ok (.aload_n 0, 1) := by decide +kernel
theorem dc_K_kinds_12 : decode cd_K_kinds 12 = .ok (.getfield 23, 3) := by decide +kernel
theorem dc_K_kinds_15 : decode cd_K_kinds 15 = .ok (.getfield 81, 3) := by decide +kernel
theorem dc_K_kinds_18 : decode cd_K_kinds 18 = .ok (.iload_n 1, 1) := by decide +kernel
theorem dc_K_kinds_19 : decode cd_K_kinds 19 = .ok (.iaload, 1) := by decide +kernel
theorem dc_K_kinds_20 : decode cd_K_kinds 20 = .ok (.tableswitch 153 0 14 #[76, 83, 88, 96, 153, 153, 153, 100, 100, 130, 137, 144, 153, 153, 151], 76) := by decide +kernel
theorem dc_K_kinds_96 : decode cd_K_kinds 96 = .ok (.lload_n 2, 1) := by decide +kernel
theorem dc_K_kinds_97 : decode cd_K_kinds 97 = .ok (.iload 4, 2) := by decide +kernel
theorem dc_K_kinds_99 : decode cd_K_kinds 99 = .ok (.invokestatic 84, 3) := by decide +kernel
theorem dc_K_kinds_102 : decode cd_K_kinds 102 = .ok (.ireturn, 1) := by decide +kernel
theorem dc_K_kinds_103 : decode cd_K_kinds 103 = .ok (.iconst 1, 1) := by decide +kernel
theorem dc_K_kinds_104 : decode cd_K_kinds 104 = .ok (.iload 4, 2) := by decide +kernel
theorem dc_K_kinds_106 : decode cd_K_kinds 106 = .ok (.ishl, 1) := by decide +kernel
theorem dc_K_kinds_107 : decode cd_K_kinds 107 = .ok (.ireturn, 1) := by decide +kernel
theorem dc_K_kinds_108 : decode cd_K_kinds 108 = .ok (.iconst 1, 1) := by decide +kernel
theorem dc_K_kinds_109 : decode cd_K_kinds 109 = .ok (.iload 4, 2) := by decide +kernel
theorem dc_K_kinds_111 : decode cd_K_kinds 111 = .ok (.invokestatic 88, 3) := by decide +kernel
theorem dc_K_kinds_114 : decode cd_K_kinds 114 = .ok (.ishl, 1) := by decide +kernel
theorem dc_K_kinds_115 : decode cd_K_kinds 115 = .ok (.ireturn, 1) := by decide +kernel
theorem dc_K_kinds_116 : decode cd_K_kinds 116 = .ok (.sipush 128, 3) := by decide +kernel
theorem dc_K_kinds_119 : decode cd_K_kinds 119 = .ok (.ireturn, 1) := by decide +kernel
theorem dc_K_kinds_120 : decode cd_K_kinds 120 = .ok (.aload_n 0, 1) := by decide +kernel
theorem dc_K_kinds_121 : decode cd_K_kinds 121 = .ok (.aload_n 0, 1) := by decide +kernel
theorem dc_K_kinds_122 : decode cd_K_kinds 122 = .ok (.getfield 23, 3) := by decide +kernel
theorem dc_K_kinds_125 : decode cd_K_kinds 125 = .ok (.getfield 93, 3) := by decide +kernel
theorem dc_K_kinds_128 : decode cd_K_kinds 128 = .ok (.iload_n 1, 1) := by decide +kernel
theorem dc_K_kinds_129 : decode cd_K_kinds 129 = .ok (.iaload, 1) := by decide +kernel
theorem dc_K_kinds_130 : decode cd_K_kinds 130 = .ok (.lload_n 2, 1) := by decide +kernel
theorem dc_K_kinds_131 : decode cd_K_kinds 131 = .ok (.invokevirtual 71, 3) := by decide +kernel
theorem dc_K_kinds_134 : decode cd_K_kinds 134 = .ok (.bipush 8, 2) := by decide +kernel
theorem dc_K_kinds_136 : decode cd_K_kinds 136 = .ok (.invokestatic 65, 3) := by decide +kernel
theorem dc_K_kinds_139 : decode cd_K_kinds 139 = .ok (.ifCond .eq 9, 3) := by decide +kernel
theorem dc_K_kinds_142 : decode cd_K_kinds 142 = .ok (.sipush 511, 3) := by decide +kernel
theorem dc_K_kinds_145 : decode cd_K_kinds 145 = .ok (.goto 4, 3) := by decide +kernel
theorem dc_K_kinds_148 : decode cd_K_kinds 148 = .ok (.iconst 0, 1) := by decide +kernel
theorem dc_K_kinds_149 : decode cd_K_kinds 149 = .ok (.ireturn, 1) := by decide +kernel
theorem dc_K_kinds_150 : decode cd_K_kinds 150 = .ok (.aload_n 0, 1) := by decide +kernel
theorem dc_K_kinds_151 : decode cd_K_kinds 151 = .ok (.iload_n 1, 1) := by decide +kernel
theorem dc_K_kinds_152 : decode cd_K_kinds 152 = .ok (.lload_n 2, 1) := by decide +kernel
theorem dc_K_kinds_153 : decode cd_K_kinds 153 = .ok (.invokevirtual 96, 3) := by decide +kernel
theorem dc_K_kinds_156 : decode cd_K_kinds 156 = .ok (.ireturn, 1) := by decide +kernel
theorem dc_K_kinds_157 : decode cd_K_kinds 157 = .ok (.aload_n 0, 1) := by decide +kernel
theorem dc_K_kinds_158 : decode cd_K_kinds 158 = .ok (.iload_n 1, 1) := by decide +kernel
theorem dc_K_kinds_159 : decode cd_K_kinds 159 = .ok (.lload_n 2, 1) := by decide +kernel
theorem dc_K_kinds_160 : decode cd_K_kinds 160 = .ok (.invokevirtual 99, 3) := by decide +kernel
theorem dc_K_kinds_163 : decode cd_K_kinds 163 = .ok (.ireturn, 1) := by decide +kernel
theorem dc_K_kinds_164 : decode cd_K_kinds 164 = .ok (.aload_n 0, 1) := by decide +kernel
theorem dc_K_kinds_165 : decode cd_K_kinds 165 = .ok (.iload_n 1, 1) := by decide +kernel
theorem dc_K_kinds_166 : decode cd_K_kinds 166 = .ok (.lload_n 2, 1) := by decide +kernel
theorem dc_K_kinds_167 : decode cd_K_kinds 167 = .ok (.invokevirtual 102, 3) := by decide +kernel
theorem dc_K_kinds_170 : decode cd_K_kinds 170 = .ok (.ireturn, 1) := by decide +kernel
theorem dc_K_kinds_171 : decode cd_K_kinds 171 = .ok (.iconst 0, 1) := by decide +kernel
theorem dc_K_kinds_172 : decode cd_K_kinds 172 = .ok (.ireturn, 1) := by decide +kernel
theorem dc_K_kinds_173 : decode cd_K_kinds 173 = .ok (.aload_n 0, 1) := by decide +kernel
theorem dc_K_kinds_174 : decode cd_K_kinds 174 = .ok (.iload_n 1, 1) := by decide +kernel
theorem dc_K_kinds_175 : decode cd_K_kinds 175 = .ok (.lload_n 2, 1) := by decide +kernel
theorem dc_K_kinds_176 : decode cd_K_kinds 176 = .ok (.invokevirtual 105, 3) := by decide +kernel
theorem dc_K_kinds_179 : decode cd_K_kinds 179 = .ok (.ireturn, 1) := by decide +kernel
theorem dc_K_setOf_0 : decode cd_K_setOf 0 = .ok (.lload_n 0, 1) := by decide +kernel
theorem dc_K_setOf_1 : decode cd_K_setOf 1 = .ok (.iload_n 2, 1) := by decide +kernel
theorem dc_K_setOf_2 : decode cd_K_setOf 2 = .ok (.bipush 9, 2) := by decide +kernel
theorem dc_K_setOf_4 : decode cd_K_setOf 4 = .ok (.imul, 1) := by decide +kernel
theorem dc_K_setOf_5 : decode cd_K_setOf 5 = .ok (.lushr, 1) := by decide +kernel
theorem dc_K_setOf_6 : decode cd_K_setOf 6 = .ok (.l2i, 1) := by decide +kernel
theorem dc_K_setOf_7 : decode cd_K_setOf 7 = .ok (.sipush 511, 3) := by decide +kernel
theorem dc_K_setOf_10 : decode cd_K_setOf 10 = .ok (.iand, 1) := by decide +kernel
theorem dc_K_setOf_11 : decode cd_K_setOf 11 = .ok (.ireturn, 1) := by decide +kernel
theorem dc_K_has_0 : decode cd_K_has 0 = .ok (.iload_n 0, 1) := by decide +kernel
theorem dc_K_has_1 : decode cd_K_has 1 = .ok (.iload_n 1, 1) := by decide +kernel
theorem dc_K_has_2 : decode cd_K_has 2 = .ok (.ishr, 1) := by decide +kernel
theorem dc_K_has_3 : decode cd_K_has 3 = .ok (.iconst 1, 1) := by decide +kernel
theorem dc_K_has_4 : decode cd_K_has 4 = .ok (.iand, 1) := by decide +kernel
theorem dc_K_has_5 : decode cd_K_has 5 = .ok (.ifCond .eq 7, 3) := by decide +kernel
theorem dc_K_has_8 : decode cd_K_has 8 = .ok (.iconst 1, 1) := by decide +kernel
theorem dc_K_has_9 : decode cd_K_has 9 = .ok (.goto 4, 3) := by decide +kernel
theorem dc_K_has_12 : decode cd_K_has 12 = .ok (.iconst 0, 1) := by decide +kernel
theorem dc_K_has_13 : decode cd_K_has 13 = .ok (.ireturn, 1) := by decide +kernel
theorem dc_K_caseKinds_0 : decode cd_K_caseKinds 0 = .ok (.aload_n 0, 1) := by decide +kernel
theorem dc_K_caseKinds_1 : decode cd_K_caseKinds 1 = .ok (.getfield 23, 3) := by decide +kernel
theorem dc_K_caseKinds_4 : decode cd_K_caseKinds 4 = .ok (.getfield 93, 3) := by decide +kernel
theorem dc_K_caseKinds_7 : decode cd_K_caseKinds 7 = .ok (.iload_n 1, 1) := by decide +kernel
theorem dc_K_caseKinds_8 : decode cd_K_caseKinds 8 = .ok (.iaload, 1) := by decide +kernel
theorem dc_K_caseKinds_9 : decode cd_K_caseKinds 9 = .ok (.istore 4, 2) := by decide +kernel
theorem dc_K_caseKinds_11 : decode cd_K_caseKinds 11 = .ok (.aload_n 0, 1) := by decide +kernel
theorem dc_K_caseKinds_12 : decode cd_K_caseKinds 12 = .ok (.getfield 23, 3) := by decide +kernel
theorem dc_K_caseKinds_15 : decode cd_K_caseKinds 15 = .ok (.getfield 78, 3) := by decide +kernel
theorem dc_K_caseKinds_18 : decode cd_K_caseKinds 18 = .ok (.iload_n 1, 1) := by decide +kernel
theorem dc_K_caseKinds_19 : decode cd_K_caseKinds 19 = .ok (.iaload, 1) := by decide +kernel
theorem dc_K_caseKinds_20 : decode cd_K_caseKinds 20 = .ok (.istore 5, 2) := by decide +kernel
theorem dc_K_caseKinds_22 : decode cd_K_caseKinds 22 = .ok (.aload_n 0, 1) := by decide +kernel
theorem dc_K_caseKinds_23 : decode cd_K_caseKinds 23 = .ok (.iload 4, 2) := by decide +kernel
theorem dc_K_caseKinds_25 : decode cd_K_caseKinds 25 = .ok (.lload_n 2, 1) := by decide +kernel
theorem dc_K_caseKinds_26 : decode cd_K_caseKinds 26 = .ok (.invokevirtual 71, 3) := by decide +kernel
theorem dc_K_caseKinds_29 : decode cd_K_caseKinds 29 = .ok (.istore 6, 2) := by decide +kernel
theorem dc_K_caseKinds_31 : decode cd_K_caseKinds 31 = .ok (.iload 6, 2) := by decide +kernel
theorem dc_K_caseKinds_33 : decode cd_K_caseKinds 33 = .ok (.iload 5, 2) := by decide +kernel
theorem dc_K_caseKinds_35 : decode cd_K_caseKinds 35 = .ok (.iand, 1) := by decide +kernel
theorem dc_K_caseKinds_36 : decode cd_K_caseKinds 36 = .ok (.istore 7, 2) := by decide +kernel
theorem dc_K_caseKinds_38 : decode cd_K_caseKinds 38 = .ok (.iload 6, 2) := by decide +kernel
theorem dc_K_caseKinds_40 : decode cd_K_caseKinds 40 = .ok (.iload 5, 2) := by decide +kernel
theorem dc_K_caseKinds_42 : decode cd_K_caseKinds 42 = .ok (.iconst (-1), 1) := by decide +kernel
theorem dc_K_caseKinds_43 : decode cd_K_caseKinds 43 = .ok (.ixor, 1) := by decide +kernel
theorem dc_K_caseKinds_44 : decode cd_K_caseKinds 44 = .ok (.iand, 1) := by decide +kernel
theorem dc_K_caseKinds_45 : decode cd_K_caseKinds 45 = .ok (.istore 8, 2) := by decide +kernel
theorem dc_K_caseKinds_47 : decode cd_K_caseKinds 47 = .ok (.iconst 0, 1) := by decide +kernel
theorem dc_K_caseKinds_48 : decode cd_K_caseKinds 48 = .ok (.istore 9, 2) := by decide +kernel
theorem dc_K_caseKinds_50 : decode cd_K_caseKinds 50 = .ok (.iload 7, 2) := by decide +kernel
theorem dc_K_caseKinds_52 : decode cd_K_caseKinds 52 = .ok (.ifCond .eq 30, 3) := by decide +kernel
theorem dc_K_caseKinds_55 : decode cd_K_caseKinds 55 = .ok (.iload 9, 2) := by decide +kernel
theorem dc_K_caseKinds_57 : decode cd_K_caseKinds 57 = .ok (.aload_n 0, 1) := by decide +kernel
theorem dc_K_caseKinds_58 : decode cd_K_caseKinds 58 = .ok (.aload_n 0, 1) := by decide +kernel
theorem dc_K_caseKinds_59 : decode cd_K_caseKinds 59 = .ok (.getfield 23, 3) := by decide +kernel
theorem dc_K_caseKinds_62 : decode cd_K_caseKinds 62 = .ok (.getfield 108, 3) := by decide +kernel
theorem dc_K_caseKinds_65 : decode cd_K_caseKinds 65 = .ok (.iload_n 1, 1) := by decide +kernel
theorem dc_K_caseKinds_66 : decode cd_K_caseKinds 66 = .ok (.iaload, 1) := by decide +kernel
theorem dc_K_caseKinds_67 : decode cd_K_caseKinds 67 = .ok (.aload_n 0, 1) := by decide +kernel
theorem dc_K_caseKinds_68 : decode cd_K_caseKinds 68 = .ok (.lload_n 2, 1) := by decide +kernel
theorem dc_K_caseKinds_69 : decode cd_K_caseKinds 69 = .ok (.iload 4, 2) := by decide +kernel
theorem dc_K_caseKinds_71 : decode cd_K_caseKinds 71 = .ok (.iload 7, 2) := by decide +kernel
theorem dc_K_caseKinds_73 : decode cd_K_caseKinds 73 = .ok (.invokevirtual 118, 3) := by decide +kernel
theorem dc_K_caseKinds_76 : decode cd_K_caseKinds 76 = .ok (.invokevirtual 71, 3) := by decide +kernel
theorem dc_K_caseKinds_79 : decode cd_K_caseKinds 79 = .ok (.ior, 1) := by decide +kernel
theorem dc_K_caseKinds_80 : decode cd_K_caseKinds 80 = .ok (.istore 9, 2) := by decide +kernel
theorem dc_K_caseKinds_82 : decode cd_K_caseKinds 82 = .ok (.iload 8, 2) := by decide +kernel
theorem dc_K_caseKinds_84 : decode cd_K_caseKinds 84 = .ok (.ifCond .eq 30, 3) := by decide +kernel
theorem dc_K_caseKinds_87 : decode cd_K_caseKinds 87 = .ok (.iload 9, 2) := by decide +kernel
theorem dc_K_caseKinds_89 : decode cd_K_caseKinds 89 = .ok (.aload_n 0, 1) := by decide +kernel
theorem dc_K_caseKinds_90 : decode cd_K_caseKinds 90 = .ok (.aload_n 0, 1) := by decide +kernel
theorem dc_K_caseKinds_91 : decode cd_K_caseKinds 91 = .ok (.getfield 23, 3) := by decide +kernel
theorem dc_K_caseKinds_94 : decode cd_K_caseKinds 94 = .ok (.getfield 121, 3) := by decide +kernel
theorem dc_K_caseKinds_97 : decode cd_K_caseKinds 97 = .ok (.iload_n 1, 1) := by decide +kernel
theorem dc_K_caseKinds_98 : decode cd_K_caseKinds 98 = .ok (.iaload, 1) := by decide +kernel
theorem dc_K_caseKinds_99 : decode cd_K_caseKinds 99 = .ok (.aload_n 0, 1) := by decide +kernel
theorem dc_K_caseKinds_100 : decode cd_K_caseKinds 100 = .ok (.lload_n 2, 1) := by decide +kernel
theorem dc_K_caseKinds_101 : decode cd_K_caseKinds 101 = .ok (.iload 4, 2) := by decide +kernel
theorem dc_K_caseKinds_103 : decode cd_K_caseKinds 103 = .ok (.iload 8, 2) := by decide +kernel
theorem dc_K_caseKinds_105 : decode cd_K_caseKinds 105 = .ok (.invokevirtual 118, 3) := by decide +kernel
theorem dc_K_caseKinds_108 : decode cd_K_caseKinds 108 = .ok (.invokevirtual 71, 3) := by decide +kernel
theorem dc_K_caseKinds_111 : decode cd_K_caseKinds 111 = .ok (.ior, 1) := by decide +kernel
theorem dc_K_caseKinds_112 : decode cd_K_caseKinds 112 = .ok (.istore 9, 2) := by decide +kernel
theorem dc_K_caseKinds_114 : decode cd_K_caseKinds 114 = .ok (.iload 9, 2) := by decide +kernel
theorem dc_K_caseKinds_116 : decode cd_K_caseKinds 116 = .ok (.ireturn, 1) := by decide +kernel
theorem dc_K_narrowed_0 : decode cd_K_narrowed 0 = .ok (.aload_n 0, 1) := by decide +kernel
theorem dc_K_narrowed_1 : decode cd_K_narrowed 1 = .ok (.getfield 23, 3) := by decide +kernel
theorem dc_K_narrowed_4 : decode cd_K_narrowed 4 = .ok (.getfield 81, 3) := by decide +kernel
theorem dc_K_narrowed_7 : decode cd_K_narrowed 7 = .ok (.iload_n 3, 1) := by decide +kernel
theorem dc_K_narrowed_8 : decode cd_K_narrowed 8 = .ok (.iaload, 1) := by decide +kernel
theorem dc_K_narrowed_9 : decode cd_K_narrowed 9 = .ok (.ifCond .ne 21, 3) := by decide +kernel
theorem dc_K_narrowed_12 : decode cd_K_narrowed 12 = .ok (.lload_n 1, 1) := by decide +kernel
theorem dc_K_narrowed_13 : decode cd_K_narrowed 13 = .ok (.aload_n 0, 1) := by decide +kernel
theorem dc_K_narrowed_14 : decode cd_K_narrowed 14 = .ok (.getfield 23, 3) := by decide +kernel
theorem dc_K_narrowed_17 : decode cd_K_narrowed 17 = .ok (.getfield 78, 3) := by decide +kernel
theorem dc_K_narrowed_20 : decode cd_K_narrowed 20 = .ok (.iload_n 3, 1) := by decide +kernel
theorem dc_K_narrowed_21 : decode cd_K_narrowed 21 = .ok (.iaload, 1) := by decide +kernel
theorem dc_K_narrowed_22 : decode cd_K_narrowed 22 = .ok (.iload 4, 2) := by decide +kernel
theorem dc_K_narrowed_24 : decode cd_K_narrowed 24 = .ok (.invokestatic 61, 3) := by decide +kernel
theorem dc_K_narrowed_27 : decode cd_K_narrowed 27 = .ok (.goto 4, 3) := by decide +kernel
theorem dc_K_narrowed_30 : decode cd_K_narrowed 30 = .ok (.lload_n 1, 1) := by decide +kernel
theorem dc_K_narrowed_31 : decode cd_K_narrowed 31 = .ok (.lreturn, 1) := by decide +kernel
theorem dc_K_callKinds_0 : decode cd_K_callKinds 0 = .ok (.aload_n 0, 1) := by decide +kernel
theorem dc_K_callKinds_1 : decode cd_K_callKinds 1 = .ok (.getfield 23, 3) := by decide +kernel
theorem dc_K_callKinds_4 : decode cd_K_callKinds 4 = .ok (.getfield 78, 3) := by decide +kernel
theorem dc_K_callKinds_7 : decode cd_K_callKinds 7 = .ok (.iload_n 1, 1) := by decide +kernel
theorem dc_K_callKinds_8 : decode cd_K_callKinds 8 = .ok (.iaload, 1) := by decide +kernel
theorem dc_K_callKinds_9 : decode cd_K_callKinds 9 = .ok (.istore 4, 2) := by decide +kernel
theorem dc_K_callKinds_11 : decode cd_K_callKinds 11 = .ok (.aload_n 0, 1) := by decide +kernel
theorem dc_K_callKinds_12 : decode cd_K_callKinds 12 = .ok (.aload_n 0, 1) := by decide +kernel
theorem dc_K_callKinds_13 : decode cd_K_callKinds 13 = .ok (.getfield 23, 3) := by decide +kernel
theorem dc_K_callKinds_16 : decode cd_K_callKinds 16 = .ok (.getfield 93, 3) := by decide +kernel
theorem dc_K_callKinds_19 : decode cd_K_callKinds 19 = .ok (.iload_n 1, 1) := by decide +kernel
theorem dc_K_callKinds_20 : decode cd_K_callKinds 20 = .ok (.iaload, 1) := by decide +kernel
theorem dc_K_callKinds_21 : decode cd_K_callKinds 21 = .ok (.lload_n 2, 1) := by decide +kernel
theorem dc_K_callKinds_22 : decode cd_K_callKinds 22 = .ok (.invokevirtual 71, 3) := by decide +kernel
theorem dc_K_callKinds_25 : decode cd_K_callKinds 25 = .ok (.aload_n 0, 1) := by decide +kernel
theorem dc_K_callKinds_26 : decode cd_K_callKinds 26 = .ok (.getfield 9, 3) := by decide +kernel
theorem dc_K_callKinds_29 : decode cd_K_callKinds 29 = .ok (.iload 4, 2) := by decide +kernel
theorem dc_K_callKinds_31 : decode cd_K_callKinds 31 = .ok (.iconst 2, 1) := by decide +kernel
theorem dc_K_callKinds_32 : decode cd_K_callKinds 32 = .ok (.imul, 1) := by decide +kernel
theorem dc_K_callKinds_33 : decode cd_K_callKinds 33 = .ok (.iaload, 1) := by decide +kernel
theorem dc_K_callKinds_34 : decode cd_K_callKinds 34 = .ok (.iand, 1) := by decide +kernel
theorem dc_K_callKinds_35 : decode cd_K_callKinds 35 = .ok (.ifCond .eq 7, 3) := by decide +kernel
theorem dc_K_callKinds_38 : decode cd_K_callKinds 38 = .ok (.iconst 1, 1) := by decide +kernel
theorem dc_K_callKinds_39 : decode cd_K_callKinds 39 = .ok (.goto 4, 3) := by decide +kernel
theorem dc_K_callKinds_42 : decode cd_K_callKinds 42 = .ok (.iconst 0, 1) := by decide +kernel
theorem dc_K_callKinds_43 : decode cd_K_callKinds 43 = .ok (.istore 5, 2) := by decide +kernel
theorem dc_K_callKinds_45 : decode cd_K_callKinds 45 = .ok (.iload 4, 2) := by decide +kernel
theorem dc_K_callKinds_47 : decode cd_K_callKinds 47 = .ok (.invokestatic 41, 3) := by decide +kernel
theorem dc_K_callKinds_50 : decode cd_K_callKinds 50 = .ok (.iconst 2, 1) := by decide +kernel
theorem dc_K_callKinds_51 : decode cd_K_callKinds 51 = .ok (.if_icmp .ne 46, 3) := by decide +kernel
theorem dc_K_callKinds_54 : decode cd_K_callKinds 54 = .ok (.aload_n 0, 1) := by decide +kernel
theorem dc_K_callKinds_55 : decode cd_K_callKinds 55 = .ok (.aload_n 0, 1) := by decide +kernel
theorem dc_K_callKinds_56 : decode cd_K_callKinds 56 = .ok (.getfield 23, 3) := by decide +kernel
theorem dc_K_callKinds_59 : decode cd_K_callKinds 59 = .ok (.getfield 108, 3) := by decide +kernel
theorem dc_K_callKinds_62 : decode cd_K_callKinds 62 = .ok (.iload_n 1, 1) := by decide +kernel
theorem dc_K_callKinds_63 : decode cd_K_callKinds 63 = .ok (.iaload, 1) := by decide +kernel
theorem dc_K_callKinds_64 : decode cd_K_callKinds 64 = .ok (.lload_n 2, 1) := by decide +kernel
theorem dc_K_callKinds_65 : decode cd_K_callKinds 65 = .ok (.invokevirtual 71, 3) := by decide +kernel
theorem dc_K_callKinds_68 : decode cd_K_callKinds 68 = .ok (.istore 6, 2) := by decide +kernel
theorem dc_K_callKinds_70 : decode cd_K_callKinds 70 = .ok (.iload 5, 2) := by decide +kernel
theorem dc_K_callKinds_72 : decode cd_K_callKinds 72 = .ok (.iload 6, 2) := by decide +kernel
theorem dc_K_callKinds_74 : decode cd_K_callKinds 74 = .ok (.aload_n 0, 1) := by decide +kernel
theorem dc_K_callKinds_75 : decode cd_K_callKinds 75 = .ok (.getfield 9, 3) := by decide +kernel
theorem dc_K_callKinds_78 : decode cd_K_callKinds 78 = .ok (.iload 4, 2) := by decide +kernel
theorem dc_K_callKinds_80 : decode cd_K_callKinds 80 = .ok (.iconst 2, 1) := by decide +kernel
theorem dc_K_callKinds_81 : decode cd_K_callKinds 81 = .ok (.imul, 1) := by decide +kernel
theorem dc_K_callKinds_82 : decode cd_K_callKinds 82 = .ok (.iconst 1, 1) := by decide +kernel
theorem dc_K_callKinds_83 : decode cd_K_callKinds 83 = .ok (.iadd, 1) := by decide +kernel
theorem dc_K_callKinds_84 : decode cd_K_callKinds 84 = .ok (.iaload, 1) := by decide +kernel
theorem dc_K_callKinds_85 : decode cd_K_callKinds 85 = .ok (.iand, 1) := by decide +kernel
theorem dc_K_callKinds_86 : decode cd_K_callKinds 86 = .ok (.ifCond .eq 7, 3) := by decide +kernel
theorem dc_K_callKinds_89 : decode cd_K_callKinds 89 = .ok (.iconst 1, 1) := by decide +kernel
theorem dc_K_callKinds_90 : decode cd_K_callKinds 90 = .ok (.goto 4, 3) := by decide +kernel
theorem dc_K_callKinds_93 : decode cd_K_callKinds 93 = .ok (.iconst 0, 1) := by decide +kernel
theorem dc_K_callKinds_94 : decode cd_K_callKinds 94 = .ok (.iand, 1) := by decide +kernel
theorem dc_K_callKinds_95 : decode cd_K_callKinds 95 = .ok (.istore 5, 2) := by decide +kernel
theorem dc_K_callKinds_97 : decode cd_K_callKinds 97 = .ok (.iload 5, 2) := by decide +kernel
theorem dc_K_callKinds_99 : decode cd_K_callKinds 99 = .ok (.ifCond .eq 13, 3) := by decide +kernel
theorem dc_K_callKinds_102 : decode cd_K_callKinds 102 = .ok (.aload_n 0, 1) := by decide +kernel
theorem dc_K_callKinds_103 : decode cd_K_callKinds 103 = .ok (.getfield 15, 3) := by decide +kernel
theorem dc_K_callKinds_106 : decode cd_K_callKinds 106 = .ok (.iload 4, 2) := by decide +kernel
theorem dc_K_callKinds_108 : decode cd_K_callKinds 108 = .ok (.iaload, 1) := by decide +kernel
theorem dc_K_callKinds_109 : decode cd_K_callKinds 109 = .ok (.goto 4, 3) := by decide +kernel
theorem dc_K_callKinds_112 : decode cd_K_callKinds 112 = .ok (.iconst 0, 1) := by decide +kernel
theorem dc_K_callKinds_113 : decode cd_K_callKinds 113 = .ok (.istore 6, 2) := by decide +kernel
theorem dc_K_callKinds_115 : decode cd_K_callKinds 115 = .ok (.aload_n 0, 1) := by decide +kernel
theorem dc_K_callKinds_116 : decode cd_K_callKinds 116 = .ok (.iload_n 1, 1) := by decide +kernel
theorem dc_K_callKinds_117 : decode cd_K_callKinds 117 = .ok (.iload 6, 2) := by decide +kernel
theorem dc_K_callKinds_119 : decode cd_K_callKinds 119 = .ok (.invokevirtual 124, 3) := by decide +kernel
theorem dc_K_callKinds_122 : decode cd_K_callKinds 122 = .ok (.iload 6, 2) := by decide +kernel
theorem dc_K_callKinds_124 : decode cd_K_callKinds 124 = .ok (.ireturn, 1) := by decide +kernel
theorem dc_K_note_0 : decode cd_K_note 0 = .ok (.iload_n 2, 1) := by decide +kernel
theorem dc_K_note_1 : decode cd_K_note 1 = .ok (.ifCond .eq 13, 3) := by decide +kernel
theorem dc_K_note_4 : decode cd_K_note 4 = .ok (.aload_n 0, 1) := by decide +kernel
theorem dc_K_note_5 : decode cd_K_note 5 = .ok (.getfield 20, 3) := by decide +kernel
theorem dc_K_note_8 : decode cd_K_note 8 = .ok (.iload_n 1, 1) := by decide +kernel
theorem dc_K_note_9 : decode cd_K_note 9 = .ok (.iconst 2, 1) := by decide +kernel
theorem dc_K_note_10 : decode cd_K_note 10 = .ok (.iastore, 1) := by decide +kernel
theorem dc_K_note_11 : decode cd_K_note 11 = .ok (.goto 19, 3) := by decide +kernel
theorem dc_K_note_14 : decode cd_K_note 14 = .ok (.aload_n 0, 1) := by decide +kernel
theorem dc_K_note_15 : decode cd_K_note 15 = .ok (.getfield 20, 3) := by decide +kernel
theorem dc_K_note_18 : decode cd_K_note 18 = .ok (.iload_n 1, 1) := by decide +kernel
theorem dc_K_note_19 : decode cd_K_note 19 = .ok (.iaload, 1) := by decide +kernel
theorem dc_K_note_20 : decode cd_K_note 20 = .ok (.ifCond .ne 10, 3) := by decide +kernel
theorem dc_K_note_23 : decode cd_K_note 23 = .ok (.aload_n 0, 1) := by decide +kernel
theorem dc_K_note_24 : decode cd_K_note 24 = .ok (.getfield 20, 3) := by decide +kernel
theorem dc_K_note_27 : decode cd_K_note 27 = .ok (.iload_n 1, 1) := by decide +kernel
theorem dc_K_note_28 : decode cd_K_note 28 = .ok (.iconst 1, 1) := by decide +kernel
theorem dc_K_note_29 : decode cd_K_note 29 = .ok (.iastore, 1) := by decide +kernel
theorem dc_K_note_30 : decode cd_K_note 30 = .ok (.return_, 1) := by decide +kernel
theorem dc_K_letKinds_0 : decode cd_K_letKinds 0 = .ok (.aload_n 0, 1) := by decide +kernel
theorem dc_K_letKinds_1 : decode cd_K_letKinds 1 = .ok (.aload_n 0, 1) := by decide +kernel
theorem dc_K_letKinds_2 : decode cd_K_letKinds 2 = .ok (.getfield 23, 3) := by decide +kernel
theorem dc_K_letKinds_5 : decode cd_K_letKinds 5 = .ok (.getfield 93, 3) := by decide +kernel
theorem dc_K_letKinds_8 : decode cd_K_letKinds 8 = .ok (.iload_n 1, 1) := by decide +kernel
theorem dc_K_letKinds_9 : decode cd_K_letKinds 9 = .ok (.iaload, 1) := by decide +kernel
theorem dc_K_letKinds_10 : decode cd_K_letKinds 10 = .ok (.lload_n 2, 1) := by decide +kernel
theorem dc_K_letKinds_11 : decode cd_K_letKinds 11 = .ok (.invokevirtual 71, 3) := by decide +kernel
theorem dc_K_letKinds_14 : decode cd_K_letKinds 14 = .ok (.istore 4, 2) := by decide +kernel
theorem dc_K_letKinds_16 : decode cd_K_letKinds 16 = .ok (.iload 4, 2) := by decide +kernel
theorem dc_K_letKinds_18 : decode cd_K_letKinds 18 = .ok (.ifCond .ne 5, 3) := by decide +kernel
theorem dc_K_letKinds_21 : decode cd_K_letKinds 21 = .ok (.iconst 0, 1) := by decide +kernel
theorem dc_K_letKinds_22 : decode cd_K_letKinds 22 = .ok (.ireturn, 1) := by decide +kernel
theorem dc_K_letKinds_23 : decode cd_K_letKinds 23 = .ok (.aload_n 0, 1) := by decide +kernel
theorem dc_K_letKinds_24 : decode cd_K_letKinds 24 = .ok (.aload_n 0, 1) := by decide +kernel
theorem dc_K_letKinds_25 : decode cd_K_letKinds 25 = .ok (.getfield 23, 3) := by decide +kernel
theorem dc_K_letKinds_28 : decode cd_K_letKinds 28 = .ok (.getfield 108, 3) := by decide +kernel
theorem dc_K_letKinds_31 : decode cd_K_letKinds 31 = .ok (.iload_n 1, 1) := by decide +kernel
theorem dc_K_letKinds_32 : decode cd_K_letKinds 32 = .ok (.iaload, 1) := by decide +kernel
theorem dc_K_letKinds_33 : decode cd_K_letKinds 33 = .ok (.lload_n 2, 1) := by decide +kernel
theorem dc_K_letKinds_34 : decode cd_K_letKinds 34 = .ok (.aload_n 0, 1) := by decide +kernel
theorem dc_K_letKinds_35 : decode cd_K_letKinds 35 = .ok (.getfield 23, 3) := by decide +kernel
theorem dc_K_letKinds_38 : decode cd_K_letKinds 38 = .ok (.getfield 78, 3) := by decide +kernel
theorem dc_K_letKinds_41 : decode cd_K_letKinds 41 = .ok (.iload_n 1, 1) := by decide +kernel
theorem dc_K_letKinds_42 : decode cd_K_letKinds 42 = .ok (.iaload, 1) := by decide +kernel
theorem dc_K_letKinds_43 : decode cd_K_letKinds 43 = .ok (.iload 4, 2) := by decide +kernel
theorem dc_K_letKinds_45 : decode cd_K_letKinds 45 = .ok (.invokestatic 61, 3) := by decide +kernel
theorem dc_K_letKinds_48 : decode cd_K_letKinds 48 = .ok (.invokevirtual 71, 3) := by decide +kernel
theorem dc_K_letKinds_51 : decode cd_K_letKinds 51 = .ok (.ireturn, 1) := by decide +kernel
theorem dc_K_kindsOfTwo_0 : decode cd_K_kindsOfTwo 0 = .ok (.aload_n 0, 1) := by decide +kernel
theorem dc_K_kindsOfTwo_1 : decode cd_K_kindsOfTwo 1 = .ok (.aload_n 0, 1) := by decide +kernel
theorem dc_K_kindsOfTwo_2 : decode cd_K_kindsOfTwo 2 = .ok (.getfield 23, 3) := by decide +kernel
theorem dc_K_kindsOfTwo_5 : decode cd_K_kindsOfTwo 5 = .ok (.getfield 93, 3) := by decide +kernel
theorem dc_K_kindsOfTwo_8 : decode cd_K_kindsOfTwo 8 = .ok (.iload_n 1, 1) := by decide +kernel
theorem dc_K_kindsOfTwo_9 : decode cd_K_kindsOfTwo 9 = .ok (.iaload, 1) := by decide +kernel
theorem dc_K_kindsOfTwo_10 : decode cd_K_kindsOfTwo 10 = .ok (.lload_n 2, 1) := by decide +kernel
theorem dc_K_kindsOfTwo_11 : decode cd_K_kindsOfTwo 11 = .ok (.invokevirtual 71, 3) := by decide +kernel
theorem dc_K_kindsOfTwo_14 : decode cd_K_kindsOfTwo 14 = .ok (.istore 4, 2) := by decide +kernel
theorem dc_K_kindsOfTwo_16 : decode cd_K_kindsOfTwo 16 = .ok (.aload_n 0, 1) := by decide +kernel
theorem dc_K_kindsOfTwo_17 : decode cd_K_kindsOfTwo 17 = .ok (.aload_n 0, 1) := by decide +kernel
theorem dc_K_kindsOfTwo_18 : decode cd_K_kindsOfTwo 18 = .ok (.getfield 23, 3) := by decide +kernel
theorem dc_K_kindsOfTwo_21 : decode cd_K_kindsOfTwo 21 = .ok (.getfield 108, 3) := by decide +kernel
theorem dc_K_kindsOfTwo_24 : decode cd_K_kindsOfTwo 24 = .ok (.iload_n 1, 1) := by decide +kernel
theorem dc_K_kindsOfTwo_25 : decode cd_K_kindsOfTwo 25 = .ok (.iaload, 1) := by decide +kernel
theorem dc_K_kindsOfTwo_26 : decode cd_K_kindsOfTwo 26 = .ok (.lload_n 2, 1) := by decide +kernel
theorem dc_K_kindsOfTwo_27 : decode cd_K_kindsOfTwo 27 = .ok (.invokevirtual 71, 3) := by decide +kernel
theorem dc_K_kindsOfTwo_30 : decode cd_K_kindsOfTwo 30 = .ok (.istore 5, 2) := by decide +kernel
theorem dc_K_kindsOfTwo_32 : decode cd_K_kindsOfTwo 32 = .ok (.aload_n 0, 1) := by decide +kernel
theorem dc_K_kindsOfTwo_33 : decode cd_K_kindsOfTwo 33 = .ok (.getfield 23, 3) := by decide +kernel
theorem dc_K_kindsOfTwo_36 : decode cd_K_kindsOfTwo 36 = .ok (.getfield 81, 3) := by decide +kernel
theorem dc_K_kindsOfTwo_39 : decode cd_K_kindsOfTwo 39 = .ok (.iload_n 1, 1) := by decide +kernel
theorem dc_K_kindsOfTwo_40 : decode cd_K_kindsOfTwo 40 = .ok (.iaload, 1) := by decide +kernel
theorem dc_K_kindsOfTwo_41 : decode cd_K_kindsOfTwo 41 = .ok (.istore 6, 2) := by decide +kernel
theorem dc_K_kindsOfTwo_43 : decode cd_K_kindsOfTwo 43 = .ok (.iload 6, 2) := by decide +kernel
theorem dc_K_kindsOfTwo_45 : decode cd_K_kindsOfTwo 45 = .ok (.bipush 12, 2) := by decide +kernel
theorem dc_K_kindsOfTwo_47 : decode cd_K_kindsOfTwo 47 = .ok (.if_icmp .ne 9, 3) := by decide +kernel
theorem dc_K_kindsOfTwo_50 : decode cd_K_kindsOfTwo 50 = .ok (.iload 4, 2) := by decide +kernel
theorem dc_K_kindsOfTwo_52 : decode cd_K_kindsOfTwo 52 = .ok (.iload 5, 2) := by decide +kernel
theorem dc_K_kindsOfTwo_54 : decode cd_K_kindsOfTwo 54 = .ok (.ior, 1) := by decide +kernel
theorem dc_K_kindsOfTwo_55 : decode cd_K_kindsOfTwo 55 = .ok (.ireturn, 1) := by decide +kernel
theorem dc_K_kindsOfTwo_56 : decode cd_K_kindsOfTwo 56 = .ok (.iload 4, 2) := by decide +kernel
theorem dc_K_kindsOfTwo_58 : decode cd_K_kindsOfTwo 58 = .ok (.ifCond .eq 8, 3) := by decide +kernel
theorem dc_K_kindsOfTwo_61 : decode cd_K_kindsOfTwo 61 = .ok (.iload 5, 2) := by decide +kernel
theorem dc_K_kindsOfTwo_63 : decode cd_K_kindsOfTwo 63 = .ok (.ifCond .ne 5, 3) := by decide +kernel
theorem dc_K_kindsOfTwo_66 : decode cd_K_kindsOfTwo 66 = .ok (.iconst 0, 1) := by decide +kernel
theorem dc_K_kindsOfTwo_67 : decode cd_K_kindsOfTwo 67 = .ok (.ireturn, 1) := by decide +kernel
theorem dc_K_kindsOfTwo_68 : decode cd_K_kindsOfTwo 68 = .ok (.iload 6, 2) := by decide +kernel
theorem dc_K_kindsOfTwo_70 : decode cd_K_kindsOfTwo 70 = .ok (.bipush 6, 2) := by decide +kernel
theorem dc_K_kindsOfTwo_72 : decode cd_K_kindsOfTwo 72 = .ok (.if_icmp .ne 7, 3) := by decide +kernel
theorem dc_K_kindsOfTwo_75 : decode cd_K_kindsOfTwo 75 = .ok (.sipush 256, 3) := by decide +kernel
theorem dc_K_kindsOfTwo_78 : decode cd_K_kindsOfTwo 78 = .ok (.ireturn, 1) := by decide +kernel
theorem dc_K_kindsOfTwo_79 : decode cd_K_kindsOfTwo 79 = .ok (.iload 6, 2) := by decide +kernel
theorem dc_K_kindsOfTwo_81 : decode cd_K_kindsOfTwo 81 = .ok (.bipush 13, 2) := by decide +kernel
theorem dc_K_kindsOfTwo_83 : decode cd_K_kindsOfTwo 83 = .ok (.if_icmp .ne 7, 3) := by decide +kernel
theorem dc_K_kindsOfTwo_86 : decode cd_K_kindsOfTwo 86 = .ok (.iconst 3, 1) := by decide +kernel
theorem dc_K_kindsOfTwo_87 : decode cd_K_kindsOfTwo 87 = .ok (.goto 12, 3) := by decide +kernel
theorem dc_K_kindsOfTwo_90 : decode cd_K_kindsOfTwo 90 = .ok (.iload 6, 2) := by decide +kernel
theorem dc_K_kindsOfTwo_92 : decode cd_K_kindsOfTwo 92 = .ok (.iload 4, 2) := by decide +kernel
theorem dc_K_kindsOfTwo_94 : decode cd_K_kindsOfTwo 94 = .ok (.iload 5, 2) := by decide +kernel
theorem dc_K_kindsOfTwo_96 : decode cd_K_kindsOfTwo 96 = .ok (.invokestatic 111, 3) := by decide +kernel
theorem dc_K_kindsOfTwo_99 : decode cd_K_kindsOfTwo 99 = .ok (.ireturn, 1) := by decide +kernel
theorem dc_K_numberKinds_0 : decode cd_K_numberKinds 0 = .ok (.iconst 0, 1) := by decide +kernel
theorem dc_K_numberKinds_1 : decode cd_K_numberKinds 1 = .ok (.istore_n 3, 1) := by decide +kernel
theorem dc_K_numberKinds_2 : decode cd_K_numberKinds 2 = .ok (.iconst 4, 1) := by decide +kernel
theorem dc_K_numberKinds_3 : decode cd_K_numberKinds 3 = .ok (.istore 4, 2) := by decide +kernel
theorem dc_K_numberKinds_5 : decode cd_K_numberKinds 5 = .ok (.iload 4, 2) := by decide +kernel
theorem dc_K_numberKinds_7 : decode cd_K_numberKinds 7 = .ok (.bipush 6, 2) := by decide +kernel
theorem dc_K_numberKinds_9 : decode cd_K_numberKinds 9 = .ok (.if_icmp .gt 54, 3) := by decide +kernel
theorem dc_K_numberKinds_12 : decode cd_K_numberKinds 12 = .ok (.iconst 4, 1) := by decide +kernel
theorem dc_K_numberKinds_13 : decode cd_K_numberKinds 13 = .ok (.istore 5, 2) := by decide +kernel
theorem dc_K_numberKinds_15 : decode cd_K_numberKinds 15 = .ok (.iload 5, 2) := by decide +kernel
theorem dc_K_numberKinds_17 : decode cd_K_numberKinds 17 = .ok (.bipush 6, 2) := by decide +kernel
theorem dc_K_numberKinds_19 : decode cd_K_numberKinds 19 = .ok (.if_icmp .gt 38, 3) := by decide +kernel
theorem dc_K_numberKinds_22 : decode cd_K_numberKinds 22 = .ok (.iload_n 1, 1) := by decide +kernel
theorem dc_K_numberKinds_23 : decode cd_K_numberKinds 23 = .ok (.iload 4, 2) := by decide +kernel
theorem dc_K_numberKinds_25 : decode cd_K_numberKinds 25 = .ok (.invokestatic 65, 3) := by decide +kernel
theorem dc_K_numberKinds_28 : decode cd_K_numberKinds 28 = .ok (.ifCond .eq 23, 3) := by decide +kernel
theorem dc_K_numberKinds_31 : decode cd_K_numberKinds 31 = .ok (.iload_n 2, 1) := by decide +kernel
theorem dc_K_numberKinds_32 : decode cd_K_numberKinds 32 = .ok (.iload 5, 2) := by decide +kernel
theorem dc_K_numberKinds_34 : decode cd_K_numberKinds 34 = .ok (.invokestatic 65, 3) := by decide +kernel
theorem dc_K_numberKinds_37 : decode cd_K_numberKinds 37 = .ok (.ifCond .eq 14, 3) := by decide +kernel
theorem dc_K_numberKinds_40 : decode cd_K_numberKinds 40 = .ok (.iload_n 3, 1) := by decide +kernel
theorem dc_K_numberKinds_41 : decode cd_K_numberKinds 41 = .ok (.iload_n 0, 1) := by decide +kernel
theorem dc_K_numberKinds_42 : decode cd_K_numberKinds 42 = .ok (.iload 4, 2) := by decide +kernel
theorem dc_K_numberKinds_44 : decode cd_K_numberKinds 44 = .ok (.iload 5, 2) := by decide +kernel
theorem dc_K_numberKinds_46 : decode cd_K_numberKinds 46 = .ok (.invokestatic 115, 3) := by decide +kernel
theorem dc_K_numberKinds_49 : decode cd_K_numberKinds 49 = .ok (.ior, 1) := by decide +kernel
theorem dc_K_numberKinds_50 : decode cd_K_numberKinds 50 = .ok (.istore_n 3, 1) := by decide +kernel
theorem dc_K_numberKinds_51 : decode cd_K_numberKinds 51 = .ok (.iinc 5 1, 3) := by decide +kernel
theorem dc_K_numberKinds_54 : decode cd_K_numberKinds 54 = .ok (.goto (-39), 3) := by decide +kernel
theorem dc_K_numberKinds_57 : decode cd_K_numberKinds 57 = .ok (.iinc 4 1, 3) := by decide +kernel
theorem dc_K_numberKinds_60 : decode cd_K_numberKinds 60 = .ok (.goto (-55), 3) := by decide +kernel
theorem dc_K_numberKinds_63 : decode cd_K_numberKinds 63 = .ok (.iload_n 3, 1) := by decide +kernel
theorem dc_K_numberKinds_64 : decode cd_K_numberKinds 64 = .ok (.ireturn, 1) := by decide +kernel
theorem dc_K_numberKindsOf_0 : decode cd_K_numberKindsOf 0 = .ok (.iload_n 2, 1) := by decide +kernel
theorem dc_K_numberKindsOf_1 : decode cd_K_numberKindsOf 1 = .ok (.iconst 5, 1) := by decide +kernel
theorem dc_K_numberKindsOf_2 : decode cd_K_numberKindsOf 2 = .ok (.if_icmp .ne 7, 3) := by decide +kernel
theorem dc_K_numberKindsOf_5 : decode cd_K_numberKindsOf 5 = .ok (.iconst 1, 1) := by decide +kernel
theorem dc_K_numberKindsOf_6 : decode cd_K_numberKindsOf 6 = .ok (.iload_n 1, 1) := by decide +kernel
theorem dc_K_numberKindsOf_7 : decode cd_K_numberKindsOf 7 = .ok (.ishl, 1) := by decide +kernel
theorem dc_K_numberKindsOf_8 : decode cd_K_numberKindsOf 8 = .ok (.ireturn, 1) := by decide +kernel
theorem dc_K_numberKindsOf_9 : decode cd_K_numberKindsOf 9 = .ok (.iload_n 0, 1) := by decide +kernel
theorem dc_K_numberKindsOf_10 : decode cd_K_numberKindsOf 10 = .ok (.iconst 4, 1) := by decide +kernel
theorem dc_K_numberKindsOf_11 : decode cd_K_numberKindsOf 11 = .ok (.if_icmp .ne 14, 3) := by decide +kernel
theorem dc_K_numberKindsOf_14 : decode cd_K_numberKindsOf 14 = .ok (.iload_n 1, 1) := by decide +kernel
theorem dc_K_numberKindsOf_15 : decode cd_K_numberKindsOf 15 = .ok (.iconst 5, 1) := by decide +kernel
theorem dc_K_numberKindsOf_16 : decode cd_K_numberKindsOf 16 = .ok (.if_icmp .ne 9, 3) := by decide +kernel
theorem dc_K_numberKindsOf_19 : decode cd_K_numberKindsOf 19 = .ok (.iconst 1, 1) := by decide +kernel
theorem dc_K_numberKindsOf_20 : decode cd_K_numberKindsOf 20 = .ok (.iload_n 2, 1) := by decide +kernel
theorem dc_K_numberKindsOf_21 : decode cd_K_numberKindsOf 21 = .ok (.ishl, 1) := by decide +kernel
theorem dc_K_numberKindsOf_22 : decode cd_K_numberKindsOf 22 = .ok (.goto 5, 3) := by decide +kernel
theorem dc_K_numberKindsOf_25 : decode cd_K_numberKindsOf 25 = .ok (.bipush 112, 2) := by decide +kernel
theorem dc_K_numberKindsOf_27 : decode cd_K_numberKindsOf 27 = .ok (.ireturn, 1) := by decide +kernel
theorem dc_K_growMay_0 : decode cd_K_growMay 0 = .ok (.iload_n 1, 1) := by decide +kernel
theorem dc_K_growMay_1 : decode cd_K_growMay 1 = .ok (.iconst 2, 1) := by decide +kernel
theorem dc_K_growMay_2 : decode cd_K_growMay 2 = .ok (.imul, 1) := by decide +kernel
theorem dc_K_growMay_3 : decode cd_K_growMay 3 = .ok (.iload_n 2, 1) := by decide +kernel
theorem dc_K_growMay_4 : decode cd_K_growMay 4 = .ok (.iadd, 1) := by decide +kernel
theorem dc_K_growMay_5 : decode cd_K_growMay 5 = .ok (.istore_n 3, 1) := by decide +kernel
theorem dc_K_growMay_6 : decode cd_K_growMay 6 = .ok (.aload_n 0, 1) := by decide +kernel
theorem dc_K_growMay_7 : decode cd_K_growMay 7 = .ok (.getfield 9, 3) := by decide +kernel
theorem dc_K_growMay_10 : decode cd_K_growMay 10 = .ok (.iload_n 3, 1) := by decide +kernel
theorem dc_K_growMay_11 : decode cd_K_growMay 11 = .ok (.iaload, 1) := by decide +kernel
theorem dc_K_growMay_12 : decode cd_K_growMay 12 = .ok (.istore 4, 2) := by decide +kernel
theorem dc_K_growMay_14 : decode cd_K_growMay 14 = .ok (.iconst 0, 1) := by decide +kernel
theorem dc_K_growMay_15 : decode cd_K_growMay 15 = .ok (.istore 5, 2) := by decide +kernel
theorem dc_K_growMay_17 : decode cd_K_growMay 17 = .ok (.iload 5, 2) := by decide +kernel
theorem dc_K_growMay_19 : decode cd_K_growMay 19 = .ok (.bipush 9, 2) := by decide +kernel
theorem dc_K_growMay_21 : decode cd_K_growMay 21 = .ok (.if_icmp .ge 56, 3) := by decide +kernel
theorem dc_K_growMay_24 : decode cd_K_growMay 24 = .ok (.iload_n 1, 1) := by decide +kernel
theorem dc_K_growMay_25 : decode cd_K_growMay 25 = .ok (.invokestatic 53, 3) := by decide +kernel
theorem dc_K_growMay_28 : decode cd_K_growMay 28 = .ok (.iload_n 2, 1) := by decide +kernel
theorem dc_K_growMay_29 : decode cd_K_growMay 29 = .ok (.iconst 1, 1) := by decide +kernel
theorem dc_K_growMay_30 : decode cd_K_growMay 30 = .ok (.iload 5, 2) := by decide +kernel
theorem dc_K_growMay_32 : decode cd_K_growMay 32 = .ok (.ishl, 1) := by decide +kernel
theorem dc_K_growMay_33 : decode cd_K_growMay 33 = .ok (.invokestatic 61, 3) := by decide +kernel
theorem dc_K_growMay_36 : decode cd_K_growMay 36 = .ok (.lstore 6, 2) := by decide +kernel
theorem dc_K_growMay_38 : decode cd_K_growMay 38 = .ok (.iload 4, 2) := by decide +kernel
theorem dc_K_growMay_40 : decode cd_K_growMay 40 = .ok (.iload 5, 2) := by decide +kernel
theorem dc_K_growMay_42 : decode cd_K_growMay 42 = .ok (.invokestatic 65, 3) := by decide +kernel
theorem dc_K_growMay_45 : decode cd_K_growMay 45 = .ok (.ifCond .ne 26, 3) := by decide +kernel
theorem dc_K_growMay_48 : decode cd_K_growMay 48 = .ok (.aload_n 0, 1) := by decide +kernel
theorem dc_K_growMay_49 : decode cd_K_growMay 49 = .ok (.iload_n 1, 1) := by decide +kernel
theorem dc_K_growMay_50 : decode cd_K_growMay 50 = .ok (.lload 6, 2) := by decide +kernel
theorem dc_K_growMay_52 : decode cd_K_growMay 52 = .ok (.invokevirtual 57, 3) := by decide +kernel
theorem dc_K_growMay_55 : decode cd_K_growMay 55 = .ok (.ifCond .eq 16, 3) := by decide +kernel
theorem dc_K_growMay_58 : decode cd_K_growMay 58 = .ok (.aload_n 0, 1) := by decide +kernel
theorem dc_K_growMay_59 : decode cd_K_growMay 59 = .ok (.getfield 9, 3) := by decide +kernel
theorem dc_K_growMay_62 : decode cd_K_growMay 62 = .ok (.iload_n 3, 1) := by decide +kernel
theorem dc_K_growMay_63 : decode cd_K_growMay 63 = .ok (.dup2, 1) := by decide +kernel
theorem dc_K_growMay_64 : decode cd_K_growMay 64 = .ok (.iaload, 1) := by decide +kernel
theorem dc_K_growMay_65 : decode cd_K_growMay 65 = .ok (.iconst 1, 1) := by decide +kernel
theorem dc_K_growMay_66 : decode cd_K_growMay 66 = .ok (.iload 5, 2) := by decide +kernel
theorem dc_K_growMay_68 : decode cd_K_growMay 68 = .ok (.ishl, 1) := by decide +kernel
theorem dc_K_growMay_69 : decode cd_K_growMay 69 = .ok (.ior, 1) := by decide +kernel
theorem dc_K_growMay_70 : decode cd_K_growMay 70 = .ok (.iastore, 1) := by decide +kernel
theorem dc_K_growMay_71 : decode cd_K_growMay 71 = .ok (.iinc 5 1, 3) := by decide +kernel
theorem dc_K_growMay_74 : decode cd_K_growMay 74 = .ok (.goto (-57), 3) := by decide +kernel
theorem dc_K_growMay_77 : decode cd_K_growMay 77 = .ok (.aload_n 0, 1) := by decide +kernel
theorem dc_K_growMay_78 : decode cd_K_growMay 78 = .ok (.getfield 9, 3) := by decide +kernel
theorem dc_K_growMay_81 : decode cd_K_growMay 81 = .ok (.iload_n 3, 1) := by decide +kernel
theorem dc_K_growMay_82 : decode cd_K_growMay 82 = .ok (.iaload, 1) := by decide +kernel
theorem dc_K_growMay_83 : decode cd_K_growMay 83 = .ok (.iload 4, 2) := by decide +kernel
theorem dc_K_growMay_85 : decode cd_K_growMay 85 = .ok (.if_icmp .eq 7, 3) := by decide +kernel
theorem dc_K_growMay_88 : decode cd_K_growMay 88 = .ok (.iconst 1, 1) := by decide +kernel
theorem dc_K_growMay_89 : decode cd_K_growMay 89 = .ok (.goto 4, 3) := by decide +kernel
theorem dc_K_growMay_92 : decode cd_K_growMay 92 = .ok (.iconst 0, 1) := by decide +kernel
theorem dc_K_growMay_93 : decode cd_K_growMay 93 = .ok (.ireturn, 1) := by decide +kernel
theorem dc_K_mayOf_0 : decode cd_K_mayOf 0 = .ok (.aload_n 0, 1) := by decide +kernel
theorem dc_K_mayOf_1 : decode cd_K_mayOf 1 = .ok (.getfield 9, 3) := by decide +kernel
theorem dc_K_mayOf_4 : decode cd_K_mayOf 4 = .ok (.iload_n 1, 1) := by decide +kernel
theorem dc_K_mayOf_5 : decode cd_K_mayOf 5 = .ok (.iconst 2, 1) := by decide +kernel
theorem dc_K_mayOf_6 : decode cd_K_mayOf 6 = .ok (.imul, 1) := by decide +kernel
theorem dc_K_mayOf_7 : decode cd_K_mayOf 7 = .ok (.iload_n 2, 1) := by decide +kernel
theorem dc_K_mayOf_8 : decode cd_K_mayOf 8 = .ok (.iadd, 1) := by decide +kernel
theorem dc_K_mayOf_9 : decode cd_K_mayOf 9 = .ok (.iaload, 1) := by decide +kernel
theorem dc_K_mayOf_10 : decode cd_K_mayOf 10 = .ok (.ireturn, 1) := by decide +kernel
theorem dc_K_givesOf_0 : decode cd_K_givesOf 0 = .ok (.aload_n 0, 1) := by decide +kernel
theorem dc_K_givesOf_1 : decode cd_K_givesOf 1 = .ok (.getfield 15, 3) := by decide +kernel
theorem dc_K_givesOf_4 : decode cd_K_givesOf 4 = .ok (.iload_n 1, 1) := by decide +kernel
theorem dc_K_givesOf_5 : decode cd_K_givesOf 5 = .ok (.iaload, 1) := by decide +kernel
theorem dc_K_givesOf_6 : decode cd_K_givesOf 6 = .ok (.ireturn, 1) := by decide +kernel
theorem dc_K_countHopeless_0 : decode cd_K_countHopeless 0 = .ok (.aload_n 0, 1) := by decide +kernel
theorem dc_K_countHopeless_1 : decode cd_K_countHopeless 1 = .ok (.iload_n 1, 1) := by decide +kernel
theorem dc_K_countHopeless_2 : decode cd_K_countHopeless 2 = .ok (.invokevirtual 49, 3) := by decide +kernel
theorem dc_K_countHopeless_5 : decode cd_K_countHopeless 5 = .ok (.iconst 0, 1) := by decide +kernel
theorem dc_K_countHopeless_6 : decode cd_K_countHopeless 6 = .ok (.istore_n 2, 1) := by decide +kernel
theorem dc_K_countHopeless_7 : decode cd_K_countHopeless 7 = .ok (.iconst 0, 1) := by decide +kernel
theorem dc_K_countHopeless_8 : decode cd_K_countHopeless 8 = .ok (.istore_n 3, 1) := by decide +kernel
theorem dc_K_countHopeless_9 : decode cd_K_countHopeless 9 = .ok (.iload_n 3, 1) := by decide +kernel
theorem dc_K_countHopeless_10 : decode cd_K_countHopeless 10 = .ok (.aload_n 0, 1) := by decide +kernel
theorem dc_K_countHopeless_11 : decode cd_K_countHopeless 11 = .ok (.getfield 20, 3) := by decide +kernel
theorem dc_K_countHopeless_14 : decode cd_K_countHopeless 14 = .ok (.arraylength, 1) := by decide +kernel
theorem dc_K_countHopeless_15 : decode cd_K_countHopeless 15 = .ok (.if_icmp .ge 22, 3) := by decide +kernel
theorem dc_K_countHopeless_18 : decode cd_K_countHopeless 18 = .ok (.aload_n 0, 1) := by decide +kernel
theorem dc_K_countHopeless_19 : decode cd_K_countHopeless 19 = .ok (.getfield 20, 3) := by decide +kernel
theorem dc_K_countHopeless_22 : decode cd_K_countHopeless 22 = .ok (.iload_n 3, 1) := by decide +kernel
theorem dc_K_countHopeless_23 : decode cd_K_countHopeless 23 = .ok (.iaload, 1) := by decide +kernel
theorem dc_K_countHopeless_24 : decode cd_K_countHopeless 24 = .ok (.iconst 1, 1) := by decide +kernel
theorem dc_K_countHopeless_25 : decode cd_K_countHopeless 25 = .ok (.if_icmp .ne 6, 3) := by decide +kernel
theorem dc_K_countHopeless_28 : decode cd_K_countHopeless 28 = .ok (.iinc 2 1, 3) := by decide +kernel
theorem dc_K_countHopeless_31 : decode cd_K_countHopeless 31 = .ok (.iinc 3 1, 3) := by decide +kernel
theorem dc_K_countHopeless_34 : decode cd_K_countHopeless 34 = .ok (.goto (-25), 3) := by decide +kernel
theorem dc_K_countHopeless_37 : decode cd_K_countHopeless 37 = .ok (.iload_n 2, 1) := by decide +kernel
theorem dc_K_countHopeless_38 : decode cd_K_countHopeless 38 = .ok (.ireturn, 1) := by decide +kernel
theorem dc_K_walkBody_0 : decode cd_K_walkBody 0 = .ok (.aload_n 0, 1) := by decide +kernel
theorem dc_K_walkBody_1 : decode cd_K_walkBody 1 = .ok (.getfield 20, 3) := by decide +kernel
theorem dc_K_walkBody_4 : decode cd_K_walkBody 4 = .ok (.iconst 0, 1) := by decide +kernel
theorem dc_K_walkBody_5 : decode cd_K_walkBody 5 = .ok (.invokestatic 31, 3) := by decide +kernel
theorem dc_K_walkBody_8 : decode cd_K_walkBody 8 = .ok (.aload_n 0, 1) := by decide +kernel
theorem dc_K_walkBody_9 : decode cd_K_walkBody 9 = .ok (.iload_n 1, 1) := by decide +kernel
theorem dc_K_walkBody_10 : decode cd_K_walkBody 10 = .ok (.iload_n 1, 1) := by decide +kernel
theorem dc_K_walkBody_11 : decode cd_K_walkBody 11 = .ok (.invokestatic 53, 3) := by decide +kernel
theorem dc_K_walkBody_14 : decode cd_K_walkBody 14 = .ok (.invokevirtual 57, 3) := by decide +kernel
theorem dc_K_walkBody_17 : decode cd_K_walkBody 17 = .ok (.pop, 1) := by decide +kernel
theorem dc_K_walkBody_18 : decode cd_K_walkBody 18 = .ok (.return_, 1) := by decide +kernel
theorem dc_K_isHopelessCall_0 : decode cd_K_isHopelessCall 0 = .ok (.aload_n 0, 1) := by decide +kernel
theorem dc_K_isHopelessCall_1 : decode cd_K_isHopelessCall 1 = .ok (.iload_n 1, 1) := by decide +kernel
theorem dc_K_isHopelessCall_2 : decode cd_K_isHopelessCall 2 = .ok (.invokevirtual 49, 3) := by decide +kernel
theorem dc_K_isHopelessCall_5 : decode cd_K_isHopelessCall 5 = .ok (.aload_n 0, 1) := by decide +kernel
theorem dc_K_isHopelessCall_6 : decode cd_K_isHopelessCall 6 = .ok (.getfield 20, 3) := by decide +kernel
theorem dc_K_isHopelessCall_9 : decode cd_K_isHopelessCall 9 = .ok (.iload_n 2, 1) := by decide +kernel
theorem dc_K_isHopelessCall_10 : decode cd_K_isHopelessCall 10 = .ok (.iaload, 1) := by decide +kernel
theorem dc_K_isHopelessCall_11 : decode cd_K_isHopelessCall 11 = .ok (.iconst 1, 1) := by decide +kernel
theorem dc_K_isHopelessCall_12 : decode cd_K_isHopelessCall 12 = .ok (.if_icmp .ne 7, 3) := by decide +kernel
theorem dc_K_isHopelessCall_15 : decode cd_K_isHopelessCall 15 = .ok (.iconst 1, 1) := by decide +kernel
theorem dc_K_isHopelessCall_16 : decode cd_K_isHopelessCall 16 = .ok (.goto 4, 3) := by decide +kernel
theorem dc_K_isHopelessCall_19 : decode cd_K_isHopelessCall 19 = .ok (.iconst 0, 1) := by decide +kernel
theorem dc_K_isHopelessCall_20 : decode cd_K_isHopelessCall 20 = .ok (.ireturn, 1) := by decide +kernel
