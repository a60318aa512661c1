theorem dc_P_init_0 : decode cd_P_init 0 = .ok (.aload_n 0, 1) := by decide +kernel
theorem dc_P_init_1 : decode cd_P_init 1 = .ok (.invokespecial 3, 3) := by decide +kernel
theorem dc_P_init_4 : decode cd_P_init 4 = .ok (.aload_n 0, 1) := by decide +kernel
theorem dc_P_init_5 : decode cd_P_init 5 = .ok (.bipush 91, 2) := by decide +kernel
theorem dc_P_init_7 : decode cd_P_init 7 = .ok (.newarray .int, 2) := by decide +kernel
theorem dc_P_init_9 : decode cd_P_init 9 = .ok (.putfield 11, 3) := by decide +kernel
theorem dc_P_init_12 : decode cd_P_init 12 = .ok (.aload_n 0, 1) := by decide +kernel
theorem dc_P_init_13 : decode cd_P_init 13 = .ok (.bipush 91, 2) := by decide +kernel
theorem dc_P_init_15 : decode cd_P_init 15 = .ok (.newarray .int, 2) := by decide +kernel
theorem dc_P_init_17 : decode cd_P_init 17 = .ok (.putfield 15, 3) := by decide +kernel
theorem dc_P_init_20 : decode cd_P_init 20 = .ok (.aload_n 0, 1) := by decide +kernel
theorem dc_P_init_21 : decode cd_P_init 21 = .ok (.bipush 91, 2) := by decide +kernel
theorem dc_P_init_23 : decode cd_P_init 23 = .ok (.newarray .int, 2) := by decide +kernel
theorem dc_P_init_25 : decode cd_P_init 25 = .ok (.putfield 18, 3) := by decide +kernel
theorem dc_P_init_28 : decode cd_P_init 28 = .ok (.aload_n 0, 1) := by decide +kernel
theorem dc_P_init_29 : decode cd_P_init 29 = .ok (.bipush 91, 2) := by decide +kernel
theorem dc_P_init_31 : decode cd_P_init 31 = .ok (.newarray .int, 2) := by decide +kernel
theorem dc_P_init_33 : decode cd_P_init 33 = .ok (.putfield 21, 3) := by decide +kernel
theorem dc_P_init_36 : decode cd_P_init 36 = .ok (.aload_n 0, 1) := by decide +kernel
theorem dc_P_init_37 : decode cd_P_init 37 = .ok (.bipush 91, 2) := by decide +kernel
theorem dc_P_init_39 : decode cd_P_init 39 = .ok (.newarray .int, 2) := by decide +kernel
theorem dc_P_init_41 : decode cd_P_init 41 = .ok (.putfield 24, 3) := by decide +kernel
theorem dc_P_init_44 : decode cd_P_init 44 = .ok (.aload_n 0, 1) := by decide +kernel
theorem dc_P_init_45 : decode cd_P_init 45 = .ok (.bipush 91, 2) := by decide +kernel
theorem dc_P_init_47 : decode cd_P_init 47 = .ok (.newarray .int, 2) := by decide +kernel
theorem dc_P_init_49 : decode cd_P_init 49 = .ok (.putfield 27, 3) := by decide +kernel
theorem dc_P_init_52 : decode cd_P_init 52 = .ok (.aload_n 0, 1) := by decide +kernel
theorem dc_P_init_53 : decode cd_P_init 53 = .ok (.bipush 91, 2) := by decide +kernel
theorem dc_P_init_55 : decode cd_P_init 55 = .ok (.newarray .int, 2) := by decide +kernel
theorem dc_P_init_57 : decode cd_P_init 57 = .ok (.putfield 30, 3) := by decide +kernel
theorem dc_P_init_60 : decode cd_P_init 60 = .ok (.aload_n 0, 1) := by decide +kernel
theorem dc_P_init_61 : decode cd_P_init 61 = .ok (.bipush 6, 2) := by decide +kernel
theorem dc_P_init_63 : decode cd_P_init 63 = .ok (.newarray .int, 2) := by decide +kernel
theorem dc_P_init_65 : decode cd_P_init 65 = .ok (.putfield 33, 3) := by decide +kernel
theorem dc_P_init_68 : decode cd_P_init 68 = .ok (.aload_n 0, 1) := by decide +kernel
theorem dc_P_init_69 : decode cd_P_init 69 = .ok (.getfield 33, 3) := by decide +kernel
theorem dc_P_init_72 : decode cd_P_init 72 = .ok (.iconst (-1), 1) := by decide +kernel
theorem dc_P_init_73 : decode cd_P_init 73 = .ok (.invokestatic 36, 3) := by decide +kernel
theorem dc_P_init_76 : decode cd_P_init 76 = .ok (.return_, 1) := by decide +kernel
theorem dc_P_draft_0 : decode cd_P_draft 0 = .ok (.iload_n 1, 1) := by decide +kernel
theorem dc_P_draft_1 : decode cd_P_draft 1 = .ok (.ifCond .lt 9, 3) := by decide +kernel
theorem dc_P_draft_4 : decode cd_P_draft 4 = .ok (.iload_n 1, 1) := by decide +kernel
theorem dc_P_draft_5 : decode cd_P_draft 5 = .ok (.bipush 15, 2) := by decide +kernel
theorem dc_P_draft_7 : decode cd_P_draft 7 = .ok (.if_icmp .lt 5, 3) := by decide +kernel
theorem dc_P_draft_10 : decode cd_P_draft 10 = .ok (.iconst 0, 1) := by decide +kernel
theorem dc_P_draft_11 : decode cd_P_draft 11 = .ok (.ireturn, 1) := by decide +kernel
theorem dc_P_draft_12 : decode cd_P_draft 12 = .ok (.iload_n 1, 1) := by decide +kernel
theorem dc_P_draft_13 : decode cd_P_draft 13 = .ok (.bipush 9, 2) := by decide +kernel
theorem dc_P_draft_15 : decode cd_P_draft 15 = .ok (.if_icmp .ne 7, 3) := by decide +kernel
theorem dc_P_draft_18 : decode cd_P_draft 18 = .ok (.iload_n 3, 1) := by decide +kernel
theorem dc_P_draft_19 : decode cd_P_draft 19 = .ok (.goto 4, 3) := by decide +kernel
theorem dc_P_draft_22 : decode cd_P_draft 22 = .ok (.iload_n 2, 1) := by decide +kernel
theorem dc_P_draft_23 : decode cd_P_draft 23 = .ok (.istore 6, 2) := by decide +kernel
theorem dc_P_draft_25 : decode cd_P_draft 25 = .ok (.iload_n 1, 1) := by decide +kernel
theorem dc_P_draft_26 : decode cd_P_draft 26 = .ok (.iload 6, 2) := by decide +kernel
theorem dc_P_draft_28 : decode cd_P_draft 28 = .ok (.invokestatic 46, 3) := by decide +kernel
theorem dc_P_draft_31 : decode cd_P_draft 31 = .ok (.ifCond .ne 5, 3) := by decide +kernel
theorem dc_P_draft_34 : decode cd_P_draft 34 = .ok (.iconst 0, 1) := by decide +kernel
theorem dc_P_draft_35 : decode cd_P_draft 35 = .ok (.ireturn, 1) := by decide +kernel
theorem dc_P_draft_36 : decode cd_P_draft 36 = .ok (.iload_n 1, 1) := by decide +kernel
theorem dc_P_draft_37 : decode cd_P_draft 37 = .ok (.bipush 10, 2) := by decide +kernel
theorem dc_P_draft_39 : decode cd_P_draft 39 = .ok (.if_icmp .ne 11, 3) := by decide +kernel
theorem dc_P_draft_42 : decode cd_P_draft 42 = .ok (.iload 6, 2) := by decide +kernel
theorem dc_P_draft_44 : decode cd_P_draft 44 = .ok (.invokestatic 50, 3) := by decide +kernel
theorem dc_P_draft_47 : decode cd_P_draft 47 = .ok (.goto 8, 3) := by decide +kernel
theorem dc_P_draft_50 : decode cd_P_draft 50 = .ok (.getstatic 54, 3) := by decide +kernel
theorem dc_P_draft_53 : decode cd_P_draft 53 = .ok (.iload_n 1, 1) := by decide +kernel
theorem dc_P_draft_54 : decode cd_P_draft 54 = .ok (.iaload, 1) := by decide +kernel
theorem dc_P_draft_55 : decode cd_P_draft 55 = .ok (.istore 7, 2) := by decide +kernel
theorem dc_P_draft_57 : decode cd_P_draft 57 = .ok (.iload_n 1, 1) := by decide +kernel
theorem dc_P_draft_58 : decode cd_P_draft 58 = .ok (.bipush 10, 2) := by decide +kernel
theorem dc_P_draft_60 : decode cd_P_draft 60 = .ok (.if_icmp .eq 9, 3) := by decide +kernel
theorem dc_P_draft_63 : decode cd_P_draft 63 = .ok (.iload_n 1, 1) := by decide +kernel
theorem dc_P_draft_64 : decode cd_P_draft 64 = .ok (.bipush 11, 2) := by decide +kernel
theorem dc_P_draft_66 : decode cd_P_draft 66 = .ok (.if_icmp .ne 7, 3) := by decide +kernel
theorem dc_P_draft_69 : decode cd_P_draft 69 = .ok (.iconst 1, 1) := by decide +kernel
theorem dc_P_draft_70 : decode cd_P_draft 70 = .ok (.goto 4, 3) := by decide +kernel
theorem dc_P_draft_73 : decode cd_P_draft 73 = .ok (.iconst 0, 1) := by decide +kernel
theorem dc_P_draft_74 : decode cd_P_draft 74 = .ok (.istore 8, 2) := by decide +kernel
theorem dc_P_draft_76 : decode cd_P_draft 76 = .ok (.iload 8, 2) := by decide +kernel
theorem dc_P_draft_78 : decode cd_P_draft 78 = .ok (.ifCond .eq 7, 3) := by decide +kernel
theorem dc_P_draft_81 : decode cd_P_draft 81 = .ok (.iload_n 3, 1) := by decide +kernel
theorem dc_P_draft_82 : decode cd_P_draft 82 = .ok (.goto 4, 3) := by decide +kernel
theorem dc_P_draft_85 : decode cd_P_draft 85 = .ok (.iload_n 2, 1) := by decide +kernel
theorem dc_P_draft_86 : decode cd_P_draft 86 = .ok (.istore 9, 2) := by decide +kernel
theorem dc_P_draft_88 : decode cd_P_draft 88 = .ok (.iload 8, 2) := by decide +kernel
theorem dc_P_draft_90 : decode cd_P_draft 90 = .ok (.ifCond .ne 9, 3) := by decide +kernel
theorem dc_P_draft_93 : decode cd_P_draft 93 = .ok (.iload_n 1, 1) := by decide +kernel
theorem dc_P_draft_94 : decode cd_P_draft 94 = .ok (.bipush 9, 2) := by decide +kernel
theorem dc_P_draft_96 : decode cd_P_draft 96 = .ok (.if_icmp .ne 8, 3) := by decide +kernel
theorem dc_P_draft_99 : decode cd_P_draft 99 = .ok (.iload 4, 2) := by decide +kernel
theorem dc_P_draft_101 : decode cd_P_draft 101 = .ok (.goto 4, 3) := by decide +kernel
theorem dc_P_draft_104 : decode cd_P_draft 104 = .ok (.iload_n 3, 1) := by decide +kernel
theorem dc_P_draft_105 : decode cd_P_draft 105 = .ok (.istore 10, 2) := by decide +kernel
theorem dc_P_draft_107 : decode cd_P_draft 107 = .ok (.aload_n 0, 1) := by decide +kernel
theorem dc_P_draft_108 : decode cd_P_draft 108 = .ok (.iload 7, 2) := by decide +kernel
theorem dc_P_draft_110 : decode cd_P_draft 110 = .ok (.iload 9, 2) := by decide +kernel
theorem dc_P_draft_112 : decode cd_P_draft 112 = .ok (.iload 10, 2) := by decide +kernel
theorem dc_P_draft_114 : decode cd_P_draft 114 = .ok (.iload 5, 2) := by decide +kernel
theorem dc_P_draft_116 : decode cd_P_draft 116 = .ok (.invokevirtual 57, 3) := by decide +kernel
theorem dc_P_draft_119 : decode cd_P_draft 119 = .ok (.ifCond .ne 5, 3) := by decide +kernel
theorem dc_P_draft_122 : decode cd_P_draft 122 = .ok (.iconst 0, 1) := by decide +kernel
theorem dc_P_draft_123 : decode cd_P_draft 123 = .ok (.ireturn, 1) := by decide +kernel
theorem dc_P_draft_124 : decode cd_P_draft 124 = .ok (.aload_n 0, 1) := by decide +kernel
theorem dc_P_draft_125 : decode cd_P_draft 125 = .ok (.getfield 11, 3) := by decide +kernel
theorem dc_P_draft_128 : decode cd_P_draft 128 = .ok (.aload_n 0, 1) := by decide +kernel
theorem dc_P_draft_129 : decode cd_P_draft 129 = .ok (.getfield 42, 3) := by decide +kernel
theorem dc_P_draft_132 : decode cd_P_draft 132 = .ok (.iload_n 1, 1) := by decide +kernel
theorem dc_P_draft_133 : decode cd_P_draft 133 = .ok (.iastore, 1) := by decide +kernel
theorem dc_P_draft_134 : decode cd_P_draft 134 = .ok (.aload_n 0, 1) := by decide +kernel
theorem dc_P_draft_135 : decode cd_P_draft 135 = .ok (.getfield 15, 3) := by decide +kernel
theorem dc_P_draft_138 : decode cd_P_draft 138 = .ok (.aload_n 0, 1) := by decide +kernel
theorem dc_P_draft_139 : decode cd_P_draft 139 = .ok (.getfield 42, 3) := by decide +kernel
theorem dc_P_draft_142 : decode cd_P_draft 142 = .ok (.iload 6, 2) := by decide +kernel
theorem dc_P_draft_144 : decode cd_P_draft 144 = .ok (.iastore, 1) := by decide +kernel
theorem dc_P_draft_145 : decode cd_P_draft 145 = .ok (.aload_n 0, 1) := by decide +kernel
theorem dc_P_draft_146 : decode cd_P_draft 146 = .ok (.getfield 18, 3) := by decide +kernel
theorem dc_P_draft_149 : decode cd_P_draft 149 = .ok (.aload_n 0, 1) := by decide +kernel
theorem dc_P_draft_150 : decode cd_P_draft 150 = .ok (.getfield 42, 3) := by decide +kernel
theorem dc_P_draft_153 : decode cd_P_draft 153 = .ok (.iload 7, 2) := by decide +kernel
theorem dc_P_draft_155 : decode cd_P_draft 155 = .ok (.iconst 1, 1) := by decide +kernel
theorem dc_P_draft_156 : decode cd_P_draft 156 = .ok (.if_icmp .lt 8, 3) := by decide +kernel
theorem dc_P_draft_159 : decode cd_P_draft 159 = .ok (.iload 9, 2) := by decide +kernel
theorem dc_P_draft_161 : decode cd_P_draft 161 = .ok (.goto 4, 3) := by decide +kernel
theorem dc_P_draft_164 : decode cd_P_draft 164 = .ok (.iconst (-1), 1) := by decide +kernel
theorem dc_P_draft_165 : decode cd_P_draft 165 = .ok (.iastore, 1) := by decide +kernel
theorem dc_P_draft_166 : decode cd_P_draft 166 = .ok (.aload_n 0, 1) := by decide +kernel
theorem dc_P_draft_167 : decode cd_P_draft 167 = .ok (.getfield 21, 3) := by decide +kernel
theorem dc_P_draft_170 : decode cd_P_draft 170 = .ok (.aload_n 0, 1) := by decide +kernel
theorem dc_P_draft_171 : decode cd_P_draft 171 = .ok (.getfield 42, 3) := by decide +kernel
theorem dc_P_draft_174 : decode cd_P_draft 174 = .ok (.iload 7, 2) := by decide +kernel
theorem dc_P_draft_176 : decode cd_P_draft 176 = .ok (.iconst 2, 1) := by decide +kernel
theorem dc_P_draft_177 : decode cd_P_draft 177 = .ok (.if_icmp .lt 8, 3) := by decide +kernel
theorem dc_P_draft_180 : decode cd_P_draft 180 = .ok (.iload 10, 2) := by decide +kernel
theorem dc_P_draft_182 : decode cd_P_draft 182 = .ok (.goto 4, 3) := by decide +kernel
theorem dc_P_draft_185 : decode cd_P_draft 185 = .ok (.iconst (-1), 1) := by decide +kernel
theorem dc_P_draft_186 : decode cd_P_draft 186 = .ok (.iastore, 1) := by decide +kernel
theorem dc_P_draft_187 : decode cd_P_draft 187 = .ok (.aload_n 0, 1) := by decide +kernel
theorem dc_P_draft_188 : decode cd_P_draft 188 = .ok (.getfield 24, 3) := by decide +kernel
theorem dc_P_draft_191 : decode cd_P_draft 191 = .ok (.aload_n 0, 1) := by decide +kernel
theorem dc_P_draft_192 : decode cd_P_draft 192 = .ok (.getfield 42, 3) := by decide +kernel
theorem dc_P_draft_195 : decode cd_P_draft 195 = .ok (.iload 7, 2) := by decide +kernel
theorem dc_P_draft_197 : decode cd_P_draft 197 = .ok (.iconst 3, 1) := by decide +kernel
theorem dc_P_draft_198 : decode cd_P_draft 198 = .ok (.if_icmp .lt 8, 3) := by decide +kernel
theorem dc_P_draft_201 : decode cd_P_draft 201 = .ok (.iload 5, 2) := by decide +kernel
theorem dc_P_draft_203 : decode cd_P_draft 203 = .ok (.goto 4, 3) := by decide +kernel
theorem dc_P_draft_206 : decode cd_P_draft 206 = .ok (.iconst (-1), 1) := by decide +kernel
theorem dc_P_draft_207 : decode cd_P_draft 207 = .ok (.iastore, 1) := by decide +kernel
theorem dc_P_draft_208 : decode cd_P_draft 208 = .ok (.aload_n 0, 1) := by decide +kernel
theorem dc_P_draft_209 : decode cd_P_draft 209 = .ok (.aload_n 0, 1) := by decide +kernel
theorem dc_P_draft_210 : decode cd_P_draft 210 = .ok (.getfield 42, 3) := by decide +kernel
theorem dc_P_draft_213 : decode cd_P_draft 213 = .ok (.invokevirtual 61, 3) := by decide +kernel
theorem dc_P_draft_216 : decode cd_P_draft 216 = .ok (.aload_n 0, 1) := by decide +kernel
theorem dc_P_draft_217 : decode cd_P_draft 217 = .ok (.getfield 27, 3) := by decide +kernel
theorem dc_P_draft_220 : decode cd_P_draft 220 = .ok (.aload_n 0, 1) := by decide +kernel
theorem dc_P_draft_221 : decode cd_P_draft 221 = .ok (.getfield 42, 3) := by decide +kernel
theorem dc_P_draft_224 : decode cd_P_draft 224 = .ok (.iaload, 1) := by decide +kernel
theorem dc_P_draft_225 : decode cd_P_draft 225 = .ok (.iconst 5, 1) := by decide +kernel
theorem dc_P_draft_226 : decode cd_P_draft 226 = .ok (.if_icmp .gt 21, 3) := by decide +kernel
theorem dc_P_draft_229 : decode cd_P_draft 229 = .ok (.aload_n 0, 1) := by decide +kernel
theorem dc_P_draft_230 : decode cd_P_draft 230 = .ok (.getfield 30, 3) := by decide +kernel
theorem dc_P_draft_233 : decode cd_P_draft 233 = .ok (.aload_n 0, 1) := by decide +kernel
theorem dc_P_draft_234 : decode cd_P_draft 234 = .ok (.getfield 42, 3) := by decide +kernel
theorem dc_P_draft_237 : decode cd_P_draft 237 = .ok (.iaload, 1) := by decide +kernel
theorem dc_P_draft_238 : decode cd_P_draft 238 = .ok (.bipush 60, 2) := by decide +kernel
theorem dc_P_draft_240 : decode cd_P_draft 240 = .ok (.if_icmp .gt 7, 3) := by decide +kernel
theorem dc_P_draft_243 : decode cd_P_draft 243 = .ok (.iconst 1, 1) := by decide +kernel
theorem dc_P_draft_244 : decode cd_P_draft 244 = .ok (.goto 4, 3) := by decide +kernel
theorem dc_P_draft_247 : decode cd_P_draft 247 = .ok (.iconst 0, 1) := by decide +kernel
theorem dc_P_draft_248 : decode cd_P_draft 248 = .ok (.ireturn, 1) := by decide +kernel
theorem dc_P_detailFits_0 : decode cd_P_detailFits 0 = .ok (.iload_n 0, 1) := by decide +kernel
theorem dc_P_detailFits_1 : decode cd_P_detailFits 1 = .ok (.tableswitch 131 0 11 #[63, 78, 131, 131, 131, 131, 131, 131, 131, 93, 110, 115], 63) := by decide +kernel
theorem dc_P_detailFits_64 : decode cd_P_detailFits 64 = .ok (.iload_n 1, 1) := by decide +kernel
theorem dc_P_detailFits_65 : decode cd_P_detailFits 65 = .ok (.ifCond .lt 12, 3) := by decide +kernel
theorem dc_P_detailFits_68 : decode cd_P_detailFits 68 = .ok (.iload_n 1, 1) := by decide +kernel
theorem dc_P_detailFits_69 : decode cd_P_detailFits 69 = .ok (.iconst 4, 1) := by decide +kernel
theorem dc_P_detailFits_70 : decode cd_P_detailFits 70 = .ok (.if_icmp .ge 7, 3) := by decide +kernel
theorem dc_P_detailFits_73 : decode cd_P_detailFits 73 = .ok (.iconst 1, 1) := by decide +kernel
theorem dc_P_detailFits_74 : decode cd_P_detailFits 74 = .ok (.goto 4, 3) := by decide +kernel
theorem dc_P_detailFits_77 : decode cd_P_detailFits 77 = .ok (.iconst 0, 1) := by decide +kernel
theorem dc_P_detailFits_78 : decode cd_P_detailFits 78 = .ok (.ireturn, 1) := by decide +kernel
theorem dc_P_detailFits_79 : decode cd_P_detailFits 79 = .ok (.iload_n 1, 1) := by decide +kernel
theorem dc_P_detailFits_80 : decode cd_P_detailFits 80 = .ok (.ifCond .lt 12, 3) := by decide +kernel
theorem dc_P_detailFits_83 : decode cd_P_detailFits 83 = .ok (.iload_n 1, 1) := by decide +kernel
theorem dc_P_detailFits_84 : decode cd_P_detailFits 84 = .ok (.iconst 4, 1) := by decide +kernel
theorem dc_P_detailFits_85 : decode cd_P_detailFits 85 = .ok (.if_icmp .ge 7, 3) := by decide +kernel
theorem dc_P_detailFits_88 : decode cd_P_detailFits 88 = .ok (.iconst 1, 1) := by decide +kernel
theorem dc_P_detailFits_89 : decode cd_P_detailFits 89 = .ok (.goto 4, 3) := by decide +kernel
theorem dc_P_detailFits_92 : decode cd_P_detailFits 92 = .ok (.iconst 0, 1) := by decide +kernel
theorem dc_P_detailFits_93 : decode cd_P_detailFits 93 = .ok (.ireturn, 1) := by decide +kernel
theorem dc_P_detailFits_94 : decode cd_P_detailFits 94 = .ok (.iload_n 1, 1) := by decide +kernel
theorem dc_P_detailFits_95 : decode cd_P_detailFits 95 = .ok (.ifCond .lt 14, 3) := by decide +kernel
theorem dc_P_detailFits_98 : decode cd_P_detailFits 98 = .ok (.iload_n 1, 1) := by decide +kernel
theorem dc_P_detailFits_99 : decode cd_P_detailFits 99 = .ok (.sipush 511, 3) := by decide +kernel
theorem dc_P_detailFits_102 : decode cd_P_detailFits 102 = .ok (.if_icmp .gt 7, 3) := by decide +kernel
theorem dc_P_detailFits_105 : decode cd_P_detailFits 105 = .ok (.iconst 1, 1) := by decide +kernel
theorem dc_P_detailFits_106 : decode cd_P_detailFits 106 = .ok (.goto 4, 3) := by decide +kernel
theorem dc_P_detailFits_109 : decode cd_P_detailFits 109 = .ok (.iconst 0, 1) := by decide +kernel
theorem dc_P_detailFits_110 : decode cd_P_detailFits 110 = .ok (.ireturn, 1) := by decide +kernel
theorem dc_P_detailFits_111 : decode cd_P_detailFits 111 = .ok (.iload_n 1, 1) := by decide +kernel
theorem dc_P_detailFits_112 : decode cd_P_detailFits 112 = .ok (.invokestatic 67, 3) := by decide +kernel
theorem dc_P_detailFits_115 : decode cd_P_detailFits 115 = .ok (.ireturn, 1) := by decide +kernel
theorem dc_P_detailFits_116 : decode cd_P_detailFits 116 = .ok (.iload_n 1, 1) := by decide +kernel
theorem dc_P_detailFits_117 : decode cd_P_detailFits 117 = .ok (.iconst 2, 1) := by decide +kernel
theorem dc_P_detailFits_118 : decode cd_P_detailFits 118 = .ok (.if_icmp .lt 12, 3) := by decide +kernel
theorem dc_P_detailFits_121 : decode cd_P_detailFits 121 = .ok (.iload_n 1, 1) := by decide +kernel
theorem dc_P_detailFits_122 : decode cd_P_detailFits 122 = .ok (.iconst 4, 1) := by decide +kernel
theorem dc_P_detailFits_123 : decode cd_P_detailFits 123 = .ok (.if_icmp .ge 7, 3) := by decide +kernel
theorem dc_P_detailFits_126 : decode cd_P_detailFits 126 = .ok (.iconst 1, 1) := by decide +kernel
theorem dc_P_detailFits_127 : decode cd_P_detailFits 127 = .ok (.goto 4, 3) := by decide +kernel
theorem dc_P_detailFits_130 : decode cd_P_detailFits 130 = .ok (.iconst 0, 1) := by decide +kernel
theorem dc_P_detailFits_131 : decode cd_P_detailFits 131 = .ok (.ireturn, 1) := by decide +kernel
theorem dc_P_detailFits_132 : decode cd_P_detailFits 132 = .ok (.iconst 1, 1) := by decide +kernel
theorem dc_P_detailFits_133 : decode cd_P_detailFits 133 = .ok (.ireturn, 1) := by decide +kernel
theorem dc_P_partsExist_0 : decode cd_P_partsExist 0 = .ok (.iload_n 1, 1) := by decide +kernel
theorem dc_P_partsExist_1 : decode cd_P_partsExist 1 = .ok (.iconst 1, 1) := by decide +kernel
theorem dc_P_partsExist_2 : decode cd_P_partsExist 2 = .ok (.if_icmp .lt 11, 3) := by decide +kernel
theorem dc_P_partsExist_5 : decode cd_P_partsExist 5 = .ok (.aload_n 0, 1) := by decide +kernel
theorem dc_P_partsExist_6 : decode cd_P_partsExist 6 = .ok (.iload_n 2, 1) := by decide +kernel
theorem dc_P_partsExist_7 : decode cd_P_partsExist 7 = .ok (.invokevirtual 71, 3) := by decide +kernel
theorem dc_P_partsExist_10 : decode cd_P_partsExist 10 = .ok (.ifCond .eq 34, 3) := by decide +kernel
theorem dc_P_partsExist_13 : decode cd_P_partsExist 13 = .ok (.iload_n 1, 1) := by decide +kernel
theorem dc_P_partsExist_14 : decode cd_P_partsExist 14 = .ok (.iconst 2, 1) := by decide +kernel
theorem dc_P_partsExist_15 : decode cd_P_partsExist 15 = .ok (.if_icmp .lt 11, 3) := by decide +kernel
theorem dc_P_partsExist_18 : decode cd_P_partsExist 18 = .ok (.aload_n 0, 1) := by decide +kernel
theorem dc_P_partsExist_19 : decode cd_P_partsExist 19 = .ok (.iload_n 3, 1) := by decide +kernel
theorem dc_P_partsExist_20 : decode cd_P_partsExist 20 = .ok (.invokevirtual 71, 3) := by decide +kernel
theorem dc_P_partsExist_23 : decode cd_P_partsExist 23 = .ok (.ifCond .eq 21, 3) := by decide +kernel
theorem dc_P_partsExist_26 : decode cd_P_partsExist 26 = .ok (.iload_n 1, 1) := by decide +kernel
theorem dc_P_partsExist_27 : decode cd_P_partsExist 27 = .ok (.iconst 3, 1) := by decide +kernel
theorem dc_P_partsExist_28 : decode cd_P_partsExist 28 = .ok (.if_icmp .lt 12, 3) := by decide +kernel
theorem dc_P_partsExist_31 : decode cd_P_partsExist 31 = .ok (.aload_n 0, 1) := by decide +kernel
theorem dc_P_partsExist_32 : decode cd_P_partsExist 32 = .ok (.iload 4, 2) := by decide +kernel
theorem dc_P_partsExist_34 : decode cd_P_partsExist 34 = .ok (.invokevirtual 71, 3) := by decide +kernel
theorem dc_P_partsExist_37 : decode cd_P_partsExist 37 = .ok (.ifCond .eq 7, 3) := by decide +kernel
theorem dc_P_partsExist_40 : decode cd_P_partsExist 40 = .ok (.iconst 1, 1) := by decide +kernel
theorem dc_P_partsExist_41 : decode cd_P_partsExist 41 = .ok (.goto 4, 3) := by decide +kernel
theorem dc_P_partsExist_44 : decode cd_P_partsExist 44 = .ok (.iconst 0, 1) := by decide +kernel
theorem dc_P_partsExist_45 : decode cd_P_partsExist 45 = .ok (.ireturn, 1) := by decide +kernel
theorem dc_P_isExpression_0 : decode cd_P_isExpression 0 = .ok (.iload_n 1, 1) := by decide +kernel
theorem dc_P_isExpression_1 : decode cd_P_isExpression 1 = .ok (.ifCond .lt 15, 3) := by decide +kernel
theorem dc_P_isExpression_4 : decode cd_P_isExpression 4 = .ok (.iload_n 1, 1) := by decide +kernel
theorem dc_P_isExpression_5 : decode cd_P_isExpression 5 = .ok (.aload_n 0, 1) := by decide +kernel
theorem dc_P_isExpression_6 : decode cd_P_isExpression 6 = .ok (.getfield 42, 3) := by decide +kernel
theorem dc_P_isExpression_9 : decode cd_P_isExpression 9 = .ok (.if_icmp .ge 7, 3) := by decide +kernel
theorem dc_P_isExpression_12 : decode cd_P_isExpression 12 = .ok (.iconst 1, 1) := by decide +kernel
theorem dc_P_isExpression_13 : decode cd_P_isExpression 13 = .ok (.goto 4, 3) := by decide +kernel
theorem dc_P_isExpression_16 : decode cd_P_isExpression 16 = .ok (.iconst 0, 1) := by decide +kernel
theorem dc_P_isExpression_17 : decode cd_P_isExpression 17 = .ok (.ireturn, 1) := by decide +kernel
theorem dc_P_measure_0 : decode cd_P_measure 0 = .ok (.aload_n 0, 1) := by decide +kernel
theorem dc_P_measure_1 : decode cd_P_measure 1 = .ok (.aload_n 0, 1) := by decide +kernel
theorem dc_P_measure_2 : decode cd_P_measure 2 = .ok (.getfield 18, 3) := by decide +kernel
theorem dc_P_measure_5 : decode cd_P_measure 5 = .ok (.iload_n 1, 1) := by decide +kernel
theorem dc_P_measure_6 : decode cd_P_measure 6 = .ok (.iaload, 1) := by decide +kernel
theorem dc_P_measure_7 : decode cd_P_measure 7 = .ok (.invokevirtual 74, 3) := by decide +kernel
theorem dc_P_measure_10 : decode cd_P_measure 10 = .ok (.aload_n 0, 1) := by decide +kernel
theorem dc_P_measure_11 : decode cd_P_measure 11 = .ok (.aload_n 0, 1) := by decide +kernel
theorem dc_P_measure_12 : decode cd_P_measure 12 = .ok (.getfield 21, 3) := by decide +kernel
theorem dc_P_measure_15 : decode cd_P_measure 15 = .ok (.iload_n 1, 1) := by decide +kernel
theorem dc_P_measure_16 : decode cd_P_measure 16 = .ok (.iaload, 1) := by decide +kernel
theorem dc_P_measure_17 : decode cd_P_measure 17 = .ok (.invokevirtual 74, 3) := by decide +kernel
theorem dc_P_measure_20 : decode cd_P_measure 20 = .ok (.aload_n 0, 1) := by decide +kernel
theorem dc_P_measure_21 : decode cd_P_measure 21 = .ok (.aload_n 0, 1) := by decide +kernel
theorem dc_P_measure_22 : decode cd_P_measure 22 = .ok (.getfield 24, 3) := by decide +kernel
theorem dc_P_measure_25 : decode cd_P_measure 25 = .ok (.iload_n 1, 1) := by decide +kernel
theorem dc_P_measure_26 : decode cd_P_measure 26 = .ok (.iaload, 1) := by decide +kernel
theorem dc_P_measure_27 : decode cd_P_measure 27 = .ok (.invokevirtual 74, 3) := by decide +kernel
theorem dc_P_measure_30 : decode cd_P_measure 30 = .ok (.invokestatic 77, 3) := by decide +kernel
theorem dc_P_measure_33 : decode cd_P_measure 33 = .ok (.invokestatic 77, 3) := by decide +kernel
theorem dc_P_measure_36 : decode cd_P_measure 36 = .ok (.istore_n 2, 1) := by decide +kernel
theorem dc_P_measure_37 : decode cd_P_measure 37 = .ok (.aload_n 0, 1) := by decide +kernel
theorem dc_P_measure_38 : decode cd_P_measure 38 = .ok (.getfield 27, 3) := by decide +kernel
theorem dc_P_measure_41 : decode cd_P_measure 41 = .ok (.iload_n 1, 1) := by decide +kernel
theorem dc_P_measure_42 : decode cd_P_measure 42 = .ok (.iload_n 2, 1) := by decide +kernel
theorem dc_P_measure_43 : decode cd_P_measure 43 = .ok (.iconst 1, 1) := by decide +kernel
theorem dc_P_measure_44 : decode cd_P_measure 44 = .ok (.iadd, 1) := by decide +kernel
theorem dc_P_measure_45 : decode cd_P_measure 45 = .ok (.iastore, 1) := by decide +kernel
theorem dc_P_measure_46 : decode cd_P_measure 46 = .ok (.aload_n 0, 1) := by decide +kernel
theorem dc_P_measure_47 : decode cd_P_measure 47 = .ok (.getfield 30, 3) := by decide +kernel
theorem dc_P_measure_50 : decode cd_P_measure 50 = .ok (.iload_n 1, 1) := by decide +kernel
theorem dc_P_measure_51 : decode cd_P_measure 51 = .ok (.iconst 1, 1) := by decide +kernel
theorem dc_P_measure_52 : decode cd_P_measure 52 = .ok (.aload_n 0, 1) := by decide +kernel
theorem dc_P_measure_53 : decode cd_P_measure 53 = .ok (.aload_n 0, 1) := by decide +kernel
theorem dc_P_measure_54 : decode cd_P_measure 54 = .ok (.getfield 18, 3) := by decide +kernel
theorem dc_P_measure_57 : decode cd_P_measure 57 = .ok (.iload_n 1, 1) := by decide +kernel
theorem dc_P_measure_58 : decode cd_P_measure 58 = .ok (.iaload, 1) := by decide +kernel
theorem dc_P_measure_59 : decode cd_P_measure 59 = .ok (.invokevirtual 83, 3) := by decide +kernel
theorem dc_P_measure_62 : decode cd_P_measure 62 = .ok (.iadd, 1) := by decide +kernel
theorem dc_P_measure_63 : decode cd_P_measure 63 = .ok (.aload_n 0, 1) := by decide +kernel
theorem dc_P_measure_64 : decode cd_P_measure 64 = .ok (.aload_n 0, 1) := by decide +kernel
theorem dc_P_measure_65 : decode cd_P_measure 65 = .ok (.getfield 21, 3) := by decide +kernel
theorem dc_P_measure_68 : decode cd_P_measure 68 = .ok (.iload_n 1, 1) := by decide +kernel
theorem dc_P_measure_69 : decode cd_P_measure 69 = .ok (.iaload, 1) := by decide +kernel
theorem dc_P_measure_70 : decode cd_P_measure 70 = .ok (.invokevirtual 83, 3) := by decide +kernel
theorem dc_P_measure_73 : decode cd_P_measure 73 = .ok (.iadd, 1) := by decide +kernel
theorem dc_P_measure_74 : decode cd_P_measure 74 = .ok (.aload_n 0, 1) := by decide +kernel
theorem dc_P_measure_75 : decode cd_P_measure 75 = .ok (.aload_n 0, 1) := by decide +kernel
theorem dc_P_measure_76 : decode cd_P_measure 76 = .ok (.getfield 24, 3) := by decide +kernel
theorem dc_P_measure_79 : decode cd_P_measure 79 = .ok (.iload_n 1, 1) := by decide +kernel
theorem dc_P_measure_80 : decode cd_P_measure 80 = .ok (.iaload, 1) := by decide +kernel
theorem dc_P_measure_81 : decode cd_P_measure 81 = .ok (.invokevirtual 83, 3) := by decide +kernel
theorem dc_P_measure_84 : decode cd_P_measure 84 = .ok (.iadd, 1) := by decide +kernel
theorem dc_P_measure_85 : decode cd_P_measure 85 = .ok (.iastore, 1) := by decide +kernel
theorem dc_P_measure_86 : decode cd_P_measure 86 = .ok (.return_, 1) := by decide +kernel
theorem dc_P_depthOf_0 : decode cd_P_depthOf 0 = .ok (.iload_n 1, 1) := by decide +kernel
theorem dc_P_depthOf_1 : decode cd_P_depthOf 1 = .ok (.iconst (-1), 1) := by decide +kernel
theorem dc_P_depthOf_2 : decode cd_P_depthOf 2 = .ok (.if_icmp .ne 7, 3) := by decide +kernel
theorem dc_P_depthOf_5 : decode cd_P_depthOf 5 = .ok (.iconst (-1), 1) := by decide +kernel
theorem dc_P_depthOf_6 : decode cd_P_depthOf 6 = .ok (.goto 9, 3) := by decide +kernel
theorem dc_P_depthOf_9 : decode cd_P_depthOf 9 = .ok (.aload_n 0, 1) := by decide +kernel
theorem dc_P_depthOf_10 : decode cd_P_depthOf 10 = .ok (.getfield 27, 3) := by decide +kernel
theorem dc_P_depthOf_13 : decode cd_P_depthOf 13 = .ok (.iload_n 1, 1) := by decide +kernel
theorem dc_P_depthOf_14 : decode cd_P_depthOf 14 = .ok (.iaload, 1) := by decide +kernel
theorem dc_P_depthOf_15 : decode cd_P_depthOf 15 = .ok (.ireturn, 1) := by decide +kernel
theorem dc_P_sizeOf_0 : decode cd_P_sizeOf 0 = .ok (.iload_n 1, 1) := by decide +kernel
theorem dc_P_sizeOf_1 : decode cd_P_sizeOf 1 = .ok (.iconst (-1), 1) := by decide +kernel
theorem dc_P_sizeOf_2 : decode cd_P_sizeOf 2 = .ok (.if_icmp .ne 7, 3) := by decide +kernel
theorem dc_P_sizeOf_5 : decode cd_P_sizeOf 5 = .ok (.iconst 0, 1) := by decide +kernel
theorem dc_P_sizeOf_6 : decode cd_P_sizeOf 6 = .ok (.goto 9, 3) := by decide +kernel
theorem dc_P_sizeOf_9 : decode cd_P_sizeOf 9 = .ok (.aload_n 0, 1) := by decide +kernel
theorem dc_P_sizeOf_10 : decode cd_P_sizeOf 10 = .ok (.getfield 30, 3) := by decide +kernel
theorem dc_P_sizeOf_13 : decode cd_P_sizeOf 13 = .ok (.iload_n 1, 1) := by decide +kernel
theorem dc_P_sizeOf_14 : decode cd_P_sizeOf 14 = .ok (.iaload, 1) := by decide +kernel
theorem dc_P_sizeOf_15 : decode cd_P_sizeOf 15 = .ok (.ireturn, 1) := by decide +kernel
theorem dc_P_isFull_0 : decode cd_P_isFull 0 = .ok (.aload_n 0, 1) := by decide +kernel
theorem dc_P_isFull_1 : decode cd_P_isFull 1 = .ok (.getfield 42, 3) := by decide +kernel
theorem dc_P_isFull_4 : decode cd_P_isFull 4 = .ok (.bipush 90, 2) := by decide +kernel
theorem dc_P_isFull_6 : decode cd_P_isFull 6 = .ok (.if_icmp .lt 7, 3) := by decide +kernel
theorem dc_P_isFull_9 : decode cd_P_isFull 9 = .ok (.iconst 1, 1) := by decide +kernel
theorem dc_P_isFull_10 : decode cd_P_isFull 10 = .ok (.goto 4, 3) := by decide +kernel
theorem dc_P_isFull_13 : decode cd_P_isFull 13 = .ok (.iconst 0, 1) := by decide +kernel
theorem dc_P_isFull_14 : decode cd_P_isFull 14 = .ok (.ireturn, 1) := by decide +kernel
theorem dc_P_keepDraft_0 : decode cd_P_keepDraft 0 = .ok (.aload_n 0, 1) := by decide +kernel
theorem dc_P_keepDraft_1 : decode cd_P_keepDraft 1 = .ok (.getfield 42, 3) := by decide +kernel
theorem dc_P_keepDraft_4 : decode cd_P_keepDraft 4 = .ok (.istore_n 1, 1) := by decide +kernel
theorem dc_P_keepDraft_5 : decode cd_P_keepDraft 5 = .ok (.aload_n 0, 1) := by decide +kernel
theorem dc_P_keepDraft_6 : decode cd_P_keepDraft 6 = .ok (.dup, 1) := by decide +kernel
theorem dc_P_keepDraft_7 : decode cd_P_keepDraft 7 = .ok (.getfield 42, 3) := by decide +kernel
theorem dc_P_keepDraft_10 : decode cd_P_keepDraft 10 = .ok (.iconst 1, 1) := by decide +kernel
theorem dc_P_keepDraft_11 : decode cd_P_keepDraft 11 = .ok (.iadd, 1) := by decide +kernel
theorem dc_P_keepDraft_12 : decode cd_P_keepDraft 12 = .ok (.putfield 42, 3) := by decide +kernel
theorem dc_P_keepDraft_15 : decode cd_P_keepDraft 15 = .ok (.iload_n 1, 1) := by decide +kernel
theorem dc_P_keepDraft_16 : decode cd_P_keepDraft 16 = .ok (.ireturn, 1) := by decide +kernel
theorem dc_P_setBody_0 : decode cd_P_setBody 0 = .ok (.aload_n 0, 1) := by decide +kernel
theorem dc_P_setBody_1 : decode cd_P_setBody 1 = .ok (.getfield 33, 3) := by decide +kernel
theorem dc_P_setBody_4 : decode cd_P_setBody 4 = .ok (.iload_n 1, 1) := by decide +kernel
theorem dc_P_setBody_5 : decode cd_P_setBody 5 = .ok (.iload_n 2, 1) := by decide +kernel
theorem dc_P_setBody_6 : decode cd_P_setBody 6 = .ok (.iastore, 1) := by decide +kernel
theorem dc_P_setBody_7 : decode cd_P_setBody 7 = .ok (.return_, 1) := by decide +kernel
theorem dc_P_countBodies_0 : decode cd_P_countBodies 0 = .ok (.iconst 0, 1) := by decide +kernel
theorem dc_P_countBodies_1 : decode cd_P_countBodies 1 = .ok (.istore_n 1, 1) := by decide +kernel
theorem dc_P_countBodies_2 : decode cd_P_countBodies 2 = .ok (.iconst 0, 1) := by decide +kernel
theorem dc_P_countBodies_3 : decode cd_P_countBodies 3 = .ok (.istore_n 2, 1) := by decide +kernel
theorem dc_P_countBodies_4 : decode cd_P_countBodies 4 = .ok (.iload_n 2, 1) := by decide +kernel
theorem dc_P_countBodies_5 : decode cd_P_countBodies 5 = .ok (.bipush 6, 2) := by decide +kernel
theorem dc_P_countBodies_7 : decode cd_P_countBodies 7 = .ok (.if_icmp .ge 22, 3) := by decide +kernel
theorem dc_P_countBodies_10 : decode cd_P_countBodies 10 = .ok (.aload_n 0, 1) := by decide +kernel
theorem dc_P_countBodies_11 : decode cd_P_countBodies 11 = .ok (.getfield 33, 3) := by decide +kernel
theorem dc_P_countBodies_14 : decode cd_P_countBodies 14 = .ok (.iload_n 2, 1) := by decide +kernel
theorem dc_P_countBodies_15 : decode cd_P_countBodies 15 = .ok (.iaload, 1) := by decide +kernel
theorem dc_P_countBodies_16 : decode cd_P_countBodies 16 = .ok (.iconst (-1), 1) := by decide +kernel
theorem dc_P_countBodies_17 : decode cd_P_countBodies 17 = .ok (.if_icmp .eq 6, 3) := by decide +kernel
theorem dc_P_countBodies_20 : decode cd_P_countBodies 20 = .ok (.iinc 1 1, 3) := by decide +kernel
theorem dc_P_countBodies_23 : decode cd_P_countBodies 23 = .ok (.iinc 2 1, 3) := by decide +kernel
theorem dc_P_countBodies_26 : decode cd_P_countBodies 26 = .ok (.goto (-22), 3) := by decide +kernel
theorem dc_P_countBodies_29 : decode cd_P_countBodies 29 = .ok (.iload_n 1, 1) := by decide +kernel
theorem dc_P_countBodies_30 : decode cd_P_countBodies 30 = .ok (.ireturn, 1) := by decide +kernel
