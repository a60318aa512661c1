theorem dc_M_init_0 : decode cd_M_init 0 = .ok (.aload_n 0, 1) := by decide +kernel
theorem dc_M_init_1 : decode cd_M_init 1 = .ok (.invokespecial 1, 3) := by decide +kernel
theorem dc_M_init_4 : decode cd_M_init 4 = .ok (.aload_n 0, 1) := by decide +kernel
theorem dc_M_init_5 : decode cd_M_init 5 = .ok (.bipush 90, 2) := by decide +kernel
theorem dc_M_init_7 : decode cd_M_init 7 = .ok (.newarray .int, 2) := by decide +kernel
theorem dc_M_init_9 : decode cd_M_init 9 = .ok (.putfield 7, 3) := by decide +kernel
theorem dc_M_init_12 : decode cd_M_init 12 = .ok (.aload_n 0, 1) := by decide +kernel
theorem dc_M_init_13 : decode cd_M_init 13 = .ok (.bipush 90, 2) := by decide +kernel
theorem dc_M_init_15 : decode cd_M_init 15 = .ok (.newarray .int, 2) := by decide +kernel
theorem dc_M_init_17 : decode cd_M_init 17 = .ok (.putfield 13, 3) := by decide +kernel
theorem dc_M_init_20 : decode cd_M_init 20 = .ok (.aload_n 0, 1) := by decide +kernel
theorem dc_M_init_21 : decode cd_M_init 21 = .ok (.bipush 90, 2) := by decide +kernel
theorem dc_M_init_23 : decode cd_M_init 23 = .ok (.newarray .int, 2) := by decide +kernel
theorem dc_M_init_25 : decode cd_M_init 25 = .ok (.putfield 16, 3) := by decide +kernel
theorem dc_M_init_28 : decode cd_M_init 28 = .ok (.aload_n 0, 1) := by decide +kernel
theorem dc_M_init_29 : decode cd_M_init 29 = .ok (.bipush 90, 2) := by decide +kernel
theorem dc_M_init_31 : decode cd_M_init 31 = .ok (.newarray .int, 2) := by decide +kernel
theorem dc_M_init_33 : decode cd_M_init 33 = .ok (.putfield 19, 3) := by decide +kernel
theorem dc_M_init_36 : decode cd_M_init 36 = .ok (.aload_n 0, 1) := by decide +kernel
theorem dc_M_init_37 : decode cd_M_init 37 = .ok (.bipush 90, 2) := by decide +kernel
theorem dc_M_init_39 : decode cd_M_init 39 = .ok (.newarray .int, 2) := by decide +kernel
theorem dc_M_init_41 : decode cd_M_init 41 = .ok (.putfield 22, 3) := by decide +kernel
theorem dc_M_init_44 : decode cd_M_init 44 = .ok (.aload_n 0, 1) := by decide +kernel
theorem dc_M_init_45 : decode cd_M_init 45 = .ok (.bipush 90, 2) := by decide +kernel
theorem dc_M_init_47 : decode cd_M_init 47 = .ok (.newarray .int, 2) := by decide +kernel
theorem dc_M_init_49 : decode cd_M_init 49 = .ok (.putfield 25, 3) := by decide +kernel
theorem dc_M_init_52 : decode cd_M_init 52 = .ok (.aload_n 0, 1) := by decide +kernel
theorem dc_M_init_53 : decode cd_M_init 53 = .ok (.bipush 90, 2) := by decide +kernel
theorem dc_M_init_55 : decode cd_M_init 55 = .ok (.newarray .int, 2) := by decide +kernel
theorem dc_M_init_57 : decode cd_M_init 57 = .ok (.putfield 28, 3) := by decide +kernel
theorem dc_M_init_60 : decode cd_M_init 60 = .ok (.aload_n 0, 1) := by decide +kernel
theorem dc_M_init_61 : decode cd_M_init 61 = .ok (.bipush 6, 2) := by decide +kernel
theorem dc_M_init_63 : decode cd_M_init 63 = .ok (.newarray .int, 2) := by decide +kernel
theorem dc_M_init_65 : decode cd_M_init 65 = .ok (.putfield 31, 3) := by decide +kernel
theorem dc_M_init_68 : decode cd_M_init 68 = .ok (.aload_n 0, 1) := by decide +kernel
theorem dc_M_init_69 : decode cd_M_init 69 = .ok (.bipush 12, 2) := by decide +kernel
theorem dc_M_init_71 : decode cd_M_init 71 = .ok (.newarray .int, 2) := by decide +kernel
theorem dc_M_init_73 : decode cd_M_init 73 = .ok (.putfield 34, 3) := by decide +kernel
theorem dc_M_init_76 : decode cd_M_init 76 = .ok (.aload_n 0, 1) := by decide +kernel
theorem dc_M_init_77 : decode cd_M_init 77 = .ok (.bipush 6, 2) := by decide +kernel
theorem dc_M_init_79 : decode cd_M_init 79 = .ok (.newarray .int, 2) := by decide +kernel
theorem dc_M_init_81 : decode cd_M_init 81 = .ok (.putfield 37, 3) := by decide +kernel
theorem dc_M_init_84 : decode cd_M_init 84 = .ok (.aload_n 0, 1) := by decide +kernel
theorem dc_M_init_85 : decode cd_M_init 85 = .ok (.bipush 90, 2) := by decide +kernel
theorem dc_M_init_87 : decode cd_M_init 87 = .ok (.newarray .boolean, 2) := by decide +kernel
theorem dc_M_init_89 : decode cd_M_init 89 = .ok (.putfield 40, 3) := by decide +kernel
theorem dc_M_init_92 : decode cd_M_init 92 = .ok (.aload_n 0, 1) := by decide +kernel
theorem dc_M_init_93 : decode cd_M_init 93 = .ok (.bipush 90, 2) := by decide +kernel
theorem dc_M_init_95 : decode cd_M_init 95 = .ok (.newarray .boolean, 2) := by decide +kernel
theorem dc_M_init_97 : decode cd_M_init 97 = .ok (.putfield 44, 3) := by decide +kernel
theorem dc_M_init_100 : decode cd_M_init 100 = .ok (.aload_n 0, 1) := by decide +kernel
theorem dc_M_init_101 : decode cd_M_init 101 = .ok (.bipush 64, 2) := by decide +kernel
theorem dc_M_init_103 : decode cd_M_init 103 = .ok (.newarray .int, 2) := by decide +kernel
theorem dc_M_init_105 : decode cd_M_init 105 = .ok (.putfield 47, 3) := by decide +kernel
theorem dc_M_init_108 : decode cd_M_init 108 = .ok (.aload_n 0, 1) := by decide +kernel
theorem dc_M_init_109 : decode cd_M_init 109 = .ok (.bipush 64, 2) := by decide +kernel
theorem dc_M_init_111 : decode cd_M_init 111 = .ok (.newarray .int, 2) := by decide +kernel
theorem dc_M_init_113 : decode cd_M_init 113 = .ok (.putfield 50, 3) := by decide +kernel
theorem dc_M_init_116 : decode cd_M_init 116 = .ok (.aload_n 0, 1) := by decide +kernel
theorem dc_M_init_117 : decode cd_M_init 117 = .ok (.sipush 256, 3) := by decide +kernel
theorem dc_M_init_120 : decode cd_M_init 120 = .ok (.newarray .int, 2) := by decide +kernel
theorem dc_M_init_122 : decode cd_M_init 122 = .ok (.putfield 53, 3) := by decide +kernel
theorem dc_M_init_125 : decode cd_M_init 125 = .ok (.aload_n 0, 1) := by decide +kernel
theorem dc_M_init_126 : decode cd_M_init 126 = .ok (.sipush 128, 3) := by decide +kernel
theorem dc_M_init_129 : decode cd_M_init 129 = .ok (.newarray .int, 2) := by decide +kernel
theorem dc_M_init_131 : decode cd_M_init 131 = .ok (.putfield 56, 3) := by decide +kernel
theorem dc_M_init_134 : decode cd_M_init 134 = .ok (.aload_n 0, 1) := by decide +kernel
theorem dc_M_init_135 : decode cd_M_init 135 = .ok (.sipush 460, 3) := by decide +kernel
theorem dc_M_init_138 : decode cd_M_init 138 = .ok (.newarray .int, 2) := by decide +kernel
theorem dc_M_init_140 : decode cd_M_init 140 = .ok (.putfield 59, 3) := by decide +kernel
theorem dc_M_init_143 : decode cd_M_init 143 = .ok (.aload_n 0, 1) := by decide +kernel
theorem dc_M_init_144 : decode cd_M_init 144 = .ok (.sipush 460, 3) := by decide +kernel
theorem dc_M_init_147 : decode cd_M_init 147 = .ok (.newarray .int, 2) := by decide +kernel
theorem dc_M_init_149 : decode cd_M_init 149 = .ok (.putfield 62, 3) := by decide +kernel
theorem dc_M_init_152 : decode cd_M_init 152 = .ok (.aload_n 0, 1) := by decide +kernel
theorem dc_M_init_153 : decode cd_M_init 153 = .ok (.sipush 460, 3) := by decide +kernel
theorem dc_M_init_156 : decode cd_M_init 156 = .ok (.newarray .int, 2) := by decide +kernel
theorem dc_M_init_158 : decode cd_M_init 158 = .ok (.putfield 65, 3) := by decide +kernel
theorem dc_M_init_161 : decode cd_M_init 161 = .ok (.aload_n 0, 1) := by decide +kernel
theorem dc_M_init_162 : decode cd_M_init 162 = .ok (.sipush 460, 3) := by decide +kernel
theorem dc_M_init_165 : decode cd_M_init 165 = .ok (.newarray .int, 2) := by decide +kernel
theorem dc_M_init_167 : decode cd_M_init 167 = .ok (.putfield 68, 3) := by decide +kernel
theorem dc_M_init_170 : decode cd_M_init 170 = .ok (.aload_n 0, 1) := by decide +kernel
theorem dc_M_init_171 : decode cd_M_init 171 = .ok (.sipush 400, 3) := by decide +kernel
theorem dc_M_init_174 : decode cd_M_init 174 = .ok (.newarray .int, 2) := by decide +kernel
theorem dc_M_init_176 : decode cd_M_init 176 = .ok (.putfield 71, 3) := by decide +kernel
theorem dc_M_init_179 : decode cd_M_init 179 = .ok (.aload_n 0, 1) := by decide +kernel
theorem dc_M_init_180 : decode cd_M_init 180 = .ok (.sipush 400, 3) := by decide +kernel
theorem dc_M_init_183 : decode cd_M_init 183 = .ok (.newarray .int, 2) := by decide +kernel
theorem dc_M_init_185 : decode cd_M_init 185 = .ok (.putfield 74, 3) := by decide +kernel
theorem dc_M_init_188 : decode cd_M_init 188 = .ok (.aload_n 0, 1) := by decide +kernel
theorem dc_M_init_189 : decode cd_M_init 189 = .ok (.bipush 60, 2) := by decide +kernel
theorem dc_M_init_191 : decode cd_M_init 191 = .ok (.newarray .int, 2) := by decide +kernel
theorem dc_M_init_193 : decode cd_M_init 193 = .ok (.putfield 77, 3) := by decide +kernel
theorem dc_M_init_196 : decode cd_M_init 196 = .ok (.iconst 0, 1) := by decide +kernel
theorem dc_M_init_197 : decode cd_M_init 197 = .ok (.istore_n 1, 1) := by decide +kernel
theorem dc_M_init_198 : decode cd_M_init 198 = .ok (.iload_n 1, 1) := by decide +kernel
theorem dc_M_init_199 : decode cd_M_init 199 = .ok (.bipush 6, 2) := by decide +kernel
theorem dc_M_init_201 : decode cd_M_init 201 = .ok (.if_icmp .ge 16, 3) := by decide +kernel
theorem dc_M_init_204 : decode cd_M_init 204 = .ok (.aload_n 0, 1) := by decide +kernel
theorem dc_M_init_205 : decode cd_M_init 205 = .ok (.getfield 31, 3) := by decide +kernel
theorem dc_M_init_208 : decode cd_M_init 208 = .ok (.iload_n 1, 1) := by decide +kernel
theorem dc_M_init_209 : decode cd_M_init 209 = .ok (.iconst (-1), 1) := by decide +kernel
theorem dc_M_init_210 : decode cd_M_init 210 = .ok (.iastore, 1) := by decide +kernel
theorem dc_M_init_211 : decode cd_M_init 211 = .ok (.iinc 1 1, 3) := by decide +kernel
theorem dc_M_init_214 : decode cd_M_init 214 = .ok (.goto (-16), 3) := by decide +kernel
theorem dc_M_init_217 : decode cd_M_init 217 = .ok (.return_, 1) := by decide +kernel
theorem dc_M_thrown_0 : decode cd_M_thrown 0 = .ok (.aload_n 0, 1) := by decide +kernel
theorem dc_M_thrown_1 : decode cd_M_thrown 1 = .ok (.getfield 80, 3) := by decide +kernel
theorem dc_M_thrown_4 : decode cd_M_thrown 4 = .ok (.ireturn, 1) := by decide +kernel
theorem dc_M_make_0 : decode cd_M_make 0 = .ok (.aload_n 0, 1) := by decide +kernel
theorem dc_M_make_1 : decode cd_M_make 1 = .ok (.iload_n 1, 1) := by decide +kernel
theorem dc_M_make_2 : decode cd_M_make 2 = .ok (.iload_n 2, 1) := by decide +kernel
theorem dc_M_make_3 : decode cd_M_make 3 = .ok (.iload_n 3, 1) := by decide +kernel
theorem dc_M_make_4 : decode cd_M_make 4 = .ok (.invokestatic 95, 3) := by decide +kernel
theorem dc_M_make_7 : decode cd_M_make 7 = .ok (.ifCond .eq 7, 3) := by decide +kernel
theorem dc_M_make_10 : decode cd_M_make 10 = .ok (.iconst 0, 1) := by decide +kernel
theorem dc_M_make_11 : decode cd_M_make 11 = .ok (.goto 4, 3) := by decide +kernel
theorem dc_M_make_14 : decode cd_M_make 14 = .ok (.iconst 1, 1) := by decide +kernel
theorem dc_M_make_15 : decode cd_M_make 15 = .ok (.putfield 80, 3) := by decide +kernel
theorem dc_M_make_18 : decode cd_M_make 18 = .ok (.iconst 0, 1) := by decide +kernel
theorem dc_M_make_19 : decode cd_M_make 19 = .ok (.istore 6, 2) := by decide +kernel
theorem dc_M_make_21 : decode cd_M_make 21 = .ok (.iconst 1, 1) := by decide +kernel
theorem dc_M_make_22 : decode cd_M_make 22 = .ok (.istore 7, 2) := by decide +kernel
theorem dc_M_make_24 : decode cd_M_make 24 = .ok (.iconst 0, 1) := by decide +kernel
theorem dc_M_make_25 : decode cd_M_make 25 = .ok (.istore 8, 2) := by decide +kernel
theorem dc_M_make_27 : decode cd_M_make 27 = .ok (.iload 8, 2) := by decide +kernel
theorem dc_M_make_29 : decode cd_M_make 29 = .ok (.iconst 4, 1) := by decide +kernel
theorem dc_M_make_30 : decode cd_M_make 30 = .ok (.if_icmp .ge 101, 3) := by decide +kernel
theorem dc_M_make_33 : decode cd_M_make 33 = .ok (.aload_n 0, 1) := by decide +kernel
theorem dc_M_make_34 : decode cd_M_make 34 = .ok (.getfield 80, 3) := by decide +kernel
theorem dc_M_make_37 : decode cd_M_make 37 = .ok (.ifCond .ne 94, 3) := by decide +kernel
theorem dc_M_make_40 : decode cd_M_make 40 = .ok (.iload_n 1, 1) := by decide +kernel
theorem dc_M_make_41 : decode cd_M_make 41 = .ok (.iload_n 2, 1) := by decide +kernel
theorem dc_M_make_42 : decode cd_M_make 42 = .ok (.invokestatic 99, 3) := by decide +kernel
theorem dc_M_make_45 : decode cd_M_make 45 = .ok (.iload 8, 2) := by decide +kernel
theorem dc_M_make_47 : decode cd_M_make 47 = .ok (.ishr, 1) := by decide +kernel
theorem dc_M_make_48 : decode cd_M_make 48 = .ok (.iconst 1, 1) := by decide +kernel
theorem dc_M_make_49 : decode cd_M_make 49 = .ok (.iand, 1) := by decide +kernel
theorem dc_M_make_50 : decode cd_M_make 50 = .ok (.iconst 1, 1) := by decide +kernel
theorem dc_M_make_51 : decode cd_M_make 51 = .ok (.if_icmp .ne 74, 3) := by decide +kernel
theorem dc_M_make_54 : decode cd_M_make 54 = .ok (.iload 8, 2) := by decide +kernel
theorem dc_M_make_56 : decode cd_M_make 56 = .ok (.iload_n 2, 1) := by decide +kernel
theorem dc_M_make_57 : decode cd_M_make 57 = .ok (.iload_n 3, 1) := by decide +kernel
theorem dc_M_make_58 : decode cd_M_make 58 = .ok (.iload 4, 2) := by decide +kernel
theorem dc_M_make_60 : decode cd_M_make 60 = .ok (.iload 5, 2) := by decide +kernel
theorem dc_M_make_62 : decode cd_M_make 62 = .ok (.invokestatic 103, 3) := by decide +kernel
theorem dc_M_make_65 : decode cd_M_make 65 = .ok (.istore 9, 2) := by decide +kernel
theorem dc_M_make_67 : decode cd_M_make 67 = .ok (.aload_n 0, 1) := by decide +kernel
theorem dc_M_make_68 : decode cd_M_make 68 = .ok (.iload 9, 2) := by decide +kernel
theorem dc_M_make_70 : decode cd_M_make 70 = .ok (.invokevirtual 107, 3) := by decide +kernel
theorem dc_M_make_73 : decode cd_M_make 73 = .ok (.ifCond .ne 10, 3) := by decide +kernel
theorem dc_M_make_76 : decode cd_M_make 76 = .ok (.aload_n 0, 1) := by decide +kernel
theorem dc_M_make_77 : decode cd_M_make 77 = .ok (.iconst 1, 1) := by decide +kernel
theorem dc_M_make_78 : decode cd_M_make 78 = .ok (.putfield 80, 3) := by decide +kernel
theorem dc_M_make_81 : decode cd_M_make 81 = .ok (.iconst 0, 1) := by decide +kernel
theorem dc_M_make_82 : decode cd_M_make 82 = .ok (.ireturn, 1) := by decide +kernel
theorem dc_M_make_83 : decode cd_M_make 83 = .ok (.aload_n 0, 1) := by decide +kernel
theorem dc_M_make_84 : decode cd_M_make 84 = .ok (.getfield 25, 3) := by decide +kernel
theorem dc_M_make_87 : decode cd_M_make 87 = .ok (.iload 9, 2) := by decide +kernel
theorem dc_M_make_89 : decode cd_M_make 89 = .ok (.iaload, 1) := by decide +kernel
theorem dc_M_make_90 : decode cd_M_make 90 = .ok (.iconst 1, 1) := by decide +kernel
theorem dc_M_make_91 : decode cd_M_make 91 = .ok (.iadd, 1) := by decide +kernel
theorem dc_M_make_92 : decode cd_M_make 92 = .ok (.iload 6, 2) := by decide +kernel
theorem dc_M_make_94 : decode cd_M_make 94 = .ok (.if_icmp .le 15, 3) := by decide +kernel
theorem dc_M_make_97 : decode cd_M_make 97 = .ok (.aload_n 0, 1) := by decide +kernel
theorem dc_M_make_98 : decode cd_M_make 98 = .ok (.getfield 25, 3) := by decide +kernel
theorem dc_M_make_101 : decode cd_M_make 101 = .ok (.iload 9, 2) := by decide +kernel
theorem dc_M_make_103 : decode cd_M_make 103 = .ok (.iaload, 1) := by decide +kernel
theorem dc_M_make_104 : decode cd_M_make 104 = .ok (.iconst 1, 1) := by decide +kernel
theorem dc_M_make_105 : decode cd_M_make 105 = .ok (.iadd, 1) := by decide +kernel
theorem dc_M_make_106 : decode cd_M_make 106 = .ok (.goto 5, 3) := by decide +kernel
theorem dc_M_make_109 : decode cd_M_make 109 = .ok (.iload 6, 2) := by decide +kernel
theorem dc_M_make_111 : decode cd_M_make 111 = .ok (.istore 6, 2) := by decide +kernel
theorem dc_M_make_113 : decode cd_M_make 113 = .ok (.iload 7, 2) := by decide +kernel
theorem dc_M_make_115 : decode cd_M_make 115 = .ok (.aload_n 0, 1) := by decide +kernel
theorem dc_M_make_116 : decode cd_M_make 116 = .ok (.getfield 28, 3) := by decide +kernel
theorem dc_M_make_119 : decode cd_M_make 119 = .ok (.iload 9, 2) := by decide +kernel
theorem dc_M_make_121 : decode cd_M_make 121 = .ok (.iaload, 1) := by decide +kernel
theorem dc_M_make_122 : decode cd_M_make 122 = .ok (.iadd, 1) := by decide +kernel
theorem dc_M_make_123 : decode cd_M_make 123 = .ok (.istore 7, 2) := by decide +kernel
theorem dc_M_make_125 : decode cd_M_make 125 = .ok (.iinc 8 1, 3) := by decide +kernel
theorem dc_M_make_128 : decode cd_M_make 128 = .ok (.goto (-101), 3) := by decide +kernel
theorem dc_M_make_131 : decode cd_M_make 131 = .ok (.aload_n 0, 1) := by decide +kernel
theorem dc_M_make_132 : decode cd_M_make 132 = .ok (.aload_n 0, 1) := by decide +kernel
theorem dc_M_make_133 : decode cd_M_make 133 = .ok (.getfield 80, 3) := by decide +kernel
theorem dc_M_make_136 : decode cd_M_make 136 = .ok (.ifCond .ne 16, 3) := by decide +kernel
theorem dc_M_make_139 : decode cd_M_make 139 = .ok (.iload 6, 2) := by decide +kernel
theorem dc_M_make_141 : decode cd_M_make 141 = .ok (.iconst 5, 1) := by decide +kernel
theorem dc_M_make_142 : decode cd_M_make 142 = .ok (.if_icmp .gt 10, 3) := by decide +kernel
theorem dc_M_make_145 : decode cd_M_make 145 = .ok (.iload 7, 2) := by decide +kernel
theorem dc_M_make_147 : decode cd_M_make 147 = .ok (.bipush 60, 2) := by decide +kernel
theorem dc_M_make_149 : decode cd_M_make 149 = .ok (.if_icmp .le 7, 3) := by decide +kernel
theorem dc_M_make_152 : decode cd_M_make 152 = .ok (.iconst 1, 1) := by decide +kernel
theorem dc_M_make_153 : decode cd_M_make 153 = .ok (.goto 17, 3) := by decide +kernel
theorem dc_M_make_156 : decode cd_M_make 156 = .ok (.aload_n 0, 1) := by decide +kernel
theorem dc_M_make_157 : decode cd_M_make 157 = .ok (.getfield 84, 3) := by decide +kernel
theorem dc_M_make_160 : decode cd_M_make 160 = .ok (.bipush 90, 2) := by decide +kernel
theorem dc_M_make_162 : decode cd_M_make 162 = .ok (.if_icmp .ne 7, 3) := by decide +kernel
theorem dc_M_make_165 : decode cd_M_make 165 = .ok (.iconst 2, 1) := by decide +kernel
theorem dc_M_make_166 : decode cd_M_make 166 = .ok (.goto 4, 3) := by decide +kernel
theorem dc_M_make_169 : decode cd_M_make 169 = .ok (.iconst 0, 1) := by decide +kernel
theorem dc_M_make_170 : decode cd_M_make 170 = .ok (.putfield 80, 3) := by decide +kernel
theorem dc_M_make_173 : decode cd_M_make 173 = .ok (.aload_n 0, 1) := by decide +kernel
theorem dc_M_make_174 : decode cd_M_make 174 = .ok (.getfield 80, 3) := by decide +kernel
theorem dc_M_make_177 : decode cd_M_make 177 = .ok (.ifCond .eq 5, 3) := by decide +kernel
theorem dc_M_make_180 : decode cd_M_make 180 = .ok (.iconst 0, 1) := by decide +kernel
theorem dc_M_make_181 : decode cd_M_make 181 = .ok (.ireturn, 1) := by decide +kernel
theorem dc_M_make_182 : decode cd_M_make 182 = .ok (.aload_n 0, 1) := by decide +kernel
theorem dc_M_make_183 : decode cd_M_make 183 = .ok (.getfield 7, 3) := by decide +kernel
theorem dc_M_make_186 : decode cd_M_make 186 = .ok (.aload_n 0, 1) := by decide +kernel
theorem dc_M_make_187 : decode cd_M_make 187 = .ok (.getfield 84, 3) := by decide +kernel
theorem dc_M_make_190 : decode cd_M_make 190 = .ok (.iload_n 1, 1) := by decide +kernel
theorem dc_M_make_191 : decode cd_M_make 191 = .ok (.iastore, 1) := by decide +kernel
theorem dc_M_make_192 : decode cd_M_make 192 = .ok (.aload_n 0, 1) := by decide +kernel
theorem dc_M_make_193 : decode cd_M_make 193 = .ok (.getfield 13, 3) := by decide +kernel
theorem dc_M_make_196 : decode cd_M_make 196 = .ok (.aload_n 0, 1) := by decide +kernel
theorem dc_M_make_197 : decode cd_M_make 197 = .ok (.getfield 84, 3) := by decide +kernel
theorem dc_M_make_200 : decode cd_M_make 200 = .ok (.iload_n 2, 1) := by decide +kernel
theorem dc_M_make_201 : decode cd_M_make 201 = .ok (.iastore, 1) := by decide +kernel
theorem dc_M_make_202 : decode cd_M_make 202 = .ok (.aload_n 0, 1) := by decide +kernel
theorem dc_M_make_203 : decode cd_M_make 203 = .ok (.getfield 16, 3) := by decide +kernel
theorem dc_M_make_206 : decode cd_M_make 206 = .ok (.aload_n 0, 1) := by decide +kernel
theorem dc_M_make_207 : decode cd_M_make 207 = .ok (.getfield 84, 3) := by decide +kernel
theorem dc_M_make_210 : decode cd_M_make 210 = .ok (.iload_n 3, 1) := by decide +kernel
theorem dc_M_make_211 : decode cd_M_make 211 = .ok (.iastore, 1) := by decide +kernel
theorem dc_M_make_212 : decode cd_M_make 212 = .ok (.aload_n 0, 1) := by decide +kernel
theorem dc_M_make_213 : decode cd_M_make 213 = .ok (.getfield 19, 3) := by decide +kernel
theorem dc_M_make_216 : decode cd_M_make 216 = .ok (.aload_n 0, 1) := by decide +kernel
theorem dc_M_make_217 : decode cd_M_make 217 = .ok (.getfield 84, 3) := by decide +kernel
theorem dc_M_make_220 : decode cd_M_make 220 = .ok (.iload 4, 2) := by decide +kernel
theorem dc_M_make_222 : decode cd_M_make 222 = .ok (.iastore, 1) := by decide +kernel
theorem dc_M_make_223 : decode cd_M_make 223 = .ok (.aload_n 0, 1) := by decide +kernel
theorem dc_M_make_224 : decode cd_M_make 224 = .ok (.getfield 22, 3) := by decide +kernel
theorem dc_M_make_227 : decode cd_M_make 227 = .ok (.aload_n 0, 1) := by decide +kernel
theorem dc_M_make_228 : decode cd_M_make 228 = .ok (.getfield 84, 3) := by decide +kernel
theorem dc_M_make_231 : decode cd_M_make 231 = .ok (.iload 5, 2) := by decide +kernel
theorem dc_M_make_233 : decode cd_M_make 233 = .ok (.iastore, 1) := by decide +kernel
theorem dc_M_make_234 : decode cd_M_make 234 = .ok (.aload_n 0, 1) := by decide +kernel
theorem dc_M_make_235 : decode cd_M_make 235 = .ok (.getfield 25, 3) := by decide +kernel
theorem dc_M_make_238 : decode cd_M_make 238 = .ok (.aload_n 0, 1) := by decide +kernel
theorem dc_M_make_239 : decode cd_M_make 239 = .ok (.getfield 84, 3) := by decide +kernel
theorem dc_M_make_242 : decode cd_M_make 242 = .ok (.iload 6, 2) := by decide +kernel
theorem dc_M_make_244 : decode cd_M_make 244 = .ok (.iastore, 1) := by decide +kernel
theorem dc_M_make_245 : decode cd_M_make 245 = .ok (.aload_n 0, 1) := by decide +kernel
theorem dc_M_make_246 : decode cd_M_make 246 = .ok (.getfield 28, 3) := by decide +kernel
theorem dc_M_make_249 : decode cd_M_make 249 = .ok (.aload_n 0, 1) := by decide +kernel
theorem dc_M_make_250 : decode cd_M_make 250 = .ok (.getfield 84, 3) := by decide +kernel
theorem dc_M_make_253 : decode cd_M_make 253 = .ok (.iload 7, 2) := by decide +kernel
theorem dc_M_make_255 : decode cd_M_make 255 = .ok (.iastore, 1) := by decide +kernel
theorem dc_M_make_256 : decode cd_M_make 256 = .ok (.aload_n 0, 1) := by decide +kernel
theorem dc_M_make_257 : decode cd_M_make 257 = .ok (.dup, 1) := by decide +kernel
theorem dc_M_make_258 : decode cd_M_make 258 = .ok (.getfield 84, 3) := by decide +kernel
theorem dc_M_make_261 : decode cd_M_make 261 = .ok (.iconst 1, 1) := by decide +kernel
theorem dc_M_make_262 : decode cd_M_make 262 = .ok (.iadd, 1) := by decide +kernel
theorem dc_M_make_263 : decode cd_M_make 263 = .ok (.putfield 84, 3) := by decide +kernel
theorem dc_M_make_266 : decode cd_M_make 266 = .ok (.aload_n 0, 1) := by decide +kernel
theorem dc_M_make_267 : decode cd_M_make 267 = .ok (.getfield 84, 3) := by decide +kernel
theorem dc_M_make_270 : decode cd_M_make 270 = .ok (.iconst 1, 1) := by decide +kernel
theorem dc_M_make_271 : decode cd_M_make 271 = .ok (.isub, 1) := by decide +kernel
theorem dc_M_make_272 : decode cd_M_make 272 = .ok (.ireturn, 1) := by decide +kernel
theorem dc_M_isSaid_0 : decode cd_M_isSaid 0 = .ok (.iload_n 0, 1) := by decide +kernel
theorem dc_M_isSaid_1 : decode cd_M_isSaid 1 = .ok (.tableswitch 123 0 11 #[63, 63, 123, 123, 123, 123, 123, 123, 123, 77, 93, 107], 63) := by decide +kernel
theorem dc_M_isSaid_64 : decode cd_M_isSaid 64 = .ok (.iload_n 1, 1) := by decide +kernel
theorem dc_M_isSaid_65 : decode cd_M_isSaid 65 = .ok (.iconst 3, 1) := by decide +kernel
theorem dc_M_isSaid_66 : decode cd_M_isSaid 66 = .ok (.invokestatic 87, 3) := by decide +kernel
theorem dc_M_isSaid_69 : decode cd_M_isSaid 69 = .ok (.ifCond .ne 7, 3) := by decide +kernel
theorem dc_M_isSaid_72 : decode cd_M_isSaid 72 = .ok (.iconst 1, 1) := by decide +kernel
theorem dc_M_isSaid_73 : decode cd_M_isSaid 73 = .ok (.goto 4, 3) := by decide +kernel
theorem dc_M_isSaid_76 : decode cd_M_isSaid 76 = .ok (.iconst 0, 1) := by decide +kernel
theorem dc_M_isSaid_77 : decode cd_M_isSaid 77 = .ok (.ireturn, 1) := by decide +kernel
theorem dc_M_isSaid_78 : decode cd_M_isSaid 78 = .ok (.iload_n 2, 1) := by decide +kernel
theorem dc_M_isSaid_79 : decode cd_M_isSaid 79 = .ok (.sipush 511, 3) := by decide +kernel
theorem dc_M_isSaid_82 : decode cd_M_isSaid 82 = .ok (.invokestatic 87, 3) := by decide +kernel
theorem dc_M_isSaid_85 : decode cd_M_isSaid 85 = .ok (.ifCond .ne 7, 3) := by decide +kernel
theorem dc_M_isSaid_88 : decode cd_M_isSaid 88 = .ok (.iconst 1, 1) := by decide +kernel
theorem dc_M_isSaid_89 : decode cd_M_isSaid 89 = .ok (.goto 4, 3) := by decide +kernel
theorem dc_M_isSaid_92 : decode cd_M_isSaid 92 = .ok (.iconst 0, 1) := by decide +kernel
theorem dc_M_isSaid_93 : decode cd_M_isSaid 93 = .ok (.ireturn, 1) := by decide +kernel
theorem dc_M_isSaid_94 : decode cd_M_isSaid 94 = .ok (.iload_n 1, 1) := by decide +kernel
theorem dc_M_isSaid_95 : decode cd_M_isSaid 95 = .ok (.iconst 5, 1) := by decide +kernel
theorem dc_M_isSaid_96 : decode cd_M_isSaid 96 = .ok (.invokestatic 87, 3) := by decide +kernel
theorem dc_M_isSaid_99 : decode cd_M_isSaid 99 = .ok (.ifCond .ne 7, 3) := by decide +kernel
theorem dc_M_isSaid_102 : decode cd_M_isSaid 102 = .ok (.iconst 1, 1) := by decide +kernel
theorem dc_M_isSaid_103 : decode cd_M_isSaid 103 = .ok (.goto 4, 3) := by decide +kernel
theorem dc_M_isSaid_106 : decode cd_M_isSaid 106 = .ok (.iconst 0, 1) := by decide +kernel
theorem dc_M_isSaid_107 : decode cd_M_isSaid 107 = .ok (.ireturn, 1) := by decide +kernel
theorem dc_M_isSaid_108 : decode cd_M_isSaid 108 = .ok (.iload_n 1, 1) := by decide +kernel
theorem dc_M_isSaid_109 : decode cd_M_isSaid 109 = .ok (.iconst 2, 1) := by decide +kernel
theorem dc_M_isSaid_110 : decode cd_M_isSaid 110 = .ok (.if_icmp .eq 8, 3) := by decide +kernel
theorem dc_M_isSaid_113 : decode cd_M_isSaid 113 = .ok (.iload_n 1, 1) := by decide +kernel
theorem dc_M_isSaid_114 : decode cd_M_isSaid 114 = .ok (.iconst 3, 1) := by decide +kernel
theorem dc_M_isSaid_115 : decode cd_M_isSaid 115 = .ok (.if_icmp .ne 7, 3) := by decide +kernel
theorem dc_M_isSaid_118 : decode cd_M_isSaid 118 = .ok (.iconst 1, 1) := by decide +kernel
theorem dc_M_isSaid_119 : decode cd_M_isSaid 119 = .ok (.goto 4, 3) := by decide +kernel
theorem dc_M_isSaid_122 : decode cd_M_isSaid 122 = .ok (.iconst 0, 1) := by decide +kernel
theorem dc_M_isSaid_123 : decode cd_M_isSaid 123 = .ok (.ireturn, 1) := by decide +kernel
theorem dc_M_isSaid_124 : decode cd_M_isSaid 124 = .ok (.iload_n 0, 1) := by decide +kernel
theorem dc_M_isSaid_125 : decode cd_M_isSaid 125 = .ok (.bipush 14, 2) := by decide +kernel
theorem dc_M_isSaid_127 : decode cd_M_isSaid 127 = .ok (.invokestatic 87, 3) := by decide +kernel
theorem dc_M_isSaid_130 : decode cd_M_isSaid 130 = .ok (.ifCond .ne 7, 3) := by decide +kernel
theorem dc_M_isSaid_133 : decode cd_M_isSaid 133 = .ok (.iconst 1, 1) := by decide +kernel
theorem dc_M_isSaid_134 : decode cd_M_isSaid 134 = .ok (.goto 4, 3) := by decide +kernel
theorem dc_M_isSaid_137 : decode cd_M_isSaid 137 = .ok (.iconst 0, 1) := by decide +kernel
theorem dc_M_isSaid_138 : decode cd_M_isSaid 138 = .ok (.ireturn, 1) := by decide +kernel
theorem dc_M_outside_0 : decode cd_M_outside 0 = .ok (.iload_n 0, 1) := by decide +kernel
theorem dc_M_outside_1 : decode cd_M_outside 1 = .ok (.ifCond .lt 8, 3) := by decide +kernel
theorem dc_M_outside_4 : decode cd_M_outside 4 = .ok (.iload_n 0, 1) := by decide +kernel
theorem dc_M_outside_5 : decode cd_M_outside 5 = .ok (.iload_n 1, 1) := by decide +kernel
theorem dc_M_outside_6 : decode cd_M_outside 6 = .ok (.if_icmp .le 7, 3) := by decide +kernel
theorem dc_M_outside_9 : decode cd_M_outside 9 = .ok (.iconst 1, 1) := by decide +kernel
theorem dc_M_outside_10 : decode cd_M_outside 10 = .ok (.goto 4, 3) := by decide +kernel
theorem dc_M_outside_13 : decode cd_M_outside 13 = .ok (.iconst 0, 1) := by decide +kernel
theorem dc_M_outside_14 : decode cd_M_outside 14 = .ok (.ireturn, 1) := by decide +kernel
theorem dc_M_partsOf_0 : decode cd_M_partsOf 0 = .ok (.iload_n 0, 1) := by decide +kernel
theorem dc_M_partsOf_1 : decode cd_M_partsOf 1 = .ok (.tableswitch 80 4 13 #[55, 55, 55, 57, 57, 59, 62, 77, 55, 55], 55) := by decide +kernel
theorem dc_M_partsOf_56 : decode cd_M_partsOf 56 = .ok (.iconst 3, 1) := by decide +kernel
theorem dc_M_partsOf_57 : decode cd_M_partsOf 57 = .ok (.ireturn, 1) := by decide +kernel
theorem dc_M_partsOf_58 : decode cd_M_partsOf 58 = .ok (.iconst 1, 1) := by decide +kernel
theorem dc_M_partsOf_59 : decode cd_M_partsOf 59 = .ok (.ireturn, 1) := by decide +kernel
theorem dc_M_partsOf_60 : decode cd_M_partsOf 60 = .ok (.bipush 13, 2) := by decide +kernel
theorem dc_M_partsOf_62 : decode cd_M_partsOf 62 = .ok (.ireturn, 1) := by decide +kernel
theorem dc_M_partsOf_63 : decode cd_M_partsOf 63 = .ok (.iload_n 1, 1) := by decide +kernel
theorem dc_M_partsOf_64 : decode cd_M_partsOf 64 = .ok (.invokestatic 91, 3) := by decide +kernel
theorem dc_M_partsOf_67 : decode cd_M_partsOf 67 = .ok (.iconst 1, 1) := by decide +kernel
theorem dc_M_partsOf_68 : decode cd_M_partsOf 68 = .ok (.if_icmp .ne 7, 3) := by decide +kernel
theorem dc_M_partsOf_71 : decode cd_M_partsOf 71 = .ok (.iconst 2, 1) := by decide +kernel
theorem dc_M_partsOf_72 : decode cd_M_partsOf 72 = .ok (.goto 5, 3) := by decide +kernel
theorem dc_M_partsOf_75 : decode cd_M_partsOf 75 = .ok (.bipush 6, 2) := by decide +kernel
theorem dc_M_partsOf_77 : decode cd_M_partsOf 77 = .ok (.ireturn, 1) := by decide +kernel
theorem dc_M_partsOf_78 : decode cd_M_partsOf 78 = .ok (.bipush 6, 2) := by decide +kernel
theorem dc_M_partsOf_80 : decode cd_M_partsOf 80 = .ok (.ireturn, 1) := by decide +kernel
theorem dc_M_partsOf_81 : decode cd_M_partsOf 81 = .ok (.iconst 0, 1) := by decide +kernel
theorem dc_M_partsOf_82 : decode cd_M_partsOf 82 = .ok (.ireturn, 1) := by decide +kernel
theorem dc_M_parameters_0 : decode cd_M_parameters 0 = .ok (.iload_n 0, 1) := by decide +kernel
theorem dc_M_parameters_1 : decode cd_M_parameters 1 = .ok (.iconst 3, 1) := by decide +kernel
theorem dc_M_parameters_2 : decode cd_M_parameters 2 = .ok (.if_icmp .ge 7, 3) := by decide +kernel
theorem dc_M_parameters_5 : decode cd_M_parameters 5 = .ok (.iconst 1, 1) := by decide +kernel
theorem dc_M_parameters_6 : decode cd_M_parameters 6 = .ok (.goto 4, 3) := by decide +kernel
theorem dc_M_parameters_9 : decode cd_M_parameters 9 = .ok (.iconst 2, 1) := by decide +kernel
theorem dc_M_parameters_10 : decode cd_M_parameters 10 = .ok (.ireturn, 1) := by decide +kernel
theorem dc_M_pick_0 : decode cd_M_pick 0 = .ok (.iload_n 0, 1) := by decide +kernel
theorem dc_M_pick_1 : decode cd_M_pick 1 = .ok (.ifCond .ne 7, 3) := by decide +kernel
theorem dc_M_pick_4 : decode cd_M_pick 4 = .ok (.iload_n 1, 1) := by decide +kernel
theorem dc_M_pick_5 : decode cd_M_pick 5 = .ok (.goto 23, 3) := by decide +kernel
theorem dc_M_pick_8 : decode cd_M_pick 8 = .ok (.iload_n 0, 1) := by decide +kernel
theorem dc_M_pick_9 : decode cd_M_pick 9 = .ok (.iconst 1, 1) := by decide +kernel
theorem dc_M_pick_10 : decode cd_M_pick 10 = .ok (.if_icmp .ne 7, 3) := by decide +kernel
theorem dc_M_pick_13 : decode cd_M_pick 13 = .ok (.iload_n 2, 1) := by decide +kernel
theorem dc_M_pick_14 : decode cd_M_pick 14 = .ok (.goto 14, 3) := by decide +kernel
theorem dc_M_pick_17 : decode cd_M_pick 17 = .ok (.iload_n 0, 1) := by decide +kernel
theorem dc_M_pick_18 : decode cd_M_pick 18 = .ok (.iconst 2, 1) := by decide +kernel
theorem dc_M_pick_19 : decode cd_M_pick 19 = .ok (.if_icmp .ne 7, 3) := by decide +kernel
theorem dc_M_pick_22 : decode cd_M_pick 22 = .ok (.iload_n 3, 1) := by decide +kernel
theorem dc_M_pick_23 : decode cd_M_pick 23 = .ok (.goto 5, 3) := by decide +kernel
theorem dc_M_pick_26 : decode cd_M_pick 26 = .ok (.iload 4, 2) := by decide +kernel
theorem dc_M_pick_28 : decode cd_M_pick 28 = .ok (.ireturn, 1) := by decide +kernel
theorem dc_M_isPart_0 : decode cd_M_isPart 0 = .ok (.iload_n 1, 1) := by decide +kernel
theorem dc_M_isPart_1 : decode cd_M_isPart 1 = .ok (.ifCond .lt 15, 3) := by decide +kernel
theorem dc_M_isPart_4 : decode cd_M_isPart 4 = .ok (.iload_n 1, 1) := by decide +kernel
theorem dc_M_isPart_5 : decode cd_M_isPart 5 = .ok (.aload_n 0, 1) := by decide +kernel
theorem dc_M_isPart_6 : decode cd_M_isPart 6 = .ok (.getfield 84, 3) := by decide +kernel
theorem dc_M_isPart_9 : decode cd_M_isPart 9 = .ok (.if_icmp .ge 7, 3) := by decide +kernel
theorem dc_M_isPart_12 : decode cd_M_isPart 12 = .ok (.iconst 1, 1) := by decide +kernel
theorem dc_M_isPart_13 : decode cd_M_isPart 13 = .ok (.goto 4, 3) := by decide +kernel
theorem dc_M_isPart_16 : decode cd_M_isPart 16 = .ok (.iconst 0, 1) := by decide +kernel
theorem dc_M_isPart_17 : decode cd_M_isPart 17 = .ok (.ireturn, 1) := by decide +kernel
theorem dc_M_define_0 : decode cd_M_define 0 = .ok (.aload_n 0, 1) := by decide +kernel
theorem dc_M_define_1 : decode cd_M_define 1 = .ok (.iload_n 1, 1) := by decide +kernel
theorem dc_M_define_2 : decode cd_M_define 2 = .ok (.iconst 5, 1) := by decide +kernel
theorem dc_M_define_3 : decode cd_M_define 3 = .ok (.invokestatic 87, 3) := by decide +kernel
theorem dc_M_define_6 : decode cd_M_define 6 = .ok (.ifCond .ne 11, 3) := by decide +kernel
theorem dc_M_define_9 : decode cd_M_define 9 = .ok (.aload_n 0, 1) := by decide +kernel
theorem dc_M_define_10 : decode cd_M_define 10 = .ok (.iload_n 2, 1) := by decide +kernel
theorem dc_M_define_11 : decode cd_M_define 11 = .ok (.invokevirtual 107, 3) := by decide +kernel
theorem dc_M_define_14 : decode cd_M_define 14 = .ok (.ifCond .ne 7, 3) := by decide +kernel
theorem dc_M_define_17 : decode cd_M_define 17 = .ok (.iconst 1, 1) := by decide +kernel
theorem dc_M_define_18 : decode cd_M_define 18 = .ok (.goto 4, 3) := by decide +kernel
theorem dc_M_define_21 : decode cd_M_define 21 = .ok (.iconst 0, 1) := by decide +kernel
theorem dc_M_define_22 : decode cd_M_define 22 = .ok (.putfield 80, 3) := by decide +kernel
theorem dc_M_define_25 : decode cd_M_define 25 = .ok (.aload_n 0, 1) := by decide +kernel
theorem dc_M_define_26 : decode cd_M_define 26 = .ok (.getfield 80, 3) := by decide +kernel
theorem dc_M_define_29 : decode cd_M_define 29 = .ok (.ifCond .eq 5, 3) := by decide +kernel
theorem dc_M_define_32 : decode cd_M_define 32 = .ok (.iconst 0, 1) := by decide +kernel
theorem dc_M_define_33 : decode cd_M_define 33 = .ok (.ireturn, 1) := by decide +kernel
theorem dc_M_define_34 : decode cd_M_define 34 = .ok (.aload_n 0, 1) := by decide +kernel
theorem dc_M_define_35 : decode cd_M_define 35 = .ok (.getfield 31, 3) := by decide +kernel
theorem dc_M_define_38 : decode cd_M_define 38 = .ok (.iload_n 1, 1) := by decide +kernel
theorem dc_M_define_39 : decode cd_M_define 39 = .ok (.iload_n 2, 1) := by decide +kernel
theorem dc_M_define_40 : decode cd_M_define 40 = .ok (.iastore, 1) := by decide +kernel
theorem dc_M_define_41 : decode cd_M_define 41 = .ok (.iconst 0, 1) := by decide +kernel
theorem dc_M_define_42 : decode cd_M_define 42 = .ok (.istore_n 3, 1) := by decide +kernel
theorem dc_M_define_43 : decode cd_M_define 43 = .ok (.iconst 0, 1) := by decide +kernel
theorem dc_M_define_44 : decode cd_M_define 44 = .ok (.istore 4, 2) := by decide +kernel
theorem dc_M_define_46 : decode cd_M_define 46 = .ok (.iload 4, 2) := by decide +kernel
theorem dc_M_define_48 : decode cd_M_define 48 = .ok (.bipush 6, 2) := by decide +kernel
theorem dc_M_define_50 : decode cd_M_define 50 = .ok (.if_icmp .ge 27, 3) := by decide +kernel
theorem dc_M_define_53 : decode cd_M_define 53 = .ok (.aload_n 0, 1) := by decide +kernel
theorem dc_M_define_54 : decode cd_M_define 54 = .ok (.getfield 31, 3) := by decide +kernel
theorem dc_M_define_57 : decode cd_M_define 57 = .ok (.iload 4, 2) := by decide +kernel
theorem dc_M_define_59 : decode cd_M_define 59 = .ok (.iaload, 1) := by decide +kernel
theorem dc_M_define_60 : decode cd_M_define 60 = .ok (.ifCond .lt 9, 3) := by decide +kernel
theorem dc_M_define_63 : decode cd_M_define 63 = .ok (.iload_n 3, 1) := by decide +kernel
theorem dc_M_define_64 : decode cd_M_define 64 = .ok (.iconst 1, 1) := by decide +kernel
theorem dc_M_define_65 : decode cd_M_define 65 = .ok (.iadd, 1) := by decide +kernel
theorem dc_M_define_66 : decode cd_M_define 66 = .ok (.goto 4, 3) := by decide +kernel
theorem dc_M_define_69 : decode cd_M_define 69 = .ok (.iload_n 3, 1) := by decide +kernel
theorem dc_M_define_70 : decode cd_M_define 70 = .ok (.istore_n 3, 1) := by decide +kernel
theorem dc_M_define_71 : decode cd_M_define 71 = .ok (.iinc 4 1, 3) := by decide +kernel
theorem dc_M_define_74 : decode cd_M_define 74 = .ok (.goto (-28), 3) := by decide +kernel
theorem dc_M_define_77 : decode cd_M_define 77 = .ok (.iload_n 3, 1) := by decide +kernel
theorem dc_M_define_78 : decode cd_M_define 78 = .ok (.ireturn, 1) := by decide +kernel
theorem dc_M_may_0 : decode cd_M_may 0 = .ok (.aload_n 0, 1) := by decide +kernel
theorem dc_M_may_1 : decode cd_M_may 1 = .ok (.iload_n 1, 1) := by decide +kernel
theorem dc_M_may_2 : decode cd_M_may 2 = .ok (.iconst 5, 1) := by decide +kernel
theorem dc_M_may_3 : decode cd_M_may 3 = .ok (.invokestatic 87, 3) := by decide +kernel
theorem dc_M_may_6 : decode cd_M_may 6 = .ok (.ifCond .ne 15, 3) := by decide +kernel
theorem dc_M_may_9 : decode cd_M_may 9 = .ok (.iload_n 2, 1) := by decide +kernel
theorem dc_M_may_10 : decode cd_M_may 10 = .ok (.ifCond .lt 11, 3) := by decide +kernel
theorem dc_M_may_13 : decode cd_M_may 13 = .ok (.iload_n 2, 1) := by decide +kernel
theorem dc_M_may_14 : decode cd_M_may 14 = .ok (.iload_n 1, 1) := by decide +kernel
theorem dc_M_may_15 : decode cd_M_may 15 = .ok (.invokestatic 91, 3) := by decide +kernel
theorem dc_M_may_18 : decode cd_M_may 18 = .ok (.if_icmp .lt 7, 3) := by decide +kernel
theorem dc_M_may_21 : decode cd_M_may 21 = .ok (.iconst 1, 1) := by decide +kernel
theorem dc_M_may_22 : decode cd_M_may 22 = .ok (.goto 4, 3) := by decide +kernel
theorem dc_M_may_25 : decode cd_M_may 25 = .ok (.iconst 0, 1) := by decide +kernel
theorem dc_M_may_26 : decode cd_M_may 26 = .ok (.putfield 80, 3) := by decide +kernel
theorem dc_M_may_29 : decode cd_M_may 29 = .ok (.aload_n 0, 1) := by decide +kernel
theorem dc_M_may_30 : decode cd_M_may 30 = .ok (.getfield 80, 3) := by decide +kernel
theorem dc_M_may_33 : decode cd_M_may 33 = .ok (.ifCond .eq 5, 3) := by decide +kernel
theorem dc_M_may_36 : decode cd_M_may 36 = .ok (.iconst 0, 1) := by decide +kernel
theorem dc_M_may_37 : decode cd_M_may 37 = .ok (.ireturn, 1) := by decide +kernel
theorem dc_M_may_38 : decode cd_M_may 38 = .ok (.aload_n 0, 1) := by decide +kernel
theorem dc_M_may_39 : decode cd_M_may 39 = .ok (.invokevirtual 155, 3) := by decide +kernel
theorem dc_M_may_42 : decode cd_M_may 42 = .ok (.aload_n 0, 1) := by decide +kernel
theorem dc_M_may_43 : decode cd_M_may 43 = .ok (.getfield 34, 3) := by decide +kernel
theorem dc_M_may_46 : decode cd_M_may 46 = .ok (.iconst 2, 1) := by decide +kernel
theorem dc_M_may_47 : decode cd_M_may 47 = .ok (.iload_n 1, 1) := by decide +kernel
theorem dc_M_may_48 : decode cd_M_may 48 = .ok (.imul, 1) := by decide +kernel
theorem dc_M_may_49 : decode cd_M_may 49 = .ok (.iload_n 2, 1) := by decide +kernel
theorem dc_M_may_50 : decode cd_M_may 50 = .ok (.iadd, 1) := by decide +kernel
theorem dc_M_may_51 : decode cd_M_may 51 = .ok (.iaload, 1) := by decide +kernel
theorem dc_M_may_52 : decode cd_M_may 52 = .ok (.ireturn, 1) := by decide +kernel
theorem dc_M_know_0 : decode cd_M_know 0 = .ok (.iconst 0, 1) := by decide +kernel
theorem dc_M_know_1 : decode cd_M_know 1 = .ok (.istore_n 1, 1) := by decide +kernel
theorem dc_M_know_2 : decode cd_M_know 2 = .ok (.iload_n 1, 1) := by decide +kernel
theorem dc_M_know_3 : decode cd_M_know 3 = .ok (.bipush 12, 2) := by decide +kernel
theorem dc_M_know_5 : decode cd_M_know 5 = .ok (.if_icmp .ge 25, 3) := by decide +kernel
theorem dc_M_know_8 : decode cd_M_know 8 = .ok (.aload_n 0, 1) := by decide +kernel
theorem dc_M_know_9 : decode cd_M_know 9 = .ok (.getfield 34, 3) := by decide +kernel
theorem dc_M_know_12 : decode cd_M_know 12 = .ok (.iload_n 1, 1) := by decide +kernel
theorem dc_M_know_13 : decode cd_M_know 13 = .ok (.iconst 0, 1) := by decide +kernel
theorem dc_M_know_14 : decode cd_M_know 14 = .ok (.iastore, 1) := by decide +kernel
theorem dc_M_know_15 : decode cd_M_know 15 = .ok (.aload_n 0, 1) := by decide +kernel
theorem dc_M_know_16 : decode cd_M_know 16 = .ok (.getfield 37, 3) := by decide +kernel
theorem dc_M_know_19 : decode cd_M_know 19 = .ok (.iload_n 1, 1) := by decide +kernel
theorem dc_M_know_20 : decode cd_M_know 20 = .ok (.iconst 2, 1) := by decide +kernel
theorem dc_M_know_21 : decode cd_M_know 21 = .ok (.idiv, 1) := by decide +kernel
theorem dc_M_know_22 : decode cd_M_know 22 = .ok (.iconst 0, 1) := by decide +kernel
theorem dc_M_know_23 : decode cd_M_know 23 = .ok (.iastore, 1) := by decide +kernel
theorem dc_M_know_24 : decode cd_M_know 24 = .ok (.iinc 1 1, 3) := by decide +kernel
theorem dc_M_know_27 : decode cd_M_know 27 = .ok (.goto (-25), 3) := by decide +kernel
theorem dc_M_know_30 : decode cd_M_know 30 = .ok (.iconst 1, 1) := by decide +kernel
theorem dc_M_know_31 : decode cd_M_know 31 = .ok (.istore_n 1, 1) := by decide +kernel
theorem dc_M_know_32 : decode cd_M_know 32 = .ok (.iload_n 1, 1) := by decide +kernel
theorem dc_M_know_33 : decode cd_M_know 33 = .ok (.ifCond .eq 59, 3) := by decide +kernel
theorem dc_M_know_36 : decode cd_M_know 36 = .ok (.iconst 0, 1) := by decide +kernel
theorem dc_M_know_37 : decode cd_M_know 37 = .ok (.istore_n 1, 1) := by decide +kernel
theorem dc_M_know_38 : decode cd_M_know 38 = .ok (.iconst 0, 1) := by decide +kernel
theorem dc_M_know_39 : decode cd_M_know 39 = .ok (.istore_n 2, 1) := by decide +kernel
theorem dc_M_know_40 : decode cd_M_know 40 = .ok (.iload_n 2, 1) := by decide +kernel
theorem dc_M_know_41 : decode cd_M_know 41 = .ok (.bipush 6, 2) := by decide +kernel
theorem dc_M_know_43 : decode cd_M_know 43 = .ok (.if_icmp .ge 46, 3) := by decide +kernel
theorem dc_M_know_46 : decode cd_M_know 46 = .ok (.aload_n 0, 1) := by decide +kernel
theorem dc_M_know_47 : decode cd_M_know 47 = .ok (.getfield 31, 3) := by decide +kernel
theorem dc_M_know_50 : decode cd_M_know 50 = .ok (.iload_n 2, 1) := by decide +kernel
theorem dc_M_know_51 : decode cd_M_know 51 = .ok (.iaload, 1) := by decide +kernel
theorem dc_M_know_52 : decode cd_M_know 52 = .ok (.ifCond .lt 15, 3) := by decide +kernel
theorem dc_M_know_55 : decode cd_M_know 55 = .ok (.aload_n 0, 1) := by decide +kernel
theorem dc_M_know_56 : decode cd_M_know 56 = .ok (.iload_n 2, 1) := by decide +kernel
theorem dc_M_know_57 : decode cd_M_know 57 = .ok (.invokevirtual 152, 3) := by decide +kernel
theorem dc_M_know_60 : decode cd_M_know 60 = .ok (.ifCond .eq 7, 3) := by decide +kernel
theorem dc_M_know_63 : decode cd_M_know 63 = .ok (.iconst 1, 1) := by decide +kernel
theorem dc_M_know_64 : decode cd_M_know 64 = .ok (.goto 4, 3) := by decide +kernel
theorem dc_M_know_67 : decode cd_M_know 67 = .ok (.iconst 0, 1) := by decide +kernel
theorem dc_M_know_68 : decode cd_M_know 68 = .ok (.istore_n 3, 1) := by decide +kernel
theorem dc_M_know_69 : decode cd_M_know 69 = .ok (.iload_n 1, 1) := by decide +kernel
theorem dc_M_know_70 : decode cd_M_know 70 = .ok (.ifCond .ne 7, 3) := by decide +kernel
theorem dc_M_know_73 : decode cd_M_know 73 = .ok (.iload_n 3, 1) := by decide +kernel
theorem dc_M_know_74 : decode cd_M_know 74 = .ok (.ifCond .eq 7, 3) := by decide +kernel
theorem dc_M_know_77 : decode cd_M_know 77 = .ok (.iconst 1, 1) := by decide +kernel
theorem dc_M_know_78 : decode cd_M_know 78 = .ok (.goto 4, 3) := by decide +kernel
theorem dc_M_know_81 : decode cd_M_know 81 = .ok (.iconst 0, 1) := by decide +kernel
theorem dc_M_know_82 : decode cd_M_know 82 = .ok (.istore_n 1, 1) := by decide +kernel
theorem dc_M_know_83 : decode cd_M_know 83 = .ok (.iinc 2 1, 3) := by decide +kernel
theorem dc_M_know_86 : decode cd_M_know 86 = .ok (.goto (-46), 3) := by decide +kernel
theorem dc_M_know_89 : decode cd_M_know 89 = .ok (.goto (-57), 3) := by decide +kernel
theorem dc_M_know_92 : decode cd_M_know 92 = .ok (.return_, 1) := by decide +kernel
theorem dc_M_learn_0 : decode cd_M_learn 0 = .ok (.aload_n 0, 1) := by decide +kernel
theorem dc_M_learn_1 : decode cd_M_learn 1 = .ok (.iload_n 1, 1) := by decide +kernel
theorem dc_M_learn_2 : decode cd_M_learn 2 = .ok (.sipush 511, 3) := by decide +kernel
theorem dc_M_learn_5 : decode cd_M_learn 5 = .ok (.sipush 511, 3) := by decide +kernel
theorem dc_M_learn_8 : decode cd_M_learn 8 = .ok (.invokevirtual 149, 3) := by decide +kernel
theorem dc_M_learn_11 : decode cd_M_learn 11 = .ok (.istore_n 2, 1) := by decide +kernel
theorem dc_M_learn_12 : decode cd_M_learn 12 = .ok (.iload_n 2, 1) := by decide +kernel
theorem dc_M_learn_13 : decode cd_M_learn 13 = .ok (.aload_n 0, 1) := by decide +kernel
theorem dc_M_learn_14 : decode cd_M_learn 14 = .ok (.getfield 37, 3) := by decide +kernel
theorem dc_M_learn_17 : decode cd_M_learn 17 = .ok (.iload_n 1, 1) := by decide +kernel
theorem dc_M_learn_18 : decode cd_M_learn 18 = .ok (.iaload, 1) := by decide +kernel
theorem dc_M_learn_19 : decode cd_M_learn 19 = .ok (.if_icmp .eq 7, 3) := by decide +kernel
theorem dc_M_learn_22 : decode cd_M_learn 22 = .ok (.iconst 1, 1) := by decide +kernel
theorem dc_M_learn_23 : decode cd_M_learn 23 = .ok (.goto 4, 3) := by decide +kernel
theorem dc_M_learn_26 : decode cd_M_learn 26 = .ok (.iconst 0, 1) := by decide +kernel
theorem dc_M_learn_27 : decode cd_M_learn 27 = .ok (.istore_n 3, 1) := by decide +kernel
theorem dc_M_learn_28 : decode cd_M_learn 28 = .ok (.aload_n 0, 1) := by decide +kernel
theorem dc_M_learn_29 : decode cd_M_learn 29 = .ok (.getfield 37, 3) := by decide +kernel
theorem dc_M_learn_32 : decode cd_M_learn 32 = .ok (.iload_n 1, 1) := by decide +kernel
theorem dc_M_learn_33 : decode cd_M_learn 33 = .ok (.iload_n 2, 1) := by decide +kernel
theorem dc_M_learn_34 : decode cd_M_learn 34 = .ok (.iastore, 1) := by decide +kernel
theorem dc_M_learn_35 : decode cd_M_learn 35 = .ok (.iconst 0, 1) := by decide +kernel
theorem dc_M_learn_36 : decode cd_M_learn 36 = .ok (.istore 4, 2) := by decide +kernel
theorem dc_M_learn_38 : decode cd_M_learn 38 = .ok (.iload 4, 2) := by decide +kernel
theorem dc_M_learn_40 : decode cd_M_learn 40 = .ok (.iload_n 1, 1) := by decide +kernel
theorem dc_M_learn_41 : decode cd_M_learn 41 = .ok (.invokestatic 91, 3) := by decide +kernel
theorem dc_M_learn_44 : decode cd_M_learn 44 = .ok (.if_icmp .ge 119, 3) := by decide +kernel
theorem dc_M_learn_47 : decode cd_M_learn 47 = .ok (.iconst 0, 1) := by decide +kernel
theorem dc_M_learn_48 : decode cd_M_learn 48 = .ok (.istore 5, 2) := by decide +kernel
theorem dc_M_learn_50 : decode cd_M_learn 50 = .ok (.iconst 0, 1) := by decide +kernel
theorem dc_M_learn_51 : decode cd_M_learn 51 = .ok (.istore 6, 2) := by decide +kernel
theorem dc_M_learn_53 : decode cd_M_learn 53 = .ok (.iload 6, 2) := by decide +kernel
theorem dc_M_learn_55 : decode cd_M_learn 55 = .ok (.bipush 9, 2) := by decide +kernel
theorem dc_M_learn_57 : decode cd_M_learn 57 = .ok (.if_icmp .ge 61, 3) := by decide +kernel
theorem dc_M_learn_60 : decode cd_M_learn 60 = .ok (.iload 5, 2) := by decide +kernel
theorem dc_M_learn_62 : decode cd_M_learn 62 = .ok (.aload_n 0, 1) := by decide +kernel
theorem dc_M_learn_63 : decode cd_M_learn 63 = .ok (.iload_n 1, 1) := by decide +kernel
theorem dc_M_learn_64 : decode cd_M_learn 64 = .ok (.iload 4, 2) := by decide +kernel
theorem dc_M_learn_66 : decode cd_M_learn 66 = .ok (.ifCond .ne 10, 3) := by decide +kernel
theorem dc_M_learn_69 : decode cd_M_learn 69 = .ok (.iconst 1, 1) := by decide +kernel
theorem dc_M_learn_70 : decode cd_M_learn 70 = .ok (.iload 6, 2) := by decide +kernel
theorem dc_M_learn_72 : decode cd_M_learn 72 = .ok (.ishl, 1) := by decide +kernel
theorem dc_M_learn_73 : decode cd_M_learn 73 = .ok (.goto 6, 3) := by decide +kernel
theorem dc_M_learn_76 : decode cd_M_learn 76 = .ok (.sipush 511, 3) := by decide +kernel
theorem dc_M_learn_79 : decode cd_M_learn 79 = .ok (.iload 4, 2) := by decide +kernel
theorem dc_M_learn_81 : decode cd_M_learn 81 = .ok (.iconst 1, 1) := by decide +kernel
theorem dc_M_learn_82 : decode cd_M_learn 82 = .ok (.if_icmp .ne 10, 3) := by decide +kernel
theorem dc_M_learn_85 : decode cd_M_learn 85 = .ok (.iconst 1, 1) := by decide +kernel
theorem dc_M_learn_86 : decode cd_M_learn 86 = .ok (.iload 6, 2) := by decide +kernel
theorem dc_M_learn_88 : decode cd_M_learn 88 = .ok (.ishl, 1) := by decide +kernel
theorem dc_M_learn_89 : decode cd_M_learn 89 = .ok (.goto 6, 3) := by decide +kernel
theorem dc_M_learn_92 : decode cd_M_learn 92 = .ok (.sipush 511, 3) := by decide +kernel
theorem dc_M_learn_95 : decode cd_M_learn 95 = .ok (.invokevirtual 149, 3) := by decide +kernel
theorem dc_M_learn_98 : decode cd_M_learn 98 = .ok (.ifCond .eq 10, 3) := by decide +kernel
theorem dc_M_learn_101 : decode cd_M_learn 101 = .ok (.iconst 1, 1) := by decide +kernel
theorem dc_M_learn_102 : decode cd_M_learn 102 = .ok (.iload 6, 2) := by decide +kernel
theorem dc_M_learn_104 : decode cd_M_learn 104 = .ok (.ishl, 1) := by decide +kernel
theorem dc_M_learn_105 : decode cd_M_learn 105 = .ok (.goto 4, 3) := by decide +kernel
theorem dc_M_learn_108 : decode cd_M_learn 108 = .ok (.iconst 0, 1) := by decide +kernel
theorem dc_M_learn_109 : decode cd_M_learn 109 = .ok (.ior, 1) := by decide +kernel
theorem dc_M_learn_110 : decode cd_M_learn 110 = .ok (.istore 5, 2) := by decide +kernel
theorem dc_M_learn_112 : decode cd_M_learn 112 = .ok (.iinc 6 1, 3) := by decide +kernel
theorem dc_M_learn_115 : decode cd_M_learn 115 = .ok (.goto (-62), 3) := by decide +kernel
theorem dc_M_learn_118 : decode cd_M_learn 118 = .ok (.iload_n 3, 1) := by decide +kernel
theorem dc_M_learn_119 : decode cd_M_learn 119 = .ok (.ifCond .ne 19, 3) := by decide +kernel
theorem dc_M_learn_122 : decode cd_M_learn 122 = .ok (.iload 5, 2) := by decide +kernel
theorem dc_M_learn_124 : decode cd_M_learn 124 = .ok (.aload_n 0, 1) := by decide +kernel
theorem dc_M_learn_125 : decode cd_M_learn 125 = .ok (.getfield 34, 3) := by decide +kernel
theorem dc_M_learn_128 : decode cd_M_learn 128 = .ok (.iconst 2, 1) := by decide +kernel
theorem dc_M_learn_129 : decode cd_M_learn 129 = .ok (.iload_n 1, 1) := by decide +kernel
theorem dc_M_learn_130 : decode cd_M_learn 130 = .ok (.imul, 1) := by decide +kernel
theorem dc_M_learn_131 : decode cd_M_learn 131 = .ok (.iload 4, 2) := by decide +kernel
theorem dc_M_learn_133 : decode cd_M_learn 133 = .ok (.iadd, 1) := by decide +kernel
theorem dc_M_learn_134 : decode cd_M_learn 134 = .ok (.iaload, 1) := by decide +kernel
theorem dc_M_learn_135 : decode cd_M_learn 135 = .ok (.if_icmp .eq 7, 3) := by decide +kernel
theorem dc_M_learn_138 : decode cd_M_learn 138 = .ok (.iconst 1, 1) := by decide +kernel
theorem dc_M_learn_139 : decode cd_M_learn 139 = .ok (.goto 4, 3) := by decide +kernel
theorem dc_M_learn_142 : decode cd_M_learn 142 = .ok (.iconst 0, 1) := by decide +kernel
theorem dc_M_learn_143 : decode cd_M_learn 143 = .ok (.istore_n 3, 1) := by decide +kernel
theorem dc_M_learn_144 : decode cd_M_learn 144 = .ok (.aload_n 0, 1) := by decide +kernel
theorem dc_M_learn_145 : decode cd_M_learn 145 = .ok (.getfield 34, 3) := by decide +kernel
theorem dc_M_learn_148 : decode cd_M_learn 148 = .ok (.iconst 2, 1) := by decide +kernel
theorem dc_M_learn_149 : decode cd_M_learn 149 = .ok (.iload_n 1, 1) := by decide +kernel
theorem dc_M_learn_150 : decode cd_M_learn 150 = .ok (.imul, 1) := by decide +kernel
theorem dc_M_learn_151 : decode cd_M_learn 151 = .ok (.iload 4, 2) := by decide +kernel
theorem dc_M_learn_153 : decode cd_M_learn 153 = .ok (.iadd, 1) := by decide +kernel
theorem dc_M_learn_154 : decode cd_M_learn 154 = .ok (.iload 5, 2) := by decide +kernel
theorem dc_M_learn_156 : decode cd_M_learn 156 = .ok (.iastore, 1) := by decide +kernel
theorem dc_M_learn_157 : decode cd_M_learn 157 = .ok (.iinc 4 1, 3) := by decide +kernel
theorem dc_M_learn_160 : decode cd_M_learn 160 = .ok (.goto (-122), 3) := by decide +kernel
theorem dc_M_learn_163 : decode cd_M_learn 163 = .ok (.iload_n 3, 1) := by decide +kernel
theorem dc_M_learn_164 : decode cd_M_learn 164 = .ok (.ireturn, 1) := by decide +kernel
theorem dc_M_looked_0 : decode cd_M_looked 0 = .ok (.aload_n 0, 1) := by decide +kernel
theorem dc_M_looked_1 : decode cd_M_looked 1 = .ok (.iconst 0, 1) := by decide +kernel
theorem dc_M_looked_2 : decode cd_M_looked 2 = .ok (.putfield 111, 3) := by decide +kernel
theorem dc_M_looked_5 : decode cd_M_looked 5 = .ok (.aload_n 0, 1) := by decide +kernel
theorem dc_M_looked_6 : decode cd_M_looked 6 = .ok (.aload_n 0, 1) := by decide +kernel
theorem dc_M_looked_7 : decode cd_M_looked 7 = .ok (.getfield 31, 3) := by decide +kernel
theorem dc_M_looked_10 : decode cd_M_looked 10 = .ok (.iload_n 1, 1) := by decide +kernel
theorem dc_M_looked_11 : decode cd_M_looked 11 = .ok (.iaload, 1) := by decide +kernel
theorem dc_M_looked_12 : decode cd_M_looked 12 = .ok (.invokevirtual 128, 3) := by decide +kernel
theorem dc_M_looked_15 : decode cd_M_looked 15 = .ok (.aload_n 0, 1) := by decide +kernel
theorem dc_M_looked_16 : decode cd_M_looked 16 = .ok (.getfield 53, 3) := by decide +kernel
theorem dc_M_looked_19 : decode cd_M_looked 19 = .ok (.iconst 0, 1) := by decide +kernel
theorem dc_M_looked_20 : decode cd_M_looked 20 = .ok (.iload_n 2, 1) := by decide +kernel
theorem dc_M_looked_21 : decode cd_M_looked 21 = .ok (.iastore, 1) := by decide +kernel
theorem dc_M_looked_22 : decode cd_M_looked 22 = .ok (.aload_n 0, 1) := by decide +kernel
theorem dc_M_looked_23 : decode cd_M_looked 23 = .ok (.getfield 53, 3) := by decide +kernel
theorem dc_M_looked_26 : decode cd_M_looked 26 = .ok (.iconst 1, 1) := by decide +kernel
theorem dc_M_looked_27 : decode cd_M_looked 27 = .ok (.iload_n 1, 1) := by decide +kernel
theorem dc_M_looked_28 : decode cd_M_looked 28 = .ok (.invokestatic 91, 3) := by decide +kernel
theorem dc_M_looked_31 : decode cd_M_looked 31 = .ok (.iconst 1, 1) := by decide +kernel
theorem dc_M_looked_32 : decode cd_M_looked 32 = .ok (.if_icmp .ne 7, 3) := by decide +kernel
theorem dc_M_looked_35 : decode cd_M_looked 35 = .ok (.iconst 0, 1) := by decide +kernel
theorem dc_M_looked_36 : decode cd_M_looked 36 = .ok (.goto 4, 3) := by decide +kernel
theorem dc_M_looked_39 : decode cd_M_looked 39 = .ok (.iload_n 3, 1) := by decide +kernel
theorem dc_M_looked_40 : decode cd_M_looked 40 = .ok (.iastore, 1) := by decide +kernel
theorem dc_M_looked_41 : decode cd_M_looked 41 = .ok (.aload_n 0, 1) := by decide +kernel
theorem dc_M_looked_42 : decode cd_M_looked 42 = .ok (.getfield 53, 3) := by decide +kernel
theorem dc_M_looked_45 : decode cd_M_looked 45 = .ok (.iconst 2, 1) := by decide +kernel
theorem dc_M_looked_46 : decode cd_M_looked 46 = .ok (.iconst 0, 1) := by decide +kernel
theorem dc_M_looked_47 : decode cd_M_looked 47 = .ok (.iastore, 1) := by decide +kernel
theorem dc_M_looked_48 : decode cd_M_looked 48 = .ok (.aload_n 0, 1) := by decide +kernel
theorem dc_M_looked_49 : decode cd_M_looked 49 = .ok (.getfield 53, 3) := by decide +kernel
theorem dc_M_looked_52 : decode cd_M_looked 52 = .ok (.iconst 3, 1) := by decide +kernel
theorem dc_M_looked_53 : decode cd_M_looked 53 = .ok (.iconst 0, 1) := by decide +kernel
theorem dc_M_looked_54 : decode cd_M_looked 54 = .ok (.iastore, 1) := by decide +kernel
theorem dc_M_looked_55 : decode cd_M_looked 55 = .ok (.aload_n 0, 1) := by decide +kernel
theorem dc_M_looked_56 : decode cd_M_looked 56 = .ok (.getfield 111, 3) := by decide +kernel
theorem dc_M_looked_59 : decode cd_M_looked 59 = .ok (.ifCond .le 10, 3) := by decide +kernel
theorem dc_M_looked_62 : decode cd_M_looked 62 = .ok (.aload_n 0, 1) := by decide +kernel
theorem dc_M_looked_63 : decode cd_M_looked 63 = .ok (.invokevirtual 146, 3) := by decide +kernel
theorem dc_M_looked_66 : decode cd_M_looked 66 = .ok (.goto (-11), 3) := by decide +kernel
theorem dc_M_looked_69 : decode cd_M_looked 69 = .ok (.aload_n 0, 1) := by decide +kernel
theorem dc_M_looked_70 : decode cd_M_looked 70 = .ok (.getfield 125, 3) := by decide +kernel
theorem dc_M_looked_73 : decode cd_M_looked 73 = .ok (.ireturn, 1) := by decide +kernel
theorem dc_M_look_0 : decode cd_M_look 0 = .ok (.aload_n 0, 1) := by decide +kernel
theorem dc_M_look_1 : decode cd_M_look 1 = .ok (.getfield 47, 3) := by decide +kernel
theorem dc_M_look_4 : decode cd_M_look 4 = .ok (.aload_n 0, 1) := by decide +kernel
theorem dc_M_look_5 : decode cd_M_look 5 = .ok (.getfield 111, 3) := by decide +kernel
theorem dc_M_look_8 : decode cd_M_look 8 = .ok (.iload_n 1, 1) := by decide +kernel
theorem dc_M_look_9 : decode cd_M_look 9 = .ok (.iastore, 1) := by decide +kernel
theorem dc_M_look_10 : decode cd_M_look 10 = .ok (.aload_n 0, 1) := by decide +kernel
theorem dc_M_look_11 : decode cd_M_look 11 = .ok (.getfield 50, 3) := by decide +kernel
theorem dc_M_look_14 : decode cd_M_look 14 = .ok (.aload_n 0, 1) := by decide +kernel
theorem dc_M_look_15 : decode cd_M_look 15 = .ok (.getfield 111, 3) := by decide +kernel
theorem dc_M_look_18 : decode cd_M_look 18 = .ok (.iconst 0, 1) := by decide +kernel
theorem dc_M_look_19 : decode cd_M_look 19 = .ok (.iastore, 1) := by decide +kernel
theorem dc_M_look_20 : decode cd_M_look 20 = .ok (.iconst 0, 1) := by decide +kernel
theorem dc_M_look_21 : decode cd_M_look 21 = .ok (.istore_n 2, 1) := by decide +kernel
theorem dc_M_look_22 : decode cd_M_look 22 = .ok (.iload_n 2, 1) := by decide +kernel
theorem dc_M_look_23 : decode cd_M_look 23 = .ok (.iconst 4, 1) := by decide +kernel
theorem dc_M_look_24 : decode cd_M_look 24 = .ok (.if_icmp .ge 44, 3) := by decide +kernel
theorem dc_M_look_27 : decode cd_M_look 27 = .ok (.aload_n 0, 1) := by decide +kernel
theorem dc_M_look_28 : decode cd_M_look 28 = .ok (.getfield 111, 3) := by decide +kernel
theorem dc_M_look_31 : decode cd_M_look 31 = .ok (.ifCond .le 37, 3) := by decide +kernel
theorem dc_M_look_34 : decode cd_M_look 34 = .ok (.aload_n 0, 1) := by decide +kernel
theorem dc_M_look_35 : decode cd_M_look 35 = .ok (.getfield 53, 3) := by decide +kernel
theorem dc_M_look_38 : decode cd_M_look 38 = .ok (.iconst 4, 1) := by decide +kernel
theorem dc_M_look_39 : decode cd_M_look 39 = .ok (.aload_n 0, 1) := by decide +kernel
theorem dc_M_look_40 : decode cd_M_look 40 = .ok (.getfield 111, 3) := by decide +kernel
theorem dc_M_look_43 : decode cd_M_look 43 = .ok (.imul, 1) := by decide +kernel
theorem dc_M_look_44 : decode cd_M_look 44 = .ok (.iload_n 2, 1) := by decide +kernel
theorem dc_M_look_45 : decode cd_M_look 45 = .ok (.iadd, 1) := by decide +kernel
theorem dc_M_look_46 : decode cd_M_look 46 = .ok (.aload_n 0, 1) := by decide +kernel
theorem dc_M_look_47 : decode cd_M_look 47 = .ok (.getfield 53, 3) := by decide +kernel
theorem dc_M_look_50 : decode cd_M_look 50 = .ok (.iconst 4, 1) := by decide +kernel
theorem dc_M_look_51 : decode cd_M_look 51 = .ok (.aload_n 0, 1) := by decide +kernel
theorem dc_M_look_52 : decode cd_M_look 52 = .ok (.getfield 111, 3) := by decide +kernel
theorem dc_M_look_55 : decode cd_M_look 55 = .ok (.iconst 1, 1) := by decide +kernel
theorem dc_M_look_56 : decode cd_M_look 56 = .ok (.isub, 1) := by decide +kernel
theorem dc_M_look_57 : decode cd_M_look 57 = .ok (.imul, 1) := by decide +kernel
theorem dc_M_look_58 : decode cd_M_look 58 = .ok (.iload_n 2, 1) := by decide +kernel
theorem dc_M_look_59 : decode cd_M_look 59 = .ok (.iadd, 1) := by decide +kernel
theorem dc_M_look_60 : decode cd_M_look 60 = .ok (.iaload, 1) := by decide +kernel
theorem dc_M_look_61 : decode cd_M_look 61 = .ok (.iastore, 1) := by decide +kernel
theorem dc_M_look_62 : decode cd_M_look 62 = .ok (.iinc 2 1, 3) := by decide +kernel
theorem dc_M_look_65 : decode cd_M_look 65 = .ok (.goto (-43), 3) := by decide +kernel
theorem dc_M_look_68 : decode cd_M_look 68 = .ok (.aload_n 0, 1) := by decide +kernel
theorem dc_M_look_69 : decode cd_M_look 69 = .ok (.dup, 1) := by decide +kernel
theorem dc_M_look_70 : decode cd_M_look 70 = .ok (.getfield 111, 3) := by decide +kernel
theorem dc_M_look_73 : decode cd_M_look 73 = .ok (.iconst 1, 1) := by decide +kernel
theorem dc_M_look_74 : decode cd_M_look 74 = .ok (.iadd, 1) := by decide +kernel
theorem dc_M_look_75 : decode cd_M_look 75 = .ok (.putfield 111, 3) := by decide +kernel
theorem dc_M_look_78 : decode cd_M_look 78 = .ok (.return_, 1) := by decide +kernel
theorem dc_M_lookOn_0 : decode cd_M_lookOn 0 = .ok (.aload_n 0, 1) := by decide +kernel
theorem dc_M_lookOn_1 : decode cd_M_lookOn 1 = .ok (.getfield 111, 3) := by decide +kernel
theorem dc_M_lookOn_4 : decode cd_M_lookOn 4 = .ok (.iconst 1, 1) := by decide +kernel
theorem dc_M_lookOn_5 : decode cd_M_lookOn 5 = .ok (.isub, 1) := by decide +kernel
theorem dc_M_lookOn_6 : decode cd_M_lookOn 6 = .ok (.istore_n 1, 1) := by decide +kernel
theorem dc_M_lookOn_7 : decode cd_M_lookOn 7 = .ok (.aload_n 0, 1) := by decide +kernel
theorem dc_M_lookOn_8 : decode cd_M_lookOn 8 = .ok (.getfield 47, 3) := by decide +kernel
theorem dc_M_lookOn_11 : decode cd_M_lookOn 11 = .ok (.iload_n 1, 1) := by decide +kernel
theorem dc_M_lookOn_12 : decode cd_M_lookOn 12 = .ok (.iaload, 1) := by decide +kernel
theorem dc_M_lookOn_13 : decode cd_M_lookOn 13 = .ok (.istore_n 2, 1) := by decide +kernel
theorem dc_M_lookOn_14 : decode cd_M_lookOn 14 = .ok (.aload_n 0, 1) := by decide +kernel
theorem dc_M_lookOn_15 : decode cd_M_lookOn 15 = .ok (.getfield 7, 3) := by decide +kernel
theorem dc_M_lookOn_18 : decode cd_M_lookOn 18 = .ok (.iload_n 2, 1) := by decide +kernel
theorem dc_M_lookOn_19 : decode cd_M_lookOn 19 = .ok (.iaload, 1) := by decide +kernel
theorem dc_M_lookOn_20 : decode cd_M_lookOn 20 = .ok (.istore_n 3, 1) := by decide +kernel
theorem dc_M_lookOn_21 : decode cd_M_lookOn 21 = .ok (.aload_n 0, 1) := by decide +kernel
theorem dc_M_lookOn_22 : decode cd_M_lookOn 22 = .ok (.getfield 50, 3) := by decide +kernel
theorem dc_M_lookOn_25 : decode cd_M_lookOn 25 = .ok (.iload_n 1, 1) := by decide +kernel
theorem dc_M_lookOn_26 : decode cd_M_lookOn 26 = .ok (.iaload, 1) := by decide +kernel
theorem dc_M_lookOn_27 : decode cd_M_lookOn 27 = .ok (.istore 4, 2) := by decide +kernel
theorem dc_M_lookOn_29 : decode cd_M_lookOn 29 = .ok (.aload_n 0, 1) := by decide +kernel
theorem dc_M_lookOn_30 : decode cd_M_lookOn 30 = .ok (.getfield 50, 3) := by decide +kernel
theorem dc_M_lookOn_33 : decode cd_M_lookOn 33 = .ok (.iload_n 1, 1) := by decide +kernel
theorem dc_M_lookOn_34 : decode cd_M_lookOn 34 = .ok (.dup2, 1) := by decide +kernel
theorem dc_M_lookOn_35 : decode cd_M_lookOn 35 = .ok (.iaload, 1) := by decide +kernel
theorem dc_M_lookOn_36 : decode cd_M_lookOn 36 = .ok (.iconst 1, 1) := by decide +kernel
theorem dc_M_lookOn_37 : decode cd_M_lookOn 37 = .ok (.iadd, 1) := by decide +kernel
theorem dc_M_lookOn_38 : decode cd_M_lookOn 38 = .ok (.iastore, 1) := by decide +kernel
theorem dc_M_lookOn_39 : decode cd_M_lookOn 39 = .ok (.iload 4, 2) := by decide +kernel
theorem dc_M_lookOn_41 : decode cd_M_lookOn 41 = .ok (.ifCond .le 51, 3) := by decide +kernel
theorem dc_M_lookOn_44 : decode cd_M_lookOn 44 = .ok (.aload_n 0, 1) := by decide +kernel
theorem dc_M_lookOn_45 : decode cd_M_lookOn 45 = .ok (.getfield 56, 3) := by decide +kernel
theorem dc_M_lookOn_48 : decode cd_M_lookOn 48 = .ok (.iconst 2, 1) := by decide +kernel
theorem dc_M_lookOn_49 : decode cd_M_lookOn 49 = .ok (.iload_n 1, 1) := by decide +kernel
theorem dc_M_lookOn_50 : decode cd_M_lookOn 50 = .ok (.imul, 1) := by decide +kernel
theorem dc_M_lookOn_51 : decode cd_M_lookOn 51 = .ok (.iload 4, 2) := by decide +kernel
theorem dc_M_lookOn_53 : decode cd_M_lookOn 53 = .ok (.iconst 1, 1) := by decide +kernel
theorem dc_M_lookOn_54 : decode cd_M_lookOn 54 = .ok (.if_icmp .ne 7, 3) := by decide +kernel
theorem dc_M_lookOn_57 : decode cd_M_lookOn 57 = .ok (.iconst 0, 1) := by decide +kernel
theorem dc_M_lookOn_58 : decode cd_M_lookOn 58 = .ok (.goto 4, 3) := by decide +kernel
theorem dc_M_lookOn_61 : decode cd_M_lookOn 61 = .ok (.iconst 1, 1) := by decide +kernel
theorem dc_M_lookOn_62 : decode cd_M_lookOn 62 = .ok (.iadd, 1) := by decide +kernel
theorem dc_M_lookOn_63 : decode cd_M_lookOn 63 = .ok (.iload 4, 2) := by decide +kernel
theorem dc_M_lookOn_65 : decode cd_M_lookOn 65 = .ok (.iconst 3, 1) := by decide +kernel
theorem dc_M_lookOn_66 : decode cd_M_lookOn 66 = .ok (.if_icmp .ge 10, 3) := by decide +kernel
theorem dc_M_lookOn_69 : decode cd_M_lookOn 69 = .ok (.aload_n 0, 1) := by decide +kernel
theorem dc_M_lookOn_70 : decode cd_M_lookOn 70 = .ok (.getfield 125, 3) := by decide +kernel
theorem dc_M_lookOn_73 : decode cd_M_lookOn 73 = .ok (.goto 18, 3) := by decide +kernel
theorem dc_M_lookOn_76 : decode cd_M_lookOn 76 = .ok (.aload_n 0, 1) := by decide +kernel
theorem dc_M_lookOn_77 : decode cd_M_lookOn 77 = .ok (.getfield 56, 3) := by decide +kernel
theorem dc_M_lookOn_80 : decode cd_M_lookOn 80 = .ok (.iconst 2, 1) := by decide +kernel
theorem dc_M_lookOn_81 : decode cd_M_lookOn 81 = .ok (.iload_n 1, 1) := by decide +kernel
theorem dc_M_lookOn_82 : decode cd_M_lookOn 82 = .ok (.imul, 1) := by decide +kernel
theorem dc_M_lookOn_83 : decode cd_M_lookOn 83 = .ok (.iconst 1, 1) := by decide +kernel
theorem dc_M_lookOn_84 : decode cd_M_lookOn 84 = .ok (.iadd, 1) := by decide +kernel
theorem dc_M_lookOn_85 : decode cd_M_lookOn 85 = .ok (.iaload, 1) := by decide +kernel
theorem dc_M_lookOn_86 : decode cd_M_lookOn 86 = .ok (.aload_n 0, 1) := by decide +kernel
theorem dc_M_lookOn_87 : decode cd_M_lookOn 87 = .ok (.getfield 125, 3) := by decide +kernel
theorem dc_M_lookOn_90 : decode cd_M_lookOn 90 = .ok (.ior, 1) := by decide +kernel
theorem dc_M_lookOn_91 : decode cd_M_lookOn 91 = .ok (.iastore, 1) := by decide +kernel
theorem dc_M_lookOn_92 : decode cd_M_lookOn 92 = .ok (.iload_n 3, 1) := by decide +kernel
theorem dc_M_lookOn_93 : decode cd_M_lookOn 93 = .ok (.aload_n 0, 1) := by decide +kernel
theorem dc_M_lookOn_94 : decode cd_M_lookOn 94 = .ok (.getfield 13, 3) := by decide +kernel
theorem dc_M_lookOn_97 : decode cd_M_lookOn 97 = .ok (.iload_n 2, 1) := by decide +kernel
theorem dc_M_lookOn_98 : decode cd_M_lookOn 98 = .ok (.iaload, 1) := by decide +kernel
theorem dc_M_lookOn_99 : decode cd_M_lookOn 99 = .ok (.invokestatic 99, 3) := by decide +kernel
theorem dc_M_lookOn_102 : decode cd_M_lookOn 102 = .ok (.istore 5, 2) := by decide +kernel
theorem dc_M_lookOn_104 : decode cd_M_lookOn 104 = .ok (.iload 5, 2) := by decide +kernel
theorem dc_M_lookOn_106 : decode cd_M_lookOn 106 = .ok (.ifCond .ne 17, 3) := by decide +kernel
theorem dc_M_lookOn_109 : decode cd_M_lookOn 109 = .ok (.aload_n 0, 1) := by decide +kernel
theorem dc_M_lookOn_110 : decode cd_M_lookOn 110 = .ok (.iload_n 2, 1) := by decide +kernel
theorem dc_M_lookOn_111 : decode cd_M_lookOn 111 = .ok (.aload_n 0, 1) := by decide +kernel
theorem dc_M_lookOn_112 : decode cd_M_lookOn 112 = .ok (.iload_n 2, 1) := by decide +kernel
theorem dc_M_lookOn_113 : decode cd_M_lookOn 113 = .ok (.iload_n 1, 1) := by decide +kernel
theorem dc_M_lookOn_114 : decode cd_M_lookOn 114 = .ok (.invokevirtual 132, 3) := by decide +kernel
theorem dc_M_lookOn_117 : decode cd_M_lookOn 117 = .ok (.invokevirtual 135, 3) := by decide +kernel
theorem dc_M_lookOn_120 : decode cd_M_lookOn 120 = .ok (.goto 314, 3) := by decide +kernel
theorem dc_M_lookOn_123 : decode cd_M_lookOn 123 = .ok (.iload 4, 2) := by decide +kernel
theorem dc_M_lookOn_125 : decode cd_M_lookOn 125 = .ok (.ifCond .ne 46, 3) := by decide +kernel
theorem dc_M_lookOn_128 : decode cd_M_lookOn 128 = .ok (.aload_n 0, 1) := by decide +kernel
theorem dc_M_lookOn_129 : decode cd_M_lookOn 129 = .ok (.getfield 56, 3) := by decide +kernel
theorem dc_M_lookOn_132 : decode cd_M_lookOn 132 = .ok (.iconst 2, 1) := by decide +kernel
theorem dc_M_lookOn_133 : decode cd_M_lookOn 133 = .ok (.iload_n 1, 1) := by decide +kernel
theorem dc_M_lookOn_134 : decode cd_M_lookOn 134 = .ok (.imul, 1) := by decide +kernel
theorem dc_M_lookOn_135 : decode cd_M_lookOn 135 = .ok (.iconst 1, 1) := by decide +kernel
theorem dc_M_lookOn_136 : decode cd_M_lookOn 136 = .ok (.iadd, 1) := by decide +kernel
theorem dc_M_lookOn_137 : decode cd_M_lookOn 137 = .ok (.sipush 511, 3) := by decide +kernel
theorem dc_M_lookOn_140 : decode cd_M_lookOn 140 = .ok (.iastore, 1) := by decide +kernel
theorem dc_M_lookOn_141 : decode cd_M_lookOn 141 = .ok (.aload_n 0, 1) := by decide +kernel
theorem dc_M_lookOn_142 : decode cd_M_lookOn 142 = .ok (.iload 5, 2) := by decide +kernel
theorem dc_M_lookOn_144 : decode cd_M_lookOn 144 = .ok (.iconst 1, 1) := by decide +kernel
theorem dc_M_lookOn_145 : decode cd_M_lookOn 145 = .ok (.iand, 1) := by decide +kernel
theorem dc_M_lookOn_146 : decode cd_M_lookOn 146 = .ok (.iconst 1, 1) := by decide +kernel
theorem dc_M_lookOn_147 : decode cd_M_lookOn 147 = .ok (.if_icmp .ne 12, 3) := by decide +kernel
theorem dc_M_lookOn_150 : decode cd_M_lookOn 150 = .ok (.aload_n 0, 1) := by decide +kernel
theorem dc_M_lookOn_151 : decode cd_M_lookOn 151 = .ok (.getfield 13, 3) := by decide +kernel
theorem dc_M_lookOn_154 : decode cd_M_lookOn 154 = .ok (.iload_n 2, 1) := by decide +kernel
theorem dc_M_lookOn_155 : decode cd_M_lookOn 155 = .ok (.iaload, 1) := by decide +kernel
theorem dc_M_lookOn_156 : decode cd_M_lookOn 156 = .ok (.goto 9, 3) := by decide +kernel
theorem dc_M_lookOn_159 : decode cd_M_lookOn 159 = .ok (.aload_n 0, 1) := by decide +kernel
theorem dc_M_lookOn_160 : decode cd_M_lookOn 160 = .ok (.getfield 16, 3) := by decide +kernel
theorem dc_M_lookOn_163 : decode cd_M_lookOn 163 = .ok (.iload_n 2, 1) := by decide +kernel
theorem dc_M_lookOn_164 : decode cd_M_lookOn 164 = .ok (.iaload, 1) := by decide +kernel
theorem dc_M_lookOn_165 : decode cd_M_lookOn 165 = .ok (.invokevirtual 128, 3) := by decide +kernel
theorem dc_M_lookOn_168 : decode cd_M_lookOn 168 = .ok (.goto 266, 3) := by decide +kernel
theorem dc_M_lookOn_171 : decode cd_M_lookOn 171 = .ok (.iload_n 3, 1) := by decide +kernel
theorem dc_M_lookOn_172 : decode cd_M_lookOn 172 = .ok (.bipush 9, 2) := by decide +kernel
theorem dc_M_lookOn_174 : decode cd_M_lookOn 174 = .ok (.if_icmp .ne 30, 3) := by decide +kernel
theorem dc_M_lookOn_177 : decode cd_M_lookOn 177 = .ok (.iload 4, 2) := by decide +kernel
theorem dc_M_lookOn_179 : decode cd_M_lookOn 179 = .ok (.iconst 1, 1) := by decide +kernel
theorem dc_M_lookOn_180 : decode cd_M_lookOn 180 = .ok (.if_icmp .ne 24, 3) := by decide +kernel
theorem dc_M_lookOn_183 : decode cd_M_lookOn 183 = .ok (.aload_n 0, 1) := by decide +kernel
theorem dc_M_lookOn_184 : decode cd_M_lookOn 184 = .ok (.iload_n 2, 1) := by decide +kernel
theorem dc_M_lookOn_185 : decode cd_M_lookOn 185 = .ok (.iload_n 1, 1) := by decide +kernel
theorem dc_M_lookOn_186 : decode cd_M_lookOn 186 = .ok (.aload_n 0, 1) := by decide +kernel
theorem dc_M_lookOn_187 : decode cd_M_lookOn 187 = .ok (.getfield 16, 3) := by decide +kernel
theorem dc_M_lookOn_190 : decode cd_M_lookOn 190 = .ok (.iload_n 2, 1) := by decide +kernel
theorem dc_M_lookOn_191 : decode cd_M_lookOn 191 = .ok (.iaload, 1) := by decide +kernel
theorem dc_M_lookOn_192 : decode cd_M_lookOn 192 = .ok (.aload_n 0, 1) := by decide +kernel
theorem dc_M_lookOn_193 : decode cd_M_lookOn 193 = .ok (.getfield 19, 3) := by decide +kernel
theorem dc_M_lookOn_196 : decode cd_M_lookOn 196 = .ok (.iload_n 2, 1) := by decide +kernel
theorem dc_M_lookOn_197 : decode cd_M_lookOn 197 = .ok (.iaload, 1) := by decide +kernel
theorem dc_M_lookOn_198 : decode cd_M_lookOn 198 = .ok (.invokevirtual 139, 3) := by decide +kernel
theorem dc_M_lookOn_201 : decode cd_M_lookOn 201 = .ok (.goto 233, 3) := by decide +kernel
theorem dc_M_lookOn_204 : decode cd_M_lookOn 204 = .ok (.iload_n 3, 1) := by decide +kernel
theorem dc_M_lookOn_205 : decode cd_M_lookOn 205 = .ok (.bipush 9, 2) := by decide +kernel
theorem dc_M_lookOn_207 : decode cd_M_lookOn 207 = .ok (.if_icmp .ne 36, 3) := by decide +kernel
theorem dc_M_lookOn_210 : decode cd_M_lookOn 210 = .ok (.iload 4, 2) := by decide +kernel
theorem dc_M_lookOn_212 : decode cd_M_lookOn 212 = .ok (.iconst 2, 1) := by decide +kernel
theorem dc_M_lookOn_213 : decode cd_M_lookOn 213 = .ok (.if_icmp .ne 30, 3) := by decide +kernel
theorem dc_M_lookOn_216 : decode cd_M_lookOn 216 = .ok (.aload_n 0, 1) := by decide +kernel
theorem dc_M_lookOn_217 : decode cd_M_lookOn 217 = .ok (.iload_n 2, 1) := by decide +kernel
theorem dc_M_lookOn_218 : decode cd_M_lookOn 218 = .ok (.iload_n 1, 1) := by decide +kernel
theorem dc_M_lookOn_219 : decode cd_M_lookOn 219 = .ok (.sipush 511, 3) := by decide +kernel
theorem dc_M_lookOn_222 : decode cd_M_lookOn 222 = .ok (.aload_n 0, 1) := by decide +kernel
theorem dc_M_lookOn_223 : decode cd_M_lookOn 223 = .ok (.getfield 16, 3) := by decide +kernel
theorem dc_M_lookOn_226 : decode cd_M_lookOn 226 = .ok (.iload_n 2, 1) := by decide +kernel
theorem dc_M_lookOn_227 : decode cd_M_lookOn 227 = .ok (.iaload, 1) := by decide +kernel
theorem dc_M_lookOn_228 : decode cd_M_lookOn 228 = .ok (.iconst (-1), 1) := by decide +kernel
theorem dc_M_lookOn_229 : decode cd_M_lookOn 229 = .ok (.ixor, 1) := by decide +kernel
theorem dc_M_lookOn_230 : decode cd_M_lookOn 230 = .ok (.iand, 1) := by decide +kernel
theorem dc_M_lookOn_231 : decode cd_M_lookOn 231 = .ok (.aload_n 0, 1) := by decide +kernel
theorem dc_M_lookOn_232 : decode cd_M_lookOn 232 = .ok (.getfield 22, 3) := by decide +kernel
theorem dc_M_lookOn_235 : decode cd_M_lookOn 235 = .ok (.iload_n 2, 1) := by decide +kernel
theorem dc_M_lookOn_236 : decode cd_M_lookOn 236 = .ok (.iaload, 1) := by decide +kernel
theorem dc_M_lookOn_237 : decode cd_M_lookOn 237 = .ok (.invokevirtual 139, 3) := by decide +kernel
theorem dc_M_lookOn_240 : decode cd_M_lookOn 240 = .ok (.goto 194, 3) := by decide +kernel
theorem dc_M_lookOn_243 : decode cd_M_lookOn 243 = .ok (.iload_n 3, 1) := by decide +kernel
theorem dc_M_lookOn_244 : decode cd_M_lookOn 244 = .ok (.bipush 9, 2) := by decide +kernel
theorem dc_M_lookOn_246 : decode cd_M_lookOn 246 = .ok (.if_icmp .ne 21, 3) := by decide +kernel
theorem dc_M_lookOn_249 : decode cd_M_lookOn 249 = .ok (.aload_n 0, 1) := by decide +kernel
theorem dc_M_lookOn_250 : decode cd_M_lookOn 250 = .ok (.iload_n 2, 1) := by decide +kernel
theorem dc_M_lookOn_251 : decode cd_M_lookOn 251 = .ok (.aload_n 0, 1) := by decide +kernel
theorem dc_M_lookOn_252 : decode cd_M_lookOn 252 = .ok (.getfield 56, 3) := by decide +kernel
theorem dc_M_lookOn_255 : decode cd_M_lookOn 255 = .ok (.iconst 2, 1) := by decide +kernel
theorem dc_M_lookOn_256 : decode cd_M_lookOn 256 = .ok (.iload_n 1, 1) := by decide +kernel
theorem dc_M_lookOn_257 : decode cd_M_lookOn 257 = .ok (.imul, 1) := by decide +kernel
theorem dc_M_lookOn_258 : decode cd_M_lookOn 258 = .ok (.iconst 1, 1) := by decide +kernel
theorem dc_M_lookOn_259 : decode cd_M_lookOn 259 = .ok (.iadd, 1) := by decide +kernel
theorem dc_M_lookOn_260 : decode cd_M_lookOn 260 = .ok (.iaload, 1) := by decide +kernel
theorem dc_M_lookOn_261 : decode cd_M_lookOn 261 = .ok (.invokevirtual 135, 3) := by decide +kernel
theorem dc_M_lookOn_264 : decode cd_M_lookOn 264 = .ok (.goto 170, 3) := by decide +kernel
theorem dc_M_lookOn_267 : decode cd_M_lookOn 267 = .ok (.iload_n 3, 1) := by decide +kernel
theorem dc_M_lookOn_268 : decode cd_M_lookOn 268 = .ok (.bipush 11, 2) := by decide +kernel
theorem dc_M_lookOn_270 : decode cd_M_lookOn 270 = .ok (.if_icmp .ne 66, 3) := by decide +kernel
theorem dc_M_lookOn_273 : decode cd_M_lookOn 273 = .ok (.iload 4, 2) := by decide +kernel
theorem dc_M_lookOn_275 : decode cd_M_lookOn 275 = .ok (.iconst 1, 1) := by decide +kernel
theorem dc_M_lookOn_276 : decode cd_M_lookOn 276 = .ok (.if_icmp .ne 60, 3) := by decide +kernel
theorem dc_M_lookOn_279 : decode cd_M_lookOn 279 = .ok (.aload_n 0, 1) := by decide +kernel
theorem dc_M_lookOn_280 : decode cd_M_lookOn 280 = .ok (.iconst 0, 1) := by decide +kernel
theorem dc_M_lookOn_281 : decode cd_M_lookOn 281 = .ok (.putfield 125, 3) := by decide +kernel
theorem dc_M_lookOn_284 : decode cd_M_lookOn 284 = .ok (.aload_n 0, 1) := by decide +kernel
theorem dc_M_lookOn_285 : decode cd_M_lookOn 285 = .ok (.getfield 56, 3) := by decide +kernel
theorem dc_M_lookOn_288 : decode cd_M_lookOn 288 = .ok (.iconst 2, 1) := by decide +kernel
theorem dc_M_lookOn_289 : decode cd_M_lookOn 289 = .ok (.iload_n 1, 1) := by decide +kernel
theorem dc_M_lookOn_290 : decode cd_M_lookOn 290 = .ok (.imul, 1) := by decide +kernel
theorem dc_M_lookOn_291 : decode cd_M_lookOn 291 = .ok (.iaload, 1) := by decide +kernel
theorem dc_M_lookOn_292 : decode cd_M_lookOn 292 = .ok (.ifCond .eq 142, 3) := by decide +kernel
theorem dc_M_lookOn_295 : decode cd_M_lookOn 295 = .ok (.aload_n 0, 1) := by decide +kernel
theorem dc_M_lookOn_296 : decode cd_M_lookOn 296 = .ok (.aload_n 0, 1) := by decide +kernel
theorem dc_M_lookOn_297 : decode cd_M_lookOn 297 = .ok (.getfield 19, 3) := by decide +kernel
theorem dc_M_lookOn_300 : decode cd_M_lookOn 300 = .ok (.iload_n 2, 1) := by decide +kernel
theorem dc_M_lookOn_301 : decode cd_M_lookOn 301 = .ok (.iaload, 1) := by decide +kernel
theorem dc_M_lookOn_302 : decode cd_M_lookOn 302 = .ok (.invokevirtual 128, 3) := by decide +kernel
theorem dc_M_lookOn_305 : decode cd_M_lookOn 305 = .ok (.aload_n 0, 1) := by decide +kernel
theorem dc_M_lookOn_306 : decode cd_M_lookOn 306 = .ok (.getfield 53, 3) := by decide +kernel
theorem dc_M_lookOn_309 : decode cd_M_lookOn 309 = .ok (.iconst 4, 1) := by decide +kernel
theorem dc_M_lookOn_310 : decode cd_M_lookOn 310 = .ok (.aload_n 0, 1) := by decide +kernel
theorem dc_M_lookOn_311 : decode cd_M_lookOn 311 = .ok (.getfield 111, 3) := by decide +kernel
theorem dc_M_lookOn_314 : decode cd_M_lookOn 314 = .ok (.iconst 1, 1) := by decide +kernel
theorem dc_M_lookOn_315 : decode cd_M_lookOn 315 = .ok (.isub, 1) := by decide +kernel
theorem dc_M_lookOn_316 : decode cd_M_lookOn 316 = .ok (.imul, 1) := by decide +kernel
theorem dc_M_lookOn_317 : decode cd_M_lookOn 317 = .ok (.aload_n 0, 1) := by decide +kernel
theorem dc_M_lookOn_318 : decode cd_M_lookOn 318 = .ok (.getfield 13, 3) := by decide +kernel
theorem dc_M_lookOn_321 : decode cd_M_lookOn 321 = .ok (.iload_n 2, 1) := by decide +kernel
theorem dc_M_lookOn_322 : decode cd_M_lookOn 322 = .ok (.iaload, 1) := by decide +kernel
theorem dc_M_lookOn_323 : decode cd_M_lookOn 323 = .ok (.iadd, 1) := by decide +kernel
theorem dc_M_lookOn_324 : decode cd_M_lookOn 324 = .ok (.aload_n 0, 1) := by decide +kernel
theorem dc_M_lookOn_325 : decode cd_M_lookOn 325 = .ok (.getfield 56, 3) := by decide +kernel
theorem dc_M_lookOn_328 : decode cd_M_lookOn 328 = .ok (.iconst 2, 1) := by decide +kernel
theorem dc_M_lookOn_329 : decode cd_M_lookOn 329 = .ok (.iload_n 1, 1) := by decide +kernel
theorem dc_M_lookOn_330 : decode cd_M_lookOn 330 = .ok (.imul, 1) := by decide +kernel
theorem dc_M_lookOn_331 : decode cd_M_lookOn 331 = .ok (.iaload, 1) := by decide +kernel
theorem dc_M_lookOn_332 : decode cd_M_lookOn 332 = .ok (.iastore, 1) := by decide +kernel
theorem dc_M_lookOn_333 : decode cd_M_lookOn 333 = .ok (.goto 101, 3) := by decide +kernel
theorem dc_M_lookOn_336 : decode cd_M_lookOn 336 = .ok (.iload_n 3, 1) := by decide +kernel
theorem dc_M_lookOn_337 : decode cd_M_lookOn 337 = .ok (.bipush 11, 2) := by decide +kernel
theorem dc_M_lookOn_339 : decode cd_M_lookOn 339 = .ok (.if_icmp .ne 21, 3) := by decide +kernel
theorem dc_M_lookOn_342 : decode cd_M_lookOn 342 = .ok (.aload_n 0, 1) := by decide +kernel
theorem dc_M_lookOn_343 : decode cd_M_lookOn 343 = .ok (.iload_n 2, 1) := by decide +kernel
theorem dc_M_lookOn_344 : decode cd_M_lookOn 344 = .ok (.aload_n 0, 1) := by decide +kernel
theorem dc_M_lookOn_345 : decode cd_M_lookOn 345 = .ok (.getfield 56, 3) := by decide +kernel
theorem dc_M_lookOn_348 : decode cd_M_lookOn 348 = .ok (.iconst 2, 1) := by decide +kernel
theorem dc_M_lookOn_349 : decode cd_M_lookOn 349 = .ok (.iload_n 1, 1) := by decide +kernel
theorem dc_M_lookOn_350 : decode cd_M_lookOn 350 = .ok (.imul, 1) := by decide +kernel
theorem dc_M_lookOn_351 : decode cd_M_lookOn 351 = .ok (.iconst 1, 1) := by decide +kernel
theorem dc_M_lookOn_352 : decode cd_M_lookOn 352 = .ok (.iadd, 1) := by decide +kernel
