theorem dX10_thrown_0 : decode cX10_thrown 0 = .ok (.aload_n 0, 1) := by decide +kernel
theorem dX10_thrown_1 : decode cX10_thrown 1 = .ok (.getfield 3, 3) := by decide +kernel
theorem dX10_thrown_4 : decode cX10_thrown 4 = .ok (.ireturn, 1) := by decide +kernel
theorem dX10_throwsIf_0 : decode cX10_throwsIf 0 = .ok (.iload_n 1, 1) := by decide +kernel
theorem dX10_throwsIf_1 : decode cX10_throwsIf 1 = .ok (.ifCond .eq 8, 3) := by decide +kernel
theorem dX10_throwsIf_4 : decode cX10_throwsIf 4 = .ok (.aload_n 0, 1) := by decide +kernel
theorem dX10_throwsIf_5 : decode cX10_throwsIf 5 = .ok (.iload_n 2, 1) := by decide +kernel
theorem dX10_throwsIf_6 : decode cX10_throwsIf 6 = .ok (.putfield 3, 3) := by decide +kernel
theorem dX10_throwsIf_9 : decode cX10_throwsIf 9 = .ok (.iload_n 1, 1) := by decide +kernel
theorem dX10_throwsIf_10 : decode cX10_throwsIf 10 = .ok (.ireturn, 1) := by decide +kernel
theorem dX10_in_0 : decode cX10_in 0 = .ok (.iload_n 0, 1) := by decide +kernel
theorem dX10_in_1 : decode cX10_in 1 = .ok (.iload_n 1, 1) := by decide +kernel
theorem dX10_in_2 : decode cX10_in 2 = .ok (.if_icmp .lt 12, 3) := by decide +kernel
theorem dX10_in_5 : decode cX10_in 5 = .ok (.iload_n 0, 1) := by decide +kernel
theorem dX10_in_6 : decode cX10_in 6 = .ok (.iload_n 2, 1) := by decide +kernel
theorem dX10_in_7 : decode cX10_in 7 = .ok (.if_icmp .gt 7, 3) := by decide +kernel
theorem dX10_in_10 : decode cX10_in 10 = .ok (.iconst 1, 1) := by decide +kernel
theorem dX10_in_11 : decode cX10_in 11 = .ok (.goto 4, 3) := by decide +kernel
theorem dX10_in_14 : decode cX10_in 14 = .ok (.iconst 0, 1) := by decide +kernel
theorem dX10_in_15 : decode cX10_in 15 = .ok (.ireturn, 1) := by decide +kernel
theorem dX10_init_0 : decode cX10_init 0 = .ok (.aload_n 0, 1) := by decide +kernel
theorem dX10_init_1 : decode cX10_init 1 = .ok (.invokespecial 7, 3) := by decide +kernel
theorem dX10_init_4 : decode cX10_init 4 = .ok (.aload_n 0, 1) := by decide +kernel
theorem dX10_init_5 : decode cX10_init 5 = .ok (.sipush 280, 3) := by decide +kernel
theorem dX10_init_8 : decode cX10_init 8 = .ok (.newarray .boolean, 2) := by decide +kernel
theorem dX10_init_10 : decode cX10_init 10 = .ok (.putfield 13, 3) := by decide +kernel
theorem dX10_init_13 : decode cX10_init 13 = .ok (.aload_n 0, 1) := by decide +kernel
theorem dX10_init_14 : decode cX10_init 14 = .ok (.sipush 280, 3) := by decide +kernel
theorem dX10_init_17 : decode cX10_init 17 = .ok (.newarray .int, 2) := by decide +kernel
theorem dX10_init_19 : decode cX10_init 19 = .ok (.putfield 17, 3) := by decide +kernel
theorem dX10_init_22 : decode cX10_init 22 = .ok (.aload_n 0, 1) := by decide +kernel
theorem dX10_init_23 : decode cX10_init 23 = .ok (.sipush 280, 3) := by decide +kernel
theorem dX10_init_26 : decode cX10_init 26 = .ok (.newarray .int, 2) := by decide +kernel
theorem dX10_init_28 : decode cX10_init 28 = .ok (.putfield 21, 3) := by decide +kernel
theorem dX10_init_31 : decode cX10_init 31 = .ok (.aload_n 0, 1) := by decide +kernel
theorem dX10_init_32 : decode cX10_init 32 = .ok (.sipush 280, 3) := by decide +kernel
theorem dX10_init_35 : decode cX10_init 35 = .ok (.newarray .int, 2) := by decide +kernel
theorem dX10_init_37 : decode cX10_init 37 = .ok (.putfield 24, 3) := by decide +kernel
theorem dX10_init_40 : decode cX10_init 40 = .ok (.aload_n 0, 1) := by decide +kernel
theorem dX10_init_41 : decode cX10_init 41 = .ok (.sipush 2800, 3) := by decide +kernel
theorem dX10_init_44 : decode cX10_init 44 = .ok (.newarray .int, 2) := by decide +kernel
theorem dX10_init_46 : decode cX10_init 46 = .ok (.putfield 27, 3) := by decide +kernel
theorem dX10_init_49 : decode cX10_init 49 = .ok (.aload_n 0, 1) := by decide +kernel
theorem dX10_init_50 : decode cX10_init 50 = .ok (.bipush 10, 2) := by decide +kernel
theorem dX10_init_52 : decode cX10_init 52 = .ok (.newarray .int, 2) := by decide +kernel
theorem dX10_init_54 : decode cX10_init 54 = .ok (.putfield 30, 3) := by decide +kernel
theorem dX10_init_57 : decode cX10_init 57 = .ok (.aload_n 0, 1) := by decide +kernel
theorem dX10_init_58 : decode cX10_init 58 = .ok (.bipush 10, 2) := by decide +kernel
theorem dX10_init_60 : decode cX10_init 60 = .ok (.newarray .int, 2) := by decide +kernel
theorem dX10_init_62 : decode cX10_init 62 = .ok (.putfield 33, 3) := by decide +kernel
theorem dX10_init_65 : decode cX10_init 65 = .ok (.aload_n 0, 1) := by decide +kernel
theorem dX10_init_66 : decode cX10_init 66 = .ok (.bipush 10, 2) := by decide +kernel
theorem dX10_init_68 : decode cX10_init 68 = .ok (.newarray .int, 2) := by decide +kernel
theorem dX10_init_70 : decode cX10_init 70 = .ok (.putfield 36, 3) := by decide +kernel
theorem dX10_init_73 : decode cX10_init 73 = .ok (.aload_n 0, 1) := by decide +kernel
theorem dX10_init_74 : decode cX10_init 74 = .ok (.bipush 10, 2) := by decide +kernel
theorem dX10_init_76 : decode cX10_init 76 = .ok (.newarray .boolean, 2) := by decide +kernel
theorem dX10_init_78 : decode cX10_init 78 = .ok (.putfield 39, 3) := by decide +kernel
theorem dX10_init_81 : decode cX10_init 81 = .ok (.aload_n 0, 1) := by decide +kernel
theorem dX10_init_82 : decode cX10_init 82 = .ok (.sipush 1600, 3) := by decide +kernel
theorem dX10_init_85 : decode cX10_init 85 = .ok (.newarray .int, 2) := by decide +kernel
theorem dX10_init_87 : decode cX10_init 87 = .ok (.putfield 42, 3) := by decide +kernel
theorem dX10_init_90 : decode cX10_init 90 = .ok (.aload_n 0, 1) := by decide +kernel
theorem dX10_init_91 : decode cX10_init 91 = .ok (.sipush 1600, 3) := by decide +kernel
theorem dX10_init_94 : decode cX10_init 94 = .ok (.newarray .int, 2) := by decide +kernel
theorem dX10_init_96 : decode cX10_init 96 = .ok (.putfield 45, 3) := by decide +kernel
theorem dX10_init_99 : decode cX10_init 99 = .ok (.aload_n 0, 1) := by decide +kernel
theorem dX10_init_100 : decode cX10_init 100 = .ok (.bipush 40, 2) := by decide +kernel
theorem dX10_init_102 : decode cX10_init 102 = .ok (.newarray .int, 2) := by decide +kernel
theorem dX10_init_104 : decode cX10_init 104 = .ok (.putfield 48, 3) := by decide +kernel
theorem dX10_init_107 : decode cX10_init 107 = .ok (.aload_n 0, 1) := by decide +kernel
theorem dX10_init_108 : decode cX10_init 108 = .ok (.bipush 40, 2) := by decide +kernel
theorem dX10_init_110 : decode cX10_init 110 = .ok (.newarray .int, 2) := by decide +kernel
theorem dX10_init_112 : decode cX10_init 112 = .ok (.putfield 51, 3) := by decide +kernel
theorem dX10_init_115 : decode cX10_init 115 = .ok (.aload_n 0, 1) := by decide +kernel
theorem dX10_init_116 : decode cX10_init 116 = .ok (.bipush 40, 2) := by decide +kernel
theorem dX10_init_118 : decode cX10_init 118 = .ok (.newarray .int, 2) := by decide +kernel
theorem dX10_init_120 : decode cX10_init 120 = .ok (.putfield 54, 3) := by decide +kernel
theorem dX10_init_123 : decode cX10_init 123 = .ok (.aload_n 0, 1) := by decide +kernel
theorem dX10_init_124 : decode cX10_init 124 = .ok (.sipush 280, 3) := by decide +kernel
theorem dX10_init_127 : decode cX10_init 127 = .ok (.newarray .int, 2) := by decide +kernel
theorem dX10_init_129 : decode cX10_init 129 = .ok (.putfield 57, 3) := by decide +kernel
theorem dX10_init_132 : decode cX10_init 132 = .ok (.aload_n 0, 1) := by decide +kernel
theorem dX10_init_133 : decode cX10_init 133 = .ok (.sipush 1120, 3) := by decide +kernel
theorem dX10_init_136 : decode cX10_init 136 = .ok (.newarray .int, 2) := by decide +kernel
theorem dX10_init_138 : decode cX10_init 138 = .ok (.putfield 60, 3) := by decide +kernel
theorem dX10_init_141 : decode cX10_init 141 = .ok (.aload_n 0, 1) := by decide +kernel
theorem dX10_init_142 : decode cX10_init 142 = .ok (.sipush 1120, 3) := by decide +kernel
theorem dX10_init_145 : decode cX10_init 145 = .ok (.newarray .int, 2) := by decide +kernel
theorem dX10_init_147 : decode cX10_init 147 = .ok (.putfield 63, 3) := by decide +kernel
theorem dX10_init_150 : decode cX10_init 150 = .ok (.aload_n 0, 1) := by decide +kernel
theorem dX10_init_151 : decode cX10_init 151 = .ok (.sipush 1120, 3) := by decide +kernel
theorem dX10_init_154 : decode cX10_init 154 = .ok (.newarray .int, 2) := by decide +kernel
theorem dX10_init_156 : decode cX10_init 156 = .ok (.putfield 66, 3) := by decide +kernel
theorem dX10_init_159 : decode cX10_init 159 = .ok (.aload_n 0, 1) := by decide +kernel
theorem dX10_init_160 : decode cX10_init 160 = .ok (.sipush 1120, 3) := by decide +kernel
theorem dX10_init_163 : decode cX10_init 163 = .ok (.newarray .int, 2) := by decide +kernel
theorem dX10_init_165 : decode cX10_init 165 = .ok (.putfield 69, 3) := by decide +kernel
theorem dX10_init_168 : decode cX10_init 168 = .ok (.aload_n 0, 1) := by decide +kernel
theorem dX10_init_169 : decode cX10_init 169 = .ok (.sipush 400, 3) := by decide +kernel
theorem dX10_init_172 : decode cX10_init 172 = .ok (.newarray .byte, 2) := by decide +kernel
theorem dX10_init_174 : decode cX10_init 174 = .ok (.putfield 72, 3) := by decide +kernel
theorem dX10_init_177 : decode cX10_init 177 = .ok (.aload_n 0, 1) := by decide +kernel
theorem dX10_init_178 : decode cX10_init 178 = .ok (.iconst 5, 1) := by decide +kernel
theorem dX10_init_179 : decode cX10_init 179 = .ok (.newarray .int, 2) := by decide +kernel
theorem dX10_init_181 : decode cX10_init 181 = .ok (.putfield 76, 3) := by decide +kernel
theorem dX10_init_184 : decode cX10_init 184 = .ok (.aload_n 0, 1) := by decide +kernel
theorem dX10_init_185 : decode cX10_init 185 = .ok (.iconst (-1), 1) := by decide +kernel
theorem dX10_init_186 : decode cX10_init 186 = .ok (.putfield 79, 3) := by decide +kernel
theorem dX10_init_189 : decode cX10_init 189 = .ok (.aload_n 0, 1) := by decide +kernel
theorem dX10_init_190 : decode cX10_init 190 = .ok (.bipush 40, 2) := by decide +kernel
theorem dX10_init_192 : decode cX10_init 192 = .ok (.newarray .int, 2) := by decide +kernel
theorem dX10_init_194 : decode cX10_init 194 = .ok (.putfield 82, 3) := by decide +kernel
theorem dX10_init_197 : decode cX10_init 197 = .ok (.aload_n 0, 1) := by decide +kernel
theorem dX10_init_198 : decode cX10_init 198 = .ok (.bipush 40, 2) := by decide +kernel
theorem dX10_init_200 : decode cX10_init 200 = .ok (.newarray .int, 2) := by decide +kernel
theorem dX10_init_202 : decode cX10_init 202 = .ok (.putfield 85, 3) := by decide +kernel
theorem dX10_init_205 : decode cX10_init 205 = .ok (.aload_n 0, 1) := by decide +kernel
theorem dX10_init_206 : decode cX10_init 206 = .ok (.sipush 280, 3) := by decide +kernel
theorem dX10_init_209 : decode cX10_init 209 = .ok (.newarray .boolean, 2) := by decide +kernel
theorem dX10_init_211 : decode cX10_init 211 = .ok (.putfield 88, 3) := by decide +kernel
theorem dX10_init_214 : decode cX10_init 214 = .ok (.aload_n 0, 1) := by decide +kernel
theorem dX10_init_215 : decode cX10_init 215 = .ok (.sipush 280, 3) := by decide +kernel
theorem dX10_init_218 : decode cX10_init 218 = .ok (.newarray .int, 2) := by decide +kernel
theorem dX10_init_220 : decode cX10_init 220 = .ok (.putfield 91, 3) := by decide +kernel
theorem dX10_init_223 : decode cX10_init 223 = .ok (.aload_n 0, 1) := by decide +kernel
theorem dX10_init_224 : decode cX10_init 224 = .ok (.sipush 280, 3) := by decide +kernel
theorem dX10_init_227 : decode cX10_init 227 = .ok (.newarray .int, 2) := by decide +kernel
theorem dX10_init_229 : decode cX10_init 229 = .ok (.putfield 94, 3) := by decide +kernel
theorem dX10_init_232 : decode cX10_init 232 = .ok (.iconst 0, 1) := by decide +kernel
theorem dX10_init_233 : decode cX10_init 233 = .ok (.istore_n 1, 1) := by decide +kernel
theorem dX10_init_234 : decode cX10_init 234 = .ok (.iload_n 1, 1) := by decide +kernel
theorem dX10_init_235 : decode cX10_init 235 = .ok (.sipush 280, 3) := by decide +kernel
theorem dX10_init_238 : decode cX10_init 238 = .ok (.if_icmp .ge 16, 3) := by decide +kernel
theorem dX10_init_241 : decode cX10_init 241 = .ok (.aload_n 0, 1) := by decide +kernel
theorem dX10_init_242 : decode cX10_init 242 = .ok (.getfield 24, 3) := by decide +kernel
theorem dX10_init_245 : decode cX10_init 245 = .ok (.iload_n 1, 1) := by decide +kernel
theorem dX10_init_246 : decode cX10_init 246 = .ok (.iconst 1, 1) := by decide +kernel
theorem dX10_init_247 : decode cX10_init 247 = .ok (.iastore, 1) := by decide +kernel
theorem dX10_init_248 : decode cX10_init 248 = .ok (.iinc 1 1, 3) := by decide +kernel
theorem dX10_init_251 : decode cX10_init 251 = .ok (.goto (-17), 3) := by decide +kernel
theorem dX10_init_254 : decode cX10_init 254 = .ok (.return_, 1) := by decide +kernel
theorem dX10_noSquare_0 : decode cX10_noSquare 0 = .ok (.iload_n 0, 1) := by decide +kernel
theorem dX10_noSquare_1 : decode cX10_noSquare 1 = .ok (.iconst 0, 1) := by decide +kernel
theorem dX10_noSquare_2 : decode cX10_noSquare 2 = .ok (.sipush 279, 3) := by decide +kernel
theorem dX10_noSquare_5 : decode cX10_noSquare 5 = .ok (.invokestatic 97, 3) := by decide +kernel
theorem dX10_noSquare_8 : decode cX10_noSquare 8 = .ok (.ifCond .ne 7, 3) := by decide +kernel
theorem dX10_noSquare_11 : decode cX10_noSquare 11 = .ok (.iconst 1, 1) := by decide +kernel
theorem dX10_noSquare_12 : decode cX10_noSquare 12 = .ok (.goto 4, 3) := by decide +kernel
theorem dX10_noSquare_15 : decode cX10_noSquare 15 = .ok (.iconst 0, 1) := by decide +kernel
theorem dX10_noSquare_16 : decode cX10_noSquare 16 = .ok (.ireturn, 1) := by decide +kernel
theorem dX10_noBerg_0 : decode cX10_noBerg 0 = .ok (.iload_n 1, 1) := by decide +kernel
theorem dX10_noBerg_1 : decode cX10_noBerg 1 = .ok (.iconst 0, 1) := by decide +kernel
theorem dX10_noBerg_2 : decode cX10_noBerg 2 = .ok (.aload_n 0, 1) := by decide +kernel
theorem dX10_noBerg_3 : decode cX10_noBerg 3 = .ok (.getfield 101, 3) := by decide +kernel
theorem dX10_noBerg_6 : decode cX10_noBerg 6 = .ok (.iconst 1, 1) := by decide +kernel
theorem dX10_noBerg_7 : decode cX10_noBerg 7 = .ok (.isub, 1) := by decide +kernel
theorem dX10_noBerg_8 : decode cX10_noBerg 8 = .ok (.invokestatic 97, 3) := by decide +kernel
theorem dX10_noBerg_11 : decode cX10_noBerg 11 = .ok (.ifCond .ne 7, 3) := by decide +kernel
theorem dX10_noBerg_14 : decode cX10_noBerg 14 = .ok (.iconst 1, 1) := by decide +kernel
theorem dX10_noBerg_15 : decode cX10_noBerg 15 = .ok (.goto 4, 3) := by decide +kernel
theorem dX10_noBerg_18 : decode cX10_noBerg 18 = .ok (.iconst 0, 1) := by decide +kernel
theorem dX10_noBerg_19 : decode cX10_noBerg 19 = .ok (.ireturn, 1) := by decide +kernel
theorem dX10_noWarning_0 : decode cX10_noWarning 0 = .ok (.iload_n 1, 1) := by decide +kernel
theorem dX10_noWarning_1 : decode cX10_noWarning 1 = .ok (.iconst 0, 1) := by decide +kernel
theorem dX10_noWarning_2 : decode cX10_noWarning 2 = .ok (.aload_n 0, 1) := by decide +kernel
theorem dX10_noWarning_3 : decode cX10_noWarning 3 = .ok (.getfield 104, 3) := by decide +kernel
theorem dX10_noWarning_6 : decode cX10_noWarning 6 = .ok (.iconst 1, 1) := by decide +kernel
theorem dX10_noWarning_7 : decode cX10_noWarning 7 = .ok (.isub, 1) := by decide +kernel
theorem dX10_noWarning_8 : decode cX10_noWarning 8 = .ok (.invokestatic 97, 3) := by decide +kernel
theorem dX10_noWarning_11 : decode cX10_noWarning 11 = .ok (.ifCond .ne 7, 3) := by decide +kernel
theorem dX10_noWarning_14 : decode cX10_noWarning 14 = .ok (.iconst 1, 1) := by decide +kernel
theorem dX10_noWarning_15 : decode cX10_noWarning 15 = .ok (.goto 4, 3) := by decide +kernel
theorem dX10_noWarning_18 : decode cX10_noWarning 18 = .ok (.iconst 0, 1) := by decide +kernel
theorem dX10_noWarning_19 : decode cX10_noWarning 19 = .ok (.ireturn, 1) := by decide +kernel
theorem dX10_isSea_0 : decode cX10_isSea 0 = .ok (.iload_n 0, 1) := by decide +kernel
theorem dX10_isSea_1 : decode cX10_isSea 1 = .ok (.ifCond .lt 23, 3) := by decide +kernel
theorem dX10_isSea_4 : decode cX10_isSea 4 = .ok (.iload_n 1, 1) := by decide +kernel
theorem dX10_isSea_5 : decode cX10_isSea 5 = .ok (.ifCond .lt 19, 3) := by decide +kernel
theorem dX10_isSea_8 : decode cX10_isSea 8 = .ok (.iload_n 0, 1) := by decide +kernel
theorem dX10_isSea_9 : decode cX10_isSea 9 = .ok (.bipush 20, 2) := by decide +kernel
theorem dX10_isSea_11 : decode cX10_isSea 11 = .ok (.if_icmp .ge 13, 3) := by decide +kernel
theorem dX10_isSea_14 : decode cX10_isSea 14 = .ok (.iload_n 1, 1) := by decide +kernel
theorem dX10_isSea_15 : decode cX10_isSea 15 = .ok (.bipush 14, 2) := by decide +kernel
theorem dX10_isSea_17 : decode cX10_isSea 17 = .ok (.if_icmp .ge 7, 3) := by decide +kernel
theorem dX10_isSea_20 : decode cX10_isSea 20 = .ok (.iconst 1, 1) := by decide +kernel
theorem dX10_isSea_21 : decode cX10_isSea 21 = .ok (.goto 4, 3) := by decide +kernel
theorem dX10_isSea_24 : decode cX10_isSea 24 = .ok (.iconst 0, 1) := by decide +kernel
theorem dX10_isSea_25 : decode cX10_isSea 25 = .ok (.ireturn, 1) := by decide +kernel
theorem dX10_water_0 : decode cX10_water 0 = .ok (.aload_n 0, 1) := by decide +kernel
theorem dX10_water_1 : decode cX10_water 1 = .ok (.iconst 0, 1) := by decide +kernel
theorem dX10_water_2 : decode cX10_water 2 = .ok (.putfield 3, 3) := by decide +kernel
theorem dX10_water_5 : decode cX10_water 5 = .ok (.aload_n 0, 1) := by decide +kernel
theorem dX10_water_6 : decode cX10_water 6 = .ok (.iload_n 1, 1) := by decide +kernel
theorem dX10_water_7 : decode cX10_water 7 = .ok (.invokestatic 107, 3) := by decide +kernel
theorem dX10_water_10 : decode cX10_water 10 = .ok (.iconst 1, 1) := by decide +kernel
theorem dX10_water_11 : decode cX10_water 11 = .ok (.invokevirtual 111, 3) := by decide +kernel
theorem dX10_water_14 : decode cX10_water 14 = .ok (.ifCond .ne 47, 3) := by decide +kernel
theorem dX10_water_17 : decode cX10_water 17 = .ok (.aload_n 0, 1) := by decide +kernel
theorem dX10_water_18 : decode cX10_water 18 = .ok (.iload_n 2, 1) := by decide +kernel
theorem dX10_water_19 : decode cX10_water 19 = .ok (.bipush (-2), 2) := by decide +kernel
theorem dX10_water_21 : decode cX10_water 21 = .ok (.iconst 2, 1) := by decide +kernel
theorem dX10_water_22 : decode cX10_water 22 = .ok (.invokestatic 97, 3) := by decide +kernel
theorem dX10_water_25 : decode cX10_water 25 = .ok (.ifCond .eq 24, 3) := by decide +kernel
theorem dX10_water_28 : decode cX10_water 28 = .ok (.iload_n 3, 1) := by decide +kernel
theorem dX10_water_29 : decode cX10_water 29 = .ok (.bipush (-2), 2) := by decide +kernel
theorem dX10_water_31 : decode cX10_water 31 = .ok (.iconst 2, 1) := by decide +kernel
theorem dX10_water_32 : decode cX10_water 32 = .ok (.invokestatic 97, 3) := by decide +kernel
theorem dX10_water_35 : decode cX10_water 35 = .ok (.ifCond .eq 14, 3) := by decide +kernel
theorem dX10_water_38 : decode cX10_water 38 = .ok (.iload 4, 2) := by decide +kernel
theorem dX10_water_40 : decode cX10_water 40 = .ok (.iconst 0, 1) := by decide +kernel
theorem dX10_water_41 : decode cX10_water 41 = .ok (.bipush 50, 2) := by decide +kernel
theorem dX10_water_43 : decode cX10_water 43 = .ok (.invokestatic 97, 3) := by decide +kernel
theorem dX10_water_46 : decode cX10_water 46 = .ok (.ifCond .ne 7, 3) := by decide +kernel
theorem dX10_water_49 : decode cX10_water 49 = .ok (.iconst 1, 1) := by decide +kernel
theorem dX10_water_50 : decode cX10_water 50 = .ok (.goto 4, 3) := by decide +kernel
theorem dX10_water_53 : decode cX10_water 53 = .ok (.iconst 0, 1) := by decide +kernel
theorem dX10_water_54 : decode cX10_water 54 = .ok (.iconst 2, 1) := by decide +kernel
theorem dX10_water_55 : decode cX10_water 55 = .ok (.invokevirtual 111, 3) := by decide +kernel
theorem dX10_water_58 : decode cX10_water 58 = .ok (.ifCond .eq 4, 3) := by decide +kernel
theorem dX10_water_61 : decode cX10_water 61 = .ok (.return_, 1) := by decide +kernel
theorem dX10_water_62 : decode cX10_water 62 = .ok (.aload_n 0, 1) := by decide +kernel
theorem dX10_water_63 : decode cX10_water 63 = .ok (.getfield 17, 3) := by decide +kernel
theorem dX10_water_66 : decode cX10_water 66 = .ok (.iload_n 1, 1) := by decide +kernel
theorem dX10_water_67 : decode cX10_water 67 = .ok (.iload_n 2, 1) := by decide +kernel
theorem dX10_water_68 : decode cX10_water 68 = .ok (.iastore, 1) := by decide +kernel
theorem dX10_water_69 : decode cX10_water 69 = .ok (.aload_n 0, 1) := by decide +kernel
theorem dX10_water_70 : decode cX10_water 70 = .ok (.getfield 21, 3) := by decide +kernel
theorem dX10_water_73 : decode cX10_water 73 = .ok (.iload_n 1, 1) := by decide +kernel
theorem dX10_water_74 : decode cX10_water 74 = .ok (.iload_n 3, 1) := by decide +kernel
theorem dX10_water_75 : decode cX10_water 75 = .ok (.iastore, 1) := by decide +kernel
theorem dX10_water_76 : decode cX10_water 76 = .ok (.aload_n 0, 1) := by decide +kernel
theorem dX10_water_77 : decode cX10_water 77 = .ok (.getfield 24, 3) := by decide +kernel
theorem dX10_water_80 : decode cX10_water 80 = .ok (.iload_n 1, 1) := by decide +kernel
theorem dX10_water_81 : decode cX10_water 81 = .ok (.iload 4, 2) := by decide +kernel
theorem dX10_water_83 : decode cX10_water 83 = .ok (.iastore, 1) := by decide +kernel
theorem dX10_water_84 : decode cX10_water 84 = .ok (.return_, 1) := by decide +kernel
theorem dX10_mayBe_0 : decode cX10_mayBe 0 = .ok (.iconst 0, 1) := by decide +kernel
theorem dX10_mayBe_1 : decode cX10_mayBe 1 = .ok (.istore_n 2, 1) := by decide +kernel
theorem dX10_mayBe_2 : decode cX10_mayBe 2 = .ok (.iconst 0, 1) := by decide +kernel
theorem dX10_mayBe_3 : decode cX10_mayBe 3 = .ok (.istore_n 3, 1) := by decide +kernel
theorem dX10_mayBe_4 : decode cX10_mayBe 4 = .ok (.iload_n 3, 1) := by decide +kernel
theorem dX10_mayBe_5 : decode cX10_mayBe 5 = .ok (.aload_n 0, 1) := by decide +kernel
theorem dX10_mayBe_6 : decode cX10_mayBe 6 = .ok (.getfield 101, 3) := by decide +kernel
theorem dX10_mayBe_9 : decode cX10_mayBe 9 = .ok (.if_icmp .ge 34, 3) := by decide +kernel
theorem dX10_mayBe_12 : decode cX10_mayBe 12 = .ok (.iload_n 2, 1) := by decide +kernel
theorem dX10_mayBe_13 : decode cX10_mayBe 13 = .ok (.ifCond .ne 18, 3) := by decide +kernel
theorem dX10_mayBe_16 : decode cX10_mayBe 16 = .ok (.aload_n 0, 1) := by decide +kernel
theorem dX10_mayBe_17 : decode cX10_mayBe 17 = .ok (.getfield 27, 3) := by decide +kernel
theorem dX10_mayBe_20 : decode cX10_mayBe 20 = .ok (.sipush 280, 3) := by decide +kernel
theorem dX10_mayBe_23 : decode cX10_mayBe 23 = .ok (.iload_n 3, 1) := by decide +kernel
theorem dX10_mayBe_24 : decode cX10_mayBe 24 = .ok (.imul, 1) := by decide +kernel
theorem dX10_mayBe_25 : decode cX10_mayBe 25 = .ok (.iload_n 1, 1) := by decide +kernel
theorem dX10_mayBe_26 : decode cX10_mayBe 26 = .ok (.iadd, 1) := by decide +kernel
theorem dX10_mayBe_27 : decode cX10_mayBe 27 = .ok (.iaload, 1) := by decide +kernel
theorem dX10_mayBe_28 : decode cX10_mayBe 28 = .ok (.ifCond .le 7, 3) := by decide +kernel
theorem dX10_mayBe_31 : decode cX10_mayBe 31 = .ok (.iconst 1, 1) := by decide +kernel
theorem dX10_mayBe_32 : decode cX10_mayBe 32 = .ok (.goto 4, 3) := by decide +kernel
theorem dX10_mayBe_35 : decode cX10_mayBe 35 = .ok (.iconst 0, 1) := by decide +kernel
theorem dX10_mayBe_36 : decode cX10_mayBe 36 = .ok (.istore_n 2, 1) := by decide +kernel
theorem dX10_mayBe_37 : decode cX10_mayBe 37 = .ok (.iinc 3 1, 3) := by decide +kernel
theorem dX10_mayBe_40 : decode cX10_mayBe 40 = .ok (.goto (-36), 3) := by decide +kernel
theorem dX10_mayBe_43 : decode cX10_mayBe 43 = .ok (.iload_n 2, 1) := by decide +kernel
theorem dX10_mayBe_44 : decode cX10_mayBe 44 = .ok (.ireturn, 1) := by decide +kernel
theorem dX10_land_0 : decode cX10_land 0 = .ok (.aload_n 0, 1) := by decide +kernel
theorem dX10_land_1 : decode cX10_land 1 = .ok (.iconst 0, 1) := by decide +kernel
theorem dX10_land_2 : decode cX10_land 2 = .ok (.putfield 3, 3) := by decide +kernel
theorem dX10_land_5 : decode cX10_land 5 = .ok (.aload_n 0, 1) := by decide +kernel
theorem dX10_land_6 : decode cX10_land 6 = .ok (.iload_n 1, 1) := by decide +kernel
theorem dX10_land_7 : decode cX10_land 7 = .ok (.invokestatic 107, 3) := by decide +kernel
theorem dX10_land_10 : decode cX10_land 10 = .ok (.iconst 1, 1) := by decide +kernel
theorem dX10_land_11 : decode cX10_land 11 = .ok (.invokevirtual 111, 3) := by decide +kernel
theorem dX10_land_14 : decode cX10_land 14 = .ok (.ifCond .ne 28, 3) := by decide +kernel
theorem dX10_land_17 : decode cX10_land 17 = .ok (.aload_n 0, 1) := by decide +kernel
theorem dX10_land_18 : decode cX10_land 18 = .ok (.iload_n 2, 1) := by decide +kernel
theorem dX10_land_19 : decode cX10_land 19 = .ok (.ifCond .eq 15, 3) := by decide +kernel
theorem dX10_land_22 : decode cX10_land 22 = .ok (.aload_n 0, 1) := by decide +kernel
theorem dX10_land_23 : decode cX10_land 23 = .ok (.iload_n 1, 1) := by decide +kernel
theorem dX10_land_24 : decode cX10_land 24 = .ok (.invokevirtual 115, 3) := by decide +kernel
theorem dX10_land_27 : decode cX10_land 27 = .ok (.ifCond .eq 7, 3) := by decide +kernel
theorem dX10_land_30 : decode cX10_land 30 = .ok (.iconst 1, 1) := by decide +kernel
theorem dX10_land_31 : decode cX10_land 31 = .ok (.goto 4, 3) := by decide +kernel
theorem dX10_land_34 : decode cX10_land 34 = .ok (.iconst 0, 1) := by decide +kernel
theorem dX10_land_35 : decode cX10_land 35 = .ok (.iconst 2, 1) := by decide +kernel
theorem dX10_land_36 : decode cX10_land 36 = .ok (.invokevirtual 111, 3) := by decide +kernel
theorem dX10_land_39 : decode cX10_land 39 = .ok (.ifCond .eq 4, 3) := by decide +kernel
theorem dX10_land_42 : decode cX10_land 42 = .ok (.return_, 1) := by decide +kernel
theorem dX10_land_43 : decode cX10_land 43 = .ok (.aload_n 0, 1) := by decide +kernel
theorem dX10_land_44 : decode cX10_land 44 = .ok (.getfield 13, 3) := by decide +kernel
theorem dX10_land_47 : decode cX10_land 47 = .ok (.iload_n 1, 1) := by decide +kernel
theorem dX10_land_48 : decode cX10_land 48 = .ok (.iload_n 2, 1) := by decide +kernel
theorem dX10_land_49 : decode cX10_land 49 = .ok (.bastore, 1) := by decide +kernel
theorem dX10_land_50 : decode cX10_land 50 = .ok (.return_, 1) := by decide +kernel
theorem dX10_puts_0 : decode cX10_puts 0 = .ok (.iconst 0, 1) := by decide +kernel
theorem dX10_puts_1 : decode cX10_puts 1 = .ok (.istore 4, 2) := by decide +kernel
theorem dX10_puts_3 : decode cX10_puts 3 = .ok (.iload 4, 2) := by decide +kernel
theorem dX10_puts_5 : decode cX10_puts 5 = .ok (.sipush 280, 3) := by decide +kernel
theorem dX10_puts_8 : decode cX10_puts 8 = .ok (.if_icmp .ge 34, 3) := by decide +kernel
theorem dX10_puts_11 : decode cX10_puts 11 = .ok (.aload_n 0, 1) := by decide +kernel
theorem dX10_puts_12 : decode cX10_puts 12 = .ok (.getfield 27, 3) := by decide +kernel
theorem dX10_puts_15 : decode cX10_puts 15 = .ok (.sipush 280, 3) := by decide +kernel
theorem dX10_puts_18 : decode cX10_puts 18 = .ok (.iload_n 1, 1) := by decide +kernel
theorem dX10_puts_19 : decode cX10_puts 19 = .ok (.imul, 1) := by decide +kernel
theorem dX10_puts_20 : decode cX10_puts 20 = .ok (.iload 4, 2) := by decide +kernel
theorem dX10_puts_22 : decode cX10_puts 22 = .ok (.iadd, 1) := by decide +kernel
theorem dX10_puts_23 : decode cX10_puts 23 = .ok (.iload 4, 2) := by decide +kernel
theorem dX10_puts_25 : decode cX10_puts 25 = .ok (.iload_n 2, 1) := by decide +kernel
theorem dX10_puts_26 : decode cX10_puts 26 = .ok (.if_icmp .ne 8, 3) := by decide +kernel
theorem dX10_puts_29 : decode cX10_puts 29 = .ok (.ldc 118, 2) := by decide +kernel
theorem dX10_puts_31 : decode cX10_puts 31 = .ok (.goto 4, 3) := by decide +kernel
theorem dX10_puts_34 : decode cX10_puts 34 = .ok (.iconst 0, 1) := by decide +kernel
theorem dX10_puts_35 : decode cX10_puts 35 = .ok (.iastore, 1) := by decide +kernel
theorem dX10_puts_36 : decode cX10_puts 36 = .ok (.iinc 4 1, 3) := by decide +kernel
theorem dX10_puts_39 : decode cX10_puts 39 = .ok (.goto (-36), 3) := by decide +kernel
theorem dX10_puts_42 : decode cX10_puts 42 = .ok (.aload_n 0, 1) := by decide +kernel
theorem dX10_puts_43 : decode cX10_puts 43 = .ok (.getfield 30, 3) := by decide +kernel
theorem dX10_puts_46 : decode cX10_puts 46 = .ok (.iload_n 1, 1) := by decide +kernel
theorem dX10_puts_47 : decode cX10_puts 47 = .ok (.iload_n 3, 1) := by decide +kernel
theorem dX10_puts_48 : decode cX10_puts 48 = .ok (.iastore, 1) := by decide +kernel
theorem dX10_puts_49 : decode cX10_puts 49 = .ok (.aload_n 0, 1) := by decide +kernel
theorem dX10_puts_50 : decode cX10_puts 50 = .ok (.getfield 33, 3) := by decide +kernel
theorem dX10_puts_53 : decode cX10_puts 53 = .ok (.iload_n 1, 1) := by decide +kernel
theorem dX10_puts_54 : decode cX10_puts 54 = .ok (.iconst 0, 1) := by decide +kernel
theorem dX10_puts_55 : decode cX10_puts 55 = .ok (.iastore, 1) := by decide +kernel
theorem dX10_puts_56 : decode cX10_puts 56 = .ok (.aload_n 0, 1) := by decide +kernel
theorem dX10_puts_57 : decode cX10_puts 57 = .ok (.getfield 36, 3) := by decide +kernel
theorem dX10_puts_60 : decode cX10_puts 60 = .ok (.iload_n 1, 1) := by decide +kernel
theorem dX10_puts_61 : decode cX10_puts 61 = .ok (.iconst 0, 1) := by decide +kernel
theorem dX10_puts_62 : decode cX10_puts 62 = .ok (.iastore, 1) := by decide +kernel
theorem dX10_puts_63 : decode cX10_puts 63 = .ok (.aload_n 0, 1) := by decide +kernel
theorem dX10_puts_64 : decode cX10_puts 64 = .ok (.getfield 39, 3) := by decide +kernel
theorem dX10_puts_67 : decode cX10_puts 67 = .ok (.iload_n 1, 1) := by decide +kernel
theorem dX10_puts_68 : decode cX10_puts 68 = .ok (.iconst 0, 1) := by decide +kernel
theorem dX10_puts_69 : decode cX10_puts 69 = .ok (.bastore, 1) := by decide +kernel
theorem dX10_puts_70 : decode cX10_puts 70 = .ok (.return_, 1) := by decide +kernel
theorem dX10_tell_0 : decode cX10_tell 0 = .ok (.aload_n 0, 1) := by decide +kernel
theorem dX10_tell_1 : decode cX10_tell 1 = .ok (.iconst 0, 1) := by decide +kernel
theorem dX10_tell_2 : decode cX10_tell 2 = .ok (.putfield 3, 3) := by decide +kernel
theorem dX10_tell_5 : decode cX10_tell 5 = .ok (.aload_n 0, 1) := by decide +kernel
theorem dX10_tell_6 : decode cX10_tell 6 = .ok (.iload_n 1, 1) := by decide +kernel
theorem dX10_tell_7 : decode cX10_tell 7 = .ok (.invokestatic 107, 3) := by decide +kernel
theorem dX10_tell_10 : decode cX10_tell 10 = .ok (.iconst 1, 1) := by decide +kernel
theorem dX10_tell_11 : decode cX10_tell 11 = .ok (.invokevirtual 111, 3) := by decide +kernel
theorem dX10_tell_14 : decode cX10_tell 14 = .ok (.ifCond .ne 36, 3) := by decide +kernel
theorem dX10_tell_17 : decode cX10_tell 17 = .ok (.aload_n 0, 1) := by decide +kernel
theorem dX10_tell_18 : decode cX10_tell 18 = .ok (.iload_n 2, 1) := by decide +kernel
theorem dX10_tell_19 : decode cX10_tell 19 = .ok (.iconst 1, 1) := by decide +kernel
theorem dX10_tell_20 : decode cX10_tell 20 = .ok (.sipush 1000, 3) := by decide +kernel
theorem dX10_tell_23 : decode cX10_tell 23 = .ok (.invokestatic 97, 3) := by decide +kernel
theorem dX10_tell_26 : decode cX10_tell 26 = .ok (.ifCond .eq 12, 3) := by decide +kernel
theorem dX10_tell_29 : decode cX10_tell 29 = .ok (.aload_n 0, 1) := by decide +kernel
theorem dX10_tell_30 : decode cX10_tell 30 = .ok (.getfield 13, 3) := by decide +kernel
theorem dX10_tell_33 : decode cX10_tell 33 = .ok (.iload_n 1, 1) := by decide +kernel
theorem dX10_tell_34 : decode cX10_tell 34 = .ok (.baload, 1) := by decide +kernel
theorem dX10_tell_35 : decode cX10_tell 35 = .ok (.ifCond .eq 7, 3) := by decide +kernel
theorem dX10_tell_38 : decode cX10_tell 38 = .ok (.iconst 1, 1) := by decide +kernel
theorem dX10_tell_39 : decode cX10_tell 39 = .ok (.goto 4, 3) := by decide +kernel
theorem dX10_tell_42 : decode cX10_tell 42 = .ok (.iconst 0, 1) := by decide +kernel
theorem dX10_tell_43 : decode cX10_tell 43 = .ok (.iconst 2, 1) := by decide +kernel
theorem dX10_tell_44 : decode cX10_tell 44 = .ok (.invokevirtual 111, 3) := by decide +kernel
theorem dX10_tell_47 : decode cX10_tell 47 = .ok (.ifCond .eq 5, 3) := by decide +kernel
theorem dX10_tell_50 : decode cX10_tell 50 = .ok (.iconst 0, 1) := by decide +kernel
theorem dX10_tell_51 : decode cX10_tell 51 = .ok (.ireturn, 1) := by decide +kernel
theorem dX10_tell_52 : decode cX10_tell 52 = .ok (.iconst (-1), 1) := by decide +kernel
theorem dX10_tell_53 : decode cX10_tell 53 = .ok (.istore_n 3, 1) := by decide +kernel
theorem dX10_tell_54 : decode cX10_tell 54 = .ok (.iconst 0, 1) := by decide +kernel
theorem dX10_tell_55 : decode cX10_tell 55 = .ok (.istore 4, 2) := by decide +kernel
theorem dX10_tell_57 : decode cX10_tell 57 = .ok (.iload 4, 2) := by decide +kernel
theorem dX10_tell_59 : decode cX10_tell 59 = .ok (.aload_n 0, 1) := by decide +kernel
theorem dX10_tell_60 : decode cX10_tell 60 = .ok (.getfield 101, 3) := by decide +kernel
theorem dX10_tell_63 : decode cX10_tell 63 = .ok (.if_icmp .ge 74, 3) := by decide +kernel
theorem dX10_tell_66 : decode cX10_tell 66 = .ok (.aload_n 0, 1) := by decide +kernel
theorem dX10_tell_67 : decode cX10_tell 67 = .ok (.getfield 27, 3) := by decide +kernel
theorem dX10_tell_70 : decode cX10_tell 70 = .ok (.sipush 280, 3) := by decide +kernel
theorem dX10_tell_73 : decode cX10_tell 73 = .ok (.iload 4, 2) := by decide +kernel
theorem dX10_tell_75 : decode cX10_tell 75 = .ok (.imul, 1) := by decide +kernel
theorem dX10_tell_76 : decode cX10_tell 76 = .ok (.iload_n 1, 1) := by decide +kernel
theorem dX10_tell_77 : decode cX10_tell 77 = .ok (.iadd, 1) := by decide +kernel
theorem dX10_tell_78 : decode cX10_tell 78 = .ok (.iaload, 1) := by decide +kernel
theorem dX10_tell_79 : decode cX10_tell 79 = .ok (.istore 5, 2) := by decide +kernel
theorem dX10_tell_81 : decode cX10_tell 81 = .ok (.aload_n 0, 1) := by decide +kernel
theorem dX10_tell_82 : decode cX10_tell 82 = .ok (.getfield 39, 3) := by decide +kernel
theorem dX10_tell_85 : decode cX10_tell 85 = .ok (.iload 4, 2) := by decide +kernel
theorem dX10_tell_87 : decode cX10_tell 87 = .ok (.baload, 1) := by decide +kernel
theorem dX10_tell_88 : decode cX10_tell 88 = .ok (.ifCond .ne 43, 3) := by decide +kernel
theorem dX10_tell_91 : decode cX10_tell 91 = .ok (.iload 5, 2) := by decide +kernel
theorem dX10_tell_93 : decode cX10_tell 93 = .ok (.ifCond .le 38, 3) := by decide +kernel
theorem dX10_tell_96 : decode cX10_tell 96 = .ok (.aload_n 0, 1) := by decide +kernel
theorem dX10_tell_97 : decode cX10_tell 97 = .ok (.getfield 30, 3) := by decide +kernel
theorem dX10_tell_100 : decode cX10_tell 100 = .ok (.iload 4, 2) := by decide +kernel
theorem dX10_tell_102 : decode cX10_tell 102 = .ok (.iaload, 1) := by decide +kernel
theorem dX10_tell_103 : decode cX10_tell 103 = .ok (.iload_n 2, 1) := by decide +kernel
theorem dX10_tell_104 : decode cX10_tell 104 = .ok (.if_icmp .lt 27, 3) := by decide +kernel
theorem dX10_tell_107 : decode cX10_tell 107 = .ok (.iload_n 3, 1) := by decide +kernel
theorem dX10_tell_108 : decode cX10_tell 108 = .ok (.ifCond .lt 20, 3) := by decide +kernel
theorem dX10_tell_111 : decode cX10_tell 111 = .ok (.iload 5, 2) := by decide +kernel
theorem dX10_tell_113 : decode cX10_tell 113 = .ok (.aload_n 0, 1) := by decide +kernel
theorem dX10_tell_114 : decode cX10_tell 114 = .ok (.getfield 27, 3) := by decide +kernel
theorem dX10_tell_117 : decode cX10_tell 117 = .ok (.sipush 280, 3) := by decide +kernel
theorem dX10_tell_120 : decode cX10_tell 120 = .ok (.iload_n 3, 1) := by decide +kernel
theorem dX10_tell_121 : decode cX10_tell 121 = .ok (.imul, 1) := by decide +kernel
theorem dX10_tell_122 : decode cX10_tell 122 = .ok (.iload_n 1, 1) := by decide +kernel
theorem dX10_tell_123 : decode cX10_tell 123 = .ok (.iadd, 1) := by decide +kernel
theorem dX10_tell_124 : decode cX10_tell 124 = .ok (.iaload, 1) := by decide +kernel
theorem dX10_tell_125 : decode cX10_tell 125 = .ok (.if_icmp .le 6, 3) := by decide +kernel
theorem dX10_tell_128 : decode cX10_tell 128 = .ok (.iload 4, 2) := by decide +kernel
theorem dX10_tell_130 : decode cX10_tell 130 = .ok (.istore_n 3, 1) := by decide +kernel
theorem dX10_tell_131 : decode cX10_tell 131 = .ok (.iinc 4 1, 3) := by decide +kernel
theorem dX10_tell_134 : decode cX10_tell 134 = .ok (.goto (-77), 3) := by decide +kernel
theorem dX10_tell_137 : decode cX10_tell 137 = .ok (.aload_n 0, 1) := by decide +kernel
theorem dX10_tell_138 : decode cX10_tell 138 = .ok (.iload_n 3, 1) := by decide +kernel
theorem dX10_tell_139 : decode cX10_tell 139 = .ok (.ifCond .ge 16, 3) := by decide +kernel
theorem dX10_tell_142 : decode cX10_tell 142 = .ok (.aload_n 0, 1) := by decide +kernel
theorem dX10_tell_143 : decode cX10_tell 143 = .ok (.getfield 101, 3) := by decide +kernel
theorem dX10_tell_146 : decode cX10_tell 146 = .ok (.bipush 10, 2) := by decide +kernel
theorem dX10_tell_148 : decode cX10_tell 148 = .ok (.if_icmp .ne 7, 3) := by decide +kernel
theorem dX10_tell_151 : decode cX10_tell 151 = .ok (.iconst 1, 1) := by decide +kernel
theorem dX10_tell_152 : decode cX10_tell 152 = .ok (.goto 4, 3) := by decide +kernel
theorem dX10_tell_155 : decode cX10_tell 155 = .ok (.iconst 0, 1) := by decide +kernel
theorem dX10_tell_156 : decode cX10_tell 156 = .ok (.iconst 3, 1) := by decide +kernel
theorem dX10_tell_157 : decode cX10_tell 157 = .ok (.invokevirtual 111, 3) := by decide +kernel
theorem dX10_tell_160 : decode cX10_tell 160 = .ok (.ifCond .eq 5, 3) := by decide +kernel
theorem dX10_tell_163 : decode cX10_tell 163 = .ok (.iconst 0, 1) := by decide +kernel
theorem dX10_tell_164 : decode cX10_tell 164 = .ok (.ireturn, 1) := by decide +kernel
theorem dX10_tell_165 : decode cX10_tell 165 = .ok (.iload_n 3, 1) := by decide +kernel
theorem dX10_tell_166 : decode cX10_tell 166 = .ok (.ifCond .ge 21, 3) := by decide +kernel
theorem dX10_tell_169 : decode cX10_tell 169 = .ok (.aload_n 0, 1) := by decide +kernel
theorem dX10_tell_170 : decode cX10_tell 170 = .ok (.getfield 101, 3) := by decide +kernel
theorem dX10_tell_173 : decode cX10_tell 173 = .ok (.istore_n 3, 1) := by decide +kernel
theorem dX10_tell_174 : decode cX10_tell 174 = .ok (.aload_n 0, 1) := by decide +kernel
theorem dX10_tell_175 : decode cX10_tell 175 = .ok (.dup, 1) := by decide +kernel
theorem dX10_tell_176 : decode cX10_tell 176 = .ok (.getfield 101, 3) := by decide +kernel
theorem dX10_tell_179 : decode cX10_tell 179 = .ok (.iconst 1, 1) := by decide +kernel
theorem dX10_tell_180 : decode cX10_tell 180 = .ok (.iadd, 1) := by decide +kernel
theorem dX10_tell_181 : decode cX10_tell 181 = .ok (.putfield 101, 3) := by decide +kernel
theorem dX10_tell_184 : decode cX10_tell 184 = .ok (.goto 13, 3) := by decide +kernel
theorem dX10_tell_187 : decode cX10_tell 187 = .ok (.aload_n 0, 1) := by decide +kernel
theorem dX10_tell_188 : decode cX10_tell 188 = .ok (.dup, 1) := by decide +kernel
theorem dX10_tell_189 : decode cX10_tell 189 = .ok (.getfield 119, 3) := by decide +kernel
theorem dX10_tell_192 : decode cX10_tell 192 = .ok (.iconst 1, 1) := by decide +kernel
theorem dX10_tell_193 : decode cX10_tell 193 = .ok (.iadd, 1) := by decide +kernel
theorem dX10_tell_194 : decode cX10_tell 194 = .ok (.putfield 119, 3) := by decide +kernel
theorem dX10_tell_197 : decode cX10_tell 197 = .ok (.aload_n 0, 1) := by decide +kernel
theorem dX10_tell_198 : decode cX10_tell 198 = .ok (.iload_n 3, 1) := by decide +kernel
theorem dX10_tell_199 : decode cX10_tell 199 = .ok (.iload_n 1, 1) := by decide +kernel
theorem dX10_tell_200 : decode cX10_tell 200 = .ok (.iload_n 2, 1) := by decide +kernel
theorem dX10_tell_201 : decode cX10_tell 201 = .ok (.invokevirtual 122, 3) := by decide +kernel
theorem dX10_tell_204 : decode cX10_tell 204 = .ok (.iload_n 3, 1) := by decide +kernel
theorem dX10_tell_205 : decode cX10_tell 205 = .ok (.ireturn, 1) := by decide +kernel
theorem dX10_drifts_0 : decode cX10_drifts 0 = .ok (.iconst 0, 1) := by decide +kernel
theorem dX10_drifts_1 : decode cX10_drifts 1 = .ok (.istore_n 2, 1) := by decide +kernel
theorem dX10_drifts_2 : decode cX10_drifts 2 = .ok (.iload_n 2, 1) := by decide +kernel
theorem dX10_drifts_3 : decode cX10_drifts 3 = .ok (.sipush 280, 3) := by decide +kernel
theorem dX10_drifts_6 : decode cX10_drifts 6 = .ok (.if_icmp .ge 16, 3) := by decide +kernel
theorem dX10_drifts_9 : decode cX10_drifts 9 = .ok (.aload_n 0, 1) := by decide +kernel
theorem dX10_drifts_10 : decode cX10_drifts 10 = .ok (.getfield 57, 3) := by decide +kernel
theorem dX10_drifts_13 : decode cX10_drifts 13 = .ok (.iload_n 2, 1) := by decide +kernel
theorem dX10_drifts_14 : decode cX10_drifts 14 = .ok (.iconst 0, 1) := by decide +kernel
theorem dX10_drifts_15 : decode cX10_drifts 15 = .ok (.iastore, 1) := by decide +kernel
theorem dX10_drifts_16 : decode cX10_drifts 16 = .ok (.iinc 2 1, 3) := by decide +kernel
theorem dX10_drifts_19 : decode cX10_drifts 19 = .ok (.goto (-17), 3) := by decide +kernel
theorem dX10_drifts_22 : decode cX10_drifts 22 = .ok (.iconst 0, 1) := by decide +kernel
theorem dX10_drifts_23 : decode cX10_drifts 23 = .ok (.istore_n 2, 1) := by decide +kernel
theorem dX10_drifts_24 : decode cX10_drifts 24 = .ok (.iload_n 2, 1) := by decide +kernel
theorem dX10_drifts_25 : decode cX10_drifts 25 = .ok (.sipush 280, 3) := by decide +kernel
theorem dX10_drifts_28 : decode cX10_drifts 28 = .ok (.if_icmp .ge 108, 3) := by decide +kernel
theorem dX10_drifts_31 : decode cX10_drifts 31 = .ok (.aload_n 0, 1) := by decide +kernel
theorem dX10_drifts_32 : decode cX10_drifts 32 = .ok (.getfield 27, 3) := by decide +kernel
theorem dX10_drifts_35 : decode cX10_drifts 35 = .ok (.sipush 280, 3) := by decide +kernel
theorem dX10_drifts_38 : decode cX10_drifts 38 = .ok (.iload_n 1, 1) := by decide +kernel
theorem dX10_drifts_39 : decode cX10_drifts 39 = .ok (.imul, 1) := by decide +kernel
theorem dX10_drifts_40 : decode cX10_drifts 40 = .ok (.iload_n 2, 1) := by decide +kernel
theorem dX10_drifts_41 : decode cX10_drifts 41 = .ok (.iadd, 1) := by decide +kernel
theorem dX10_drifts_42 : decode cX10_drifts 42 = .ok (.iaload, 1) := by decide +kernel
theorem dX10_drifts_43 : decode cX10_drifts 43 = .ok (.istore_n 3, 1) := by decide +kernel
theorem dX10_drifts_44 : decode cX10_drifts 44 = .ok (.iload_n 2, 1) := by decide +kernel
theorem dX10_drifts_45 : decode cX10_drifts 45 = .ok (.bipush 20, 2) := by decide +kernel
theorem dX10_drifts_47 : decode cX10_drifts 47 = .ok (.irem, 1) := by decide +kernel
theorem dX10_drifts_48 : decode cX10_drifts 48 = .ok (.aload_n 0, 1) := by decide +kernel
theorem dX10_drifts_49 : decode cX10_drifts 49 = .ok (.getfield 17, 3) := by decide +kernel
theorem dX10_drifts_52 : decode cX10_drifts 52 = .ok (.iload_n 2, 1) := by decide +kernel
theorem dX10_drifts_53 : decode cX10_drifts 53 = .ok (.iaload, 1) := by decide +kernel
theorem dX10_drifts_54 : decode cX10_drifts 54 = .ok (.iadd, 1) := by decide +kernel
theorem dX10_drifts_55 : decode cX10_drifts 55 = .ok (.istore 4, 2) := by decide +kernel
theorem dX10_drifts_57 : decode cX10_drifts 57 = .ok (.iload_n 2, 1) := by decide +kernel
theorem dX10_drifts_58 : decode cX10_drifts 58 = .ok (.bipush 20, 2) := by decide +kernel
theorem dX10_drifts_60 : decode cX10_drifts 60 = .ok (.idiv, 1) := by decide +kernel
theorem dX10_drifts_61 : decode cX10_drifts 61 = .ok (.aload_n 0, 1) := by decide +kernel
theorem dX10_drifts_62 : decode cX10_drifts 62 = .ok (.getfield 21, 3) := by decide +kernel
theorem dX10_drifts_65 : decode cX10_drifts 65 = .ok (.iload_n 2, 1) := by decide +kernel
theorem dX10_drifts_66 : decode cX10_drifts 66 = .ok (.iaload, 1) := by decide +kernel
theorem dX10_drifts_67 : decode cX10_drifts 67 = .ok (.iadd, 1) := by decide +kernel
theorem dX10_drifts_68 : decode cX10_drifts 68 = .ok (.istore 5, 2) := by decide +kernel
theorem dX10_drifts_70 : decode cX10_drifts 70 = .ok (.iload 4, 2) := by decide +kernel
theorem dX10_drifts_72 : decode cX10_drifts 72 = .ok (.iload 5, 2) := by decide +kernel
theorem dX10_drifts_74 : decode cX10_drifts 74 = .ok (.invokestatic 126, 3) := by decide +kernel
theorem dX10_drifts_77 : decode cX10_drifts 77 = .ok (.ifCond .ne 16, 3) := by decide +kernel
theorem dX10_drifts_80 : decode cX10_drifts 80 = .ok (.aload_n 0, 1) := by decide +kernel
theorem dX10_drifts_81 : decode cX10_drifts 81 = .ok (.getfield 36, 3) := by decide +kernel
theorem dX10_drifts_84 : decode cX10_drifts 84 = .ok (.iload_n 1, 1) := by decide +kernel
theorem dX10_drifts_85 : decode cX10_drifts 85 = .ok (.dup2, 1) := by decide +kernel
theorem dX10_drifts_86 : decode cX10_drifts 86 = .ok (.iaload, 1) := by decide +kernel
theorem dX10_drifts_87 : decode cX10_drifts 87 = .ok (.iload_n 3, 1) := by decide +kernel
theorem dX10_drifts_88 : decode cX10_drifts 88 = .ok (.iadd, 1) := by decide +kernel
theorem dX10_drifts_89 : decode cX10_drifts 89 = .ok (.iastore, 1) := by decide +kernel
theorem dX10_drifts_90 : decode cX10_drifts 90 = .ok (.goto 40, 3) := by decide +kernel
theorem dX10_drifts_93 : decode cX10_drifts 93 = .ok (.aload_n 0, 1) := by decide +kernel
theorem dX10_drifts_94 : decode cX10_drifts 94 = .ok (.getfield 57, 3) := by decide +kernel
theorem dX10_drifts_97 : decode cX10_drifts 97 = .ok (.aload_n 0, 1) := by decide +kernel
theorem dX10_drifts_98 : decode cX10_drifts 98 = .ok (.getfield 13, 3) := by decide +kernel
theorem dX10_drifts_101 : decode cX10_drifts 101 = .ok (.bipush 20, 2) := by decide +kernel
theorem dX10_drifts_103 : decode cX10_drifts 103 = .ok (.iload 5, 2) := by decide +kernel
theorem dX10_drifts_105 : decode cX10_drifts 105 = .ok (.imul, 1) := by decide +kernel
theorem dX10_drifts_106 : decode cX10_drifts 106 = .ok (.iload 4, 2) := by decide +kernel
theorem dX10_drifts_108 : decode cX10_drifts 108 = .ok (.iadd, 1) := by decide +kernel
theorem dX10_drifts_109 : decode cX10_drifts 109 = .ok (.baload, 1) := by decide +kernel
theorem dX10_drifts_110 : decode cX10_drifts 110 = .ok (.ifCond .eq 7, 3) := by decide +kernel
theorem dX10_drifts_113 : decode cX10_drifts 113 = .ok (.iload_n 2, 1) := by decide +kernel
theorem dX10_drifts_114 : decode cX10_drifts 114 = .ok (.goto 11, 3) := by decide +kernel
theorem dX10_drifts_117 : decode cX10_drifts 117 = .ok (.bipush 20, 2) := by decide +kernel
theorem dX10_drifts_119 : decode cX10_drifts 119 = .ok (.iload 5, 2) := by decide +kernel
theorem dX10_drifts_121 : decode cX10_drifts 121 = .ok (.imul, 1) := by decide +kernel
theorem dX10_drifts_122 : decode cX10_drifts 122 = .ok (.iload 4, 2) := by decide +kernel
theorem dX10_drifts_124 : decode cX10_drifts 124 = .ok (.iadd, 1) := by decide +kernel
theorem dX10_drifts_125 : decode cX10_drifts 125 = .ok (.dup2, 1) := by decide +kernel
theorem dX10_drifts_126 : decode cX10_drifts 126 = .ok (.iaload, 1) := by decide +kernel
theorem dX10_drifts_127 : decode cX10_drifts 127 = .ok (.iload_n 3, 1) := by decide +kernel
theorem dX10_drifts_128 : decode cX10_drifts 128 = .ok (.iadd, 1) := by decide +kernel
theorem dX10_drifts_129 : decode cX10_drifts 129 = .ok (.iastore, 1) := by decide +kernel
theorem dX10_drifts_130 : decode cX10_drifts 130 = .ok (.iinc 2 1, 3) := by decide +kernel
theorem dX10_drifts_133 : decode cX10_drifts 133 = .ok (.goto (-109), 3) := by decide +kernel
theorem dX10_drifts_136 : decode cX10_drifts 136 = .ok (.iconst 0, 1) := by decide +kernel
theorem dX10_drifts_137 : decode cX10_drifts 137 = .ok (.istore_n 2, 1) := by decide +kernel
theorem dX10_drifts_138 : decode cX10_drifts 138 = .ok (.iload_n 2, 1) := by decide +kernel
theorem dX10_drifts_139 : decode cX10_drifts 139 = .ok (.sipush 280, 3) := by decide +kernel
theorem dX10_drifts_142 : decode cX10_drifts 142 = .ok (.if_icmp .ge 27, 3) := by decide +kernel
theorem dX10_drifts_145 : decode cX10_drifts 145 = .ok (.aload_n 0, 1) := by decide +kernel
theorem dX10_drifts_146 : decode cX10_drifts 146 = .ok (.getfield 27, 3) := by decide +kernel
theorem dX10_drifts_149 : decode cX10_drifts 149 = .ok (.sipush 280, 3) := by decide +kernel
theorem dX10_drifts_152 : decode cX10_drifts 152 = .ok (.iload_n 1, 1) := by decide +kernel
theorem dX10_drifts_153 : decode cX10_drifts 153 = .ok (.imul, 1) := by decide +kernel
theorem dX10_drifts_154 : decode cX10_drifts 154 = .ok (.iload_n 2, 1) := by decide +kernel
theorem dX10_drifts_155 : decode cX10_drifts 155 = .ok (.iadd, 1) := by decide +kernel
theorem dX10_drifts_156 : decode cX10_drifts 156 = .ok (.aload_n 0, 1) := by decide +kernel
theorem dX10_drifts_157 : decode cX10_drifts 157 = .ok (.getfield 57, 3) := by decide +kernel
theorem dX10_drifts_160 : decode cX10_drifts 160 = .ok (.iload_n 2, 1) := by decide +kernel
theorem dX10_drifts_161 : decode cX10_drifts 161 = .ok (.iaload, 1) := by decide +kernel
theorem dX10_drifts_162 : decode cX10_drifts 162 = .ok (.iastore, 1) := by decide +kernel
theorem dX10_drifts_163 : decode cX10_drifts 163 = .ok (.iinc 2 1, 3) := by decide +kernel
theorem dX10_drifts_166 : decode cX10_drifts 166 = .ok (.goto (-28), 3) := by decide +kernel
theorem dX10_drifts_169 : decode cX10_drifts 169 = .ok (.return_, 1) := by decide +kernel
theorem dX10_spreads_0 : decode cX10_spreads 0 = .ok (.iconst 0, 1) := by decide +kernel
theorem dX10_spreads_1 : decode cX10_spreads 1 = .ok (.istore_n 2, 1) := by decide +kernel
theorem dX10_spreads_2 : decode cX10_spreads 2 = .ok (.iload_n 2, 1) := by decide +kernel
theorem dX10_spreads_3 : decode cX10_spreads 3 = .ok (.sipush 280, 3) := by decide +kernel
theorem dX10_spreads_6 : decode cX10_spreads 6 = .ok (.if_icmp .ge 27, 3) := by decide +kernel
theorem dX10_spreads_9 : decode cX10_spreads 9 = .ok (.aload_n 0, 1) := by decide +kernel
theorem dX10_spreads_10 : decode cX10_spreads 10 = .ok (.getfield 57, 3) := by decide +kernel
theorem dX10_spreads_13 : decode cX10_spreads 13 = .ok (.iload_n 2, 1) := by decide +kernel
theorem dX10_spreads_14 : decode cX10_spreads 14 = .ok (.aload_n 0, 1) := by decide +kernel
theorem dX10_spreads_15 : decode cX10_spreads 15 = .ok (.getfield 27, 3) := by decide +kernel
theorem dX10_spreads_18 : decode cX10_spreads 18 = .ok (.sipush 280, 3) := by decide +kernel
theorem dX10_spreads_21 : decode cX10_spreads 21 = .ok (.iload_n 1, 1) := by decide +kernel
theorem dX10_spreads_22 : decode cX10_spreads 22 = .ok (.imul, 1) := by decide +kernel
theorem dX10_spreads_23 : decode cX10_spreads 23 = .ok (.iload_n 2, 1) := by decide +kernel
theorem dX10_spreads_24 : decode cX10_spreads 24 = .ok (.iadd, 1) := by decide +kernel
theorem dX10_spreads_25 : decode cX10_spreads 25 = .ok (.iaload, 1) := by decide +kernel
theorem dX10_spreads_26 : decode cX10_spreads 26 = .ok (.iastore, 1) := by decide +kernel
theorem dX10_spreads_27 : decode cX10_spreads 27 = .ok (.iinc 2 1, 3) := by decide +kernel
theorem dX10_spreads_30 : decode cX10_spreads 30 = .ok (.goto (-28), 3) := by decide +kernel
theorem dX10_spreads_33 : decode cX10_spreads 33 = .ok (.iconst 0, 1) := by decide +kernel
theorem dX10_spreads_34 : decode cX10_spreads 34 = .ok (.istore_n 2, 1) := by decide +kernel
theorem dX10_spreads_35 : decode cX10_spreads 35 = .ok (.iload_n 2, 1) := by decide +kernel
theorem dX10_spreads_36 : decode cX10_spreads 36 = .ok (.sipush 280, 3) := by decide +kernel
theorem dX10_spreads_39 : decode cX10_spreads 39 = .ok (.if_icmp .ge 131, 3) := by decide +kernel
theorem dX10_spreads_42 : decode cX10_spreads 42 = .ok (.iconst 1, 1) := by decide +kernel
theorem dX10_spreads_43 : decode cX10_spreads 43 = .ok (.istore_n 3, 1) := by decide +kernel
theorem dX10_spreads_44 : decode cX10_spreads 44 = .ok (.iload_n 3, 1) := by decide +kernel
theorem dX10_spreads_45 : decode cX10_spreads 45 = .ok (.bipush 9, 2) := by decide +kernel
theorem dX10_spreads_47 : decode cX10_spreads 47 = .ok (.if_icmp .ge 117, 3) := by decide +kernel
theorem dX10_spreads_50 : decode cX10_spreads 50 = .ok (.iload_n 2, 1) := by decide +kernel
theorem dX10_spreads_51 : decode cX10_spreads 51 = .ok (.bipush 20, 2) := by decide +kernel
theorem dX10_spreads_53 : decode cX10_spreads 53 = .ok (.irem, 1) := by decide +kernel
theorem dX10_spreads_54 : decode cX10_spreads 54 = .ok (.iload_n 3, 1) := by decide +kernel
theorem dX10_spreads_55 : decode cX10_spreads 55 = .ok (.iconst 3, 1) := by decide +kernel
theorem dX10_spreads_56 : decode cX10_spreads 56 = .ok (.irem, 1) := by decide +kernel
theorem dX10_spreads_57 : decode cX10_spreads 57 = .ok (.iadd, 1) := by decide +kernel
theorem dX10_spreads_58 : decode cX10_spreads 58 = .ok (.iconst 1, 1) := by decide +kernel
theorem dX10_spreads_59 : decode cX10_spreads 59 = .ok (.isub, 1) := by decide +kernel
theorem dX10_spreads_60 : decode cX10_spreads 60 = .ok (.istore 4, 2) := by decide +kernel
theorem dX10_spreads_62 : decode cX10_spreads 62 = .ok (.iload_n 2, 1) := by decide +kernel
theorem dX10_spreads_63 : decode cX10_spreads 63 = .ok (.bipush 20, 2) := by decide +kernel
theorem dX10_spreads_65 : decode cX10_spreads 65 = .ok (.idiv, 1) := by decide +kernel
theorem dX10_spreads_66 : decode cX10_spreads 66 = .ok (.iload_n 3, 1) := by decide +kernel
theorem dX10_spreads_67 : decode cX10_spreads 67 = .ok (.iconst 3, 1) := by decide +kernel
theorem dX10_spreads_68 : decode cX10_spreads 68 = .ok (.idiv, 1) := by decide +kernel
theorem dX10_spreads_69 : decode cX10_spreads 69 = .ok (.iadd, 1) := by decide +kernel
theorem dX10_spreads_70 : decode cX10_spreads 70 = .ok (.iconst 1, 1) := by decide +kernel
theorem dX10_spreads_71 : decode cX10_spreads 71 = .ok (.isub, 1) := by decide +kernel
theorem dX10_spreads_72 : decode cX10_spreads 72 = .ok (.istore 5, 2) := by decide +kernel
theorem dX10_spreads_74 : decode cX10_spreads 74 = .ok (.iload 4, 2) := by decide +kernel
theorem dX10_spreads_76 : decode cX10_spreads 76 = .ok (.iload 5, 2) := by decide +kernel
theorem dX10_spreads_78 : decode cX10_spreads 78 = .ok (.invokestatic 126, 3) := by decide +kernel
theorem dX10_spreads_81 : decode cX10_spreads 81 = .ok (.ifCond .eq 77, 3) := by decide +kernel
theorem dX10_spreads_84 : decode cX10_spreads 84 = .ok (.aload_n 0, 1) := by decide +kernel
theorem dX10_spreads_85 : decode cX10_spreads 85 = .ok (.getfield 13, 3) := by decide +kernel
theorem dX10_spreads_88 : decode cX10_spreads 88 = .ok (.bipush 20, 2) := by decide +kernel
theorem dX10_spreads_90 : decode cX10_spreads 90 = .ok (.iload 5, 2) := by decide +kernel
theorem dX10_spreads_92 : decode cX10_spreads 92 = .ok (.imul, 1) := by decide +kernel
theorem dX10_spreads_93 : decode cX10_spreads 93 = .ok (.iload 4, 2) := by decide +kernel
theorem dX10_spreads_95 : decode cX10_spreads 95 = .ok (.iadd, 1) := by decide +kernel
theorem dX10_spreads_96 : decode cX10_spreads 96 = .ok (.baload, 1) := by decide +kernel
theorem dX10_spreads_97 : decode cX10_spreads 97 = .ok (.ifCond .eq 6, 3) := by decide +kernel
theorem dX10_spreads_100 : decode cX10_spreads 100 = .ok (.goto 58, 3) := by decide +kernel
theorem dX10_spreads_103 : decode cX10_spreads 103 = .ok (.aload_n 0, 1) := by decide +kernel
theorem dX10_spreads_104 : decode cX10_spreads 104 = .ok (.getfield 57, 3) := by decide +kernel
theorem dX10_spreads_107 : decode cX10_spreads 107 = .ok (.bipush 20, 2) := by decide +kernel
theorem dX10_spreads_109 : decode cX10_spreads 109 = .ok (.iload 5, 2) := by decide +kernel
theorem dX10_spreads_111 : decode cX10_spreads 111 = .ok (.imul, 1) := by decide +kernel
theorem dX10_spreads_112 : decode cX10_spreads 112 = .ok (.iload 4, 2) := by decide +kernel
theorem dX10_spreads_114 : decode cX10_spreads 114 = .ok (.iadd, 1) := by decide +kernel
theorem dX10_spreads_115 : decode cX10_spreads 115 = .ok (.dup2, 1) := by decide +kernel
theorem dX10_spreads_116 : decode cX10_spreads 116 = .ok (.iaload, 1) := by decide +kernel
theorem dX10_spreads_117 : decode cX10_spreads 117 = .ok (.aload_n 0, 1) := by decide +kernel
theorem dX10_spreads_118 : decode cX10_spreads 118 = .ok (.getfield 27, 3) := by decide +kernel
theorem dX10_spreads_121 : decode cX10_spreads 121 = .ok (.sipush 280, 3) := by decide +kernel
theorem dX10_spreads_124 : decode cX10_spreads 124 = .ok (.iload_n 1, 1) := by decide +kernel
theorem dX10_spreads_125 : decode cX10_spreads 125 = .ok (.imul, 1) := by decide +kernel
theorem dX10_spreads_126 : decode cX10_spreads 126 = .ok (.iload_n 2, 1) := by decide +kernel
theorem dX10_spreads_127 : decode cX10_spreads 127 = .ok (.iadd, 1) := by decide +kernel
theorem dX10_spreads_128 : decode cX10_spreads 128 = .ok (.iaload, 1) := by decide +kernel
theorem dX10_spreads_129 : decode cX10_spreads 129 = .ok (.bipush 8, 2) := by decide +kernel
theorem dX10_spreads_131 : decode cX10_spreads 131 = .ok (.idiv, 1) := by decide +kernel
theorem dX10_spreads_132 : decode cX10_spreads 132 = .ok (.iadd, 1) := by decide +kernel
theorem dX10_spreads_133 : decode cX10_spreads 133 = .ok (.iastore, 1) := by decide +kernel
theorem dX10_spreads_134 : decode cX10_spreads 134 = .ok (.aload_n 0, 1) := by decide +kernel
theorem dX10_spreads_135 : decode cX10_spreads 135 = .ok (.getfield 57, 3) := by decide +kernel
theorem dX10_spreads_138 : decode cX10_spreads 138 = .ok (.iload_n 2, 1) := by decide +kernel
theorem dX10_spreads_139 : decode cX10_spreads 139 = .ok (.dup2, 1) := by decide +kernel
theorem dX10_spreads_140 : decode cX10_spreads 140 = .ok (.iaload, 1) := by decide +kernel
theorem dX10_spreads_141 : decode cX10_spreads 141 = .ok (.aload_n 0, 1) := by decide +kernel
theorem dX10_spreads_142 : decode cX10_spreads 142 = .ok (.getfield 27, 3) := by decide +kernel
theorem dX10_spreads_145 : decode cX10_spreads 145 = .ok (.sipush 280, 3) := by decide +kernel
theorem dX10_spreads_148 : decode cX10_spreads 148 = .ok (.iload_n 1, 1) := by decide +kernel
theorem dX10_spreads_149 : decode cX10_spreads 149 = .ok (.imul, 1) := by decide +kernel
theorem dX10_spreads_150 : decode cX10_spreads 150 = .ok (.iload_n 2, 1) := by decide +kernel
theorem dX10_spreads_151 : decode cX10_spreads 151 = .ok (.iadd, 1) := by decide +kernel
theorem dX10_spreads_152 : decode cX10_spreads 152 = .ok (.iaload, 1) := by decide +kernel
theorem dX10_spreads_153 : decode cX10_spreads 153 = .ok (.bipush 8, 2) := by decide +kernel
theorem dX10_spreads_155 : decode cX10_spreads 155 = .ok (.idiv, 1) := by decide +kernel
theorem dX10_spreads_156 : decode cX10_spreads 156 = .ok (.isub, 1) := by decide +kernel
theorem dX10_spreads_157 : decode cX10_spreads 157 = .ok (.iastore, 1) := by decide +kernel
theorem dX10_spreads_158 : decode cX10_spreads 158 = .ok (.iinc 3 2, 3) := by decide +kernel
theorem dX10_spreads_161 : decode cX10_spreads 161 = .ok (.goto (-117), 3) := by decide +kernel
theorem dX10_spreads_164 : decode cX10_spreads 164 = .ok (.iinc 2 1, 3) := by decide +kernel
theorem dX10_spreads_167 : decode cX10_spreads 167 = .ok (.goto (-132), 3) := by decide +kernel
theorem dX10_spreads_170 : decode cX10_spreads 170 = .ok (.iconst 0, 1) := by decide +kernel
theorem dX10_spreads_171 : decode cX10_spreads 171 = .ok (.istore_n 2, 1) := by decide +kernel
theorem dX10_spreads_172 : decode cX10_spreads 172 = .ok (.iload_n 2, 1) := by decide +kernel
theorem dX10_spreads_173 : decode cX10_spreads 173 = .ok (.sipush 280, 3) := by decide +kernel
theorem dX10_spreads_176 : decode cX10_spreads 176 = .ok (.if_icmp .ge 27, 3) := by decide +kernel
theorem dX10_spreads_179 : decode cX10_spreads 179 = .ok (.aload_n 0, 1) := by decide +kernel
theorem dX10_spreads_180 : decode cX10_spreads 180 = .ok (.getfield 27, 3) := by decide +kernel
theorem dX10_spreads_183 : decode cX10_spreads 183 = .ok (.sipush 280, 3) := by decide +kernel
theorem dX10_spreads_186 : decode cX10_spreads 186 = .ok (.iload_n 1, 1) := by decide +kernel
theorem dX10_spreads_187 : decode cX10_spreads 187 = .ok (.imul, 1) := by decide +kernel
theorem dX10_spreads_188 : decode cX10_spreads 188 = .ok (.iload_n 2, 1) := by decide +kernel
theorem dX10_spreads_189 : decode cX10_spreads 189 = .ok (.iadd, 1) := by decide +kernel
theorem dX10_spreads_190 : decode cX10_spreads 190 = .ok (.aload_n 0, 1) := by decide +kernel
theorem dX10_spreads_191 : decode cX10_spreads 191 = .ok (.getfield 57, 3) := by decide +kernel
theorem dX10_spreads_194 : decode cX10_spreads 194 = .ok (.iload_n 2, 1) := by decide +kernel
theorem dX10_spreads_195 : decode cX10_spreads 195 = .ok (.iaload, 1) := by decide +kernel
theorem dX10_spreads_196 : decode cX10_spreads 196 = .ok (.iastore, 1) := by decide +kernel
theorem dX10_spreads_197 : decode cX10_spreads 197 = .ok (.iinc 2 1, 3) := by decide +kernel
theorem dX10_spreads_200 : decode cX10_spreads 200 = .ok (.goto (-28), 3) := by decide +kernel
theorem dX10_spreads_203 : decode cX10_spreads 203 = .ok (.return_, 1) := by decide +kernel
theorem dX10_goes_0 : decode cX10_goes 0 = .ok (.aload_n 0, 1) := by decide +kernel
theorem dX10_goes_1 : decode cX10_goes 1 = .ok (.getfield 39, 3) := by decide +kernel
theorem dX10_goes_4 : decode cX10_goes 4 = .ok (.iload_n 1, 1) := by decide +kernel
theorem dX10_goes_5 : decode cX10_goes 5 = .ok (.iconst 1, 1) := by decide +kernel
theorem dX10_goes_6 : decode cX10_goes 6 = .ok (.bastore, 1) := by decide +kernel
theorem dX10_goes_7 : decode cX10_goes 7 = .ok (.iconst 0, 1) := by decide +kernel
theorem dX10_goes_8 : decode cX10_goes 8 = .ok (.istore_n 2, 1) := by decide +kernel
theorem dX10_goes_9 : decode cX10_goes 9 = .ok (.iload_n 2, 1) := by decide +kernel
theorem dX10_goes_10 : decode cX10_goes 10 = .ok (.sipush 280, 3) := by decide +kernel
theorem dX10_goes_13 : decode cX10_goes 13 = .ok (.if_icmp .ge 22, 3) := by decide +kernel
theorem dX10_goes_16 : decode cX10_goes 16 = .ok (.aload_n 0, 1) := by decide +kernel
theorem dX10_goes_17 : decode cX10_goes 17 = .ok (.getfield 27, 3) := by decide +kernel
theorem dX10_goes_20 : decode cX10_goes 20 = .ok (.sipush 280, 3) := by decide +kernel
theorem dX10_goes_23 : decode cX10_goes 23 = .ok (.iload_n 1, 1) := by decide +kernel
theorem dX10_goes_24 : decode cX10_goes 24 = .ok (.imul, 1) := by decide +kernel
theorem dX10_goes_25 : decode cX10_goes 25 = .ok (.iload_n 2, 1) := by decide +kernel
theorem dX10_goes_26 : decode cX10_goes 26 = .ok (.iadd, 1) := by decide +kernel
theorem dX10_goes_27 : decode cX10_goes 27 = .ok (.iconst 0, 1) := by decide +kernel
theorem dX10_goes_28 : decode cX10_goes 28 = .ok (.iastore, 1) := by decide +kernel
theorem dX10_goes_29 : decode cX10_goes 29 = .ok (.iinc 2 1, 3) := by decide +kernel
theorem dX10_goes_32 : decode cX10_goes 32 = .ok (.goto (-23), 3) := by decide +kernel
theorem dX10_goes_35 : decode cX10_goes 35 = .ok (.return_, 1) := by decide +kernel
theorem dX10_melts_0 : decode cX10_melts 0 = .ok (.ldc 118, 2) := by decide +kernel
theorem dX10_melts_2 : decode cX10_melts 2 = .ok (.istore_n 2, 1) := by decide +kernel
theorem dX10_melts_3 : decode cX10_melts 3 = .ok (.iconst 0, 1) := by decide +kernel
theorem dX10_melts_4 : decode cX10_melts 4 = .ok (.istore_n 3, 1) := by decide +kernel
theorem dX10_melts_5 : decode cX10_melts 5 = .ok (.iload_n 3, 1) := by decide +kernel
theorem dX10_melts_6 : decode cX10_melts 6 = .ok (.sipush 280, 3) := by decide +kernel
theorem dX10_melts_9 : decode cX10_melts 9 = .ok (.if_icmp .ge 35, 3) := by decide +kernel
theorem dX10_melts_12 : decode cX10_melts 12 = .ok (.aload_n 0, 1) := by decide +kernel
theorem dX10_melts_13 : decode cX10_melts 13 = .ok (.getfield 27, 3) := by decide +kernel
theorem dX10_melts_16 : decode cX10_melts 16 = .ok (.sipush 280, 3) := by decide +kernel
theorem dX10_melts_19 : decode cX10_melts 19 = .ok (.iload_n 1, 1) := by decide +kernel
theorem dX10_melts_20 : decode cX10_melts 20 = .ok (.imul, 1) := by decide +kernel
theorem dX10_melts_21 : decode cX10_melts 21 = .ok (.iload_n 3, 1) := by decide +kernel
theorem dX10_melts_22 : decode cX10_melts 22 = .ok (.iadd, 1) := by decide +kernel
theorem dX10_melts_23 : decode cX10_melts 23 = .ok (.iaload, 1) := by decide +kernel
theorem dX10_melts_24 : decode cX10_melts 24 = .ok (.ifCond .le 14, 3) := by decide +kernel
theorem dX10_melts_27 : decode cX10_melts 27 = .ok (.iload_n 2, 1) := by decide +kernel
theorem dX10_melts_28 : decode cX10_melts 28 = .ok (.aload_n 0, 1) := by decide +kernel
theorem dX10_melts_29 : decode cX10_melts 29 = .ok (.getfield 24, 3) := by decide +kernel
theorem dX10_melts_32 : decode cX10_melts 32 = .ok (.iload_n 3, 1) := by decide +kernel
theorem dX10_melts_33 : decode cX10_melts 33 = .ok (.iaload, 1) := by decide +kernel
theorem dX10_melts_34 : decode cX10_melts 34 = .ok (.invokestatic 130, 3) := by decide +kernel
theorem dX10_melts_37 : decode cX10_melts 37 = .ok (.istore_n 2, 1) := by decide +kernel
theorem dX10_melts_38 : decode cX10_melts 38 = .ok (.iinc 3 1, 3) := by decide +kernel
theorem dX10_melts_41 : decode cX10_melts 41 = .ok (.goto (-36), 3) := by decide +kernel
theorem dX10_melts_44 : decode cX10_melts 44 = .ok (.iload_n 2, 1) := by decide +kernel
theorem dX10_melts_45 : decode cX10_melts 45 = .ok (.ldc 118, 2) := by decide +kernel
theorem dX10_melts_47 : decode cX10_melts 47 = .ok (.if_icmp .ge 13, 3) := by decide +kernel
theorem dX10_melts_50 : decode cX10_melts 50 = .ok (.aload_n 0, 1) := by decide +kernel
theorem dX10_melts_51 : decode cX10_melts 51 = .ok (.getfield 30, 3) := by decide +kernel
theorem dX10_melts_54 : decode cX10_melts 54 = .ok (.iload_n 1, 1) := by decide +kernel
theorem dX10_melts_55 : decode cX10_melts 55 = .ok (.dup2, 1) := by decide +kernel
theorem dX10_melts_56 : decode cX10_melts 56 = .ok (.iaload, 1) := by decide +kernel
theorem dX10_melts_57 : decode cX10_melts 57 = .ok (.iload_n 2, 1) := by decide +kernel
theorem dX10_melts_58 : decode cX10_melts 58 = .ok (.isub, 1) := by decide +kernel
theorem dX10_melts_59 : decode cX10_melts 59 = .ok (.iastore, 1) := by decide +kernel
theorem dX10_melts_60 : decode cX10_melts 60 = .ok (.iload_n 2, 1) := by decide +kernel
theorem dX10_melts_61 : decode cX10_melts 61 = .ok (.ldc 118, 2) := by decide +kernel
theorem dX10_melts_63 : decode cX10_melts 63 = .ok (.if_icmp .eq 12, 3) := by decide +kernel
theorem dX10_melts_66 : decode cX10_melts 66 = .ok (.aload_n 0, 1) := by decide +kernel
theorem dX10_melts_67 : decode cX10_melts 67 = .ok (.getfield 30, 3) := by decide +kernel
theorem dX10_melts_70 : decode cX10_melts 70 = .ok (.iload_n 1, 1) := by decide +kernel
theorem dX10_melts_71 : decode cX10_melts 71 = .ok (.iaload, 1) := by decide +kernel
theorem dX10_melts_72 : decode cX10_melts 72 = .ok (.ifCond .gt 8, 3) := by decide +kernel
theorem dX10_melts_75 : decode cX10_melts 75 = .ok (.aload_n 0, 1) := by decide +kernel
theorem dX10_melts_76 : decode cX10_melts 76 = .ok (.iload_n 1, 1) := by decide +kernel
theorem dX10_melts_77 : decode cX10_melts 77 = .ok (.invokevirtual 136, 3) := by decide +kernel
theorem dX10_melts_80 : decode cX10_melts 80 = .ok (.return_, 1) := by decide +kernel
theorem dX10_step_0 : decode cX10_step 0 = .ok (.aload_n 0, 1) := by decide +kernel
theorem dX10_step_1 : decode cX10_step 1 = .ok (.iconst 0, 1) := by decide +kernel
theorem dX10_step_2 : decode cX10_step 2 = .ok (.putfield 3, 3) := by decide +kernel
theorem dX10_step_5 : decode cX10_step 5 = .ok (.aload_n 0, 1) := by decide +kernel
theorem dX10_step_6 : decode cX10_step 6 = .ok (.iload_n 1, 1) := by decide +kernel
theorem dX10_step_7 : decode cX10_step 7 = .ok (.iconst 0, 1) := by decide +kernel
theorem dX10_step_8 : decode cX10_step 8 = .ok (.bipush 50, 2) := by decide +kernel
theorem dX10_step_10 : decode cX10_step 10 = .ok (.invokestatic 97, 3) := by decide +kernel
theorem dX10_step_13 : decode cX10_step 13 = .ok (.ifCond .ne 7, 3) := by decide +kernel
theorem dX10_step_16 : decode cX10_step 16 = .ok (.iconst 1, 1) := by decide +kernel
theorem dX10_step_17 : decode cX10_step 17 = .ok (.goto 4, 3) := by decide +kernel
theorem dX10_step_20 : decode cX10_step 20 = .ok (.iconst 0, 1) := by decide +kernel
theorem dX10_step_21 : decode cX10_step 21 = .ok (.iconst 1, 1) := by decide +kernel
theorem dX10_step_22 : decode cX10_step 22 = .ok (.invokevirtual 111, 3) := by decide +kernel
theorem dX10_step_25 : decode cX10_step 25 = .ok (.ifCond .eq 5, 3) := by decide +kernel
theorem dX10_step_28 : decode cX10_step 28 = .ok (.iconst 0, 1) := by decide +kernel
theorem dX10_step_29 : decode cX10_step 29 = .ok (.ireturn, 1) := by decide +kernel
theorem dX10_step_30 : decode cX10_step 30 = .ok (.iconst 0, 1) := by decide +kernel
theorem dX10_step_31 : decode cX10_step 31 = .ok (.istore_n 2, 1) := by decide +kernel
theorem dX10_step_32 : decode cX10_step 32 = .ok (.iload_n 2, 1) := by decide +kernel
theorem dX10_step_33 : decode cX10_step 33 = .ok (.iload_n 1, 1) := by decide +kernel
theorem dX10_step_34 : decode cX10_step 34 = .ok (.if_icmp .ge 72, 3) := by decide +kernel
theorem dX10_step_37 : decode cX10_step 37 = .ok (.aload_n 0, 1) := by decide +kernel
theorem dX10_step_38 : decode cX10_step 38 = .ok (.dup, 1) := by decide +kernel
theorem dX10_step_39 : decode cX10_step 39 = .ok (.getfield 140, 3) := by decide +kernel
theorem dX10_step_42 : decode cX10_step 42 = .ok (.iconst 1, 1) := by decide +kernel
theorem dX10_step_43 : decode cX10_step 43 = .ok (.iadd, 1) := by decide +kernel
theorem dX10_step_44 : decode cX10_step 44 = .ok (.putfield 140, 3) := by decide +kernel
theorem dX10_step_47 : decode cX10_step 47 = .ok (.iconst 0, 1) := by decide +kernel
theorem dX10_step_48 : decode cX10_step 48 = .ok (.istore_n 3, 1) := by decide +kernel
theorem dX10_step_49 : decode cX10_step 49 = .ok (.iload_n 3, 1) := by decide +kernel
theorem dX10_step_50 : decode cX10_step 50 = .ok (.aload_n 0, 1) := by decide +kernel
theorem dX10_step_51 : decode cX10_step 51 = .ok (.getfield 101, 3) := by decide +kernel
theorem dX10_step_54 : decode cX10_step 54 = .ok (.if_icmp .ge 46, 3) := by decide +kernel
theorem dX10_step_57 : decode cX10_step 57 = .ok (.aload_n 0, 1) := by decide +kernel
theorem dX10_step_58 : decode cX10_step 58 = .ok (.getfield 39, 3) := by decide +kernel
theorem dX10_step_61 : decode cX10_step 61 = .ok (.iload_n 3, 1) := by decide +kernel
theorem dX10_step_62 : decode cX10_step 62 = .ok (.baload, 1) := by decide +kernel
theorem dX10_step_63 : decode cX10_step 63 = .ok (.ifCond .eq 6, 3) := by decide +kernel
theorem dX10_step_66 : decode cX10_step 66 = .ok (.goto 28, 3) := by decide +kernel
theorem dX10_step_69 : decode cX10_step 69 = .ok (.aload_n 0, 1) := by decide +kernel
theorem dX10_step_70 : decode cX10_step 70 = .ok (.iload_n 3, 1) := by decide +kernel
theorem dX10_step_71 : decode cX10_step 71 = .ok (.invokevirtual 143, 3) := by decide +kernel
theorem dX10_step_74 : decode cX10_step 74 = .ok (.aload_n 0, 1) := by decide +kernel
theorem dX10_step_75 : decode cX10_step 75 = .ok (.iload_n 3, 1) := by decide +kernel
theorem dX10_step_76 : decode cX10_step 76 = .ok (.invokevirtual 146, 3) := by decide +kernel
theorem dX10_step_79 : decode cX10_step 79 = .ok (.aload_n 0, 1) := by decide +kernel
theorem dX10_step_80 : decode cX10_step 80 = .ok (.iload_n 3, 1) := by decide +kernel
theorem dX10_step_81 : decode cX10_step 81 = .ok (.invokevirtual 149, 3) := by decide +kernel
theorem dX10_step_84 : decode cX10_step 84 = .ok (.aload_n 0, 1) := by decide +kernel
theorem dX10_step_85 : decode cX10_step 85 = .ok (.getfield 33, 3) := by decide +kernel
theorem dX10_step_88 : decode cX10_step 88 = .ok (.iload_n 3, 1) := by decide +kernel
theorem dX10_step_89 : decode cX10_step 89 = .ok (.dup2, 1) := by decide +kernel
theorem dX10_step_90 : decode cX10_step 90 = .ok (.iaload, 1) := by decide +kernel
theorem dX10_step_91 : decode cX10_step 91 = .ok (.iconst 1, 1) := by decide +kernel
theorem dX10_step_92 : decode cX10_step 92 = .ok (.iadd, 1) := by decide +kernel
theorem dX10_step_93 : decode cX10_step 93 = .ok (.iastore, 1) := by decide +kernel
theorem dX10_step_94 : decode cX10_step 94 = .ok (.iinc 3 1, 3) := by decide +kernel
theorem dX10_step_97 : decode cX10_step 97 = .ok (.goto (-48), 3) := by decide +kernel
theorem dX10_step_100 : decode cX10_step 100 = .ok (.iinc 2 1, 3) := by decide +kernel
theorem dX10_step_103 : decode cX10_step 103 = .ok (.goto (-71), 3) := by decide +kernel
theorem dX10_step_106 : decode cX10_step 106 = .ok (.aload_n 0, 1) := by decide +kernel
theorem dX10_step_107 : decode cX10_step 107 = .ok (.getfield 140, 3) := by decide +kernel
theorem dX10_step_110 : decode cX10_step 110 = .ok (.ireturn, 1) := by decide +kernel
theorem dX10_squares_0 : decode cX10_squares 0 = .ok (.iconst 0, 1) := by decide +kernel
theorem dX10_squares_1 : decode cX10_squares 1 = .ok (.istore_n 2, 1) := by decide +kernel
theorem dX10_squares_2 : decode cX10_squares 2 = .ok (.iconst 0, 1) := by decide +kernel
theorem dX10_squares_3 : decode cX10_squares 3 = .ok (.istore_n 3, 1) := by decide +kernel
theorem dX10_squares_4 : decode cX10_squares 4 = .ok (.iload_n 3, 1) := by decide +kernel
theorem dX10_squares_5 : decode cX10_squares 5 = .ok (.sipush 280, 3) := by decide +kernel
theorem dX10_squares_8 : decode cX10_squares 8 = .ok (.if_icmp .ge 32, 3) := by decide +kernel
theorem dX10_squares_11 : decode cX10_squares 11 = .ok (.iload_n 2, 1) := by decide +kernel
theorem dX10_squares_12 : decode cX10_squares 12 = .ok (.aload_n 0, 1) := by decide +kernel
theorem dX10_squares_13 : decode cX10_squares 13 = .ok (.getfield 27, 3) := by decide +kernel
theorem dX10_squares_16 : decode cX10_squares 16 = .ok (.sipush 280, 3) := by decide +kernel
theorem dX10_squares_19 : decode cX10_squares 19 = .ok (.iload_n 1, 1) := by decide +kernel
theorem dX10_squares_20 : decode cX10_squares 20 = .ok (.imul, 1) := by decide +kernel
theorem dX10_squares_21 : decode cX10_squares 21 = .ok (.iload_n 3, 1) := by decide +kernel
theorem dX10_squares_22 : decode cX10_squares 22 = .ok (.iadd, 1) := by decide +kernel
theorem dX10_squares_23 : decode cX10_squares 23 = .ok (.iaload, 1) := by decide +kernel
theorem dX10_squares_24 : decode cX10_squares 24 = .ok (.ifCond .le 7, 3) := by decide +kernel
theorem dX10_squares_27 : decode cX10_squares 27 = .ok (.iconst 1, 1) := by decide +kernel
theorem dX10_squares_28 : decode cX10_squares 28 = .ok (.goto 4, 3) := by decide +kernel
theorem dX10_squares_31 : decode cX10_squares 31 = .ok (.iconst 0, 1) := by decide +kernel
theorem dX10_squares_32 : decode cX10_squares 32 = .ok (.iadd, 1) := by decide +kernel
theorem dX10_squares_33 : decode cX10_squares 33 = .ok (.istore_n 2, 1) := by decide +kernel
theorem dX10_squares_34 : decode cX10_squares 34 = .ok (.iinc 3 1, 3) := by decide +kernel
theorem dX10_squares_37 : decode cX10_squares 37 = .ok (.goto (-33), 3) := by decide +kernel
theorem dX10_squares_40 : decode cX10_squares 40 = .ok (.iload_n 2, 1) := by decide +kernel
theorem dX10_squares_41 : decode cX10_squares 41 = .ok (.ireturn, 1) := by decide +kernel
theorem dX10_look_0 : decode cX10_look 0 = .ok (.aload_n 0, 1) := by decide +kernel
theorem dX10_look_1 : decode cX10_look 1 = .ok (.iconst 0, 1) := by decide +kernel
theorem dX10_look_2 : decode cX10_look 2 = .ok (.putfield 3, 3) := by decide +kernel
theorem dX10_look_5 : decode cX10_look 5 = .ok (.aload_n 0, 1) := by decide +kernel
theorem dX10_look_6 : decode cX10_look 6 = .ok (.iload_n 1, 1) := by decide +kernel
theorem dX10_look_7 : decode cX10_look 7 = .ok (.invokestatic 107, 3) := by decide +kernel
theorem dX10_look_10 : decode cX10_look 10 = .ok (.iconst 1, 1) := by decide +kernel
theorem dX10_look_11 : decode cX10_look 11 = .ok (.invokevirtual 111, 3) := by decide +kernel
theorem dX10_look_14 : decode cX10_look 14 = .ok (.ifCond .ne 26, 3) := by decide +kernel
theorem dX10_look_17 : decode cX10_look 17 = .ok (.aload_n 0, 1) := by decide +kernel
theorem dX10_look_18 : decode cX10_look 18 = .ok (.iload_n 2, 1) := by decide +kernel
theorem dX10_look_19 : decode cX10_look 19 = .ok (.iconst 0, 1) := by decide +kernel
theorem dX10_look_20 : decode cX10_look 20 = .ok (.bipush 100, 2) := by decide +kernel
theorem dX10_look_22 : decode cX10_look 22 = .ok (.invokestatic 97, 3) := by decide +kernel
theorem dX10_look_25 : decode cX10_look 25 = .ok (.ifCond .ne 7, 3) := by decide +kernel
theorem dX10_look_28 : decode cX10_look 28 = .ok (.iconst 1, 1) := by decide +kernel
theorem dX10_look_29 : decode cX10_look 29 = .ok (.goto 4, 3) := by decide +kernel
theorem dX10_look_32 : decode cX10_look 32 = .ok (.iconst 0, 1) := by decide +kernel
theorem dX10_look_33 : decode cX10_look 33 = .ok (.iconst 2, 1) := by decide +kernel
theorem dX10_look_34 : decode cX10_look 34 = .ok (.invokevirtual 111, 3) := by decide +kernel
theorem dX10_look_37 : decode cX10_look 37 = .ok (.ifCond .eq 5, 3) := by decide +kernel
theorem dX10_look_40 : decode cX10_look 40 = .ok (.iconst 0, 1) := by decide +kernel
theorem dX10_look_41 : decode cX10_look 41 = .ok (.ireturn, 1) := by decide +kernel
theorem dX10_look_42 : decode cX10_look 42 = .ok (.iconst 0, 1) := by decide +kernel
theorem dX10_look_43 : decode cX10_look 43 = .ok (.istore_n 3, 1) := by decide +kernel
theorem dX10_look_44 : decode cX10_look 44 = .ok (.iconst 0, 1) := by decide +kernel
theorem dX10_look_45 : decode cX10_look 45 = .ok (.istore 4, 2) := by decide +kernel
theorem dX10_look_47 : decode cX10_look 47 = .ok (.iload 4, 2) := by decide +kernel
theorem dX10_look_49 : decode cX10_look 49 = .ok (.aload_n 0, 1) := by decide +kernel
theorem dX10_look_50 : decode cX10_look 50 = .ok (.getfield 101, 3) := by decide +kernel
theorem dX10_look_53 : decode cX10_look 53 = .ok (.if_icmp .ge 78, 3) := by decide +kernel
theorem dX10_look_56 : decode cX10_look 56 = .ok (.sipush 280, 3) := by decide +kernel
theorem dX10_look_59 : decode cX10_look 59 = .ok (.iload 4, 2) := by decide +kernel
theorem dX10_look_61 : decode cX10_look 61 = .ok (.imul, 1) := by decide +kernel
theorem dX10_look_62 : decode cX10_look 62 = .ok (.iload_n 1, 1) := by decide +kernel
theorem dX10_look_63 : decode cX10_look 63 = .ok (.iadd, 1) := by decide +kernel
theorem dX10_look_64 : decode cX10_look 64 = .ok (.istore 5, 2) := by decide +kernel
theorem dX10_look_66 : decode cX10_look 66 = .ok (.aload_n 0, 1) := by decide +kernel
theorem dX10_look_67 : decode cX10_look 67 = .ok (.getfield 27, 3) := by decide +kernel
theorem dX10_look_70 : decode cX10_look 70 = .ok (.iload 5, 2) := by decide +kernel
theorem dX10_look_72 : decode cX10_look 72 = .ok (.iaload, 1) := by decide +kernel
theorem dX10_look_73 : decode cX10_look 73 = .ok (.iload_n 2, 1) := by decide +kernel
theorem dX10_look_74 : decode cX10_look 74 = .ok (.imul, 1) := by decide +kernel
theorem dX10_look_75 : decode cX10_look 75 = .ok (.bipush 99, 2) := by decide +kernel
theorem dX10_look_77 : decode cX10_look 77 = .ok (.iadd, 1) := by decide +kernel
theorem dX10_look_78 : decode cX10_look 78 = .ok (.bipush 100, 2) := by decide +kernel
theorem dX10_look_80 : decode cX10_look 80 = .ok (.idiv, 1) := by decide +kernel
theorem dX10_look_81 : decode cX10_look 81 = .ok (.istore 6, 2) := by decide +kernel
theorem dX10_look_83 : decode cX10_look 83 = .ok (.aload_n 0, 1) := by decide +kernel
theorem dX10_look_84 : decode cX10_look 84 = .ok (.getfield 27, 3) := by decide +kernel
theorem dX10_look_87 : decode cX10_look 87 = .ok (.iload 5, 2) := by decide +kernel
theorem dX10_look_89 : decode cX10_look 89 = .ok (.dup2, 1) := by decide +kernel
theorem dX10_look_90 : decode cX10_look 90 = .ok (.iaload, 1) := by decide +kernel
theorem dX10_look_91 : decode cX10_look 91 = .ok (.iload 6, 2) := by decide +kernel
theorem dX10_look_93 : decode cX10_look 93 = .ok (.isub, 1) := by decide +kernel
theorem dX10_look_94 : decode cX10_look 94 = .ok (.iastore, 1) := by decide +kernel
theorem dX10_look_95 : decode cX10_look 95 = .ok (.iload_n 3, 1) := by decide +kernel
theorem dX10_look_96 : decode cX10_look 96 = .ok (.iload 6, 2) := by decide +kernel
theorem dX10_look_98 : decode cX10_look 98 = .ok (.iadd, 1) := by decide +kernel
theorem dX10_look_99 : decode cX10_look 99 = .ok (.istore_n 3, 1) := by decide +kernel
theorem dX10_look_100 : decode cX10_look 100 = .ok (.aload_n 0, 1) := by decide +kernel
theorem dX10_look_101 : decode cX10_look 101 = .ok (.getfield 39, 3) := by decide +kernel
theorem dX10_look_104 : decode cX10_look 104 = .ok (.iload 4, 2) := by decide +kernel
theorem dX10_look_106 : decode cX10_look 106 = .ok (.baload, 1) := by decide +kernel
theorem dX10_look_107 : decode cX10_look 107 = .ok (.ifCond .ne 18, 3) := by decide +kernel
theorem dX10_look_110 : decode cX10_look 110 = .ok (.aload_n 0, 1) := by decide +kernel
theorem dX10_look_111 : decode cX10_look 111 = .ok (.iload 4, 2) := by decide +kernel
theorem dX10_look_113 : decode cX10_look 113 = .ok (.invokevirtual 152, 3) := by decide +kernel
theorem dX10_look_116 : decode cX10_look 116 = .ok (.ifCond .ne 9, 3) := by decide +kernel
theorem dX10_look_119 : decode cX10_look 119 = .ok (.aload_n 0, 1) := by decide +kernel
theorem dX10_look_120 : decode cX10_look 120 = .ok (.iload 4, 2) := by decide +kernel
theorem dX10_look_122 : decode cX10_look 122 = .ok (.invokevirtual 136, 3) := by decide +kernel
theorem dX10_look_125 : decode cX10_look 125 = .ok (.iinc 4 1, 3) := by decide +kernel
theorem dX10_look_128 : decode cX10_look 128 = .ok (.goto (-81), 3) := by decide +kernel
theorem dX10_look_131 : decode cX10_look 131 = .ok (.iload_n 3, 1) := by decide +kernel
theorem dX10_look_132 : decode cX10_look 132 = .ok (.ireturn, 1) := by decide +kernel
theorem dX10_parts_0 : decode cX10_parts 0 = .ok (.aload_n 0, 1) := by decide +kernel
theorem dX10_parts_1 : decode cX10_parts 1 = .ok (.iconst 0, 1) := by decide +kernel
theorem dX10_parts_2 : decode cX10_parts 2 = .ok (.putfield 3, 3) := by decide +kernel
theorem dX10_parts_5 : decode cX10_parts 5 = .ok (.aload_n 0, 1) := by decide +kernel
theorem dX10_parts_6 : decode cX10_parts 6 = .ok (.aload_n 0, 1) := by decide +kernel
theorem dX10_parts_7 : decode cX10_parts 7 = .ok (.iload_n 1, 1) := by decide +kernel
theorem dX10_parts_8 : decode cX10_parts 8 = .ok (.invokevirtual 156, 3) := by decide +kernel
theorem dX10_parts_11 : decode cX10_parts 11 = .ok (.ifCond .ne 10, 3) := by decide +kernel
theorem dX10_parts_14 : decode cX10_parts 14 = .ok (.iload_n 2, 1) := by decide +kernel
theorem dX10_parts_15 : decode cX10_parts 15 = .ok (.invokestatic 107, 3) := by decide +kernel
theorem dX10_parts_18 : decode cX10_parts 18 = .ok (.ifCond .eq 7, 3) := by decide +kernel
theorem dX10_parts_21 : decode cX10_parts 21 = .ok (.iconst 1, 1) := by decide +kernel
theorem dX10_parts_22 : decode cX10_parts 22 = .ok (.goto 4, 3) := by decide +kernel
theorem dX10_parts_25 : decode cX10_parts 25 = .ok (.iconst 0, 1) := by decide +kernel
theorem dX10_parts_26 : decode cX10_parts 26 = .ok (.iconst 1, 1) := by decide +kernel
theorem dX10_parts_27 : decode cX10_parts 27 = .ok (.invokevirtual 111, 3) := by decide +kernel
theorem dX10_parts_30 : decode cX10_parts 30 = .ok (.ifCond .eq 5, 3) := by decide +kernel
theorem dX10_parts_33 : decode cX10_parts 33 = .ok (.iconst 0, 1) := by decide +kernel
theorem dX10_parts_34 : decode cX10_parts 34 = .ok (.ireturn, 1) := by decide +kernel
theorem dX10_parts_35 : decode cX10_parts 35 = .ok (.aload_n 0, 1) := by decide +kernel
theorem dX10_parts_36 : decode cX10_parts 36 = .ok (.getfield 27, 3) := by decide +kernel
theorem dX10_parts_39 : decode cX10_parts 39 = .ok (.sipush 280, 3) := by decide +kernel
theorem dX10_parts_42 : decode cX10_parts 42 = .ok (.iload_n 1, 1) := by decide +kernel
theorem dX10_parts_43 : decode cX10_parts 43 = .ok (.imul, 1) := by decide +kernel
theorem dX10_parts_44 : decode cX10_parts 44 = .ok (.iload_n 2, 1) := by decide +kernel
theorem dX10_parts_45 : decode cX10_parts 45 = .ok (.iadd, 1) := by decide +kernel
theorem dX10_parts_46 : decode cX10_parts 46 = .ok (.iaload, 1) := by decide +kernel
theorem dX10_parts_47 : decode cX10_parts 47 = .ok (.ireturn, 1) := by decide +kernel
theorem dX10_berg_0 : decode cX10_berg 0 = .ok (.aload_n 0, 1) := by decide +kernel
theorem dX10_berg_1 : decode cX10_berg 1 = .ok (.iconst 0, 1) := by decide +kernel
theorem dX10_berg_2 : decode cX10_berg 2 = .ok (.putfield 3, 3) := by decide +kernel
theorem dX10_berg_5 : decode cX10_berg 5 = .ok (.aload_n 0, 1) := by decide +kernel
theorem dX10_berg_6 : decode cX10_berg 6 = .ok (.aload_n 0, 1) := by decide +kernel
theorem dX10_berg_7 : decode cX10_berg 7 = .ok (.iload_n 1, 1) := by decide +kernel
theorem dX10_berg_8 : decode cX10_berg 8 = .ok (.invokevirtual 156, 3) := by decide +kernel
theorem dX10_berg_11 : decode cX10_berg 11 = .ok (.iconst 1, 1) := by decide +kernel
theorem dX10_berg_12 : decode cX10_berg 12 = .ok (.invokevirtual 111, 3) := by decide +kernel
theorem dX10_berg_15 : decode cX10_berg 15 = .ok (.ifCond .eq 5, 3) := by decide +kernel
theorem dX10_berg_18 : decode cX10_berg 18 = .ok (.iconst 0, 1) := by decide +kernel
theorem dX10_berg_19 : decode cX10_berg 19 = .ok (.ireturn, 1) := by decide +kernel
theorem dX10_berg_20 : decode cX10_berg 20 = .ok (.iload_n 2, 1) := by decide +kernel
theorem dX10_berg_21 : decode cX10_berg 21 = .ok (.tableswitch 118 0 5 #[39, 46, 53, 68, 74, 111], 39) := by decide +kernel
theorem dX10_berg_60 : decode cX10_berg 60 = .ok (.aload_n 0, 1) := by decide +kernel
theorem dX10_berg_61 : decode cX10_berg 61 = .ok (.getfield 30, 3) := by decide +kernel
theorem dX10_berg_64 : decode cX10_berg 64 = .ok (.iload_n 1, 1) := by decide +kernel
theorem dX10_berg_65 : decode cX10_berg 65 = .ok (.iaload, 1) := by decide +kernel
theorem dX10_berg_66 : decode cX10_berg 66 = .ok (.ireturn, 1) := by decide +kernel
theorem dX10_berg_67 : decode cX10_berg 67 = .ok (.aload_n 0, 1) := by decide +kernel
theorem dX10_berg_68 : decode cX10_berg 68 = .ok (.getfield 33, 3) := by decide +kernel
theorem dX10_berg_71 : decode cX10_berg 71 = .ok (.iload_n 1, 1) := by decide +kernel
theorem dX10_berg_72 : decode cX10_berg 72 = .ok (.iaload, 1) := by decide +kernel
theorem dX10_berg_73 : decode cX10_berg 73 = .ok (.ireturn, 1) := by decide +kernel
theorem dX10_berg_74 : decode cX10_berg 74 = .ok (.aload_n 0, 1) := by decide +kernel
theorem dX10_berg_75 : decode cX10_berg 75 = .ok (.getfield 39, 3) := by decide +kernel
theorem dX10_berg_78 : decode cX10_berg 78 = .ok (.iload_n 1, 1) := by decide +kernel
theorem dX10_berg_79 : decode cX10_berg 79 = .ok (.baload, 1) := by decide +kernel
theorem dX10_berg_80 : decode cX10_berg 80 = .ok (.ifCond .eq 7, 3) := by decide +kernel
theorem dX10_berg_83 : decode cX10_berg 83 = .ok (.iconst 1, 1) := by decide +kernel
theorem dX10_berg_84 : decode cX10_berg 84 = .ok (.goto 4, 3) := by decide +kernel
theorem dX10_berg_87 : decode cX10_berg 87 = .ok (.iconst 0, 1) := by decide +kernel
theorem dX10_berg_88 : decode cX10_berg 88 = .ok (.ireturn, 1) := by decide +kernel
theorem dX10_berg_89 : decode cX10_berg 89 = .ok (.aload_n 0, 1) := by decide +kernel
theorem dX10_berg_90 : decode cX10_berg 90 = .ok (.iload_n 1, 1) := by decide +kernel
theorem dX10_berg_91 : decode cX10_berg 91 = .ok (.invokevirtual 152, 3) := by decide +kernel
theorem dX10_berg_94 : decode cX10_berg 94 = .ok (.ireturn, 1) := by decide +kernel
theorem dX10_berg_95 : decode cX10_berg 95 = .ok (.iconst 0, 1) := by decide +kernel
theorem dX10_berg_96 : decode cX10_berg 96 = .ok (.istore_n 3, 1) := by decide +kernel
theorem dX10_berg_97 : decode cX10_berg 97 = .ok (.iconst 0, 1) := by decide +kernel
theorem dX10_berg_98 : decode cX10_berg 98 = .ok (.istore 4, 2) := by decide +kernel
theorem dX10_berg_100 : decode cX10_berg 100 = .ok (.iload 4, 2) := by decide +kernel
theorem dX10_berg_102 : decode cX10_berg 102 = .ok (.sipush 280, 3) := by decide +kernel
theorem dX10_berg_105 : decode cX10_berg 105 = .ok (.if_icmp .ge 25, 3) := by decide +kernel
theorem dX10_berg_108 : decode cX10_berg 108 = .ok (.iload_n 3, 1) := by decide +kernel
theorem dX10_berg_109 : decode cX10_berg 109 = .ok (.aload_n 0, 1) := by decide +kernel
theorem dX10_berg_110 : decode cX10_berg 110 = .ok (.getfield 27, 3) := by decide +kernel
theorem dX10_berg_113 : decode cX10_berg 113 = .ok (.sipush 280, 3) := by decide +kernel
theorem dX10_berg_116 : decode cX10_berg 116 = .ok (.iload_n 1, 1) := by decide +kernel
theorem dX10_berg_117 : decode cX10_berg 117 = .ok (.imul, 1) := by decide +kernel
theorem dX10_berg_118 : decode cX10_berg 118 = .ok (.iload 4, 2) := by decide +kernel
theorem dX10_berg_120 : decode cX10_berg 120 = .ok (.iadd, 1) := by decide +kernel
theorem dX10_berg_121 : decode cX10_berg 121 = .ok (.iaload, 1) := by decide +kernel
theorem dX10_berg_122 : decode cX10_berg 122 = .ok (.iadd, 1) := by decide +kernel
theorem dX10_berg_123 : decode cX10_berg 123 = .ok (.istore_n 3, 1) := by decide +kernel
theorem dX10_berg_124 : decode cX10_berg 124 = .ok (.iinc 4 1, 3) := by decide +kernel
theorem dX10_berg_127 : decode cX10_berg 127 = .ok (.goto (-27), 3) := by decide +kernel
theorem dX10_berg_130 : decode cX10_berg 130 = .ok (.iload_n 3, 1) := by decide +kernel
theorem dX10_berg_131 : decode cX10_berg 131 = .ok (.ireturn, 1) := by decide +kernel
theorem dX10_berg_132 : decode cX10_berg 132 = .ok (.aload_n 0, 1) := by decide +kernel
theorem dX10_berg_133 : decode cX10_berg 133 = .ok (.getfield 36, 3) := by decide +kernel
theorem dX10_berg_136 : decode cX10_berg 136 = .ok (.iload_n 1, 1) := by decide +kernel
theorem dX10_berg_137 : decode cX10_berg 137 = .ok (.iaload, 1) := by decide +kernel
theorem dX10_berg_138 : decode cX10_berg 138 = .ok (.ireturn, 1) := by decide +kernel
theorem dX10_berg_139 : decode cX10_berg 139 = .ok (.aload_n 0, 1) := by decide +kernel
theorem dX10_berg_140 : decode cX10_berg 140 = .ok (.iconst 2, 1) := by decide +kernel
theorem dX10_berg_141 : decode cX10_berg 141 = .ok (.putfield 3, 3) := by decide +kernel
theorem dX10_berg_144 : decode cX10_berg 144 = .ok (.iconst 0, 1) := by decide +kernel
theorem dX10_berg_145 : decode cX10_berg 145 = .ok (.ireturn, 1) := by decide +kernel
theorem dX10_side_0 : decode cX10_side 0 = .ok (.iload_n 2, 1) := by decide +kernel
theorem dX10_side_1 : decode cX10_side 1 = .ok (.iload_n 0, 1) := by decide +kernel
theorem dX10_side_2 : decode cX10_side 2 = .ok (.isub, 1) := by decide +kernel
theorem dX10_side_3 : decode cX10_side 3 = .ok (.iload 5, 2) := by decide +kernel
theorem dX10_side_5 : decode cX10_side 5 = .ok (.iload_n 1, 1) := by decide +kernel
theorem dX10_side_6 : decode cX10_side 6 = .ok (.isub, 1) := by decide +kernel
theorem dX10_side_7 : decode cX10_side 7 = .ok (.imul, 1) := by decide +kernel
theorem dX10_side_8 : decode cX10_side 8 = .ok (.iload_n 3, 1) := by decide +kernel
theorem dX10_side_9 : decode cX10_side 9 = .ok (.iload_n 1, 1) := by decide +kernel
theorem dX10_side_10 : decode cX10_side 10 = .ok (.isub, 1) := by decide +kernel
theorem dX10_side_11 : decode cX10_side 11 = .ok (.iload 4, 2) := by decide +kernel
theorem dX10_side_13 : decode cX10_side 13 = .ok (.iload_n 0, 1) := by decide +kernel
theorem dX10_side_14 : decode cX10_side 14 = .ok (.isub, 1) := by decide +kernel
theorem dX10_side_15 : decode cX10_side 15 = .ok (.imul, 1) := by decide +kernel
theorem dX10_side_16 : decode cX10_side 16 = .ok (.isub, 1) := by decide +kernel
theorem dX10_side_17 : decode cX10_side 17 = .ok (.ireturn, 1) := by decide +kernel
theorem dX10_limits_0 : decode cX10_limits 0 = .ok (.iconst 0, 1) := by decide +kernel
theorem dX10_limits_1 : decode cX10_limits 1 = .ok (.istore_n 1, 1) := by decide +kernel
theorem dX10_limits_2 : decode cX10_limits 2 = .ok (.iconst 0, 1) := by decide +kernel
theorem dX10_limits_3 : decode cX10_limits 3 = .ok (.istore_n 2, 1) := by decide +kernel
theorem dX10_limits_4 : decode cX10_limits 4 = .ok (.iload_n 2, 1) := by decide +kernel
theorem dX10_limits_5 : decode cX10_limits 5 = .ok (.sipush 280, 3) := by decide +kernel
theorem dX10_limits_8 : decode cX10_limits 8 = .ok (.if_icmp .ge 64, 3) := by decide +kernel
theorem dX10_limits_11 : decode cX10_limits 11 = .ok (.aload_n 0, 1) := by decide +kernel
theorem dX10_limits_12 : decode cX10_limits 12 = .ok (.iload_n 2, 1) := by decide +kernel
theorem dX10_limits_13 : decode cX10_limits 13 = .ok (.invokevirtual 115, 3) := by decide +kernel
theorem dX10_limits_16 : decode cX10_limits 16 = .ok (.ifCond .ne 6, 3) := by decide +kernel
theorem dX10_limits_19 : decode cX10_limits 19 = .ok (.goto 47, 3) := by decide +kernel
theorem dX10_limits_22 : decode cX10_limits 22 = .ok (.iconst 0, 1) := by decide +kernel
theorem dX10_limits_23 : decode cX10_limits 23 = .ok (.istore_n 3, 1) := by decide +kernel
theorem dX10_limits_24 : decode cX10_limits 24 = .ok (.iload_n 3, 1) := by decide +kernel
theorem dX10_limits_25 : decode cX10_limits 25 = .ok (.iconst 4, 1) := by decide +kernel
theorem dX10_limits_26 : decode cX10_limits 26 = .ok (.if_icmp .ge 40, 3) := by decide +kernel
theorem dX10_limits_29 : decode cX10_limits 29 = .ok (.aload_n 0, 1) := by decide +kernel
theorem dX10_limits_30 : decode cX10_limits 30 = .ok (.getfield 60, 3) := by decide +kernel
theorem dX10_limits_33 : decode cX10_limits 33 = .ok (.iload_n 1, 1) := by decide +kernel
theorem dX10_limits_34 : decode cX10_limits 34 = .ok (.iload_n 2, 1) := by decide +kernel
theorem dX10_limits_35 : decode cX10_limits 35 = .ok (.bipush 20, 2) := by decide +kernel
theorem dX10_limits_37 : decode cX10_limits 37 = .ok (.irem, 1) := by decide +kernel
theorem dX10_limits_38 : decode cX10_limits 38 = .ok (.iload_n 3, 1) := by decide +kernel
theorem dX10_limits_39 : decode cX10_limits 39 = .ok (.iconst 2, 1) := by decide +kernel
theorem dX10_limits_40 : decode cX10_limits 40 = .ok (.irem, 1) := by decide +kernel
theorem dX10_limits_41 : decode cX10_limits 41 = .ok (.iadd, 1) := by decide +kernel
theorem dX10_limits_42 : decode cX10_limits 42 = .ok (.iastore, 1) := by decide +kernel
theorem dX10_limits_43 : decode cX10_limits 43 = .ok (.aload_n 0, 1) := by decide +kernel
theorem dX10_limits_44 : decode cX10_limits 44 = .ok (.getfield 63, 3) := by decide +kernel
theorem dX10_limits_47 : decode cX10_limits 47 = .ok (.iload_n 1, 1) := by decide +kernel
theorem dX10_limits_48 : decode cX10_limits 48 = .ok (.iload_n 2, 1) := by decide +kernel
theorem dX10_limits_49 : decode cX10_limits 49 = .ok (.bipush 20, 2) := by decide +kernel
theorem dX10_limits_51 : decode cX10_limits 51 = .ok (.idiv, 1) := by decide +kernel
theorem dX10_limits_52 : decode cX10_limits 52 = .ok (.iload_n 3, 1) := by decide +kernel
theorem dX10_limits_53 : decode cX10_limits 53 = .ok (.iconst 2, 1) := by decide +kernel
theorem dX10_limits_54 : decode cX10_limits 54 = .ok (.idiv, 1) := by decide +kernel
theorem dX10_limits_55 : decode cX10_limits 55 = .ok (.iadd, 1) := by decide +kernel
theorem dX10_limits_56 : decode cX10_limits 56 = .ok (.iastore, 1) := by decide +kernel
theorem dX10_limits_57 : decode cX10_limits 57 = .ok (.iinc 1 1, 3) := by decide +kernel
theorem dX10_limits_60 : decode cX10_limits 60 = .ok (.iinc 3 1, 3) := by decide +kernel
theorem dX10_limits_63 : decode cX10_limits 63 = .ok (.goto (-39), 3) := by decide +kernel
theorem dX10_limits_66 : decode cX10_limits 66 = .ok (.iinc 2 1, 3) := by decide +kernel
theorem dX10_limits_69 : decode cX10_limits 69 = .ok (.goto (-65), 3) := by decide +kernel
theorem dX10_limits_72 : decode cX10_limits 72 = .ok (.aload_n 0, 1) := by decide +kernel
theorem dX10_limits_73 : decode cX10_limits 73 = .ok (.iconst 0, 1) := by decide +kernel
theorem dX10_limits_74 : decode cX10_limits 74 = .ok (.putfield 159, 3) := by decide +kernel
theorem dX10_limits_77 : decode cX10_limits 77 = .ok (.iload_n 1, 1) := by decide +kernel
theorem dX10_limits_78 : decode cX10_limits 78 = .ok (.ifCond .ne 4, 3) := by decide +kernel
theorem dX10_limits_81 : decode cX10_limits 81 = .ok (.return_, 1) := by decide +kernel
theorem dX10_limits_82 : decode cX10_limits 82 = .ok (.iconst 0, 1) := by decide +kernel
theorem dX10_limits_83 : decode cX10_limits 83 = .ok (.istore_n 2, 1) := by decide +kernel
theorem dX10_limits_84 : decode cX10_limits 84 = .ok (.iconst 1, 1) := by decide +kernel
theorem dX10_limits_85 : decode cX10_limits 85 = .ok (.istore_n 3, 1) := by decide +kernel
theorem dX10_limits_86 : decode cX10_limits 86 = .ok (.iload_n 3, 1) := by decide +kernel
theorem dX10_limits_87 : decode cX10_limits 87 = .ok (.iload_n 1, 1) := by decide +kernel
theorem dX10_limits_88 : decode cX10_limits 88 = .ok (.if_icmp .ge 56, 3) := by decide +kernel
theorem dX10_limits_91 : decode cX10_limits 91 = .ok (.aload_n 0, 1) := by decide +kernel
theorem dX10_limits_92 : decode cX10_limits 92 = .ok (.getfield 60, 3) := by decide +kernel
theorem dX10_limits_95 : decode cX10_limits 95 = .ok (.iload_n 3, 1) := by decide +kernel
theorem dX10_limits_96 : decode cX10_limits 96 = .ok (.iaload, 1) := by decide +kernel
theorem dX10_limits_97 : decode cX10_limits 97 = .ok (.aload_n 0, 1) := by decide +kernel
theorem dX10_limits_98 : decode cX10_limits 98 = .ok (.getfield 60, 3) := by decide +kernel
theorem dX10_limits_101 : decode cX10_limits 101 = .ok (.iload_n 2, 1) := by decide +kernel
theorem dX10_limits_102 : decode cX10_limits 102 = .ok (.iaload, 1) := by decide +kernel
theorem dX10_limits_103 : decode cX10_limits 103 = .ok (.if_icmp .lt 33, 3) := by decide +kernel
theorem dX10_limits_106 : decode cX10_limits 106 = .ok (.aload_n 0, 1) := by decide +kernel
theorem dX10_limits_107 : decode cX10_limits 107 = .ok (.getfield 60, 3) := by decide +kernel
theorem dX10_limits_110 : decode cX10_limits 110 = .ok (.iload_n 3, 1) := by decide +kernel
theorem dX10_limits_111 : decode cX10_limits 111 = .ok (.iaload, 1) := by decide +kernel
theorem dX10_limits_112 : decode cX10_limits 112 = .ok (.aload_n 0, 1) := by decide +kernel
theorem dX10_limits_113 : decode cX10_limits 113 = .ok (.getfield 60, 3) := by decide +kernel
theorem dX10_limits_116 : decode cX10_limits 116 = .ok (.iload_n 2, 1) := by decide +kernel
theorem dX10_limits_117 : decode cX10_limits 117 = .ok (.iaload, 1) := by decide +kernel
theorem dX10_limits_118 : decode cX10_limits 118 = .ok (.if_icmp .ne 20, 3) := by decide +kernel
theorem dX10_limits_121 : decode cX10_limits 121 = .ok (.aload_n 0, 1) := by decide +kernel
theorem dX10_limits_122 : decode cX10_limits 122 = .ok (.getfield 63, 3) := by decide +kernel
theorem dX10_limits_125 : decode cX10_limits 125 = .ok (.iload_n 3, 1) := by decide +kernel
theorem dX10_limits_126 : decode cX10_limits 126 = .ok (.iaload, 1) := by decide +kernel
theorem dX10_limits_127 : decode cX10_limits 127 = .ok (.aload_n 0, 1) := by decide +kernel
theorem dX10_limits_128 : decode cX10_limits 128 = .ok (.getfield 63, 3) := by decide +kernel
theorem dX10_limits_131 : decode cX10_limits 131 = .ok (.iload_n 2, 1) := by decide +kernel
theorem dX10_limits_132 : decode cX10_limits 132 = .ok (.iaload, 1) := by decide +kernel
theorem dX10_limits_133 : decode cX10_limits 133 = .ok (.if_icmp .ge 5, 3) := by decide +kernel
theorem dX10_limits_136 : decode cX10_limits 136 = .ok (.iload_n 3, 1) := by decide +kernel
theorem dX10_limits_137 : decode cX10_limits 137 = .ok (.istore_n 2, 1) := by decide +kernel
theorem dX10_limits_138 : decode cX10_limits 138 = .ok (.iinc 3 1, 3) := by decide +kernel
theorem dX10_limits_141 : decode cX10_limits 141 = .ok (.goto (-55), 3) := by decide +kernel
theorem dX10_limits_144 : decode cX10_limits 144 = .ok (.iload_n 2, 1) := by decide +kernel
theorem dX10_limits_145 : decode cX10_limits 145 = .ok (.istore_n 3, 1) := by decide +kernel
theorem dX10_limits_146 : decode cX10_limits 146 = .ok (.aload_n 0, 1) := by decide +kernel
theorem dX10_limits_147 : decode cX10_limits 147 = .ok (.getfield 66, 3) := by decide +kernel
theorem dX10_limits_150 : decode cX10_limits 150 = .ok (.aload_n 0, 1) := by decide +kernel
theorem dX10_limits_151 : decode cX10_limits 151 = .ok (.getfield 159, 3) := by decide +kernel
theorem dX10_limits_154 : decode cX10_limits 154 = .ok (.aload_n 0, 1) := by decide +kernel
theorem dX10_limits_155 : decode cX10_limits 155 = .ok (.getfield 60, 3) := by decide +kernel
theorem dX10_limits_158 : decode cX10_limits 158 = .ok (.iload_n 3, 1) := by decide +kernel
theorem dX10_limits_159 : decode cX10_limits 159 = .ok (.iaload, 1) := by decide +kernel
theorem dX10_limits_160 : decode cX10_limits 160 = .ok (.iastore, 1) := by decide +kernel
theorem dX10_limits_161 : decode cX10_limits 161 = .ok (.aload_n 0, 1) := by decide +kernel
theorem dX10_limits_162 : decode cX10_limits 162 = .ok (.getfield 69, 3) := by decide +kernel
theorem dX10_limits_165 : decode cX10_limits 165 = .ok (.aload_n 0, 1) := by decide +kernel
theorem dX10_limits_166 : decode cX10_limits 166 = .ok (.getfield 159, 3) := by decide +kernel
theorem dX10_limits_169 : decode cX10_limits 169 = .ok (.aload_n 0, 1) := by decide +kernel
theorem dX10_limits_170 : decode cX10_limits 170 = .ok (.getfield 63, 3) := by decide +kernel
theorem dX10_limits_173 : decode cX10_limits 173 = .ok (.iload_n 3, 1) := by decide +kernel
theorem dX10_limits_174 : decode cX10_limits 174 = .ok (.iaload, 1) := by decide +kernel
theorem dX10_limits_175 : decode cX10_limits 175 = .ok (.iastore, 1) := by decide +kernel
theorem dX10_limits_176 : decode cX10_limits 176 = .ok (.aload_n 0, 1) := by decide +kernel
theorem dX10_limits_177 : decode cX10_limits 177 = .ok (.dup, 1) := by decide +kernel
theorem dX10_limits_178 : decode cX10_limits 178 = .ok (.getfield 159, 3) := by decide +kernel
theorem dX10_limits_181 : decode cX10_limits 181 = .ok (.iconst 1, 1) := by decide +kernel
theorem dX10_limits_182 : decode cX10_limits 182 = .ok (.iadd, 1) := by decide +kernel
theorem dX10_limits_183 : decode cX10_limits 183 = .ok (.putfield 159, 3) := by decide +kernel
theorem dX10_limits_186 : decode cX10_limits 186 = .ok (.iconst (-1), 1) := by decide +kernel
theorem dX10_limits_187 : decode cX10_limits 187 = .ok (.istore 4, 2) := by decide +kernel
theorem dX10_limits_189 : decode cX10_limits 189 = .ok (.iconst 0, 1) := by decide +kernel
theorem dX10_limits_190 : decode cX10_limits 190 = .ok (.istore 5, 2) := by decide +kernel
theorem dX10_limits_192 : decode cX10_limits 192 = .ok (.iload 5, 2) := by decide +kernel
theorem dX10_limits_194 : decode cX10_limits 194 = .ok (.iload_n 1, 1) := by decide +kernel
theorem dX10_limits_195 : decode cX10_limits 195 = .ok (.if_icmp .ge 65, 3) := by decide +kernel
theorem dX10_limits_198 : decode cX10_limits 198 = .ok (.aload_n 0, 1) := by decide +kernel
theorem dX10_limits_199 : decode cX10_limits 199 = .ok (.getfield 60, 3) := by decide +kernel
theorem dX10_limits_202 : decode cX10_limits 202 = .ok (.iload 5, 2) := by decide +kernel
theorem dX10_limits_204 : decode cX10_limits 204 = .ok (.iaload, 1) := by decide +kernel
theorem dX10_limits_205 : decode cX10_limits 205 = .ok (.aload_n 0, 1) := by decide +kernel
theorem dX10_limits_206 : decode cX10_limits 206 = .ok (.getfield 60, 3) := by decide +kernel
theorem dX10_limits_209 : decode cX10_limits 209 = .ok (.iload_n 3, 1) := by decide +kernel
theorem dX10_limits_210 : decode cX10_limits 210 = .ok (.iaload, 1) := by decide +kernel
theorem dX10_limits_211 : decode cX10_limits 211 = .ok (.if_icmp .ne 22, 3) := by decide +kernel
theorem dX10_limits_214 : decode cX10_limits 214 = .ok (.aload_n 0, 1) := by decide +kernel
theorem dX10_limits_215 : decode cX10_limits 215 = .ok (.getfield 63, 3) := by decide +kernel
theorem dX10_limits_218 : decode cX10_limits 218 = .ok (.iload 5, 2) := by decide +kernel
theorem dX10_limits_220 : decode cX10_limits 220 = .ok (.iaload, 1) := by decide +kernel
theorem dX10_limits_221 : decode cX10_limits 221 = .ok (.aload_n 0, 1) := by decide +kernel
theorem dX10_limits_222 : decode cX10_limits 222 = .ok (.getfield 63, 3) := by decide +kernel
theorem dX10_limits_225 : decode cX10_limits 225 = .ok (.iload_n 3, 1) := by decide +kernel
theorem dX10_limits_226 : decode cX10_limits 226 = .ok (.iaload, 1) := by decide +kernel
theorem dX10_limits_227 : decode cX10_limits 227 = .ok (.if_icmp .ne 6, 3) := by decide +kernel
theorem dX10_limits_230 : decode cX10_limits 230 = .ok (.goto 24, 3) := by decide +kernel
theorem dX10_limits_233 : decode cX10_limits 233 = .ok (.iload 4, 2) := by decide +kernel
theorem dX10_limits_235 : decode cX10_limits 235 = .ok (.ifCond .lt 15, 3) := by decide +kernel
theorem dX10_limits_238 : decode cX10_limits 238 = .ok (.aload_n 0, 1) := by decide +kernel
theorem dX10_limits_239 : decode cX10_limits 239 = .ok (.iload_n 3, 1) := by decide +kernel
theorem dX10_limits_240 : decode cX10_limits 240 = .ok (.iload 4, 2) := by decide +kernel
theorem dX10_limits_242 : decode cX10_limits 242 = .ok (.iload 5, 2) := by decide +kernel
theorem dX10_limits_244 : decode cX10_limits 244 = .ok (.invokevirtual 162, 3) := by decide +kernel
theorem dX10_limits_247 : decode cX10_limits 247 = .ok (.ifCond .eq 7, 3) := by decide +kernel
theorem dX10_limits_250 : decode cX10_limits 250 = .ok (.iload 5, 2) := by decide +kernel
theorem dX10_limits_252 : decode cX10_limits 252 = .ok (.istore 4, 2) := by decide +kernel
theorem dX10_limits_254 : decode cX10_limits 254 = .ok (.iinc 5 1, 3) := by decide +kernel
theorem dX10_limits_257 : decode cX10_limits 257 = .ok (.goto (-65), 3) := by decide +kernel
theorem dX10_limits_260 : decode cX10_limits 260 = .ok (.iload 4, 2) := by decide +kernel
theorem dX10_limits_262 : decode cX10_limits 262 = .ok (.istore_n 3, 1) := by decide +kernel
theorem dX10_limits_263 : decode cX10_limits 263 = .ok (.aload_n 0, 1) := by decide +kernel
theorem dX10_limits_264 : decode cX10_limits 264 = .ok (.getfield 60, 3) := by decide +kernel
theorem dX10_limits_267 : decode cX10_limits 267 = .ok (.iload_n 3, 1) := by decide +kernel
theorem dX10_limits_268 : decode cX10_limits 268 = .ok (.iaload, 1) := by decide +kernel
theorem dX10_limits_269 : decode cX10_limits 269 = .ok (.aload_n 0, 1) := by decide +kernel
theorem dX10_limits_270 : decode cX10_limits 270 = .ok (.getfield 60, 3) := by decide +kernel
theorem dX10_limits_273 : decode cX10_limits 273 = .ok (.iload_n 2, 1) := by decide +kernel
theorem dX10_limits_274 : decode cX10_limits 274 = .ok (.iaload, 1) := by decide +kernel
theorem dX10_limits_275 : decode cX10_limits 275 = .ok (.if_icmp .ne (-129), 3) := by decide +kernel
theorem dX10_limits_278 : decode cX10_limits 278 = .ok (.aload_n 0, 1) := by decide +kernel
theorem dX10_limits_279 : decode cX10_limits 279 = .ok (.getfield 63, 3) := by decide +kernel
theorem dX10_limits_282 : decode cX10_limits 282 = .ok (.iload_n 3, 1) := by decide +kernel
theorem dX10_limits_283 : decode cX10_limits 283 = .ok (.iaload, 1) := by decide +kernel
theorem dX10_limits_284 : decode cX10_limits 284 = .ok (.aload_n 0, 1) := by decide +kernel
theorem dX10_limits_285 : decode cX10_limits 285 = .ok (.getfield 63, 3) := by decide +kernel
theorem dX10_limits_288 : decode cX10_limits 288 = .ok (.iload_n 2, 1) := by decide +kernel
theorem dX10_limits_289 : decode cX10_limits 289 = .ok (.iaload, 1) := by decide +kernel
theorem dX10_limits_290 : decode cX10_limits 290 = .ok (.if_icmp .ne (-144), 3) := by decide +kernel
theorem dX10_limits_293 : decode cX10_limits 293 = .ok (.return_, 1) := by decide +kernel
theorem dX10_isMore_0 : decode cX10_isMore 0 = .ok (.aload_n 0, 1) := by decide +kernel
theorem dX10_isMore_1 : decode cX10_isMore 1 = .ok (.getfield 60, 3) := by decide +kernel
theorem dX10_isMore_4 : decode cX10_isMore 4 = .ok (.iload_n 1, 1) := by decide +kernel
theorem dX10_isMore_5 : decode cX10_isMore 5 = .ok (.iaload, 1) := by decide +kernel
theorem dX10_isMore_6 : decode cX10_isMore 6 = .ok (.aload_n 0, 1) := by decide +kernel
theorem dX10_isMore_7 : decode cX10_isMore 7 = .ok (.getfield 63, 3) := by decide +kernel
theorem dX10_isMore_10 : decode cX10_isMore 10 = .ok (.iload_n 1, 1) := by decide +kernel
theorem dX10_isMore_11 : decode cX10_isMore 11 = .ok (.iaload, 1) := by decide +kernel
theorem dX10_isMore_12 : decode cX10_isMore 12 = .ok (.aload_n 0, 1) := by decide +kernel
theorem dX10_isMore_13 : decode cX10_isMore 13 = .ok (.getfield 60, 3) := by decide +kernel
theorem dX10_isMore_16 : decode cX10_isMore 16 = .ok (.iload_n 2, 1) := by decide +kernel
theorem dX10_isMore_17 : decode cX10_isMore 17 = .ok (.iaload, 1) := by decide +kernel
theorem dX10_isMore_18 : decode cX10_isMore 18 = .ok (.aload_n 0, 1) := by decide +kernel
theorem dX10_isMore_19 : decode cX10_isMore 19 = .ok (.getfield 63, 3) := by decide +kernel
theorem dX10_isMore_22 : decode cX10_isMore 22 = .ok (.iload_n 2, 1) := by decide +kernel
theorem dX10_isMore_23 : decode cX10_isMore 23 = .ok (.iaload, 1) := by decide +kernel
theorem dX10_isMore_24 : decode cX10_isMore 24 = .ok (.aload_n 0, 1) := by decide +kernel
theorem dX10_isMore_25 : decode cX10_isMore 25 = .ok (.getfield 60, 3) := by decide +kernel
theorem dX10_isMore_28 : decode cX10_isMore 28 = .ok (.iload_n 3, 1) := by decide +kernel
theorem dX10_isMore_29 : decode cX10_isMore 29 = .ok (.iaload, 1) := by decide +kernel
theorem dX10_isMore_30 : decode cX10_isMore 30 = .ok (.aload_n 0, 1) := by decide +kernel
theorem dX10_isMore_31 : decode cX10_isMore 31 = .ok (.getfield 63, 3) := by decide +kernel
theorem dX10_isMore_34 : decode cX10_isMore 34 = .ok (.iload_n 3, 1) := by decide +kernel
theorem dX10_isMore_35 : decode cX10_isMore 35 = .ok (.iaload, 1) := by decide +kernel
theorem dX10_isMore_36 : decode cX10_isMore 36 = .ok (.invokestatic 165, 3) := by decide +kernel
theorem dX10_isMore_39 : decode cX10_isMore 39 = .ok (.istore 4, 2) := by decide +kernel
theorem dX10_isMore_41 : decode cX10_isMore 41 = .ok (.iload 4, 2) := by decide +kernel
theorem dX10_isMore_43 : decode cX10_isMore 43 = .ok (.ifCond .eq 14, 3) := by decide +kernel
theorem dX10_isMore_46 : decode cX10_isMore 46 = .ok (.iload 4, 2) := by decide +kernel
theorem dX10_isMore_48 : decode cX10_isMore 48 = .ok (.ifCond .ge 7, 3) := by decide +kernel
theorem dX10_isMore_51 : decode cX10_isMore 51 = .ok (.iconst 1, 1) := by decide +kernel
theorem dX10_isMore_52 : decode cX10_isMore 52 = .ok (.goto 4, 3) := by decide +kernel
theorem dX10_isMore_55 : decode cX10_isMore 55 = .ok (.iconst 0, 1) := by decide +kernel
theorem dX10_isMore_56 : decode cX10_isMore 56 = .ok (.ireturn, 1) := by decide +kernel
theorem dX10_isMore_57 : decode cX10_isMore 57 = .ok (.aload_n 0, 1) := by decide +kernel
theorem dX10_isMore_58 : decode cX10_isMore 58 = .ok (.getfield 60, 3) := by decide +kernel
theorem dX10_isMore_61 : decode cX10_isMore 61 = .ok (.iload_n 3, 1) := by decide +kernel
theorem dX10_isMore_62 : decode cX10_isMore 62 = .ok (.iaload, 1) := by decide +kernel
theorem dX10_isMore_63 : decode cX10_isMore 63 = .ok (.aload_n 0, 1) := by decide +kernel
theorem dX10_isMore_64 : decode cX10_isMore 64 = .ok (.getfield 60, 3) := by decide +kernel
theorem dX10_isMore_67 : decode cX10_isMore 67 = .ok (.iload_n 1, 1) := by decide +kernel
theorem dX10_isMore_68 : decode cX10_isMore 68 = .ok (.iaload, 1) := by decide +kernel
theorem dX10_isMore_69 : decode cX10_isMore 69 = .ok (.isub, 1) := by decide +kernel
theorem dX10_isMore_70 : decode cX10_isMore 70 = .ok (.invokestatic 169, 3) := by decide +kernel
theorem dX10_isMore_73 : decode cX10_isMore 73 = .ok (.aload_n 0, 1) := by decide +kernel
theorem dX10_isMore_74 : decode cX10_isMore 74 = .ok (.getfield 63, 3) := by decide +kernel
theorem dX10_isMore_77 : decode cX10_isMore 77 = .ok (.iload_n 3, 1) := by decide +kernel
theorem dX10_isMore_78 : decode cX10_isMore 78 = .ok (.iaload, 1) := by decide +kernel
theorem dX10_isMore_79 : decode cX10_isMore 79 = .ok (.aload_n 0, 1) := by decide +kernel
theorem dX10_isMore_80 : decode cX10_isMore 80 = .ok (.getfield 63, 3) := by decide +kernel
theorem dX10_isMore_83 : decode cX10_isMore 83 = .ok (.iload_n 1, 1) := by decide +kernel
theorem dX10_isMore_84 : decode cX10_isMore 84 = .ok (.iaload, 1) := by decide +kernel
theorem dX10_isMore_85 : decode cX10_isMore 85 = .ok (.isub, 1) := by decide +kernel
theorem dX10_isMore_86 : decode cX10_isMore 86 = .ok (.invokestatic 169, 3) := by decide +kernel
theorem dX10_isMore_89 : decode cX10_isMore 89 = .ok (.iadd, 1) := by decide +kernel
theorem dX10_isMore_90 : decode cX10_isMore 90 = .ok (.aload_n 0, 1) := by decide +kernel
theorem dX10_isMore_91 : decode cX10_isMore 91 = .ok (.getfield 60, 3) := by decide +kernel
theorem dX10_isMore_94 : decode cX10_isMore 94 = .ok (.iload_n 2, 1) := by decide +kernel
theorem dX10_isMore_95 : decode cX10_isMore 95 = .ok (.iaload, 1) := by decide +kernel
theorem dX10_isMore_96 : decode cX10_isMore 96 = .ok (.aload_n 0, 1) := by decide +kernel
theorem dX10_isMore_97 : decode cX10_isMore 97 = .ok (.getfield 60, 3) := by decide +kernel
theorem dX10_isMore_100 : decode cX10_isMore 100 = .ok (.iload_n 1, 1) := by decide +kernel
theorem dX10_isMore_101 : decode cX10_isMore 101 = .ok (.iaload, 1) := by decide +kernel
theorem dX10_isMore_102 : decode cX10_isMore 102 = .ok (.isub, 1) := by decide +kernel
theorem dX10_isMore_103 : decode cX10_isMore 103 = .ok (.invokestatic 169, 3) := by decide +kernel
theorem dX10_isMore_106 : decode cX10_isMore 106 = .ok (.aload_n 0, 1) := by decide +kernel
theorem dX10_isMore_107 : decode cX10_isMore 107 = .ok (.getfield 63, 3) := by decide +kernel
theorem dX10_isMore_110 : decode cX10_isMore 110 = .ok (.iload_n 2, 1) := by decide +kernel
theorem dX10_isMore_111 : decode cX10_isMore 111 = .ok (.iaload, 1) := by decide +kernel
theorem dX10_isMore_112 : decode cX10_isMore 112 = .ok (.aload_n 0, 1) := by decide +kernel
theorem dX10_isMore_113 : decode cX10_isMore 113 = .ok (.getfield 63, 3) := by decide +kernel
theorem dX10_isMore_116 : decode cX10_isMore 116 = .ok (.iload_n 1, 1) := by decide +kernel
theorem dX10_isMore_117 : decode cX10_isMore 117 = .ok (.iaload, 1) := by decide +kernel
theorem dX10_isMore_118 : decode cX10_isMore 118 = .ok (.isub, 1) := by decide +kernel
theorem dX10_isMore_119 : decode cX10_isMore 119 = .ok (.invokestatic 169, 3) := by decide +kernel
theorem dX10_isMore_122 : decode cX10_isMore 122 = .ok (.iadd, 1) := by decide +kernel
theorem dX10_isMore_123 : decode cX10_isMore 123 = .ok (.if_icmp .le 7, 3) := by decide +kernel
theorem dX10_isMore_126 : decode cX10_isMore 126 = .ok (.iconst 1, 1) := by decide +kernel
theorem dX10_isMore_127 : decode cX10_isMore 127 = .ok (.goto 4, 3) := by decide +kernel
theorem dX10_isMore_130 : decode cX10_isMore 130 = .ok (.iconst 0, 1) := by decide +kernel
theorem dX10_isMore_131 : decode cX10_isMore 131 = .ok (.ireturn, 1) := by decide +kernel
theorem dX10_limit_0 : decode cX10_limit 0 = .ok (.aload_n 0, 1) := by decide +kernel
theorem dX10_limit_1 : decode cX10_limit 1 = .ok (.iconst 0, 1) := by decide +kernel
theorem dX10_limit_2 : decode cX10_limit 2 = .ok (.putfield 3, 3) := by decide +kernel
theorem dX10_limit_5 : decode cX10_limit 5 = .ok (.aload_n 0, 1) := by decide +kernel
theorem dX10_limit_6 : decode cX10_limit 6 = .ok (.invokevirtual 172, 3) := by decide +kernel
theorem dX10_limit_9 : decode cX10_limit 9 = .ok (.aload_n 0, 1) := by decide +kernel
theorem dX10_limit_10 : decode cX10_limit 10 = .ok (.getfield 159, 3) := by decide +kernel
theorem dX10_limit_13 : decode cX10_limit 13 = .ok (.ireturn, 1) := by decide +kernel
theorem dX10_corner_0 : decode cX10_corner 0 = .ok (.aload_n 0, 1) := by decide +kernel
theorem dX10_corner_1 : decode cX10_corner 1 = .ok (.iconst 0, 1) := by decide +kernel
theorem dX10_corner_2 : decode cX10_corner 2 = .ok (.putfield 3, 3) := by decide +kernel
theorem dX10_corner_5 : decode cX10_corner 5 = .ok (.aload_n 0, 1) := by decide +kernel
theorem dX10_corner_6 : decode cX10_corner 6 = .ok (.invokevirtual 172, 3) := by decide +kernel
theorem dX10_corner_9 : decode cX10_corner 9 = .ok (.iload_n 1, 1) := by decide +kernel
theorem dX10_corner_10 : decode cX10_corner 10 = .ok (.iconst 0, 1) := by decide +kernel
theorem dX10_corner_11 : decode cX10_corner 11 = .ok (.aload_n 0, 1) := by decide +kernel
theorem dX10_corner_12 : decode cX10_corner 12 = .ok (.getfield 159, 3) := by decide +kernel
theorem dX10_corner_15 : decode cX10_corner 15 = .ok (.iconst 1, 1) := by decide +kernel
theorem dX10_corner_16 : decode cX10_corner 16 = .ok (.isub, 1) := by decide +kernel
theorem dX10_corner_17 : decode cX10_corner 17 = .ok (.invokestatic 97, 3) := by decide +kernel
theorem dX10_corner_20 : decode cX10_corner 20 = .ok (.ifCond .ne 7, 3) := by decide +kernel
theorem dX10_corner_23 : decode cX10_corner 23 = .ok (.iconst (-1), 1) := by decide +kernel
theorem dX10_corner_24 : decode cX10_corner 24 = .ok (.goto 22, 3) := by decide +kernel
theorem dX10_corner_27 : decode cX10_corner 27 = .ok (.iload_n 2, 1) := by decide +kernel
theorem dX10_corner_28 : decode cX10_corner 28 = .ok (.ifCond .eq 12, 3) := by decide +kernel
theorem dX10_corner_31 : decode cX10_corner 31 = .ok (.aload_n 0, 1) := by decide +kernel
theorem dX10_corner_32 : decode cX10_corner 32 = .ok (.getfield 69, 3) := by decide +kernel
theorem dX10_corner_35 : decode cX10_corner 35 = .ok (.iload_n 1, 1) := by decide +kernel
theorem dX10_corner_36 : decode cX10_corner 36 = .ok (.iaload, 1) := by decide +kernel
theorem dX10_corner_37 : decode cX10_corner 37 = .ok (.goto 9, 3) := by decide +kernel
theorem dX10_corner_40 : decode cX10_corner 40 = .ok (.aload_n 0, 1) := by decide +kernel
theorem dX10_corner_41 : decode cX10_corner 41 = .ok (.getfield 66, 3) := by decide +kernel
theorem dX10_corner_44 : decode cX10_corner 44 = .ok (.iload_n 1, 1) := by decide +kernel
theorem dX10_corner_45 : decode cX10_corner 45 = .ok (.iaload, 1) := by decide +kernel
theorem dX10_corner_46 : decode cX10_corner 46 = .ok (.ireturn, 1) := by decide +kernel
theorem dX10_takes_0 : decode cX10_takes 0 = .ok (.aload_n 0, 1) := by decide +kernel
theorem dX10_takes_1 : decode cX10_takes 1 = .ok (.getfield 48, 3) := by decide +kernel
theorem dX10_takes_4 : decode cX10_takes 4 = .ok (.aload_n 0, 1) := by decide +kernel
theorem dX10_takes_5 : decode cX10_takes 5 = .ok (.getfield 104, 3) := by decide +kernel
theorem dX10_takes_8 : decode cX10_takes 8 = .ok (.iload_n 1, 1) := by decide +kernel
theorem dX10_takes_9 : decode cX10_takes 9 = .ok (.iastore, 1) := by decide +kernel
theorem dX10_takes_10 : decode cX10_takes 10 = .ok (.aload_n 0, 1) := by decide +kernel
theorem dX10_takes_11 : decode cX10_takes 11 = .ok (.getfield 51, 3) := by decide +kernel
theorem dX10_takes_14 : decode cX10_takes 14 = .ok (.aload_n 0, 1) := by decide +kernel
theorem dX10_takes_15 : decode cX10_takes 15 = .ok (.getfield 104, 3) := by decide +kernel
theorem dX10_takes_18 : decode cX10_takes 18 = .ok (.aload_n 0, 1) := by decide +kernel
theorem dX10_takes_19 : decode cX10_takes 19 = .ok (.getfield 140, 3) := by decide +kernel
theorem dX10_takes_22 : decode cX10_takes 22 = .ok (.iastore, 1) := by decide +kernel
theorem dX10_takes_23 : decode cX10_takes 23 = .ok (.aload_n 0, 1) := by decide +kernel
theorem dX10_takes_24 : decode cX10_takes 24 = .ok (.getfield 54, 3) := by decide +kernel
theorem dX10_takes_27 : decode cX10_takes 27 = .ok (.aload_n 0, 1) := by decide +kernel
theorem dX10_takes_28 : decode cX10_takes 28 = .ok (.getfield 104, 3) := by decide +kernel
theorem dX10_takes_31 : decode cX10_takes 31 = .ok (.iconst (-1), 1) := by decide +kernel
theorem dX10_takes_32 : decode cX10_takes 32 = .ok (.iastore, 1) := by decide +kernel
theorem dX10_takes_33 : decode cX10_takes 33 = .ok (.aload_n 0, 1) := by decide +kernel
theorem dX10_takes_34 : decode cX10_takes 34 = .ok (.dup, 1) := by decide +kernel
theorem dX10_takes_35 : decode cX10_takes 35 = .ok (.getfield 104, 3) := by decide +kernel
theorem dX10_takes_38 : decode cX10_takes 38 = .ok (.iconst 1, 1) := by decide +kernel
theorem dX10_takes_39 : decode cX10_takes 39 = .ok (.iadd, 1) := by decide +kernel
theorem dX10_takes_40 : decode cX10_takes 40 = .ok (.putfield 104, 3) := by decide +kernel
theorem dX10_takes_43 : decode cX10_takes 43 = .ok (.aload_n 0, 1) := by decide +kernel
theorem dX10_takes_44 : decode cX10_takes 44 = .ok (.getfield 104, 3) := by decide +kernel
theorem dX10_takes_47 : decode cX10_takes 47 = .ok (.iconst 1, 1) := by decide +kernel
theorem dX10_takes_48 : decode cX10_takes 48 = .ok (.isub, 1) := by decide +kernel
theorem dX10_takes_49 : decode cX10_takes 49 = .ok (.ireturn, 1) := by decide +kernel
theorem dX10_warn_0 : decode cX10_warn 0 = .ok (.aload_n 0, 1) := by decide +kernel
theorem dX10_warn_1 : decode cX10_warn 1 = .ok (.iconst 0, 1) := by decide +kernel
theorem dX10_warn_2 : decode cX10_warn 2 = .ok (.putfield 3, 3) := by decide +kernel
theorem dX10_warn_5 : decode cX10_warn 5 = .ok (.aload_n 0, 1) := by decide +kernel
theorem dX10_warn_6 : decode cX10_warn 6 = .ok (.invokevirtual 172, 3) := by decide +kernel
theorem dX10_warn_9 : decode cX10_warn 9 = .ok (.aload_n 0, 1) := by decide +kernel
theorem dX10_warn_10 : decode cX10_warn 10 = .ok (.getfield 159, 3) := by decide +kernel
theorem dX10_warn_13 : decode cX10_warn 13 = .ok (.ifCond .eq 21, 3) := by decide +kernel
theorem dX10_warn_16 : decode cX10_warn 16 = .ok (.aload_n 0, 1) := by decide +kernel
theorem dX10_warn_17 : decode cX10_warn 17 = .ok (.getfield 159, 3) := by decide +kernel
theorem dX10_warn_20 : decode cX10_warn 20 = .ok (.bipush 40, 2) := by decide +kernel
theorem dX10_warn_22 : decode cX10_warn 22 = .ok (.if_icmp .gt 12, 3) := by decide +kernel
theorem dX10_warn_25 : decode cX10_warn 25 = .ok (.aload_n 0, 1) := by decide +kernel
theorem dX10_warn_26 : decode cX10_warn 26 = .ok (.getfield 104, 3) := by decide +kernel
theorem dX10_warn_29 : decode cX10_warn 29 = .ok (.bipush 40, 2) := by decide +kernel
theorem dX10_warn_31 : decode cX10_warn 31 = .ok (.if_icmp .ne 5, 3) := by decide +kernel
theorem dX10_warn_34 : decode cX10_warn 34 = .ok (.iconst (-1), 1) := by decide +kernel
theorem dX10_warn_35 : decode cX10_warn 35 = .ok (.ireturn, 1) := by decide +kernel
theorem dX10_warn_36 : decode cX10_warn 36 = .ok (.iconst 0, 1) := by decide +kernel
theorem dX10_warn_37 : decode cX10_warn 37 = .ok (.istore_n 1, 1) := by decide +kernel
theorem dX10_warn_38 : decode cX10_warn 38 = .ok (.iload_n 1, 1) := by decide +kernel
theorem dX10_warn_39 : decode cX10_warn 39 = .ok (.aload_n 0, 1) := by decide +kernel
theorem dX10_warn_40 : decode cX10_warn 40 = .ok (.getfield 159, 3) := by decide +kernel
theorem dX10_warn_43 : decode cX10_warn 43 = .ok (.if_icmp .ge 49, 3) := by decide +kernel
theorem dX10_warn_46 : decode cX10_warn 46 = .ok (.aload_n 0, 1) := by decide +kernel
theorem dX10_warn_47 : decode cX10_warn 47 = .ok (.getfield 42, 3) := by decide +kernel
theorem dX10_warn_50 : decode cX10_warn 50 = .ok (.bipush 40, 2) := by decide +kernel
theorem dX10_warn_52 : decode cX10_warn 52 = .ok (.aload_n 0, 1) := by decide +kernel
theorem dX10_warn_53 : decode cX10_warn 53 = .ok (.getfield 104, 3) := by decide +kernel
theorem dX10_warn_56 : decode cX10_warn 56 = .ok (.imul, 1) := by decide +kernel
theorem dX10_warn_57 : decode cX10_warn 57 = .ok (.iload_n 1, 1) := by decide +kernel
theorem dX10_warn_58 : decode cX10_warn 58 = .ok (.iadd, 1) := by decide +kernel
theorem dX10_warn_59 : decode cX10_warn 59 = .ok (.aload_n 0, 1) := by decide +kernel
theorem dX10_warn_60 : decode cX10_warn 60 = .ok (.getfield 66, 3) := by decide +kernel
theorem dX10_warn_63 : decode cX10_warn 63 = .ok (.iload_n 1, 1) := by decide +kernel
theorem dX10_warn_64 : decode cX10_warn 64 = .ok (.iaload, 1) := by decide +kernel
theorem dX10_warn_65 : decode cX10_warn 65 = .ok (.iastore, 1) := by decide +kernel
theorem dX10_warn_66 : decode cX10_warn 66 = .ok (.aload_n 0, 1) := by decide +kernel
theorem dX10_warn_67 : decode cX10_warn 67 = .ok (.getfield 45, 3) := by decide +kernel
theorem dX10_warn_70 : decode cX10_warn 70 = .ok (.bipush 40, 2) := by decide +kernel
theorem dX10_warn_72 : decode cX10_warn 72 = .ok (.aload_n 0, 1) := by decide +kernel
theorem dX10_warn_73 : decode cX10_warn 73 = .ok (.getfield 104, 3) := by decide +kernel
theorem dX10_warn_76 : decode cX10_warn 76 = .ok (.imul, 1) := by decide +kernel
theorem dX10_warn_77 : decode cX10_warn 77 = .ok (.iload_n 1, 1) := by decide +kernel
theorem dX10_warn_78 : decode cX10_warn 78 = .ok (.iadd, 1) := by decide +kernel
theorem dX10_warn_79 : decode cX10_warn 79 = .ok (.aload_n 0, 1) := by decide +kernel
theorem dX10_warn_80 : decode cX10_warn 80 = .ok (.getfield 69, 3) := by decide +kernel
theorem dX10_warn_83 : decode cX10_warn 83 = .ok (.iload_n 1, 1) := by decide +kernel
theorem dX10_warn_84 : decode cX10_warn 84 = .ok (.iaload, 1) := by decide +kernel
theorem dX10_warn_85 : decode cX10_warn 85 = .ok (.iastore, 1) := by decide +kernel
theorem dX10_warn_86 : decode cX10_warn 86 = .ok (.iinc 1 1, 3) := by decide +kernel
theorem dX10_warn_89 : decode cX10_warn 89 = .ok (.goto (-51), 3) := by decide +kernel
theorem dX10_warn_92 : decode cX10_warn 92 = .ok (.aload_n 0, 1) := by decide +kernel
theorem dX10_warn_93 : decode cX10_warn 93 = .ok (.aload_n 0, 1) := by decide +kernel
theorem dX10_warn_94 : decode cX10_warn 94 = .ok (.getfield 159, 3) := by decide +kernel
theorem dX10_warn_97 : decode cX10_warn 97 = .ok (.invokevirtual 175, 3) := by decide +kernel
theorem dX10_warn_100 : decode cX10_warn 100 = .ok (.ireturn, 1) := by decide +kernel
theorem dX10_feed_0 : decode cX10_feed 0 = .ok (.aload_n 0, 1) := by decide +kernel
theorem dX10_feed_1 : decode cX10_feed 1 = .ok (.iconst 0, 1) := by decide +kernel
theorem dX10_feed_2 : decode cX10_feed 2 = .ok (.putfield 3, 3) := by decide +kernel
theorem dX10_feed_5 : decode cX10_feed 5 = .ok (.aload_n 0, 1) := by decide +kernel
theorem dX10_feed_6 : decode cX10_feed 6 = .ok (.getfield 178, 3) := by decide +kernel
theorem dX10_feed_9 : decode cX10_feed 9 = .ok (.bipush 20, 2) := by decide +kernel
theorem dX10_feed_11 : decode cX10_feed 11 = .ok (.iadd, 1) := by decide +kernel
theorem dX10_feed_12 : decode cX10_feed 12 = .ok (.sipush 400, 3) := by decide +kernel
theorem dX10_feed_15 : decode cX10_feed 15 = .ok (.if_icmp .le 5, 3) := by decide +kernel
theorem dX10_feed_18 : decode cX10_feed 18 = .ok (.iconst (-1), 1) := by decide +kernel
theorem dX10_feed_19 : decode cX10_feed 19 = .ok (.ireturn, 1) := by decide +kernel
theorem dX10_feed_20 : decode cX10_feed 20 = .ok (.aload_n 0, 1) := by decide +kernel
theorem dX10_feed_21 : decode cX10_feed 21 = .ok (.getfield 76, 3) := by decide +kernel
theorem dX10_feed_24 : decode cX10_feed 24 = .ok (.iconst 0, 1) := by decide +kernel
theorem dX10_feed_25 : decode cX10_feed 25 = .ok (.iload_n 1, 1) := by decide +kernel
theorem dX10_feed_26 : decode cX10_feed 26 = .ok (.iastore, 1) := by decide +kernel
theorem dX10_feed_27 : decode cX10_feed 27 = .ok (.aload_n 0, 1) := by decide +kernel
theorem dX10_feed_28 : decode cX10_feed 28 = .ok (.getfield 76, 3) := by decide +kernel
theorem dX10_feed_31 : decode cX10_feed 31 = .ok (.iconst 1, 1) := by decide +kernel
theorem dX10_feed_32 : decode cX10_feed 32 = .ok (.iload_n 2, 1) := by decide +kernel
theorem dX10_feed_33 : decode cX10_feed 33 = .ok (.iastore, 1) := by decide +kernel
theorem dX10_feed_34 : decode cX10_feed 34 = .ok (.aload_n 0, 1) := by decide +kernel
theorem dX10_feed_35 : decode cX10_feed 35 = .ok (.getfield 76, 3) := by decide +kernel
theorem dX10_feed_38 : decode cX10_feed 38 = .ok (.iconst 2, 1) := by decide +kernel
theorem dX10_feed_39 : decode cX10_feed 39 = .ok (.iload_n 3, 1) := by decide +kernel
theorem dX10_feed_40 : decode cX10_feed 40 = .ok (.iastore, 1) := by decide +kernel
theorem dX10_feed_41 : decode cX10_feed 41 = .ok (.aload_n 0, 1) := by decide +kernel
theorem dX10_feed_42 : decode cX10_feed 42 = .ok (.getfield 76, 3) := by decide +kernel
theorem dX10_feed_45 : decode cX10_feed 45 = .ok (.iconst 3, 1) := by decide +kernel
theorem dX10_feed_46 : decode cX10_feed 46 = .ok (.iload 4, 2) := by decide +kernel
theorem dX10_feed_48 : decode cX10_feed 48 = .ok (.iastore, 1) := by decide +kernel
theorem dX10_feed_49 : decode cX10_feed 49 = .ok (.aload_n 0, 1) := by decide +kernel
theorem dX10_feed_50 : decode cX10_feed 50 = .ok (.getfield 76, 3) := by decide +kernel
theorem dX10_feed_53 : decode cX10_feed 53 = .ok (.iconst 4, 1) := by decide +kernel
theorem dX10_feed_54 : decode cX10_feed 54 = .ok (.iload 5, 2) := by decide +kernel
theorem dX10_feed_56 : decode cX10_feed 56 = .ok (.iastore, 1) := by decide +kernel
theorem dX10_feed_57 : decode cX10_feed 57 = .ok (.iconst 0, 1) := by decide +kernel
theorem dX10_feed_58 : decode cX10_feed 58 = .ok (.istore 6, 2) := by decide +kernel
theorem dX10_feed_60 : decode cX10_feed 60 = .ok (.iload 6, 2) := by decide +kernel
theorem dX10_feed_62 : decode cX10_feed 62 = .ok (.bipush 20, 2) := by decide +kernel
theorem dX10_feed_64 : decode cX10_feed 64 = .ok (.if_icmp .ge 42, 3) := by decide +kernel
theorem dX10_feed_67 : decode cX10_feed 67 = .ok (.aload_n 0, 1) := by decide +kernel
theorem dX10_feed_68 : decode cX10_feed 68 = .ok (.getfield 72, 3) := by decide +kernel
theorem dX10_feed_71 : decode cX10_feed 71 = .ok (.aload_n 0, 1) := by decide +kernel
theorem dX10_feed_72 : decode cX10_feed 72 = .ok (.getfield 178, 3) := by decide +kernel
theorem dX10_feed_75 : decode cX10_feed 75 = .ok (.iload 6, 2) := by decide +kernel
theorem dX10_feed_77 : decode cX10_feed 77 = .ok (.iadd, 1) := by decide +kernel
theorem dX10_feed_78 : decode cX10_feed 78 = .ok (.aload_n 0, 1) := by decide +kernel
theorem dX10_feed_79 : decode cX10_feed 79 = .ok (.getfield 76, 3) := by decide +kernel
theorem dX10_feed_82 : decode cX10_feed 82 = .ok (.iload 6, 2) := by decide +kernel
theorem dX10_feed_84 : decode cX10_feed 84 = .ok (.iconst 4, 1) := by decide +kernel
theorem dX10_feed_85 : decode cX10_feed 85 = .ok (.idiv, 1) := by decide +kernel
theorem dX10_feed_86 : decode cX10_feed 86 = .ok (.iaload, 1) := by decide +kernel
theorem dX10_feed_87 : decode cX10_feed 87 = .ok (.bipush 24, 2) := by decide +kernel
theorem dX10_feed_89 : decode cX10_feed 89 = .ok (.bipush 8, 2) := by decide +kernel
theorem dX10_feed_91 : decode cX10_feed 91 = .ok (.iload 6, 2) := by decide +kernel
theorem dX10_feed_93 : decode cX10_feed 93 = .ok (.iconst 4, 1) := by decide +kernel
theorem dX10_feed_94 : decode cX10_feed 94 = .ok (.irem, 1) := by decide +kernel
theorem dX10_feed_95 : decode cX10_feed 95 = .ok (.imul, 1) := by decide +kernel
theorem dX10_feed_96 : decode cX10_feed 96 = .ok (.isub, 1) := by decide +kernel
theorem dX10_feed_97 : decode cX10_feed 97 = .ok (.ishr, 1) := by decide +kernel
theorem dX10_feed_98 : decode cX10_feed 98 = .ok (.i2b, 1) := by decide +kernel
theorem dX10_feed_99 : decode cX10_feed 99 = .ok (.bastore, 1) := by decide +kernel
theorem dX10_feed_100 : decode cX10_feed 100 = .ok (.iinc 6 1, 3) := by decide +kernel
theorem dX10_feed_103 : decode cX10_feed 103 = .ok (.goto (-43), 3) := by decide +kernel
theorem dX10_feed_106 : decode cX10_feed 106 = .ok (.aload_n 0, 1) := by decide +kernel
theorem dX10_feed_107 : decode cX10_feed 107 = .ok (.dup, 1) := by decide +kernel
theorem dX10_feed_108 : decode cX10_feed 108 = .ok (.getfield 178, 3) := by decide +kernel
theorem dX10_feed_111 : decode cX10_feed 111 = .ok (.bipush 20, 2) := by decide +kernel
theorem dX10_feed_113 : decode cX10_feed 113 = .ok (.iadd, 1) := by decide +kernel
theorem dX10_feed_114 : decode cX10_feed 114 = .ok (.putfield 178, 3) := by decide +kernel
theorem dX10_feed_117 : decode cX10_feed 117 = .ok (.aload_n 0, 1) := by decide +kernel
theorem dX10_feed_118 : decode cX10_feed 118 = .ok (.getfield 178, 3) := by decide +kernel
theorem dX10_feed_121 : decode cX10_feed 121 = .ok (.ireturn, 1) := by decide +kernel
theorem dX10_end_0 : decode cX10_end 0 = .ok (.aload_n 0, 1) := by decide +kernel
theorem dX10_end_1 : decode cX10_end 1 = .ok (.iconst 0, 1) := by decide +kernel
theorem dX10_end_2 : decode cX10_end 2 = .ok (.putfield 3, 3) := by decide +kernel
theorem dX10_end_5 : decode cX10_end 5 = .ok (.iload_n 1, 1) := by decide +kernel
theorem dX10_end_6 : decode cX10_end 6 = .ok (.ifCond .lt 11, 3) := by decide +kernel
theorem dX10_end_9 : decode cX10_end 9 = .ok (.iload_n 1, 1) := by decide +kernel
theorem dX10_end_10 : decode cX10_end 10 = .ok (.aload_n 0, 1) := by decide +kernel
theorem dX10_end_11 : decode cX10_end 11 = .ok (.getfield 178, 3) := by decide +kernel
theorem dX10_end_14 : decode cX10_end 14 = .ok (.if_icmp .le 5, 3) := by decide +kernel
theorem dX10_end_17 : decode cX10_end 17 = .ok (.iconst 0, 1) := by decide +kernel
theorem dX10_end_18 : decode cX10_end 18 = .ok (.ireturn, 1) := by decide +kernel
theorem dX10_end_19 : decode cX10_end 19 = .ok (.aload_n 0, 1) := by decide +kernel
theorem dX10_end_20 : decode cX10_end 20 = .ok (.iload_n 1, 1) := by decide +kernel
theorem dX10_end_21 : decode cX10_end 21 = .ok (.putfield 178, 3) := by decide +kernel
theorem dX10_end_24 : decode cX10_end 24 = .ok (.iconst 1, 1) := by decide +kernel
theorem dX10_end_25 : decode cX10_end 25 = .ok (.ireturn, 1) := by decide +kernel
theorem dX10_isAt_0 : decode cX10_isAt 0 = .ok (.aload_n 0, 1) := by decide +kernel
theorem dX10_isAt_1 : decode cX10_isAt 1 = .ok (.getfield 181, 3) := by decide +kernel
theorem dX10_isAt_4 : decode cX10_isAt 4 = .ok (.aload_n 0, 1) := by decide +kernel
theorem dX10_isAt_5 : decode cX10_isAt 5 = .ok (.getfield 184, 3) := by decide +kernel
theorem dX10_isAt_8 : decode cX10_isAt 8 = .ok (.if_icmp .ge 33, 3) := by decide +kernel
theorem dX10_isAt_11 : decode cX10_isAt 11 = .ok (.aload_n 0, 1) := by decide +kernel
theorem dX10_isAt_12 : decode cX10_isAt 12 = .ok (.getfield 72, 3) := by decide +kernel
theorem dX10_isAt_15 : decode cX10_isAt 15 = .ok (.aload_n 0, 1) := by decide +kernel
theorem dX10_isAt_16 : decode cX10_isAt 16 = .ok (.getfield 181, 3) := by decide +kernel
theorem dX10_isAt_19 : decode cX10_isAt 19 = .ok (.baload, 1) := by decide +kernel
theorem dX10_isAt_20 : decode cX10_isAt 20 = .ok (.iload_n 1, 1) := by decide +kernel
theorem dX10_isAt_21 : decode cX10_isAt 21 = .ok (.if_icmp .lt 20, 3) := by decide +kernel
theorem dX10_isAt_24 : decode cX10_isAt 24 = .ok (.aload_n 0, 1) := by decide +kernel
theorem dX10_isAt_25 : decode cX10_isAt 25 = .ok (.getfield 72, 3) := by decide +kernel
theorem dX10_isAt_28 : decode cX10_isAt 28 = .ok (.aload_n 0, 1) := by decide +kernel
theorem dX10_isAt_29 : decode cX10_isAt 29 = .ok (.getfield 181, 3) := by decide +kernel
theorem dX10_isAt_32 : decode cX10_isAt 32 = .ok (.baload, 1) := by decide +kernel
theorem dX10_isAt_33 : decode cX10_isAt 33 = .ok (.iload_n 2, 1) := by decide +kernel
theorem dX10_isAt_34 : decode cX10_isAt 34 = .ok (.if_icmp .gt 7, 3) := by decide +kernel
theorem dX10_isAt_37 : decode cX10_isAt 37 = .ok (.iconst 1, 1) := by decide +kernel
theorem dX10_isAt_38 : decode cX10_isAt 38 = .ok (.goto 4, 3) := by decide +kernel
theorem dX10_isAt_41 : decode cX10_isAt 41 = .ok (.iconst 0, 1) := by decide +kernel
theorem dX10_isAt_42 : decode cX10_isAt 42 = .ok (.ireturn, 1) := by decide +kernel
theorem dX10_blanks_0 : decode cX10_blanks 0 = .ok (.aload_n 0, 1) := by decide +kernel
theorem dX10_blanks_1 : decode cX10_blanks 1 = .ok (.bipush 32, 2) := by decide +kernel
theorem dX10_blanks_3 : decode cX10_blanks 3 = .ok (.bipush 32, 2) := by decide +kernel
theorem dX10_blanks_5 : decode cX10_blanks 5 = .ok (.invokevirtual 187, 3) := by decide +kernel
theorem dX10_blanks_8 : decode cX10_blanks 8 = .ok (.ifCond .eq 16, 3) := by decide +kernel
theorem dX10_blanks_11 : decode cX10_blanks 11 = .ok (.aload_n 0, 1) := by decide +kernel
theorem dX10_blanks_12 : decode cX10_blanks 12 = .ok (.dup, 1) := by decide +kernel
theorem dX10_blanks_13 : decode cX10_blanks 13 = .ok (.getfield 181, 3) := by decide +kernel
theorem dX10_blanks_16 : decode cX10_blanks 16 = .ok (.iconst 1, 1) := by decide +kernel
theorem dX10_blanks_17 : decode cX10_blanks 17 = .ok (.iadd, 1) := by decide +kernel
theorem dX10_blanks_18 : decode cX10_blanks 18 = .ok (.putfield 181, 3) := by decide +kernel
theorem dX10_blanks_21 : decode cX10_blanks 21 = .ok (.goto (-21), 3) := by decide +kernel
theorem dX10_blanks_24 : decode cX10_blanks 24 = .ok (.aload_n 0, 1) := by decide +kernel
theorem dX10_blanks_25 : decode cX10_blanks 25 = .ok (.aload_n 0, 1) := by decide +kernel
theorem dX10_blanks_26 : decode cX10_blanks 26 = .ok (.getfield 181, 3) := by decide +kernel
theorem dX10_blanks_29 : decode cX10_blanks 29 = .ok (.putfield 190, 3) := by decide +kernel
theorem dX10_blanks_32 : decode cX10_blanks 32 = .ok (.return_, 1) := by decide +kernel
theorem dX10_readWord_0 : decode cX10_readWord 0 = .ok (.aload_n 0, 1) := by decide +kernel
theorem dX10_readWord_1 : decode cX10_readWord 1 = .ok (.invokevirtual 193, 3) := by decide +kernel
theorem dX10_readWord_4 : decode cX10_readWord 4 = .ok (.aload_n 0, 1) := by decide +kernel
theorem dX10_readWord_5 : decode cX10_readWord 5 = .ok (.bipush 97, 2) := by decide +kernel
theorem dX10_readWord_7 : decode cX10_readWord 7 = .ok (.bipush 122, 2) := by decide +kernel
theorem dX10_readWord_9 : decode cX10_readWord 9 = .ok (.invokevirtual 187, 3) := by decide +kernel
theorem dX10_readWord_12 : decode cX10_readWord 12 = .ok (.ifCond .eq 16, 3) := by decide +kernel
theorem dX10_readWord_15 : decode cX10_readWord 15 = .ok (.aload_n 0, 1) := by decide +kernel
theorem dX10_readWord_16 : decode cX10_readWord 16 = .ok (.dup, 1) := by decide +kernel
theorem dX10_readWord_17 : decode cX10_readWord 17 = .ok (.getfield 181, 3) := by decide +kernel
theorem dX10_readWord_20 : decode cX10_readWord 20 = .ok (.iconst 1, 1) := by decide +kernel
theorem dX10_readWord_21 : decode cX10_readWord 21 = .ok (.iadd, 1) := by decide +kernel
theorem dX10_readWord_22 : decode cX10_readWord 22 = .ok (.putfield 181, 3) := by decide +kernel
theorem dX10_readWord_25 : decode cX10_readWord 25 = .ok (.goto (-21), 3) := by decide +kernel
theorem dX10_readWord_28 : decode cX10_readWord 28 = .ok (.aload_n 0, 1) := by decide +kernel
theorem dX10_readWord_29 : decode cX10_readWord 29 = .ok (.getfield 181, 3) := by decide +kernel
theorem dX10_readWord_32 : decode cX10_readWord 32 = .ok (.aload_n 0, 1) := by decide +kernel
theorem dX10_readWord_33 : decode cX10_readWord 33 = .ok (.getfield 190, 3) := by decide +kernel
theorem dX10_readWord_36 : decode cX10_readWord 36 = .ok (.isub, 1) := by decide +kernel
theorem dX10_readWord_37 : decode cX10_readWord 37 = .ok (.aload_n 1, 1) := by decide +kernel
theorem dX10_readWord_38 : decode cX10_readWord 38 = .ok (.invokevirtual 196, 3) := by decide +kernel
theorem dX10_readWord_41 : decode cX10_readWord 41 = .ok (.if_icmp .ne 7, 3) := by decide +kernel
theorem dX10_readWord_44 : decode cX10_readWord 44 = .ok (.iconst 1, 1) := by decide +kernel
theorem dX10_readWord_45 : decode cX10_readWord 45 = .ok (.goto 4, 3) := by decide +kernel
theorem dX10_readWord_48 : decode cX10_readWord 48 = .ok (.iconst 0, 1) := by decide +kernel
theorem dX10_readWord_49 : decode cX10_readWord 49 = .ok (.istore_n 2, 1) := by decide +kernel
theorem dX10_readWord_50 : decode cX10_readWord 50 = .ok (.iconst 0, 1) := by decide +kernel
theorem dX10_readWord_51 : decode cX10_readWord 51 = .ok (.istore_n 3, 1) := by decide +kernel
theorem dX10_readWord_52 : decode cX10_readWord 52 = .ok (.iload_n 2, 1) := by decide +kernel
theorem dX10_readWord_53 : decode cX10_readWord 53 = .ok (.ifCond .eq 42, 3) := by decide +kernel
theorem dX10_readWord_56 : decode cX10_readWord 56 = .ok (.iload_n 3, 1) := by decide +kernel
theorem dX10_readWord_57 : decode cX10_readWord 57 = .ok (.aload_n 1, 1) := by decide +kernel
theorem dX10_readWord_58 : decode cX10_readWord 58 = .ok (.invokevirtual 196, 3) := by decide +kernel
theorem dX10_readWord_61 : decode cX10_readWord 61 = .ok (.if_icmp .ge 34, 3) := by decide +kernel
theorem dX10_readWord_64 : decode cX10_readWord 64 = .ok (.aload_n 0, 1) := by decide +kernel
theorem dX10_readWord_65 : decode cX10_readWord 65 = .ok (.getfield 72, 3) := by decide +kernel
theorem dX10_readWord_68 : decode cX10_readWord 68 = .ok (.aload_n 0, 1) := by decide +kernel
theorem dX10_readWord_69 : decode cX10_readWord 69 = .ok (.getfield 190, 3) := by decide +kernel
theorem dX10_readWord_72 : decode cX10_readWord 72 = .ok (.iload_n 3, 1) := by decide +kernel
theorem dX10_readWord_73 : decode cX10_readWord 73 = .ok (.iadd, 1) := by decide +kernel
theorem dX10_readWord_74 : decode cX10_readWord 74 = .ok (.baload, 1) := by decide +kernel
theorem dX10_readWord_75 : decode cX10_readWord 75 = .ok (.aload_n 1, 1) := by decide +kernel
theorem dX10_readWord_76 : decode cX10_readWord 76 = .ok (.iload_n 3, 1) := by decide +kernel
theorem dX10_readWord_77 : decode cX10_readWord 77 = .ok (.invokevirtual 202, 3) := by decide +kernel
theorem dX10_readWord_80 : decode cX10_readWord 80 = .ok (.if_icmp .ne 7, 3) := by decide +kernel
theorem dX10_readWord_83 : decode cX10_readWord 83 = .ok (.iconst 1, 1) := by decide +kernel
theorem dX10_readWord_84 : decode cX10_readWord 84 = .ok (.goto 4, 3) := by decide +kernel
theorem dX10_readWord_87 : decode cX10_readWord 87 = .ok (.iconst 0, 1) := by decide +kernel
theorem dX10_readWord_88 : decode cX10_readWord 88 = .ok (.istore_n 2, 1) := by decide +kernel
theorem dX10_readWord_89 : decode cX10_readWord 89 = .ok (.iinc 3 1, 3) := by decide +kernel
theorem dX10_readWord_92 : decode cX10_readWord 92 = .ok (.goto (-40), 3) := by decide +kernel
theorem dX10_readWord_95 : decode cX10_readWord 95 = .ok (.iload_n 2, 1) := by decide +kernel
theorem dX10_readWord_96 : decode cX10_readWord 96 = .ok (.ireturn, 1) := by decide +kernel
theorem dX10_readNumber_0 : decode cX10_readNumber 0 = .ok (.aload_n 0, 1) := by decide +kernel
theorem dX10_readNumber_1 : decode cX10_readNumber 1 = .ok (.invokevirtual 193, 3) := by decide +kernel
theorem dX10_readNumber_4 : decode cX10_readNumber 4 = .ok (.iconst 0, 1) := by decide +kernel
theorem dX10_readNumber_5 : decode cX10_readNumber 5 = .ok (.istore_n 2, 1) := by decide +kernel
theorem dX10_readNumber_6 : decode cX10_readNumber 6 = .ok (.aload_n 0, 1) := by decide +kernel
theorem dX10_readNumber_7 : decode cX10_readNumber 7 = .ok (.bipush 48, 2) := by decide +kernel
theorem dX10_readNumber_9 : decode cX10_readNumber 9 = .ok (.bipush 57, 2) := by decide +kernel
theorem dX10_readNumber_11 : decode cX10_readNumber 11 = .ok (.invokevirtual 187, 3) := by decide +kernel
theorem dX10_readNumber_14 : decode cX10_readNumber 14 = .ok (.ifCond .eq 51, 3) := by decide +kernel
theorem dX10_readNumber_17 : decode cX10_readNumber 17 = .ok (.aload_n 0, 1) := by decide +kernel
theorem dX10_readNumber_18 : decode cX10_readNumber 18 = .ok (.getfield 181, 3) := by decide +kernel
theorem dX10_readNumber_21 : decode cX10_readNumber 21 = .ok (.aload_n 0, 1) := by decide +kernel
theorem dX10_readNumber_22 : decode cX10_readNumber 22 = .ok (.getfield 190, 3) := by decide +kernel
theorem dX10_readNumber_25 : decode cX10_readNumber 25 = .ok (.isub, 1) := by decide +kernel
theorem dX10_readNumber_26 : decode cX10_readNumber 26 = .ok (.iconst 2, 1) := by decide +kernel
theorem dX10_readNumber_27 : decode cX10_readNumber 27 = .ok (.if_icmp .ge 23, 3) := by decide +kernel
theorem dX10_readNumber_30 : decode cX10_readNumber 30 = .ok (.bipush 10, 2) := by decide +kernel
theorem dX10_readNumber_32 : decode cX10_readNumber 32 = .ok (.iload_n 2, 1) := by decide +kernel
theorem dX10_readNumber_33 : decode cX10_readNumber 33 = .ok (.imul, 1) := by decide +kernel
theorem dX10_readNumber_34 : decode cX10_readNumber 34 = .ok (.aload_n 0, 1) := by decide +kernel
theorem dX10_readNumber_35 : decode cX10_readNumber 35 = .ok (.getfield 72, 3) := by decide +kernel
theorem dX10_readNumber_38 : decode cX10_readNumber 38 = .ok (.aload_n 0, 1) := by decide +kernel
theorem dX10_readNumber_39 : decode cX10_readNumber 39 = .ok (.getfield 181, 3) := by decide +kernel
theorem dX10_readNumber_42 : decode cX10_readNumber 42 = .ok (.baload, 1) := by decide +kernel
theorem dX10_readNumber_43 : decode cX10_readNumber 43 = .ok (.iadd, 1) := by decide +kernel
theorem dX10_readNumber_44 : decode cX10_readNumber 44 = .ok (.bipush 48, 2) := by decide +kernel
theorem dX10_readNumber_46 : decode cX10_readNumber 46 = .ok (.isub, 1) := by decide +kernel
theorem dX10_readNumber_47 : decode cX10_readNumber 47 = .ok (.goto 4, 3) := by decide +kernel
theorem dX10_readNumber_50 : decode cX10_readNumber 50 = .ok (.iload_n 2, 1) := by decide +kernel
theorem dX10_readNumber_51 : decode cX10_readNumber 51 = .ok (.istore_n 2, 1) := by decide +kernel
theorem dX10_readNumber_52 : decode cX10_readNumber 52 = .ok (.aload_n 0, 1) := by decide +kernel
theorem dX10_readNumber_53 : decode cX10_readNumber 53 = .ok (.dup, 1) := by decide +kernel
theorem dX10_readNumber_54 : decode cX10_readNumber 54 = .ok (.getfield 181, 3) := by decide +kernel
theorem dX10_readNumber_57 : decode cX10_readNumber 57 = .ok (.iconst 1, 1) := by decide +kernel
theorem dX10_readNumber_58 : decode cX10_readNumber 58 = .ok (.iadd, 1) := by decide +kernel
theorem dX10_readNumber_59 : decode cX10_readNumber 59 = .ok (.putfield 181, 3) := by decide +kernel
theorem dX10_readNumber_62 : decode cX10_readNumber 62 = .ok (.goto (-56), 3) := by decide +kernel
theorem dX10_readNumber_65 : decode cX10_readNumber 65 = .ok (.aload_n 0, 1) := by decide +kernel
theorem dX10_readNumber_66 : decode cX10_readNumber 66 = .ok (.getfield 181, 3) := by decide +kernel
theorem dX10_readNumber_69 : decode cX10_readNumber 69 = .ok (.aload_n 0, 1) := by decide +kernel
theorem dX10_readNumber_70 : decode cX10_readNumber 70 = .ok (.getfield 190, 3) := by decide +kernel
theorem dX10_readNumber_73 : decode cX10_readNumber 73 = .ok (.if_icmp .eq 21, 3) := by decide +kernel
theorem dX10_readNumber_76 : decode cX10_readNumber 76 = .ok (.aload_n 0, 1) := by decide +kernel
theorem dX10_readNumber_77 : decode cX10_readNumber 77 = .ok (.getfield 181, 3) := by decide +kernel
theorem dX10_readNumber_80 : decode cX10_readNumber 80 = .ok (.aload_n 0, 1) := by decide +kernel
theorem dX10_readNumber_81 : decode cX10_readNumber 81 = .ok (.getfield 190, 3) := by decide +kernel
theorem dX10_readNumber_84 : decode cX10_readNumber 84 = .ok (.isub, 1) := by decide +kernel
theorem dX10_readNumber_85 : decode cX10_readNumber 85 = .ok (.iconst 2, 1) := by decide +kernel
theorem dX10_readNumber_86 : decode cX10_readNumber 86 = .ok (.if_icmp .gt 8, 3) := by decide +kernel
theorem dX10_readNumber_89 : decode cX10_readNumber 89 = .ok (.iload_n 2, 1) := by decide +kernel
theorem dX10_readNumber_90 : decode cX10_readNumber 90 = .ok (.iload_n 1, 1) := by decide +kernel
theorem dX10_readNumber_91 : decode cX10_readNumber 91 = .ok (.if_icmp .le 7, 3) := by decide +kernel
theorem dX10_readNumber_94 : decode cX10_readNumber 94 = .ok (.iconst (-1), 1) := by decide +kernel
theorem dX10_readNumber_95 : decode cX10_readNumber 95 = .ok (.goto 4, 3) := by decide +kernel
theorem dX10_readNumber_98 : decode cX10_readNumber 98 = .ok (.iload_n 2, 1) := by decide +kernel
theorem dX10_readNumber_99 : decode cX10_readNumber 99 = .ok (.ireturn, 1) := by decide +kernel
theorem dX10_readRing_0 : decode cX10_readRing 0 = .ok (.aload_n 0, 1) := by decide +kernel
theorem dX10_readRing_1 : decode cX10_readRing 1 = .ok (.iconst 0, 1) := by decide +kernel
theorem dX10_readRing_2 : decode cX10_readRing 2 = .ok (.putfield 181, 3) := by decide +kernel
theorem dX10_readRing_5 : decode cX10_readRing 5 = .ok (.aload_n 0, 1) := by decide +kernel
theorem dX10_readRing_6 : decode cX10_readRing 6 = .ok (.iconst 0, 1) := by decide +kernel
theorem dX10_readRing_7 : decode cX10_readRing 7 = .ok (.putfield 206, 3) := by decide +kernel
theorem dX10_readRing_10 : decode cX10_readRing 10 = .ok (.aload_n 0, 1) := by decide +kernel
theorem dX10_readRing_11 : decode cX10_readRing 11 = .ok (.ldc 209, 2) := by decide +kernel
theorem dX10_readRing_13 : decode cX10_readRing 13 = .ok (.invokevirtual 211, 3) := by decide +kernel
theorem dX10_readRing_16 : decode cX10_readRing 16 = .ok (.ifCond .ne 5, 3) := by decide +kernel
theorem dX10_readRing_19 : decode cX10_readRing 19 = .ok (.iconst 0, 1) := by decide +kernel
theorem dX10_readRing_20 : decode cX10_readRing 20 = .ok (.ireturn, 1) := by decide +kernel
theorem dX10_readRing_21 : decode cX10_readRing 21 = .ok (.aload_n 0, 1) := by decide +kernel
theorem dX10_readRing_22 : decode cX10_readRing 22 = .ok (.bipush 20, 2) := by decide +kernel
theorem dX10_readRing_24 : decode cX10_readRing 24 = .ok (.invokevirtual 215, 3) := by decide +kernel
theorem dX10_readRing_27 : decode cX10_readRing 27 = .ok (.istore_n 1, 1) := by decide +kernel
theorem dX10_readRing_28 : decode cX10_readRing 28 = .ok (.iload_n 1, 1) := by decide +kernel
theorem dX10_readRing_29 : decode cX10_readRing 29 = .ok (.ifCond .ge 7, 3) := by decide +kernel
theorem dX10_readRing_32 : decode cX10_readRing 32 = .ok (.iconst (-1), 1) := by decide +kernel
theorem dX10_readRing_33 : decode cX10_readRing 33 = .ok (.goto 9, 3) := by decide +kernel
theorem dX10_readRing_36 : decode cX10_readRing 36 = .ok (.aload_n 0, 1) := by decide +kernel
theorem dX10_readRing_37 : decode cX10_readRing 37 = .ok (.bipush 14, 2) := by decide +kernel
theorem dX10_readRing_39 : decode cX10_readRing 39 = .ok (.invokevirtual 215, 3) := by decide +kernel
theorem dX10_readRing_42 : decode cX10_readRing 42 = .ok (.istore_n 2, 1) := by decide +kernel
theorem dX10_readRing_43 : decode cX10_readRing 43 = .ok (.iload_n 2, 1) := by decide +kernel
theorem dX10_readRing_44 : decode cX10_readRing 44 = .ok (.ifCond .ge 5, 3) := by decide +kernel
theorem dX10_readRing_47 : decode cX10_readRing 47 = .ok (.iconst 0, 1) := by decide +kernel
theorem dX10_readRing_48 : decode cX10_readRing 48 = .ok (.ireturn, 1) := by decide +kernel
theorem dX10_readRing_49 : decode cX10_readRing 49 = .ok (.aload_n 0, 1) := by decide +kernel
theorem dX10_readRing_50 : decode cX10_readRing 50 = .ok (.getfield 82, 3) := by decide +kernel
theorem dX10_readRing_53 : decode cX10_readRing 53 = .ok (.aload_n 0, 1) := by decide +kernel
theorem dX10_readRing_54 : decode cX10_readRing 54 = .ok (.getfield 206, 3) := by decide +kernel
theorem dX10_readRing_57 : decode cX10_readRing 57 = .ok (.iload_n 1, 1) := by decide +kernel
theorem dX10_readRing_58 : decode cX10_readRing 58 = .ok (.iastore, 1) := by decide +kernel
theorem dX10_readRing_59 : decode cX10_readRing 59 = .ok (.aload_n 0, 1) := by decide +kernel
theorem dX10_readRing_60 : decode cX10_readRing 60 = .ok (.getfield 85, 3) := by decide +kernel
theorem dX10_readRing_63 : decode cX10_readRing 63 = .ok (.aload_n 0, 1) := by decide +kernel
theorem dX10_readRing_64 : decode cX10_readRing 64 = .ok (.getfield 206, 3) := by decide +kernel
theorem dX10_readRing_67 : decode cX10_readRing 67 = .ok (.iload_n 2, 1) := by decide +kernel
theorem dX10_readRing_68 : decode cX10_readRing 68 = .ok (.iastore, 1) := by decide +kernel
theorem dX10_readRing_69 : decode cX10_readRing 69 = .ok (.aload_n 0, 1) := by decide +kernel
theorem dX10_readRing_70 : decode cX10_readRing 70 = .ok (.dup, 1) := by decide +kernel
theorem dX10_readRing_71 : decode cX10_readRing 71 = .ok (.getfield 206, 3) := by decide +kernel
theorem dX10_readRing_74 : decode cX10_readRing 74 = .ok (.iconst 1, 1) := by decide +kernel
theorem dX10_readRing_75 : decode cX10_readRing 75 = .ok (.iadd, 1) := by decide +kernel
theorem dX10_readRing_76 : decode cX10_readRing 76 = .ok (.putfield 206, 3) := by decide +kernel
theorem dX10_readRing_79 : decode cX10_readRing 79 = .ok (.aload_n 0, 1) := by decide +kernel
theorem dX10_readRing_80 : decode cX10_readRing 80 = .ok (.invokevirtual 193, 3) := by decide +kernel
theorem dX10_readRing_83 : decode cX10_readRing 83 = .ok (.aload_n 0, 1) := by decide +kernel
theorem dX10_readRing_84 : decode cX10_readRing 84 = .ok (.bipush 44, 2) := by decide +kernel
theorem dX10_readRing_86 : decode cX10_readRing 86 = .ok (.bipush 44, 2) := by decide +kernel
theorem dX10_readRing_88 : decode cX10_readRing 88 = .ok (.invokevirtual 187, 3) := by decide +kernel
theorem dX10_readRing_91 : decode cX10_readRing 91 = .ok (.ifCond .ne 6, 3) := by decide +kernel
theorem dX10_readRing_94 : decode cX10_readRing 94 = .ok (.goto 27, 3) := by decide +kernel
theorem dX10_readRing_97 : decode cX10_readRing 97 = .ok (.aload_n 0, 1) := by decide +kernel
theorem dX10_readRing_98 : decode cX10_readRing 98 = .ok (.getfield 206, 3) := by decide +kernel
theorem dX10_readRing_101 : decode cX10_readRing 101 = .ok (.bipush 40, 2) := by decide +kernel
theorem dX10_readRing_103 : decode cX10_readRing 103 = .ok (.if_icmp .ne 5, 3) := by decide +kernel
theorem dX10_readRing_106 : decode cX10_readRing 106 = .ok (.iconst 0, 1) := by decide +kernel
theorem dX10_readRing_107 : decode cX10_readRing 107 = .ok (.ireturn, 1) := by decide +kernel
theorem dX10_readRing_108 : decode cX10_readRing 108 = .ok (.aload_n 0, 1) := by decide +kernel
theorem dX10_readRing_109 : decode cX10_readRing 109 = .ok (.dup, 1) := by decide +kernel
theorem dX10_readRing_110 : decode cX10_readRing 110 = .ok (.getfield 181, 3) := by decide +kernel
theorem dX10_readRing_113 : decode cX10_readRing 113 = .ok (.iconst 1, 1) := by decide +kernel
theorem dX10_readRing_114 : decode cX10_readRing 114 = .ok (.iadd, 1) := by decide +kernel
theorem dX10_readRing_115 : decode cX10_readRing 115 = .ok (.putfield 181, 3) := by decide +kernel
theorem dX10_readRing_118 : decode cX10_readRing 118 = .ok (.goto (-97), 3) := by decide +kernel
theorem dX10_readRing_121 : decode cX10_readRing 121 = .ok (.aload_n 0, 1) := by decide +kernel
theorem dX10_readRing_122 : decode cX10_readRing 122 = .ok (.getfield 206, 3) := by decide +kernel
theorem dX10_readRing_125 : decode cX10_readRing 125 = .ok (.iconst 3, 1) := by decide +kernel
theorem dX10_readRing_126 : decode cX10_readRing 126 = .ok (.if_icmp .lt 12, 3) := by decide +kernel
theorem dX10_readRing_129 : decode cX10_readRing 129 = .ok (.aload_n 0, 1) := by decide +kernel
theorem dX10_readRing_130 : decode cX10_readRing 130 = .ok (.ldc 218, 2) := by decide +kernel
theorem dX10_readRing_132 : decode cX10_readRing 132 = .ok (.invokevirtual 211, 3) := by decide +kernel
theorem dX10_readRing_135 : decode cX10_readRing 135 = .ok (.ifCond .ne 5, 3) := by decide +kernel
theorem dX10_readRing_138 : decode cX10_readRing 138 = .ok (.iconst 0, 1) := by decide +kernel
theorem dX10_readRing_139 : decode cX10_readRing 139 = .ok (.ireturn, 1) := by decide +kernel
theorem dX10_readRing_140 : decode cX10_readRing 140 = .ok (.aload_n 0, 1) := by decide +kernel
theorem dX10_readRing_141 : decode cX10_readRing 141 = .ok (.invokevirtual 193, 3) := by decide +kernel
theorem dX10_readRing_144 : decode cX10_readRing 144 = .ok (.aload_n 0, 1) := by decide +kernel
theorem dX10_readRing_145 : decode cX10_readRing 145 = .ok (.getfield 181, 3) := by decide +kernel
theorem dX10_readRing_148 : decode cX10_readRing 148 = .ok (.aload_n 0, 1) := by decide +kernel
theorem dX10_readRing_149 : decode cX10_readRing 149 = .ok (.getfield 184, 3) := by decide +kernel
theorem dX10_readRing_152 : decode cX10_readRing 152 = .ok (.if_icmp .ne 7, 3) := by decide +kernel
theorem dX10_readRing_155 : decode cX10_readRing 155 = .ok (.iconst 1, 1) := by decide +kernel
theorem dX10_readRing_156 : decode cX10_readRing 156 = .ok (.goto 4, 3) := by decide +kernel
theorem dX10_readRing_159 : decode cX10_readRing 159 = .ok (.iconst 0, 1) := by decide +kernel
theorem dX10_readRing_160 : decode cX10_readRing 160 = .ok (.ireturn, 1) := by decide +kernel
theorem dX10_read_0 : decode cX10_read 0 = .ok (.aload_n 0, 1) := by decide +kernel
theorem dX10_read_1 : decode cX10_read 1 = .ok (.iconst 0, 1) := by decide +kernel
theorem dX10_read_2 : decode cX10_read 2 = .ok (.putfield 3, 3) := by decide +kernel
theorem dX10_read_5 : decode cX10_read 5 = .ok (.aload_n 0, 1) := by decide +kernel
theorem dX10_read_6 : decode cX10_read 6 = .ok (.aload_n 0, 1) := by decide +kernel
theorem dX10_read_7 : decode cX10_read 7 = .ok (.getfield 178, 3) := by decide +kernel
theorem dX10_read_10 : decode cX10_read 10 = .ok (.putfield 184, 3) := by decide +kernel
theorem dX10_read_13 : decode cX10_read 13 = .ok (.aload_n 0, 1) := by decide +kernel
theorem dX10_read_14 : decode cX10_read 14 = .ok (.iconst 0, 1) := by decide +kernel
theorem dX10_read_15 : decode cX10_read 15 = .ok (.putfield 178, 3) := by decide +kernel
theorem dX10_read_18 : decode cX10_read 18 = .ok (.aload_n 0, 1) := by decide +kernel
theorem dX10_read_19 : decode cX10_read 19 = .ok (.invokevirtual 219, 3) := by decide +kernel
theorem dX10_read_22 : decode cX10_read 22 = .ok (.istore_n 1, 1) := by decide +kernel
theorem dX10_read_23 : decode cX10_read 23 = .ok (.aload_n 0, 1) := by decide +kernel
theorem dX10_read_24 : decode cX10_read 24 = .ok (.iload_n 1, 1) := by decide +kernel
theorem dX10_read_25 : decode cX10_read 25 = .ok (.ifCond .eq 7, 3) := by decide +kernel
theorem dX10_read_28 : decode cX10_read 28 = .ok (.iconst (-1), 1) := by decide +kernel
theorem dX10_read_29 : decode cX10_read 29 = .ok (.goto 7, 3) := by decide +kernel
theorem dX10_read_32 : decode cX10_read 32 = .ok (.aload_n 0, 1) := by decide +kernel
theorem dX10_read_33 : decode cX10_read 33 = .ok (.getfield 190, 3) := by decide +kernel
theorem dX10_read_36 : decode cX10_read 36 = .ok (.putfield 79, 3) := by decide +kernel
theorem dX10_read_39 : decode cX10_read 39 = .ok (.aload_n 0, 1) := by decide +kernel
theorem dX10_read_40 : decode cX10_read 40 = .ok (.iload_n 1, 1) := by decide +kernel
theorem dX10_read_41 : decode cX10_read 41 = .ok (.ifCond .ne 7, 3) := by decide +kernel
theorem dX10_read_44 : decode cX10_read 44 = .ok (.iconst 1, 1) := by decide +kernel
theorem dX10_read_45 : decode cX10_read 45 = .ok (.goto 4, 3) := by decide +kernel
theorem dX10_read_48 : decode cX10_read 48 = .ok (.iconst 0, 1) := by decide +kernel
theorem dX10_read_49 : decode cX10_read 49 = .ok (.iconst 1, 1) := by decide +kernel
theorem dX10_read_50 : decode cX10_read 50 = .ok (.invokevirtual 111, 3) := by decide +kernel
theorem dX10_read_53 : decode cX10_read 53 = .ok (.ifCond .ne 25, 3) := by decide +kernel
theorem dX10_read_56 : decode cX10_read 56 = .ok (.aload_n 0, 1) := by decide +kernel
theorem dX10_read_57 : decode cX10_read 57 = .ok (.aload_n 0, 1) := by decide +kernel
theorem dX10_read_58 : decode cX10_read 58 = .ok (.getfield 104, 3) := by decide +kernel
theorem dX10_read_61 : decode cX10_read 61 = .ok (.bipush 40, 2) := by decide +kernel
theorem dX10_read_63 : decode cX10_read 63 = .ok (.if_icmp .ne 7, 3) := by decide +kernel
theorem dX10_read_66 : decode cX10_read 66 = .ok (.iconst 1, 1) := by decide +kernel
theorem dX10_read_67 : decode cX10_read 67 = .ok (.goto 4, 3) := by decide +kernel
theorem dX10_read_70 : decode cX10_read 70 = .ok (.iconst 0, 1) := by decide +kernel
theorem dX10_read_71 : decode cX10_read 71 = .ok (.iconst 2, 1) := by decide +kernel
theorem dX10_read_72 : decode cX10_read 72 = .ok (.invokevirtual 111, 3) := by decide +kernel
theorem dX10_read_75 : decode cX10_read 75 = .ok (.ifCond .eq 5, 3) := by decide +kernel
theorem dX10_read_78 : decode cX10_read 78 = .ok (.iconst 0, 1) := by decide +kernel
theorem dX10_read_79 : decode cX10_read 79 = .ok (.ireturn, 1) := by decide +kernel
theorem dX10_read_80 : decode cX10_read 80 = .ok (.iconst 0, 1) := by decide +kernel
theorem dX10_read_81 : decode cX10_read 81 = .ok (.istore_n 2, 1) := by decide +kernel
theorem dX10_read_82 : decode cX10_read 82 = .ok (.iload_n 2, 1) := by decide +kernel
theorem dX10_read_83 : decode cX10_read 83 = .ok (.aload_n 0, 1) := by decide +kernel
theorem dX10_read_84 : decode cX10_read 84 = .ok (.getfield 206, 3) := by decide +kernel
theorem dX10_read_87 : decode cX10_read 87 = .ok (.if_icmp .ge 49, 3) := by decide +kernel
theorem dX10_read_90 : decode cX10_read 90 = .ok (.aload_n 0, 1) := by decide +kernel
theorem dX10_read_91 : decode cX10_read 91 = .ok (.getfield 42, 3) := by decide +kernel
theorem dX10_read_94 : decode cX10_read 94 = .ok (.bipush 40, 2) := by decide +kernel
theorem dX10_read_96 : decode cX10_read 96 = .ok (.aload_n 0, 1) := by decide +kernel
theorem dX10_read_97 : decode cX10_read 97 = .ok (.getfield 104, 3) := by decide +kernel
theorem dX10_read_100 : decode cX10_read 100 = .ok (.imul, 1) := by decide +kernel
theorem dX10_read_101 : decode cX10_read 101 = .ok (.iload_n 2, 1) := by decide +kernel
theorem dX10_read_102 : decode cX10_read 102 = .ok (.iadd, 1) := by decide +kernel
theorem dX10_read_103 : decode cX10_read 103 = .ok (.aload_n 0, 1) := by decide +kernel
theorem dX10_read_104 : decode cX10_read 104 = .ok (.getfield 82, 3) := by decide +kernel
theorem dX10_read_107 : decode cX10_read 107 = .ok (.iload_n 2, 1) := by decide +kernel
theorem dX10_read_108 : decode cX10_read 108 = .ok (.iaload, 1) := by decide +kernel
theorem dX10_read_109 : decode cX10_read 109 = .ok (.iastore, 1) := by decide +kernel
theorem dX10_read_110 : decode cX10_read 110 = .ok (.aload_n 0, 1) := by decide +kernel
theorem dX10_read_111 : decode cX10_read 111 = .ok (.getfield 45, 3) := by decide +kernel
theorem dX10_read_114 : decode cX10_read 114 = .ok (.bipush 40, 2) := by decide +kernel
theorem dX10_read_116 : decode cX10_read 116 = .ok (.aload_n 0, 1) := by decide +kernel
theorem dX10_read_117 : decode cX10_read 117 = .ok (.getfield 104, 3) := by decide +kernel
theorem dX10_read_120 : decode cX10_read 120 = .ok (.imul, 1) := by decide +kernel
theorem dX10_read_121 : decode cX10_read 121 = .ok (.iload_n 2, 1) := by decide +kernel
theorem dX10_read_122 : decode cX10_read 122 = .ok (.iadd, 1) := by decide +kernel
theorem dX10_read_123 : decode cX10_read 123 = .ok (.aload_n 0, 1) := by decide +kernel
theorem dX10_read_124 : decode cX10_read 124 = .ok (.getfield 85, 3) := by decide +kernel
theorem dX10_read_127 : decode cX10_read 127 = .ok (.iload_n 2, 1) := by decide +kernel
theorem dX10_read_128 : decode cX10_read 128 = .ok (.iaload, 1) := by decide +kernel
theorem dX10_read_129 : decode cX10_read 129 = .ok (.iastore, 1) := by decide +kernel
theorem dX10_read_130 : decode cX10_read 130 = .ok (.iinc 2 1, 3) := by decide +kernel
theorem dX10_read_133 : decode cX10_read 133 = .ok (.goto (-51), 3) := by decide +kernel
theorem dX10_read_136 : decode cX10_read 136 = .ok (.aload_n 0, 1) := by decide +kernel
theorem dX10_read_137 : decode cX10_read 137 = .ok (.aload_n 0, 1) := by decide +kernel
theorem dX10_read_138 : decode cX10_read 138 = .ok (.getfield 206, 3) := by decide +kernel
theorem dX10_read_141 : decode cX10_read 141 = .ok (.invokevirtual 175, 3) := by decide +kernel
theorem dX10_read_144 : decode cX10_read 144 = .ok (.ireturn, 1) := by decide +kernel
theorem dX10_fault_0 : decode cX10_fault 0 = .ok (.aload_n 0, 1) := by decide +kernel
theorem dX10_fault_1 : decode cX10_fault 1 = .ok (.iconst 0, 1) := by decide +kernel
theorem dX10_fault_2 : decode cX10_fault 2 = .ok (.putfield 3, 3) := by decide +kernel
theorem dX10_fault_5 : decode cX10_fault 5 = .ok (.aload_n 0, 1) := by decide +kernel
theorem dX10_fault_6 : decode cX10_fault 6 = .ok (.getfield 79, 3) := by decide +kernel
theorem dX10_fault_9 : decode cX10_fault 9 = .ok (.ireturn, 1) := by decide +kernel
theorem dX10_cancel_0 : decode cX10_cancel 0 = .ok (.aload_n 0, 1) := by decide +kernel
theorem dX10_cancel_1 : decode cX10_cancel 1 = .ok (.iconst 0, 1) := by decide +kernel
theorem dX10_cancel_2 : decode cX10_cancel 2 = .ok (.putfield 3, 3) := by decide +kernel
theorem dX10_cancel_5 : decode cX10_cancel 5 = .ok (.aload_n 0, 1) := by decide +kernel
theorem dX10_cancel_6 : decode cX10_cancel 6 = .ok (.aload_n 0, 1) := by decide +kernel
theorem dX10_cancel_7 : decode cX10_cancel 7 = .ok (.iload_n 1, 1) := by decide +kernel
theorem dX10_cancel_8 : decode cX10_cancel 8 = .ok (.invokevirtual 223, 3) := by decide +kernel
theorem dX10_cancel_11 : decode cX10_cancel 11 = .ok (.iconst 1, 1) := by decide +kernel
theorem dX10_cancel_12 : decode cX10_cancel 12 = .ok (.invokevirtual 111, 3) := by decide +kernel
theorem dX10_cancel_15 : decode cX10_cancel 15 = .ok (.ifCond .ne 12, 3) := by decide +kernel
theorem dX10_cancel_18 : decode cX10_cancel 18 = .ok (.aload_n 0, 1) := by decide +kernel
theorem dX10_cancel_19 : decode cX10_cancel 19 = .ok (.getfield 54, 3) := by decide +kernel
theorem dX10_cancel_22 : decode cX10_cancel 22 = .ok (.iload_n 1, 1) := by decide +kernel
theorem dX10_cancel_23 : decode cX10_cancel 23 = .ok (.iaload, 1) := by decide +kernel
theorem dX10_cancel_24 : decode cX10_cancel 24 = .ok (.ifCond .lt 5, 3) := by decide +kernel
theorem dX10_cancel_27 : decode cX10_cancel 27 = .ok (.iconst 0, 1) := by decide +kernel
theorem dX10_cancel_28 : decode cX10_cancel 28 = .ok (.ireturn, 1) := by decide +kernel
theorem dX10_cancel_29 : decode cX10_cancel 29 = .ok (.aload_n 0, 1) := by decide +kernel
theorem dX10_cancel_30 : decode cX10_cancel 30 = .ok (.getfield 54, 3) := by decide +kernel
theorem dX10_cancel_33 : decode cX10_cancel 33 = .ok (.iload_n 1, 1) := by decide +kernel
theorem dX10_cancel_34 : decode cX10_cancel 34 = .ok (.aload_n 0, 1) := by decide +kernel
theorem dX10_cancel_35 : decode cX10_cancel 35 = .ok (.getfield 140, 3) := by decide +kernel
theorem dX10_cancel_38 : decode cX10_cancel 38 = .ok (.iastore, 1) := by decide +kernel
theorem dX10_cancel_39 : decode cX10_cancel 39 = .ok (.iconst 1, 1) := by decide +kernel
theorem dX10_cancel_40 : decode cX10_cancel 40 = .ok (.ireturn, 1) := by decide +kernel
theorem dX10_isInForce_0 : decode cX10_isInForce 0 = .ok (.iload_n 2, 1) := by decide +kernel
theorem dX10_isInForce_1 : decode cX10_isInForce 1 = .ok (.aload_n 0, 1) := by decide +kernel
theorem dX10_isInForce_2 : decode cX10_isInForce 2 = .ok (.getfield 51, 3) := by decide +kernel
theorem dX10_isInForce_5 : decode cX10_isInForce 5 = .ok (.iload_n 1, 1) := by decide +kernel
theorem dX10_isInForce_6 : decode cX10_isInForce 6 = .ok (.iaload, 1) := by decide +kernel
theorem dX10_isInForce_7 : decode cX10_isInForce 7 = .ok (.if_icmp .lt 26, 3) := by decide +kernel
theorem dX10_isInForce_10 : decode cX10_isInForce 10 = .ok (.aload_n 0, 1) := by decide +kernel
theorem dX10_isInForce_11 : decode cX10_isInForce 11 = .ok (.getfield 54, 3) := by decide +kernel
theorem dX10_isInForce_14 : decode cX10_isInForce 14 = .ok (.iload_n 1, 1) := by decide +kernel
theorem dX10_isInForce_15 : decode cX10_isInForce 15 = .ok (.iaload, 1) := by decide +kernel
theorem dX10_isInForce_16 : decode cX10_isInForce 16 = .ok (.ifCond .lt 13, 3) := by decide +kernel
theorem dX10_isInForce_19 : decode cX10_isInForce 19 = .ok (.iload_n 2, 1) := by decide +kernel
theorem dX10_isInForce_20 : decode cX10_isInForce 20 = .ok (.aload_n 0, 1) := by decide +kernel
theorem dX10_isInForce_21 : decode cX10_isInForce 21 = .ok (.getfield 54, 3) := by decide +kernel
theorem dX10_isInForce_24 : decode cX10_isInForce 24 = .ok (.iload_n 1, 1) := by decide +kernel
theorem dX10_isInForce_25 : decode cX10_isInForce 25 = .ok (.iaload, 1) := by decide +kernel
theorem dX10_isInForce_26 : decode cX10_isInForce 26 = .ok (.if_icmp .ge 7, 3) := by decide +kernel
theorem dX10_isInForce_29 : decode cX10_isInForce 29 = .ok (.iconst 1, 1) := by decide +kernel
theorem dX10_isInForce_30 : decode cX10_isInForce 30 = .ok (.goto 4, 3) := by decide +kernel
theorem dX10_isInForce_33 : decode cX10_isInForce 33 = .ok (.iconst 0, 1) := by decide +kernel
theorem dX10_isInForce_34 : decode cX10_isInForce 34 = .ok (.ireturn, 1) := by decide +kernel
theorem dX10_force_0 : decode cX10_force 0 = .ok (.aload_n 0, 1) := by decide +kernel
theorem dX10_force_1 : decode cX10_force 1 = .ok (.iconst 0, 1) := by decide +kernel
theorem dX10_force_2 : decode cX10_force 2 = .ok (.putfield 3, 3) := by decide +kernel
theorem dX10_force_5 : decode cX10_force 5 = .ok (.aload_n 0, 1) := by decide +kernel
theorem dX10_force_6 : decode cX10_force 6 = .ok (.aload_n 0, 1) := by decide +kernel
theorem dX10_force_7 : decode cX10_force 7 = .ok (.iload_n 1, 1) := by decide +kernel
theorem dX10_force_8 : decode cX10_force 8 = .ok (.invokevirtual 223, 3) := by decide +kernel
theorem dX10_force_11 : decode cX10_force 11 = .ok (.iconst 1, 1) := by decide +kernel
theorem dX10_force_12 : decode cX10_force 12 = .ok (.invokevirtual 111, 3) := by decide +kernel
theorem dX10_force_15 : decode cX10_force 15 = .ok (.ifCond .ne 16, 3) := by decide +kernel
theorem dX10_force_18 : decode cX10_force 18 = .ok (.aload_n 0, 1) := by decide +kernel
theorem dX10_force_19 : decode cX10_force 19 = .ok (.iload_n 1, 1) := by decide +kernel
theorem dX10_force_20 : decode cX10_force 20 = .ok (.iload_n 2, 1) := by decide +kernel
theorem dX10_force_21 : decode cX10_force 21 = .ok (.invokevirtual 226, 3) := by decide +kernel
theorem dX10_force_24 : decode cX10_force 24 = .ok (.ifCond .eq 7, 3) := by decide +kernel
theorem dX10_force_27 : decode cX10_force 27 = .ok (.iconst 1, 1) := by decide +kernel
theorem dX10_force_28 : decode cX10_force 28 = .ok (.goto 4, 3) := by decide +kernel
theorem dX10_force_31 : decode cX10_force 31 = .ok (.iconst 0, 1) := by decide +kernel
theorem dX10_force_32 : decode cX10_force 32 = .ok (.ireturn, 1) := by decide +kernel
theorem dX10_put_0 : decode cX10_put 0 = .ok (.aload_n 0, 1) := by decide +kernel
theorem dX10_put_1 : decode cX10_put 1 = .ok (.getfield 72, 3) := by decide +kernel
theorem dX10_put_4 : decode cX10_put 4 = .ok (.aload_n 0, 1) := by decide +kernel
theorem dX10_put_5 : decode cX10_put 5 = .ok (.getfield 178, 3) := by decide +kernel
theorem dX10_put_8 : decode cX10_put 8 = .ok (.iload_n 1, 1) := by decide +kernel
theorem dX10_put_9 : decode cX10_put 9 = .ok (.i2b, 1) := by decide +kernel
theorem dX10_put_10 : decode cX10_put 10 = .ok (.bastore, 1) := by decide +kernel
theorem dX10_put_11 : decode cX10_put 11 = .ok (.aload_n 0, 1) := by decide +kernel
theorem dX10_put_12 : decode cX10_put 12 = .ok (.dup, 1) := by decide +kernel
theorem dX10_put_13 : decode cX10_put 13 = .ok (.getfield 178, 3) := by decide +kernel
theorem dX10_put_16 : decode cX10_put 16 = .ok (.iconst 1, 1) := by decide +kernel
theorem dX10_put_17 : decode cX10_put 17 = .ok (.iadd, 1) := by decide +kernel
theorem dX10_put_18 : decode cX10_put 18 = .ok (.putfield 178, 3) := by decide +kernel
theorem dX10_put_21 : decode cX10_put 21 = .ok (.return_, 1) := by decide +kernel
theorem dX10_putNumber_0 : decode cX10_putNumber 0 = .ok (.iload_n 1, 1) := by decide +kernel
theorem dX10_putNumber_1 : decode cX10_putNumber 1 = .ok (.bipush 9, 2) := by decide +kernel
theorem dX10_putNumber_3 : decode cX10_putNumber 3 = .ok (.if_icmp .le 14, 3) := by decide +kernel
theorem dX10_putNumber_6 : decode cX10_putNumber 6 = .ok (.aload_n 0, 1) := by decide +kernel
theorem dX10_putNumber_7 : decode cX10_putNumber 7 = .ok (.bipush 48, 2) := by decide +kernel
theorem dX10_putNumber_9 : decode cX10_putNumber 9 = .ok (.iload_n 1, 1) := by decide +kernel
theorem dX10_putNumber_10 : decode cX10_putNumber 10 = .ok (.bipush 10, 2) := by decide +kernel
theorem dX10_putNumber_12 : decode cX10_putNumber 12 = .ok (.idiv, 1) := by decide +kernel
theorem dX10_putNumber_13 : decode cX10_putNumber 13 = .ok (.iadd, 1) := by decide +kernel
theorem dX10_putNumber_14 : decode cX10_putNumber 14 = .ok (.invokevirtual 229, 3) := by decide +kernel
theorem dX10_putNumber_17 : decode cX10_putNumber 17 = .ok (.aload_n 0, 1) := by decide +kernel
theorem dX10_putNumber_18 : decode cX10_putNumber 18 = .ok (.bipush 48, 2) := by decide +kernel
theorem dX10_putNumber_20 : decode cX10_putNumber 20 = .ok (.iload_n 1, 1) := by decide +kernel
theorem dX10_putNumber_21 : decode cX10_putNumber 21 = .ok (.bipush 10, 2) := by decide +kernel
theorem dX10_putNumber_23 : decode cX10_putNumber 23 = .ok (.irem, 1) := by decide +kernel
theorem dX10_putNumber_24 : decode cX10_putNumber 24 = .ok (.iadd, 1) := by decide +kernel
theorem dX10_putNumber_25 : decode cX10_putNumber 25 = .ok (.invokevirtual 229, 3) := by decide +kernel
theorem dX10_putNumber_28 : decode cX10_putNumber 28 = .ok (.return_, 1) := by decide +kernel
theorem dX10_putText_0 : decode cX10_putText 0 = .ok (.iconst 0, 1) := by decide +kernel
theorem dX10_putText_1 : decode cX10_putText 1 = .ok (.istore_n 2, 1) := by decide +kernel
theorem dX10_putText_2 : decode cX10_putText 2 = .ok (.iload_n 2, 1) := by decide +kernel
theorem dX10_putText_3 : decode cX10_putText 3 = .ok (.aload_n 1, 1) := by decide +kernel
theorem dX10_putText_4 : decode cX10_putText 4 = .ok (.invokevirtual 196, 3) := by decide +kernel
theorem dX10_putText_7 : decode cX10_putText 7 = .ok (.if_icmp .ge 18, 3) := by decide +kernel
theorem dX10_putText_10 : decode cX10_putText 10 = .ok (.aload_n 0, 1) := by decide +kernel
theorem dX10_putText_11 : decode cX10_putText 11 = .ok (.aload_n 1, 1) := by decide +kernel
theorem dX10_putText_12 : decode cX10_putText 12 = .ok (.iload_n 2, 1) := by decide +kernel
theorem dX10_putText_13 : decode cX10_putText 13 = .ok (.invokevirtual 202, 3) := by decide +kernel
theorem dX10_putText_16 : decode cX10_putText 16 = .ok (.invokevirtual 229, 3) := by decide +kernel
theorem dX10_putText_19 : decode cX10_putText 19 = .ok (.iinc 2 1, 3) := by decide +kernel
theorem dX10_putText_22 : decode cX10_putText 22 = .ok (.goto (-20), 3) := by decide +kernel
theorem dX10_putText_25 : decode cX10_putText 25 = .ok (.return_, 1) := by decide +kernel
theorem dX10_write_0 : decode cX10_write 0 = .ok (.aload_n 0, 1) := by decide +kernel
theorem dX10_write_1 : decode cX10_write 1 = .ok (.iconst 0, 1) := by decide +kernel
theorem dX10_write_2 : decode cX10_write 2 = .ok (.putfield 3, 3) := by decide +kernel
theorem dX10_write_5 : decode cX10_write 5 = .ok (.aload_n 0, 1) := by decide +kernel
theorem dX10_write_6 : decode cX10_write 6 = .ok (.aload_n 0, 1) := by decide +kernel
theorem dX10_write_7 : decode cX10_write 7 = .ok (.iload_n 1, 1) := by decide +kernel
theorem dX10_write_8 : decode cX10_write 8 = .ok (.invokevirtual 223, 3) := by decide +kernel
theorem dX10_write_11 : decode cX10_write 11 = .ok (.iconst 1, 1) := by decide +kernel
theorem dX10_write_12 : decode cX10_write 12 = .ok (.invokevirtual 111, 3) := by decide +kernel
theorem dX10_write_15 : decode cX10_write 15 = .ok (.ifCond .eq 5, 3) := by decide +kernel
theorem dX10_write_18 : decode cX10_write 18 = .ok (.iconst 0, 1) := by decide +kernel
theorem dX10_write_19 : decode cX10_write 19 = .ok (.ireturn, 1) := by decide +kernel
theorem dX10_write_20 : decode cX10_write 20 = .ok (.aload_n 0, 1) := by decide +kernel
theorem dX10_write_21 : decode cX10_write 21 = .ok (.iconst 0, 1) := by decide +kernel
theorem dX10_write_22 : decode cX10_write 22 = .ok (.putfield 178, 3) := by decide +kernel
theorem dX10_write_25 : decode cX10_write 25 = .ok (.aload_n 0, 1) := by decide +kernel
theorem dX10_write_26 : decode cX10_write 26 = .ok (.ldc 232, 2) := by decide +kernel
theorem dX10_write_28 : decode cX10_write 28 = .ok (.invokevirtual 234, 3) := by decide +kernel
theorem dX10_write_31 : decode cX10_write 31 = .ok (.iconst 0, 1) := by decide +kernel
theorem dX10_write_32 : decode cX10_write 32 = .ok (.istore_n 2, 1) := by decide +kernel
theorem dX10_write_33 : decode cX10_write 33 = .ok (.iload_n 2, 1) := by decide +kernel
theorem dX10_write_34 : decode cX10_write 34 = .ok (.aload_n 0, 1) := by decide +kernel
theorem dX10_write_35 : decode cX10_write 35 = .ok (.getfield 48, 3) := by decide +kernel
theorem dX10_write_38 : decode cX10_write 38 = .ok (.iload_n 1, 1) := by decide +kernel
theorem dX10_write_39 : decode cX10_write 39 = .ok (.iaload, 1) := by decide +kernel
theorem dX10_write_40 : decode cX10_write 40 = .ok (.if_icmp .ge 55, 3) := by decide +kernel
theorem dX10_write_43 : decode cX10_write 43 = .ok (.iload_n 2, 1) := by decide +kernel
theorem dX10_write_44 : decode cX10_write 44 = .ok (.ifCond .le 9, 3) := by decide +kernel
theorem dX10_write_47 : decode cX10_write 47 = .ok (.aload_n 0, 1) := by decide +kernel
theorem dX10_write_48 : decode cX10_write 48 = .ok (.bipush 44, 2) := by decide +kernel
theorem dX10_write_50 : decode cX10_write 50 = .ok (.invokevirtual 229, 3) := by decide +kernel
theorem dX10_write_53 : decode cX10_write 53 = .ok (.aload_n 0, 1) := by decide +kernel
theorem dX10_write_54 : decode cX10_write 54 = .ok (.aload_n 0, 1) := by decide +kernel
theorem dX10_write_55 : decode cX10_write 55 = .ok (.getfield 42, 3) := by decide +kernel
theorem dX10_write_58 : decode cX10_write 58 = .ok (.bipush 40, 2) := by decide +kernel
theorem dX10_write_60 : decode cX10_write 60 = .ok (.iload_n 1, 1) := by decide +kernel
theorem dX10_write_61 : decode cX10_write 61 = .ok (.imul, 1) := by decide +kernel
theorem dX10_write_62 : decode cX10_write 62 = .ok (.iload_n 2, 1) := by decide +kernel
theorem dX10_write_63 : decode cX10_write 63 = .ok (.iadd, 1) := by decide +kernel
theorem dX10_write_64 : decode cX10_write 64 = .ok (.iaload, 1) := by decide +kernel
theorem dX10_write_65 : decode cX10_write 65 = .ok (.invokevirtual 238, 3) := by decide +kernel
theorem dX10_write_68 : decode cX10_write 68 = .ok (.aload_n 0, 1) := by decide +kernel
theorem dX10_write_69 : decode cX10_write 69 = .ok (.bipush 32, 2) := by decide +kernel
theorem dX10_write_71 : decode cX10_write 71 = .ok (.invokevirtual 229, 3) := by decide +kernel
theorem dX10_write_74 : decode cX10_write 74 = .ok (.aload_n 0, 1) := by decide +kernel
theorem dX10_write_75 : decode cX10_write 75 = .ok (.aload_n 0, 1) := by decide +kernel
theorem dX10_write_76 : decode cX10_write 76 = .ok (.getfield 45, 3) := by decide +kernel
theorem dX10_write_79 : decode cX10_write 79 = .ok (.bipush 40, 2) := by decide +kernel
theorem dX10_write_81 : decode cX10_write 81 = .ok (.iload_n 1, 1) := by decide +kernel
theorem dX10_write_82 : decode cX10_write 82 = .ok (.imul, 1) := by decide +kernel
theorem dX10_write_83 : decode cX10_write 83 = .ok (.iload_n 2, 1) := by decide +kernel
theorem dX10_write_84 : decode cX10_write 84 = .ok (.iadd, 1) := by decide +kernel
theorem dX10_write_85 : decode cX10_write 85 = .ok (.iaload, 1) := by decide +kernel
theorem dX10_write_86 : decode cX10_write 86 = .ok (.invokevirtual 238, 3) := by decide +kernel
theorem dX10_write_89 : decode cX10_write 89 = .ok (.iinc 2 1, 3) := by decide +kernel
theorem dX10_write_92 : decode cX10_write 92 = .ok (.goto (-59), 3) := by decide +kernel
theorem dX10_write_95 : decode cX10_write 95 = .ok (.aload_n 0, 1) := by decide +kernel
theorem dX10_write_96 : decode cX10_write 96 = .ok (.ldc 241, 2) := by decide +kernel
theorem dX10_write_98 : decode cX10_write 98 = .ok (.invokevirtual 234, 3) := by decide +kernel
theorem dX10_write_101 : decode cX10_write 101 = .ok (.aload_n 0, 1) := by decide +kernel
theorem dX10_write_102 : decode cX10_write 102 = .ok (.getfield 178, 3) := by decide +kernel
theorem dX10_write_105 : decode cX10_write 105 = .ok (.ireturn, 1) := by decide +kernel
theorem dX10_taped_0 : decode cX10_taped 0 = .ok (.aload_n 0, 1) := by decide +kernel
theorem dX10_taped_1 : decode cX10_taped 1 = .ok (.iconst 0, 1) := by decide +kernel
theorem dX10_taped_2 : decode cX10_taped 2 = .ok (.putfield 3, 3) := by decide +kernel
theorem dX10_taped_5 : decode cX10_taped 5 = .ok (.iload_n 1, 1) := by decide +kernel
theorem dX10_taped_6 : decode cX10_taped 6 = .ok (.iconst 0, 1) := by decide +kernel
theorem dX10_taped_7 : decode cX10_taped 7 = .ok (.aload_n 0, 1) := by decide +kernel
theorem dX10_taped_8 : decode cX10_taped 8 = .ok (.getfield 178, 3) := by decide +kernel
theorem dX10_taped_11 : decode cX10_taped 11 = .ok (.iconst 1, 1) := by decide +kernel
theorem dX10_taped_12 : decode cX10_taped 12 = .ok (.isub, 1) := by decide +kernel
theorem dX10_taped_13 : decode cX10_taped 13 = .ok (.invokestatic 97, 3) := by decide +kernel
theorem dX10_taped_16 : decode cX10_taped 16 = .ok (.ifCond .ne 7, 3) := by decide +kernel
theorem dX10_taped_19 : decode cX10_taped 19 = .ok (.iconst (-1), 1) := by decide +kernel
theorem dX10_taped_20 : decode cX10_taped 20 = .ok (.goto 13, 3) := by decide +kernel
theorem dX10_taped_23 : decode cX10_taped 23 = .ok (.aload_n 0, 1) := by decide +kernel
theorem dX10_taped_24 : decode cX10_taped 24 = .ok (.getfield 72, 3) := by decide +kernel
theorem dX10_taped_27 : decode cX10_taped 27 = .ok (.iload_n 1, 1) := by decide +kernel
theorem dX10_taped_28 : decode cX10_taped 28 = .ok (.baload, 1) := by decide +kernel
theorem dX10_taped_29 : decode cX10_taped 29 = .ok (.sipush 255, 3) := by decide +kernel
theorem dX10_taped_32 : decode cX10_taped 32 = .ok (.iand, 1) := by decide +kernel
theorem dX10_taped_33 : decode cX10_taped 33 = .ok (.ireturn, 1) := by decide +kernel
theorem dX10_isWithin_0 : decode cX10_isWithin 0 = .ok (.iconst 2, 1) := by decide +kernel
theorem dX10_isWithin_1 : decode cX10_isWithin 1 = .ok (.iload_n 2, 1) := by decide +kernel
theorem dX10_isWithin_2 : decode cX10_isWithin 2 = .ok (.bipush 20, 2) := by decide +kernel
theorem dX10_isWithin_4 : decode cX10_isWithin 4 = .ok (.irem, 1) := by decide +kernel
theorem dX10_isWithin_5 : decode cX10_isWithin 5 = .ok (.imul, 1) := by decide +kernel
theorem dX10_isWithin_6 : decode cX10_isWithin 6 = .ok (.iconst 1, 1) := by decide +kernel
theorem dX10_isWithin_7 : decode cX10_isWithin 7 = .ok (.iadd, 1) := by decide +kernel
theorem dX10_isWithin_8 : decode cX10_isWithin 8 = .ok (.istore_n 3, 1) := by decide +kernel
theorem dX10_isWithin_9 : decode cX10_isWithin 9 = .ok (.iconst 2, 1) := by decide +kernel
theorem dX10_isWithin_10 : decode cX10_isWithin 10 = .ok (.iload_n 2, 1) := by decide +kernel
theorem dX10_isWithin_11 : decode cX10_isWithin 11 = .ok (.bipush 20, 2) := by decide +kernel
theorem dX10_isWithin_13 : decode cX10_isWithin 13 = .ok (.idiv, 1) := by decide +kernel
theorem dX10_isWithin_14 : decode cX10_isWithin 14 = .ok (.imul, 1) := by decide +kernel
theorem dX10_isWithin_15 : decode cX10_isWithin 15 = .ok (.iconst 1, 1) := by decide +kernel
theorem dX10_isWithin_16 : decode cX10_isWithin 16 = .ok (.iadd, 1) := by decide +kernel
theorem dX10_isWithin_17 : decode cX10_isWithin 17 = .ok (.istore 4, 2) := by decide +kernel
theorem dX10_isWithin_19 : decode cX10_isWithin 19 = .ok (.iconst 0, 1) := by decide +kernel
theorem dX10_isWithin_20 : decode cX10_isWithin 20 = .ok (.istore 5, 2) := by decide +kernel
theorem dX10_isWithin_22 : decode cX10_isWithin 22 = .ok (.iconst 0, 1) := by decide +kernel
theorem dX10_isWithin_23 : decode cX10_isWithin 23 = .ok (.istore 6, 2) := by decide +kernel
theorem dX10_isWithin_25 : decode cX10_isWithin 25 = .ok (.iload 6, 2) := by decide +kernel
theorem dX10_isWithin_27 : decode cX10_isWithin 27 = .ok (.aload_n 0, 1) := by decide +kernel
theorem dX10_isWithin_28 : decode cX10_isWithin 28 = .ok (.getfield 48, 3) := by decide +kernel
theorem dX10_isWithin_31 : decode cX10_isWithin 31 = .ok (.iload_n 1, 1) := by decide +kernel
theorem dX10_isWithin_32 : decode cX10_isWithin 32 = .ok (.iaload, 1) := by decide +kernel
theorem dX10_isWithin_33 : decode cX10_isWithin 33 = .ok (.if_icmp .ge 170, 3) := by decide +kernel
theorem dX10_isWithin_36 : decode cX10_isWithin 36 = .ok (.bipush 40, 2) := by decide +kernel
theorem dX10_isWithin_38 : decode cX10_isWithin 38 = .ok (.iload_n 1, 1) := by decide +kernel
theorem dX10_isWithin_39 : decode cX10_isWithin 39 = .ok (.imul, 1) := by decide +kernel
theorem dX10_isWithin_40 : decode cX10_isWithin 40 = .ok (.iload 6, 2) := by decide +kernel
theorem dX10_isWithin_42 : decode cX10_isWithin 42 = .ok (.iadd, 1) := by decide +kernel
theorem dX10_isWithin_43 : decode cX10_isWithin 43 = .ok (.istore 7, 2) := by decide +kernel
theorem dX10_isWithin_45 : decode cX10_isWithin 45 = .ok (.bipush 40, 2) := by decide +kernel
theorem dX10_isWithin_47 : decode cX10_isWithin 47 = .ok (.iload_n 1, 1) := by decide +kernel
theorem dX10_isWithin_48 : decode cX10_isWithin 48 = .ok (.imul, 1) := by decide +kernel
theorem dX10_isWithin_49 : decode cX10_isWithin 49 = .ok (.iload 6, 2) := by decide +kernel
theorem dX10_isWithin_51 : decode cX10_isWithin 51 = .ok (.iconst 1, 1) := by decide +kernel
theorem dX10_isWithin_52 : decode cX10_isWithin 52 = .ok (.iadd, 1) := by decide +kernel
theorem dX10_isWithin_53 : decode cX10_isWithin 53 = .ok (.aload_n 0, 1) := by decide +kernel
theorem dX10_isWithin_54 : decode cX10_isWithin 54 = .ok (.getfield 48, 3) := by decide +kernel
theorem dX10_isWithin_57 : decode cX10_isWithin 57 = .ok (.iload_n 1, 1) := by decide +kernel
theorem dX10_isWithin_58 : decode cX10_isWithin 58 = .ok (.iaload, 1) := by decide +kernel
theorem dX10_isWithin_59 : decode cX10_isWithin 59 = .ok (.irem, 1) := by decide +kernel
theorem dX10_isWithin_60 : decode cX10_isWithin 60 = .ok (.iadd, 1) := by decide +kernel
theorem dX10_isWithin_61 : decode cX10_isWithin 61 = .ok (.istore 8, 2) := by decide +kernel
theorem dX10_isWithin_63 : decode cX10_isWithin 63 = .ok (.iconst 2, 1) := by decide +kernel
theorem dX10_isWithin_64 : decode cX10_isWithin 64 = .ok (.aload_n 0, 1) := by decide +kernel
theorem dX10_isWithin_65 : decode cX10_isWithin 65 = .ok (.getfield 45, 3) := by decide +kernel
theorem dX10_isWithin_68 : decode cX10_isWithin 68 = .ok (.iload 7, 2) := by decide +kernel
theorem dX10_isWithin_70 : decode cX10_isWithin 70 = .ok (.iaload, 1) := by decide +kernel
theorem dX10_isWithin_71 : decode cX10_isWithin 71 = .ok (.imul, 1) := by decide +kernel
theorem dX10_isWithin_72 : decode cX10_isWithin 72 = .ok (.istore 9, 2) := by decide +kernel
theorem dX10_isWithin_74 : decode cX10_isWithin 74 = .ok (.iconst 2, 1) := by decide +kernel
theorem dX10_isWithin_75 : decode cX10_isWithin 75 = .ok (.aload_n 0, 1) := by decide +kernel
theorem dX10_isWithin_76 : decode cX10_isWithin 76 = .ok (.getfield 45, 3) := by decide +kernel
theorem dX10_isWithin_79 : decode cX10_isWithin 79 = .ok (.iload 8, 2) := by decide +kernel
theorem dX10_isWithin_81 : decode cX10_isWithin 81 = .ok (.iaload, 1) := by decide +kernel
theorem dX10_isWithin_82 : decode cX10_isWithin 82 = .ok (.imul, 1) := by decide +kernel
theorem dX10_isWithin_83 : decode cX10_isWithin 83 = .ok (.istore 10, 2) := by decide +kernel
theorem dX10_isWithin_85 : decode cX10_isWithin 85 = .ok (.iload 9, 2) := by decide +kernel
theorem dX10_isWithin_87 : decode cX10_isWithin 87 = .ok (.iload 4, 2) := by decide +kernel
theorem dX10_isWithin_89 : decode cX10_isWithin 89 = .ok (.if_icmp .le 7, 3) := by decide +kernel
theorem dX10_isWithin_92 : decode cX10_isWithin 92 = .ok (.iconst 1, 1) := by decide +kernel
theorem dX10_isWithin_93 : decode cX10_isWithin 93 = .ok (.goto 4, 3) := by decide +kernel
theorem dX10_isWithin_96 : decode cX10_isWithin 96 = .ok (.iconst 0, 1) := by decide +kernel
theorem dX10_isWithin_97 : decode cX10_isWithin 97 = .ok (.iload 10, 2) := by decide +kernel
theorem dX10_isWithin_99 : decode cX10_isWithin 99 = .ok (.iload 4, 2) := by decide +kernel
theorem dX10_isWithin_101 : decode cX10_isWithin 101 = .ok (.if_icmp .le 7, 3) := by decide +kernel
theorem dX10_isWithin_104 : decode cX10_isWithin 104 = .ok (.iconst 1, 1) := by decide +kernel
theorem dX10_isWithin_105 : decode cX10_isWithin 105 = .ok (.goto 4, 3) := by decide +kernel
theorem dX10_isWithin_108 : decode cX10_isWithin 108 = .ok (.iconst 0, 1) := by decide +kernel
theorem dX10_isWithin_109 : decode cX10_isWithin 109 = .ok (.if_icmp .ne 6, 3) := by decide +kernel
theorem dX10_isWithin_112 : decode cX10_isWithin 112 = .ok (.goto 85, 3) := by decide +kernel
theorem dX10_isWithin_115 : decode cX10_isWithin 115 = .ok (.iload_n 3, 1) := by decide +kernel
theorem dX10_isWithin_116 : decode cX10_isWithin 116 = .ok (.iconst 2, 1) := by decide +kernel
theorem dX10_isWithin_117 : decode cX10_isWithin 117 = .ok (.aload_n 0, 1) := by decide +kernel
theorem dX10_isWithin_118 : decode cX10_isWithin 118 = .ok (.getfield 42, 3) := by decide +kernel
theorem dX10_isWithin_121 : decode cX10_isWithin 121 = .ok (.iload 7, 2) := by decide +kernel
theorem dX10_isWithin_123 : decode cX10_isWithin 123 = .ok (.iaload, 1) := by decide +kernel
theorem dX10_isWithin_124 : decode cX10_isWithin 124 = .ok (.imul, 1) := by decide +kernel
theorem dX10_isWithin_125 : decode cX10_isWithin 125 = .ok (.isub, 1) := by decide +kernel
theorem dX10_isWithin_126 : decode cX10_isWithin 126 = .ok (.iload 10, 2) := by decide +kernel
theorem dX10_isWithin_128 : decode cX10_isWithin 128 = .ok (.iload 9, 2) := by decide +kernel
theorem dX10_isWithin_130 : decode cX10_isWithin 130 = .ok (.isub, 1) := by decide +kernel
theorem dX10_isWithin_131 : decode cX10_isWithin 131 = .ok (.imul, 1) := by decide +kernel
theorem dX10_isWithin_132 : decode cX10_isWithin 132 = .ok (.istore 11, 2) := by decide +kernel
theorem dX10_isWithin_134 : decode cX10_isWithin 134 = .ok (.iload 4, 2) := by decide +kernel
theorem dX10_isWithin_136 : decode cX10_isWithin 136 = .ok (.iload 9, 2) := by decide +kernel
theorem dX10_isWithin_138 : decode cX10_isWithin 138 = .ok (.isub, 1) := by decide +kernel
theorem dX10_isWithin_139 : decode cX10_isWithin 139 = .ok (.iconst 2, 1) := by decide +kernel
theorem dX10_isWithin_140 : decode cX10_isWithin 140 = .ok (.aload_n 0, 1) := by decide +kernel
theorem dX10_isWithin_141 : decode cX10_isWithin 141 = .ok (.getfield 42, 3) := by decide +kernel
theorem dX10_isWithin_144 : decode cX10_isWithin 144 = .ok (.iload 8, 2) := by decide +kernel
theorem dX10_isWithin_146 : decode cX10_isWithin 146 = .ok (.iaload, 1) := by decide +kernel
theorem dX10_isWithin_147 : decode cX10_isWithin 147 = .ok (.imul, 1) := by decide +kernel
theorem dX10_isWithin_148 : decode cX10_isWithin 148 = .ok (.iconst 2, 1) := by decide +kernel
theorem dX10_isWithin_149 : decode cX10_isWithin 149 = .ok (.aload_n 0, 1) := by decide +kernel
theorem dX10_isWithin_150 : decode cX10_isWithin 150 = .ok (.getfield 42, 3) := by decide +kernel
theorem dX10_isWithin_153 : decode cX10_isWithin 153 = .ok (.iload 7, 2) := by decide +kernel
theorem dX10_isWithin_155 : decode cX10_isWithin 155 = .ok (.iaload, 1) := by decide +kernel
theorem dX10_isWithin_156 : decode cX10_isWithin 156 = .ok (.imul, 1) := by decide +kernel
theorem dX10_isWithin_157 : decode cX10_isWithin 157 = .ok (.isub, 1) := by decide +kernel
theorem dX10_isWithin_158 : decode cX10_isWithin 158 = .ok (.imul, 1) := by decide +kernel
theorem dX10_isWithin_159 : decode cX10_isWithin 159 = .ok (.istore 12, 2) := by decide +kernel
theorem dX10_isWithin_161 : decode cX10_isWithin 161 = .ok (.iload 10, 2) := by decide +kernel
theorem dX10_isWithin_163 : decode cX10_isWithin 163 = .ok (.iload 9, 2) := by decide +kernel
theorem dX10_isWithin_165 : decode cX10_isWithin 165 = .ok (.if_icmp .le 13, 3) := by decide +kernel
theorem dX10_isWithin_168 : decode cX10_isWithin 168 = .ok (.iload 11, 2) := by decide +kernel
theorem dX10_isWithin_170 : decode cX10_isWithin 170 = .ok (.iload 12, 2) := by decide +kernel
theorem dX10_isWithin_172 : decode cX10_isWithin 172 = .ok (.if_icmp .ge 25, 3) := by decide +kernel
theorem dX10_isWithin_175 : decode cX10_isWithin 175 = .ok (.goto 10, 3) := by decide +kernel
theorem dX10_isWithin_178 : decode cX10_isWithin 178 = .ok (.iload 11, 2) := by decide +kernel
theorem dX10_isWithin_180 : decode cX10_isWithin 180 = .ok (.iload 12, 2) := by decide +kernel
theorem dX10_isWithin_182 : decode cX10_isWithin 182 = .ok (.if_icmp .le 15, 3) := by decide +kernel
theorem dX10_isWithin_185 : decode cX10_isWithin 185 = .ok (.iload 5, 2) := by decide +kernel
theorem dX10_isWithin_187 : decode cX10_isWithin 187 = .ok (.ifCond .ne 7, 3) := by decide +kernel
theorem dX10_isWithin_190 : decode cX10_isWithin 190 = .ok (.iconst 1, 1) := by decide +kernel
theorem dX10_isWithin_191 : decode cX10_isWithin 191 = .ok (.goto 4, 3) := by decide +kernel
theorem dX10_isWithin_194 : decode cX10_isWithin 194 = .ok (.iconst 0, 1) := by decide +kernel
theorem dX10_isWithin_195 : decode cX10_isWithin 195 = .ok (.istore 5, 2) := by decide +kernel
theorem dX10_isWithin_197 : decode cX10_isWithin 197 = .ok (.iinc 6 1, 3) := by decide +kernel
theorem dX10_isWithin_200 : decode cX10_isWithin 200 = .ok (.goto (-175), 3) := by decide +kernel
theorem dX10_isWithin_203 : decode cX10_isWithin 203 = .ok (.iload 5, 2) := by decide +kernel
theorem dX10_isWithin_205 : decode cX10_isWithin 205 = .ok (.ireturn, 1) := by decide +kernel
theorem dX10_least_0 : decode cX10_least 0 = .ok (.aload_n 0, 1) := by decide +kernel
theorem dX10_least_1 : decode cX10_least 1 = .ok (.getfield 91, 3) := by decide +kernel
theorem dX10_least_4 : decode cX10_least 4 = .ok (.iload_n 1, 1) := by decide +kernel
theorem dX10_least_5 : decode cX10_least 5 = .ok (.iaload, 1) := by decide +kernel
theorem dX10_least_6 : decode cX10_least 6 = .ok (.istore_n 2, 1) := by decide +kernel
theorem dX10_least_7 : decode cX10_least 7 = .ok (.iconst 0, 1) := by decide +kernel
theorem dX10_least_8 : decode cX10_least 8 = .ok (.istore_n 3, 1) := by decide +kernel
theorem dX10_least_9 : decode cX10_least 9 = .ok (.iload_n 3, 1) := by decide +kernel
theorem dX10_least_10 : decode cX10_least 10 = .ok (.bipush 9, 2) := by decide +kernel
theorem dX10_least_12 : decode cX10_least 12 = .ok (.if_icmp .ge 83, 3) := by decide +kernel
theorem dX10_least_15 : decode cX10_least 15 = .ok (.iload_n 1, 1) := by decide +kernel
theorem dX10_least_16 : decode cX10_least 16 = .ok (.bipush 20, 2) := by decide +kernel
theorem dX10_least_18 : decode cX10_least 18 = .ok (.irem, 1) := by decide +kernel
theorem dX10_least_19 : decode cX10_least 19 = .ok (.iload_n 3, 1) := by decide +kernel
theorem dX10_least_20 : decode cX10_least 20 = .ok (.iconst 3, 1) := by decide +kernel
theorem dX10_least_21 : decode cX10_least 21 = .ok (.irem, 1) := by decide +kernel
theorem dX10_least_22 : decode cX10_least 22 = .ok (.iadd, 1) := by decide +kernel
theorem dX10_least_23 : decode cX10_least 23 = .ok (.iconst 1, 1) := by decide +kernel
theorem dX10_least_24 : decode cX10_least 24 = .ok (.isub, 1) := by decide +kernel
theorem dX10_least_25 : decode cX10_least 25 = .ok (.istore 4, 2) := by decide +kernel
theorem dX10_least_27 : decode cX10_least 27 = .ok (.iload_n 1, 1) := by decide +kernel
theorem dX10_least_28 : decode cX10_least 28 = .ok (.bipush 20, 2) := by decide +kernel
theorem dX10_least_30 : decode cX10_least 30 = .ok (.idiv, 1) := by decide +kernel
theorem dX10_least_31 : decode cX10_least 31 = .ok (.iload_n 3, 1) := by decide +kernel
theorem dX10_least_32 : decode cX10_least 32 = .ok (.iconst 3, 1) := by decide +kernel
theorem dX10_least_33 : decode cX10_least 33 = .ok (.idiv, 1) := by decide +kernel
theorem dX10_least_34 : decode cX10_least 34 = .ok (.iadd, 1) := by decide +kernel
theorem dX10_least_35 : decode cX10_least 35 = .ok (.iconst 1, 1) := by decide +kernel
theorem dX10_least_36 : decode cX10_least 36 = .ok (.isub, 1) := by decide +kernel
theorem dX10_least_37 : decode cX10_least 37 = .ok (.istore 5, 2) := by decide +kernel
theorem dX10_least_39 : decode cX10_least 39 = .ok (.iload_n 3, 1) := by decide +kernel
theorem dX10_least_40 : decode cX10_least 40 = .ok (.iconst 4, 1) := by decide +kernel
theorem dX10_least_41 : decode cX10_least 41 = .ok (.if_icmp .eq 48, 3) := by decide +kernel
theorem dX10_least_44 : decode cX10_least 44 = .ok (.iload 4, 2) := by decide +kernel
theorem dX10_least_46 : decode cX10_least 46 = .ok (.iload 5, 2) := by decide +kernel
theorem dX10_least_48 : decode cX10_least 48 = .ok (.invokestatic 126, 3) := by decide +kernel
theorem dX10_least_51 : decode cX10_least 51 = .ok (.ifCond .ne 6, 3) := by decide +kernel
theorem dX10_least_54 : decode cX10_least 54 = .ok (.goto 35, 3) := by decide +kernel
theorem dX10_least_57 : decode cX10_least 57 = .ok (.iload_n 2, 1) := by decide +kernel
theorem dX10_least_58 : decode cX10_least 58 = .ok (.aload_n 0, 1) := by decide +kernel
theorem dX10_least_59 : decode cX10_least 59 = .ok (.getfield 91, 3) := by decide +kernel
theorem dX10_least_62 : decode cX10_least 62 = .ok (.bipush 20, 2) := by decide +kernel
theorem dX10_least_64 : decode cX10_least 64 = .ok (.iload 5, 2) := by decide +kernel
theorem dX10_least_66 : decode cX10_least 66 = .ok (.imul, 1) := by decide +kernel
theorem dX10_least_67 : decode cX10_least 67 = .ok (.iload 4, 2) := by decide +kernel
theorem dX10_least_69 : decode cX10_least 69 = .ok (.iadd, 1) := by decide +kernel
theorem dX10_least_70 : decode cX10_least 70 = .ok (.iaload, 1) := by decide +kernel
theorem dX10_least_71 : decode cX10_least 71 = .ok (.iload_n 3, 1) := by decide +kernel
theorem dX10_least_72 : decode cX10_least 72 = .ok (.iconst 2, 1) := by decide +kernel
theorem dX10_least_73 : decode cX10_least 73 = .ok (.irem, 1) := by decide +kernel
theorem dX10_least_74 : decode cX10_least 74 = .ok (.iconst 1, 1) := by decide +kernel
theorem dX10_least_75 : decode cX10_least 75 = .ok (.if_icmp .ne 7, 3) := by decide +kernel
theorem dX10_least_78 : decode cX10_least 78 = .ok (.iconst 5, 1) := by decide +kernel
theorem dX10_least_79 : decode cX10_least 79 = .ok (.goto 5, 3) := by decide +kernel
theorem dX10_least_82 : decode cX10_least 82 = .ok (.bipush 7, 2) := by decide +kernel
theorem dX10_least_84 : decode cX10_least 84 = .ok (.iadd, 1) := by decide +kernel
theorem dX10_least_85 : decode cX10_least 85 = .ok (.invokestatic 130, 3) := by decide +kernel
theorem dX10_least_88 : decode cX10_least 88 = .ok (.istore_n 2, 1) := by decide +kernel
theorem dX10_least_89 : decode cX10_least 89 = .ok (.iinc 3 1, 3) := by decide +kernel
theorem dX10_least_92 : decode cX10_least 92 = .ok (.goto (-83), 3) := by decide +kernel
theorem dX10_least_95 : decode cX10_least 95 = .ok (.iload_n 2, 1) := by decide +kernel
theorem dX10_least_96 : decode cX10_least 96 = .ok (.ireturn, 1) := by decide +kernel
theorem dX10_way_0 : decode cX10_way 0 = .ok (.aload_n 0, 1) := by decide +kernel
theorem dX10_way_1 : decode cX10_way 1 = .ok (.iconst 0, 1) := by decide +kernel
theorem dX10_way_2 : decode cX10_way 2 = .ok (.putfield 3, 3) := by decide +kernel
theorem dX10_way_5 : decode cX10_way 5 = .ok (.aload_n 0, 1) := by decide +kernel
theorem dX10_way_6 : decode cX10_way 6 = .ok (.iload_n 1, 1) := by decide +kernel
theorem dX10_way_7 : decode cX10_way 7 = .ok (.invokestatic 107, 3) := by decide +kernel
theorem dX10_way_10 : decode cX10_way 10 = .ok (.ifCond .ne 10, 3) := by decide +kernel
theorem dX10_way_13 : decode cX10_way 13 = .ok (.iload_n 2, 1) := by decide +kernel
theorem dX10_way_14 : decode cX10_way 14 = .ok (.invokestatic 107, 3) := by decide +kernel
theorem dX10_way_17 : decode cX10_way 17 = .ok (.ifCond .eq 7, 3) := by decide +kernel
theorem dX10_way_20 : decode cX10_way 20 = .ok (.iconst 1, 1) := by decide +kernel
theorem dX10_way_21 : decode cX10_way 21 = .ok (.goto 4, 3) := by decide +kernel
theorem dX10_way_24 : decode cX10_way 24 = .ok (.iconst 0, 1) := by decide +kernel
theorem dX10_way_25 : decode cX10_way 25 = .ok (.iconst 1, 1) := by decide +kernel
theorem dX10_way_26 : decode cX10_way 26 = .ok (.invokevirtual 111, 3) := by decide +kernel
theorem dX10_way_29 : decode cX10_way 29 = .ok (.ifCond .eq 5, 3) := by decide +kernel
theorem dX10_way_32 : decode cX10_way 32 = .ok (.iconst 0, 1) := by decide +kernel
theorem dX10_way_33 : decode cX10_way 33 = .ok (.ireturn, 1) := by decide +kernel
theorem dX10_way_34 : decode cX10_way 34 = .ok (.iconst 0, 1) := by decide +kernel
theorem dX10_way_35 : decode cX10_way 35 = .ok (.istore 4, 2) := by decide +kernel
theorem dX10_way_37 : decode cX10_way 37 = .ok (.iload 4, 2) := by decide +kernel
theorem dX10_way_39 : decode cX10_way 39 = .ok (.sipush 280, 3) := by decide +kernel
theorem dX10_way_42 : decode cX10_way 42 = .ok (.if_icmp .ge 93, 3) := by decide +kernel
theorem dX10_way_45 : decode cX10_way 45 = .ok (.aload_n 0, 1) := by decide +kernel
theorem dX10_way_46 : decode cX10_way 46 = .ok (.getfield 88, 3) := by decide +kernel
theorem dX10_way_49 : decode cX10_way 49 = .ok (.iload 4, 2) := by decide +kernel
theorem dX10_way_51 : decode cX10_way 51 = .ok (.aload_n 0, 1) := by decide +kernel
theorem dX10_way_52 : decode cX10_way 52 = .ok (.getfield 13, 3) := by decide +kernel
theorem dX10_way_55 : decode cX10_way 55 = .ok (.iload 4, 2) := by decide +kernel
theorem dX10_way_57 : decode cX10_way 57 = .ok (.baload, 1) := by decide +kernel
theorem dX10_way_58 : decode cX10_way 58 = .ok (.bastore, 1) := by decide +kernel
theorem dX10_way_59 : decode cX10_way 59 = .ok (.iconst 0, 1) := by decide +kernel
theorem dX10_way_60 : decode cX10_way 60 = .ok (.istore 5, 2) := by decide +kernel
theorem dX10_way_62 : decode cX10_way 62 = .ok (.iload 5, 2) := by decide +kernel
theorem dX10_way_64 : decode cX10_way 64 = .ok (.aload_n 0, 1) := by decide +kernel
theorem dX10_way_65 : decode cX10_way 65 = .ok (.getfield 104, 3) := by decide +kernel
theorem dX10_way_68 : decode cX10_way 68 = .ok (.if_icmp .ge 52, 3) := by decide +kernel
theorem dX10_way_71 : decode cX10_way 71 = .ok (.aload_n 0, 1) := by decide +kernel
theorem dX10_way_72 : decode cX10_way 72 = .ok (.getfield 88, 3) := by decide +kernel
theorem dX10_way_75 : decode cX10_way 75 = .ok (.iload 4, 2) := by decide +kernel
theorem dX10_way_77 : decode cX10_way 77 = .ok (.aload_n 0, 1) := by decide +kernel
theorem dX10_way_78 : decode cX10_way 78 = .ok (.getfield 88, 3) := by decide +kernel
theorem dX10_way_81 : decode cX10_way 81 = .ok (.iload 4, 2) := by decide +kernel
theorem dX10_way_83 : decode cX10_way 83 = .ok (.baload, 1) := by decide +kernel
theorem dX10_way_84 : decode cX10_way 84 = .ok (.ifCond .ne 24, 3) := by decide +kernel
theorem dX10_way_87 : decode cX10_way 87 = .ok (.aload_n 0, 1) := by decide +kernel
theorem dX10_way_88 : decode cX10_way 88 = .ok (.iload 5, 2) := by decide +kernel
theorem dX10_way_90 : decode cX10_way 90 = .ok (.iload_n 3, 1) := by decide +kernel
theorem dX10_way_91 : decode cX10_way 91 = .ok (.invokevirtual 226, 3) := by decide +kernel
theorem dX10_way_94 : decode cX10_way 94 = .ok (.ifCond .eq 18, 3) := by decide +kernel
theorem dX10_way_97 : decode cX10_way 97 = .ok (.aload_n 0, 1) := by decide +kernel
theorem dX10_way_98 : decode cX10_way 98 = .ok (.iload 5, 2) := by decide +kernel
theorem dX10_way_100 : decode cX10_way 100 = .ok (.iload 4, 2) := by decide +kernel
theorem dX10_way_102 : decode cX10_way 102 = .ok (.invokevirtual 243, 3) := by decide +kernel
theorem dX10_way_105 : decode cX10_way 105 = .ok (.ifCond .eq 7, 3) := by decide +kernel
theorem dX10_way_108 : decode cX10_way 108 = .ok (.iconst 1, 1) := by decide +kernel
theorem dX10_way_109 : decode cX10_way 109 = .ok (.goto 4, 3) := by decide +kernel
theorem dX10_way_112 : decode cX10_way 112 = .ok (.iconst 0, 1) := by decide +kernel
theorem dX10_way_113 : decode cX10_way 113 = .ok (.bastore, 1) := by decide +kernel
theorem dX10_way_114 : decode cX10_way 114 = .ok (.iinc 5 1, 3) := by decide +kernel
theorem dX10_way_117 : decode cX10_way 117 = .ok (.goto (-55), 3) := by decide +kernel
theorem dX10_way_120 : decode cX10_way 120 = .ok (.aload_n 0, 1) := by decide +kernel
theorem dX10_way_121 : decode cX10_way 121 = .ok (.getfield 91, 3) := by decide +kernel
theorem dX10_way_124 : decode cX10_way 124 = .ok (.iload 4, 2) := by decide +kernel
theorem dX10_way_126 : decode cX10_way 126 = .ok (.ldc 118, 2) := by decide +kernel
theorem dX10_way_128 : decode cX10_way 128 = .ok (.iastore, 1) := by decide +kernel
theorem dX10_way_129 : decode cX10_way 129 = .ok (.iinc 4 1, 3) := by decide +kernel
theorem dX10_way_132 : decode cX10_way 132 = .ok (.goto (-95), 3) := by decide +kernel
theorem dX10_way_135 : decode cX10_way 135 = .ok (.aload_n 0, 1) := by decide +kernel
theorem dX10_way_136 : decode cX10_way 136 = .ok (.getfield 88, 3) := by decide +kernel
theorem dX10_way_139 : decode cX10_way 139 = .ok (.iload_n 1, 1) := by decide +kernel
theorem dX10_way_140 : decode cX10_way 140 = .ok (.baload, 1) := by decide +kernel
theorem dX10_way_141 : decode cX10_way 141 = .ok (.ifCond .ne 12, 3) := by decide +kernel
theorem dX10_way_144 : decode cX10_way 144 = .ok (.aload_n 0, 1) := by decide +kernel
theorem dX10_way_145 : decode cX10_way 145 = .ok (.getfield 88, 3) := by decide +kernel
theorem dX10_way_148 : decode cX10_way 148 = .ok (.iload_n 2, 1) := by decide +kernel
theorem dX10_way_149 : decode cX10_way 149 = .ok (.baload, 1) := by decide +kernel
theorem dX10_way_150 : decode cX10_way 150 = .ok (.ifCond .eq 5, 3) := by decide +kernel
theorem dX10_way_153 : decode cX10_way 153 = .ok (.iconst (-1), 1) := by decide +kernel
theorem dX10_way_154 : decode cX10_way 154 = .ok (.ireturn, 1) := by decide +kernel
theorem dX10_way_155 : decode cX10_way 155 = .ok (.aload_n 0, 1) := by decide +kernel
theorem dX10_way_156 : decode cX10_way 156 = .ok (.getfield 91, 3) := by decide +kernel
theorem dX10_way_159 : decode cX10_way 159 = .ok (.iload_n 1, 1) := by decide +kernel
theorem dX10_way_160 : decode cX10_way 160 = .ok (.iconst 0, 1) := by decide +kernel
theorem dX10_way_161 : decode cX10_way 161 = .ok (.iastore, 1) := by decide +kernel
theorem dX10_way_162 : decode cX10_way 162 = .ok (.iconst 1, 1) := by decide +kernel
theorem dX10_way_163 : decode cX10_way 163 = .ok (.istore 4, 2) := by decide +kernel
theorem dX10_way_165 : decode cX10_way 165 = .ok (.iload 4, 2) := by decide +kernel
theorem dX10_way_167 : decode cX10_way 167 = .ok (.ifCond .eq 76, 3) := by decide +kernel
theorem dX10_way_170 : decode cX10_way 170 = .ok (.iconst 0, 1) := by decide +kernel
theorem dX10_way_171 : decode cX10_way 171 = .ok (.istore 4, 2) := by decide +kernel
theorem dX10_way_173 : decode cX10_way 173 = .ok (.iconst 0, 1) := by decide +kernel
theorem dX10_way_174 : decode cX10_way 174 = .ok (.istore 5, 2) := by decide +kernel
theorem dX10_way_176 : decode cX10_way 176 = .ok (.iload 5, 2) := by decide +kernel
theorem dX10_way_178 : decode cX10_way 178 = .ok (.sipush 280, 3) := by decide +kernel
theorem dX10_way_181 : decode cX10_way 181 = .ok (.if_icmp .ge 59, 3) := by decide +kernel
theorem dX10_way_184 : decode cX10_way 184 = .ok (.aload_n 0, 1) := by decide +kernel
theorem dX10_way_185 : decode cX10_way 185 = .ok (.getfield 88, 3) := by decide +kernel
theorem dX10_way_188 : decode cX10_way 188 = .ok (.iload 5, 2) := by decide +kernel
theorem dX10_way_190 : decode cX10_way 190 = .ok (.baload, 1) := by decide +kernel
theorem dX10_way_191 : decode cX10_way 191 = .ok (.ifCond .eq 8, 3) := by decide +kernel
theorem dX10_way_194 : decode cX10_way 194 = .ok (.ldc 118, 2) := by decide +kernel
theorem dX10_way_196 : decode cX10_way 196 = .ok (.goto 9, 3) := by decide +kernel
theorem dX10_way_199 : decode cX10_way 199 = .ok (.aload_n 0, 1) := by decide +kernel
theorem dX10_way_200 : decode cX10_way 200 = .ok (.iload 5, 2) := by decide +kernel
theorem dX10_way_202 : decode cX10_way 202 = .ok (.invokevirtual 246, 3) := by decide +kernel
theorem dX10_way_205 : decode cX10_way 205 = .ok (.istore 6, 2) := by decide +kernel
theorem dX10_way_207 : decode cX10_way 207 = .ok (.iload 6, 2) := by decide +kernel
theorem dX10_way_209 : decode cX10_way 209 = .ok (.aload_n 0, 1) := by decide +kernel
theorem dX10_way_210 : decode cX10_way 210 = .ok (.getfield 91, 3) := by decide +kernel
theorem dX10_way_213 : decode cX10_way 213 = .ok (.iload 5, 2) := by decide +kernel
theorem dX10_way_215 : decode cX10_way 215 = .ok (.iaload, 1) := by decide +kernel
theorem dX10_way_216 : decode cX10_way 216 = .ok (.if_icmp .lt 6, 3) := by decide +kernel
theorem dX10_way_219 : decode cX10_way 219 = .ok (.goto 15, 3) := by decide +kernel
theorem dX10_way_222 : decode cX10_way 222 = .ok (.aload_n 0, 1) := by decide +kernel
theorem dX10_way_223 : decode cX10_way 223 = .ok (.getfield 91, 3) := by decide +kernel
theorem dX10_way_226 : decode cX10_way 226 = .ok (.iload 5, 2) := by decide +kernel
theorem dX10_way_228 : decode cX10_way 228 = .ok (.iload 6, 2) := by decide +kernel
theorem dX10_way_230 : decode cX10_way 230 = .ok (.iastore, 1) := by decide +kernel
theorem dX10_way_231 : decode cX10_way 231 = .ok (.iconst 1, 1) := by decide +kernel
theorem dX10_way_232 : decode cX10_way 232 = .ok (.istore 4, 2) := by decide +kernel
theorem dX10_way_234 : decode cX10_way 234 = .ok (.iinc 5 1, 3) := by decide +kernel
theorem dX10_way_237 : decode cX10_way 237 = .ok (.goto (-61), 3) := by decide +kernel
theorem dX10_way_240 : decode cX10_way 240 = .ok (.goto (-75), 3) := by decide +kernel
theorem dX10_way_243 : decode cX10_way 243 = .ok (.aload_n 0, 1) := by decide +kernel
theorem dX10_way_244 : decode cX10_way 244 = .ok (.getfield 91, 3) := by decide +kernel
theorem dX10_way_247 : decode cX10_way 247 = .ok (.iload_n 2, 1) := by decide +kernel
theorem dX10_way_248 : decode cX10_way 248 = .ok (.iaload, 1) := by decide +kernel
theorem dX10_way_249 : decode cX10_way 249 = .ok (.ldc 118, 2) := by decide +kernel
theorem dX10_way_251 : decode cX10_way 251 = .ok (.if_icmp .ge 12, 3) := by decide +kernel
theorem dX10_way_254 : decode cX10_way 254 = .ok (.aload_n 0, 1) := by decide +kernel
theorem dX10_way_255 : decode cX10_way 255 = .ok (.getfield 91, 3) := by decide +kernel
theorem dX10_way_258 : decode cX10_way 258 = .ok (.iload_n 2, 1) := by decide +kernel
theorem dX10_way_259 : decode cX10_way 259 = .ok (.iaload, 1) := by decide +kernel
theorem dX10_way_260 : decode cX10_way 260 = .ok (.goto 4, 3) := by decide +kernel
theorem dX10_way_263 : decode cX10_way 263 = .ok (.iconst (-1), 1) := by decide +kernel
theorem dX10_way_264 : decode cX10_way 264 = .ok (.ireturn, 1) := by decide +kernel
theorem dX10_flight_0 : decode cX10_flight 0 = .ok (.aload_n 0, 1) := by decide +kernel
theorem dX10_flight_1 : decode cX10_flight 1 = .ok (.iconst 0, 1) := by decide +kernel
theorem dX10_flight_2 : decode cX10_flight 2 = .ok (.putfield 3, 3) := by decide +kernel
theorem dX10_flight_5 : decode cX10_flight 5 = .ok (.iconst 0, 1) := by decide +kernel
theorem dX10_flight_6 : decode cX10_flight 6 = .ok (.istore_n 1, 1) := by decide +kernel
theorem dX10_flight_7 : decode cX10_flight 7 = .ok (.iconst 0, 1) := by decide +kernel
theorem dX10_flight_8 : decode cX10_flight 8 = .ok (.istore_n 2, 1) := by decide +kernel
theorem dX10_flight_9 : decode cX10_flight 9 = .ok (.iload_n 2, 1) := by decide +kernel
theorem dX10_flight_10 : decode cX10_flight 10 = .ok (.bipush 20, 2) := by decide +kernel
theorem dX10_flight_12 : decode cX10_flight 12 = .ok (.if_icmp .ge 162, 3) := by decide +kernel
theorem dX10_flight_15 : decode cX10_flight 15 = .ok (.iconst 0, 1) := by decide +kernel
theorem dX10_flight_16 : decode cX10_flight 16 = .ok (.istore_n 3, 1) := by decide +kernel
theorem dX10_flight_17 : decode cX10_flight 17 = .ok (.iload_n 3, 1) := by decide +kernel
theorem dX10_flight_18 : decode cX10_flight 18 = .ok (.bipush 14, 2) := by decide +kernel
theorem dX10_flight_20 : decode cX10_flight 20 = .ok (.if_icmp .ge 148, 3) := by decide +kernel
theorem dX10_flight_23 : decode cX10_flight 23 = .ok (.bipush 20, 2) := by decide +kernel
theorem dX10_flight_25 : decode cX10_flight 25 = .ok (.iload_n 3, 1) := by decide +kernel
theorem dX10_flight_26 : decode cX10_flight 26 = .ok (.imul, 1) := by decide +kernel
theorem dX10_flight_27 : decode cX10_flight 27 = .ok (.iload_n 2, 1) := by decide +kernel
theorem dX10_flight_28 : decode cX10_flight 28 = .ok (.iadd, 1) := by decide +kernel
theorem dX10_flight_29 : decode cX10_flight 29 = .ok (.istore 4, 2) := by decide +kernel
theorem dX10_flight_31 : decode cX10_flight 31 = .ok (.aload_n 0, 1) := by decide +kernel
theorem dX10_flight_32 : decode cX10_flight 32 = .ok (.getfield 94, 3) := by decide +kernel
theorem dX10_flight_35 : decode cX10_flight 35 = .ok (.iload 4, 2) := by decide +kernel
theorem dX10_flight_37 : decode cX10_flight 37 = .ok (.iconst 0, 1) := by decide +kernel
theorem dX10_flight_38 : decode cX10_flight 38 = .ok (.iastore, 1) := by decide +kernel
theorem dX10_flight_39 : decode cX10_flight 39 = .ok (.iload_n 2, 1) := by decide +kernel
theorem dX10_flight_40 : decode cX10_flight 40 = .ok (.ifCond .le 62, 3) := by decide +kernel
theorem dX10_flight_43 : decode cX10_flight 43 = .ok (.iconst 0, 1) := by decide +kernel
theorem dX10_flight_44 : decode cX10_flight 44 = .ok (.iload_n 3, 1) := by decide +kernel
theorem dX10_flight_45 : decode cX10_flight 45 = .ok (.iconst 1, 1) := by decide +kernel
theorem dX10_flight_46 : decode cX10_flight 46 = .ok (.isub, 1) := by decide +kernel
theorem dX10_flight_47 : decode cX10_flight 47 = .ok (.invokestatic 249, 3) := by decide +kernel
theorem dX10_flight_50 : decode cX10_flight 50 = .ok (.istore 5, 2) := by decide +kernel
theorem dX10_flight_52 : decode cX10_flight 52 = .ok (.iload 5, 2) := by decide +kernel
theorem dX10_flight_54 : decode cX10_flight 54 = .ok (.bipush 13, 2) := by decide +kernel
theorem dX10_flight_56 : decode cX10_flight 56 = .ok (.iload_n 3, 1) := by decide +kernel
theorem dX10_flight_57 : decode cX10_flight 57 = .ok (.iconst 1, 1) := by decide +kernel
theorem dX10_flight_58 : decode cX10_flight 58 = .ok (.iadd, 1) := by decide +kernel
theorem dX10_flight_59 : decode cX10_flight 59 = .ok (.invokestatic 130, 3) := by decide +kernel
theorem dX10_flight_62 : decode cX10_flight 62 = .ok (.if_icmp .gt 40, 3) := by decide +kernel
theorem dX10_flight_65 : decode cX10_flight 65 = .ok (.aload_n 0, 1) := by decide +kernel
theorem dX10_flight_66 : decode cX10_flight 66 = .ok (.getfield 94, 3) := by decide +kernel
theorem dX10_flight_69 : decode cX10_flight 69 = .ok (.iload 4, 2) := by decide +kernel
theorem dX10_flight_71 : decode cX10_flight 71 = .ok (.aload_n 0, 1) := by decide +kernel
theorem dX10_flight_72 : decode cX10_flight 72 = .ok (.getfield 94, 3) := by decide +kernel
theorem dX10_flight_75 : decode cX10_flight 75 = .ok (.iload 4, 2) := by decide +kernel
theorem dX10_flight_77 : decode cX10_flight 77 = .ok (.iaload, 1) := by decide +kernel
theorem dX10_flight_78 : decode cX10_flight 78 = .ok (.aload_n 0, 1) := by decide +kernel
theorem dX10_flight_79 : decode cX10_flight 79 = .ok (.getfield 94, 3) := by decide +kernel
theorem dX10_flight_82 : decode cX10_flight 82 = .ok (.bipush 20, 2) := by decide +kernel
theorem dX10_flight_84 : decode cX10_flight 84 = .ok (.iload 5, 2) := by decide +kernel
theorem dX10_flight_86 : decode cX10_flight 86 = .ok (.imul, 1) := by decide +kernel
theorem dX10_flight_87 : decode cX10_flight 87 = .ok (.iload_n 2, 1) := by decide +kernel
theorem dX10_flight_88 : decode cX10_flight 88 = .ok (.iadd, 1) := by decide +kernel
theorem dX10_flight_89 : decode cX10_flight 89 = .ok (.iconst 1, 1) := by decide +kernel
theorem dX10_flight_90 : decode cX10_flight 90 = .ok (.isub, 1) := by decide +kernel
theorem dX10_flight_91 : decode cX10_flight 91 = .ok (.iaload, 1) := by decide +kernel
theorem dX10_flight_92 : decode cX10_flight 92 = .ok (.invokestatic 249, 3) := by decide +kernel
theorem dX10_flight_95 : decode cX10_flight 95 = .ok (.iastore, 1) := by decide +kernel
theorem dX10_flight_96 : decode cX10_flight 96 = .ok (.iinc 5 1, 3) := by decide +kernel
theorem dX10_flight_99 : decode cX10_flight 99 = .ok (.goto (-47), 3) := by decide +kernel
theorem dX10_flight_102 : decode cX10_flight 102 = .ok (.iconst 0, 1) := by decide +kernel
theorem dX10_flight_103 : decode cX10_flight 103 = .ok (.istore 5, 2) := by decide +kernel
theorem dX10_flight_105 : decode cX10_flight 105 = .ok (.iload 5, 2) := by decide +kernel
theorem dX10_flight_107 : decode cX10_flight 107 = .ok (.aload_n 0, 1) := by decide +kernel
theorem dX10_flight_108 : decode cX10_flight 108 = .ok (.getfield 101, 3) := by decide +kernel
theorem dX10_flight_111 : decode cX10_flight 111 = .ok (.if_icmp .ge 33, 3) := by decide +kernel
theorem dX10_flight_114 : decode cX10_flight 114 = .ok (.aload_n 0, 1) := by decide +kernel
theorem dX10_flight_115 : decode cX10_flight 115 = .ok (.getfield 94, 3) := by decide +kernel
theorem dX10_flight_118 : decode cX10_flight 118 = .ok (.iload 4, 2) := by decide +kernel
theorem dX10_flight_120 : decode cX10_flight 120 = .ok (.dup2, 1) := by decide +kernel
theorem dX10_flight_121 : decode cX10_flight 121 = .ok (.iaload, 1) := by decide +kernel
theorem dX10_flight_122 : decode cX10_flight 122 = .ok (.aload_n 0, 1) := by decide +kernel
theorem dX10_flight_123 : decode cX10_flight 123 = .ok (.getfield 27, 3) := by decide +kernel
theorem dX10_flight_126 : decode cX10_flight 126 = .ok (.sipush 280, 3) := by decide +kernel
theorem dX10_flight_129 : decode cX10_flight 129 = .ok (.iload 5, 2) := by decide +kernel
theorem dX10_flight_131 : decode cX10_flight 131 = .ok (.imul, 1) := by decide +kernel
theorem dX10_flight_132 : decode cX10_flight 132 = .ok (.iload 4, 2) := by decide +kernel
theorem dX10_flight_134 : decode cX10_flight 134 = .ok (.iadd, 1) := by decide +kernel
theorem dX10_flight_135 : decode cX10_flight 135 = .ok (.iaload, 1) := by decide +kernel
theorem dX10_flight_136 : decode cX10_flight 136 = .ok (.iadd, 1) := by decide +kernel
theorem dX10_flight_137 : decode cX10_flight 137 = .ok (.iastore, 1) := by decide +kernel
theorem dX10_flight_138 : decode cX10_flight 138 = .ok (.iinc 5 1, 3) := by decide +kernel
theorem dX10_flight_141 : decode cX10_flight 141 = .ok (.goto (-36), 3) := by decide +kernel
theorem dX10_flight_144 : decode cX10_flight 144 = .ok (.iload_n 2, 1) := by decide +kernel
theorem dX10_flight_145 : decode cX10_flight 145 = .ok (.bipush 19, 2) := by decide +kernel
theorem dX10_flight_147 : decode cX10_flight 147 = .ok (.if_icmp .ne 15, 3) := by decide +kernel
theorem dX10_flight_150 : decode cX10_flight 150 = .ok (.iload_n 1, 1) := by decide +kernel
theorem dX10_flight_151 : decode cX10_flight 151 = .ok (.aload_n 0, 1) := by decide +kernel
theorem dX10_flight_152 : decode cX10_flight 152 = .ok (.getfield 94, 3) := by decide +kernel
theorem dX10_flight_155 : decode cX10_flight 155 = .ok (.iload 4, 2) := by decide +kernel
theorem dX10_flight_157 : decode cX10_flight 157 = .ok (.iaload, 1) := by decide +kernel
theorem dX10_flight_158 : decode cX10_flight 158 = .ok (.invokestatic 249, 3) := by decide +kernel
theorem dX10_flight_161 : decode cX10_flight 161 = .ok (.istore_n 1, 1) := by decide +kernel
theorem dX10_flight_162 : decode cX10_flight 162 = .ok (.iinc 3 1, 3) := by decide +kernel
theorem dX10_flight_165 : decode cX10_flight 165 = .ok (.goto (-148), 3) := by decide +kernel
theorem dX10_flight_168 : decode cX10_flight 168 = .ok (.iinc 2 1, 3) := by decide +kernel
theorem dX10_flight_171 : decode cX10_flight 171 = .ok (.goto (-162), 3) := by decide +kernel
theorem dX10_flight_174 : decode cX10_flight 174 = .ok (.iload_n 1, 1) := by decide +kernel
theorem dX10_flight_175 : decode cX10_flight 175 = .ok (.ireturn, 1) := by decide +kernel
theorem dX10_count_0 : decode cX10_count 0 = .ok (.aload_n 0, 1) := by decide +kernel
theorem dX10_count_1 : decode cX10_count 1 = .ok (.iconst 0, 1) := by decide +kernel
theorem dX10_count_2 : decode cX10_count 2 = .ok (.putfield 3, 3) := by decide +kernel
theorem dX10_count_5 : decode cX10_count 5 = .ok (.iconst 0, 1) := by decide +kernel
theorem dX10_count_6 : decode cX10_count 6 = .ok (.istore_n 2, 1) := by decide +kernel
theorem dX10_count_7 : decode cX10_count 7 = .ok (.iload_n 1, 1) := by decide +kernel
theorem dX10_count_8 : decode cX10_count 8 = .ok (.tableswitch 179 0 7 #[48, 53, 58, 93, 98, 136, 169, 174], 48) := by decide +kernel
theorem dX10_count_56 : decode cX10_count 56 = .ok (.aload_n 0, 1) := by decide +kernel
theorem dX10_count_57 : decode cX10_count 57 = .ok (.getfield 140, 3) := by decide +kernel
theorem dX10_count_60 : decode cX10_count 60 = .ok (.ireturn, 1) := by decide +kernel
theorem dX10_count_61 : decode cX10_count 61 = .ok (.aload_n 0, 1) := by decide +kernel
theorem dX10_count_62 : decode cX10_count 62 = .ok (.getfield 101, 3) := by decide +kernel
theorem dX10_count_65 : decode cX10_count 65 = .ok (.ireturn, 1) := by decide +kernel
theorem dX10_count_66 : decode cX10_count 66 = .ok (.iconst 0, 1) := by decide +kernel
theorem dX10_count_67 : decode cX10_count 67 = .ok (.istore_n 3, 1) := by decide +kernel
theorem dX10_count_68 : decode cX10_count 68 = .ok (.iload_n 3, 1) := by decide +kernel
theorem dX10_count_69 : decode cX10_count 69 = .ok (.aload_n 0, 1) := by decide +kernel
theorem dX10_count_70 : decode cX10_count 70 = .ok (.getfield 101, 3) := by decide +kernel
theorem dX10_count_73 : decode cX10_count 73 = .ok (.if_icmp .ge 26, 3) := by decide +kernel
theorem dX10_count_76 : decode cX10_count 76 = .ok (.iload_n 2, 1) := by decide +kernel
theorem dX10_count_77 : decode cX10_count 77 = .ok (.aload_n 0, 1) := by decide +kernel
theorem dX10_count_78 : decode cX10_count 78 = .ok (.getfield 39, 3) := by decide +kernel
theorem dX10_count_81 : decode cX10_count 81 = .ok (.iload_n 3, 1) := by decide +kernel
theorem dX10_count_82 : decode cX10_count 82 = .ok (.baload, 1) := by decide +kernel
theorem dX10_count_83 : decode cX10_count 83 = .ok (.ifCond .eq 7, 3) := by decide +kernel
theorem dX10_count_86 : decode cX10_count 86 = .ok (.iconst 0, 1) := by decide +kernel
theorem dX10_count_87 : decode cX10_count 87 = .ok (.goto 4, 3) := by decide +kernel
theorem dX10_count_90 : decode cX10_count 90 = .ok (.iconst 1, 1) := by decide +kernel
theorem dX10_count_91 : decode cX10_count 91 = .ok (.iadd, 1) := by decide +kernel
theorem dX10_count_92 : decode cX10_count 92 = .ok (.istore_n 2, 1) := by decide +kernel
theorem dX10_count_93 : decode cX10_count 93 = .ok (.iinc 3 1, 3) := by decide +kernel
theorem dX10_count_96 : decode cX10_count 96 = .ok (.goto (-28), 3) := by decide +kernel
theorem dX10_count_99 : decode cX10_count 99 = .ok (.iload_n 2, 1) := by decide +kernel
theorem dX10_count_100 : decode cX10_count 100 = .ok (.ireturn, 1) := by decide +kernel
theorem dX10_count_101 : decode cX10_count 101 = .ok (.aload_n 0, 1) := by decide +kernel
theorem dX10_count_102 : decode cX10_count 102 = .ok (.getfield 104, 3) := by decide +kernel
theorem dX10_count_105 : decode cX10_count 105 = .ok (.ireturn, 1) := by decide +kernel
theorem dX10_count_106 : decode cX10_count 106 = .ok (.iconst 0, 1) := by decide +kernel
theorem dX10_count_107 : decode cX10_count 107 = .ok (.istore_n 3, 1) := by decide +kernel
theorem dX10_count_108 : decode cX10_count 108 = .ok (.iload_n 3, 1) := by decide +kernel
theorem dX10_count_109 : decode cX10_count 109 = .ok (.aload_n 0, 1) := by decide +kernel
theorem dX10_count_110 : decode cX10_count 110 = .ok (.getfield 104, 3) := by decide +kernel
theorem dX10_count_113 : decode cX10_count 113 = .ok (.if_icmp .ge 29, 3) := by decide +kernel
theorem dX10_count_116 : decode cX10_count 116 = .ok (.iload_n 2, 1) := by decide +kernel
theorem dX10_count_117 : decode cX10_count 117 = .ok (.aload_n 0, 1) := by decide +kernel
theorem dX10_count_118 : decode cX10_count 118 = .ok (.iload_n 3, 1) := by decide +kernel
theorem dX10_count_119 : decode cX10_count 119 = .ok (.aload_n 0, 1) := by decide +kernel
theorem dX10_count_120 : decode cX10_count 120 = .ok (.getfield 140, 3) := by decide +kernel
theorem dX10_count_123 : decode cX10_count 123 = .ok (.invokevirtual 226, 3) := by decide +kernel
theorem dX10_count_126 : decode cX10_count 126 = .ok (.ifCond .eq 7, 3) := by decide +kernel
theorem dX10_count_129 : decode cX10_count 129 = .ok (.iconst 1, 1) := by decide +kernel
theorem dX10_count_130 : decode cX10_count 130 = .ok (.goto 4, 3) := by decide +kernel
theorem dX10_count_133 : decode cX10_count 133 = .ok (.iconst 0, 1) := by decide +kernel
theorem dX10_count_134 : decode cX10_count 134 = .ok (.iadd, 1) := by decide +kernel
theorem dX10_count_135 : decode cX10_count 135 = .ok (.istore_n 2, 1) := by decide +kernel
theorem dX10_count_136 : decode cX10_count 136 = .ok (.iinc 3 1, 3) := by decide +kernel
theorem dX10_count_139 : decode cX10_count 139 = .ok (.goto (-31), 3) := by decide +kernel
theorem dX10_count_142 : decode cX10_count 142 = .ok (.iload_n 2, 1) := by decide +kernel
theorem dX10_count_143 : decode cX10_count 143 = .ok (.ireturn, 1) := by decide +kernel
theorem dX10_count_144 : decode cX10_count 144 = .ok (.iconst 0, 1) := by decide +kernel
theorem dX10_count_145 : decode cX10_count 145 = .ok (.istore_n 3, 1) := by decide +kernel
theorem dX10_count_146 : decode cX10_count 146 = .ok (.iload_n 3, 1) := by decide +kernel
theorem dX10_count_147 : decode cX10_count 147 = .ok (.sipush 280, 3) := by decide +kernel
theorem dX10_count_150 : decode cX10_count 150 = .ok (.if_icmp .ge 25, 3) := by decide +kernel
theorem dX10_count_153 : decode cX10_count 153 = .ok (.iload_n 2, 1) := by decide +kernel
theorem dX10_count_154 : decode cX10_count 154 = .ok (.aload_n 0, 1) := by decide +kernel
theorem dX10_count_155 : decode cX10_count 155 = .ok (.iload_n 3, 1) := by decide +kernel
theorem dX10_count_156 : decode cX10_count 156 = .ok (.invokevirtual 115, 3) := by decide +kernel
theorem dX10_count_159 : decode cX10_count 159 = .ok (.ifCond .eq 7, 3) := by decide +kernel
theorem dX10_count_162 : decode cX10_count 162 = .ok (.iconst 1, 1) := by decide +kernel
theorem dX10_count_163 : decode cX10_count 163 = .ok (.goto 4, 3) := by decide +kernel
theorem dX10_count_166 : decode cX10_count 166 = .ok (.iconst 0, 1) := by decide +kernel
theorem dX10_count_167 : decode cX10_count 167 = .ok (.iadd, 1) := by decide +kernel
theorem dX10_count_168 : decode cX10_count 168 = .ok (.istore_n 2, 1) := by decide +kernel
theorem dX10_count_169 : decode cX10_count 169 = .ok (.iinc 3 1, 3) := by decide +kernel
theorem dX10_count_172 : decode cX10_count 172 = .ok (.goto (-26), 3) := by decide +kernel
theorem dX10_count_175 : decode cX10_count 175 = .ok (.iload_n 2, 1) := by decide +kernel
theorem dX10_count_176 : decode cX10_count 176 = .ok (.ireturn, 1) := by decide +kernel
theorem dX10_count_177 : decode cX10_count 177 = .ok (.aload_n 0, 1) := by decide +kernel
theorem dX10_count_178 : decode cX10_count 178 = .ok (.getfield 178, 3) := by decide +kernel
theorem dX10_count_181 : decode cX10_count 181 = .ok (.ireturn, 1) := by decide +kernel
theorem dX10_count_182 : decode cX10_count 182 = .ok (.aload_n 0, 1) := by decide +kernel
theorem dX10_count_183 : decode cX10_count 183 = .ok (.getfield 119, 3) := by decide +kernel
theorem dX10_count_186 : decode cX10_count 186 = .ok (.ireturn, 1) := by decide +kernel
theorem dX10_count_187 : decode cX10_count 187 = .ok (.iconst (-1), 1) := by decide +kernel
theorem dX10_count_188 : decode cX10_count 188 = .ok (.ireturn, 1) := by decide +kernel
