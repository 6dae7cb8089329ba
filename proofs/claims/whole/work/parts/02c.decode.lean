theorem dX7_init_0 : decode cX7_init 0 = .ok (.aload_n 0, 1) := by decide +kernel
theorem dX7_init_1 : decode cX7_init 1 = .ok (.invokespecial 1, 3) := by decide +kernel
theorem dX7_init_4 : decode cX7_init 4 = .ok (.aload_n 0, 1) := by decide +kernel
theorem dX7_init_5 : decode cX7_init 5 = .ok (.iconst 2, 1) := by decide +kernel
theorem dX7_init_6 : decode cX7_init 6 = .ok (.newarray .int, 2) := by decide +kernel
theorem dX7_init_8 : decode cX7_init 8 = .ok (.putfield 7, 3) := by decide +kernel
theorem dX7_init_11 : decode cX7_init 11 = .ok (.aload_n 0, 1) := by decide +kernel
theorem dX7_init_12 : decode cX7_init 12 = .ok (.bipush 118, 2) := by decide +kernel
theorem dX7_init_14 : decode cX7_init 14 = .ok (.newarray .int, 2) := by decide +kernel
theorem dX7_init_16 : decode cX7_init 16 = .ok (.putfield 13, 3) := by decide +kernel
theorem dX7_init_19 : decode cX7_init 19 = .ok (.aload_n 0, 1) := by decide +kernel
theorem dX7_init_20 : decode cX7_init 20 = .ok (.bipush 13, 2) := by decide +kernel
theorem dX7_init_22 : decode cX7_init 22 = .ok (.newarray .int, 2) := by decide +kernel
theorem dX7_init_24 : decode cX7_init 24 = .ok (.putfield 16, 3) := by decide +kernel
theorem dX7_init_27 : decode cX7_init 27 = .ok (.aload_n 0, 1) := by decide +kernel
theorem dX7_init_28 : decode cX7_init 28 = .ok (.bipush 13, 2) := by decide +kernel
theorem dX7_init_30 : decode cX7_init 30 = .ok (.newarray .int, 2) := by decide +kernel
theorem dX7_init_32 : decode cX7_init 32 = .ok (.putfield 19, 3) := by decide +kernel
theorem dX7_init_35 : decode cX7_init 35 = .ok (.aload_n 0, 1) := by decide +kernel
theorem dX7_init_36 : decode cX7_init 36 = .ok (.bipush 13, 2) := by decide +kernel
theorem dX7_init_38 : decode cX7_init 38 = .ok (.newarray .int, 2) := by decide +kernel
theorem dX7_init_40 : decode cX7_init 40 = .ok (.putfield 22, 3) := by decide +kernel
theorem dX7_init_43 : decode cX7_init 43 = .ok (.aload_n 0, 1) := by decide +kernel
theorem dX7_init_44 : decode cX7_init 44 = .ok (.bipush 13, 2) := by decide +kernel
theorem dX7_init_46 : decode cX7_init 46 = .ok (.newarray .int, 2) := by decide +kernel
theorem dX7_init_48 : decode cX7_init 48 = .ok (.putfield 25, 3) := by decide +kernel
theorem dX7_init_51 : decode cX7_init 51 = .ok (.aload_n 0, 1) := by decide +kernel
theorem dX7_init_52 : decode cX7_init 52 = .ok (.bipush 9, 2) := by decide +kernel
theorem dX7_init_54 : decode cX7_init 54 = .ok (.newarray .int, 2) := by decide +kernel
theorem dX7_init_56 : decode cX7_init 56 = .ok (.putfield 28, 3) := by decide +kernel
theorem dX7_init_59 : decode cX7_init 59 = .ok (.aload_n 0, 1) := by decide +kernel
theorem dX7_init_60 : decode cX7_init 60 = .ok (.bipush 9, 2) := by decide +kernel
theorem dX7_init_62 : decode cX7_init 62 = .ok (.newarray .int, 2) := by decide +kernel
theorem dX7_init_64 : decode cX7_init 64 = .ok (.putfield 31, 3) := by decide +kernel
theorem dX7_init_67 : decode cX7_init 67 = .ok (.aload_n 0, 1) := by decide +kernel
theorem dX7_init_68 : decode cX7_init 68 = .ok (.bipush 8, 2) := by decide +kernel
theorem dX7_init_70 : decode cX7_init 70 = .ok (.newarray .int, 2) := by decide +kernel
theorem dX7_init_72 : decode cX7_init 72 = .ok (.putfield 34, 3) := by decide +kernel
theorem dX7_init_75 : decode cX7_init 75 = .ok (.aload_n 0, 1) := by decide +kernel
theorem dX7_init_76 : decode cX7_init 76 = .ok (.bipush 8, 2) := by decide +kernel
theorem dX7_init_78 : decode cX7_init 78 = .ok (.newarray .int, 2) := by decide +kernel
theorem dX7_init_80 : decode cX7_init 80 = .ok (.putfield 37, 3) := by decide +kernel
theorem dX7_init_83 : decode cX7_init 83 = .ok (.aload_n 0, 1) := by decide +kernel
theorem dX7_init_84 : decode cX7_init 84 = .ok (.bipush 8, 2) := by decide +kernel
theorem dX7_init_86 : decode cX7_init 86 = .ok (.newarray .int, 2) := by decide +kernel
theorem dX7_init_88 : decode cX7_init 88 = .ok (.putfield 40, 3) := by decide +kernel
theorem dX7_init_91 : decode cX7_init 91 = .ok (.aload_n 0, 1) := by decide +kernel
theorem dX7_init_92 : decode cX7_init 92 = .ok (.bipush 12, 2) := by decide +kernel
theorem dX7_init_94 : decode cX7_init 94 = .ok (.newarray .int, 2) := by decide +kernel
theorem dX7_init_96 : decode cX7_init 96 = .ok (.putfield 43, 3) := by decide +kernel
theorem dX7_init_99 : decode cX7_init 99 = .ok (.aload_n 0, 1) := by decide +kernel
theorem dX7_init_100 : decode cX7_init 100 = .ok (.bipush 12, 2) := by decide +kernel
theorem dX7_init_102 : decode cX7_init 102 = .ok (.newarray .int, 2) := by decide +kernel
theorem dX7_init_104 : decode cX7_init 104 = .ok (.putfield 46, 3) := by decide +kernel
theorem dX7_init_107 : decode cX7_init 107 = .ok (.aload_n 0, 1) := by decide +kernel
theorem dX7_init_108 : decode cX7_init 108 = .ok (.bipush 12, 2) := by decide +kernel
theorem dX7_init_110 : decode cX7_init 110 = .ok (.newarray .int, 2) := by decide +kernel
theorem dX7_init_112 : decode cX7_init 112 = .ok (.putfield 49, 3) := by decide +kernel
theorem dX7_init_115 : decode cX7_init 115 = .ok (.aload_n 0, 1) := by decide +kernel
theorem dX7_init_116 : decode cX7_init 116 = .ok (.bipush 12, 2) := by decide +kernel
theorem dX7_init_118 : decode cX7_init 118 = .ok (.newarray .int, 2) := by decide +kernel
theorem dX7_init_120 : decode cX7_init 120 = .ok (.putfield 52, 3) := by decide +kernel
theorem dX7_init_123 : decode cX7_init 123 = .ok (.aload_n 0, 1) := by decide +kernel
theorem dX7_init_124 : decode cX7_init 124 = .ok (.bipush 12, 2) := by decide +kernel
theorem dX7_init_126 : decode cX7_init 126 = .ok (.newarray .int, 2) := by decide +kernel
theorem dX7_init_128 : decode cX7_init 128 = .ok (.putfield 55, 3) := by decide +kernel
theorem dX7_init_131 : decode cX7_init 131 = .ok (.aload_n 0, 1) := by decide +kernel
theorem dX7_init_132 : decode cX7_init 132 = .ok (.bipush 12, 2) := by decide +kernel
theorem dX7_init_134 : decode cX7_init 134 = .ok (.newarray .int, 2) := by decide +kernel
theorem dX7_init_136 : decode cX7_init 136 = .ok (.putfield 58, 3) := by decide +kernel
theorem dX7_init_139 : decode cX7_init 139 = .ok (.aload_n 0, 1) := by decide +kernel
theorem dX7_init_140 : decode cX7_init 140 = .ok (.bipush 12, 2) := by decide +kernel
theorem dX7_init_142 : decode cX7_init 142 = .ok (.newarray .int, 2) := by decide +kernel
theorem dX7_init_144 : decode cX7_init 144 = .ok (.putfield 61, 3) := by decide +kernel
theorem dX7_init_147 : decode cX7_init 147 = .ok (.aload_n 0, 1) := by decide +kernel
theorem dX7_init_148 : decode cX7_init 148 = .ok (.sipush 192, 3) := by decide +kernel
theorem dX7_init_151 : decode cX7_init 151 = .ok (.newarray .int, 2) := by decide +kernel
theorem dX7_init_153 : decode cX7_init 153 = .ok (.putfield 64, 3) := by decide +kernel
theorem dX7_init_156 : decode cX7_init 156 = .ok (.aload_n 0, 1) := by decide +kernel
theorem dX7_init_157 : decode cX7_init 157 = .ok (.sipush 192, 3) := by decide +kernel
theorem dX7_init_160 : decode cX7_init 160 = .ok (.newarray .int, 2) := by decide +kernel
theorem dX7_init_162 : decode cX7_init 162 = .ok (.putfield 67, 3) := by decide +kernel
theorem dX7_init_165 : decode cX7_init 165 = .ok (.aload_n 0, 1) := by decide +kernel
theorem dX7_init_166 : decode cX7_init 166 = .ok (.sipush 192, 3) := by decide +kernel
theorem dX7_init_169 : decode cX7_init 169 = .ok (.newarray .int, 2) := by decide +kernel
theorem dX7_init_171 : decode cX7_init 171 = .ok (.putfield 70, 3) := by decide +kernel
theorem dX7_init_174 : decode cX7_init 174 = .ok (.aload_n 0, 1) := by decide +kernel
theorem dX7_init_175 : decode cX7_init 175 = .ok (.bipush 24, 2) := by decide +kernel
theorem dX7_init_177 : decode cX7_init 177 = .ok (.newarray .int, 2) := by decide +kernel
theorem dX7_init_179 : decode cX7_init 179 = .ok (.putfield 73, 3) := by decide +kernel
theorem dX7_init_182 : decode cX7_init 182 = .ok (.aload_n 0, 1) := by decide +kernel
theorem dX7_init_183 : decode cX7_init 183 = .ok (.bipush 12, 2) := by decide +kernel
theorem dX7_init_185 : decode cX7_init 185 = .ok (.newarray .int, 2) := by decide +kernel
theorem dX7_init_187 : decode cX7_init 187 = .ok (.putfield 76, 3) := by decide +kernel
theorem dX7_init_190 : decode cX7_init 190 = .ok (.aload_n 0, 1) := by decide +kernel
theorem dX7_init_191 : decode cX7_init 191 = .ok (.iconst 2, 1) := by decide +kernel
theorem dX7_init_192 : decode cX7_init 192 = .ok (.newarray .int, 2) := by decide +kernel
theorem dX7_init_194 : decode cX7_init 194 = .ok (.putfield 79, 3) := by decide +kernel
theorem dX7_init_197 : decode cX7_init 197 = .ok (.aload_n 0, 1) := by decide +kernel
theorem dX7_init_198 : decode cX7_init 198 = .ok (.bipush 8, 2) := by decide +kernel
theorem dX7_init_200 : decode cX7_init 200 = .ok (.newarray .int, 2) := by decide +kernel
theorem dX7_init_202 : decode cX7_init 202 = .ok (.putfield 82, 3) := by decide +kernel
theorem dX7_init_205 : decode cX7_init 205 = .ok (.aload_n 0, 1) := by decide +kernel
theorem dX7_init_206 : decode cX7_init 206 = .ok (.bipush 8, 2) := by decide +kernel
theorem dX7_init_208 : decode cX7_init 208 = .ok (.newarray .int, 2) := by decide +kernel
theorem dX7_init_210 : decode cX7_init 210 = .ok (.putfield 85, 3) := by decide +kernel
theorem dX7_init_213 : decode cX7_init 213 = .ok (.aload_n 0, 1) := by decide +kernel
theorem dX7_init_214 : decode cX7_init 214 = .ok (.bipush 10, 2) := by decide +kernel
theorem dX7_init_216 : decode cX7_init 216 = .ok (.newarray .int, 2) := by decide +kernel
theorem dX7_init_218 : decode cX7_init 218 = .ok (.putfield 88, 3) := by decide +kernel
theorem dX7_init_221 : decode cX7_init 221 = .ok (.aload_n 0, 1) := by decide +kernel
theorem dX7_init_222 : decode cX7_init 222 = .ok (.iconst 4, 1) := by decide +kernel
theorem dX7_init_223 : decode cX7_init 223 = .ok (.newarray .boolean, 2) := by decide +kernel
theorem dX7_init_225 : decode cX7_init 225 = .ok (.putfield 91, 3) := by decide +kernel
theorem dX7_init_228 : decode cX7_init 228 = .ok (.aload_n 0, 1) := by decide +kernel
theorem dX7_init_229 : decode cX7_init 229 = .ok (.iconst 4, 1) := by decide +kernel
theorem dX7_init_230 : decode cX7_init 230 = .ok (.newarray .int, 2) := by decide +kernel
theorem dX7_init_232 : decode cX7_init 232 = .ok (.putfield 95, 3) := by decide +kernel
theorem dX7_init_235 : decode cX7_init 235 = .ok (.aload_n 0, 1) := by decide +kernel
theorem dX7_init_236 : decode cX7_init 236 = .ok (.iconst 4, 1) := by decide +kernel
theorem dX7_init_237 : decode cX7_init 237 = .ok (.newarray .int, 2) := by decide +kernel
theorem dX7_init_239 : decode cX7_init 239 = .ok (.putfield 98, 3) := by decide +kernel
theorem dX7_init_242 : decode cX7_init 242 = .ok (.aload_n 0, 1) := by decide +kernel
theorem dX7_init_243 : decode cX7_init 243 = .ok (.sipush 240, 3) := by decide +kernel
theorem dX7_init_246 : decode cX7_init 246 = .ok (.newarray .int, 2) := by decide +kernel
theorem dX7_init_248 : decode cX7_init 248 = .ok (.putfield 101, 3) := by decide +kernel
theorem dX7_init_251 : decode cX7_init 251 = .ok (.aload_n 0, 1) := by decide +kernel
theorem dX7_init_252 : decode cX7_init 252 = .ok (.bipush 60, 2) := by decide +kernel
theorem dX7_init_254 : decode cX7_init 254 = .ok (.newarray .int, 2) := by decide +kernel
theorem dX7_init_256 : decode cX7_init 256 = .ok (.putfield 104, 3) := by decide +kernel
theorem dX7_init_259 : decode cX7_init 259 = .ok (.aload_n 0, 1) := by decide +kernel
theorem dX7_init_260 : decode cX7_init 260 = .ok (.bipush 6, 2) := by decide +kernel
theorem dX7_init_262 : decode cX7_init 262 = .ok (.putfield 107, 3) := by decide +kernel
theorem dX7_init_265 : decode cX7_init 265 = .ok (.return_, 1) := by decide +kernel
theorem dX7_in_0 : decode cX7_in 0 = .ok (.iload_n 0, 1) := by decide +kernel
theorem dX7_in_1 : decode cX7_in 1 = .ok (.iload_n 1, 1) := by decide +kernel
theorem dX7_in_2 : decode cX7_in 2 = .ok (.if_icmp .lt 12, 3) := by decide +kernel
theorem dX7_in_5 : decode cX7_in 5 = .ok (.iload_n 0, 1) := by decide +kernel
theorem dX7_in_6 : decode cX7_in 6 = .ok (.iload_n 2, 1) := by decide +kernel
theorem dX7_in_7 : decode cX7_in 7 = .ok (.if_icmp .gt 7, 3) := by decide +kernel
theorem dX7_in_10 : decode cX7_in 10 = .ok (.iconst 1, 1) := by decide +kernel
theorem dX7_in_11 : decode cX7_in 11 = .ok (.goto 4, 3) := by decide +kernel
theorem dX7_in_14 : decode cX7_in 14 = .ok (.iconst 0, 1) := by decide +kernel
theorem dX7_in_15 : decode cX7_in 15 = .ok (.ireturn, 1) := by decide +kernel
theorem dX7_isIn_0 : decode cX7_isIn 0 = .ok (.iload_n 0, 1) := by decide +kernel
theorem dX7_isIn_1 : decode cX7_isIn 1 = .ok (.iload_n 1, 1) := by decide +kernel
theorem dX7_isIn_2 : decode cX7_isIn 2 = .ok (.ishr, 1) := by decide +kernel
theorem dX7_isIn_3 : decode cX7_isIn 3 = .ok (.iconst 1, 1) := by decide +kernel
theorem dX7_isIn_4 : decode cX7_isIn 4 = .ok (.iand, 1) := by decide +kernel
theorem dX7_isIn_5 : decode cX7_isIn 5 = .ok (.iconst 1, 1) := by decide +kernel
theorem dX7_isIn_6 : decode cX7_isIn 6 = .ok (.if_icmp .ne 7, 3) := by decide +kernel
theorem dX7_isIn_9 : decode cX7_isIn 9 = .ok (.iconst 1, 1) := by decide +kernel
theorem dX7_isIn_10 : decode cX7_isIn 10 = .ok (.goto 4, 3) := by decide +kernel
theorem dX7_isIn_13 : decode cX7_isIn 13 = .ok (.iconst 0, 1) := by decide +kernel
theorem dX7_isIn_14 : decode cX7_isIn 14 = .ok (.ireturn, 1) := by decide +kernel
theorem dX7_no_0 : decode cX7_no 0 = .ok (.ldc2_w 111, 3) := by decide +kernel
theorem dX7_no_3 : decode cX7_no 3 = .ok (.iload_n 0, 1) := by decide +kernel
theorem dX7_no_4 : decode cX7_no 4 = .ok (.i2l, 1) := by decide +kernel
theorem dX7_no_5 : decode cX7_no 5 = .ok (.lsub, 1) := by decide +kernel
theorem dX7_no_6 : decode cX7_no 6 = .ok (.lreturn, 1) := by decide +kernel
theorem dX7_lowest_0 : decode cX7_lowest 0 = .ok (.lload_n 0, 1) := by decide +kernel
theorem dX7_lowest_1 : decode cX7_lowest 1 = .ok (.lstore 5, 2) := by decide +kernel
theorem dX7_lowest_3 : decode cX7_lowest 3 = .ok (.lload_n 2, 1) := by decide +kernel
theorem dX7_lowest_4 : decode cX7_lowest 4 = .ok (.lstore 7, 2) := by decide +kernel
theorem dX7_lowest_6 : decode cX7_lowest 6 = .ok (.lload 7, 2) := by decide +kernel
theorem dX7_lowest_8 : decode cX7_lowest 8 = .ok (.lconst 0, 1) := by decide +kernel
theorem dX7_lowest_9 : decode cX7_lowest 9 = .ok (.lcmp, 1) := by decide +kernel
theorem dX7_lowest_10 : decode cX7_lowest 10 = .ok (.ifCond .eq 21, 3) := by decide +kernel
theorem dX7_lowest_13 : decode cX7_lowest 13 = .ok (.lload 5, 2) := by decide +kernel
theorem dX7_lowest_15 : decode cX7_lowest 15 = .ok (.lload 7, 2) := by decide +kernel
theorem dX7_lowest_17 : decode cX7_lowest 17 = .ok (.lrem, 1) := by decide +kernel
theorem dX7_lowest_18 : decode cX7_lowest 18 = .ok (.lstore 9, 2) := by decide +kernel
theorem dX7_lowest_20 : decode cX7_lowest 20 = .ok (.lload 7, 2) := by decide +kernel
theorem dX7_lowest_22 : decode cX7_lowest 22 = .ok (.lstore 5, 2) := by decide +kernel
theorem dX7_lowest_24 : decode cX7_lowest 24 = .ok (.lload 9, 2) := by decide +kernel
theorem dX7_lowest_26 : decode cX7_lowest 26 = .ok (.lstore 7, 2) := by decide +kernel
theorem dX7_lowest_28 : decode cX7_lowest 28 = .ok (.goto (-22), 3) := by decide +kernel
theorem dX7_lowest_31 : decode cX7_lowest 31 = .ok (.iload 4, 2) := by decide +kernel
theorem dX7_lowest_33 : decode cX7_lowest 33 = .ok (.ifCond .ne 10, 3) := by decide +kernel
theorem dX7_lowest_36 : decode cX7_lowest 36 = .ok (.lload_n 0, 1) := by decide +kernel
theorem dX7_lowest_37 : decode cX7_lowest 37 = .ok (.lload 5, 2) := by decide +kernel
theorem dX7_lowest_39 : decode cX7_lowest 39 = .ok (.ldiv, 1) := by decide +kernel
theorem dX7_lowest_40 : decode cX7_lowest 40 = .ok (.goto 7, 3) := by decide +kernel
theorem dX7_lowest_43 : decode cX7_lowest 43 = .ok (.lload_n 2, 1) := by decide +kernel
theorem dX7_lowest_44 : decode cX7_lowest 44 = .ok (.lload 5, 2) := by decide +kernel
theorem dX7_lowest_46 : decode cX7_lowest 46 = .ok (.ldiv, 1) := by decide +kernel
theorem dX7_lowest_47 : decode cX7_lowest 47 = .ok (.lreturn, 1) := by decide +kernel
theorem dX7_isTwo_0 : decode cX7_isTwo 0 = .ok (.iload_n 0, 1) := by decide +kernel
theorem dX7_isTwo_1 : decode cX7_isTwo 1 = .ok (.iconst 0, 1) := by decide +kernel
theorem dX7_isTwo_2 : decode cX7_isTwo 2 = .ok (.iconst 1, 1) := by decide +kernel
theorem dX7_isTwo_3 : decode cX7_isTwo 3 = .ok (.invokestatic 113, 3) := by decide +kernel
theorem dX7_isTwo_6 : decode cX7_isTwo 6 = .ok (.ireturn, 1) := by decide +kernel
theorem dX7_isThree_0 : decode cX7_isThree 0 = .ok (.iload_n 0, 1) := by decide +kernel
theorem dX7_isThree_1 : decode cX7_isThree 1 = .ok (.iconst 0, 1) := by decide +kernel
theorem dX7_isThree_2 : decode cX7_isThree 2 = .ok (.iconst 2, 1) := by decide +kernel
theorem dX7_isThree_3 : decode cX7_isThree 3 = .ok (.invokestatic 113, 3) := by decide +kernel
theorem dX7_isThree_6 : decode cX7_isThree 6 = .ok (.ireturn, 1) := by decide +kernel
theorem dX7_isNight_0 : decode cX7_isNight 0 = .ok (.iload_n 0, 1) := by decide +kernel
theorem dX7_isNight_1 : decode cX7_isNight 1 = .ok (.iconst 0, 1) := by decide +kernel
theorem dX7_isNight_2 : decode cX7_isNight 2 = .ok (.bipush 23, 2) := by decide +kernel
theorem dX7_isNight_4 : decode cX7_isNight 4 = .ok (.invokestatic 113, 3) := by decide +kernel
theorem dX7_isNight_7 : decode cX7_isNight 7 = .ok (.ireturn, 1) := by decide +kernel
theorem dX7_isTown_0 : decode cX7_isTown 0 = .ok (.iload_n 0, 1) := by decide +kernel
theorem dX7_isTown_1 : decode cX7_isTown 1 = .ok (.iconst 0, 1) := by decide +kernel
theorem dX7_isTown_2 : decode cX7_isTown 2 = .ok (.bipush 7, 2) := by decide +kernel
theorem dX7_isTown_4 : decode cX7_isTown 4 = .ok (.invokestatic 113, 3) := by decide +kernel
theorem dX7_isTown_7 : decode cX7_isTown 7 = .ok (.ireturn, 1) := by decide +kernel
theorem dX7_type_0 : decode cX7_type 0 = .ok (.iload_n 1, 1) := by decide +kernel
theorem dX7_type_1 : decode cX7_type 1 = .ok (.invokestatic 117, 3) := by decide +kernel
theorem dX7_type_4 : decode cX7_type 4 = .ok (.ifCond .eq 14, 3) := by decide +kernel
theorem dX7_type_7 : decode cX7_type 7 = .ok (.iload_n 2, 1) := by decide +kernel
theorem dX7_type_8 : decode cX7_type 8 = .ok (.iconst 0, 1) := by decide +kernel
theorem dX7_type_9 : decode cX7_type 9 = .ok (.sipush 255, 3) := by decide +kernel
theorem dX7_type_12 : decode cX7_type 12 = .ok (.invokestatic 113, 3) := by decide +kernel
theorem dX7_type_15 : decode cX7_type 15 = .ok (.ifCond .ne 6, 3) := by decide +kernel
theorem dX7_type_18 : decode cX7_type 18 = .ok (.bipush (-2), 2) := by decide +kernel
theorem dX7_type_20 : decode cX7_type 20 = .ok (.ireturn, 1) := by decide +kernel
theorem dX7_type_21 : decode cX7_type 21 = .ok (.aload_n 0, 1) := by decide +kernel
theorem dX7_type_22 : decode cX7_type 22 = .ok (.getfield 7, 3) := by decide +kernel
theorem dX7_type_25 : decode cX7_type 25 = .ok (.iload_n 1, 1) := by decide +kernel
theorem dX7_type_26 : decode cX7_type 26 = .ok (.iaload, 1) := by decide +kernel
theorem dX7_type_27 : decode cX7_type 27 = .ok (.iload_n 1, 1) := by decide +kernel
theorem dX7_type_28 : decode cX7_type 28 = .ok (.ifCond .ne 8, 3) := by decide +kernel
theorem dX7_type_31 : decode cX7_type 31 = .ok (.bipush 59, 2) := by decide +kernel
theorem dX7_type_33 : decode cX7_type 33 = .ok (.goto 5, 3) := by decide +kernel
theorem dX7_type_36 : decode cX7_type 36 = .ok (.bipush 23, 2) := by decide +kernel
theorem dX7_type_38 : decode cX7_type 38 = .ok (.if_icmp .ne 6, 3) := by decide +kernel
theorem dX7_type_41 : decode cX7_type 41 = .ok (.bipush (-4), 2) := by decide +kernel
theorem dX7_type_43 : decode cX7_type 43 = .ok (.ireturn, 1) := by decide +kernel
theorem dX7_type_44 : decode cX7_type 44 = .ok (.aload_n 0, 1) := by decide +kernel
theorem dX7_type_45 : decode cX7_type 45 = .ok (.getfield 13, 3) := by decide +kernel
theorem dX7_type_48 : decode cX7_type 48 = .ok (.bipush 59, 2) := by decide +kernel
theorem dX7_type_50 : decode cX7_type 50 = .ok (.iload_n 1, 1) := by decide +kernel
theorem dX7_type_51 : decode cX7_type 51 = .ok (.imul, 1) := by decide +kernel
theorem dX7_type_52 : decode cX7_type 52 = .ok (.aload_n 0, 1) := by decide +kernel
theorem dX7_type_53 : decode cX7_type 53 = .ok (.getfield 7, 3) := by decide +kernel
theorem dX7_type_56 : decode cX7_type 56 = .ok (.iload_n 1, 1) := by decide +kernel
theorem dX7_type_57 : decode cX7_type 57 = .ok (.iaload, 1) := by decide +kernel
theorem dX7_type_58 : decode cX7_type 58 = .ok (.iadd, 1) := by decide +kernel
theorem dX7_type_59 : decode cX7_type 59 = .ok (.iload_n 2, 1) := by decide +kernel
theorem dX7_type_60 : decode cX7_type 60 = .ok (.iastore, 1) := by decide +kernel
theorem dX7_type_61 : decode cX7_type 61 = .ok (.aload_n 0, 1) := by decide +kernel
theorem dX7_type_62 : decode cX7_type 62 = .ok (.getfield 7, 3) := by decide +kernel
theorem dX7_type_65 : decode cX7_type 65 = .ok (.iload_n 1, 1) := by decide +kernel
theorem dX7_type_66 : decode cX7_type 66 = .ok (.dup2, 1) := by decide +kernel
theorem dX7_type_67 : decode cX7_type 67 = .ok (.iaload, 1) := by decide +kernel
theorem dX7_type_68 : decode cX7_type 68 = .ok (.iconst 1, 1) := by decide +kernel
theorem dX7_type_69 : decode cX7_type 69 = .ok (.iadd, 1) := by decide +kernel
theorem dX7_type_70 : decode cX7_type 70 = .ok (.iastore, 1) := by decide +kernel
theorem dX7_type_71 : decode cX7_type 71 = .ok (.aload_n 0, 1) := by decide +kernel
theorem dX7_type_72 : decode cX7_type 72 = .ok (.getfield 7, 3) := by decide +kernel
theorem dX7_type_75 : decode cX7_type 75 = .ok (.iload_n 1, 1) := by decide +kernel
theorem dX7_type_76 : decode cX7_type 76 = .ok (.iaload, 1) := by decide +kernel
theorem dX7_type_77 : decode cX7_type 77 = .ok (.ireturn, 1) := by decide +kernel
theorem dX7_wipe_0 : decode cX7_wipe 0 = .ok (.iload_n 1, 1) := by decide +kernel
theorem dX7_wipe_1 : decode cX7_wipe 1 = .ok (.invokestatic 117, 3) := by decide +kernel
theorem dX7_wipe_4 : decode cX7_wipe 4 = .ok (.ifCond .ne 6, 3) := by decide +kernel
theorem dX7_wipe_7 : decode cX7_wipe 7 = .ok (.bipush (-2), 2) := by decide +kernel
theorem dX7_wipe_9 : decode cX7_wipe 9 = .ok (.ireturn, 1) := by decide +kernel
theorem dX7_wipe_10 : decode cX7_wipe 10 = .ok (.aload_n 0, 1) := by decide +kernel
theorem dX7_wipe_11 : decode cX7_wipe 11 = .ok (.getfield 7, 3) := by decide +kernel
theorem dX7_wipe_14 : decode cX7_wipe 14 = .ok (.iload_n 1, 1) := by decide +kernel
theorem dX7_wipe_15 : decode cX7_wipe 15 = .ok (.iaload, 1) := by decide +kernel
theorem dX7_wipe_16 : decode cX7_wipe 16 = .ok (.istore_n 2, 1) := by decide +kernel
theorem dX7_wipe_17 : decode cX7_wipe 17 = .ok (.aload_n 0, 1) := by decide +kernel
theorem dX7_wipe_18 : decode cX7_wipe 18 = .ok (.getfield 7, 3) := by decide +kernel
theorem dX7_wipe_21 : decode cX7_wipe 21 = .ok (.iload_n 1, 1) := by decide +kernel
theorem dX7_wipe_22 : decode cX7_wipe 22 = .ok (.iconst 0, 1) := by decide +kernel
theorem dX7_wipe_23 : decode cX7_wipe 23 = .ok (.iastore, 1) := by decide +kernel
theorem dX7_wipe_24 : decode cX7_wipe 24 = .ok (.iload_n 2, 1) := by decide +kernel
theorem dX7_wipe_25 : decode cX7_wipe 25 = .ok (.ireturn, 1) := by decide +kernel
theorem dX7_undo_0 : decode cX7_undo 0 = .ok (.iload_n 1, 1) := by decide +kernel
theorem dX7_undo_1 : decode cX7_undo 1 = .ok (.invokestatic 117, 3) := by decide +kernel
theorem dX7_undo_4 : decode cX7_undo 4 = .ok (.ifCond .ne 6, 3) := by decide +kernel
theorem dX7_undo_7 : decode cX7_undo 7 = .ok (.bipush (-2), 2) := by decide +kernel
theorem dX7_undo_9 : decode cX7_undo 9 = .ok (.ireturn, 1) := by decide +kernel
theorem dX7_undo_10 : decode cX7_undo 10 = .ok (.aload_n 0, 1) := by decide +kernel
theorem dX7_undo_11 : decode cX7_undo 11 = .ok (.getfield 7, 3) := by decide +kernel
theorem dX7_undo_14 : decode cX7_undo 14 = .ok (.iload_n 1, 1) := by decide +kernel
theorem dX7_undo_15 : decode cX7_undo 15 = .ok (.iaload, 1) := by decide +kernel
theorem dX7_undo_16 : decode cX7_undo 16 = .ok (.ifCond .ne 6, 3) := by decide +kernel
theorem dX7_undo_19 : decode cX7_undo 19 = .ok (.bipush (-3), 2) := by decide +kernel
theorem dX7_undo_21 : decode cX7_undo 21 = .ok (.ireturn, 1) := by decide +kernel
theorem dX7_undo_22 : decode cX7_undo 22 = .ok (.aload_n 0, 1) := by decide +kernel
theorem dX7_undo_23 : decode cX7_undo 23 = .ok (.getfield 7, 3) := by decide +kernel
theorem dX7_undo_26 : decode cX7_undo 26 = .ok (.iload_n 1, 1) := by decide +kernel
theorem dX7_undo_27 : decode cX7_undo 27 = .ok (.dup2, 1) := by decide +kernel
theorem dX7_undo_28 : decode cX7_undo 28 = .ok (.iaload, 1) := by decide +kernel
theorem dX7_undo_29 : decode cX7_undo 29 = .ok (.iconst 1, 1) := by decide +kernel
theorem dX7_undo_30 : decode cX7_undo 30 = .ok (.isub, 1) := by decide +kernel
theorem dX7_undo_31 : decode cX7_undo 31 = .ok (.iastore, 1) := by decide +kernel
theorem dX7_undo_32 : decode cX7_undo 32 = .ok (.aload_n 0, 1) := by decide +kernel
theorem dX7_undo_33 : decode cX7_undo 33 = .ok (.getfield 7, 3) := by decide +kernel
theorem dX7_undo_36 : decode cX7_undo 36 = .ok (.iload_n 1, 1) := by decide +kernel
theorem dX7_undo_37 : decode cX7_undo 37 = .ok (.iaload, 1) := by decide +kernel
theorem dX7_undo_38 : decode cX7_undo 38 = .ok (.ireturn, 1) := by decide +kernel
theorem dX7_byteAt_0 : decode cX7_byteAt 0 = .ok (.iload_n 2, 1) := by decide +kernel
theorem dX7_byteAt_1 : decode cX7_byteAt 1 = .ok (.aload_n 0, 1) := by decide +kernel
theorem dX7_byteAt_2 : decode cX7_byteAt 2 = .ok (.getfield 7, 3) := by decide +kernel
theorem dX7_byteAt_5 : decode cX7_byteAt 5 = .ok (.iload_n 1, 1) := by decide +kernel
theorem dX7_byteAt_6 : decode cX7_byteAt 6 = .ok (.iaload, 1) := by decide +kernel
theorem dX7_byteAt_7 : decode cX7_byteAt 7 = .ok (.if_icmp .ge 17, 3) := by decide +kernel
theorem dX7_byteAt_10 : decode cX7_byteAt 10 = .ok (.aload_n 0, 1) := by decide +kernel
theorem dX7_byteAt_11 : decode cX7_byteAt 11 = .ok (.getfield 13, 3) := by decide +kernel
theorem dX7_byteAt_14 : decode cX7_byteAt 14 = .ok (.bipush 59, 2) := by decide +kernel
theorem dX7_byteAt_16 : decode cX7_byteAt 16 = .ok (.iload_n 1, 1) := by decide +kernel
theorem dX7_byteAt_17 : decode cX7_byteAt 17 = .ok (.imul, 1) := by decide +kernel
theorem dX7_byteAt_18 : decode cX7_byteAt 18 = .ok (.iload_n 2, 1) := by decide +kernel
theorem dX7_byteAt_19 : decode cX7_byteAt 19 = .ok (.iadd, 1) := by decide +kernel
theorem dX7_byteAt_20 : decode cX7_byteAt 20 = .ok (.iaload, 1) := by decide +kernel
theorem dX7_byteAt_21 : decode cX7_byteAt 21 = .ok (.goto 4, 3) := by decide +kernel
theorem dX7_byteAt_24 : decode cX7_byteAt 24 = .ok (.iconst (-1), 1) := by decide +kernel
theorem dX7_byteAt_25 : decode cX7_byteAt 25 = .ok (.ireturn, 1) := by decide +kernel
theorem dX7_sortOf_0 : decode cX7_sortOf 0 = .ok (.iload_n 0, 1) := by decide +kernel
theorem dX7_sortOf_1 : decode cX7_sortOf 1 = .ok (.bipush 115, 2) := by decide +kernel
theorem dX7_sortOf_3 : decode cX7_sortOf 3 = .ok (.if_icmp .ne 7, 3) := by decide +kernel
theorem dX7_sortOf_6 : decode cX7_sortOf 6 = .ok (.iconst 0, 1) := by decide +kernel
theorem dX7_sortOf_7 : decode cX7_sortOf 7 = .ok (.goto 24, 3) := by decide +kernel
theorem dX7_sortOf_10 : decode cX7_sortOf 10 = .ok (.iload_n 0, 1) := by decide +kernel
theorem dX7_sortOf_11 : decode cX7_sortOf 11 = .ok (.bipush 100, 2) := by decide +kernel
theorem dX7_sortOf_13 : decode cX7_sortOf 13 = .ok (.if_icmp .ne 7, 3) := by decide +kernel
theorem dX7_sortOf_16 : decode cX7_sortOf 16 = .ok (.iconst 1, 1) := by decide +kernel
theorem dX7_sortOf_17 : decode cX7_sortOf 17 = .ok (.goto 14, 3) := by decide +kernel
theorem dX7_sortOf_20 : decode cX7_sortOf 20 = .ok (.iload_n 0, 1) := by decide +kernel
theorem dX7_sortOf_21 : decode cX7_sortOf 21 = .ok (.bipush 107, 2) := by decide +kernel
theorem dX7_sortOf_23 : decode cX7_sortOf 23 = .ok (.if_icmp .ne 7, 3) := by decide +kernel
theorem dX7_sortOf_26 : decode cX7_sortOf 26 = .ok (.iconst 2, 1) := by decide +kernel
theorem dX7_sortOf_27 : decode cX7_sortOf 27 = .ok (.goto 4, 3) := by decide +kernel
theorem dX7_sortOf_30 : decode cX7_sortOf 30 = .ok (.iconst (-1), 1) := by decide +kernel
theorem dX7_sortOf_31 : decode cX7_sortOf 31 = .ok (.ireturn, 1) := by decide +kernel
theorem dX7_readsTale_0 : decode cX7_readsTale 0 = .ok (.aload_n 0, 1) := by decide +kernel
theorem dX7_readsTale_1 : decode cX7_readsTale 1 = .ok (.iconst 0, 1) := by decide +kernel
theorem dX7_readsTale_2 : decode cX7_readsTale 2 = .ok (.iload_n 2, 1) := by decide +kernel
theorem dX7_readsTale_3 : decode cX7_readsTale 3 = .ok (.invokevirtual 121, 3) := by decide +kernel
theorem dX7_readsTale_6 : decode cX7_readsTale 6 = .ok (.bipush 97, 2) := by decide +kernel
theorem dX7_readsTale_8 : decode cX7_readsTale 8 = .ok (.isub, 1) := by decide +kernel
theorem dX7_readsTale_9 : decode cX7_readsTale 9 = .ok (.istore_n 3, 1) := by decide +kernel
theorem dX7_readsTale_10 : decode cX7_readsTale 10 = .ok (.aload_n 0, 1) := by decide +kernel
theorem dX7_readsTale_11 : decode cX7_readsTale 11 = .ok (.iconst 0, 1) := by decide +kernel
theorem dX7_readsTale_12 : decode cX7_readsTale 12 = .ok (.iload_n 2, 1) := by decide +kernel
theorem dX7_readsTale_13 : decode cX7_readsTale 13 = .ok (.iconst 1, 1) := by decide +kernel
theorem dX7_readsTale_14 : decode cX7_readsTale 14 = .ok (.iadd, 1) := by decide +kernel
theorem dX7_readsTale_15 : decode cX7_readsTale 15 = .ok (.invokevirtual 121, 3) := by decide +kernel
theorem dX7_readsTale_18 : decode cX7_readsTale 18 = .ok (.bipush 48, 2) := by decide +kernel
theorem dX7_readsTale_20 : decode cX7_readsTale 20 = .ok (.isub, 1) := by decide +kernel
theorem dX7_readsTale_21 : decode cX7_readsTale 21 = .ok (.istore 4, 2) := by decide +kernel
theorem dX7_readsTale_23 : decode cX7_readsTale 23 = .ok (.aload_n 0, 1) := by decide +kernel
theorem dX7_readsTale_24 : decode cX7_readsTale 24 = .ok (.iconst 0, 1) := by decide +kernel
theorem dX7_readsTale_25 : decode cX7_readsTale 25 = .ok (.iload_n 2, 1) := by decide +kernel
theorem dX7_readsTale_26 : decode cX7_readsTale 26 = .ok (.iconst 2, 1) := by decide +kernel
theorem dX7_readsTale_27 : decode cX7_readsTale 27 = .ok (.iadd, 1) := by decide +kernel
theorem dX7_readsTale_28 : decode cX7_readsTale 28 = .ok (.invokevirtual 121, 3) := by decide +kernel
theorem dX7_readsTale_31 : decode cX7_readsTale 31 = .ok (.bipush 48, 2) := by decide +kernel
theorem dX7_readsTale_33 : decode cX7_readsTale 33 = .ok (.isub, 1) := by decide +kernel
theorem dX7_readsTale_34 : decode cX7_readsTale 34 = .ok (.istore 5, 2) := by decide +kernel
theorem dX7_readsTale_36 : decode cX7_readsTale 36 = .ok (.aload_n 0, 1) := by decide +kernel
theorem dX7_readsTale_37 : decode cX7_readsTale 37 = .ok (.iconst 0, 1) := by decide +kernel
theorem dX7_readsTale_38 : decode cX7_readsTale 38 = .ok (.iload_n 2, 1) := by decide +kernel
theorem dX7_readsTale_39 : decode cX7_readsTale 39 = .ok (.iconst 3, 1) := by decide +kernel
theorem dX7_readsTale_40 : decode cX7_readsTale 40 = .ok (.iadd, 1) := by decide +kernel
theorem dX7_readsTale_41 : decode cX7_readsTale 41 = .ok (.invokevirtual 121, 3) := by decide +kernel
theorem dX7_readsTale_44 : decode cX7_readsTale 44 = .ok (.invokestatic 125, 3) := by decide +kernel
theorem dX7_readsTale_47 : decode cX7_readsTale 47 = .ok (.istore 6, 2) := by decide +kernel
theorem dX7_readsTale_49 : decode cX7_readsTale 49 = .ok (.iload_n 1, 1) := by decide +kernel
theorem dX7_readsTale_50 : decode cX7_readsTale 50 = .ok (.bipush 12, 2) := by decide +kernel
theorem dX7_readsTale_52 : decode cX7_readsTale 52 = .ok (.if_icmp .eq 10, 3) := by decide +kernel
theorem dX7_readsTale_55 : decode cX7_readsTale 55 = .ok (.iload_n 3, 1) := by decide +kernel
theorem dX7_readsTale_56 : decode cX7_readsTale 56 = .ok (.invokestatic 129, 3) := by decide +kernel
theorem dX7_readsTale_59 : decode cX7_readsTale 59 = .ok (.ifCond .ne 5, 3) := by decide +kernel
theorem dX7_readsTale_62 : decode cX7_readsTale 62 = .ok (.iconst 0, 1) := by decide +kernel
theorem dX7_readsTale_63 : decode cX7_readsTale 63 = .ok (.ireturn, 1) := by decide +kernel
theorem dX7_readsTale_64 : decode cX7_readsTale 64 = .ok (.iload 4, 2) := by decide +kernel
theorem dX7_readsTale_66 : decode cX7_readsTale 66 = .ok (.invokestatic 132, 3) := by decide +kernel
theorem dX7_readsTale_69 : decode cX7_readsTale 69 = .ok (.ifCond .ne 5, 3) := by decide +kernel
theorem dX7_readsTale_72 : decode cX7_readsTale 72 = .ok (.iconst 1, 1) := by decide +kernel
theorem dX7_readsTale_73 : decode cX7_readsTale 73 = .ok (.ireturn, 1) := by decide +kernel
theorem dX7_readsTale_74 : decode cX7_readsTale 74 = .ok (.iload 5, 2) := by decide +kernel
theorem dX7_readsTale_76 : decode cX7_readsTale 76 = .ok (.iconst 0, 1) := by decide +kernel
theorem dX7_readsTale_77 : decode cX7_readsTale 77 = .ok (.bipush 9, 2) := by decide +kernel
theorem dX7_readsTale_79 : decode cX7_readsTale 79 = .ok (.invokestatic 113, 3) := by decide +kernel
theorem dX7_readsTale_82 : decode cX7_readsTale 82 = .ok (.ifCond .ne 5, 3) := by decide +kernel
theorem dX7_readsTale_85 : decode cX7_readsTale 85 = .ok (.iconst 2, 1) := by decide +kernel
theorem dX7_readsTale_86 : decode cX7_readsTale 86 = .ok (.ireturn, 1) := by decide +kernel
theorem dX7_readsTale_87 : decode cX7_readsTale 87 = .ok (.iload 6, 2) := by decide +kernel
theorem dX7_readsTale_89 : decode cX7_readsTale 89 = .ok (.iconst (-1), 1) := by decide +kernel
theorem dX7_readsTale_90 : decode cX7_readsTale 90 = .ok (.if_icmp .ne 5, 3) := by decide +kernel
theorem dX7_readsTale_93 : decode cX7_readsTale 93 = .ok (.iconst 3, 1) := by decide +kernel
theorem dX7_readsTale_94 : decode cX7_readsTale 94 = .ok (.ireturn, 1) := by decide +kernel
theorem dX7_readsTale_95 : decode cX7_readsTale 95 = .ok (.aload_n 0, 1) := by decide +kernel
theorem dX7_readsTale_96 : decode cX7_readsTale 96 = .ok (.getfield 16, 3) := by decide +kernel
theorem dX7_readsTale_99 : decode cX7_readsTale 99 = .ok (.iload_n 1, 1) := by decide +kernel
theorem dX7_readsTale_100 : decode cX7_readsTale 100 = .ok (.iload_n 3, 1) := by decide +kernel
theorem dX7_readsTale_101 : decode cX7_readsTale 101 = .ok (.iastore, 1) := by decide +kernel
theorem dX7_readsTale_102 : decode cX7_readsTale 102 = .ok (.aload_n 0, 1) := by decide +kernel
theorem dX7_readsTale_103 : decode cX7_readsTale 103 = .ok (.getfield 19, 3) := by decide +kernel
theorem dX7_readsTale_106 : decode cX7_readsTale 106 = .ok (.iload_n 1, 1) := by decide +kernel
theorem dX7_readsTale_107 : decode cX7_readsTale 107 = .ok (.iload 4, 2) := by decide +kernel
theorem dX7_readsTale_109 : decode cX7_readsTale 109 = .ok (.iastore, 1) := by decide +kernel
theorem dX7_readsTale_110 : decode cX7_readsTale 110 = .ok (.aload_n 0, 1) := by decide +kernel
theorem dX7_readsTale_111 : decode cX7_readsTale 111 = .ok (.getfield 22, 3) := by decide +kernel
theorem dX7_readsTale_114 : decode cX7_readsTale 114 = .ok (.iload_n 1, 1) := by decide +kernel
theorem dX7_readsTale_115 : decode cX7_readsTale 115 = .ok (.iload 5, 2) := by decide +kernel
theorem dX7_readsTale_117 : decode cX7_readsTale 117 = .ok (.iastore, 1) := by decide +kernel
theorem dX7_readsTale_118 : decode cX7_readsTale 118 = .ok (.aload_n 0, 1) := by decide +kernel
theorem dX7_readsTale_119 : decode cX7_readsTale 119 = .ok (.getfield 25, 3) := by decide +kernel
theorem dX7_readsTale_122 : decode cX7_readsTale 122 = .ok (.iload_n 1, 1) := by decide +kernel
theorem dX7_readsTale_123 : decode cX7_readsTale 123 = .ok (.iload 6, 2) := by decide +kernel
theorem dX7_readsTale_125 : decode cX7_readsTale 125 = .ok (.iastore, 1) := by decide +kernel
theorem dX7_readsTale_126 : decode cX7_readsTale 126 = .ok (.iconst 4, 1) := by decide +kernel
theorem dX7_readsTale_127 : decode cX7_readsTale 127 = .ok (.ireturn, 1) := by decide +kernel
theorem dX7_readsCharge_0 : decode cX7_readsCharge 0 = .ok (.aload_n 0, 1) := by decide +kernel
theorem dX7_readsCharge_1 : decode cX7_readsCharge 1 = .ok (.iconst 1, 1) := by decide +kernel
theorem dX7_readsCharge_2 : decode cX7_readsCharge 2 = .ok (.iload_n 2, 1) := by decide +kernel
theorem dX7_readsCharge_3 : decode cX7_readsCharge 3 = .ok (.invokevirtual 121, 3) := by decide +kernel
theorem dX7_readsCharge_6 : decode cX7_readsCharge 6 = .ok (.bipush 97, 2) := by decide +kernel
theorem dX7_readsCharge_8 : decode cX7_readsCharge 8 = .ok (.isub, 1) := by decide +kernel
theorem dX7_readsCharge_9 : decode cX7_readsCharge 9 = .ok (.istore_n 3, 1) := by decide +kernel
theorem dX7_readsCharge_10 : decode cX7_readsCharge 10 = .ok (.aload_n 0, 1) := by decide +kernel
theorem dX7_readsCharge_11 : decode cX7_readsCharge 11 = .ok (.iconst 1, 1) := by decide +kernel
theorem dX7_readsCharge_12 : decode cX7_readsCharge 12 = .ok (.iload_n 2, 1) := by decide +kernel
theorem dX7_readsCharge_13 : decode cX7_readsCharge 13 = .ok (.iconst 1, 1) := by decide +kernel
theorem dX7_readsCharge_14 : decode cX7_readsCharge 14 = .ok (.iadd, 1) := by decide +kernel
theorem dX7_readsCharge_15 : decode cX7_readsCharge 15 = .ok (.invokevirtual 121, 3) := by decide +kernel
theorem dX7_readsCharge_18 : decode cX7_readsCharge 18 = .ok (.bipush 48, 2) := by decide +kernel
theorem dX7_readsCharge_20 : decode cX7_readsCharge 20 = .ok (.isub, 1) := by decide +kernel
theorem dX7_readsCharge_21 : decode cX7_readsCharge 21 = .ok (.istore 4, 2) := by decide +kernel
theorem dX7_readsCharge_23 : decode cX7_readsCharge 23 = .ok (.iload_n 1, 1) := by decide +kernel
theorem dX7_readsCharge_24 : decode cX7_readsCharge 24 = .ok (.bipush 8, 2) := by decide +kernel
theorem dX7_readsCharge_26 : decode cX7_readsCharge 26 = .ok (.if_icmp .eq 10, 3) := by decide +kernel
theorem dX7_readsCharge_29 : decode cX7_readsCharge 29 = .ok (.iload_n 3, 1) := by decide +kernel
theorem dX7_readsCharge_30 : decode cX7_readsCharge 30 = .ok (.invokestatic 129, 3) := by decide +kernel
theorem dX7_readsCharge_33 : decode cX7_readsCharge 33 = .ok (.ifCond .ne 5, 3) := by decide +kernel
theorem dX7_readsCharge_36 : decode cX7_readsCharge 36 = .ok (.iconst 0, 1) := by decide +kernel
theorem dX7_readsCharge_37 : decode cX7_readsCharge 37 = .ok (.ireturn, 1) := by decide +kernel
theorem dX7_readsCharge_38 : decode cX7_readsCharge 38 = .ok (.iload 4, 2) := by decide +kernel
theorem dX7_readsCharge_40 : decode cX7_readsCharge 40 = .ok (.invokestatic 132, 3) := by decide +kernel
theorem dX7_readsCharge_43 : decode cX7_readsCharge 43 = .ok (.ifCond .ne 5, 3) := by decide +kernel
theorem dX7_readsCharge_46 : decode cX7_readsCharge 46 = .ok (.iconst 1, 1) := by decide +kernel
theorem dX7_readsCharge_47 : decode cX7_readsCharge 47 = .ok (.ireturn, 1) := by decide +kernel
theorem dX7_readsCharge_48 : decode cX7_readsCharge 48 = .ok (.aload_n 0, 1) := by decide +kernel
theorem dX7_readsCharge_49 : decode cX7_readsCharge 49 = .ok (.getfield 28, 3) := by decide +kernel
theorem dX7_readsCharge_52 : decode cX7_readsCharge 52 = .ok (.iload_n 1, 1) := by decide +kernel
theorem dX7_readsCharge_53 : decode cX7_readsCharge 53 = .ok (.iload_n 3, 1) := by decide +kernel
theorem dX7_readsCharge_54 : decode cX7_readsCharge 54 = .ok (.iastore, 1) := by decide +kernel
theorem dX7_readsCharge_55 : decode cX7_readsCharge 55 = .ok (.aload_n 0, 1) := by decide +kernel
theorem dX7_readsCharge_56 : decode cX7_readsCharge 56 = .ok (.getfield 31, 3) := by decide +kernel
theorem dX7_readsCharge_59 : decode cX7_readsCharge 59 = .ok (.iload_n 1, 1) := by decide +kernel
theorem dX7_readsCharge_60 : decode cX7_readsCharge 60 = .ok (.iload 4, 2) := by decide +kernel
theorem dX7_readsCharge_62 : decode cX7_readsCharge 62 = .ok (.iastore, 1) := by decide +kernel
theorem dX7_readsCharge_63 : decode cX7_readsCharge 63 = .ok (.iconst 2, 1) := by decide +kernel
theorem dX7_readsCharge_64 : decode cX7_readsCharge 64 = .ok (.ireturn, 1) := by decide +kernel
theorem dX7_readsText_0 : decode cX7_readsText 0 = .ok (.iconst 0, 1) := by decide +kernel
theorem dX7_readsText_1 : decode cX7_readsText 1 = .ok (.istore_n 2, 1) := by decide +kernel
theorem dX7_readsText_2 : decode cX7_readsText 2 = .ok (.iconst 0, 1) := by decide +kernel
theorem dX7_readsText_3 : decode cX7_readsText 3 = .ok (.istore_n 3, 1) := by decide +kernel
theorem dX7_readsText_4 : decode cX7_readsText 4 = .ok (.iload_n 1, 1) := by decide +kernel
theorem dX7_readsText_5 : decode cX7_readsText 5 = .ok (.ifCond .ne 7, 3) := by decide +kernel
theorem dX7_readsText_8 : decode cX7_readsText 8 = .ok (.iconst 4, 1) := by decide +kernel
theorem dX7_readsText_9 : decode cX7_readsText 9 = .ok (.goto 4, 3) := by decide +kernel
theorem dX7_readsText_12 : decode cX7_readsText 12 = .ok (.iconst 2, 1) := by decide +kernel
theorem dX7_readsText_13 : decode cX7_readsText 13 = .ok (.istore 4, 2) := by decide +kernel
theorem dX7_readsText_15 : decode cX7_readsText 15 = .ok (.aload_n 0, 1) := by decide +kernel
theorem dX7_readsText_16 : decode cX7_readsText 16 = .ok (.iload_n 1, 1) := by decide +kernel
theorem dX7_readsText_17 : decode cX7_readsText 17 = .ok (.ifCond .ne 7, 3) := by decide +kernel
theorem dX7_readsText_20 : decode cX7_readsText 20 = .ok (.iconst 0, 1) := by decide +kernel
theorem dX7_readsText_21 : decode cX7_readsText 21 = .ok (.goto 7, 3) := by decide +kernel
theorem dX7_readsText_24 : decode cX7_readsText 24 = .ok (.aload_n 0, 1) := by decide +kernel
theorem dX7_readsText_25 : decode cX7_readsText 25 = .ok (.getfield 135, 3) := by decide +kernel
theorem dX7_readsText_28 : decode cX7_readsText 28 = .ok (.putfield 135, 3) := by decide +kernel
theorem dX7_readsText_31 : decode cX7_readsText 31 = .ok (.aload_n 0, 1) := by decide +kernel
theorem dX7_readsText_32 : decode cX7_readsText 32 = .ok (.iload_n 1, 1) := by decide +kernel
theorem dX7_readsText_33 : decode cX7_readsText 33 = .ok (.iconst 1, 1) := by decide +kernel
theorem dX7_readsText_34 : decode cX7_readsText 34 = .ok (.if_icmp .ne 7, 3) := by decide +kernel
theorem dX7_readsText_37 : decode cX7_readsText 37 = .ok (.iconst 0, 1) := by decide +kernel
theorem dX7_readsText_38 : decode cX7_readsText 38 = .ok (.goto 7, 3) := by decide +kernel
theorem dX7_readsText_41 : decode cX7_readsText 41 = .ok (.aload_n 0, 1) := by decide +kernel
theorem dX7_readsText_42 : decode cX7_readsText 42 = .ok (.getfield 138, 3) := by decide +kernel
theorem dX7_readsText_45 : decode cX7_readsText 45 = .ok (.putfield 138, 3) := by decide +kernel
theorem dX7_readsText_48 : decode cX7_readsText 48 = .ok (.iload_n 3, 1) := by decide +kernel
theorem dX7_readsText_49 : decode cX7_readsText 49 = .ok (.aload_n 0, 1) := by decide +kernel
theorem dX7_readsText_50 : decode cX7_readsText 50 = .ok (.getfield 7, 3) := by decide +kernel
theorem dX7_readsText_53 : decode cX7_readsText 53 = .ok (.iload_n 1, 1) := by decide +kernel
theorem dX7_readsText_54 : decode cX7_readsText 54 = .ok (.iaload, 1) := by decide +kernel
theorem dX7_readsText_55 : decode cX7_readsText 55 = .ok (.if_icmp .lt 7, 3) := by decide +kernel
theorem dX7_readsText_58 : decode cX7_readsText 58 = .ok (.iload_n 3, 1) := by decide +kernel
theorem dX7_readsText_59 : decode cX7_readsText 59 = .ok (.ifCond .le 108, 3) := by decide +kernel
theorem dX7_readsText_62 : decode cX7_readsText 62 = .ok (.iload_n 1, 1) := by decide +kernel
theorem dX7_readsText_63 : decode cX7_readsText 63 = .ok (.ifCond .ne 12, 3) := by decide +kernel
theorem dX7_readsText_66 : decode cX7_readsText 66 = .ok (.aload_n 0, 1) := by decide +kernel
theorem dX7_readsText_67 : decode cX7_readsText 67 = .ok (.iload_n 2, 1) := by decide +kernel
theorem dX7_readsText_68 : decode cX7_readsText 68 = .ok (.iload_n 3, 1) := by decide +kernel
theorem dX7_readsText_69 : decode cX7_readsText 69 = .ok (.invokevirtual 141, 3) := by decide +kernel
theorem dX7_readsText_72 : decode cX7_readsText 72 = .ok (.goto 9, 3) := by decide +kernel
theorem dX7_readsText_75 : decode cX7_readsText 75 = .ok (.aload_n 0, 1) := by decide +kernel
theorem dX7_readsText_76 : decode cX7_readsText 76 = .ok (.iload_n 2, 1) := by decide +kernel
theorem dX7_readsText_77 : decode cX7_readsText 77 = .ok (.iload_n 3, 1) := by decide +kernel
theorem dX7_readsText_78 : decode cX7_readsText 78 = .ok (.invokevirtual 144, 3) := by decide +kernel
theorem dX7_readsText_81 : decode cX7_readsText 81 = .ok (.istore 5, 2) := by decide +kernel
theorem dX7_readsText_83 : decode cX7_readsText 83 = .ok (.iload 5, 2) := by decide +kernel
theorem dX7_readsText_85 : decode cX7_readsText 85 = .ok (.iload 4, 2) := by decide +kernel
theorem dX7_readsText_87 : decode cX7_readsText 87 = .ok (.if_icmp .ge 8, 3) := by decide +kernel
theorem dX7_readsText_90 : decode cX7_readsText 90 = .ok (.iload_n 3, 1) := by decide +kernel
theorem dX7_readsText_91 : decode cX7_readsText 91 = .ok (.iload 5, 2) := by decide +kernel
theorem dX7_readsText_93 : decode cX7_readsText 93 = .ok (.iadd, 1) := by decide +kernel
theorem dX7_readsText_94 : decode cX7_readsText 94 = .ok (.ireturn, 1) := by decide +kernel
theorem dX7_readsText_95 : decode cX7_readsText 95 = .ok (.iinc 2 1, 3) := by decide +kernel
theorem dX7_readsText_98 : decode cX7_readsText 98 = .ok (.iload_n 3, 1) := by decide +kernel
theorem dX7_readsText_99 : decode cX7_readsText 99 = .ok (.iload 4, 2) := by decide +kernel
theorem dX7_readsText_101 : decode cX7_readsText 101 = .ok (.iadd, 1) := by decide +kernel
theorem dX7_readsText_102 : decode cX7_readsText 102 = .ok (.istore_n 3, 1) := by decide +kernel
theorem dX7_readsText_103 : decode cX7_readsText 103 = .ok (.iload_n 3, 1) := by decide +kernel
theorem dX7_readsText_104 : decode cX7_readsText 104 = .ok (.aload_n 0, 1) := by decide +kernel
theorem dX7_readsText_105 : decode cX7_readsText 105 = .ok (.getfield 7, 3) := by decide +kernel
theorem dX7_readsText_108 : decode cX7_readsText 108 = .ok (.iload_n 1, 1) := by decide +kernel
theorem dX7_readsText_109 : decode cX7_readsText 109 = .ok (.iaload, 1) := by decide +kernel
theorem dX7_readsText_110 : decode cX7_readsText 110 = .ok (.if_icmp .ne 38, 3) := by decide +kernel
theorem dX7_readsText_113 : decode cX7_readsText 113 = .ok (.aload_n 0, 1) := by decide +kernel
theorem dX7_readsText_114 : decode cX7_readsText 114 = .ok (.iload_n 1, 1) := by decide +kernel
theorem dX7_readsText_115 : decode cX7_readsText 115 = .ok (.ifCond .ne 7, 3) := by decide +kernel
theorem dX7_readsText_118 : decode cX7_readsText 118 = .ok (.iload_n 2, 1) := by decide +kernel
theorem dX7_readsText_119 : decode cX7_readsText 119 = .ok (.goto 7, 3) := by decide +kernel
theorem dX7_readsText_122 : decode cX7_readsText 122 = .ok (.aload_n 0, 1) := by decide +kernel
theorem dX7_readsText_123 : decode cX7_readsText 123 = .ok (.getfield 135, 3) := by decide +kernel
theorem dX7_readsText_126 : decode cX7_readsText 126 = .ok (.putfield 135, 3) := by decide +kernel
theorem dX7_readsText_129 : decode cX7_readsText 129 = .ok (.aload_n 0, 1) := by decide +kernel
theorem dX7_readsText_130 : decode cX7_readsText 130 = .ok (.iload_n 1, 1) := by decide +kernel
theorem dX7_readsText_131 : decode cX7_readsText 131 = .ok (.iconst 1, 1) := by decide +kernel
theorem dX7_readsText_132 : decode cX7_readsText 132 = .ok (.if_icmp .ne 7, 3) := by decide +kernel
theorem dX7_readsText_135 : decode cX7_readsText 135 = .ok (.iload_n 2, 1) := by decide +kernel
theorem dX7_readsText_136 : decode cX7_readsText 136 = .ok (.goto 7, 3) := by decide +kernel
theorem dX7_readsText_139 : decode cX7_readsText 139 = .ok (.aload_n 0, 1) := by decide +kernel
theorem dX7_readsText_140 : decode cX7_readsText 140 = .ok (.getfield 138, 3) := by decide +kernel
theorem dX7_readsText_143 : decode cX7_readsText 143 = .ok (.putfield 138, 3) := by decide +kernel
theorem dX7_readsText_146 : decode cX7_readsText 146 = .ok (.iconst (-1), 1) := by decide +kernel
theorem dX7_readsText_147 : decode cX7_readsText 147 = .ok (.ireturn, 1) := by decide +kernel
theorem dX7_readsText_148 : decode cX7_readsText 148 = .ok (.aload_n 0, 1) := by decide +kernel
theorem dX7_readsText_149 : decode cX7_readsText 149 = .ok (.iload_n 1, 1) := by decide +kernel
theorem dX7_readsText_150 : decode cX7_readsText 150 = .ok (.iload_n 3, 1) := by decide +kernel
theorem dX7_readsText_151 : decode cX7_readsText 151 = .ok (.invokevirtual 121, 3) := by decide +kernel
theorem dX7_readsText_154 : decode cX7_readsText 154 = .ok (.bipush 59, 2) := by decide +kernel
theorem dX7_readsText_156 : decode cX7_readsText 156 = .ok (.if_icmp .eq 5, 3) := by decide +kernel
theorem dX7_readsText_159 : decode cX7_readsText 159 = .ok (.iload_n 3, 1) := by decide +kernel
theorem dX7_readsText_160 : decode cX7_readsText 160 = .ok (.ireturn, 1) := by decide +kernel
theorem dX7_readsText_161 : decode cX7_readsText 161 = .ok (.iinc 3 1, 3) := by decide +kernel
theorem dX7_readsText_164 : decode cX7_readsText 164 = .ok (.goto (-116), 3) := by decide +kernel
theorem dX7_readsText_167 : decode cX7_readsText 167 = .ok (.iconst (-1), 1) := by decide +kernel
theorem dX7_readsText_168 : decode cX7_readsText 168 = .ok (.ireturn, 1) := by decide +kernel
theorem dX7_faultOf_0 : decode cX7_faultOf 0 = .ok (.aload_n 0, 1) := by decide +kernel
theorem dX7_faultOf_1 : decode cX7_faultOf 1 = .ok (.iconst 0, 1) := by decide +kernel
theorem dX7_faultOf_2 : decode cX7_faultOf 2 = .ok (.invokevirtual 147, 3) := by decide +kernel
theorem dX7_faultOf_5 : decode cX7_faultOf 5 = .ok (.istore_n 2, 1) := by decide +kernel
theorem dX7_faultOf_6 : decode cX7_faultOf 6 = .ok (.aload_n 0, 1) := by decide +kernel
theorem dX7_faultOf_7 : decode cX7_faultOf 7 = .ok (.iconst 1, 1) := by decide +kernel
theorem dX7_faultOf_8 : decode cX7_faultOf 8 = .ok (.invokevirtual 147, 3) := by decide +kernel
theorem dX7_faultOf_11 : decode cX7_faultOf 11 = .ok (.istore_n 3, 1) := by decide +kernel
theorem dX7_faultOf_12 : decode cX7_faultOf 12 = .ok (.iload_n 1, 1) := by decide +kernel
theorem dX7_faultOf_13 : decode cX7_faultOf 13 = .ok (.ifCond .ne 7, 3) := by decide +kernel
theorem dX7_faultOf_16 : decode cX7_faultOf 16 = .ok (.iload_n 2, 1) := by decide +kernel
theorem dX7_faultOf_17 : decode cX7_faultOf 17 = .ok (.goto 4, 3) := by decide +kernel
theorem dX7_faultOf_20 : decode cX7_faultOf 20 = .ok (.iload_n 3, 1) := by decide +kernel
theorem dX7_faultOf_21 : decode cX7_faultOf 21 = .ok (.ireturn, 1) := by decide +kernel
theorem dX7_reads_0 : decode cX7_reads 0 = .ok (.aload_n 0, 1) := by decide +kernel
theorem dX7_reads_1 : decode cX7_reads 1 = .ok (.iconst 0, 1) := by decide +kernel
theorem dX7_reads_2 : decode cX7_reads 2 = .ok (.invokevirtual 150, 3) := by decide +kernel
theorem dX7_reads_5 : decode cX7_reads 5 = .ok (.istore_n 1, 1) := by decide +kernel
theorem dX7_reads_6 : decode cX7_reads 6 = .ok (.return_, 1) := by decide +kernel
theorem dX7_fault_0 : decode cX7_fault 0 = .ok (.iload_n 1, 1) := by decide +kernel
theorem dX7_fault_1 : decode cX7_fault 1 = .ok (.invokestatic 117, 3) := by decide +kernel
theorem dX7_fault_4 : decode cX7_fault 4 = .ok (.ifCond .eq 11, 3) := by decide +kernel
theorem dX7_fault_7 : decode cX7_fault 7 = .ok (.aload_n 0, 1) := by decide +kernel
theorem dX7_fault_8 : decode cX7_fault 8 = .ok (.iload_n 1, 1) := by decide +kernel
theorem dX7_fault_9 : decode cX7_fault 9 = .ok (.invokevirtual 150, 3) := by decide +kernel
theorem dX7_fault_12 : decode cX7_fault 12 = .ok (.goto 5, 3) := by decide +kernel
theorem dX7_fault_15 : decode cX7_fault 15 = .ok (.bipush (-2), 2) := by decide +kernel
theorem dX7_fault_17 : decode cX7_fault 17 = .ok (.ireturn, 1) := by decide +kernel
theorem dX7_isTale_0 : decode cX7_isTale 0 = .ok (.aload_n 0, 1) := by decide +kernel
theorem dX7_isTale_1 : decode cX7_isTale 1 = .ok (.invokevirtual 153, 3) := by decide +kernel
theorem dX7_isTale_4 : decode cX7_isTale 4 = .ok (.iload_n 1, 1) := by decide +kernel
theorem dX7_isTale_5 : decode cX7_isTale 5 = .ok (.iconst 0, 1) := by decide +kernel
theorem dX7_isTale_6 : decode cX7_isTale 6 = .ok (.aload_n 0, 1) := by decide +kernel
theorem dX7_isTale_7 : decode cX7_isTale 7 = .ok (.getfield 135, 3) := by decide +kernel
theorem dX7_isTale_10 : decode cX7_isTale 10 = .ok (.iconst 1, 1) := by decide +kernel
theorem dX7_isTale_11 : decode cX7_isTale 11 = .ok (.isub, 1) := by decide +kernel
theorem dX7_isTale_12 : decode cX7_isTale 12 = .ok (.invokestatic 113, 3) := by decide +kernel
theorem dX7_isTale_15 : decode cX7_isTale 15 = .ok (.ireturn, 1) := by decide +kernel
theorem dX7_isCharge_0 : decode cX7_isCharge 0 = .ok (.aload_n 0, 1) := by decide +kernel
theorem dX7_isCharge_1 : decode cX7_isCharge 1 = .ok (.invokevirtual 153, 3) := by decide +kernel
theorem dX7_isCharge_4 : decode cX7_isCharge 4 = .ok (.iload_n 1, 1) := by decide +kernel
theorem dX7_isCharge_5 : decode cX7_isCharge 5 = .ok (.iconst 0, 1) := by decide +kernel
theorem dX7_isCharge_6 : decode cX7_isCharge 6 = .ok (.aload_n 0, 1) := by decide +kernel
theorem dX7_isCharge_7 : decode cX7_isCharge 7 = .ok (.getfield 138, 3) := by decide +kernel
theorem dX7_isCharge_10 : decode cX7_isCharge 10 = .ok (.iconst 1, 1) := by decide +kernel
theorem dX7_isCharge_11 : decode cX7_isCharge 11 = .ok (.isub, 1) := by decide +kernel
theorem dX7_isCharge_12 : decode cX7_isCharge 12 = .ok (.invokestatic 113, 3) := by decide +kernel
theorem dX7_isCharge_15 : decode cX7_isCharge 15 = .ok (.ireturn, 1) := by decide +kernel
theorem dX7_taleOf_0 : decode cX7_taleOf 0 = .ok (.iload_n 2, 1) := by decide +kernel
theorem dX7_taleOf_1 : decode cX7_taleOf 1 = .ok (.ifCond .ne 12, 3) := by decide +kernel
theorem dX7_taleOf_4 : decode cX7_taleOf 4 = .ok (.aload_n 0, 1) := by decide +kernel
theorem dX7_taleOf_5 : decode cX7_taleOf 5 = .ok (.getfield 16, 3) := by decide +kernel
theorem dX7_taleOf_8 : decode cX7_taleOf 8 = .ok (.iload_n 1, 1) := by decide +kernel
theorem dX7_taleOf_9 : decode cX7_taleOf 9 = .ok (.iaload, 1) := by decide +kernel
theorem dX7_taleOf_10 : decode cX7_taleOf 10 = .ok (.goto 37, 3) := by decide +kernel
theorem dX7_taleOf_13 : decode cX7_taleOf 13 = .ok (.iload_n 2, 1) := by decide +kernel
theorem dX7_taleOf_14 : decode cX7_taleOf 14 = .ok (.iconst 1, 1) := by decide +kernel
theorem dX7_taleOf_15 : decode cX7_taleOf 15 = .ok (.if_icmp .ne 12, 3) := by decide +kernel
theorem dX7_taleOf_18 : decode cX7_taleOf 18 = .ok (.aload_n 0, 1) := by decide +kernel
theorem dX7_taleOf_19 : decode cX7_taleOf 19 = .ok (.getfield 19, 3) := by decide +kernel
theorem dX7_taleOf_22 : decode cX7_taleOf 22 = .ok (.iload_n 1, 1) := by decide +kernel
theorem dX7_taleOf_23 : decode cX7_taleOf 23 = .ok (.iaload, 1) := by decide +kernel
theorem dX7_taleOf_24 : decode cX7_taleOf 24 = .ok (.goto 23, 3) := by decide +kernel
theorem dX7_taleOf_27 : decode cX7_taleOf 27 = .ok (.iload_n 2, 1) := by decide +kernel
theorem dX7_taleOf_28 : decode cX7_taleOf 28 = .ok (.iconst 2, 1) := by decide +kernel
theorem dX7_taleOf_29 : decode cX7_taleOf 29 = .ok (.if_icmp .ne 12, 3) := by decide +kernel
theorem dX7_taleOf_32 : decode cX7_taleOf 32 = .ok (.aload_n 0, 1) := by decide +kernel
theorem dX7_taleOf_33 : decode cX7_taleOf 33 = .ok (.getfield 22, 3) := by decide +kernel
theorem dX7_taleOf_36 : decode cX7_taleOf 36 = .ok (.iload_n 1, 1) := by decide +kernel
theorem dX7_taleOf_37 : decode cX7_taleOf 37 = .ok (.iaload, 1) := by decide +kernel
theorem dX7_taleOf_38 : decode cX7_taleOf 38 = .ok (.goto 9, 3) := by decide +kernel
theorem dX7_taleOf_41 : decode cX7_taleOf 41 = .ok (.aload_n 0, 1) := by decide +kernel
theorem dX7_taleOf_42 : decode cX7_taleOf 42 = .ok (.getfield 25, 3) := by decide +kernel
theorem dX7_taleOf_45 : decode cX7_taleOf 45 = .ok (.iload_n 1, 1) := by decide +kernel
theorem dX7_taleOf_46 : decode cX7_taleOf 46 = .ok (.iaload, 1) := by decide +kernel
theorem dX7_taleOf_47 : decode cX7_taleOf 47 = .ok (.ireturn, 1) := by decide +kernel
theorem dX7_tale_0 : decode cX7_tale 0 = .ok (.aload_n 0, 1) := by decide +kernel
theorem dX7_tale_1 : decode cX7_tale 1 = .ok (.iload_n 1, 1) := by decide +kernel
theorem dX7_tale_2 : decode cX7_tale 2 = .ok (.invokevirtual 156, 3) := by decide +kernel
theorem dX7_tale_5 : decode cX7_tale 5 = .ok (.ifCond .eq 21, 3) := by decide +kernel
theorem dX7_tale_8 : decode cX7_tale 8 = .ok (.iload_n 2, 1) := by decide +kernel
theorem dX7_tale_9 : decode cX7_tale 9 = .ok (.iconst 0, 1) := by decide +kernel
theorem dX7_tale_10 : decode cX7_tale 10 = .ok (.iconst 3, 1) := by decide +kernel
theorem dX7_tale_11 : decode cX7_tale 11 = .ok (.invokestatic 113, 3) := by decide +kernel
theorem dX7_tale_14 : decode cX7_tale 14 = .ok (.ifCond .eq 12, 3) := by decide +kernel
theorem dX7_tale_17 : decode cX7_tale 17 = .ok (.aload_n 0, 1) := by decide +kernel
theorem dX7_tale_18 : decode cX7_tale 18 = .ok (.iload_n 1, 1) := by decide +kernel
theorem dX7_tale_19 : decode cX7_tale 19 = .ok (.iload_n 2, 1) := by decide +kernel
theorem dX7_tale_20 : decode cX7_tale 20 = .ok (.invokevirtual 159, 3) := by decide +kernel
theorem dX7_tale_23 : decode cX7_tale 23 = .ok (.goto 5, 3) := by decide +kernel
theorem dX7_tale_26 : decode cX7_tale 26 = .ok (.bipush (-2), 2) := by decide +kernel
theorem dX7_tale_28 : decode cX7_tale 28 = .ok (.ireturn, 1) := by decide +kernel
theorem dX7_chargeOf_0 : decode cX7_chargeOf 0 = .ok (.iload_n 2, 1) := by decide +kernel
theorem dX7_chargeOf_1 : decode cX7_chargeOf 1 = .ok (.ifCond .ne 12, 3) := by decide +kernel
theorem dX7_chargeOf_4 : decode cX7_chargeOf 4 = .ok (.aload_n 0, 1) := by decide +kernel
theorem dX7_chargeOf_5 : decode cX7_chargeOf 5 = .ok (.getfield 28, 3) := by decide +kernel
theorem dX7_chargeOf_8 : decode cX7_chargeOf 8 = .ok (.iload_n 1, 1) := by decide +kernel
theorem dX7_chargeOf_9 : decode cX7_chargeOf 9 = .ok (.iaload, 1) := by decide +kernel
theorem dX7_chargeOf_10 : decode cX7_chargeOf 10 = .ok (.goto 9, 3) := by decide +kernel
theorem dX7_chargeOf_13 : decode cX7_chargeOf 13 = .ok (.aload_n 0, 1) := by decide +kernel
theorem dX7_chargeOf_14 : decode cX7_chargeOf 14 = .ok (.getfield 31, 3) := by decide +kernel
theorem dX7_chargeOf_17 : decode cX7_chargeOf 17 = .ok (.iload_n 1, 1) := by decide +kernel
theorem dX7_chargeOf_18 : decode cX7_chargeOf 18 = .ok (.iaload, 1) := by decide +kernel
theorem dX7_chargeOf_19 : decode cX7_chargeOf 19 = .ok (.ireturn, 1) := by decide +kernel
theorem dX7_charge_0 : decode cX7_charge 0 = .ok (.aload_n 0, 1) := by decide +kernel
theorem dX7_charge_1 : decode cX7_charge 1 = .ok (.iload_n 1, 1) := by decide +kernel
theorem dX7_charge_2 : decode cX7_charge 2 = .ok (.invokevirtual 162, 3) := by decide +kernel
theorem dX7_charge_5 : decode cX7_charge 5 = .ok (.ifCond .eq 19, 3) := by decide +kernel
theorem dX7_charge_8 : decode cX7_charge 8 = .ok (.iload_n 2, 1) := by decide +kernel
theorem dX7_charge_9 : decode cX7_charge 9 = .ok (.invokestatic 117, 3) := by decide +kernel
theorem dX7_charge_12 : decode cX7_charge 12 = .ok (.ifCond .eq 12, 3) := by decide +kernel
theorem dX7_charge_15 : decode cX7_charge 15 = .ok (.aload_n 0, 1) := by decide +kernel
theorem dX7_charge_16 : decode cX7_charge 16 = .ok (.iload_n 1, 1) := by decide +kernel
theorem dX7_charge_17 : decode cX7_charge 17 = .ok (.iload_n 2, 1) := by decide +kernel
theorem dX7_charge_18 : decode cX7_charge 18 = .ok (.invokevirtual 165, 3) := by decide +kernel
theorem dX7_charge_21 : decode cX7_charge 21 = .ok (.goto 5, 3) := by decide +kernel
theorem dX7_charge_24 : decode cX7_charge 24 = .ok (.bipush (-2), 2) := by decide +kernel
theorem dX7_charge_26 : decode cX7_charge 26 = .ok (.ireturn, 1) := by decide +kernel
theorem dX7_need_0 : decode cX7_need 0 = .ok (.iload_n 1, 1) := by decide +kernel
theorem dX7_need_1 : decode cX7_need 1 = .ok (.iconst 1, 1) := by decide +kernel
theorem dX7_need_2 : decode cX7_need 2 = .ok (.bipush 40, 2) := by decide +kernel
theorem dX7_need_4 : decode cX7_need 4 = .ok (.invokestatic 113, 3) := by decide +kernel
theorem dX7_need_7 : decode cX7_need 7 = .ok (.ifCond .ne 6, 3) := by decide +kernel
theorem dX7_need_10 : decode cX7_need 10 = .ok (.bipush (-2), 2) := by decide +kernel
theorem dX7_need_12 : decode cX7_need 12 = .ok (.ireturn, 1) := by decide +kernel
theorem dX7_need_13 : decode cX7_need 13 = .ok (.aload_n 0, 1) := by decide +kernel
theorem dX7_need_14 : decode cX7_need 14 = .ok (.getfield 107, 3) := by decide +kernel
theorem dX7_need_17 : decode cX7_need 17 = .ok (.istore_n 2, 1) := by decide +kernel
theorem dX7_need_18 : decode cX7_need 18 = .ok (.aload_n 0, 1) := by decide +kernel
theorem dX7_need_19 : decode cX7_need 19 = .ok (.iload_n 1, 1) := by decide +kernel
theorem dX7_need_20 : decode cX7_need 20 = .ok (.putfield 107, 3) := by decide +kernel
theorem dX7_need_23 : decode cX7_need 23 = .ok (.iload_n 2, 1) := by decide +kernel
theorem dX7_need_24 : decode cX7_need 24 = .ok (.ireturn, 1) := by decide +kernel
theorem dX7_event_0 : decode cX7_event 0 = .ok (.iload_n 1, 1) := by decide +kernel
theorem dX7_event_1 : decode cX7_event 1 = .ok (.invokestatic 168, 3) := by decide +kernel
theorem dX7_event_4 : decode cX7_event 4 = .ok (.ifCond .eq 20, 3) := by decide +kernel
theorem dX7_event_7 : decode cX7_event 7 = .ok (.iload_n 2, 1) := by decide +kernel
theorem dX7_event_8 : decode cX7_event 8 = .ok (.invokestatic 129, 3) := by decide +kernel
theorem dX7_event_11 : decode cX7_event 11 = .ok (.ifCond .eq 13, 3) := by decide +kernel
theorem dX7_event_14 : decode cX7_event 14 = .ok (.iload_n 3, 1) := by decide +kernel
theorem dX7_event_15 : decode cX7_event 15 = .ok (.iconst 0, 1) := by decide +kernel
theorem dX7_event_16 : decode cX7_event 16 = .ok (.bipush 9, 2) := by decide +kernel
theorem dX7_event_18 : decode cX7_event 18 = .ok (.invokestatic 113, 3) := by decide +kernel
theorem dX7_event_21 : decode cX7_event 21 = .ok (.ifCond .ne 6, 3) := by decide +kernel
theorem dX7_event_24 : decode cX7_event 24 = .ok (.bipush (-2), 2) := by decide +kernel
theorem dX7_event_26 : decode cX7_event 26 = .ok (.ireturn, 1) := by decide +kernel
theorem dX7_event_27 : decode cX7_event 27 = .ok (.aload_n 0, 1) := by decide +kernel
theorem dX7_event_28 : decode cX7_event 28 = .ok (.getfield 171, 3) := by decide +kernel
theorem dX7_event_31 : decode cX7_event 31 = .ok (.bipush 8, 2) := by decide +kernel
theorem dX7_event_33 : decode cX7_event 33 = .ok (.if_icmp .ne 6, 3) := by decide +kernel
theorem dX7_event_36 : decode cX7_event 36 = .ok (.bipush (-4), 2) := by decide +kernel
theorem dX7_event_38 : decode cX7_event 38 = .ok (.ireturn, 1) := by decide +kernel
theorem dX7_event_39 : decode cX7_event 39 = .ok (.aload_n 0, 1) := by decide +kernel
theorem dX7_event_40 : decode cX7_event 40 = .ok (.getfield 34, 3) := by decide +kernel
theorem dX7_event_43 : decode cX7_event 43 = .ok (.aload_n 0, 1) := by decide +kernel
theorem dX7_event_44 : decode cX7_event 44 = .ok (.getfield 171, 3) := by decide +kernel
theorem dX7_event_47 : decode cX7_event 47 = .ok (.iload_n 1, 1) := by decide +kernel
theorem dX7_event_48 : decode cX7_event 48 = .ok (.iastore, 1) := by decide +kernel
theorem dX7_event_49 : decode cX7_event 49 = .ok (.aload_n 0, 1) := by decide +kernel
theorem dX7_event_50 : decode cX7_event 50 = .ok (.getfield 37, 3) := by decide +kernel
theorem dX7_event_53 : decode cX7_event 53 = .ok (.aload_n 0, 1) := by decide +kernel
theorem dX7_event_54 : decode cX7_event 54 = .ok (.getfield 171, 3) := by decide +kernel
theorem dX7_event_57 : decode cX7_event 57 = .ok (.iload_n 2, 1) := by decide +kernel
theorem dX7_event_58 : decode cX7_event 58 = .ok (.iastore, 1) := by decide +kernel
theorem dX7_event_59 : decode cX7_event 59 = .ok (.aload_n 0, 1) := by decide +kernel
theorem dX7_event_60 : decode cX7_event 60 = .ok (.getfield 40, 3) := by decide +kernel
theorem dX7_event_63 : decode cX7_event 63 = .ok (.aload_n 0, 1) := by decide +kernel
theorem dX7_event_64 : decode cX7_event 64 = .ok (.getfield 171, 3) := by decide +kernel
theorem dX7_event_67 : decode cX7_event 67 = .ok (.iload_n 3, 1) := by decide +kernel
theorem dX7_event_68 : decode cX7_event 68 = .ok (.iastore, 1) := by decide +kernel
theorem dX7_event_69 : decode cX7_event 69 = .ok (.aload_n 0, 1) := by decide +kernel
theorem dX7_event_70 : decode cX7_event 70 = .ok (.dup, 1) := by decide +kernel
theorem dX7_event_71 : decode cX7_event 71 = .ok (.getfield 171, 3) := by decide +kernel
theorem dX7_event_74 : decode cX7_event 74 = .ok (.iconst 1, 1) := by decide +kernel
theorem dX7_event_75 : decode cX7_event 75 = .ok (.iadd, 1) := by decide +kernel
theorem dX7_event_76 : decode cX7_event 76 = .ok (.putfield 171, 3) := by decide +kernel
theorem dX7_event_79 : decode cX7_event 79 = .ok (.aload_n 0, 1) := by decide +kernel
theorem dX7_event_80 : decode cX7_event 80 = .ok (.getfield 171, 3) := by decide +kernel
theorem dX7_event_83 : decode cX7_event 83 = .ok (.ireturn, 1) := by decide +kernel
theorem dX7_back_0 : decode cX7_back 0 = .ok (.aload_n 0, 1) := by decide +kernel
theorem dX7_back_1 : decode cX7_back 1 = .ok (.getfield 171, 3) := by decide +kernel
theorem dX7_back_4 : decode cX7_back 4 = .ok (.ifCond .ne 6, 3) := by decide +kernel
theorem dX7_back_7 : decode cX7_back 7 = .ok (.bipush (-3), 2) := by decide +kernel
theorem dX7_back_9 : decode cX7_back 9 = .ok (.ireturn, 1) := by decide +kernel
theorem dX7_back_10 : decode cX7_back 10 = .ok (.aload_n 0, 1) := by decide +kernel
theorem dX7_back_11 : decode cX7_back 11 = .ok (.dup, 1) := by decide +kernel
theorem dX7_back_12 : decode cX7_back 12 = .ok (.getfield 171, 3) := by decide +kernel
theorem dX7_back_15 : decode cX7_back 15 = .ok (.iconst 1, 1) := by decide +kernel
theorem dX7_back_16 : decode cX7_back 16 = .ok (.isub, 1) := by decide +kernel
theorem dX7_back_17 : decode cX7_back 17 = .ok (.putfield 171, 3) := by decide +kernel
theorem dX7_back_20 : decode cX7_back 20 = .ok (.aload_n 0, 1) := by decide +kernel
theorem dX7_back_21 : decode cX7_back 21 = .ok (.getfield 171, 3) := by decide +kernel
theorem dX7_back_24 : decode cX7_back 24 = .ok (.ireturn, 1) := by decide +kernel
theorem dX7_read_0 : decode cX7_read 0 = .ok (.iload_n 1, 1) := by decide +kernel
theorem dX7_read_1 : decode cX7_read 1 = .ok (.invokestatic 174, 3) := by decide +kernel
theorem dX7_read_4 : decode cX7_read 4 = .ok (.ifCond .ne 6, 3) := by decide +kernel
theorem dX7_read_7 : decode cX7_read 7 = .ok (.bipush (-2), 2) := by decide +kernel
theorem dX7_read_9 : decode cX7_read 9 = .ok (.ireturn, 1) := by decide +kernel
theorem dX7_read_10 : decode cX7_read 10 = .ok (.aload_n 0, 1) := by decide +kernel
theorem dX7_read_11 : decode cX7_read 11 = .ok (.getfield 91, 3) := by decide +kernel
theorem dX7_read_14 : decode cX7_read 14 = .ok (.iload_n 1, 1) := by decide +kernel
theorem dX7_read_15 : decode cX7_read 15 = .ok (.baload, 1) := by decide +kernel
theorem dX7_read_16 : decode cX7_read 16 = .ok (.ifCond .ne 9, 3) := by decide +kernel
theorem dX7_read_19 : decode cX7_read 19 = .ok (.aload_n 0, 1) := by decide +kernel
theorem dX7_read_20 : decode cX7_read 20 = .ok (.iconst 1, 1) := by decide +kernel
theorem dX7_read_21 : decode cX7_read 21 = .ok (.invokevirtual 177, 3) := by decide +kernel
theorem dX7_read_24 : decode cX7_read 24 = .ok (.ireturn, 1) := by decide +kernel
theorem dX7_read_25 : decode cX7_read 25 = .ok (.iconst 0, 1) := by decide +kernel
theorem dX7_read_26 : decode cX7_read 26 = .ok (.istore_n 2, 1) := by decide +kernel
theorem dX7_read_27 : decode cX7_read 27 = .ok (.bipush 60, 2) := by decide +kernel
theorem dX7_read_29 : decode cX7_read 29 = .ok (.iload_n 1, 1) := by decide +kernel
theorem dX7_read_30 : decode cX7_read 30 = .ok (.imul, 1) := by decide +kernel
theorem dX7_read_31 : decode cX7_read 31 = .ok (.istore_n 3, 1) := by decide +kernel
theorem dX7_read_32 : decode cX7_read 32 = .ok (.iconst 3, 1) := by decide +kernel
theorem dX7_read_33 : decode cX7_read 33 = .ok (.iload_n 2, 1) := by decide +kernel
theorem dX7_read_34 : decode cX7_read 34 = .ok (.imul, 1) := by decide +kernel
theorem dX7_read_35 : decode cX7_read 35 = .ok (.iconst 2, 1) := by decide +kernel
theorem dX7_read_36 : decode cX7_read 36 = .ok (.iadd, 1) := by decide +kernel
theorem dX7_read_37 : decode cX7_read 37 = .ok (.aload_n 0, 1) := by decide +kernel
theorem dX7_read_38 : decode cX7_read 38 = .ok (.getfield 98, 3) := by decide +kernel
theorem dX7_read_41 : decode cX7_read 41 = .ok (.iload_n 1, 1) := by decide +kernel
theorem dX7_read_42 : decode cX7_read 42 = .ok (.iaload, 1) := by decide +kernel
theorem dX7_read_43 : decode cX7_read 43 = .ok (.if_icmp .ge 50, 3) := by decide +kernel
theorem dX7_read_46 : decode cX7_read 46 = .ok (.aload_n 0, 1) := by decide +kernel
theorem dX7_read_47 : decode cX7_read 47 = .ok (.aload_n 0, 1) := by decide +kernel
theorem dX7_read_48 : decode cX7_read 48 = .ok (.getfield 101, 3) := by decide +kernel
theorem dX7_read_51 : decode cX7_read 51 = .ok (.iload_n 3, 1) := by decide +kernel
theorem dX7_read_52 : decode cX7_read 52 = .ok (.iconst 3, 1) := by decide +kernel
theorem dX7_read_53 : decode cX7_read 53 = .ok (.iload_n 2, 1) := by decide +kernel
theorem dX7_read_54 : decode cX7_read 54 = .ok (.imul, 1) := by decide +kernel
theorem dX7_read_55 : decode cX7_read 55 = .ok (.iadd, 1) := by decide +kernel
theorem dX7_read_56 : decode cX7_read 56 = .ok (.iaload, 1) := by decide +kernel
theorem dX7_read_57 : decode cX7_read 57 = .ok (.aload_n 0, 1) := by decide +kernel
theorem dX7_read_58 : decode cX7_read 58 = .ok (.getfield 101, 3) := by decide +kernel
theorem dX7_read_61 : decode cX7_read 61 = .ok (.iload_n 3, 1) := by decide +kernel
theorem dX7_read_62 : decode cX7_read 62 = .ok (.iconst 3, 1) := by decide +kernel
theorem dX7_read_63 : decode cX7_read 63 = .ok (.iload_n 2, 1) := by decide +kernel
theorem dX7_read_64 : decode cX7_read 64 = .ok (.imul, 1) := by decide +kernel
theorem dX7_read_65 : decode cX7_read 65 = .ok (.iadd, 1) := by decide +kernel
theorem dX7_read_66 : decode cX7_read 66 = .ok (.iconst 1, 1) := by decide +kernel
theorem dX7_read_67 : decode cX7_read 67 = .ok (.iadd, 1) := by decide +kernel
theorem dX7_read_68 : decode cX7_read 68 = .ok (.iaload, 1) := by decide +kernel
theorem dX7_read_69 : decode cX7_read 69 = .ok (.aload_n 0, 1) := by decide +kernel
theorem dX7_read_70 : decode cX7_read 70 = .ok (.getfield 101, 3) := by decide +kernel
theorem dX7_read_73 : decode cX7_read 73 = .ok (.iload_n 3, 1) := by decide +kernel
theorem dX7_read_74 : decode cX7_read 74 = .ok (.iconst 3, 1) := by decide +kernel
theorem dX7_read_75 : decode cX7_read 75 = .ok (.iload_n 2, 1) := by decide +kernel
theorem dX7_read_76 : decode cX7_read 76 = .ok (.imul, 1) := by decide +kernel
theorem dX7_read_77 : decode cX7_read 77 = .ok (.iadd, 1) := by decide +kernel
theorem dX7_read_78 : decode cX7_read 78 = .ok (.iconst 2, 1) := by decide +kernel
theorem dX7_read_79 : decode cX7_read 79 = .ok (.iadd, 1) := by decide +kernel
theorem dX7_read_80 : decode cX7_read 80 = .ok (.iaload, 1) := by decide +kernel
theorem dX7_read_81 : decode cX7_read 81 = .ok (.invokevirtual 180, 3) := by decide +kernel
theorem dX7_read_84 : decode cX7_read 84 = .ok (.ifCond .le 9, 3) := by decide +kernel
theorem dX7_read_87 : decode cX7_read 87 = .ok (.iinc 2 1, 3) := by decide +kernel
theorem dX7_read_90 : decode cX7_read 90 = .ok (.goto (-58), 3) := by decide +kernel
theorem dX7_read_93 : decode cX7_read 93 = .ok (.iload_n 2, 1) := by decide +kernel
theorem dX7_read_94 : decode cX7_read 94 = .ok (.ireturn, 1) := by decide +kernel
theorem dX7_asTold_0 : decode cX7_asTold 0 = .ok (.aload_n 0, 1) := by decide +kernel
theorem dX7_asTold_1 : decode cX7_asTold 1 = .ok (.invokevirtual 153, 3) := by decide +kernel
theorem dX7_asTold_4 : decode cX7_asTold 4 = .ok (.aload_n 0, 1) := by decide +kernel
theorem dX7_asTold_5 : decode cX7_asTold 5 = .ok (.aload_n 0, 1) := by decide +kernel
theorem dX7_asTold_6 : decode cX7_asTold 6 = .ok (.getfield 135, 3) := by decide +kernel
theorem dX7_asTold_9 : decode cX7_asTold 9 = .ok (.putfield 184, 3) := by decide +kernel
theorem dX7_asTold_12 : decode cX7_asTold 12 = .ok (.iconst 0, 1) := by decide +kernel
theorem dX7_asTold_13 : decode cX7_asTold 13 = .ok (.istore_n 1, 1) := by decide +kernel
theorem dX7_asTold_14 : decode cX7_asTold 14 = .ok (.iload_n 1, 1) := by decide +kernel
theorem dX7_asTold_15 : decode cX7_asTold 15 = .ok (.aload_n 0, 1) := by decide +kernel
theorem dX7_asTold_16 : decode cX7_asTold 16 = .ok (.getfield 135, 3) := by decide +kernel
theorem dX7_asTold_19 : decode cX7_asTold 19 = .ok (.if_icmp .ge 57, 3) := by decide +kernel
theorem dX7_asTold_22 : decode cX7_asTold 22 = .ok (.aload_n 0, 1) := by decide +kernel
theorem dX7_asTold_23 : decode cX7_asTold 23 = .ok (.getfield 43, 3) := by decide +kernel
theorem dX7_asTold_26 : decode cX7_asTold 26 = .ok (.iload_n 1, 1) := by decide +kernel
theorem dX7_asTold_27 : decode cX7_asTold 27 = .ok (.aload_n 0, 1) := by decide +kernel
theorem dX7_asTold_28 : decode cX7_asTold 28 = .ok (.getfield 16, 3) := by decide +kernel
theorem dX7_asTold_31 : decode cX7_asTold 31 = .ok (.iload_n 1, 1) := by decide +kernel
theorem dX7_asTold_32 : decode cX7_asTold 32 = .ok (.iaload, 1) := by decide +kernel
theorem dX7_asTold_33 : decode cX7_asTold 33 = .ok (.iastore, 1) := by decide +kernel
theorem dX7_asTold_34 : decode cX7_asTold 34 = .ok (.aload_n 0, 1) := by decide +kernel
theorem dX7_asTold_35 : decode cX7_asTold 35 = .ok (.getfield 46, 3) := by decide +kernel
theorem dX7_asTold_38 : decode cX7_asTold 38 = .ok (.iload_n 1, 1) := by decide +kernel
theorem dX7_asTold_39 : decode cX7_asTold 39 = .ok (.aload_n 0, 1) := by decide +kernel
theorem dX7_asTold_40 : decode cX7_asTold 40 = .ok (.getfield 19, 3) := by decide +kernel
theorem dX7_asTold_43 : decode cX7_asTold 43 = .ok (.iload_n 1, 1) := by decide +kernel
theorem dX7_asTold_44 : decode cX7_asTold 44 = .ok (.iaload, 1) := by decide +kernel
theorem dX7_asTold_45 : decode cX7_asTold 45 = .ok (.iastore, 1) := by decide +kernel
theorem dX7_asTold_46 : decode cX7_asTold 46 = .ok (.aload_n 0, 1) := by decide +kernel
theorem dX7_asTold_47 : decode cX7_asTold 47 = .ok (.getfield 49, 3) := by decide +kernel
theorem dX7_asTold_50 : decode cX7_asTold 50 = .ok (.iload_n 1, 1) := by decide +kernel
theorem dX7_asTold_51 : decode cX7_asTold 51 = .ok (.aload_n 0, 1) := by decide +kernel
theorem dX7_asTold_52 : decode cX7_asTold 52 = .ok (.getfield 22, 3) := by decide +kernel
theorem dX7_asTold_55 : decode cX7_asTold 55 = .ok (.iload_n 1, 1) := by decide +kernel
theorem dX7_asTold_56 : decode cX7_asTold 56 = .ok (.iaload, 1) := by decide +kernel
theorem dX7_asTold_57 : decode cX7_asTold 57 = .ok (.iastore, 1) := by decide +kernel
theorem dX7_asTold_58 : decode cX7_asTold 58 = .ok (.aload_n 0, 1) := by decide +kernel
theorem dX7_asTold_59 : decode cX7_asTold 59 = .ok (.getfield 52, 3) := by decide +kernel
theorem dX7_asTold_62 : decode cX7_asTold 62 = .ok (.iload_n 1, 1) := by decide +kernel
theorem dX7_asTold_63 : decode cX7_asTold 63 = .ok (.aload_n 0, 1) := by decide +kernel
theorem dX7_asTold_64 : decode cX7_asTold 64 = .ok (.getfield 25, 3) := by decide +kernel
theorem dX7_asTold_67 : decode cX7_asTold 67 = .ok (.iload_n 1, 1) := by decide +kernel
theorem dX7_asTold_68 : decode cX7_asTold 68 = .ok (.iaload, 1) := by decide +kernel
theorem dX7_asTold_69 : decode cX7_asTold 69 = .ok (.iastore, 1) := by decide +kernel
theorem dX7_asTold_70 : decode cX7_asTold 70 = .ok (.iinc 1 1, 3) := by decide +kernel
theorem dX7_asTold_73 : decode cX7_asTold 73 = .ok (.goto (-59), 3) := by decide +kernel
theorem dX7_asTold_76 : decode cX7_asTold 76 = .ok (.aload_n 0, 1) := by decide +kernel
theorem dX7_asTold_77 : decode cX7_asTold 77 = .ok (.iconst (-1), 1) := by decide +kernel
theorem dX7_asTold_78 : decode cX7_asTold 78 = .ok (.putfield 187, 3) := by decide +kernel
theorem dX7_asTold_81 : decode cX7_asTold 81 = .ok (.aload_n 0, 1) := by decide +kernel
theorem dX7_asTold_82 : decode cX7_asTold 82 = .ok (.iconst 0, 1) := by decide +kernel
theorem dX7_asTold_83 : decode cX7_asTold 83 = .ok (.putfield 190, 3) := by decide +kernel
theorem dX7_asTold_86 : decode cX7_asTold 86 = .ok (.return_, 1) := by decide +kernel
theorem dX7_far_0 : decode cX7_far 0 = .ok (.iload_n 0, 1) := by decide +kernel
theorem dX7_far_1 : decode cX7_far 1 = .ok (.iload_n 1, 1) := by decide +kernel
theorem dX7_far_2 : decode cX7_far 2 = .ok (.if_icmp .ge 9, 3) := by decide +kernel
theorem dX7_far_5 : decode cX7_far 5 = .ok (.iload_n 1, 1) := by decide +kernel
theorem dX7_far_6 : decode cX7_far 6 = .ok (.iload_n 0, 1) := by decide +kernel
theorem dX7_far_7 : decode cX7_far 7 = .ok (.isub, 1) := by decide +kernel
theorem dX7_far_8 : decode cX7_far 8 = .ok (.goto 6, 3) := by decide +kernel
theorem dX7_far_11 : decode cX7_far 11 = .ok (.iload_n 0, 1) := by decide +kernel
theorem dX7_far_12 : decode cX7_far 12 = .ok (.iload_n 1, 1) := by decide +kernel
theorem dX7_far_13 : decode cX7_far 13 = .ok (.isub, 1) := by decide +kernel
theorem dX7_far_14 : decode cX7_far 14 = .ok (.ireturn, 1) := by decide +kernel
theorem dX7_clashes_0 : decode cX7_clashes 0 = .ok (.aload_n 0, 1) := by decide +kernel
theorem dX7_clashes_1 : decode cX7_clashes 1 = .ok (.getfield 49, 3) := by decide +kernel
theorem dX7_clashes_4 : decode cX7_clashes 4 = .ok (.iload_n 1, 1) := by decide +kernel
theorem dX7_clashes_5 : decode cX7_clashes 5 = .ok (.iaload, 1) := by decide +kernel
theorem dX7_clashes_6 : decode cX7_clashes 6 = .ok (.aload_n 0, 1) := by decide +kernel
theorem dX7_clashes_7 : decode cX7_clashes 7 = .ok (.getfield 49, 3) := by decide +kernel
theorem dX7_clashes_10 : decode cX7_clashes 10 = .ok (.iload_n 2, 1) := by decide +kernel
theorem dX7_clashes_11 : decode cX7_clashes 11 = .ok (.iaload, 1) := by decide +kernel
theorem dX7_clashes_12 : decode cX7_clashes 12 = .ok (.if_icmp .ne 40, 3) := by decide +kernel
theorem dX7_clashes_15 : decode cX7_clashes 15 = .ok (.aload_n 0, 1) := by decide +kernel
theorem dX7_clashes_16 : decode cX7_clashes 16 = .ok (.getfield 46, 3) := by decide +kernel
theorem dX7_clashes_19 : decode cX7_clashes 19 = .ok (.iload_n 1, 1) := by decide +kernel
theorem dX7_clashes_20 : decode cX7_clashes 20 = .ok (.iaload, 1) := by decide +kernel
theorem dX7_clashes_21 : decode cX7_clashes 21 = .ok (.aload_n 0, 1) := by decide +kernel
theorem dX7_clashes_22 : decode cX7_clashes 22 = .ok (.getfield 46, 3) := by decide +kernel
theorem dX7_clashes_25 : decode cX7_clashes 25 = .ok (.iload_n 2, 1) := by decide +kernel
theorem dX7_clashes_26 : decode cX7_clashes 26 = .ok (.iaload, 1) := by decide +kernel
theorem dX7_clashes_27 : decode cX7_clashes 27 = .ok (.invokestatic 193, 3) := by decide +kernel
theorem dX7_clashes_30 : decode cX7_clashes 30 = .ok (.aload_n 0, 1) := by decide +kernel
theorem dX7_clashes_31 : decode cX7_clashes 31 = .ok (.getfield 43, 3) := by decide +kernel
theorem dX7_clashes_34 : decode cX7_clashes 34 = .ok (.iload_n 1, 1) := by decide +kernel
theorem dX7_clashes_35 : decode cX7_clashes 35 = .ok (.iaload, 1) := by decide +kernel
theorem dX7_clashes_36 : decode cX7_clashes 36 = .ok (.aload_n 0, 1) := by decide +kernel
theorem dX7_clashes_37 : decode cX7_clashes 37 = .ok (.getfield 43, 3) := by decide +kernel
theorem dX7_clashes_40 : decode cX7_clashes 40 = .ok (.iload_n 2, 1) := by decide +kernel
theorem dX7_clashes_41 : decode cX7_clashes 41 = .ok (.iaload, 1) := by decide +kernel
theorem dX7_clashes_42 : decode cX7_clashes 42 = .ok (.invokestatic 193, 3) := by decide +kernel
theorem dX7_clashes_45 : decode cX7_clashes 45 = .ok (.if_icmp .le 7, 3) := by decide +kernel
theorem dX7_clashes_48 : decode cX7_clashes 48 = .ok (.iconst 1, 1) := by decide +kernel
theorem dX7_clashes_49 : decode cX7_clashes 49 = .ok (.goto 4, 3) := by decide +kernel
theorem dX7_clashes_52 : decode cX7_clashes 52 = .ok (.iconst 0, 1) := by decide +kernel
theorem dX7_clashes_53 : decode cX7_clashes 53 = .ok (.ireturn, 1) := by decide +kernel
theorem dX7_isShaken_0 : decode cX7_isShaken 0 = .ok (.iload_n 1, 1) := by decide +kernel
theorem dX7_isShaken_1 : decode cX7_isShaken 1 = .ok (.aload_n 0, 1) := by decide +kernel
theorem dX7_isShaken_2 : decode cX7_isShaken 2 = .ok (.getfield 187, 3) := by decide +kernel
theorem dX7_isShaken_5 : decode cX7_isShaken 5 = .ok (.if_icmp .ne 7, 3) := by decide +kernel
theorem dX7_isShaken_8 : decode cX7_isShaken 8 = .ok (.iconst 1, 1) := by decide +kernel
theorem dX7_isShaken_9 : decode cX7_isShaken 9 = .ok (.goto 4, 3) := by decide +kernel
theorem dX7_isShaken_12 : decode cX7_isShaken 12 = .ok (.iconst 0, 1) := by decide +kernel
theorem dX7_isShaken_13 : decode cX7_isShaken 13 = .ok (.istore_n 2, 1) := by decide +kernel
theorem dX7_isShaken_14 : decode cX7_isShaken 14 = .ok (.iconst 0, 1) := by decide +kernel
theorem dX7_isShaken_15 : decode cX7_isShaken 15 = .ok (.istore_n 3, 1) := by decide +kernel
theorem dX7_isShaken_16 : decode cX7_isShaken 16 = .ok (.iload_n 3, 1) := by decide +kernel
theorem dX7_isShaken_17 : decode cX7_isShaken 17 = .ok (.aload_n 0, 1) := by decide +kernel
theorem dX7_isShaken_18 : decode cX7_isShaken 18 = .ok (.getfield 171, 3) := by decide +kernel
theorem dX7_isShaken_21 : decode cX7_isShaken 21 = .ok (.if_icmp .ge 119, 3) := by decide +kernel
theorem dX7_isShaken_24 : decode cX7_isShaken 24 = .ok (.aload_n 0, 1) := by decide +kernel
theorem dX7_isShaken_25 : decode cX7_isShaken 25 = .ok (.getfield 190, 3) := by decide +kernel
theorem dX7_isShaken_28 : decode cX7_isShaken 28 = .ok (.iload_n 3, 1) := by decide +kernel
theorem dX7_isShaken_29 : decode cX7_isShaken 29 = .ok (.invokestatic 196, 3) := by decide +kernel
theorem dX7_isShaken_32 : decode cX7_isShaken 32 = .ok (.ifCond .ne 102, 3) := by decide +kernel
theorem dX7_isShaken_35 : decode cX7_isShaken 35 = .ok (.iload_n 2, 1) := by decide +kernel
theorem dX7_isShaken_36 : decode cX7_isShaken 36 = .ok (.ifCond .ne 42, 3) := by decide +kernel
theorem dX7_isShaken_39 : decode cX7_isShaken 39 = .ok (.aload_n 0, 1) := by decide +kernel
theorem dX7_isShaken_40 : decode cX7_isShaken 40 = .ok (.getfield 34, 3) := by decide +kernel
theorem dX7_isShaken_43 : decode cX7_isShaken 43 = .ok (.iload_n 3, 1) := by decide +kernel
theorem dX7_isShaken_44 : decode cX7_isShaken 44 = .ok (.iaload, 1) := by decide +kernel
theorem dX7_isShaken_45 : decode cX7_isShaken 45 = .ok (.ifCond .ne 37, 3) := by decide +kernel
theorem dX7_isShaken_48 : decode cX7_isShaken 48 = .ok (.aload_n 0, 1) := by decide +kernel
theorem dX7_isShaken_49 : decode cX7_isShaken 49 = .ok (.getfield 40, 3) := by decide +kernel
theorem dX7_isShaken_52 : decode cX7_isShaken 52 = .ok (.iload_n 3, 1) := by decide +kernel
theorem dX7_isShaken_53 : decode cX7_isShaken 53 = .ok (.iaload, 1) := by decide +kernel
theorem dX7_isShaken_54 : decode cX7_isShaken 54 = .ok (.aload_n 0, 1) := by decide +kernel
theorem dX7_isShaken_55 : decode cX7_isShaken 55 = .ok (.getfield 49, 3) := by decide +kernel
theorem dX7_isShaken_58 : decode cX7_isShaken 58 = .ok (.iload_n 1, 1) := by decide +kernel
theorem dX7_isShaken_59 : decode cX7_isShaken 59 = .ok (.iaload, 1) := by decide +kernel
theorem dX7_isShaken_60 : decode cX7_isShaken 60 = .ok (.if_icmp .ne 22, 3) := by decide +kernel
theorem dX7_isShaken_63 : decode cX7_isShaken 63 = .ok (.aload_n 0, 1) := by decide +kernel
theorem dX7_isShaken_64 : decode cX7_isShaken 64 = .ok (.getfield 37, 3) := by decide +kernel
theorem dX7_isShaken_67 : decode cX7_isShaken 67 = .ok (.iload_n 3, 1) := by decide +kernel
theorem dX7_isShaken_68 : decode cX7_isShaken 68 = .ok (.iaload, 1) := by decide +kernel
theorem dX7_isShaken_69 : decode cX7_isShaken 69 = .ok (.aload_n 0, 1) := by decide +kernel
theorem dX7_isShaken_70 : decode cX7_isShaken 70 = .ok (.getfield 43, 3) := by decide +kernel
theorem dX7_isShaken_73 : decode cX7_isShaken 73 = .ok (.iload_n 1, 1) := by decide +kernel
theorem dX7_isShaken_74 : decode cX7_isShaken 74 = .ok (.iaload, 1) := by decide +kernel
theorem dX7_isShaken_75 : decode cX7_isShaken 75 = .ok (.if_icmp .gt 7, 3) := by decide +kernel
theorem dX7_isShaken_78 : decode cX7_isShaken 78 = .ok (.iconst 1, 1) := by decide +kernel
theorem dX7_isShaken_79 : decode cX7_isShaken 79 = .ok (.goto 4, 3) := by decide +kernel
theorem dX7_isShaken_82 : decode cX7_isShaken 82 = .ok (.iconst 0, 1) := by decide +kernel
theorem dX7_isShaken_83 : decode cX7_isShaken 83 = .ok (.istore_n 2, 1) := by decide +kernel
theorem dX7_isShaken_84 : decode cX7_isShaken 84 = .ok (.iload_n 2, 1) := by decide +kernel
theorem dX7_isShaken_85 : decode cX7_isShaken 85 = .ok (.ifCond .ne 43, 3) := by decide +kernel
theorem dX7_isShaken_88 : decode cX7_isShaken 88 = .ok (.aload_n 0, 1) := by decide +kernel
theorem dX7_isShaken_89 : decode cX7_isShaken 89 = .ok (.getfield 34, 3) := by decide +kernel
theorem dX7_isShaken_92 : decode cX7_isShaken 92 = .ok (.iload_n 3, 1) := by decide +kernel
theorem dX7_isShaken_93 : decode cX7_isShaken 93 = .ok (.iaload, 1) := by decide +kernel
theorem dX7_isShaken_94 : decode cX7_isShaken 94 = .ok (.iconst 1, 1) := by decide +kernel
theorem dX7_isShaken_95 : decode cX7_isShaken 95 = .ok (.if_icmp .ne 37, 3) := by decide +kernel
theorem dX7_isShaken_98 : decode cX7_isShaken 98 = .ok (.aload_n 0, 1) := by decide +kernel
theorem dX7_isShaken_99 : decode cX7_isShaken 99 = .ok (.getfield 40, 3) := by decide +kernel
theorem dX7_isShaken_102 : decode cX7_isShaken 102 = .ok (.iload_n 3, 1) := by decide +kernel
theorem dX7_isShaken_103 : decode cX7_isShaken 103 = .ok (.iaload, 1) := by decide +kernel
theorem dX7_isShaken_104 : decode cX7_isShaken 104 = .ok (.aload_n 0, 1) := by decide +kernel
theorem dX7_isShaken_105 : decode cX7_isShaken 105 = .ok (.getfield 46, 3) := by decide +kernel
theorem dX7_isShaken_108 : decode cX7_isShaken 108 = .ok (.iload_n 1, 1) := by decide +kernel
theorem dX7_isShaken_109 : decode cX7_isShaken 109 = .ok (.iaload, 1) := by decide +kernel
theorem dX7_isShaken_110 : decode cX7_isShaken 110 = .ok (.if_icmp .ne 22, 3) := by decide +kernel
theorem dX7_isShaken_113 : decode cX7_isShaken 113 = .ok (.aload_n 0, 1) := by decide +kernel
theorem dX7_isShaken_114 : decode cX7_isShaken 114 = .ok (.getfield 37, 3) := by decide +kernel
theorem dX7_isShaken_117 : decode cX7_isShaken 117 = .ok (.iload_n 3, 1) := by decide +kernel
theorem dX7_isShaken_118 : decode cX7_isShaken 118 = .ok (.iaload, 1) := by decide +kernel
theorem dX7_isShaken_119 : decode cX7_isShaken 119 = .ok (.aload_n 0, 1) := by decide +kernel
theorem dX7_isShaken_120 : decode cX7_isShaken 120 = .ok (.getfield 43, 3) := by decide +kernel
theorem dX7_isShaken_123 : decode cX7_isShaken 123 = .ok (.iload_n 1, 1) := by decide +kernel
theorem dX7_isShaken_124 : decode cX7_isShaken 124 = .ok (.iaload, 1) := by decide +kernel
theorem dX7_isShaken_125 : decode cX7_isShaken 125 = .ok (.if_icmp .ne 7, 3) := by decide +kernel
theorem dX7_isShaken_128 : decode cX7_isShaken 128 = .ok (.iconst 1, 1) := by decide +kernel
theorem dX7_isShaken_129 : decode cX7_isShaken 129 = .ok (.goto 4, 3) := by decide +kernel
theorem dX7_isShaken_132 : decode cX7_isShaken 132 = .ok (.iconst 0, 1) := by decide +kernel
theorem dX7_isShaken_133 : decode cX7_isShaken 133 = .ok (.istore_n 2, 1) := by decide +kernel
theorem dX7_isShaken_134 : decode cX7_isShaken 134 = .ok (.iinc 3 1, 3) := by decide +kernel
theorem dX7_isShaken_137 : decode cX7_isShaken 137 = .ok (.goto (-121), 3) := by decide +kernel
theorem dX7_isShaken_140 : decode cX7_isShaken 140 = .ok (.iload_n 2, 1) := by decide +kernel
theorem dX7_isShaken_141 : decode cX7_isShaken 141 = .ok (.ireturn, 1) := by decide +kernel
theorem dX7_countsAll_0 : decode cX7_countsAll 0 = .ok (.iconst 0, 1) := by decide +kernel
theorem dX7_countsAll_1 : decode cX7_countsAll 1 = .ok (.istore_n 1, 1) := by decide +kernel
theorem dX7_countsAll_2 : decode cX7_countsAll 2 = .ok (.iload_n 1, 1) := by decide +kernel
theorem dX7_countsAll_3 : decode cX7_countsAll 3 = .ok (.aload_n 0, 1) := by decide +kernel
theorem dX7_countsAll_4 : decode cX7_countsAll 4 = .ok (.getfield 184, 3) := by decide +kernel
theorem dX7_countsAll_7 : decode cX7_countsAll 7 = .ok (.if_icmp .ge 94, 3) := by decide +kernel
theorem dX7_countsAll_10 : decode cX7_countsAll 10 = .ok (.aload_n 0, 1) := by decide +kernel
theorem dX7_countsAll_11 : decode cX7_countsAll 11 = .ok (.getfield 61, 3) := by decide +kernel
theorem dX7_countsAll_14 : decode cX7_countsAll 14 = .ok (.iload_n 1, 1) := by decide +kernel
theorem dX7_countsAll_15 : decode cX7_countsAll 15 = .ok (.iconst (-1), 1) := by decide +kernel
theorem dX7_countsAll_16 : decode cX7_countsAll 16 = .ok (.iastore, 1) := by decide +kernel
theorem dX7_countsAll_17 : decode cX7_countsAll 17 = .ok (.iload_n 1, 1) := by decide +kernel
theorem dX7_countsAll_18 : decode cX7_countsAll 18 = .ok (.iconst 1, 1) := by decide +kernel
theorem dX7_countsAll_19 : decode cX7_countsAll 19 = .ok (.isub, 1) := by decide +kernel
theorem dX7_countsAll_20 : decode cX7_countsAll 20 = .ok (.istore_n 2, 1) := by decide +kernel
theorem dX7_countsAll_21 : decode cX7_countsAll 21 = .ok (.iload_n 2, 1) := by decide +kernel
theorem dX7_countsAll_22 : decode cX7_countsAll 22 = .ok (.ifCond .lt 44, 3) := by decide +kernel
theorem dX7_countsAll_25 : decode cX7_countsAll 25 = .ok (.aload_n 0, 1) := by decide +kernel
theorem dX7_countsAll_26 : decode cX7_countsAll 26 = .ok (.getfield 61, 3) := by decide +kernel
theorem dX7_countsAll_29 : decode cX7_countsAll 29 = .ok (.iload_n 1, 1) := by decide +kernel
theorem dX7_countsAll_30 : decode cX7_countsAll 30 = .ok (.aload_n 0, 1) := by decide +kernel
theorem dX7_countsAll_31 : decode cX7_countsAll 31 = .ok (.getfield 55, 3) := by decide +kernel
theorem dX7_countsAll_34 : decode cX7_countsAll 34 = .ok (.iload_n 2, 1) := by decide +kernel
theorem dX7_countsAll_35 : decode cX7_countsAll 35 = .ok (.iaload, 1) := by decide +kernel
theorem dX7_countsAll_36 : decode cX7_countsAll 36 = .ok (.iconst 1, 1) := by decide +kernel
theorem dX7_countsAll_37 : decode cX7_countsAll 37 = .ok (.if_icmp .ne 16, 3) := by decide +kernel
theorem dX7_countsAll_40 : decode cX7_countsAll 40 = .ok (.aload_n 0, 1) := by decide +kernel
theorem dX7_countsAll_41 : decode cX7_countsAll 41 = .ok (.iload_n 2, 1) := by decide +kernel
theorem dX7_countsAll_42 : decode cX7_countsAll 42 = .ok (.iload_n 1, 1) := by decide +kernel
theorem dX7_countsAll_43 : decode cX7_countsAll 43 = .ok (.invokevirtual 200, 3) := by decide +kernel
theorem dX7_countsAll_46 : decode cX7_countsAll 46 = .ok (.ifCond .eq 7, 3) := by decide +kernel
theorem dX7_countsAll_49 : decode cX7_countsAll 49 = .ok (.iload_n 2, 1) := by decide +kernel
theorem dX7_countsAll_50 : decode cX7_countsAll 50 = .ok (.goto 9, 3) := by decide +kernel
theorem dX7_countsAll_53 : decode cX7_countsAll 53 = .ok (.aload_n 0, 1) := by decide +kernel
theorem dX7_countsAll_54 : decode cX7_countsAll 54 = .ok (.getfield 61, 3) := by decide +kernel
theorem dX7_countsAll_57 : decode cX7_countsAll 57 = .ok (.iload_n 1, 1) := by decide +kernel
theorem dX7_countsAll_58 : decode cX7_countsAll 58 = .ok (.iaload, 1) := by decide +kernel
theorem dX7_countsAll_59 : decode cX7_countsAll 59 = .ok (.iastore, 1) := by decide +kernel
theorem dX7_countsAll_60 : decode cX7_countsAll 60 = .ok (.iinc 2 (-1), 3) := by decide +kernel
theorem dX7_countsAll_63 : decode cX7_countsAll 63 = .ok (.goto (-42), 3) := by decide +kernel
theorem dX7_countsAll_66 : decode cX7_countsAll 66 = .ok (.aload_n 0, 1) := by decide +kernel
theorem dX7_countsAll_67 : decode cX7_countsAll 67 = .ok (.getfield 55, 3) := by decide +kernel
theorem dX7_countsAll_70 : decode cX7_countsAll 70 = .ok (.iload_n 1, 1) := by decide +kernel
theorem dX7_countsAll_71 : decode cX7_countsAll 71 = .ok (.aload_n 0, 1) := by decide +kernel
theorem dX7_countsAll_72 : decode cX7_countsAll 72 = .ok (.iload_n 1, 1) := by decide +kernel
theorem dX7_countsAll_73 : decode cX7_countsAll 73 = .ok (.invokevirtual 203, 3) := by decide +kernel
theorem dX7_countsAll_76 : decode cX7_countsAll 76 = .ok (.ifCond .ne 17, 3) := by decide +kernel
theorem dX7_countsAll_79 : decode cX7_countsAll 79 = .ok (.aload_n 0, 1) := by decide +kernel
theorem dX7_countsAll_80 : decode cX7_countsAll 80 = .ok (.getfield 61, 3) := by decide +kernel
theorem dX7_countsAll_83 : decode cX7_countsAll 83 = .ok (.iload_n 1, 1) := by decide +kernel
theorem dX7_countsAll_84 : decode cX7_countsAll 84 = .ok (.iaload, 1) := by decide +kernel
theorem dX7_countsAll_85 : decode cX7_countsAll 85 = .ok (.iconst (-1), 1) := by decide +kernel
theorem dX7_countsAll_86 : decode cX7_countsAll 86 = .ok (.if_icmp .ne 7, 3) := by decide +kernel
theorem dX7_countsAll_89 : decode cX7_countsAll 89 = .ok (.iconst 1, 1) := by decide +kernel
theorem dX7_countsAll_90 : decode cX7_countsAll 90 = .ok (.goto 4, 3) := by decide +kernel
theorem dX7_countsAll_93 : decode cX7_countsAll 93 = .ok (.iconst 0, 1) := by decide +kernel
theorem dX7_countsAll_94 : decode cX7_countsAll 94 = .ok (.iastore, 1) := by decide +kernel
theorem dX7_countsAll_95 : decode cX7_countsAll 95 = .ok (.iinc 1 1, 3) := by decide +kernel
theorem dX7_countsAll_98 : decode cX7_countsAll 98 = .ok (.goto (-96), 3) := by decide +kernel
theorem dX7_countsAll_101 : decode cX7_countsAll 101 = .ok (.return_, 1) := by decide +kernel
theorem dX7_others_0 : decode cX7_others 0 = .ok (.iconst 0, 1) := by decide +kernel
theorem dX7_others_1 : decode cX7_others 1 = .ok (.istore_n 2, 1) := by decide +kernel
theorem dX7_others_2 : decode cX7_others 2 = .ok (.iconst 0, 1) := by decide +kernel
theorem dX7_others_3 : decode cX7_others 3 = .ok (.istore_n 3, 1) := by decide +kernel
theorem dX7_others_4 : decode cX7_others 4 = .ok (.iload_n 3, 1) := by decide +kernel
theorem dX7_others_5 : decode cX7_others 5 = .ok (.aload_n 0, 1) := by decide +kernel
theorem dX7_others_6 : decode cX7_others 6 = .ok (.getfield 184, 3) := by decide +kernel
theorem dX7_others_9 : decode cX7_others 9 = .ok (.if_icmp .ge 91, 3) := by decide +kernel
theorem dX7_others_12 : decode cX7_others 12 = .ok (.aload_n 0, 1) := by decide +kernel
theorem dX7_others_13 : decode cX7_others 13 = .ok (.getfield 55, 3) := by decide +kernel
theorem dX7_others_16 : decode cX7_others 16 = .ok (.iload_n 3, 1) := by decide +kernel
theorem dX7_others_17 : decode cX7_others 17 = .ok (.iaload, 1) := by decide +kernel
theorem dX7_others_18 : decode cX7_others 18 = .ok (.iconst 1, 1) := by decide +kernel
theorem dX7_others_19 : decode cX7_others 19 = .ok (.if_icmp .ne 52, 3) := by decide +kernel
theorem dX7_others_22 : decode cX7_others 22 = .ok (.aload_n 0, 1) := by decide +kernel
theorem dX7_others_23 : decode cX7_others 23 = .ok (.getfield 43, 3) := by decide +kernel
theorem dX7_others_26 : decode cX7_others 26 = .ok (.iload_n 3, 1) := by decide +kernel
theorem dX7_others_27 : decode cX7_others 27 = .ok (.iaload, 1) := by decide +kernel
theorem dX7_others_28 : decode cX7_others 28 = .ok (.aload_n 0, 1) := by decide +kernel
theorem dX7_others_29 : decode cX7_others 29 = .ok (.getfield 43, 3) := by decide +kernel
theorem dX7_others_32 : decode cX7_others 32 = .ok (.iload_n 1, 1) := by decide +kernel
theorem dX7_others_33 : decode cX7_others 33 = .ok (.iaload, 1) := by decide +kernel
theorem dX7_others_34 : decode cX7_others 34 = .ok (.if_icmp .ne 37, 3) := by decide +kernel
theorem dX7_others_37 : decode cX7_others 37 = .ok (.aload_n 0, 1) := by decide +kernel
theorem dX7_others_38 : decode cX7_others 38 = .ok (.getfield 46, 3) := by decide +kernel
theorem dX7_others_41 : decode cX7_others 41 = .ok (.iload_n 3, 1) := by decide +kernel
theorem dX7_others_42 : decode cX7_others 42 = .ok (.iaload, 1) := by decide +kernel
theorem dX7_others_43 : decode cX7_others 43 = .ok (.aload_n 0, 1) := by decide +kernel
theorem dX7_others_44 : decode cX7_others 44 = .ok (.getfield 46, 3) := by decide +kernel
theorem dX7_others_47 : decode cX7_others 47 = .ok (.iload_n 1, 1) := by decide +kernel
theorem dX7_others_48 : decode cX7_others 48 = .ok (.iaload, 1) := by decide +kernel
theorem dX7_others_49 : decode cX7_others 49 = .ok (.if_icmp .ne 22, 3) := by decide +kernel
theorem dX7_others_52 : decode cX7_others 52 = .ok (.aload_n 0, 1) := by decide +kernel
theorem dX7_others_53 : decode cX7_others 53 = .ok (.getfield 49, 3) := by decide +kernel
theorem dX7_others_56 : decode cX7_others 56 = .ok (.iload_n 3, 1) := by decide +kernel
theorem dX7_others_57 : decode cX7_others 57 = .ok (.iaload, 1) := by decide +kernel
theorem dX7_others_58 : decode cX7_others 58 = .ok (.aload_n 0, 1) := by decide +kernel
theorem dX7_others_59 : decode cX7_others 59 = .ok (.getfield 49, 3) := by decide +kernel
theorem dX7_others_62 : decode cX7_others 62 = .ok (.iload_n 1, 1) := by decide +kernel
theorem dX7_others_63 : decode cX7_others 63 = .ok (.iaload, 1) := by decide +kernel
theorem dX7_others_64 : decode cX7_others 64 = .ok (.if_icmp .eq 7, 3) := by decide +kernel
theorem dX7_others_67 : decode cX7_others 67 = .ok (.iconst 1, 1) := by decide +kernel
theorem dX7_others_68 : decode cX7_others 68 = .ok (.goto 4, 3) := by decide +kernel
theorem dX7_others_71 : decode cX7_others 71 = .ok (.iconst 0, 1) := by decide +kernel
theorem dX7_others_72 : decode cX7_others 72 = .ok (.istore 4, 2) := by decide +kernel
theorem dX7_others_74 : decode cX7_others 74 = .ok (.iload_n 2, 1) := by decide +kernel
theorem dX7_others_75 : decode cX7_others 75 = .ok (.iload 4, 2) := by decide +kernel
theorem dX7_others_77 : decode cX7_others 77 = .ok (.ifCond .eq 14, 3) := by decide +kernel
theorem dX7_others_80 : decode cX7_others 80 = .ok (.iconst 1, 1) := by decide +kernel
theorem dX7_others_81 : decode cX7_others 81 = .ok (.aload_n 0, 1) := by decide +kernel
theorem dX7_others_82 : decode cX7_others 82 = .ok (.getfield 49, 3) := by decide +kernel
theorem dX7_others_85 : decode cX7_others 85 = .ok (.iload_n 3, 1) := by decide +kernel
theorem dX7_others_86 : decode cX7_others 86 = .ok (.iaload, 1) := by decide +kernel
theorem dX7_others_87 : decode cX7_others 87 = .ok (.ishl, 1) := by decide +kernel
theorem dX7_others_88 : decode cX7_others 88 = .ok (.goto 4, 3) := by decide +kernel
theorem dX7_others_91 : decode cX7_others 91 = .ok (.iconst 0, 1) := by decide +kernel
theorem dX7_others_92 : decode cX7_others 92 = .ok (.ior, 1) := by decide +kernel
theorem dX7_others_93 : decode cX7_others 93 = .ok (.istore_n 2, 1) := by decide +kernel
theorem dX7_others_94 : decode cX7_others 94 = .ok (.iinc 3 1, 3) := by decide +kernel
theorem dX7_others_97 : decode cX7_others 97 = .ok (.goto (-93), 3) := by decide +kernel
theorem dX7_others_100 : decode cX7_others 100 = .ok (.iconst 0, 1) := by decide +kernel
theorem dX7_others_101 : decode cX7_others 101 = .ok (.istore_n 3, 1) := by decide +kernel
theorem dX7_others_102 : decode cX7_others 102 = .ok (.iconst 0, 1) := by decide +kernel
theorem dX7_others_103 : decode cX7_others 103 = .ok (.istore 4, 2) := by decide +kernel
theorem dX7_others_105 : decode cX7_others 105 = .ok (.iload 4, 2) := by decide +kernel
theorem dX7_others_107 : decode cX7_others 107 = .ok (.bipush 10, 2) := by decide +kernel
theorem dX7_others_109 : decode cX7_others 109 = .ok (.if_icmp .ge 26, 3) := by decide +kernel
theorem dX7_others_112 : decode cX7_others 112 = .ok (.iload_n 3, 1) := by decide +kernel
theorem dX7_others_113 : decode cX7_others 113 = .ok (.iload_n 2, 1) := by decide +kernel
theorem dX7_others_114 : decode cX7_others 114 = .ok (.iload 4, 2) := by decide +kernel
theorem dX7_others_116 : decode cX7_others 116 = .ok (.invokestatic 196, 3) := by decide +kernel
theorem dX7_others_119 : decode cX7_others 119 = .ok (.ifCond .eq 7, 3) := by decide +kernel
theorem dX7_others_122 : decode cX7_others 122 = .ok (.iconst 1, 1) := by decide +kernel
theorem dX7_others_123 : decode cX7_others 123 = .ok (.goto 4, 3) := by decide +kernel
theorem dX7_others_126 : decode cX7_others 126 = .ok (.iconst 0, 1) := by decide +kernel
theorem dX7_others_127 : decode cX7_others 127 = .ok (.iadd, 1) := by decide +kernel
theorem dX7_others_128 : decode cX7_others 128 = .ok (.istore_n 3, 1) := by decide +kernel
theorem dX7_others_129 : decode cX7_others 129 = .ok (.iinc 4 1, 3) := by decide +kernel
theorem dX7_others_132 : decode cX7_others 132 = .ok (.goto (-27), 3) := by decide +kernel
theorem dX7_others_135 : decode cX7_others 135 = .ok (.iload_n 3, 1) := by decide +kernel
theorem dX7_others_136 : decode cX7_others 136 = .ok (.ireturn, 1) := by decide +kernel
theorem dX7_isLiar_0 : decode cX7_isLiar 0 = .ok (.iconst 0, 1) := by decide +kernel
theorem dX7_isLiar_1 : decode cX7_isLiar 1 = .ok (.istore_n 2, 1) := by decide +kernel
theorem dX7_isLiar_2 : decode cX7_isLiar 2 = .ok (.iconst 0, 1) := by decide +kernel
theorem dX7_isLiar_3 : decode cX7_isLiar 3 = .ok (.istore_n 3, 1) := by decide +kernel
theorem dX7_isLiar_4 : decode cX7_isLiar 4 = .ok (.iload_n 3, 1) := by decide +kernel
theorem dX7_isLiar_5 : decode cX7_isLiar 5 = .ok (.aload_n 0, 1) := by decide +kernel
theorem dX7_isLiar_6 : decode cX7_isLiar 6 = .ok (.getfield 184, 3) := by decide +kernel
theorem dX7_isLiar_9 : decode cX7_isLiar 9 = .ok (.if_icmp .ge 46, 3) := by decide +kernel
theorem dX7_isLiar_12 : decode cX7_isLiar 12 = .ok (.iload_n 2, 1) := by decide +kernel
theorem dX7_isLiar_13 : decode cX7_isLiar 13 = .ok (.ifCond .ne 30, 3) := by decide +kernel
theorem dX7_isLiar_16 : decode cX7_isLiar 16 = .ok (.iload_n 3, 1) := by decide +kernel
theorem dX7_isLiar_17 : decode cX7_isLiar 17 = .ok (.aload_n 0, 1) := by decide +kernel
theorem dX7_isLiar_18 : decode cX7_isLiar 18 = .ok (.getfield 187, 3) := by decide +kernel
theorem dX7_isLiar_21 : decode cX7_isLiar 21 = .ok (.if_icmp .eq 26, 3) := by decide +kernel
theorem dX7_isLiar_24 : decode cX7_isLiar 24 = .ok (.aload_n 0, 1) := by decide +kernel
theorem dX7_isLiar_25 : decode cX7_isLiar 25 = .ok (.getfield 49, 3) := by decide +kernel
theorem dX7_isLiar_28 : decode cX7_isLiar 28 = .ok (.iload_n 3, 1) := by decide +kernel
theorem dX7_isLiar_29 : decode cX7_isLiar 29 = .ok (.iaload, 1) := by decide +kernel
theorem dX7_isLiar_30 : decode cX7_isLiar 30 = .ok (.iload_n 1, 1) := by decide +kernel
theorem dX7_isLiar_31 : decode cX7_isLiar 31 = .ok (.if_icmp .ne 16, 3) := by decide +kernel
theorem dX7_isLiar_34 : decode cX7_isLiar 34 = .ok (.aload_n 0, 1) := by decide +kernel
theorem dX7_isLiar_35 : decode cX7_isLiar 35 = .ok (.getfield 55, 3) := by decide +kernel
theorem dX7_isLiar_38 : decode cX7_isLiar 38 = .ok (.iload_n 3, 1) := by decide +kernel
theorem dX7_isLiar_39 : decode cX7_isLiar 39 = .ok (.iaload, 1) := by decide +kernel
theorem dX7_isLiar_40 : decode cX7_isLiar 40 = .ok (.ifCond .ne 7, 3) := by decide +kernel
theorem dX7_isLiar_43 : decode cX7_isLiar 43 = .ok (.iconst 1, 1) := by decide +kernel
theorem dX7_isLiar_44 : decode cX7_isLiar 44 = .ok (.goto 4, 3) := by decide +kernel
theorem dX7_isLiar_47 : decode cX7_isLiar 47 = .ok (.iconst 0, 1) := by decide +kernel
theorem dX7_isLiar_48 : decode cX7_isLiar 48 = .ok (.istore_n 2, 1) := by decide +kernel
theorem dX7_isLiar_49 : decode cX7_isLiar 49 = .ok (.iinc 3 1, 3) := by decide +kernel
theorem dX7_isLiar_52 : decode cX7_isLiar 52 = .ok (.goto (-48), 3) := by decide +kernel
theorem dX7_isLiar_55 : decode cX7_isLiar 55 = .ok (.iload_n 2, 1) := by decide +kernel
theorem dX7_isLiar_56 : decode cX7_isLiar 56 = .ok (.ireturn, 1) := by decide +kernel
theorem dX7_weighsAll_0 : decode cX7_weighsAll 0 = .ok (.iconst 0, 1) := by decide +kernel
theorem dX7_weighsAll_1 : decode cX7_weighsAll 1 = .ok (.istore_n 1, 1) := by decide +kernel
theorem dX7_weighsAll_2 : decode cX7_weighsAll 2 = .ok (.iload_n 1, 1) := by decide +kernel
theorem dX7_weighsAll_3 : decode cX7_weighsAll 3 = .ok (.aload_n 0, 1) := by decide +kernel
theorem dX7_weighsAll_4 : decode cX7_weighsAll 4 = .ok (.getfield 184, 3) := by decide +kernel
theorem dX7_weighsAll_7 : decode cX7_weighsAll 7 = .ok (.if_icmp .ge 93, 3) := by decide +kernel
theorem dX7_weighsAll_10 : decode cX7_weighsAll 10 = .ok (.iconst 1, 1) := by decide +kernel
theorem dX7_weighsAll_11 : decode cX7_weighsAll 11 = .ok (.aload_n 0, 1) := by decide +kernel
theorem dX7_weighsAll_12 : decode cX7_weighsAll 12 = .ok (.iload_n 1, 1) := by decide +kernel
theorem dX7_weighsAll_13 : decode cX7_weighsAll 13 = .ok (.invokevirtual 206, 3) := by decide +kernel
theorem dX7_weighsAll_16 : decode cX7_weighsAll 16 = .ok (.iadd, 1) := by decide +kernel
theorem dX7_weighsAll_17 : decode cX7_weighsAll 17 = .ok (.istore_n 2, 1) := by decide +kernel
theorem dX7_weighsAll_18 : decode cX7_weighsAll 18 = .ok (.aload_n 0, 1) := by decide +kernel
theorem dX7_weighsAll_19 : decode cX7_weighsAll 19 = .ok (.getfield 52, 3) := by decide +kernel
theorem dX7_weighsAll_22 : decode cX7_weighsAll 22 = .ok (.iload_n 1, 1) := by decide +kernel
theorem dX7_weighsAll_23 : decode cX7_weighsAll 23 = .ok (.iaload, 1) := by decide +kernel
theorem dX7_weighsAll_24 : decode cX7_weighsAll 24 = .ok (.ifCond .ne 7, 3) := by decide +kernel
theorem dX7_weighsAll_27 : decode cX7_weighsAll 27 = .ok (.iconst 3, 1) := by decide +kernel
theorem dX7_weighsAll_28 : decode cX7_weighsAll 28 = .ok (.goto 44, 3) := by decide +kernel
theorem dX7_weighsAll_31 : decode cX7_weighsAll 31 = .ok (.aload_n 0, 1) := by decide +kernel
theorem dX7_weighsAll_32 : decode cX7_weighsAll 32 = .ok (.getfield 52, 3) := by decide +kernel
theorem dX7_weighsAll_35 : decode cX7_weighsAll 35 = .ok (.iload_n 1, 1) := by decide +kernel
theorem dX7_weighsAll_36 : decode cX7_weighsAll 36 = .ok (.iaload, 1) := by decide +kernel
theorem dX7_weighsAll_37 : decode cX7_weighsAll 37 = .ok (.iconst 1, 1) := by decide +kernel
theorem dX7_weighsAll_38 : decode cX7_weighsAll 38 = .ok (.if_icmp .ne 16, 3) := by decide +kernel
theorem dX7_weighsAll_41 : decode cX7_weighsAll 41 = .ok (.iload_n 2, 1) := by decide +kernel
theorem dX7_weighsAll_42 : decode cX7_weighsAll 42 = .ok (.iconst 3, 1) := by decide +kernel
theorem dX7_weighsAll_43 : decode cX7_weighsAll 43 = .ok (.if_icmp .ge 7, 3) := by decide +kernel
theorem dX7_weighsAll_46 : decode cX7_weighsAll 46 = .ok (.iload_n 2, 1) := by decide +kernel
theorem dX7_weighsAll_47 : decode cX7_weighsAll 47 = .ok (.goto 25, 3) := by decide +kernel
theorem dX7_weighsAll_50 : decode cX7_weighsAll 50 = .ok (.iconst 3, 1) := by decide +kernel
theorem dX7_weighsAll_51 : decode cX7_weighsAll 51 = .ok (.goto 21, 3) := by decide +kernel
theorem dX7_weighsAll_54 : decode cX7_weighsAll 54 = .ok (.aload_n 0, 1) := by decide +kernel
theorem dX7_weighsAll_55 : decode cX7_weighsAll 55 = .ok (.aload_n 0, 1) := by decide +kernel
theorem dX7_weighsAll_56 : decode cX7_weighsAll 56 = .ok (.getfield 49, 3) := by decide +kernel
theorem dX7_weighsAll_59 : decode cX7_weighsAll 59 = .ok (.iload_n 1, 1) := by decide +kernel
theorem dX7_weighsAll_60 : decode cX7_weighsAll 60 = .ok (.iaload, 1) := by decide +kernel
theorem dX7_weighsAll_61 : decode cX7_weighsAll 61 = .ok (.invokevirtual 209, 3) := by decide +kernel
theorem dX7_weighsAll_64 : decode cX7_weighsAll 64 = .ok (.ifCond .eq 7, 3) := by decide +kernel
theorem dX7_weighsAll_67 : decode cX7_weighsAll 67 = .ok (.iconst 0, 1) := by decide +kernel
theorem dX7_weighsAll_68 : decode cX7_weighsAll 68 = .ok (.goto 4, 3) := by decide +kernel
theorem dX7_weighsAll_71 : decode cX7_weighsAll 71 = .ok (.iconst 2, 1) := by decide +kernel
theorem dX7_weighsAll_72 : decode cX7_weighsAll 72 = .ok (.istore_n 3, 1) := by decide +kernel
theorem dX7_weighsAll_73 : decode cX7_weighsAll 73 = .ok (.aload_n 0, 1) := by decide +kernel
theorem dX7_weighsAll_74 : decode cX7_weighsAll 74 = .ok (.getfield 58, 3) := by decide +kernel
theorem dX7_weighsAll_77 : decode cX7_weighsAll 77 = .ok (.iload_n 1, 1) := by decide +kernel
theorem dX7_weighsAll_78 : decode cX7_weighsAll 78 = .ok (.aload_n 0, 1) := by decide +kernel
theorem dX7_weighsAll_79 : decode cX7_weighsAll 79 = .ok (.getfield 55, 3) := by decide +kernel
theorem dX7_weighsAll_82 : decode cX7_weighsAll 82 = .ok (.iload_n 1, 1) := by decide +kernel
theorem dX7_weighsAll_83 : decode cX7_weighsAll 83 = .ok (.iaload, 1) := by decide +kernel
theorem dX7_weighsAll_84 : decode cX7_weighsAll 84 = .ok (.iconst 1, 1) := by decide +kernel
theorem dX7_weighsAll_85 : decode cX7_weighsAll 85 = .ok (.if_icmp .ne 7, 3) := by decide +kernel
theorem dX7_weighsAll_88 : decode cX7_weighsAll 88 = .ok (.iload_n 3, 1) := by decide +kernel
theorem dX7_weighsAll_89 : decode cX7_weighsAll 89 = .ok (.goto 4, 3) := by decide +kernel
theorem dX7_weighsAll_92 : decode cX7_weighsAll 92 = .ok (.iconst 0, 1) := by decide +kernel
theorem dX7_weighsAll_93 : decode cX7_weighsAll 93 = .ok (.iastore, 1) := by decide +kernel
theorem dX7_weighsAll_94 : decode cX7_weighsAll 94 = .ok (.iinc 1 1, 3) := by decide +kernel
theorem dX7_weighsAll_97 : decode cX7_weighsAll 97 = .ok (.goto (-95), 3) := by decide +kernel
theorem dX7_weighsAll_100 : decode cX7_weighsAll 100 = .ok (.return_, 1) := by decide +kernel
theorem dX7_letters_0 : decode cX7_letters 0 = .ok (.iconst 0, 1) := by decide +kernel
theorem dX7_letters_1 : decode cX7_letters 1 = .ok (.istore_n 3, 1) := by decide +kernel
theorem dX7_letters_2 : decode cX7_letters 2 = .ok (.iconst 0, 1) := by decide +kernel
theorem dX7_letters_3 : decode cX7_letters 3 = .ok (.istore 4, 2) := by decide +kernel
theorem dX7_letters_5 : decode cX7_letters 5 = .ok (.iload 4, 2) := by decide +kernel
theorem dX7_letters_7 : decode cX7_letters 7 = .ok (.aload_n 0, 1) := by decide +kernel
theorem dX7_letters_8 : decode cX7_letters 8 = .ok (.getfield 171, 3) := by decide +kernel
theorem dX7_letters_11 : decode cX7_letters 11 = .ok (.if_icmp .ge 62, 3) := by decide +kernel
theorem dX7_letters_14 : decode cX7_letters 14 = .ok (.iload_n 3, 1) := by decide +kernel
theorem dX7_letters_15 : decode cX7_letters 15 = .ok (.aload_n 0, 1) := by decide +kernel
theorem dX7_letters_16 : decode cX7_letters 16 = .ok (.getfield 34, 3) := by decide +kernel
theorem dX7_letters_19 : decode cX7_letters 19 = .ok (.iload 4, 2) := by decide +kernel
theorem dX7_letters_21 : decode cX7_letters 21 = .ok (.iaload, 1) := by decide +kernel
theorem dX7_letters_22 : decode cX7_letters 22 = .ok (.iconst 2, 1) := by decide +kernel
theorem dX7_letters_23 : decode cX7_letters 23 = .ok (.if_icmp .ne 41, 3) := by decide +kernel
theorem dX7_letters_26 : decode cX7_letters 26 = .ok (.aload_n 0, 1) := by decide +kernel
theorem dX7_letters_27 : decode cX7_letters 27 = .ok (.getfield 40, 3) := by decide +kernel
theorem dX7_letters_30 : decode cX7_letters 30 = .ok (.iload 4, 2) := by decide +kernel
theorem dX7_letters_32 : decode cX7_letters 32 = .ok (.iaload, 1) := by decide +kernel
theorem dX7_letters_33 : decode cX7_letters 33 = .ok (.iload_n 1, 1) := by decide +kernel
theorem dX7_letters_34 : decode cX7_letters 34 = .ok (.if_icmp .ne 30, 3) := by decide +kernel
theorem dX7_letters_37 : decode cX7_letters 37 = .ok (.aload_n 0, 1) := by decide +kernel
theorem dX7_letters_38 : decode cX7_letters 38 = .ok (.getfield 37, 3) := by decide +kernel
theorem dX7_letters_41 : decode cX7_letters 41 = .ok (.iload 4, 2) := by decide +kernel
theorem dX7_letters_43 : decode cX7_letters 43 = .ok (.iaload, 1) := by decide +kernel
theorem dX7_letters_44 : decode cX7_letters 44 = .ok (.iload_n 2, 1) := by decide +kernel
theorem dX7_letters_45 : decode cX7_letters 45 = .ok (.if_icmp .ne 19, 3) := by decide +kernel
theorem dX7_letters_48 : decode cX7_letters 48 = .ok (.aload_n 0, 1) := by decide +kernel
theorem dX7_letters_49 : decode cX7_letters 49 = .ok (.getfield 190, 3) := by decide +kernel
theorem dX7_letters_52 : decode cX7_letters 52 = .ok (.iload 4, 2) := by decide +kernel
theorem dX7_letters_54 : decode cX7_letters 54 = .ok (.invokestatic 196, 3) := by decide +kernel
theorem dX7_letters_57 : decode cX7_letters 57 = .ok (.ifCond .ne 7, 3) := by decide +kernel
theorem dX7_letters_60 : decode cX7_letters 60 = .ok (.iconst 1, 1) := by decide +kernel
theorem dX7_letters_61 : decode cX7_letters 61 = .ok (.goto 4, 3) := by decide +kernel
theorem dX7_letters_64 : decode cX7_letters 64 = .ok (.iconst 0, 1) := by decide +kernel
theorem dX7_letters_65 : decode cX7_letters 65 = .ok (.iadd, 1) := by decide +kernel
theorem dX7_letters_66 : decode cX7_letters 66 = .ok (.istore_n 3, 1) := by decide +kernel
theorem dX7_letters_67 : decode cX7_letters 67 = .ok (.iinc 4 1, 3) := by decide +kernel
theorem dX7_letters_70 : decode cX7_letters 70 = .ok (.goto (-65), 3) := by decide +kernel
theorem dX7_letters_73 : decode cX7_letters 73 = .ok (.iload_n 3, 1) := by decide +kernel
theorem dX7_letters_74 : decode cX7_letters 74 = .ok (.ireturn, 1) := by decide +kernel
theorem dX7_standsIn_0 : decode cX7_standsIn 0 = .ok (.bipush 24, 2) := by decide +kernel
theorem dX7_standsIn_2 : decode cX7_standsIn 2 = .ok (.istore_n 2, 1) := by decide +kernel
theorem dX7_standsIn_3 : decode cX7_standsIn 3 = .ok (.iconst 0, 1) := by decide +kernel
theorem dX7_standsIn_4 : decode cX7_standsIn 4 = .ok (.istore_n 3, 1) := by decide +kernel
theorem dX7_standsIn_5 : decode cX7_standsIn 5 = .ok (.iload_n 3, 1) := by decide +kernel
theorem dX7_standsIn_6 : decode cX7_standsIn 6 = .ok (.aload_n 0, 1) := by decide +kernel
theorem dX7_standsIn_7 : decode cX7_standsIn 7 = .ok (.getfield 184, 3) := by decide +kernel
theorem dX7_standsIn_10 : decode cX7_standsIn 10 = .ok (.if_icmp .ge 50, 3) := by decide +kernel
theorem dX7_standsIn_13 : decode cX7_standsIn 13 = .ok (.aload_n 0, 1) := by decide +kernel
theorem dX7_standsIn_14 : decode cX7_standsIn 14 = .ok (.getfield 55, 3) := by decide +kernel
theorem dX7_standsIn_17 : decode cX7_standsIn 17 = .ok (.iload_n 3, 1) := by decide +kernel
theorem dX7_standsIn_18 : decode cX7_standsIn 18 = .ok (.iaload, 1) := by decide +kernel
theorem dX7_standsIn_19 : decode cX7_standsIn 19 = .ok (.iconst 1, 1) := by decide +kernel
theorem dX7_standsIn_20 : decode cX7_standsIn 20 = .ok (.if_icmp .ne 32, 3) := by decide +kernel
theorem dX7_standsIn_23 : decode cX7_standsIn 23 = .ok (.aload_n 0, 1) := by decide +kernel
theorem dX7_standsIn_24 : decode cX7_standsIn 24 = .ok (.getfield 46, 3) := by decide +kernel
theorem dX7_standsIn_27 : decode cX7_standsIn 27 = .ok (.iload_n 3, 1) := by decide +kernel
theorem dX7_standsIn_28 : decode cX7_standsIn 28 = .ok (.iaload, 1) := by decide +kernel
theorem dX7_standsIn_29 : decode cX7_standsIn 29 = .ok (.iload_n 1, 1) := by decide +kernel
theorem dX7_standsIn_30 : decode cX7_standsIn 30 = .ok (.if_icmp .ne 22, 3) := by decide +kernel
theorem dX7_standsIn_33 : decode cX7_standsIn 33 = .ok (.aload_n 0, 1) := by decide +kernel
theorem dX7_standsIn_34 : decode cX7_standsIn 34 = .ok (.getfield 43, 3) := by decide +kernel
theorem dX7_standsIn_37 : decode cX7_standsIn 37 = .ok (.iload_n 3, 1) := by decide +kernel
theorem dX7_standsIn_38 : decode cX7_standsIn 38 = .ok (.iaload, 1) := by decide +kernel
theorem dX7_standsIn_39 : decode cX7_standsIn 39 = .ok (.iload_n 2, 1) := by decide +kernel
theorem dX7_standsIn_40 : decode cX7_standsIn 40 = .ok (.if_icmp .ge 12, 3) := by decide +kernel
theorem dX7_standsIn_43 : decode cX7_standsIn 43 = .ok (.aload_n 0, 1) := by decide +kernel
theorem dX7_standsIn_44 : decode cX7_standsIn 44 = .ok (.getfield 43, 3) := by decide +kernel
theorem dX7_standsIn_47 : decode cX7_standsIn 47 = .ok (.iload_n 3, 1) := by decide +kernel
theorem dX7_standsIn_48 : decode cX7_standsIn 48 = .ok (.iaload, 1) := by decide +kernel
theorem dX7_standsIn_49 : decode cX7_standsIn 49 = .ok (.goto 4, 3) := by decide +kernel
theorem dX7_standsIn_52 : decode cX7_standsIn 52 = .ok (.iload_n 2, 1) := by decide +kernel
theorem dX7_standsIn_53 : decode cX7_standsIn 53 = .ok (.istore_n 2, 1) := by decide +kernel
theorem dX7_standsIn_54 : decode cX7_standsIn 54 = .ok (.iinc 3 1, 3) := by decide +kernel
theorem dX7_standsIn_57 : decode cX7_standsIn 57 = .ok (.goto (-52), 3) := by decide +kernel
theorem dX7_standsIn_60 : decode cX7_standsIn 60 = .ok (.iconst 0, 1) := by decide +kernel
theorem dX7_standsIn_61 : decode cX7_standsIn 61 = .ok (.istore_n 3, 1) := by decide +kernel
theorem dX7_standsIn_62 : decode cX7_standsIn 62 = .ok (.iconst 0, 1) := by decide +kernel
theorem dX7_standsIn_63 : decode cX7_standsIn 63 = .ok (.istore 4, 2) := by decide +kernel
theorem dX7_standsIn_65 : decode cX7_standsIn 65 = .ok (.iload 4, 2) := by decide +kernel
theorem dX7_standsIn_67 : decode cX7_standsIn 67 = .ok (.bipush 24, 2) := by decide +kernel
theorem dX7_standsIn_69 : decode cX7_standsIn 69 = .ok (.if_icmp .ge 207, 3) := by decide +kernel
theorem dX7_standsIn_72 : decode cX7_standsIn 72 = .ok (.bipush 24, 2) := by decide +kernel
theorem dX7_standsIn_74 : decode cX7_standsIn 74 = .ok (.iload_n 1, 1) := by decide +kernel
theorem dX7_standsIn_75 : decode cX7_standsIn 75 = .ok (.imul, 1) := by decide +kernel
theorem dX7_standsIn_76 : decode cX7_standsIn 76 = .ok (.iload 4, 2) := by decide +kernel
theorem dX7_standsIn_78 : decode cX7_standsIn 78 = .ok (.iadd, 1) := by decide +kernel
theorem dX7_standsIn_79 : decode cX7_standsIn 79 = .ok (.istore 5, 2) := by decide +kernel
theorem dX7_standsIn_81 : decode cX7_standsIn 81 = .ok (.aload_n 0, 1) := by decide +kernel
theorem dX7_standsIn_82 : decode cX7_standsIn 82 = .ok (.getfield 64, 3) := by decide +kernel
theorem dX7_standsIn_85 : decode cX7_standsIn 85 = .ok (.iload 5, 2) := by decide +kernel
theorem dX7_standsIn_87 : decode cX7_standsIn 87 = .ok (.iconst 0, 1) := by decide +kernel
theorem dX7_standsIn_88 : decode cX7_standsIn 88 = .ok (.iastore, 1) := by decide +kernel
theorem dX7_standsIn_89 : decode cX7_standsIn 89 = .ok (.iconst 0, 1) := by decide +kernel
theorem dX7_standsIn_90 : decode cX7_standsIn 90 = .ok (.istore 6, 2) := by decide +kernel
theorem dX7_standsIn_92 : decode cX7_standsIn 92 = .ok (.iload 6, 2) := by decide +kernel
theorem dX7_standsIn_94 : decode cX7_standsIn 94 = .ok (.aload_n 0, 1) := by decide +kernel
theorem dX7_standsIn_95 : decode cX7_standsIn 95 = .ok (.getfield 184, 3) := by decide +kernel
theorem dX7_standsIn_98 : decode cX7_standsIn 98 = .ok (.if_icmp .ge 53, 3) := by decide +kernel
theorem dX7_standsIn_101 : decode cX7_standsIn 101 = .ok (.aload_n 0, 1) := by decide +kernel
theorem dX7_standsIn_102 : decode cX7_standsIn 102 = .ok (.getfield 64, 3) := by decide +kernel
theorem dX7_standsIn_105 : decode cX7_standsIn 105 = .ok (.iload 5, 2) := by decide +kernel
theorem dX7_standsIn_107 : decode cX7_standsIn 107 = .ok (.dup2, 1) := by decide +kernel
theorem dX7_standsIn_108 : decode cX7_standsIn 108 = .ok (.iaload, 1) := by decide +kernel
theorem dX7_standsIn_109 : decode cX7_standsIn 109 = .ok (.aload_n 0, 1) := by decide +kernel
theorem dX7_standsIn_110 : decode cX7_standsIn 110 = .ok (.getfield 46, 3) := by decide +kernel
theorem dX7_standsIn_113 : decode cX7_standsIn 113 = .ok (.iload 6, 2) := by decide +kernel
theorem dX7_standsIn_115 : decode cX7_standsIn 115 = .ok (.iaload, 1) := by decide +kernel
theorem dX7_standsIn_116 : decode cX7_standsIn 116 = .ok (.iload_n 1, 1) := by decide +kernel
theorem dX7_standsIn_117 : decode cX7_standsIn 117 = .ok (.if_icmp .ne 25, 3) := by decide +kernel
theorem dX7_standsIn_120 : decode cX7_standsIn 120 = .ok (.aload_n 0, 1) := by decide +kernel
theorem dX7_standsIn_121 : decode cX7_standsIn 121 = .ok (.getfield 43, 3) := by decide +kernel
theorem dX7_standsIn_124 : decode cX7_standsIn 124 = .ok (.iload 6, 2) := by decide +kernel
theorem dX7_standsIn_126 : decode cX7_standsIn 126 = .ok (.iaload, 1) := by decide +kernel
theorem dX7_standsIn_127 : decode cX7_standsIn 127 = .ok (.iload 4, 2) := by decide +kernel
theorem dX7_standsIn_129 : decode cX7_standsIn 129 = .ok (.if_icmp .ne 13, 3) := by decide +kernel
theorem dX7_standsIn_132 : decode cX7_standsIn 132 = .ok (.aload_n 0, 1) := by decide +kernel
theorem dX7_standsIn_133 : decode cX7_standsIn 133 = .ok (.getfield 58, 3) := by decide +kernel
theorem dX7_standsIn_136 : decode cX7_standsIn 136 = .ok (.iload 6, 2) := by decide +kernel
theorem dX7_standsIn_138 : decode cX7_standsIn 138 = .ok (.iaload, 1) := by decide +kernel
theorem dX7_standsIn_139 : decode cX7_standsIn 139 = .ok (.goto 4, 3) := by decide +kernel
theorem dX7_standsIn_142 : decode cX7_standsIn 142 = .ok (.iconst 0, 1) := by decide +kernel
theorem dX7_standsIn_143 : decode cX7_standsIn 143 = .ok (.iadd, 1) := by decide +kernel
theorem dX7_standsIn_144 : decode cX7_standsIn 144 = .ok (.iastore, 1) := by decide +kernel
theorem dX7_standsIn_145 : decode cX7_standsIn 145 = .ok (.iinc 6 1, 3) := by decide +kernel
theorem dX7_standsIn_148 : decode cX7_standsIn 148 = .ok (.goto (-56), 3) := by decide +kernel
theorem dX7_standsIn_151 : decode cX7_standsIn 151 = .ok (.iload_n 3, 1) := by decide +kernel
theorem dX7_standsIn_152 : decode cX7_standsIn 152 = .ok (.aload_n 0, 1) := by decide +kernel
theorem dX7_standsIn_153 : decode cX7_standsIn 153 = .ok (.getfield 64, 3) := by decide +kernel
theorem dX7_standsIn_156 : decode cX7_standsIn 156 = .ok (.iload 5, 2) := by decide +kernel
theorem dX7_standsIn_158 : decode cX7_standsIn 158 = .ok (.iaload, 1) := by decide +kernel
theorem dX7_standsIn_159 : decode cX7_standsIn 159 = .ok (.iload 4, 2) := by decide +kernel
theorem dX7_standsIn_161 : decode cX7_standsIn 161 = .ok (.iload_n 2, 1) := by decide +kernel
theorem dX7_standsIn_162 : decode cX7_standsIn 162 = .ok (.if_icmp .lt 15, 3) := by decide +kernel
theorem dX7_standsIn_165 : decode cX7_standsIn 165 = .ok (.iconst 3, 1) := by decide +kernel
theorem dX7_standsIn_166 : decode cX7_standsIn 166 = .ok (.aload_n 0, 1) := by decide +kernel
theorem dX7_standsIn_167 : decode cX7_standsIn 167 = .ok (.iload_n 1, 1) := by decide +kernel
theorem dX7_standsIn_168 : decode cX7_standsIn 168 = .ok (.iload 4, 2) := by decide +kernel
theorem dX7_standsIn_170 : decode cX7_standsIn 170 = .ok (.invokevirtual 212, 3) := by decide +kernel
theorem dX7_standsIn_173 : decode cX7_standsIn 173 = .ok (.imul, 1) := by decide +kernel
theorem dX7_standsIn_174 : decode cX7_standsIn 174 = .ok (.goto 4, 3) := by decide +kernel
theorem dX7_standsIn_177 : decode cX7_standsIn 177 = .ok (.iconst 0, 1) := by decide +kernel
theorem dX7_standsIn_178 : decode cX7_standsIn 178 = .ok (.iadd, 1) := by decide +kernel
theorem dX7_standsIn_179 : decode cX7_standsIn 179 = .ok (.iadd, 1) := by decide +kernel
theorem dX7_standsIn_180 : decode cX7_standsIn 180 = .ok (.istore_n 3, 1) := by decide +kernel
theorem dX7_standsIn_181 : decode cX7_standsIn 181 = .ok (.iload 4, 2) := by decide +kernel
theorem dX7_standsIn_183 : decode cX7_standsIn 183 = .ok (.iload_n 2, 1) := by decide +kernel
theorem dX7_standsIn_184 : decode cX7_standsIn 184 = .ok (.isub, 1) := by decide +kernel
theorem dX7_standsIn_185 : decode cX7_standsIn 185 = .ok (.iload_n 3, 1) := by decide +kernel
theorem dX7_standsIn_186 : decode cX7_standsIn 186 = .ok (.iadd, 1) := by decide +kernel
theorem dX7_standsIn_187 : decode cX7_standsIn 187 = .ok (.istore 6, 2) := by decide +kernel
theorem dX7_standsIn_189 : decode cX7_standsIn 189 = .ok (.aload_n 0, 1) := by decide +kernel
theorem dX7_standsIn_190 : decode cX7_standsIn 190 = .ok (.getfield 67, 3) := by decide +kernel
theorem dX7_standsIn_193 : decode cX7_standsIn 193 = .ok (.iload 5, 2) := by decide +kernel
theorem dX7_standsIn_195 : decode cX7_standsIn 195 = .ok (.iload 4, 2) := by decide +kernel
theorem dX7_standsIn_197 : decode cX7_standsIn 197 = .ok (.iload_n 2, 1) := by decide +kernel
theorem dX7_standsIn_198 : decode cX7_standsIn 198 = .ok (.if_icmp .ge 7, 3) := by decide +kernel
theorem dX7_standsIn_201 : decode cX7_standsIn 201 = .ok (.iconst 0, 1) := by decide +kernel
theorem dX7_standsIn_202 : decode cX7_standsIn 202 = .ok (.goto 17, 3) := by decide +kernel
theorem dX7_standsIn_205 : decode cX7_standsIn 205 = .ok (.iload 6, 2) := by decide +kernel
theorem dX7_standsIn_207 : decode cX7_standsIn 207 = .ok (.bipush 40, 2) := by decide +kernel
theorem dX7_standsIn_209 : decode cX7_standsIn 209 = .ok (.if_icmp .ge 8, 3) := by decide +kernel
theorem dX7_standsIn_212 : decode cX7_standsIn 212 = .ok (.iload 6, 2) := by decide +kernel
theorem dX7_standsIn_214 : decode cX7_standsIn 214 = .ok (.goto 5, 3) := by decide +kernel
theorem dX7_standsIn_217 : decode cX7_standsIn 217 = .ok (.bipush 40, 2) := by decide +kernel
theorem dX7_standsIn_219 : decode cX7_standsIn 219 = .ok (.iastore, 1) := by decide +kernel
theorem dX7_standsIn_220 : decode cX7_standsIn 220 = .ok (.aload_n 0, 1) := by decide +kernel
theorem dX7_standsIn_221 : decode cX7_standsIn 221 = .ok (.getfield 70, 3) := by decide +kernel
theorem dX7_standsIn_224 : decode cX7_standsIn 224 = .ok (.iload 5, 2) := by decide +kernel
theorem dX7_standsIn_226 : decode cX7_standsIn 226 = .ok (.iload 4, 2) := by decide +kernel
theorem dX7_standsIn_228 : decode cX7_standsIn 228 = .ok (.iload_n 2, 1) := by decide +kernel
theorem dX7_standsIn_229 : decode cX7_standsIn 229 = .ok (.if_icmp .ge 7, 3) := by decide +kernel
theorem dX7_standsIn_232 : decode cX7_standsIn 232 = .ok (.iconst 0, 1) := by decide +kernel
theorem dX7_standsIn_233 : decode cX7_standsIn 233 = .ok (.goto 36, 3) := by decide +kernel
theorem dX7_standsIn_236 : decode cX7_standsIn 236 = .ok (.aload_n 0, 1) := by decide +kernel
theorem dX7_standsIn_237 : decode cX7_standsIn 237 = .ok (.getfield 67, 3) := by decide +kernel
theorem dX7_standsIn_240 : decode cX7_standsIn 240 = .ok (.iload 5, 2) := by decide +kernel
theorem dX7_standsIn_242 : decode cX7_standsIn 242 = .ok (.iaload, 1) := by decide +kernel
theorem dX7_standsIn_243 : decode cX7_standsIn 243 = .ok (.bipush 6, 2) := by decide +kernel
theorem dX7_standsIn_245 : decode cX7_standsIn 245 = .ok (.if_icmp .ge 7, 3) := by decide +kernel
theorem dX7_standsIn_248 : decode cX7_standsIn 248 = .ok (.iconst 1, 1) := by decide +kernel
theorem dX7_standsIn_249 : decode cX7_standsIn 249 = .ok (.goto 20, 3) := by decide +kernel
theorem dX7_standsIn_252 : decode cX7_standsIn 252 = .ok (.aload_n 0, 1) := by decide +kernel
theorem dX7_standsIn_253 : decode cX7_standsIn 253 = .ok (.getfield 67, 3) := by decide +kernel
theorem dX7_standsIn_256 : decode cX7_standsIn 256 = .ok (.iload 5, 2) := by decide +kernel
theorem dX7_standsIn_258 : decode cX7_standsIn 258 = .ok (.iaload, 1) := by decide +kernel
theorem dX7_standsIn_259 : decode cX7_standsIn 259 = .ok (.bipush 15, 2) := by decide +kernel
theorem dX7_standsIn_261 : decode cX7_standsIn 261 = .ok (.if_icmp .ge 7, 3) := by decide +kernel
theorem dX7_standsIn_264 : decode cX7_standsIn 264 = .ok (.iconst 2, 1) := by decide +kernel
theorem dX7_standsIn_265 : decode cX7_standsIn 265 = .ok (.goto 4, 3) := by decide +kernel
theorem dX7_standsIn_268 : decode cX7_standsIn 268 = .ok (.iconst 3, 1) := by decide +kernel
theorem dX7_standsIn_269 : decode cX7_standsIn 269 = .ok (.iastore, 1) := by decide +kernel
theorem dX7_standsIn_270 : decode cX7_standsIn 270 = .ok (.iinc 4 1, 3) := by decide +kernel
theorem dX7_standsIn_273 : decode cX7_standsIn 273 = .ok (.goto (-208), 3) := by decide +kernel
theorem dX7_standsIn_276 : decode cX7_standsIn 276 = .ok (.return_, 1) := by decide +kernel
theorem dX7_bestTown_0 : decode cX7_bestTown 0 = .ok (.aload_n 0, 1) := by decide +kernel
theorem dX7_bestTown_1 : decode cX7_bestTown 1 = .ok (.getfield 28, 3) := by decide +kernel
theorem dX7_bestTown_4 : decode cX7_bestTown 4 = .ok (.iload_n 1, 1) := by decide +kernel
theorem dX7_bestTown_5 : decode cX7_bestTown 5 = .ok (.iaload, 1) := by decide +kernel
theorem dX7_bestTown_6 : decode cX7_bestTown 6 = .ok (.istore_n 2, 1) := by decide +kernel
theorem dX7_bestTown_7 : decode cX7_bestTown 7 = .ok (.iconst (-1), 1) := by decide +kernel
theorem dX7_bestTown_8 : decode cX7_bestTown 8 = .ok (.istore_n 3, 1) := by decide +kernel
theorem dX7_bestTown_9 : decode cX7_bestTown 9 = .ok (.iconst (-1), 1) := by decide +kernel
theorem dX7_bestTown_10 : decode cX7_bestTown 10 = .ok (.istore 4, 2) := by decide +kernel
theorem dX7_bestTown_12 : decode cX7_bestTown 12 = .ok (.iconst 0, 1) := by decide +kernel
theorem dX7_bestTown_13 : decode cX7_bestTown 13 = .ok (.istore 5, 2) := by decide +kernel
theorem dX7_bestTown_15 : decode cX7_bestTown 15 = .ok (.iload 5, 2) := by decide +kernel
theorem dX7_bestTown_17 : decode cX7_bestTown 17 = .ok (.bipush 8, 2) := by decide +kernel
theorem dX7_bestTown_19 : decode cX7_bestTown 19 = .ok (.if_icmp .ge 61, 3) := by decide +kernel
theorem dX7_bestTown_22 : decode cX7_bestTown 22 = .ok (.aload_n 0, 1) := by decide +kernel
theorem dX7_bestTown_23 : decode cX7_bestTown 23 = .ok (.getfield 64, 3) := by decide +kernel
theorem dX7_bestTown_26 : decode cX7_bestTown 26 = .ok (.bipush 24, 2) := by decide +kernel
theorem dX7_bestTown_28 : decode cX7_bestTown 28 = .ok (.iload 5, 2) := by decide +kernel
theorem dX7_bestTown_30 : decode cX7_bestTown 30 = .ok (.imul, 1) := by decide +kernel
theorem dX7_bestTown_31 : decode cX7_bestTown 31 = .ok (.iload_n 2, 1) := by decide +kernel
theorem dX7_bestTown_32 : decode cX7_bestTown 32 = .ok (.iadd, 1) := by decide +kernel
theorem dX7_bestTown_33 : decode cX7_bestTown 33 = .ok (.iaload, 1) := by decide +kernel
theorem dX7_bestTown_34 : decode cX7_bestTown 34 = .ok (.aload_n 0, 1) := by decide +kernel
theorem dX7_bestTown_35 : decode cX7_bestTown 35 = .ok (.getfield 70, 3) := by decide +kernel
theorem dX7_bestTown_38 : decode cX7_bestTown 38 = .ok (.bipush 24, 2) := by decide +kernel
theorem dX7_bestTown_40 : decode cX7_bestTown 40 = .ok (.iload 5, 2) := by decide +kernel
theorem dX7_bestTown_42 : decode cX7_bestTown 42 = .ok (.imul, 1) := by decide +kernel
theorem dX7_bestTown_43 : decode cX7_bestTown 43 = .ok (.iload_n 2, 1) := by decide +kernel
theorem dX7_bestTown_44 : decode cX7_bestTown 44 = .ok (.iadd, 1) := by decide +kernel
theorem dX7_bestTown_45 : decode cX7_bestTown 45 = .ok (.iaload, 1) := by decide +kernel
theorem dX7_bestTown_46 : decode cX7_bestTown 46 = .ok (.imul, 1) := by decide +kernel
theorem dX7_bestTown_47 : decode cX7_bestTown 47 = .ok (.istore 6, 2) := by decide +kernel
theorem dX7_bestTown_49 : decode cX7_bestTown 49 = .ok (.iload 5, 2) := by decide +kernel
theorem dX7_bestTown_51 : decode cX7_bestTown 51 = .ok (.aload_n 0, 1) := by decide +kernel
theorem dX7_bestTown_52 : decode cX7_bestTown 52 = .ok (.getfield 31, 3) := by decide +kernel
theorem dX7_bestTown_55 : decode cX7_bestTown 55 = .ok (.iload_n 1, 1) := by decide +kernel
theorem dX7_bestTown_56 : decode cX7_bestTown 56 = .ok (.iaload, 1) := by decide +kernel
theorem dX7_bestTown_57 : decode cX7_bestTown 57 = .ok (.if_icmp .eq 17, 3) := by decide +kernel
theorem dX7_bestTown_60 : decode cX7_bestTown 60 = .ok (.iload 6, 2) := by decide +kernel
theorem dX7_bestTown_62 : decode cX7_bestTown 62 = .ok (.iload 4, 2) := by decide +kernel
theorem dX7_bestTown_64 : decode cX7_bestTown 64 = .ok (.if_icmp .le 10, 3) := by decide +kernel
theorem dX7_bestTown_67 : decode cX7_bestTown 67 = .ok (.iload 5, 2) := by decide +kernel
theorem dX7_bestTown_69 : decode cX7_bestTown 69 = .ok (.istore_n 3, 1) := by decide +kernel
theorem dX7_bestTown_70 : decode cX7_bestTown 70 = .ok (.iload 6, 2) := by decide +kernel
theorem dX7_bestTown_72 : decode cX7_bestTown 72 = .ok (.istore 4, 2) := by decide +kernel
theorem dX7_bestTown_74 : decode cX7_bestTown 74 = .ok (.iinc 5 1, 3) := by decide +kernel
theorem dX7_bestTown_77 : decode cX7_bestTown 77 = .ok (.goto (-62), 3) := by decide +kernel
theorem dX7_bestTown_80 : decode cX7_bestTown 80 = .ok (.iload_n 3, 1) := by decide +kernel
theorem dX7_bestTown_81 : decode cX7_bestTown 81 = .ok (.ireturn, 1) := by decide +kernel
theorem dX7_beliefNow_0 : decode cX7_beliefNow 0 = .ok (.aload_n 0, 1) := by decide +kernel
theorem dX7_beliefNow_1 : decode cX7_beliefNow 1 = .ok (.getfield 28, 3) := by decide +kernel
theorem dX7_beliefNow_4 : decode cX7_beliefNow 4 = .ok (.iload_n 1, 1) := by decide +kernel
theorem dX7_beliefNow_5 : decode cX7_beliefNow 5 = .ok (.iaload, 1) := by decide +kernel
theorem dX7_beliefNow_6 : decode cX7_beliefNow 6 = .ok (.istore_n 2, 1) := by decide +kernel
theorem dX7_beliefNow_7 : decode cX7_beliefNow 7 = .ok (.aload_n 0, 1) := by decide +kernel
theorem dX7_beliefNow_8 : decode cX7_beliefNow 8 = .ok (.iload_n 1, 1) := by decide +kernel
theorem dX7_beliefNow_9 : decode cX7_beliefNow 9 = .ok (.invokevirtual 215, 3) := by decide +kernel
theorem dX7_beliefNow_12 : decode cX7_beliefNow 12 = .ok (.istore_n 3, 1) := by decide +kernel
theorem dX7_beliefNow_13 : decode cX7_beliefNow 13 = .ok (.aload_n 0, 1) := by decide +kernel
theorem dX7_beliefNow_14 : decode cX7_beliefNow 14 = .ok (.getfield 64, 3) := by decide +kernel
theorem dX7_beliefNow_17 : decode cX7_beliefNow 17 = .ok (.bipush 24, 2) := by decide +kernel
theorem dX7_beliefNow_19 : decode cX7_beliefNow 19 = .ok (.iload_n 3, 1) := by decide +kernel
theorem dX7_beliefNow_20 : decode cX7_beliefNow 20 = .ok (.imul, 1) := by decide +kernel
theorem dX7_beliefNow_21 : decode cX7_beliefNow 21 = .ok (.iload_n 2, 1) := by decide +kernel
theorem dX7_beliefNow_22 : decode cX7_beliefNow 22 = .ok (.iadd, 1) := by decide +kernel
theorem dX7_beliefNow_23 : decode cX7_beliefNow 23 = .ok (.iaload, 1) := by decide +kernel
theorem dX7_beliefNow_24 : decode cX7_beliefNow 24 = .ok (.aload_n 0, 1) := by decide +kernel
theorem dX7_beliefNow_25 : decode cX7_beliefNow 25 = .ok (.getfield 70, 3) := by decide +kernel
theorem dX7_beliefNow_28 : decode cX7_beliefNow 28 = .ok (.bipush 24, 2) := by decide +kernel
theorem dX7_beliefNow_30 : decode cX7_beliefNow 30 = .ok (.iload_n 3, 1) := by decide +kernel
theorem dX7_beliefNow_31 : decode cX7_beliefNow 31 = .ok (.imul, 1) := by decide +kernel
theorem dX7_beliefNow_32 : decode cX7_beliefNow 32 = .ok (.iload_n 2, 1) := by decide +kernel
theorem dX7_beliefNow_33 : decode cX7_beliefNow 33 = .ok (.iadd, 1) := by decide +kernel
theorem dX7_beliefNow_34 : decode cX7_beliefNow 34 = .ok (.iaload, 1) := by decide +kernel
theorem dX7_beliefNow_35 : decode cX7_beliefNow 35 = .ok (.imul, 1) := by decide +kernel
theorem dX7_beliefNow_36 : decode cX7_beliefNow 36 = .ok (.aload_n 0, 1) := by decide +kernel
theorem dX7_beliefNow_37 : decode cX7_beliefNow 37 = .ok (.getfield 64, 3) := by decide +kernel
theorem dX7_beliefNow_40 : decode cX7_beliefNow 40 = .ok (.bipush 24, 2) := by decide +kernel
theorem dX7_beliefNow_42 : decode cX7_beliefNow 42 = .ok (.aload_n 0, 1) := by decide +kernel
theorem dX7_beliefNow_43 : decode cX7_beliefNow 43 = .ok (.getfield 31, 3) := by decide +kernel
theorem dX7_beliefNow_46 : decode cX7_beliefNow 46 = .ok (.iload_n 1, 1) := by decide +kernel
theorem dX7_beliefNow_47 : decode cX7_beliefNow 47 = .ok (.iaload, 1) := by decide +kernel
theorem dX7_beliefNow_48 : decode cX7_beliefNow 48 = .ok (.imul, 1) := by decide +kernel
theorem dX7_beliefNow_49 : decode cX7_beliefNow 49 = .ok (.iload_n 2, 1) := by decide +kernel
theorem dX7_beliefNow_50 : decode cX7_beliefNow 50 = .ok (.iadd, 1) := by decide +kernel
theorem dX7_beliefNow_51 : decode cX7_beliefNow 51 = .ok (.iaload, 1) := by decide +kernel
theorem dX7_beliefNow_52 : decode cX7_beliefNow 52 = .ok (.isub, 1) := by decide +kernel
theorem dX7_beliefNow_53 : decode cX7_beliefNow 53 = .ok (.ireturn, 1) := by decide +kernel
theorem dX7_runs_0 : decode cX7_runs 0 = .ok (.aload_n 0, 1) := by decide +kernel
theorem dX7_runs_1 : decode cX7_runs 1 = .ok (.invokevirtual 218, 3) := by decide +kernel
theorem dX7_runs_4 : decode cX7_runs 4 = .ok (.aload_n 0, 1) := by decide +kernel
theorem dX7_runs_5 : decode cX7_runs 5 = .ok (.invokevirtual 221, 3) := by decide +kernel
theorem dX7_runs_8 : decode cX7_runs 8 = .ok (.iconst 0, 1) := by decide +kernel
theorem dX7_runs_9 : decode cX7_runs 9 = .ok (.istore_n 1, 1) := by decide +kernel
theorem dX7_runs_10 : decode cX7_runs 10 = .ok (.iload_n 1, 1) := by decide +kernel
theorem dX7_runs_11 : decode cX7_runs 11 = .ok (.bipush 8, 2) := by decide +kernel
theorem dX7_runs_13 : decode cX7_runs 13 = .ok (.if_icmp .ge 14, 3) := by decide +kernel
theorem dX7_runs_16 : decode cX7_runs 16 = .ok (.aload_n 0, 1) := by decide +kernel
theorem dX7_runs_17 : decode cX7_runs 17 = .ok (.iload_n 1, 1) := by decide +kernel
theorem dX7_runs_18 : decode cX7_runs 18 = .ok (.invokevirtual 224, 3) := by decide +kernel
theorem dX7_runs_21 : decode cX7_runs 21 = .ok (.iinc 1 1, 3) := by decide +kernel
theorem dX7_runs_24 : decode cX7_runs 24 = .ok (.goto (-14), 3) := by decide +kernel
theorem dX7_runs_27 : decode cX7_runs 27 = .ok (.aload_n 0, 1) := by decide +kernel
theorem dX7_runs_28 : decode cX7_runs 28 = .ok (.iconst 0, 1) := by decide +kernel
theorem dX7_runs_29 : decode cX7_runs 29 = .ok (.putfield 228, 3) := by decide +kernel
theorem dX7_runs_32 : decode cX7_runs 32 = .ok (.iconst 0, 1) := by decide +kernel
theorem dX7_runs_33 : decode cX7_runs 33 = .ok (.istore_n 1, 1) := by decide +kernel
theorem dX7_runs_34 : decode cX7_runs 34 = .ok (.iload_n 1, 1) := by decide +kernel
theorem dX7_runs_35 : decode cX7_runs 35 = .ok (.aload_n 0, 1) := by decide +kernel
theorem dX7_runs_36 : decode cX7_runs 36 = .ok (.getfield 138, 3) := by decide +kernel
theorem dX7_runs_39 : decode cX7_runs 39 = .ok (.if_icmp .ge 37, 3) := by decide +kernel
theorem dX7_runs_42 : decode cX7_runs 42 = .ok (.aload_n 0, 1) := by decide +kernel
theorem dX7_runs_43 : decode cX7_runs 43 = .ok (.dup, 1) := by decide +kernel
theorem dX7_runs_44 : decode cX7_runs 44 = .ok (.getfield 228, 3) := by decide +kernel
theorem dX7_runs_47 : decode cX7_runs 47 = .ok (.aload_n 0, 1) := by decide +kernel
theorem dX7_runs_48 : decode cX7_runs 48 = .ok (.iload_n 1, 1) := by decide +kernel
theorem dX7_runs_49 : decode cX7_runs 49 = .ok (.invokevirtual 231, 3) := by decide +kernel
theorem dX7_runs_52 : decode cX7_runs 52 = .ok (.aload_n 0, 1) := by decide +kernel
theorem dX7_runs_53 : decode cX7_runs 53 = .ok (.getfield 107, 3) := by decide +kernel
theorem dX7_runs_56 : decode cX7_runs 56 = .ok (.if_icmp .lt 9, 3) := by decide +kernel
theorem dX7_runs_59 : decode cX7_runs 59 = .ok (.iconst 1, 1) := by decide +kernel
theorem dX7_runs_60 : decode cX7_runs 60 = .ok (.iload_n 1, 1) := by decide +kernel
theorem dX7_runs_61 : decode cX7_runs 61 = .ok (.ishl, 1) := by decide +kernel
theorem dX7_runs_62 : decode cX7_runs 62 = .ok (.goto 4, 3) := by decide +kernel
theorem dX7_runs_65 : decode cX7_runs 65 = .ok (.iconst 0, 1) := by decide +kernel
theorem dX7_runs_66 : decode cX7_runs 66 = .ok (.ior, 1) := by decide +kernel
theorem dX7_runs_67 : decode cX7_runs 67 = .ok (.putfield 228, 3) := by decide +kernel
theorem dX7_runs_70 : decode cX7_runs 70 = .ok (.iinc 1 1, 3) := by decide +kernel
theorem dX7_runs_73 : decode cX7_runs 73 = .ok (.goto (-39), 3) := by decide +kernel
theorem dX7_runs_76 : decode cX7_runs 76 = .ok (.return_, 1) := by decide +kernel
theorem dX7_runsTold_0 : decode cX7_runsTold 0 = .ok (.aload_n 0, 1) := by decide +kernel
theorem dX7_runsTold_1 : decode cX7_runsTold 1 = .ok (.invokevirtual 234, 3) := by decide +kernel
theorem dX7_runsTold_4 : decode cX7_runsTold 4 = .ok (.aload_n 0, 1) := by decide +kernel
theorem dX7_runsTold_5 : decode cX7_runsTold 5 = .ok (.invokevirtual 237, 3) := by decide +kernel
theorem dX7_runsTold_8 : decode cX7_runsTold 8 = .ok (.return_, 1) := by decide +kernel
theorem dX7_many_0 : decode cX7_many 0 = .ok (.iconst 0, 1) := by decide +kernel
theorem dX7_many_1 : decode cX7_many 1 = .ok (.istore_n 1, 1) := by decide +kernel
theorem dX7_many_2 : decode cX7_many 2 = .ok (.iconst 0, 1) := by decide +kernel
theorem dX7_many_3 : decode cX7_many 3 = .ok (.istore_n 2, 1) := by decide +kernel
theorem dX7_many_4 : decode cX7_many 4 = .ok (.iload_n 2, 1) := by decide +kernel
theorem dX7_many_5 : decode cX7_many 5 = .ok (.bipush 12, 2) := by decide +kernel
theorem dX7_many_7 : decode cX7_many 7 = .ok (.if_icmp .ge 25, 3) := by decide +kernel
theorem dX7_many_10 : decode cX7_many 10 = .ok (.iload_n 1, 1) := by decide +kernel
theorem dX7_many_11 : decode cX7_many 11 = .ok (.iload_n 0, 1) := by decide +kernel
theorem dX7_many_12 : decode cX7_many 12 = .ok (.iload_n 2, 1) := by decide +kernel
theorem dX7_many_13 : decode cX7_many 13 = .ok (.invokestatic 196, 3) := by decide +kernel
theorem dX7_many_16 : decode cX7_many 16 = .ok (.ifCond .eq 7, 3) := by decide +kernel
theorem dX7_many_19 : decode cX7_many 19 = .ok (.iconst 1, 1) := by decide +kernel
theorem dX7_many_20 : decode cX7_many 20 = .ok (.goto 4, 3) := by decide +kernel
theorem dX7_many_23 : decode cX7_many 23 = .ok (.iconst 0, 1) := by decide +kernel
theorem dX7_many_24 : decode cX7_many 24 = .ok (.iadd, 1) := by decide +kernel
theorem dX7_many_25 : decode cX7_many 25 = .ok (.istore_n 1, 1) := by decide +kernel
theorem dX7_many_26 : decode cX7_many 26 = .ok (.iinc 2 1, 3) := by decide +kernel
theorem dX7_many_29 : decode cX7_many 29 = .ok (.goto (-25), 3) := by decide +kernel
theorem dX7_many_32 : decode cX7_many 32 = .ok (.iload_n 1, 1) := by decide +kernel
theorem dX7_many_33 : decode cX7_many 33 = .ok (.ireturn, 1) := by decide +kernel
theorem dX7_clashOf_0 : decode cX7_clashOf 0 = .ok (.aload_n 0, 1) := by decide +kernel
theorem dX7_clashOf_1 : decode cX7_clashOf 1 = .ok (.invokevirtual 234, 3) := by decide +kernel
theorem dX7_clashOf_4 : decode cX7_clashOf 4 = .ok (.aload_n 0, 1) := by decide +kernel
theorem dX7_clashOf_5 : decode cX7_clashOf 5 = .ok (.iload_n 1, 1) := by decide +kernel
theorem dX7_clashOf_6 : decode cX7_clashOf 6 = .ok (.iload_n 2, 1) := by decide +kernel
theorem dX7_clashOf_7 : decode cX7_clashOf 7 = .ok (.invokevirtual 200, 3) := by decide +kernel
theorem dX7_clashOf_10 : decode cX7_clashOf 10 = .ok (.ifCond .eq 7, 3) := by decide +kernel
theorem dX7_clashOf_13 : decode cX7_clashOf 13 = .ok (.iconst 1, 1) := by decide +kernel
theorem dX7_clashOf_14 : decode cX7_clashOf 14 = .ok (.goto 4, 3) := by decide +kernel
theorem dX7_clashOf_17 : decode cX7_clashOf 17 = .ok (.iconst 0, 1) := by decide +kernel
theorem dX7_clashOf_18 : decode cX7_clashOf 18 = .ok (.ireturn, 1) := by decide +kernel
theorem dX7_clash_0 : decode cX7_clash 0 = .ok (.aload_n 0, 1) := by decide +kernel
theorem dX7_clash_1 : decode cX7_clash 1 = .ok (.iload_n 1, 1) := by decide +kernel
theorem dX7_clash_2 : decode cX7_clash 2 = .ok (.invokevirtual 156, 3) := by decide +kernel
theorem dX7_clash_5 : decode cX7_clash 5 = .ok (.ifCond .eq 25, 3) := by decide +kernel
theorem dX7_clash_8 : decode cX7_clash 8 = .ok (.aload_n 0, 1) := by decide +kernel
theorem dX7_clash_9 : decode cX7_clash 9 = .ok (.iload_n 2, 1) := by decide +kernel
theorem dX7_clash_10 : decode cX7_clash 10 = .ok (.invokevirtual 156, 3) := by decide +kernel
theorem dX7_clash_13 : decode cX7_clash 13 = .ok (.ifCond .eq 17, 3) := by decide +kernel
theorem dX7_clash_16 : decode cX7_clash 16 = .ok (.iload_n 1, 1) := by decide +kernel
theorem dX7_clash_17 : decode cX7_clash 17 = .ok (.iload_n 2, 1) := by decide +kernel
theorem dX7_clash_18 : decode cX7_clash 18 = .ok (.if_icmp .eq 12, 3) := by decide +kernel
theorem dX7_clash_21 : decode cX7_clash 21 = .ok (.aload_n 0, 1) := by decide +kernel
theorem dX7_clash_22 : decode cX7_clash 22 = .ok (.iload_n 1, 1) := by decide +kernel
theorem dX7_clash_23 : decode cX7_clash 23 = .ok (.iload_n 2, 1) := by decide +kernel
theorem dX7_clash_24 : decode cX7_clash 24 = .ok (.invokevirtual 240, 3) := by decide +kernel
theorem dX7_clash_27 : decode cX7_clash 27 = .ok (.goto 5, 3) := by decide +kernel
theorem dX7_clash_30 : decode cX7_clash 30 = .ok (.bipush (-2), 2) := by decide +kernel
theorem dX7_clash_32 : decode cX7_clash 32 = .ok (.ireturn, 1) := by decide +kernel
theorem dX7_standsOf_0 : decode cX7_standsOf 0 = .ok (.aload_n 0, 1) := by decide +kernel
theorem dX7_standsOf_1 : decode cX7_standsOf 1 = .ok (.invokevirtual 243, 3) := by decide +kernel
theorem dX7_standsOf_4 : decode cX7_standsOf 4 = .ok (.iload_n 2, 1) := by decide +kernel
theorem dX7_standsOf_5 : decode cX7_standsOf 5 = .ok (.ifCond .ne 12, 3) := by decide +kernel
theorem dX7_standsOf_8 : decode cX7_standsOf 8 = .ok (.aload_n 0, 1) := by decide +kernel
theorem dX7_standsOf_9 : decode cX7_standsOf 9 = .ok (.getfield 55, 3) := by decide +kernel
theorem dX7_standsOf_12 : decode cX7_standsOf 12 = .ok (.iload_n 1, 1) := by decide +kernel
theorem dX7_standsOf_13 : decode cX7_standsOf 13 = .ok (.iaload, 1) := by decide +kernel
theorem dX7_standsOf_14 : decode cX7_standsOf 14 = .ok (.goto 23, 3) := by decide +kernel
theorem dX7_standsOf_17 : decode cX7_standsOf 17 = .ok (.iload_n 2, 1) := by decide +kernel
theorem dX7_standsOf_18 : decode cX7_standsOf 18 = .ok (.iconst 1, 1) := by decide +kernel
theorem dX7_standsOf_19 : decode cX7_standsOf 19 = .ok (.if_icmp .ne 12, 3) := by decide +kernel
theorem dX7_standsOf_22 : decode cX7_standsOf 22 = .ok (.aload_n 0, 1) := by decide +kernel
theorem dX7_standsOf_23 : decode cX7_standsOf 23 = .ok (.getfield 58, 3) := by decide +kernel
theorem dX7_standsOf_26 : decode cX7_standsOf 26 = .ok (.iload_n 1, 1) := by decide +kernel
theorem dX7_standsOf_27 : decode cX7_standsOf 27 = .ok (.iaload, 1) := by decide +kernel
theorem dX7_standsOf_28 : decode cX7_standsOf 28 = .ok (.goto 9, 3) := by decide +kernel
theorem dX7_standsOf_31 : decode cX7_standsOf 31 = .ok (.aload_n 0, 1) := by decide +kernel
theorem dX7_standsOf_32 : decode cX7_standsOf 32 = .ok (.getfield 61, 3) := by decide +kernel
theorem dX7_standsOf_35 : decode cX7_standsOf 35 = .ok (.iload_n 1, 1) := by decide +kernel
theorem dX7_standsOf_36 : decode cX7_standsOf 36 = .ok (.iaload, 1) := by decide +kernel
theorem dX7_standsOf_37 : decode cX7_standsOf 37 = .ok (.ireturn, 1) := by decide +kernel
theorem dX7_stands_0 : decode cX7_stands 0 = .ok (.aload_n 0, 1) := by decide +kernel
theorem dX7_stands_1 : decode cX7_stands 1 = .ok (.iload_n 1, 1) := by decide +kernel
theorem dX7_stands_2 : decode cX7_stands 2 = .ok (.invokevirtual 156, 3) := by decide +kernel
theorem dX7_stands_5 : decode cX7_stands 5 = .ok (.ifCond .eq 19, 3) := by decide +kernel
theorem dX7_stands_8 : decode cX7_stands 8 = .ok (.iload_n 2, 1) := by decide +kernel
theorem dX7_stands_9 : decode cX7_stands 9 = .ok (.invokestatic 168, 3) := by decide +kernel
theorem dX7_stands_12 : decode cX7_stands 12 = .ok (.ifCond .eq 12, 3) := by decide +kernel
theorem dX7_stands_15 : decode cX7_stands 15 = .ok (.aload_n 0, 1) := by decide +kernel
theorem dX7_stands_16 : decode cX7_stands 16 = .ok (.iload_n 1, 1) := by decide +kernel
theorem dX7_stands_17 : decode cX7_stands 17 = .ok (.iload_n 2, 1) := by decide +kernel
theorem dX7_stands_18 : decode cX7_stands 18 = .ok (.invokevirtual 246, 3) := by decide +kernel
theorem dX7_stands_21 : decode cX7_stands 21 = .ok (.goto 5, 3) := by decide +kernel
theorem dX7_stands_24 : decode cX7_stands 24 = .ok (.bipush (-2), 2) := by decide +kernel
theorem dX7_stands_26 : decode cX7_stands 26 = .ok (.ireturn, 1) := by decide +kernel
theorem dX7_manOf_0 : decode cX7_manOf 0 = .ok (.aload_n 0, 1) := by decide +kernel
theorem dX7_manOf_1 : decode cX7_manOf 1 = .ok (.invokevirtual 243, 3) := by decide +kernel
theorem dX7_manOf_4 : decode cX7_manOf 4 = .ok (.iload_n 3, 1) := by decide +kernel
theorem dX7_manOf_5 : decode cX7_manOf 5 = .ok (.ifCond .ne 17, 3) := by decide +kernel
theorem dX7_manOf_8 : decode cX7_manOf 8 = .ok (.aload_n 0, 1) := by decide +kernel
theorem dX7_manOf_9 : decode cX7_manOf 9 = .ok (.getfield 67, 3) := by decide +kernel
theorem dX7_manOf_12 : decode cX7_manOf 12 = .ok (.bipush 24, 2) := by decide +kernel
theorem dX7_manOf_14 : decode cX7_manOf 14 = .ok (.iload_n 2, 1) := by decide +kernel
theorem dX7_manOf_15 : decode cX7_manOf 15 = .ok (.imul, 1) := by decide +kernel
theorem dX7_manOf_16 : decode cX7_manOf 16 = .ok (.iload_n 1, 1) := by decide +kernel
theorem dX7_manOf_17 : decode cX7_manOf 17 = .ok (.iadd, 1) := by decide +kernel
theorem dX7_manOf_18 : decode cX7_manOf 18 = .ok (.iaload, 1) := by decide +kernel
theorem dX7_manOf_19 : decode cX7_manOf 19 = .ok (.goto 14, 3) := by decide +kernel
theorem dX7_manOf_22 : decode cX7_manOf 22 = .ok (.aload_n 0, 1) := by decide +kernel
theorem dX7_manOf_23 : decode cX7_manOf 23 = .ok (.getfield 70, 3) := by decide +kernel
theorem dX7_manOf_26 : decode cX7_manOf 26 = .ok (.bipush 24, 2) := by decide +kernel
theorem dX7_manOf_28 : decode cX7_manOf 28 = .ok (.iload_n 2, 1) := by decide +kernel
theorem dX7_manOf_29 : decode cX7_manOf 29 = .ok (.imul, 1) := by decide +kernel
theorem dX7_manOf_30 : decode cX7_manOf 30 = .ok (.iload_n 1, 1) := by decide +kernel
theorem dX7_manOf_31 : decode cX7_manOf 31 = .ok (.iadd, 1) := by decide +kernel
theorem dX7_manOf_32 : decode cX7_manOf 32 = .ok (.iaload, 1) := by decide +kernel
theorem dX7_manOf_33 : decode cX7_manOf 33 = .ok (.ireturn, 1) := by decide +kernel
theorem dX7_man_0 : decode cX7_man 0 = .ok (.iload_n 1, 1) := by decide +kernel
theorem dX7_man_1 : decode cX7_man 1 = .ok (.invokestatic 129, 3) := by decide +kernel
theorem dX7_man_4 : decode cX7_man 4 = .ok (.ifCond .eq 27, 3) := by decide +kernel
theorem dX7_man_7 : decode cX7_man 7 = .ok (.iload_n 2, 1) := by decide +kernel
theorem dX7_man_8 : decode cX7_man 8 = .ok (.invokestatic 132, 3) := by decide +kernel
theorem dX7_man_11 : decode cX7_man 11 = .ok (.ifCond .eq 20, 3) := by decide +kernel
theorem dX7_man_14 : decode cX7_man 14 = .ok (.iload_n 3, 1) := by decide +kernel
theorem dX7_man_15 : decode cX7_man 15 = .ok (.invokestatic 117, 3) := by decide +kernel
theorem dX7_man_18 : decode cX7_man 18 = .ok (.ifCond .eq 13, 3) := by decide +kernel
theorem dX7_man_21 : decode cX7_man 21 = .ok (.aload_n 0, 1) := by decide +kernel
theorem dX7_man_22 : decode cX7_man 22 = .ok (.iload_n 1, 1) := by decide +kernel
theorem dX7_man_23 : decode cX7_man 23 = .ok (.iload_n 2, 1) := by decide +kernel
theorem dX7_man_24 : decode cX7_man 24 = .ok (.iload_n 3, 1) := by decide +kernel
theorem dX7_man_25 : decode cX7_man 25 = .ok (.invokevirtual 249, 3) := by decide +kernel
theorem dX7_man_28 : decode cX7_man 28 = .ok (.goto 5, 3) := by decide +kernel
theorem dX7_man_31 : decode cX7_man 31 = .ok (.bipush (-2), 2) := by decide +kernel
theorem dX7_man_33 : decode cX7_man 33 = .ok (.ireturn, 1) := by decide +kernel
theorem dX7_beliefOf_0 : decode cX7_beliefOf 0 = .ok (.aload_n 0, 1) := by decide +kernel
theorem dX7_beliefOf_1 : decode cX7_beliefOf 1 = .ok (.invokevirtual 243, 3) := by decide +kernel
theorem dX7_beliefOf_4 : decode cX7_beliefOf 4 = .ok (.aload_n 0, 1) := by decide +kernel
theorem dX7_beliefOf_5 : decode cX7_beliefOf 5 = .ok (.iload_n 1, 1) := by decide +kernel
theorem dX7_beliefOf_6 : decode cX7_beliefOf 6 = .ok (.invokevirtual 231, 3) := by decide +kernel
theorem dX7_beliefOf_9 : decode cX7_beliefOf 9 = .ok (.ireturn, 1) := by decide +kernel
theorem dX7_belief_0 : decode cX7_belief 0 = .ok (.aload_n 0, 1) := by decide +kernel
theorem dX7_belief_1 : decode cX7_belief 1 = .ok (.iload_n 1, 1) := by decide +kernel
theorem dX7_belief_2 : decode cX7_belief 2 = .ok (.invokevirtual 162, 3) := by decide +kernel
theorem dX7_belief_5 : decode cX7_belief 5 = .ok (.ifCond .eq 11, 3) := by decide +kernel
theorem dX7_belief_8 : decode cX7_belief 8 = .ok (.aload_n 0, 1) := by decide +kernel
theorem dX7_belief_9 : decode cX7_belief 9 = .ok (.iload_n 1, 1) := by decide +kernel
theorem dX7_belief_10 : decode cX7_belief 10 = .ok (.invokevirtual 252, 3) := by decide +kernel
theorem dX7_belief_13 : decode cX7_belief 13 = .ok (.goto 5, 3) := by decide +kernel
theorem dX7_belief_16 : decode cX7_belief 16 = .ok (.ldc 255, 2) := by decide +kernel
theorem dX7_belief_18 : decode cX7_belief 18 = .ok (.ireturn, 1) := by decide +kernel
theorem dX7_clearedOf_0 : decode cX7_clearedOf 0 = .ok (.aload_n 0, 1) := by decide +kernel
theorem dX7_clearedOf_1 : decode cX7_clearedOf 1 = .ok (.invokevirtual 243, 3) := by decide +kernel
theorem dX7_clearedOf_4 : decode cX7_clearedOf 4 = .ok (.iload_n 2, 1) := by decide +kernel
theorem dX7_clearedOf_5 : decode cX7_clearedOf 5 = .ok (.ifCond .ne 14, 3) := by decide +kernel
theorem dX7_clearedOf_8 : decode cX7_clearedOf 8 = .ok (.aload_n 0, 1) := by decide +kernel
theorem dX7_clearedOf_9 : decode cX7_clearedOf 9 = .ok (.getfield 228, 3) := by decide +kernel
theorem dX7_clearedOf_12 : decode cX7_clearedOf 12 = .ok (.iload_n 1, 1) := by decide +kernel
theorem dX7_clearedOf_13 : decode cX7_clearedOf 13 = .ok (.ishr, 1) := by decide +kernel
theorem dX7_clearedOf_14 : decode cX7_clearedOf 14 = .ok (.iconst 1, 1) := by decide +kernel
theorem dX7_clearedOf_15 : decode cX7_clearedOf 15 = .ok (.iand, 1) := by decide +kernel
theorem dX7_clearedOf_16 : decode cX7_clearedOf 16 = .ok (.goto 8, 3) := by decide +kernel
theorem dX7_clearedOf_19 : decode cX7_clearedOf 19 = .ok (.aload_n 0, 1) := by decide +kernel
theorem dX7_clearedOf_20 : decode cX7_clearedOf 20 = .ok (.iload_n 1, 1) := by decide +kernel
theorem dX7_clearedOf_21 : decode cX7_clearedOf 21 = .ok (.invokevirtual 215, 3) := by decide +kernel
theorem dX7_clearedOf_24 : decode cX7_clearedOf 24 = .ok (.ireturn, 1) := by decide +kernel
theorem dX7_cleared_0 : decode cX7_cleared 0 = .ok (.aload_n 0, 1) := by decide +kernel
theorem dX7_cleared_1 : decode cX7_cleared 1 = .ok (.iload_n 1, 1) := by decide +kernel
theorem dX7_cleared_2 : decode cX7_cleared 2 = .ok (.invokevirtual 162, 3) := by decide +kernel
theorem dX7_cleared_5 : decode cX7_cleared 5 = .ok (.ifCond .eq 19, 3) := by decide +kernel
theorem dX7_cleared_8 : decode cX7_cleared 8 = .ok (.iload_n 2, 1) := by decide +kernel
theorem dX7_cleared_9 : decode cX7_cleared 9 = .ok (.invokestatic 117, 3) := by decide +kernel
theorem dX7_cleared_12 : decode cX7_cleared 12 = .ok (.ifCond .eq 12, 3) := by decide +kernel
theorem dX7_cleared_15 : decode cX7_cleared 15 = .ok (.aload_n 0, 1) := by decide +kernel
theorem dX7_cleared_16 : decode cX7_cleared 16 = .ok (.iload_n 1, 1) := by decide +kernel
theorem dX7_cleared_17 : decode cX7_cleared 17 = .ok (.iload_n 2, 1) := by decide +kernel
theorem dX7_cleared_18 : decode cX7_cleared 18 = .ok (.invokevirtual 256, 3) := by decide +kernel
theorem dX7_cleared_21 : decode cX7_cleared 21 = .ok (.goto 5, 3) := by decide +kernel
theorem dX7_cleared_24 : decode cX7_cleared 24 = .ok (.bipush (-2), 2) := by decide +kernel
theorem dX7_cleared_26 : decode cX7_cleared 26 = .ok (.ireturn, 1) := by decide +kernel
theorem dX7_countMany_0 : decode cX7_countMany 0 = .ok (.iconst 0, 1) := by decide +kernel
theorem dX7_countMany_1 : decode cX7_countMany 1 = .ok (.istore_n 1, 1) := by decide +kernel
theorem dX7_countMany_2 : decode cX7_countMany 2 = .ok (.iconst 0, 1) := by decide +kernel
theorem dX7_countMany_3 : decode cX7_countMany 3 = .ok (.istore_n 2, 1) := by decide +kernel
theorem dX7_countMany_4 : decode cX7_countMany 4 = .ok (.iload_n 2, 1) := by decide +kernel
theorem dX7_countMany_5 : decode cX7_countMany 5 = .ok (.aload_n 0, 1) := by decide +kernel
theorem dX7_countMany_6 : decode cX7_countMany 6 = .ok (.getfield 184, 3) := by decide +kernel
theorem dX7_countMany_9 : decode cX7_countMany 9 = .ok (.if_icmp .ge 18, 3) := by decide +kernel
theorem dX7_countMany_12 : decode cX7_countMany 12 = .ok (.iload_n 1, 1) := by decide +kernel
theorem dX7_countMany_13 : decode cX7_countMany 13 = .ok (.aload_n 0, 1) := by decide +kernel
theorem dX7_countMany_14 : decode cX7_countMany 14 = .ok (.getfield 55, 3) := by decide +kernel
theorem dX7_countMany_17 : decode cX7_countMany 17 = .ok (.iload_n 2, 1) := by decide +kernel
theorem dX7_countMany_18 : decode cX7_countMany 18 = .ok (.iaload, 1) := by decide +kernel
theorem dX7_countMany_19 : decode cX7_countMany 19 = .ok (.iadd, 1) := by decide +kernel
theorem dX7_countMany_20 : decode cX7_countMany 20 = .ok (.istore_n 1, 1) := by decide +kernel
theorem dX7_countMany_21 : decode cX7_countMany 21 = .ok (.iinc 2 1, 3) := by decide +kernel
theorem dX7_countMany_24 : decode cX7_countMany 24 = .ok (.goto (-20), 3) := by decide +kernel
theorem dX7_countMany_27 : decode cX7_countMany 27 = .ok (.iload_n 1, 1) := by decide +kernel
theorem dX7_countMany_28 : decode cX7_countMany 28 = .ok (.ireturn, 1) := by decide +kernel
theorem dX7_menOf_0 : decode cX7_menOf 0 = .ok (.iconst 0, 1) := by decide +kernel
theorem dX7_menOf_1 : decode cX7_menOf 1 = .ok (.istore_n 2, 1) := by decide +kernel
theorem dX7_menOf_2 : decode cX7_menOf 2 = .ok (.iconst 0, 1) := by decide +kernel
theorem dX7_menOf_3 : decode cX7_menOf 3 = .ok (.istore_n 3, 1) := by decide +kernel
theorem dX7_menOf_4 : decode cX7_menOf 4 = .ok (.iload_n 3, 1) := by decide +kernel
theorem dX7_menOf_5 : decode cX7_menOf 5 = .ok (.bipush 8, 2) := by decide +kernel
theorem dX7_menOf_7 : decode cX7_menOf 7 = .ok (.if_icmp .ge 33, 3) := by decide +kernel
theorem dX7_menOf_10 : decode cX7_menOf 10 = .ok (.iload_n 2, 1) := by decide +kernel
theorem dX7_menOf_11 : decode cX7_menOf 11 = .ok (.aload_n 0, 1) := by decide +kernel
theorem dX7_menOf_12 : decode cX7_menOf 12 = .ok (.getfield 70, 3) := by decide +kernel
theorem dX7_menOf_15 : decode cX7_menOf 15 = .ok (.bipush 24, 2) := by decide +kernel
theorem dX7_menOf_17 : decode cX7_menOf 17 = .ok (.iload_n 3, 1) := by decide +kernel
theorem dX7_menOf_18 : decode cX7_menOf 18 = .ok (.imul, 1) := by decide +kernel
theorem dX7_menOf_19 : decode cX7_menOf 19 = .ok (.bipush 23, 2) := by decide +kernel
theorem dX7_menOf_21 : decode cX7_menOf 21 = .ok (.iadd, 1) := by decide +kernel
theorem dX7_menOf_22 : decode cX7_menOf 22 = .ok (.iaload, 1) := by decide +kernel
theorem dX7_menOf_23 : decode cX7_menOf 23 = .ok (.iload_n 1, 1) := by decide +kernel
theorem dX7_menOf_24 : decode cX7_menOf 24 = .ok (.if_icmp .lt 7, 3) := by decide +kernel
theorem dX7_menOf_27 : decode cX7_menOf 27 = .ok (.iconst 1, 1) := by decide +kernel
theorem dX7_menOf_28 : decode cX7_menOf 28 = .ok (.goto 4, 3) := by decide +kernel
theorem dX7_menOf_31 : decode cX7_menOf 31 = .ok (.iconst 0, 1) := by decide +kernel
theorem dX7_menOf_32 : decode cX7_menOf 32 = .ok (.iadd, 1) := by decide +kernel
theorem dX7_menOf_33 : decode cX7_menOf 33 = .ok (.istore_n 2, 1) := by decide +kernel
theorem dX7_menOf_34 : decode cX7_menOf 34 = .ok (.iinc 3 1, 3) := by decide +kernel
theorem dX7_menOf_37 : decode cX7_menOf 37 = .ok (.goto (-33), 3) := by decide +kernel
theorem dX7_menOf_40 : decode cX7_menOf 40 = .ok (.iload_n 2, 1) := by decide +kernel
theorem dX7_menOf_41 : decode cX7_menOf 41 = .ok (.ireturn, 1) := by decide +kernel
theorem dX7_sumOf_0 : decode cX7_sumOf 0 = .ok (.aload_n 0, 1) := by decide +kernel
theorem dX7_sumOf_1 : decode cX7_sumOf 1 = .ok (.invokevirtual 243, 3) := by decide +kernel
theorem dX7_sumOf_4 : decode cX7_sumOf 4 = .ok (.iload_n 1, 1) := by decide +kernel
theorem dX7_sumOf_5 : decode cX7_sumOf 5 = .ok (.ifCond .ne 13, 3) := by decide +kernel
theorem dX7_sumOf_8 : decode cX7_sumOf 8 = .ok (.aload_n 0, 1) := by decide +kernel
theorem dX7_sumOf_9 : decode cX7_sumOf 9 = .ok (.getfield 228, 3) := by decide +kernel
theorem dX7_sumOf_12 : decode cX7_sumOf 12 = .ok (.invokestatic 259, 3) := by decide +kernel
theorem dX7_sumOf_15 : decode cX7_sumOf 15 = .ok (.goto 33, 3) := by decide +kernel
theorem dX7_sumOf_18 : decode cX7_sumOf 18 = .ok (.iload_n 1, 1) := by decide +kernel
theorem dX7_sumOf_19 : decode cX7_sumOf 19 = .ok (.iconst 1, 1) := by decide +kernel
theorem dX7_sumOf_20 : decode cX7_sumOf 20 = .ok (.if_icmp .ne 10, 3) := by decide +kernel
theorem dX7_sumOf_23 : decode cX7_sumOf 23 = .ok (.aload_n 0, 1) := by decide +kernel
theorem dX7_sumOf_24 : decode cX7_sumOf 24 = .ok (.invokevirtual 262, 3) := by decide +kernel
theorem dX7_sumOf_27 : decode cX7_sumOf 27 = .ok (.goto 21, 3) := by decide +kernel
theorem dX7_sumOf_30 : decode cX7_sumOf 30 = .ok (.iload_n 1, 1) := by decide +kernel
theorem dX7_sumOf_31 : decode cX7_sumOf 31 = .ok (.iconst 2, 1) := by decide +kernel
theorem dX7_sumOf_32 : decode cX7_sumOf 32 = .ok (.if_icmp .ne 11, 3) := by decide +kernel
theorem dX7_sumOf_35 : decode cX7_sumOf 35 = .ok (.aload_n 0, 1) := by decide +kernel
theorem dX7_sumOf_36 : decode cX7_sumOf 36 = .ok (.iconst 1, 1) := by decide +kernel
theorem dX7_sumOf_37 : decode cX7_sumOf 37 = .ok (.invokevirtual 266, 3) := by decide +kernel
theorem dX7_sumOf_40 : decode cX7_sumOf 40 = .ok (.goto 8, 3) := by decide +kernel
theorem dX7_sumOf_43 : decode cX7_sumOf 43 = .ok (.aload_n 0, 1) := by decide +kernel
theorem dX7_sumOf_44 : decode cX7_sumOf 44 = .ok (.iconst 3, 1) := by decide +kernel
theorem dX7_sumOf_45 : decode cX7_sumOf 45 = .ok (.invokevirtual 266, 3) := by decide +kernel
theorem dX7_sumOf_48 : decode cX7_sumOf 48 = .ok (.ireturn, 1) := by decide +kernel
theorem dX7_sum_0 : decode cX7_sum 0 = .ok (.iload_n 1, 1) := by decide +kernel
theorem dX7_sum_1 : decode cX7_sum 1 = .ok (.iconst 0, 1) := by decide +kernel
theorem dX7_sum_2 : decode cX7_sum 2 = .ok (.iconst 3, 1) := by decide +kernel
theorem dX7_sum_3 : decode cX7_sum 3 = .ok (.invokestatic 113, 3) := by decide +kernel
theorem dX7_sum_6 : decode cX7_sum 6 = .ok (.ifCond .eq 11, 3) := by decide +kernel
theorem dX7_sum_9 : decode cX7_sum 9 = .ok (.aload_n 0, 1) := by decide +kernel
theorem dX7_sum_10 : decode cX7_sum 10 = .ok (.iload_n 1, 1) := by decide +kernel
theorem dX7_sum_11 : decode cX7_sum 11 = .ok (.invokevirtual 269, 3) := by decide +kernel
theorem dX7_sum_14 : decode cX7_sum 14 = .ok (.goto 5, 3) := by decide +kernel
theorem dX7_sum_17 : decode cX7_sum 17 = .ok (.bipush (-2), 2) := by decide +kernel
theorem dX7_sum_19 : decode cX7_sum 19 = .ok (.ireturn, 1) := by decide +kernel
theorem dX7_liarOf_0 : decode cX7_liarOf 0 = .ok (.aload_n 0, 1) := by decide +kernel
theorem dX7_liarOf_1 : decode cX7_liarOf 1 = .ok (.invokevirtual 243, 3) := by decide +kernel
theorem dX7_liarOf_4 : decode cX7_liarOf 4 = .ok (.iconst (-1), 1) := by decide +kernel
theorem dX7_liarOf_5 : decode cX7_liarOf 5 = .ok (.istore_n 1, 1) := by decide +kernel
theorem dX7_liarOf_6 : decode cX7_liarOf 6 = .ok (.iconst 0, 1) := by decide +kernel
theorem dX7_liarOf_7 : decode cX7_liarOf 7 = .ok (.istore_n 2, 1) := by decide +kernel
theorem dX7_liarOf_8 : decode cX7_liarOf 8 = .ok (.iconst 0, 1) := by decide +kernel
theorem dX7_liarOf_9 : decode cX7_liarOf 9 = .ok (.istore_n 3, 1) := by decide +kernel
theorem dX7_liarOf_10 : decode cX7_liarOf 10 = .ok (.iload_n 3, 1) := by decide +kernel
theorem dX7_liarOf_11 : decode cX7_liarOf 11 = .ok (.bipush 10, 2) := by decide +kernel
theorem dX7_liarOf_13 : decode cX7_liarOf 13 = .ok (.if_icmp .ge 86, 3) := by decide +kernel
theorem dX7_liarOf_16 : decode cX7_liarOf 16 = .ok (.iconst 0, 1) := by decide +kernel
theorem dX7_liarOf_17 : decode cX7_liarOf 17 = .ok (.istore 4, 2) := by decide +kernel
theorem dX7_liarOf_19 : decode cX7_liarOf 19 = .ok (.iconst 0, 1) := by decide +kernel
theorem dX7_liarOf_20 : decode cX7_liarOf 20 = .ok (.istore 5, 2) := by decide +kernel
theorem dX7_liarOf_22 : decode cX7_liarOf 22 = .ok (.iload 5, 2) := by decide +kernel
theorem dX7_liarOf_24 : decode cX7_liarOf 24 = .ok (.aload_n 0, 1) := by decide +kernel
theorem dX7_liarOf_25 : decode cX7_liarOf 25 = .ok (.getfield 135, 3) := by decide +kernel
theorem dX7_liarOf_28 : decode cX7_liarOf 28 = .ok (.if_icmp .ge 40, 3) := by decide +kernel
theorem dX7_liarOf_31 : decode cX7_liarOf 31 = .ok (.iload 4, 2) := by decide +kernel
theorem dX7_liarOf_33 : decode cX7_liarOf 33 = .ok (.aload_n 0, 1) := by decide +kernel
theorem dX7_liarOf_34 : decode cX7_liarOf 34 = .ok (.getfield 22, 3) := by decide +kernel
theorem dX7_liarOf_37 : decode cX7_liarOf 37 = .ok (.iload 5, 2) := by decide +kernel
theorem dX7_liarOf_39 : decode cX7_liarOf 39 = .ok (.iaload, 1) := by decide +kernel
theorem dX7_liarOf_40 : decode cX7_liarOf 40 = .ok (.iload_n 3, 1) := by decide +kernel
theorem dX7_liarOf_41 : decode cX7_liarOf 41 = .ok (.if_icmp .ne 17, 3) := by decide +kernel
theorem dX7_liarOf_44 : decode cX7_liarOf 44 = .ok (.aload_n 0, 1) := by decide +kernel
theorem dX7_liarOf_45 : decode cX7_liarOf 45 = .ok (.getfield 55, 3) := by decide +kernel
theorem dX7_liarOf_48 : decode cX7_liarOf 48 = .ok (.iload 5, 2) := by decide +kernel
theorem dX7_liarOf_50 : decode cX7_liarOf 50 = .ok (.iaload, 1) := by decide +kernel
theorem dX7_liarOf_51 : decode cX7_liarOf 51 = .ok (.ifCond .ne 7, 3) := by decide +kernel
theorem dX7_liarOf_54 : decode cX7_liarOf 54 = .ok (.iconst 1, 1) := by decide +kernel
theorem dX7_liarOf_55 : decode cX7_liarOf 55 = .ok (.goto 4, 3) := by decide +kernel
theorem dX7_liarOf_58 : decode cX7_liarOf 58 = .ok (.iconst 0, 1) := by decide +kernel
theorem dX7_liarOf_59 : decode cX7_liarOf 59 = .ok (.iadd, 1) := by decide +kernel
theorem dX7_liarOf_60 : decode cX7_liarOf 60 = .ok (.istore 4, 2) := by decide +kernel
theorem dX7_liarOf_62 : decode cX7_liarOf 62 = .ok (.iinc 5 1, 3) := by decide +kernel
theorem dX7_liarOf_65 : decode cX7_liarOf 65 = .ok (.goto (-43), 3) := by decide +kernel
theorem dX7_liarOf_68 : decode cX7_liarOf 68 = .ok (.iload 4, 2) := by decide +kernel
theorem dX7_liarOf_70 : decode cX7_liarOf 70 = .ok (.iload_n 2, 1) := by decide +kernel
theorem dX7_liarOf_71 : decode cX7_liarOf 71 = .ok (.if_icmp .le 7, 3) := by decide +kernel
theorem dX7_liarOf_74 : decode cX7_liarOf 74 = .ok (.iload_n 3, 1) := by decide +kernel
theorem dX7_liarOf_75 : decode cX7_liarOf 75 = .ok (.goto 4, 3) := by decide +kernel
theorem dX7_liarOf_78 : decode cX7_liarOf 78 = .ok (.iload_n 1, 1) := by decide +kernel
theorem dX7_liarOf_79 : decode cX7_liarOf 79 = .ok (.istore_n 1, 1) := by decide +kernel
theorem dX7_liarOf_80 : decode cX7_liarOf 80 = .ok (.iload 4, 2) := by decide +kernel
theorem dX7_liarOf_82 : decode cX7_liarOf 82 = .ok (.iload_n 2, 1) := by decide +kernel
theorem dX7_liarOf_83 : decode cX7_liarOf 83 = .ok (.if_icmp .le 8, 3) := by decide +kernel
theorem dX7_liarOf_86 : decode cX7_liarOf 86 = .ok (.iload 4, 2) := by decide +kernel
theorem dX7_liarOf_88 : decode cX7_liarOf 88 = .ok (.goto 4, 3) := by decide +kernel
theorem dX7_liarOf_91 : decode cX7_liarOf 91 = .ok (.iload_n 2, 1) := by decide +kernel
theorem dX7_liarOf_92 : decode cX7_liarOf 92 = .ok (.istore_n 2, 1) := by decide +kernel
theorem dX7_liarOf_93 : decode cX7_liarOf 93 = .ok (.iinc 3 1, 3) := by decide +kernel
theorem dX7_liarOf_96 : decode cX7_liarOf 96 = .ok (.goto (-86), 3) := by decide +kernel
theorem dX7_liarOf_99 : decode cX7_liarOf 99 = .ok (.iload_n 1, 1) := by decide +kernel
theorem dX7_liarOf_100 : decode cX7_liarOf 100 = .ok (.ireturn, 1) := by decide +kernel
theorem dX7_liar_0 : decode cX7_liar 0 = .ok (.aload_n 0, 1) := by decide +kernel
theorem dX7_liar_1 : decode cX7_liar 1 = .ok (.invokevirtual 272, 3) := by decide +kernel
theorem dX7_liar_4 : decode cX7_liar 4 = .ok (.ireturn, 1) := by decide +kernel
theorem dX7_bestOf_0 : decode cX7_bestOf 0 = .ok (.aload_n 0, 1) := by decide +kernel
theorem dX7_bestOf_1 : decode cX7_bestOf 1 = .ok (.invokevirtual 243, 3) := by decide +kernel
theorem dX7_bestOf_4 : decode cX7_bestOf 4 = .ok (.iconst (-1), 1) := by decide +kernel
theorem dX7_bestOf_5 : decode cX7_bestOf 5 = .ok (.istore_n 1, 1) := by decide +kernel
theorem dX7_bestOf_6 : decode cX7_bestOf 6 = .ok (.iconst (-1), 1) := by decide +kernel
theorem dX7_bestOf_7 : decode cX7_bestOf 7 = .ok (.istore_n 2, 1) := by decide +kernel
theorem dX7_bestOf_8 : decode cX7_bestOf 8 = .ok (.iconst 0, 1) := by decide +kernel
theorem dX7_bestOf_9 : decode cX7_bestOf 9 = .ok (.istore_n 3, 1) := by decide +kernel
theorem dX7_bestOf_10 : decode cX7_bestOf 10 = .ok (.iload_n 3, 1) := by decide +kernel
theorem dX7_bestOf_11 : decode cX7_bestOf 11 = .ok (.bipush 8, 2) := by decide +kernel
theorem dX7_bestOf_13 : decode cX7_bestOf 13 = .ok (.if_icmp .ge 74, 3) := by decide +kernel
theorem dX7_bestOf_16 : decode cX7_bestOf 16 = .ok (.bipush 24, 2) := by decide +kernel
theorem dX7_bestOf_18 : decode cX7_bestOf 18 = .ok (.iload_n 3, 1) := by decide +kernel
theorem dX7_bestOf_19 : decode cX7_bestOf 19 = .ok (.imul, 1) := by decide +kernel
theorem dX7_bestOf_20 : decode cX7_bestOf 20 = .ok (.bipush 23, 2) := by decide +kernel
theorem dX7_bestOf_22 : decode cX7_bestOf 22 = .ok (.iadd, 1) := by decide +kernel
theorem dX7_bestOf_23 : decode cX7_bestOf 23 = .ok (.istore 4, 2) := by decide +kernel
theorem dX7_bestOf_25 : decode cX7_bestOf 25 = .ok (.aload_n 0, 1) := by decide +kernel
theorem dX7_bestOf_26 : decode cX7_bestOf 26 = .ok (.getfield 70, 3) := by decide +kernel
theorem dX7_bestOf_29 : decode cX7_bestOf 29 = .ok (.iload 4, 2) := by decide +kernel
theorem dX7_bestOf_31 : decode cX7_bestOf 31 = .ok (.iaload, 1) := by decide +kernel
theorem dX7_bestOf_32 : decode cX7_bestOf 32 = .ok (.ifCond .le 18, 3) := by decide +kernel
theorem dX7_bestOf_35 : decode cX7_bestOf 35 = .ok (.aload_n 0, 1) := by decide +kernel
theorem dX7_bestOf_36 : decode cX7_bestOf 36 = .ok (.getfield 67, 3) := by decide +kernel
theorem dX7_bestOf_39 : decode cX7_bestOf 39 = .ok (.iload 4, 2) := by decide +kernel
theorem dX7_bestOf_41 : decode cX7_bestOf 41 = .ok (.iaload, 1) := by decide +kernel
theorem dX7_bestOf_42 : decode cX7_bestOf 42 = .ok (.iload_n 2, 1) := by decide +kernel
theorem dX7_bestOf_43 : decode cX7_bestOf 43 = .ok (.if_icmp .le 7, 3) := by decide +kernel
theorem dX7_bestOf_46 : decode cX7_bestOf 46 = .ok (.iconst 1, 1) := by decide +kernel
theorem dX7_bestOf_47 : decode cX7_bestOf 47 = .ok (.goto 4, 3) := by decide +kernel
theorem dX7_bestOf_50 : decode cX7_bestOf 50 = .ok (.iconst 0, 1) := by decide +kernel
theorem dX7_bestOf_51 : decode cX7_bestOf 51 = .ok (.istore 5, 2) := by decide +kernel
theorem dX7_bestOf_53 : decode cX7_bestOf 53 = .ok (.iload 5, 2) := by decide +kernel
theorem dX7_bestOf_55 : decode cX7_bestOf 55 = .ok (.ifCond .eq 7, 3) := by decide +kernel
theorem dX7_bestOf_58 : decode cX7_bestOf 58 = .ok (.iload_n 3, 1) := by decide +kernel
theorem dX7_bestOf_59 : decode cX7_bestOf 59 = .ok (.goto 4, 3) := by decide +kernel
theorem dX7_bestOf_62 : decode cX7_bestOf 62 = .ok (.iload_n 1, 1) := by decide +kernel
theorem dX7_bestOf_63 : decode cX7_bestOf 63 = .ok (.istore_n 1, 1) := by decide +kernel
theorem dX7_bestOf_64 : decode cX7_bestOf 64 = .ok (.iload 5, 2) := by decide +kernel
theorem dX7_bestOf_66 : decode cX7_bestOf 66 = .ok (.ifCond .eq 13, 3) := by decide +kernel
theorem dX7_bestOf_69 : decode cX7_bestOf 69 = .ok (.aload_n 0, 1) := by decide +kernel
theorem dX7_bestOf_70 : decode cX7_bestOf 70 = .ok (.getfield 67, 3) := by decide +kernel
theorem dX7_bestOf_73 : decode cX7_bestOf 73 = .ok (.iload 4, 2) := by decide +kernel
theorem dX7_bestOf_75 : decode cX7_bestOf 75 = .ok (.iaload, 1) := by decide +kernel
theorem dX7_bestOf_76 : decode cX7_bestOf 76 = .ok (.goto 4, 3) := by decide +kernel
theorem dX7_bestOf_79 : decode cX7_bestOf 79 = .ok (.iload_n 2, 1) := by decide +kernel
theorem dX7_bestOf_80 : decode cX7_bestOf 80 = .ok (.istore_n 2, 1) := by decide +kernel
theorem dX7_bestOf_81 : decode cX7_bestOf 81 = .ok (.iinc 3 1, 3) := by decide +kernel
theorem dX7_bestOf_84 : decode cX7_bestOf 84 = .ok (.goto (-74), 3) := by decide +kernel
theorem dX7_bestOf_87 : decode cX7_bestOf 87 = .ok (.iload_n 1, 1) := by decide +kernel
theorem dX7_bestOf_88 : decode cX7_bestOf 88 = .ok (.ireturn, 1) := by decide +kernel
theorem dX7_best_0 : decode cX7_best 0 = .ok (.aload_n 0, 1) := by decide +kernel
theorem dX7_best_1 : decode cX7_best 1 = .ok (.invokevirtual 275, 3) := by decide +kernel
theorem dX7_best_4 : decode cX7_best 4 = .ok (.ireturn, 1) := by decide +kernel
theorem dX7_spread_0 : decode cX7_spread 0 = .ok (.iload_n 0, 1) := by decide +kernel
theorem dX7_spread_1 : decode cX7_spread 1 = .ok (.iload_n 0, 1) := by decide +kernel
theorem dX7_spread_2 : decode cX7_spread 2 = .ok (.iconst 1, 1) := by decide +kernel
theorem dX7_spread_3 : decode cX7_spread 3 = .ok (.ishl, 1) := by decide +kernel
theorem dX7_spread_4 : decode cX7_spread 4 = .ok (.ior, 1) := by decide +kernel
theorem dX7_spread_5 : decode cX7_spread 5 = .ok (.iload_n 0, 1) := by decide +kernel
theorem dX7_spread_6 : decode cX7_spread 6 = .ok (.iconst 1, 1) := by decide +kernel
theorem dX7_spread_7 : decode cX7_spread 7 = .ok (.ishr, 1) := by decide +kernel
theorem dX7_spread_8 : decode cX7_spread 8 = .ok (.ior, 1) := by decide +kernel
theorem dX7_spread_9 : decode cX7_spread 9 = .ok (.sipush 255, 3) := by decide +kernel
theorem dX7_spread_12 : decode cX7_spread 12 = .ok (.iand, 1) := by decide +kernel
theorem dX7_spread_13 : decode cX7_spread 13 = .ok (.ireturn, 1) := by decide +kernel
theorem dX7_whereOf_0 : decode cX7_whereOf 0 = .ok (.aload_n 0, 1) := by decide +kernel
theorem dX7_whereOf_1 : decode cX7_whereOf 1 = .ok (.invokevirtual 243, 3) := by decide +kernel
theorem dX7_whereOf_4 : decode cX7_whereOf 4 = .ok (.iconst 0, 1) := by decide +kernel
theorem dX7_whereOf_5 : decode cX7_whereOf 5 = .ok (.istore_n 2, 1) := by decide +kernel
theorem dX7_whereOf_6 : decode cX7_whereOf 6 = .ok (.iload_n 2, 1) := by decide +kernel
theorem dX7_whereOf_7 : decode cX7_whereOf 7 = .ok (.bipush 24, 2) := by decide +kernel
theorem dX7_whereOf_9 : decode cX7_whereOf 9 = .ok (.if_icmp .ge 104, 3) := by decide +kernel
theorem dX7_whereOf_12 : decode cX7_whereOf 12 = .ok (.aload_n 0, 1) := by decide +kernel
theorem dX7_whereOf_13 : decode cX7_whereOf 13 = .ok (.getfield 73, 3) := by decide +kernel
theorem dX7_whereOf_16 : decode cX7_whereOf 16 = .ok (.iload_n 2, 1) := by decide +kernel
theorem dX7_whereOf_17 : decode cX7_whereOf 17 = .ok (.iload_n 2, 1) := by decide +kernel
theorem dX7_whereOf_18 : decode cX7_whereOf 18 = .ok (.ifCond .ne 9, 3) := by decide +kernel
theorem dX7_whereOf_21 : decode cX7_whereOf 21 = .ok (.sipush 255, 3) := by decide +kernel
theorem dX7_whereOf_24 : decode cX7_whereOf 24 = .ok (.goto 14, 3) := by decide +kernel
theorem dX7_whereOf_27 : decode cX7_whereOf 27 = .ok (.aload_n 0, 1) := by decide +kernel
theorem dX7_whereOf_28 : decode cX7_whereOf 28 = .ok (.getfield 73, 3) := by decide +kernel
theorem dX7_whereOf_31 : decode cX7_whereOf 31 = .ok (.iload_n 2, 1) := by decide +kernel
theorem dX7_whereOf_32 : decode cX7_whereOf 32 = .ok (.iconst 1, 1) := by decide +kernel
theorem dX7_whereOf_33 : decode cX7_whereOf 33 = .ok (.isub, 1) := by decide +kernel
theorem dX7_whereOf_34 : decode cX7_whereOf 34 = .ok (.iaload, 1) := by decide +kernel
theorem dX7_whereOf_35 : decode cX7_whereOf 35 = .ok (.invokestatic 278, 3) := by decide +kernel
theorem dX7_whereOf_38 : decode cX7_whereOf 38 = .ok (.iastore, 1) := by decide +kernel
theorem dX7_whereOf_39 : decode cX7_whereOf 39 = .ok (.iconst 0, 1) := by decide +kernel
theorem dX7_whereOf_40 : decode cX7_whereOf 40 = .ok (.istore_n 3, 1) := by decide +kernel
theorem dX7_whereOf_41 : decode cX7_whereOf 41 = .ok (.iload_n 3, 1) := by decide +kernel
theorem dX7_whereOf_42 : decode cX7_whereOf 42 = .ok (.aload_n 0, 1) := by decide +kernel
theorem dX7_whereOf_43 : decode cX7_whereOf 43 = .ok (.getfield 135, 3) := by decide +kernel
theorem dX7_whereOf_46 : decode cX7_whereOf 46 = .ok (.if_icmp .ge 61, 3) := by decide +kernel
theorem dX7_whereOf_49 : decode cX7_whereOf 49 = .ok (.aload_n 0, 1) := by decide +kernel
theorem dX7_whereOf_50 : decode cX7_whereOf 50 = .ok (.getfield 73, 3) := by decide +kernel
theorem dX7_whereOf_53 : decode cX7_whereOf 53 = .ok (.iload_n 2, 1) := by decide +kernel
theorem dX7_whereOf_54 : decode cX7_whereOf 54 = .ok (.dup2, 1) := by decide +kernel
theorem dX7_whereOf_55 : decode cX7_whereOf 55 = .ok (.iaload, 1) := by decide +kernel
theorem dX7_whereOf_56 : decode cX7_whereOf 56 = .ok (.aload_n 0, 1) := by decide +kernel
theorem dX7_whereOf_57 : decode cX7_whereOf 57 = .ok (.getfield 55, 3) := by decide +kernel
theorem dX7_whereOf_60 : decode cX7_whereOf 60 = .ok (.iload_n 3, 1) := by decide +kernel
theorem dX7_whereOf_61 : decode cX7_whereOf 61 = .ok (.iaload, 1) := by decide +kernel
theorem dX7_whereOf_62 : decode cX7_whereOf 62 = .ok (.iconst 1, 1) := by decide +kernel
theorem dX7_whereOf_63 : decode cX7_whereOf 63 = .ok (.if_icmp .ne 33, 3) := by decide +kernel
theorem dX7_whereOf_66 : decode cX7_whereOf 66 = .ok (.aload_n 0, 1) := by decide +kernel
theorem dX7_whereOf_67 : decode cX7_whereOf 67 = .ok (.getfield 25, 3) := by decide +kernel
theorem dX7_whereOf_70 : decode cX7_whereOf 70 = .ok (.iload_n 3, 1) := by decide +kernel
theorem dX7_whereOf_71 : decode cX7_whereOf 71 = .ok (.iaload, 1) := by decide +kernel
theorem dX7_whereOf_72 : decode cX7_whereOf 72 = .ok (.ifCond .ne 24, 3) := by decide +kernel
theorem dX7_whereOf_75 : decode cX7_whereOf 75 = .ok (.aload_n 0, 1) := by decide +kernel
theorem dX7_whereOf_76 : decode cX7_whereOf 76 = .ok (.getfield 16, 3) := by decide +kernel
theorem dX7_whereOf_79 : decode cX7_whereOf 79 = .ok (.iload_n 3, 1) := by decide +kernel
theorem dX7_whereOf_80 : decode cX7_whereOf 80 = .ok (.iaload, 1) := by decide +kernel
theorem dX7_whereOf_81 : decode cX7_whereOf 81 = .ok (.iload_n 2, 1) := by decide +kernel
theorem dX7_whereOf_82 : decode cX7_whereOf 82 = .ok (.if_icmp .ne 14, 3) := by decide +kernel
theorem dX7_whereOf_85 : decode cX7_whereOf 85 = .ok (.iconst 1, 1) := by decide +kernel
theorem dX7_whereOf_86 : decode cX7_whereOf 86 = .ok (.aload_n 0, 1) := by decide +kernel
theorem dX7_whereOf_87 : decode cX7_whereOf 87 = .ok (.getfield 19, 3) := by decide +kernel
theorem dX7_whereOf_90 : decode cX7_whereOf 90 = .ok (.iload_n 3, 1) := by decide +kernel
theorem dX7_whereOf_91 : decode cX7_whereOf 91 = .ok (.iaload, 1) := by decide +kernel
theorem dX7_whereOf_92 : decode cX7_whereOf 92 = .ok (.ishl, 1) := by decide +kernel
theorem dX7_whereOf_93 : decode cX7_whereOf 93 = .ok (.goto 6, 3) := by decide +kernel
theorem dX7_whereOf_96 : decode cX7_whereOf 96 = .ok (.sipush 255, 3) := by decide +kernel
theorem dX7_whereOf_99 : decode cX7_whereOf 99 = .ok (.iand, 1) := by decide +kernel
theorem dX7_whereOf_100 : decode cX7_whereOf 100 = .ok (.iastore, 1) := by decide +kernel
theorem dX7_whereOf_101 : decode cX7_whereOf 101 = .ok (.iinc 3 1, 3) := by decide +kernel
theorem dX7_whereOf_104 : decode cX7_whereOf 104 = .ok (.goto (-63), 3) := by decide +kernel
theorem dX7_whereOf_107 : decode cX7_whereOf 107 = .ok (.iinc 2 1, 3) := by decide +kernel
theorem dX7_whereOf_110 : decode cX7_whereOf 110 = .ok (.goto (-104), 3) := by decide +kernel
theorem dX7_whereOf_113 : decode cX7_whereOf 113 = .ok (.bipush 22, 2) := by decide +kernel
theorem dX7_whereOf_115 : decode cX7_whereOf 115 = .ok (.istore_n 2, 1) := by decide +kernel
theorem dX7_whereOf_116 : decode cX7_whereOf 116 = .ok (.iload_n 2, 1) := by decide +kernel
theorem dX7_whereOf_117 : decode cX7_whereOf 117 = .ok (.ifCond .lt 29, 3) := by decide +kernel
theorem dX7_whereOf_120 : decode cX7_whereOf 120 = .ok (.aload_n 0, 1) := by decide +kernel
theorem dX7_whereOf_121 : decode cX7_whereOf 121 = .ok (.getfield 73, 3) := by decide +kernel
theorem dX7_whereOf_124 : decode cX7_whereOf 124 = .ok (.iload_n 2, 1) := by decide +kernel
theorem dX7_whereOf_125 : decode cX7_whereOf 125 = .ok (.dup2, 1) := by decide +kernel
theorem dX7_whereOf_126 : decode cX7_whereOf 126 = .ok (.iaload, 1) := by decide +kernel
theorem dX7_whereOf_127 : decode cX7_whereOf 127 = .ok (.aload_n 0, 1) := by decide +kernel
theorem dX7_whereOf_128 : decode cX7_whereOf 128 = .ok (.getfield 73, 3) := by decide +kernel
theorem dX7_whereOf_131 : decode cX7_whereOf 131 = .ok (.iload_n 2, 1) := by decide +kernel
theorem dX7_whereOf_132 : decode cX7_whereOf 132 = .ok (.iconst 1, 1) := by decide +kernel
theorem dX7_whereOf_133 : decode cX7_whereOf 133 = .ok (.iadd, 1) := by decide +kernel
theorem dX7_whereOf_134 : decode cX7_whereOf 134 = .ok (.iaload, 1) := by decide +kernel
theorem dX7_whereOf_135 : decode cX7_whereOf 135 = .ok (.invokestatic 278, 3) := by decide +kernel
theorem dX7_whereOf_138 : decode cX7_whereOf 138 = .ok (.iand, 1) := by decide +kernel
theorem dX7_whereOf_139 : decode cX7_whereOf 139 = .ok (.iastore, 1) := by decide +kernel
theorem dX7_whereOf_140 : decode cX7_whereOf 140 = .ok (.iinc 2 (-1), 3) := by decide +kernel
theorem dX7_whereOf_143 : decode cX7_whereOf 143 = .ok (.goto (-27), 3) := by decide +kernel
theorem dX7_whereOf_146 : decode cX7_whereOf 146 = .ok (.aload_n 0, 1) := by decide +kernel
theorem dX7_whereOf_147 : decode cX7_whereOf 147 = .ok (.getfield 73, 3) := by decide +kernel
theorem dX7_whereOf_150 : decode cX7_whereOf 150 = .ok (.iload_n 1, 1) := by decide +kernel
theorem dX7_whereOf_151 : decode cX7_whereOf 151 = .ok (.iaload, 1) := by decide +kernel
theorem dX7_whereOf_152 : decode cX7_whereOf 152 = .ok (.ireturn, 1) := by decide +kernel
theorem dX7_where_0 : decode cX7_where 0 = .ok (.iload_n 1, 1) := by decide +kernel
theorem dX7_where_1 : decode cX7_where 1 = .ok (.invokestatic 129, 3) := by decide +kernel
theorem dX7_where_4 : decode cX7_where 4 = .ok (.ifCond .eq 11, 3) := by decide +kernel
theorem dX7_where_7 : decode cX7_where 7 = .ok (.aload_n 0, 1) := by decide +kernel
theorem dX7_where_8 : decode cX7_where 8 = .ok (.iload_n 1, 1) := by decide +kernel
theorem dX7_where_9 : decode cX7_where 9 = .ok (.invokevirtual 281, 3) := by decide +kernel
theorem dX7_where_12 : decode cX7_where 12 = .ok (.goto 5, 3) := by decide +kernel
theorem dX7_where_15 : decode cX7_where 15 = .ok (.bipush (-2), 2) := by decide +kernel
theorem dX7_where_17 : decode cX7_where 17 = .ok (.ireturn, 1) := by decide +kernel
theorem dX7_starts_0 : decode cX7_starts 0 = .ok (.aload_n 0, 1) := by decide +kernel
theorem dX7_starts_1 : decode cX7_starts 1 = .ok (.invokevirtual 234, 3) := by decide +kernel
theorem dX7_starts_4 : decode cX7_starts 4 = .ok (.aload_n 0, 1) := by decide +kernel
theorem dX7_starts_5 : decode cX7_starts 5 = .ok (.iconst (-1), 1) := by decide +kernel
theorem dX7_starts_6 : decode cX7_starts 6 = .ok (.putfield 284, 3) := by decide +kernel
theorem dX7_starts_9 : decode cX7_starts 9 = .ok (.aload_n 0, 1) := by decide +kernel
theorem dX7_starts_10 : decode cX7_starts 10 = .ok (.iconst (-1), 1) := by decide +kernel
theorem dX7_starts_11 : decode cX7_starts 11 = .ok (.putfield 287, 3) := by decide +kernel
theorem dX7_starts_14 : decode cX7_starts 14 = .ok (.return_, 1) := by decide +kernel
theorem dX7_tries_0 : decode cX7_tries 0 = .ok (.aload_n 0, 1) := by decide +kernel
theorem dX7_tries_1 : decode cX7_tries 1 = .ok (.invokevirtual 237, 3) := by decide +kernel
theorem dX7_tries_4 : decode cX7_tries 4 = .ok (.aload_n 0, 1) := by decide +kernel
theorem dX7_tries_5 : decode cX7_tries 5 = .ok (.getfield 228, 3) := by decide +kernel
theorem dX7_tries_8 : decode cX7_tries 8 = .ok (.invokestatic 259, 3) := by decide +kernel
theorem dX7_tries_11 : decode cX7_tries 11 = .ok (.istore_n 2, 1) := by decide +kernel
theorem dX7_tries_12 : decode cX7_tries 12 = .ok (.aload_n 0, 1) := by decide +kernel
theorem dX7_tries_13 : decode cX7_tries 13 = .ok (.iload_n 2, 1) := by decide +kernel
theorem dX7_tries_14 : decode cX7_tries 14 = .ok (.aload_n 0, 1) := by decide +kernel
theorem dX7_tries_15 : decode cX7_tries 15 = .ok (.getfield 287, 3) := by decide +kernel
theorem dX7_tries_18 : decode cX7_tries 18 = .ok (.if_icmp .le 7, 3) := by decide +kernel
theorem dX7_tries_21 : decode cX7_tries 21 = .ok (.iload_n 1, 1) := by decide +kernel
theorem dX7_tries_22 : decode cX7_tries 22 = .ok (.goto 7, 3) := by decide +kernel
theorem dX7_tries_25 : decode cX7_tries 25 = .ok (.aload_n 0, 1) := by decide +kernel
theorem dX7_tries_26 : decode cX7_tries 26 = .ok (.getfield 284, 3) := by decide +kernel
theorem dX7_tries_29 : decode cX7_tries 29 = .ok (.putfield 284, 3) := by decide +kernel
theorem dX7_tries_32 : decode cX7_tries 32 = .ok (.aload_n 0, 1) := by decide +kernel
theorem dX7_tries_33 : decode cX7_tries 33 = .ok (.iload_n 2, 1) := by decide +kernel
theorem dX7_tries_34 : decode cX7_tries 34 = .ok (.aload_n 0, 1) := by decide +kernel
theorem dX7_tries_35 : decode cX7_tries 35 = .ok (.getfield 287, 3) := by decide +kernel
theorem dX7_tries_38 : decode cX7_tries 38 = .ok (.if_icmp .le 7, 3) := by decide +kernel
theorem dX7_tries_41 : decode cX7_tries 41 = .ok (.iload_n 2, 1) := by decide +kernel
theorem dX7_tries_42 : decode cX7_tries 42 = .ok (.goto 7, 3) := by decide +kernel
theorem dX7_tries_45 : decode cX7_tries 45 = .ok (.aload_n 0, 1) := by decide +kernel
theorem dX7_tries_46 : decode cX7_tries 46 = .ok (.getfield 287, 3) := by decide +kernel
theorem dX7_tries_49 : decode cX7_tries 49 = .ok (.putfield 287, 3) := by decide +kernel
theorem dX7_tries_52 : decode cX7_tries 52 = .ok (.return_, 1) := by decide +kernel
theorem dX7_moveOf_0 : decode cX7_moveOf 0 = .ok (.aload_n 0, 1) := by decide +kernel
theorem dX7_moveOf_1 : decode cX7_moveOf 1 = .ok (.invokevirtual 290, 3) := by decide +kernel
theorem dX7_moveOf_4 : decode cX7_moveOf 4 = .ok (.iconst 0, 1) := by decide +kernel
theorem dX7_moveOf_5 : decode cX7_moveOf 5 = .ok (.istore_n 3, 1) := by decide +kernel
theorem dX7_moveOf_6 : decode cX7_moveOf 6 = .ok (.iload_n 3, 1) := by decide +kernel
theorem dX7_moveOf_7 : decode cX7_moveOf 7 = .ok (.bipush 8, 2) := by decide +kernel
theorem dX7_moveOf_9 : decode cX7_moveOf 9 = .ok (.if_icmp .ge 21, 3) := by decide +kernel
theorem dX7_moveOf_12 : decode cX7_moveOf 12 = .ok (.aload_n 0, 1) := by decide +kernel
theorem dX7_moveOf_13 : decode cX7_moveOf 13 = .ok (.getfield 46, 3) := by decide +kernel
theorem dX7_moveOf_16 : decode cX7_moveOf 16 = .ok (.iload_n 1, 1) := by decide +kernel
theorem dX7_moveOf_17 : decode cX7_moveOf 17 = .ok (.iload_n 3, 1) := by decide +kernel
theorem dX7_moveOf_18 : decode cX7_moveOf 18 = .ok (.iastore, 1) := by decide +kernel
theorem dX7_moveOf_19 : decode cX7_moveOf 19 = .ok (.aload_n 0, 1) := by decide +kernel
theorem dX7_moveOf_20 : decode cX7_moveOf 20 = .ok (.iload_n 3, 1) := by decide +kernel
theorem dX7_moveOf_21 : decode cX7_moveOf 21 = .ok (.invokevirtual 293, 3) := by decide +kernel
theorem dX7_moveOf_24 : decode cX7_moveOf 24 = .ok (.iinc 3 1, 3) := by decide +kernel
theorem dX7_moveOf_27 : decode cX7_moveOf 27 = .ok (.goto (-21), 3) := by decide +kernel
theorem dX7_moveOf_30 : decode cX7_moveOf 30 = .ok (.iload_n 2, 1) := by decide +kernel
theorem dX7_moveOf_31 : decode cX7_moveOf 31 = .ok (.ifCond .ne 10, 3) := by decide +kernel
theorem dX7_moveOf_34 : decode cX7_moveOf 34 = .ok (.aload_n 0, 1) := by decide +kernel
theorem dX7_moveOf_35 : decode cX7_moveOf 35 = .ok (.getfield 284, 3) := by decide +kernel
theorem dX7_moveOf_38 : decode cX7_moveOf 38 = .ok (.goto 7, 3) := by decide +kernel
theorem dX7_moveOf_41 : decode cX7_moveOf 41 = .ok (.aload_n 0, 1) := by decide +kernel
theorem dX7_moveOf_42 : decode cX7_moveOf 42 = .ok (.getfield 287, 3) := by decide +kernel
theorem dX7_moveOf_45 : decode cX7_moveOf 45 = .ok (.ireturn, 1) := by decide +kernel
theorem dX7_move_0 : decode cX7_move 0 = .ok (.aload_n 0, 1) := by decide +kernel
theorem dX7_move_1 : decode cX7_move 1 = .ok (.iload_n 1, 1) := by decide +kernel
theorem dX7_move_2 : decode cX7_move 2 = .ok (.invokevirtual 156, 3) := by decide +kernel
theorem dX7_move_5 : decode cX7_move 5 = .ok (.ifCond .eq 19, 3) := by decide +kernel
theorem dX7_move_8 : decode cX7_move 8 = .ok (.iload_n 2, 1) := by decide +kernel
theorem dX7_move_9 : decode cX7_move 9 = .ok (.invokestatic 117, 3) := by decide +kernel
theorem dX7_move_12 : decode cX7_move 12 = .ok (.ifCond .eq 12, 3) := by decide +kernel
theorem dX7_move_15 : decode cX7_move 15 = .ok (.aload_n 0, 1) := by decide +kernel
theorem dX7_move_16 : decode cX7_move 16 = .ok (.iload_n 1, 1) := by decide +kernel
theorem dX7_move_17 : decode cX7_move 17 = .ok (.iload_n 2, 1) := by decide +kernel
theorem dX7_move_18 : decode cX7_move 18 = .ok (.invokevirtual 296, 3) := by decide +kernel
theorem dX7_move_21 : decode cX7_move 21 = .ok (.goto 5, 3) := by decide +kernel
theorem dX7_move_24 : decode cX7_move 24 = .ok (.bipush (-2), 2) := by decide +kernel
theorem dX7_move_26 : decode cX7_move 26 = .ok (.ireturn, 1) := by decide +kernel
theorem dX7_dropOf_0 : decode cX7_dropOf 0 = .ok (.aload_n 0, 1) := by decide +kernel
theorem dX7_dropOf_1 : decode cX7_dropOf 1 = .ok (.invokevirtual 290, 3) := by decide +kernel
theorem dX7_dropOf_4 : decode cX7_dropOf 4 = .ok (.iconst 0, 1) := by decide +kernel
theorem dX7_dropOf_5 : decode cX7_dropOf 5 = .ok (.istore_n 2, 1) := by decide +kernel
theorem dX7_dropOf_6 : decode cX7_dropOf 6 = .ok (.iload_n 2, 1) := by decide +kernel
theorem dX7_dropOf_7 : decode cX7_dropOf 7 = .ok (.aload_n 0, 1) := by decide +kernel
theorem dX7_dropOf_8 : decode cX7_dropOf 8 = .ok (.getfield 135, 3) := by decide +kernel
theorem dX7_dropOf_11 : decode cX7_dropOf 11 = .ok (.if_icmp .ge 19, 3) := by decide +kernel
theorem dX7_dropOf_14 : decode cX7_dropOf 14 = .ok (.aload_n 0, 1) := by decide +kernel
theorem dX7_dropOf_15 : decode cX7_dropOf 15 = .ok (.iload_n 2, 1) := by decide +kernel
theorem dX7_dropOf_16 : decode cX7_dropOf 16 = .ok (.putfield 187, 3) := by decide +kernel
theorem dX7_dropOf_19 : decode cX7_dropOf 19 = .ok (.aload_n 0, 1) := by decide +kernel
theorem dX7_dropOf_20 : decode cX7_dropOf 20 = .ok (.iload_n 2, 1) := by decide +kernel
theorem dX7_dropOf_21 : decode cX7_dropOf 21 = .ok (.invokevirtual 293, 3) := by decide +kernel
theorem dX7_dropOf_24 : decode cX7_dropOf 24 = .ok (.iinc 2 1, 3) := by decide +kernel
theorem dX7_dropOf_27 : decode cX7_dropOf 27 = .ok (.goto (-21), 3) := by decide +kernel
theorem dX7_dropOf_30 : decode cX7_dropOf 30 = .ok (.iload_n 1, 1) := by decide +kernel
theorem dX7_dropOf_31 : decode cX7_dropOf 31 = .ok (.ifCond .ne 10, 3) := by decide +kernel
theorem dX7_dropOf_34 : decode cX7_dropOf 34 = .ok (.aload_n 0, 1) := by decide +kernel
theorem dX7_dropOf_35 : decode cX7_dropOf 35 = .ok (.getfield 284, 3) := by decide +kernel
theorem dX7_dropOf_38 : decode cX7_dropOf 38 = .ok (.goto 7, 3) := by decide +kernel
theorem dX7_dropOf_41 : decode cX7_dropOf 41 = .ok (.aload_n 0, 1) := by decide +kernel
theorem dX7_dropOf_42 : decode cX7_dropOf 42 = .ok (.getfield 287, 3) := by decide +kernel
theorem dX7_dropOf_45 : decode cX7_dropOf 45 = .ok (.ireturn, 1) := by decide +kernel
theorem dX7_drop_0 : decode cX7_drop 0 = .ok (.iload_n 1, 1) := by decide +kernel
theorem dX7_drop_1 : decode cX7_drop 1 = .ok (.invokestatic 117, 3) := by decide +kernel
theorem dX7_drop_4 : decode cX7_drop 4 = .ok (.ifCond .eq 11, 3) := by decide +kernel
theorem dX7_drop_7 : decode cX7_drop 7 = .ok (.aload_n 0, 1) := by decide +kernel
theorem dX7_drop_8 : decode cX7_drop 8 = .ok (.iload_n 1, 1) := by decide +kernel
theorem dX7_drop_9 : decode cX7_drop 9 = .ok (.invokevirtual 299, 3) := by decide +kernel
theorem dX7_drop_12 : decode cX7_drop 12 = .ok (.goto 5, 3) := by decide +kernel
theorem dX7_drop_15 : decode cX7_drop 15 = .ok (.bipush (-2), 2) := by decide +kernel
theorem dX7_drop_17 : decode cX7_drop 17 = .ok (.ireturn, 1) := by decide +kernel
theorem dX7_cleanOf_0 : decode cX7_cleanOf 0 = .ok (.aload_n 0, 1) := by decide +kernel
theorem dX7_cleanOf_1 : decode cX7_cleanOf 1 = .ok (.invokevirtual 234, 3) := by decide +kernel
theorem dX7_cleanOf_4 : decode cX7_cleanOf 4 = .ok (.iconst 0, 1) := by decide +kernel
theorem dX7_cleanOf_5 : decode cX7_cleanOf 5 = .ok (.istore_n 2, 1) := by decide +kernel
theorem dX7_cleanOf_6 : decode cX7_cleanOf 6 = .ok (.iload_n 2, 1) := by decide +kernel
theorem dX7_cleanOf_7 : decode cX7_cleanOf 7 = .ok (.aload_n 0, 1) := by decide +kernel
theorem dX7_cleanOf_8 : decode cX7_cleanOf 8 = .ok (.getfield 135, 3) := by decide +kernel
theorem dX7_cleanOf_11 : decode cX7_cleanOf 11 = .ok (.if_icmp .ge 62, 3) := by decide +kernel
theorem dX7_cleanOf_14 : decode cX7_cleanOf 14 = .ok (.aload_n 0, 1) := by decide +kernel
theorem dX7_cleanOf_15 : decode cX7_cleanOf 15 = .ok (.getfield 76, 3) := by decide +kernel
theorem dX7_cleanOf_18 : decode cX7_cleanOf 18 = .ok (.iload_n 2, 1) := by decide +kernel
theorem dX7_cleanOf_19 : decode cX7_cleanOf 19 = .ok (.iconst 0, 1) := by decide +kernel
theorem dX7_cleanOf_20 : decode cX7_cleanOf 20 = .ok (.iastore, 1) := by decide +kernel
theorem dX7_cleanOf_21 : decode cX7_cleanOf 21 = .ok (.iconst 0, 1) := by decide +kernel
theorem dX7_cleanOf_22 : decode cX7_cleanOf 22 = .ok (.istore_n 3, 1) := by decide +kernel
theorem dX7_cleanOf_23 : decode cX7_cleanOf 23 = .ok (.iload_n 3, 1) := by decide +kernel
theorem dX7_cleanOf_24 : decode cX7_cleanOf 24 = .ok (.aload_n 0, 1) := by decide +kernel
theorem dX7_cleanOf_25 : decode cX7_cleanOf 25 = .ok (.getfield 135, 3) := by decide +kernel
theorem dX7_cleanOf_28 : decode cX7_cleanOf 28 = .ok (.if_icmp .ge 39, 3) := by decide +kernel
theorem dX7_cleanOf_31 : decode cX7_cleanOf 31 = .ok (.aload_n 0, 1) := by decide +kernel
theorem dX7_cleanOf_32 : decode cX7_cleanOf 32 = .ok (.getfield 76, 3) := by decide +kernel
theorem dX7_cleanOf_35 : decode cX7_cleanOf 35 = .ok (.iload_n 2, 1) := by decide +kernel
theorem dX7_cleanOf_36 : decode cX7_cleanOf 36 = .ok (.dup2, 1) := by decide +kernel
theorem dX7_cleanOf_37 : decode cX7_cleanOf 37 = .ok (.iaload, 1) := by decide +kernel
theorem dX7_cleanOf_38 : decode cX7_cleanOf 38 = .ok (.iload_n 3, 1) := by decide +kernel
theorem dX7_cleanOf_39 : decode cX7_cleanOf 39 = .ok (.iload_n 2, 1) := by decide +kernel
theorem dX7_cleanOf_40 : decode cX7_cleanOf 40 = .ok (.if_icmp .eq 18, 3) := by decide +kernel
theorem dX7_cleanOf_43 : decode cX7_cleanOf 43 = .ok (.aload_n 0, 1) := by decide +kernel
theorem dX7_cleanOf_44 : decode cX7_cleanOf 44 = .ok (.iload_n 3, 1) := by decide +kernel
theorem dX7_cleanOf_45 : decode cX7_cleanOf 45 = .ok (.iload_n 2, 1) := by decide +kernel
theorem dX7_cleanOf_46 : decode cX7_cleanOf 46 = .ok (.invokevirtual 200, 3) := by decide +kernel
theorem dX7_cleanOf_49 : decode cX7_cleanOf 49 = .ok (.ifCond .eq 9, 3) := by decide +kernel
theorem dX7_cleanOf_52 : decode cX7_cleanOf 52 = .ok (.iconst 1, 1) := by decide +kernel
theorem dX7_cleanOf_53 : decode cX7_cleanOf 53 = .ok (.iload_n 3, 1) := by decide +kernel
theorem dX7_cleanOf_54 : decode cX7_cleanOf 54 = .ok (.ishl, 1) := by decide +kernel
theorem dX7_cleanOf_55 : decode cX7_cleanOf 55 = .ok (.goto 4, 3) := by decide +kernel
theorem dX7_cleanOf_58 : decode cX7_cleanOf 58 = .ok (.iconst 0, 1) := by decide +kernel
theorem dX7_cleanOf_59 : decode cX7_cleanOf 59 = .ok (.ior, 1) := by decide +kernel
theorem dX7_cleanOf_60 : decode cX7_cleanOf 60 = .ok (.iastore, 1) := by decide +kernel
theorem dX7_cleanOf_61 : decode cX7_cleanOf 61 = .ok (.iinc 3 1, 3) := by decide +kernel
theorem dX7_cleanOf_64 : decode cX7_cleanOf 64 = .ok (.goto (-41), 3) := by decide +kernel
theorem dX7_cleanOf_67 : decode cX7_cleanOf 67 = .ok (.iinc 2 1, 3) := by decide +kernel
theorem dX7_cleanOf_70 : decode cX7_cleanOf 70 = .ok (.goto (-64), 3) := by decide +kernel
theorem dX7_cleanOf_73 : decode cX7_cleanOf 73 = .ok (.iconst 0, 1) := by decide +kernel
theorem dX7_cleanOf_74 : decode cX7_cleanOf 74 = .ok (.istore_n 2, 1) := by decide +kernel
theorem dX7_cleanOf_75 : decode cX7_cleanOf 75 = .ok (.iconst 0, 1) := by decide +kernel
theorem dX7_cleanOf_76 : decode cX7_cleanOf 76 = .ok (.istore_n 3, 1) := by decide +kernel
theorem dX7_cleanOf_77 : decode cX7_cleanOf 77 = .ok (.iconst 0, 1) := by decide +kernel
theorem dX7_cleanOf_78 : decode cX7_cleanOf 78 = .ok (.istore 4, 2) := by decide +kernel
theorem dX7_cleanOf_80 : decode cX7_cleanOf 80 = .ok (.iload 4, 2) := by decide +kernel
theorem dX7_cleanOf_82 : decode cX7_cleanOf 82 = .ok (.iconst 1, 1) := by decide +kernel
theorem dX7_cleanOf_83 : decode cX7_cleanOf 83 = .ok (.aload_n 0, 1) := by decide +kernel
theorem dX7_cleanOf_84 : decode cX7_cleanOf 84 = .ok (.getfield 135, 3) := by decide +kernel
theorem dX7_cleanOf_87 : decode cX7_cleanOf 87 = .ok (.ishl, 1) := by decide +kernel
theorem dX7_cleanOf_88 : decode cX7_cleanOf 88 = .ok (.if_icmp .ge 105, 3) := by decide +kernel
theorem dX7_cleanOf_91 : decode cX7_cleanOf 91 = .ok (.iload 4, 2) := by decide +kernel
theorem dX7_cleanOf_93 : decode cX7_cleanOf 93 = .ok (.invokestatic 259, 3) := by decide +kernel
theorem dX7_cleanOf_96 : decode cX7_cleanOf 96 = .ok (.iload_n 3, 1) := by decide +kernel
theorem dX7_cleanOf_97 : decode cX7_cleanOf 97 = .ok (.if_icmp .le 7, 3) := by decide +kernel
theorem dX7_cleanOf_100 : decode cX7_cleanOf 100 = .ok (.iconst 1, 1) := by decide +kernel
theorem dX7_cleanOf_101 : decode cX7_cleanOf 101 = .ok (.goto 4, 3) := by decide +kernel
theorem dX7_cleanOf_104 : decode cX7_cleanOf 104 = .ok (.iconst 0, 1) := by decide +kernel
theorem dX7_cleanOf_105 : decode cX7_cleanOf 105 = .ok (.istore 5, 2) := by decide +kernel
theorem dX7_cleanOf_107 : decode cX7_cleanOf 107 = .ok (.iconst 0, 1) := by decide +kernel
theorem dX7_cleanOf_108 : decode cX7_cleanOf 108 = .ok (.istore 6, 2) := by decide +kernel
theorem dX7_cleanOf_110 : decode cX7_cleanOf 110 = .ok (.iload 6, 2) := by decide +kernel
theorem dX7_cleanOf_112 : decode cX7_cleanOf 112 = .ok (.aload_n 0, 1) := by decide +kernel
theorem dX7_cleanOf_113 : decode cX7_cleanOf 113 = .ok (.getfield 135, 3) := by decide +kernel
theorem dX7_cleanOf_116 : decode cX7_cleanOf 116 = .ok (.if_icmp .ge 44, 3) := by decide +kernel
theorem dX7_cleanOf_119 : decode cX7_cleanOf 119 = .ok (.iload 5, 2) := by decide +kernel
theorem dX7_cleanOf_121 : decode cX7_cleanOf 121 = .ok (.ifCond .eq 39, 3) := by decide +kernel
theorem dX7_cleanOf_124 : decode cX7_cleanOf 124 = .ok (.iload 4, 2) := by decide +kernel
theorem dX7_cleanOf_126 : decode cX7_cleanOf 126 = .ok (.iload 6, 2) := by decide +kernel
theorem dX7_cleanOf_128 : decode cX7_cleanOf 128 = .ok (.invokestatic 196, 3) := by decide +kernel
theorem dX7_cleanOf_131 : decode cX7_cleanOf 131 = .ok (.ifCond .eq 16, 3) := by decide +kernel
theorem dX7_cleanOf_134 : decode cX7_cleanOf 134 = .ok (.iload 4, 2) := by decide +kernel
theorem dX7_cleanOf_136 : decode cX7_cleanOf 136 = .ok (.aload_n 0, 1) := by decide +kernel
theorem dX7_cleanOf_137 : decode cX7_cleanOf 137 = .ok (.getfield 76, 3) := by decide +kernel
theorem dX7_cleanOf_140 : decode cX7_cleanOf 140 = .ok (.iload 6, 2) := by decide +kernel
theorem dX7_cleanOf_142 : decode cX7_cleanOf 142 = .ok (.iaload, 1) := by decide +kernel
theorem dX7_cleanOf_143 : decode cX7_cleanOf 143 = .ok (.iand, 1) := by decide +kernel
theorem dX7_cleanOf_144 : decode cX7_cleanOf 144 = .ok (.ifCond .ne 7, 3) := by decide +kernel
theorem dX7_cleanOf_147 : decode cX7_cleanOf 147 = .ok (.iconst 1, 1) := by decide +kernel
theorem dX7_cleanOf_148 : decode cX7_cleanOf 148 = .ok (.goto 4, 3) := by decide +kernel
theorem dX7_cleanOf_151 : decode cX7_cleanOf 151 = .ok (.iconst 0, 1) := by decide +kernel
theorem dX7_cleanOf_152 : decode cX7_cleanOf 152 = .ok (.istore 5, 2) := by decide +kernel
theorem dX7_cleanOf_154 : decode cX7_cleanOf 154 = .ok (.iinc 6 1, 3) := by decide +kernel
theorem dX7_cleanOf_157 : decode cX7_cleanOf 157 = .ok (.goto (-47), 3) := by decide +kernel
theorem dX7_cleanOf_160 : decode cX7_cleanOf 160 = .ok (.iload 5, 2) := by decide +kernel
theorem dX7_cleanOf_162 : decode cX7_cleanOf 162 = .ok (.ifCond .eq 8, 3) := by decide +kernel
theorem dX7_cleanOf_165 : decode cX7_cleanOf 165 = .ok (.iload 4, 2) := by decide +kernel
theorem dX7_cleanOf_167 : decode cX7_cleanOf 167 = .ok (.goto 4, 3) := by decide +kernel
theorem dX7_cleanOf_170 : decode cX7_cleanOf 170 = .ok (.iload_n 2, 1) := by decide +kernel
theorem dX7_cleanOf_171 : decode cX7_cleanOf 171 = .ok (.istore_n 2, 1) := by decide +kernel
theorem dX7_cleanOf_172 : decode cX7_cleanOf 172 = .ok (.iload 5, 2) := by decide +kernel
theorem dX7_cleanOf_174 : decode cX7_cleanOf 174 = .ok (.ifCond .eq 11, 3) := by decide +kernel
theorem dX7_cleanOf_177 : decode cX7_cleanOf 177 = .ok (.iload 4, 2) := by decide +kernel
theorem dX7_cleanOf_179 : decode cX7_cleanOf 179 = .ok (.invokestatic 259, 3) := by decide +kernel
theorem dX7_cleanOf_182 : decode cX7_cleanOf 182 = .ok (.goto 4, 3) := by decide +kernel
theorem dX7_cleanOf_185 : decode cX7_cleanOf 185 = .ok (.iload_n 3, 1) := by decide +kernel
theorem dX7_cleanOf_186 : decode cX7_cleanOf 186 = .ok (.istore_n 3, 1) := by decide +kernel
theorem dX7_cleanOf_187 : decode cX7_cleanOf 187 = .ok (.iinc 4 1, 3) := by decide +kernel
theorem dX7_cleanOf_190 : decode cX7_cleanOf 190 = .ok (.goto (-110), 3) := by decide +kernel
theorem dX7_cleanOf_193 : decode cX7_cleanOf 193 = .ok (.iload_n 1, 1) := by decide +kernel
theorem dX7_cleanOf_194 : decode cX7_cleanOf 194 = .ok (.ifCond .ne 7, 3) := by decide +kernel
theorem dX7_cleanOf_197 : decode cX7_cleanOf 197 = .ok (.iload_n 3, 1) := by decide +kernel
theorem dX7_cleanOf_198 : decode cX7_cleanOf 198 = .ok (.goto 4, 3) := by decide +kernel
theorem dX7_cleanOf_201 : decode cX7_cleanOf 201 = .ok (.iload_n 2, 1) := by decide +kernel
theorem dX7_cleanOf_202 : decode cX7_cleanOf 202 = .ok (.ireturn, 1) := by decide +kernel
theorem dX7_clean_0 : decode cX7_clean 0 = .ok (.iload_n 1, 1) := by decide +kernel
theorem dX7_clean_1 : decode cX7_clean 1 = .ok (.invokestatic 117, 3) := by decide +kernel
theorem dX7_clean_4 : decode cX7_clean 4 = .ok (.ifCond .eq 11, 3) := by decide +kernel
theorem dX7_clean_7 : decode cX7_clean 7 = .ok (.aload_n 0, 1) := by decide +kernel
theorem dX7_clean_8 : decode cX7_clean 8 = .ok (.iload_n 1, 1) := by decide +kernel
theorem dX7_clean_9 : decode cX7_clean 9 = .ok (.invokevirtual 302, 3) := by decide +kernel
theorem dX7_clean_12 : decode cX7_clean 12 = .ok (.goto 5, 3) := by decide +kernel
theorem dX7_clean_15 : decode cX7_clean 15 = .ok (.bipush (-2), 2) := by decide +kernel
theorem dX7_clean_17 : decode cX7_clean 17 = .ok (.ireturn, 1) := by decide +kernel
theorem dX7_isSpared_0 : decode cX7_isSpared 0 = .ok (.aload_n 0, 1) := by decide +kernel
theorem dX7_isSpared_1 : decode cX7_isSpared 1 = .ok (.iload_n 1, 1) := by decide +kernel
theorem dX7_isSpared_2 : decode cX7_isSpared 2 = .ok (.putfield 190, 3) := by decide +kernel
theorem dX7_isSpared_5 : decode cX7_isSpared 5 = .ok (.aload_n 0, 1) := by decide +kernel
theorem dX7_isSpared_6 : decode cX7_isSpared 6 = .ok (.invokevirtual 237, 3) := by decide +kernel
theorem dX7_isSpared_9 : decode cX7_isSpared 9 = .ok (.aload_n 0, 1) := by decide +kernel
theorem dX7_isSpared_10 : decode cX7_isSpared 10 = .ok (.getfield 228, 3) := by decide +kernel
theorem dX7_isSpared_13 : decode cX7_isSpared 13 = .ok (.iconst 1, 1) := by decide +kernel
theorem dX7_isSpared_14 : decode cX7_isSpared 14 = .ok (.aload_n 0, 1) := by decide +kernel
theorem dX7_isSpared_15 : decode cX7_isSpared 15 = .ok (.getfield 138, 3) := by decide +kernel
theorem dX7_isSpared_18 : decode cX7_isSpared 18 = .ok (.ishl, 1) := by decide +kernel
theorem dX7_isSpared_19 : decode cX7_isSpared 19 = .ok (.iconst 1, 1) := by decide +kernel
theorem dX7_isSpared_20 : decode cX7_isSpared 20 = .ok (.isub, 1) := by decide +kernel
theorem dX7_isSpared_21 : decode cX7_isSpared 21 = .ok (.if_icmp .ne 7, 3) := by decide +kernel
theorem dX7_isSpared_24 : decode cX7_isSpared 24 = .ok (.iconst 1, 1) := by decide +kernel
theorem dX7_isSpared_25 : decode cX7_isSpared 25 = .ok (.goto 4, 3) := by decide +kernel
theorem dX7_isSpared_28 : decode cX7_isSpared 28 = .ok (.iconst 0, 1) := by decide +kernel
theorem dX7_isSpared_29 : decode cX7_isSpared 29 = .ok (.ireturn, 1) := by decide +kernel
theorem dX7_spareBy_0 : decode cX7_spareBy 0 = .ok (.aload_n 0, 1) := by decide +kernel
theorem dX7_spareBy_1 : decode cX7_spareBy 1 = .ok (.invokevirtual 234, 3) := by decide +kernel
theorem dX7_spareBy_4 : decode cX7_spareBy 4 = .ok (.aload_n 0, 1) := by decide +kernel
theorem dX7_spareBy_5 : decode cX7_spareBy 5 = .ok (.iconst 0, 1) := by decide +kernel
theorem dX7_spareBy_6 : decode cX7_spareBy 6 = .ok (.invokevirtual 305, 3) := by decide +kernel
theorem dX7_spareBy_9 : decode cX7_spareBy 9 = .ok (.ifCond .eq 5, 3) := by decide +kernel
theorem dX7_spareBy_12 : decode cX7_spareBy 12 = .ok (.iconst 0, 1) := by decide +kernel
theorem dX7_spareBy_13 : decode cX7_spareBy 13 = .ok (.ireturn, 1) := by decide +kernel
theorem dX7_spareBy_14 : decode cX7_spareBy 14 = .ok (.iconst 0, 1) := by decide +kernel
theorem dX7_spareBy_15 : decode cX7_spareBy 15 = .ok (.istore_n 1, 1) := by decide +kernel
theorem dX7_spareBy_16 : decode cX7_spareBy 16 = .ok (.iload_n 1, 1) := by decide +kernel
theorem dX7_spareBy_17 : decode cX7_spareBy 17 = .ok (.aload_n 0, 1) := by decide +kernel
theorem dX7_spareBy_18 : decode cX7_spareBy 18 = .ok (.getfield 171, 3) := by decide +kernel
theorem dX7_spareBy_21 : decode cX7_spareBy 21 = .ok (.if_icmp .ge 28, 3) := by decide +kernel
theorem dX7_spareBy_24 : decode cX7_spareBy 24 = .ok (.aload_n 0, 1) := by decide +kernel
theorem dX7_spareBy_25 : decode cX7_spareBy 25 = .ok (.getfield 79, 3) := by decide +kernel
theorem dX7_spareBy_28 : decode cX7_spareBy 28 = .ok (.iconst 0, 1) := by decide +kernel
theorem dX7_spareBy_29 : decode cX7_spareBy 29 = .ok (.iload_n 1, 1) := by decide +kernel
theorem dX7_spareBy_30 : decode cX7_spareBy 30 = .ok (.iastore, 1) := by decide +kernel
theorem dX7_spareBy_31 : decode cX7_spareBy 31 = .ok (.aload_n 0, 1) := by decide +kernel
theorem dX7_spareBy_32 : decode cX7_spareBy 32 = .ok (.iconst 1, 1) := by decide +kernel
theorem dX7_spareBy_33 : decode cX7_spareBy 33 = .ok (.iload_n 1, 1) := by decide +kernel
theorem dX7_spareBy_34 : decode cX7_spareBy 34 = .ok (.ishl, 1) := by decide +kernel
theorem dX7_spareBy_35 : decode cX7_spareBy 35 = .ok (.invokevirtual 305, 3) := by decide +kernel
theorem dX7_spareBy_38 : decode cX7_spareBy 38 = .ok (.ifCond .eq 5, 3) := by decide +kernel
theorem dX7_spareBy_41 : decode cX7_spareBy 41 = .ok (.iconst 1, 1) := by decide +kernel
theorem dX7_spareBy_42 : decode cX7_spareBy 42 = .ok (.ireturn, 1) := by decide +kernel
theorem dX7_spareBy_43 : decode cX7_spareBy 43 = .ok (.iinc 1 1, 3) := by decide +kernel
theorem dX7_spareBy_46 : decode cX7_spareBy 46 = .ok (.goto (-30), 3) := by decide +kernel
theorem dX7_spareBy_49 : decode cX7_spareBy 49 = .ok (.iconst 0, 1) := by decide +kernel
theorem dX7_spareBy_50 : decode cX7_spareBy 50 = .ok (.istore_n 1, 1) := by decide +kernel
theorem dX7_spareBy_51 : decode cX7_spareBy 51 = .ok (.iload_n 1, 1) := by decide +kernel
theorem dX7_spareBy_52 : decode cX7_spareBy 52 = .ok (.aload_n 0, 1) := by decide +kernel
theorem dX7_spareBy_53 : decode cX7_spareBy 53 = .ok (.getfield 171, 3) := by decide +kernel
theorem dX7_spareBy_56 : decode cX7_spareBy 56 = .ok (.if_icmp .ge 57, 3) := by decide +kernel
theorem dX7_spareBy_59 : decode cX7_spareBy 59 = .ok (.iload_n 1, 1) := by decide +kernel
theorem dX7_spareBy_60 : decode cX7_spareBy 60 = .ok (.iconst 1, 1) := by decide +kernel
theorem dX7_spareBy_61 : decode cX7_spareBy 61 = .ok (.iadd, 1) := by decide +kernel
theorem dX7_spareBy_62 : decode cX7_spareBy 62 = .ok (.istore_n 2, 1) := by decide +kernel
theorem dX7_spareBy_63 : decode cX7_spareBy 63 = .ok (.iload_n 2, 1) := by decide +kernel
theorem dX7_spareBy_64 : decode cX7_spareBy 64 = .ok (.aload_n 0, 1) := by decide +kernel
theorem dX7_spareBy_65 : decode cX7_spareBy 65 = .ok (.getfield 171, 3) := by decide +kernel
theorem dX7_spareBy_68 : decode cX7_spareBy 68 = .ok (.if_icmp .ge 39, 3) := by decide +kernel
theorem dX7_spareBy_71 : decode cX7_spareBy 71 = .ok (.aload_n 0, 1) := by decide +kernel
theorem dX7_spareBy_72 : decode cX7_spareBy 72 = .ok (.getfield 79, 3) := by decide +kernel
theorem dX7_spareBy_75 : decode cX7_spareBy 75 = .ok (.iconst 0, 1) := by decide +kernel
theorem dX7_spareBy_76 : decode cX7_spareBy 76 = .ok (.iload_n 1, 1) := by decide +kernel
theorem dX7_spareBy_77 : decode cX7_spareBy 77 = .ok (.iastore, 1) := by decide +kernel
theorem dX7_spareBy_78 : decode cX7_spareBy 78 = .ok (.aload_n 0, 1) := by decide +kernel
theorem dX7_spareBy_79 : decode cX7_spareBy 79 = .ok (.getfield 79, 3) := by decide +kernel
theorem dX7_spareBy_82 : decode cX7_spareBy 82 = .ok (.iconst 1, 1) := by decide +kernel
theorem dX7_spareBy_83 : decode cX7_spareBy 83 = .ok (.iload_n 2, 1) := by decide +kernel
theorem dX7_spareBy_84 : decode cX7_spareBy 84 = .ok (.iastore, 1) := by decide +kernel
theorem dX7_spareBy_85 : decode cX7_spareBy 85 = .ok (.aload_n 0, 1) := by decide +kernel
theorem dX7_spareBy_86 : decode cX7_spareBy 86 = .ok (.iconst 1, 1) := by decide +kernel
theorem dX7_spareBy_87 : decode cX7_spareBy 87 = .ok (.iload_n 1, 1) := by decide +kernel
theorem dX7_spareBy_88 : decode cX7_spareBy 88 = .ok (.ishl, 1) := by decide +kernel
theorem dX7_spareBy_89 : decode cX7_spareBy 89 = .ok (.iconst 1, 1) := by decide +kernel
theorem dX7_spareBy_90 : decode cX7_spareBy 90 = .ok (.iload_n 2, 1) := by decide +kernel
theorem dX7_spareBy_91 : decode cX7_spareBy 91 = .ok (.ishl, 1) := by decide +kernel
theorem dX7_spareBy_92 : decode cX7_spareBy 92 = .ok (.ior, 1) := by decide +kernel
theorem dX7_spareBy_93 : decode cX7_spareBy 93 = .ok (.invokevirtual 305, 3) := by decide +kernel
theorem dX7_spareBy_96 : decode cX7_spareBy 96 = .ok (.ifCond .eq 5, 3) := by decide +kernel
theorem dX7_spareBy_99 : decode cX7_spareBy 99 = .ok (.iconst 2, 1) := by decide +kernel
theorem dX7_spareBy_100 : decode cX7_spareBy 100 = .ok (.ireturn, 1) := by decide +kernel
theorem dX7_spareBy_101 : decode cX7_spareBy 101 = .ok (.iinc 2 1, 3) := by decide +kernel
theorem dX7_spareBy_104 : decode cX7_spareBy 104 = .ok (.goto (-41), 3) := by decide +kernel
theorem dX7_spareBy_107 : decode cX7_spareBy 107 = .ok (.iinc 1 1, 3) := by decide +kernel
theorem dX7_spareBy_110 : decode cX7_spareBy 110 = .ok (.goto (-59), 3) := by decide +kernel
theorem dX7_spareBy_113 : decode cX7_spareBy 113 = .ok (.iconst (-1), 1) := by decide +kernel
theorem dX7_spareBy_114 : decode cX7_spareBy 114 = .ok (.ireturn, 1) := by decide +kernel
theorem dX7_ofRow_0 : decode cX7_ofRow 0 = .ok (.iload_n 2, 1) := by decide +kernel
theorem dX7_ofRow_1 : decode cX7_ofRow 1 = .ok (.iconst (-1), 1) := by decide +kernel
theorem dX7_ofRow_2 : decode cX7_ofRow 2 = .ok (.if_icmp .ne 7, 3) := by decide +kernel
theorem dX7_ofRow_5 : decode cX7_ofRow 5 = .ok (.iload_n 1, 1) := by decide +kernel
theorem dX7_ofRow_6 : decode cX7_ofRow 6 = .ok (.goto 18, 3) := by decide +kernel
theorem dX7_ofRow_9 : decode cX7_ofRow 9 = .ok (.iload_n 2, 1) := by decide +kernel
theorem dX7_ofRow_10 : decode cX7_ofRow 10 = .ok (.iload_n 1, 1) := by decide +kernel
theorem dX7_ofRow_11 : decode cX7_ofRow 11 = .ok (.if_icmp .ge 12, 3) := by decide +kernel
theorem dX7_ofRow_14 : decode cX7_ofRow 14 = .ok (.aload_n 0, 1) := by decide +kernel
theorem dX7_ofRow_15 : decode cX7_ofRow 15 = .ok (.getfield 79, 3) := by decide +kernel
theorem dX7_ofRow_18 : decode cX7_ofRow 18 = .ok (.iload_n 2, 1) := by decide +kernel
theorem dX7_ofRow_19 : decode cX7_ofRow 19 = .ok (.iaload, 1) := by decide +kernel
theorem dX7_ofRow_20 : decode cX7_ofRow 20 = .ok (.goto 4, 3) := by decide +kernel
theorem dX7_ofRow_23 : decode cX7_ofRow 23 = .ok (.iconst (-1), 1) := by decide +kernel
theorem dX7_ofRow_24 : decode cX7_ofRow 24 = .ok (.ireturn, 1) := by decide +kernel
theorem dX7_spare_0 : decode cX7_spare 0 = .ok (.iload_n 1, 1) := by decide +kernel
theorem dX7_spare_1 : decode cX7_spare 1 = .ok (.iconst (-1), 1) := by decide +kernel
theorem dX7_spare_2 : decode cX7_spare 2 = .ok (.iconst 1, 1) := by decide +kernel
theorem dX7_spare_3 : decode cX7_spare 3 = .ok (.invokestatic 113, 3) := by decide +kernel
theorem dX7_spare_6 : decode cX7_spare 6 = .ok (.ifCond .eq 15, 3) := by decide +kernel
theorem dX7_spare_9 : decode cX7_spare 9 = .ok (.aload_n 0, 1) := by decide +kernel
theorem dX7_spare_10 : decode cX7_spare 10 = .ok (.aload_n 0, 1) := by decide +kernel
theorem dX7_spare_11 : decode cX7_spare 11 = .ok (.invokevirtual 308, 3) := by decide +kernel
theorem dX7_spare_14 : decode cX7_spare 14 = .ok (.iload_n 1, 1) := by decide +kernel
theorem dX7_spare_15 : decode cX7_spare 15 = .ok (.invokevirtual 311, 3) := by decide +kernel
theorem dX7_spare_18 : decode cX7_spare 18 = .ok (.goto 5, 3) := by decide +kernel
theorem dX7_spare_21 : decode cX7_spare 21 = .ok (.bipush (-2), 2) := by decide +kernel
theorem dX7_spare_23 : decode cX7_spare 23 = .ok (.ireturn, 1) := by decide +kernel
theorem dX7_seen_0 : decode cX7_seen 0 = .ok (.iload_n 1, 1) := by decide +kernel
theorem dX7_seen_1 : decode cX7_seen 1 = .ok (.iconst 0, 1) := by decide +kernel
theorem dX7_seen_2 : decode cX7_seen 2 = .ok (.bipush 7, 2) := by decide +kernel
theorem dX7_seen_4 : decode cX7_seen 4 = .ok (.invokestatic 113, 3) := by decide +kernel
theorem dX7_seen_7 : decode cX7_seen 7 = .ok (.ifCond .eq 10, 3) := by decide +kernel
theorem dX7_seen_10 : decode cX7_seen 10 = .ok (.iload_n 2, 1) := by decide +kernel
theorem dX7_seen_11 : decode cX7_seen 11 = .ok (.invokestatic 117, 3) := by decide +kernel
theorem dX7_seen_14 : decode cX7_seen 14 = .ok (.ifCond .ne 6, 3) := by decide +kernel
theorem dX7_seen_17 : decode cX7_seen 17 = .ok (.bipush (-2), 2) := by decide +kernel
theorem dX7_seen_19 : decode cX7_seen 19 = .ok (.ireturn, 1) := by decide +kernel
theorem dX7_seen_20 : decode cX7_seen 20 = .ok (.aload_n 0, 1) := by decide +kernel
theorem dX7_seen_21 : decode cX7_seen 21 = .ok (.getfield 314, 3) := by decide +kernel
theorem dX7_seen_24 : decode cX7_seen 24 = .ok (.bipush 8, 2) := by decide +kernel
theorem dX7_seen_26 : decode cX7_seen 26 = .ok (.if_icmp .ne 6, 3) := by decide +kernel
theorem dX7_seen_29 : decode cX7_seen 29 = .ok (.bipush (-4), 2) := by decide +kernel
theorem dX7_seen_31 : decode cX7_seen 31 = .ok (.ireturn, 1) := by decide +kernel
theorem dX7_seen_32 : decode cX7_seen 32 = .ok (.aload_n 0, 1) := by decide +kernel
theorem dX7_seen_33 : decode cX7_seen 33 = .ok (.getfield 82, 3) := by decide +kernel
theorem dX7_seen_36 : decode cX7_seen 36 = .ok (.aload_n 0, 1) := by decide +kernel
theorem dX7_seen_37 : decode cX7_seen 37 = .ok (.getfield 314, 3) := by decide +kernel
theorem dX7_seen_40 : decode cX7_seen 40 = .ok (.iload_n 1, 1) := by decide +kernel
theorem dX7_seen_41 : decode cX7_seen 41 = .ok (.iastore, 1) := by decide +kernel
theorem dX7_seen_42 : decode cX7_seen 42 = .ok (.aload_n 0, 1) := by decide +kernel
theorem dX7_seen_43 : decode cX7_seen 43 = .ok (.getfield 85, 3) := by decide +kernel
theorem dX7_seen_46 : decode cX7_seen 46 = .ok (.aload_n 0, 1) := by decide +kernel
theorem dX7_seen_47 : decode cX7_seen 47 = .ok (.getfield 314, 3) := by decide +kernel
theorem dX7_seen_50 : decode cX7_seen 50 = .ok (.iload_n 2, 1) := by decide +kernel
theorem dX7_seen_51 : decode cX7_seen 51 = .ok (.iastore, 1) := by decide +kernel
theorem dX7_seen_52 : decode cX7_seen 52 = .ok (.aload_n 0, 1) := by decide +kernel
theorem dX7_seen_53 : decode cX7_seen 53 = .ok (.dup, 1) := by decide +kernel
theorem dX7_seen_54 : decode cX7_seen 54 = .ok (.getfield 314, 3) := by decide +kernel
theorem dX7_seen_57 : decode cX7_seen 57 = .ok (.iconst 1, 1) := by decide +kernel
theorem dX7_seen_58 : decode cX7_seen 58 = .ok (.iadd, 1) := by decide +kernel
theorem dX7_seen_59 : decode cX7_seen 59 = .ok (.putfield 314, 3) := by decide +kernel
theorem dX7_seen_62 : decode cX7_seen 62 = .ok (.aload_n 0, 1) := by decide +kernel
theorem dX7_seen_63 : decode cX7_seen 63 = .ok (.getfield 314, 3) := by decide +kernel
theorem dX7_seen_66 : decode cX7_seen 66 = .ok (.ireturn, 1) := by decide +kernel
theorem dX7_forget_0 : decode cX7_forget 0 = .ok (.aload_n 0, 1) := by decide +kernel
theorem dX7_forget_1 : decode cX7_forget 1 = .ok (.getfield 314, 3) := by decide +kernel
theorem dX7_forget_4 : decode cX7_forget 4 = .ok (.istore_n 1, 1) := by decide +kernel
theorem dX7_forget_5 : decode cX7_forget 5 = .ok (.aload_n 0, 1) := by decide +kernel
theorem dX7_forget_6 : decode cX7_forget 6 = .ok (.iconst 0, 1) := by decide +kernel
theorem dX7_forget_7 : decode cX7_forget 7 = .ok (.putfield 314, 3) := by decide +kernel
theorem dX7_forget_10 : decode cX7_forget 10 = .ok (.iload_n 1, 1) := by decide +kernel
theorem dX7_forget_11 : decode cX7_forget 11 = .ok (.ireturn, 1) := by decide +kernel
theorem dX7_isSeen_0 : decode cX7_isSeen 0 = .ok (.aload_n 0, 1) := by decide +kernel
theorem dX7_isSeen_1 : decode cX7_isSeen 1 = .ok (.invokevirtual 237, 3) := by decide +kernel
theorem dX7_isSeen_4 : decode cX7_isSeen 4 = .ok (.iconst 1, 1) := by decide +kernel
theorem dX7_isSeen_5 : decode cX7_isSeen 5 = .ok (.istore_n 1, 1) := by decide +kernel
theorem dX7_isSeen_6 : decode cX7_isSeen 6 = .ok (.iconst 0, 1) := by decide +kernel
theorem dX7_isSeen_7 : decode cX7_isSeen 7 = .ok (.istore_n 2, 1) := by decide +kernel
theorem dX7_isSeen_8 : decode cX7_isSeen 8 = .ok (.iload_n 2, 1) := by decide +kernel
theorem dX7_isSeen_9 : decode cX7_isSeen 9 = .ok (.aload_n 0, 1) := by decide +kernel
theorem dX7_isSeen_10 : decode cX7_isSeen 10 = .ok (.getfield 314, 3) := by decide +kernel
theorem dX7_isSeen_13 : decode cX7_isSeen 13 = .ok (.if_icmp .ge 63, 3) := by decide +kernel
theorem dX7_isSeen_16 : decode cX7_isSeen 16 = .ok (.iload_n 1, 1) := by decide +kernel
theorem dX7_isSeen_17 : decode cX7_isSeen 17 = .ok (.ifCond .eq 59, 3) := by decide +kernel
theorem dX7_isSeen_20 : decode cX7_isSeen 20 = .ok (.aload_n 0, 1) := by decide +kernel
theorem dX7_isSeen_21 : decode cX7_isSeen 21 = .ok (.getfield 82, 3) := by decide +kernel
theorem dX7_isSeen_24 : decode cX7_isSeen 24 = .ok (.iload_n 2, 1) := by decide +kernel
theorem dX7_isSeen_25 : decode cX7_isSeen 25 = .ok (.iaload, 1) := by decide +kernel
theorem dX7_isSeen_26 : decode cX7_isSeen 26 = .ok (.aload_n 0, 1) := by decide +kernel
theorem dX7_isSeen_27 : decode cX7_isSeen 27 = .ok (.getfield 138, 3) := by decide +kernel
theorem dX7_isSeen_30 : decode cX7_isSeen 30 = .ok (.if_icmp .ge 38, 3) := by decide +kernel
theorem dX7_isSeen_33 : decode cX7_isSeen 33 = .ok (.aload_n 0, 1) := by decide +kernel
theorem dX7_isSeen_34 : decode cX7_isSeen 34 = .ok (.getfield 228, 3) := by decide +kernel
theorem dX7_isSeen_37 : decode cX7_isSeen 37 = .ok (.aload_n 0, 1) := by decide +kernel
theorem dX7_isSeen_38 : decode cX7_isSeen 38 = .ok (.getfield 82, 3) := by decide +kernel
theorem dX7_isSeen_41 : decode cX7_isSeen 41 = .ok (.iload_n 2, 1) := by decide +kernel
theorem dX7_isSeen_42 : decode cX7_isSeen 42 = .ok (.iaload, 1) := by decide +kernel
theorem dX7_isSeen_43 : decode cX7_isSeen 43 = .ok (.invokestatic 196, 3) := by decide +kernel
theorem dX7_isSeen_46 : decode cX7_isSeen 46 = .ok (.aload_n 0, 1) := by decide +kernel
theorem dX7_isSeen_47 : decode cX7_isSeen 47 = .ok (.getfield 85, 3) := by decide +kernel
theorem dX7_isSeen_50 : decode cX7_isSeen 50 = .ok (.iload_n 2, 1) := by decide +kernel
theorem dX7_isSeen_51 : decode cX7_isSeen 51 = .ok (.iaload, 1) := by decide +kernel
theorem dX7_isSeen_52 : decode cX7_isSeen 52 = .ok (.iconst 1, 1) := by decide +kernel
theorem dX7_isSeen_53 : decode cX7_isSeen 53 = .ok (.if_icmp .ne 7, 3) := by decide +kernel
theorem dX7_isSeen_56 : decode cX7_isSeen 56 = .ok (.iconst 1, 1) := by decide +kernel
theorem dX7_isSeen_57 : decode cX7_isSeen 57 = .ok (.goto 4, 3) := by decide +kernel
theorem dX7_isSeen_60 : decode cX7_isSeen 60 = .ok (.iconst 0, 1) := by decide +kernel
theorem dX7_isSeen_61 : decode cX7_isSeen 61 = .ok (.if_icmp .ne 7, 3) := by decide +kernel
theorem dX7_isSeen_64 : decode cX7_isSeen 64 = .ok (.iconst 1, 1) := by decide +kernel
theorem dX7_isSeen_65 : decode cX7_isSeen 65 = .ok (.goto 4, 3) := by decide +kernel
theorem dX7_isSeen_68 : decode cX7_isSeen 68 = .ok (.iconst 0, 1) := by decide +kernel
theorem dX7_isSeen_69 : decode cX7_isSeen 69 = .ok (.istore_n 1, 1) := by decide +kernel
theorem dX7_isSeen_70 : decode cX7_isSeen 70 = .ok (.iinc 2 1, 3) := by decide +kernel
theorem dX7_isSeen_73 : decode cX7_isSeen 73 = .ok (.goto (-65), 3) := by decide +kernel
theorem dX7_isSeen_76 : decode cX7_isSeen 76 = .ok (.iload_n 1, 1) := by decide +kernel
theorem dX7_isSeen_77 : decode cX7_isSeen 77 = .ok (.ireturn, 1) := by decide +kernel
theorem dX7_neverNow_0 : decode cX7_neverNow 0 = .ok (.aload_n 0, 1) := by decide +kernel
theorem dX7_neverNow_1 : decode cX7_neverNow 1 = .ok (.invokevirtual 234, 3) := by decide +kernel
theorem dX7_neverNow_4 : decode cX7_neverNow 4 = .ok (.iconst 0, 1) := by decide +kernel
theorem dX7_neverNow_5 : decode cX7_neverNow 5 = .ok (.istore_n 1, 1) := by decide +kernel
theorem dX7_neverNow_6 : decode cX7_neverNow 6 = .ok (.iconst 0, 1) := by decide +kernel
theorem dX7_neverNow_7 : decode cX7_neverNow 7 = .ok (.istore_n 2, 1) := by decide +kernel
theorem dX7_neverNow_8 : decode cX7_neverNow 8 = .ok (.iload_n 2, 1) := by decide +kernel
theorem dX7_neverNow_9 : decode cX7_neverNow 9 = .ok (.aload_n 0, 1) := by decide +kernel
theorem dX7_neverNow_10 : decode cX7_neverNow 10 = .ok (.getfield 171, 3) := by decide +kernel
theorem dX7_neverNow_13 : decode cX7_neverNow 13 = .ok (.if_icmp .ge 33, 3) := by decide +kernel
theorem dX7_neverNow_16 : decode cX7_neverNow 16 = .ok (.aload_n 0, 1) := by decide +kernel
theorem dX7_neverNow_17 : decode cX7_neverNow 17 = .ok (.iconst 1, 1) := by decide +kernel
theorem dX7_neverNow_18 : decode cX7_neverNow 18 = .ok (.iload_n 2, 1) := by decide +kernel
theorem dX7_neverNow_19 : decode cX7_neverNow 19 = .ok (.ishl, 1) := by decide +kernel
theorem dX7_neverNow_20 : decode cX7_neverNow 20 = .ok (.putfield 190, 3) := by decide +kernel
theorem dX7_neverNow_23 : decode cX7_neverNow 23 = .ok (.iload_n 1, 1) := by decide +kernel
theorem dX7_neverNow_24 : decode cX7_neverNow 24 = .ok (.aload_n 0, 1) := by decide +kernel
theorem dX7_neverNow_25 : decode cX7_neverNow 25 = .ok (.invokevirtual 317, 3) := by decide +kernel
theorem dX7_neverNow_28 : decode cX7_neverNow 28 = .ok (.ifCond .eq 9, 3) := by decide +kernel
theorem dX7_neverNow_31 : decode cX7_neverNow 31 = .ok (.iconst 1, 1) := by decide +kernel
theorem dX7_neverNow_32 : decode cX7_neverNow 32 = .ok (.iload_n 2, 1) := by decide +kernel
theorem dX7_neverNow_33 : decode cX7_neverNow 33 = .ok (.ishl, 1) := by decide +kernel
theorem dX7_neverNow_34 : decode cX7_neverNow 34 = .ok (.goto 4, 3) := by decide +kernel
theorem dX7_neverNow_37 : decode cX7_neverNow 37 = .ok (.iconst 0, 1) := by decide +kernel
theorem dX7_neverNow_38 : decode cX7_neverNow 38 = .ok (.ior, 1) := by decide +kernel
theorem dX7_neverNow_39 : decode cX7_neverNow 39 = .ok (.istore_n 1, 1) := by decide +kernel
theorem dX7_neverNow_40 : decode cX7_neverNow 40 = .ok (.iinc 2 1, 3) := by decide +kernel
theorem dX7_neverNow_43 : decode cX7_neverNow 43 = .ok (.goto (-35), 3) := by decide +kernel
theorem dX7_neverNow_46 : decode cX7_neverNow 46 = .ok (.iload_n 1, 1) := by decide +kernel
theorem dX7_neverNow_47 : decode cX7_neverNow 47 = .ok (.ireturn, 1) := by decide +kernel
theorem dX7_never_0 : decode cX7_never 0 = .ok (.aload_n 0, 1) := by decide +kernel
theorem dX7_never_1 : decode cX7_never 1 = .ok (.invokevirtual 321, 3) := by decide +kernel
theorem dX7_never_4 : decode cX7_never 4 = .ok (.ireturn, 1) := by decide +kernel
theorem dX7_whoseBy_0 : decode cX7_whoseBy 0 = .ok (.aload_n 0, 1) := by decide +kernel
theorem dX7_whoseBy_1 : decode cX7_whoseBy 1 = .ok (.invokevirtual 234, 3) := by decide +kernel
theorem dX7_whoseBy_4 : decode cX7_whoseBy 4 = .ok (.iconst 0, 1) := by decide +kernel
theorem dX7_whoseBy_5 : decode cX7_whoseBy 5 = .ok (.istore_n 2, 1) := by decide +kernel
theorem dX7_whoseBy_6 : decode cX7_whoseBy 6 = .ok (.iconst 0, 1) := by decide +kernel
theorem dX7_whoseBy_7 : decode cX7_whoseBy 7 = .ok (.istore_n 3, 1) := by decide +kernel
theorem dX7_whoseBy_8 : decode cX7_whoseBy 8 = .ok (.iload_n 3, 1) := by decide +kernel
theorem dX7_whoseBy_9 : decode cX7_whoseBy 9 = .ok (.bipush 10, 2) := by decide +kernel
theorem dX7_whoseBy_11 : decode cX7_whoseBy 11 = .ok (.if_icmp .ge 43, 3) := by decide +kernel
theorem dX7_whoseBy_14 : decode cX7_whoseBy 14 = .ok (.aload_n 0, 1) := by decide +kernel
theorem dX7_whoseBy_15 : decode cX7_whoseBy 15 = .ok (.getfield 49, 3) := by decide +kernel
theorem dX7_whoseBy_18 : decode cX7_whoseBy 18 = .ok (.iload_n 1, 1) := by decide +kernel
theorem dX7_whoseBy_19 : decode cX7_whoseBy 19 = .ok (.iload_n 3, 1) := by decide +kernel
theorem dX7_whoseBy_20 : decode cX7_whoseBy 20 = .ok (.iastore, 1) := by decide +kernel
theorem dX7_whoseBy_21 : decode cX7_whoseBy 21 = .ok (.iload_n 2, 1) := by decide +kernel
theorem dX7_whoseBy_22 : decode cX7_whoseBy 22 = .ok (.aload_n 0, 1) := by decide +kernel
theorem dX7_whoseBy_23 : decode cX7_whoseBy 23 = .ok (.invokevirtual 317, 3) := by decide +kernel
theorem dX7_whoseBy_26 : decode cX7_whoseBy 26 = .ok (.ifCond .eq 9, 3) := by decide +kernel
theorem dX7_whoseBy_29 : decode cX7_whoseBy 29 = .ok (.iconst 1, 1) := by decide +kernel
theorem dX7_whoseBy_30 : decode cX7_whoseBy 30 = .ok (.iload_n 3, 1) := by decide +kernel
theorem dX7_whoseBy_31 : decode cX7_whoseBy 31 = .ok (.ishl, 1) := by decide +kernel
theorem dX7_whoseBy_32 : decode cX7_whoseBy 32 = .ok (.goto 4, 3) := by decide +kernel
theorem dX7_whoseBy_35 : decode cX7_whoseBy 35 = .ok (.iconst 0, 1) := by decide +kernel
theorem dX7_whoseBy_36 : decode cX7_whoseBy 36 = .ok (.ior, 1) := by decide +kernel
theorem dX7_whoseBy_37 : decode cX7_whoseBy 37 = .ok (.istore_n 2, 1) := by decide +kernel
theorem dX7_whoseBy_38 : decode cX7_whoseBy 38 = .ok (.aload_n 0, 1) := by decide +kernel
theorem dX7_whoseBy_39 : decode cX7_whoseBy 39 = .ok (.getfield 88, 3) := by decide +kernel
theorem dX7_whoseBy_42 : decode cX7_whoseBy 42 = .ok (.iload_n 3, 1) := by decide +kernel
theorem dX7_whoseBy_43 : decode cX7_whoseBy 43 = .ok (.aload_n 0, 1) := by decide +kernel
theorem dX7_whoseBy_44 : decode cX7_whoseBy 44 = .ok (.getfield 228, 3) := by decide +kernel
theorem dX7_whoseBy_47 : decode cX7_whoseBy 47 = .ok (.iastore, 1) := by decide +kernel
theorem dX7_whoseBy_48 : decode cX7_whoseBy 48 = .ok (.iinc 3 1, 3) := by decide +kernel
theorem dX7_whoseBy_51 : decode cX7_whoseBy 51 = .ok (.goto (-43), 3) := by decide +kernel
theorem dX7_whoseBy_54 : decode cX7_whoseBy 54 = .ok (.iload_n 2, 1) := by decide +kernel
theorem dX7_whoseBy_55 : decode cX7_whoseBy 55 = .ok (.ireturn, 1) := by decide +kernel
theorem dX7_sortsBy_0 : decode cX7_sortsBy 0 = .ok (.aload_n 0, 1) := by decide +kernel
theorem dX7_sortsBy_1 : decode cX7_sortsBy 1 = .ok (.invokevirtual 234, 3) := by decide +kernel
theorem dX7_sortsBy_4 : decode cX7_sortsBy 4 = .ok (.iconst 0, 1) := by decide +kernel
theorem dX7_sortsBy_5 : decode cX7_sortsBy 5 = .ok (.istore_n 2, 1) := by decide +kernel
theorem dX7_sortsBy_6 : decode cX7_sortsBy 6 = .ok (.iconst 0, 1) := by decide +kernel
theorem dX7_sortsBy_7 : decode cX7_sortsBy 7 = .ok (.istore_n 3, 1) := by decide +kernel
theorem dX7_sortsBy_8 : decode cX7_sortsBy 8 = .ok (.iload_n 3, 1) := by decide +kernel
theorem dX7_sortsBy_9 : decode cX7_sortsBy 9 = .ok (.iconst 3, 1) := by decide +kernel
theorem dX7_sortsBy_10 : decode cX7_sortsBy 10 = .ok (.if_icmp .ge 33, 3) := by decide +kernel
theorem dX7_sortsBy_13 : decode cX7_sortsBy 13 = .ok (.aload_n 0, 1) := by decide +kernel
theorem dX7_sortsBy_14 : decode cX7_sortsBy 14 = .ok (.getfield 52, 3) := by decide +kernel
theorem dX7_sortsBy_17 : decode cX7_sortsBy 17 = .ok (.iload_n 1, 1) := by decide +kernel
theorem dX7_sortsBy_18 : decode cX7_sortsBy 18 = .ok (.iload_n 3, 1) := by decide +kernel
theorem dX7_sortsBy_19 : decode cX7_sortsBy 19 = .ok (.iastore, 1) := by decide +kernel
theorem dX7_sortsBy_20 : decode cX7_sortsBy 20 = .ok (.iload_n 2, 1) := by decide +kernel
theorem dX7_sortsBy_21 : decode cX7_sortsBy 21 = .ok (.aload_n 0, 1) := by decide +kernel
theorem dX7_sortsBy_22 : decode cX7_sortsBy 22 = .ok (.invokevirtual 317, 3) := by decide +kernel
theorem dX7_sortsBy_25 : decode cX7_sortsBy 25 = .ok (.ifCond .eq 9, 3) := by decide +kernel
theorem dX7_sortsBy_28 : decode cX7_sortsBy 28 = .ok (.iconst 1, 1) := by decide +kernel
theorem dX7_sortsBy_29 : decode cX7_sortsBy 29 = .ok (.iload_n 3, 1) := by decide +kernel
theorem dX7_sortsBy_30 : decode cX7_sortsBy 30 = .ok (.ishl, 1) := by decide +kernel
theorem dX7_sortsBy_31 : decode cX7_sortsBy 31 = .ok (.goto 4, 3) := by decide +kernel
theorem dX7_sortsBy_34 : decode cX7_sortsBy 34 = .ok (.iconst 0, 1) := by decide +kernel
theorem dX7_sortsBy_35 : decode cX7_sortsBy 35 = .ok (.ior, 1) := by decide +kernel
theorem dX7_sortsBy_36 : decode cX7_sortsBy 36 = .ok (.istore_n 2, 1) := by decide +kernel
theorem dX7_sortsBy_37 : decode cX7_sortsBy 37 = .ok (.iinc 3 1, 3) := by decide +kernel
theorem dX7_sortsBy_40 : decode cX7_sortsBy 40 = .ok (.goto (-32), 3) := by decide +kernel
theorem dX7_sortsBy_43 : decode cX7_sortsBy 43 = .ok (.iload_n 2, 1) := by decide +kernel
theorem dX7_sortsBy_44 : decode cX7_sortsBy 44 = .ok (.ireturn, 1) := by decide +kernel
theorem dX7_was_0 : decode cX7_was 0 = .ok (.aload_n 0, 1) := by decide +kernel
theorem dX7_was_1 : decode cX7_was 1 = .ok (.iload_n 1, 1) := by decide +kernel
theorem dX7_was_2 : decode cX7_was 2 = .ok (.invokevirtual 156, 3) := by decide +kernel
theorem dX7_was_5 : decode cX7_was 5 = .ok (.ifCond .eq 30, 3) := by decide +kernel
theorem dX7_was_8 : decode cX7_was 8 = .ok (.iload_n 2, 1) := by decide +kernel
theorem dX7_was_9 : decode cX7_was 9 = .ok (.invokestatic 117, 3) := by decide +kernel
theorem dX7_was_12 : decode cX7_was 12 = .ok (.ifCond .eq 23, 3) := by decide +kernel
theorem dX7_was_15 : decode cX7_was 15 = .ok (.iload_n 2, 1) := by decide +kernel
theorem dX7_was_16 : decode cX7_was 16 = .ok (.ifCond .ne 11, 3) := by decide +kernel
theorem dX7_was_19 : decode cX7_was 19 = .ok (.aload_n 0, 1) := by decide +kernel
theorem dX7_was_20 : decode cX7_was 20 = .ok (.iload_n 1, 1) := by decide +kernel
theorem dX7_was_21 : decode cX7_was 21 = .ok (.invokevirtual 324, 3) := by decide +kernel
theorem dX7_was_24 : decode cX7_was 24 = .ok (.goto 13, 3) := by decide +kernel
theorem dX7_was_27 : decode cX7_was 27 = .ok (.aload_n 0, 1) := by decide +kernel
theorem dX7_was_28 : decode cX7_was 28 = .ok (.iload_n 1, 1) := by decide +kernel
theorem dX7_was_29 : decode cX7_was 29 = .ok (.invokevirtual 327, 3) := by decide +kernel
theorem dX7_was_32 : decode cX7_was 32 = .ok (.goto 5, 3) := by decide +kernel
theorem dX7_was_35 : decode cX7_was 35 = .ok (.bipush (-2), 2) := by decide +kernel
theorem dX7_was_37 : decode cX7_was 37 = .ok (.ireturn, 1) := by decide +kernel
theorem dX7_askOf_0 : decode cX7_askOf 0 = .ok (.aload_n 0, 1) := by decide +kernel
theorem dX7_askOf_1 : decode cX7_askOf 1 = .ok (.iload_n 1, 1) := by decide +kernel
theorem dX7_askOf_2 : decode cX7_askOf 2 = .ok (.invokevirtual 324, 3) := by decide +kernel
theorem dX7_askOf_5 : decode cX7_askOf 5 = .ok (.istore_n 2, 1) := by decide +kernel
theorem dX7_askOf_6 : decode cX7_askOf 6 = .ok (.iconst (-1), 1) := by decide +kernel
theorem dX7_askOf_7 : decode cX7_askOf 7 = .ok (.istore_n 3, 1) := by decide +kernel
theorem dX7_askOf_8 : decode cX7_askOf 8 = .ok (.iconst 0, 1) := by decide +kernel
theorem dX7_askOf_9 : decode cX7_askOf 9 = .ok (.istore 4, 2) := by decide +kernel
theorem dX7_askOf_11 : decode cX7_askOf 11 = .ok (.iconst 0, 1) := by decide +kernel
theorem dX7_askOf_12 : decode cX7_askOf 12 = .ok (.istore 5, 2) := by decide +kernel
theorem dX7_askOf_14 : decode cX7_askOf 14 = .ok (.iload 5, 2) := by decide +kernel
theorem dX7_askOf_16 : decode cX7_askOf 16 = .ok (.bipush 8, 2) := by decide +kernel
theorem dX7_askOf_18 : decode cX7_askOf 18 = .ok (.if_icmp .ge 160, 3) := by decide +kernel
theorem dX7_askOf_21 : decode cX7_askOf 21 = .ok (.iconst 0, 1) := by decide +kernel
theorem dX7_askOf_22 : decode cX7_askOf 22 = .ok (.istore 6, 2) := by decide +kernel
theorem dX7_askOf_24 : decode cX7_askOf 24 = .ok (.iconst 0, 1) := by decide +kernel
theorem dX7_askOf_25 : decode cX7_askOf 25 = .ok (.istore 7, 2) := by decide +kernel
theorem dX7_askOf_27 : decode cX7_askOf 27 = .ok (.iconst 0, 1) := by decide +kernel
theorem dX7_askOf_28 : decode cX7_askOf 28 = .ok (.istore 8, 2) := by decide +kernel
theorem dX7_askOf_30 : decode cX7_askOf 30 = .ok (.iload 8, 2) := by decide +kernel
theorem dX7_askOf_32 : decode cX7_askOf 32 = .ok (.bipush 10, 2) := by decide +kernel
theorem dX7_askOf_34 : decode cX7_askOf 34 = .ok (.if_icmp .ge 77, 3) := by decide +kernel
theorem dX7_askOf_37 : decode cX7_askOf 37 = .ok (.iload 6, 2) := by decide +kernel
theorem dX7_askOf_39 : decode cX7_askOf 39 = .ok (.iload_n 2, 1) := by decide +kernel
theorem dX7_askOf_40 : decode cX7_askOf 40 = .ok (.iload 8, 2) := by decide +kernel
theorem dX7_askOf_42 : decode cX7_askOf 42 = .ok (.invokestatic 196, 3) := by decide +kernel
theorem dX7_askOf_45 : decode cX7_askOf 45 = .ok (.ifCond .eq 22, 3) := by decide +kernel
theorem dX7_askOf_48 : decode cX7_askOf 48 = .ok (.aload_n 0, 1) := by decide +kernel
theorem dX7_askOf_49 : decode cX7_askOf 49 = .ok (.getfield 88, 3) := by decide +kernel
theorem dX7_askOf_52 : decode cX7_askOf 52 = .ok (.iload 8, 2) := by decide +kernel
theorem dX7_askOf_54 : decode cX7_askOf 54 = .ok (.iaload, 1) := by decide +kernel
theorem dX7_askOf_55 : decode cX7_askOf 55 = .ok (.iload 5, 2) := by decide +kernel
theorem dX7_askOf_57 : decode cX7_askOf 57 = .ok (.invokestatic 196, 3) := by decide +kernel
theorem dX7_askOf_60 : decode cX7_askOf 60 = .ok (.ifCond .eq 7, 3) := by decide +kernel
theorem dX7_askOf_63 : decode cX7_askOf 63 = .ok (.iconst 1, 1) := by decide +kernel
theorem dX7_askOf_64 : decode cX7_askOf 64 = .ok (.goto 4, 3) := by decide +kernel
theorem dX7_askOf_67 : decode cX7_askOf 67 = .ok (.iconst 0, 1) := by decide +kernel
theorem dX7_askOf_68 : decode cX7_askOf 68 = .ok (.iadd, 1) := by decide +kernel
theorem dX7_askOf_69 : decode cX7_askOf 69 = .ok (.istore 6, 2) := by decide +kernel
theorem dX7_askOf_71 : decode cX7_askOf 71 = .ok (.iload 7, 2) := by decide +kernel
theorem dX7_askOf_73 : decode cX7_askOf 73 = .ok (.iload_n 2, 1) := by decide +kernel
theorem dX7_askOf_74 : decode cX7_askOf 74 = .ok (.iload 8, 2) := by decide +kernel
theorem dX7_askOf_76 : decode cX7_askOf 76 = .ok (.invokestatic 196, 3) := by decide +kernel
theorem dX7_askOf_79 : decode cX7_askOf 79 = .ok (.ifCond .eq 22, 3) := by decide +kernel
theorem dX7_askOf_82 : decode cX7_askOf 82 = .ok (.aload_n 0, 1) := by decide +kernel
theorem dX7_askOf_83 : decode cX7_askOf 83 = .ok (.getfield 88, 3) := by decide +kernel
theorem dX7_askOf_86 : decode cX7_askOf 86 = .ok (.iload 8, 2) := by decide +kernel
theorem dX7_askOf_88 : decode cX7_askOf 88 = .ok (.iaload, 1) := by decide +kernel
theorem dX7_askOf_89 : decode cX7_askOf 89 = .ok (.iload 5, 2) := by decide +kernel
theorem dX7_askOf_91 : decode cX7_askOf 91 = .ok (.invokestatic 196, 3) := by decide +kernel
theorem dX7_askOf_94 : decode cX7_askOf 94 = .ok (.ifCond .ne 7, 3) := by decide +kernel
theorem dX7_askOf_97 : decode cX7_askOf 97 = .ok (.iconst 1, 1) := by decide +kernel
theorem dX7_askOf_98 : decode cX7_askOf 98 = .ok (.goto 4, 3) := by decide +kernel
theorem dX7_askOf_101 : decode cX7_askOf 101 = .ok (.iconst 0, 1) := by decide +kernel
theorem dX7_askOf_102 : decode cX7_askOf 102 = .ok (.iadd, 1) := by decide +kernel
theorem dX7_askOf_103 : decode cX7_askOf 103 = .ok (.istore 7, 2) := by decide +kernel
theorem dX7_askOf_105 : decode cX7_askOf 105 = .ok (.iinc 8 1, 3) := by decide +kernel
theorem dX7_askOf_108 : decode cX7_askOf 108 = .ok (.goto (-78), 3) := by decide +kernel
theorem dX7_askOf_111 : decode cX7_askOf 111 = .ok (.iload 6, 2) := by decide +kernel
theorem dX7_askOf_113 : decode cX7_askOf 113 = .ok (.iload 7, 2) := by decide +kernel
theorem dX7_askOf_115 : decode cX7_askOf 115 = .ok (.if_icmp .le 8, 3) := by decide +kernel
theorem dX7_askOf_118 : decode cX7_askOf 118 = .ok (.iload 6, 2) := by decide +kernel
theorem dX7_askOf_120 : decode cX7_askOf 120 = .ok (.goto 5, 3) := by decide +kernel
theorem dX7_askOf_123 : decode cX7_askOf 123 = .ok (.iload 7, 2) := by decide +kernel
theorem dX7_askOf_125 : decode cX7_askOf 125 = .ok (.istore 8, 2) := by decide +kernel
theorem dX7_askOf_127 : decode cX7_askOf 127 = .ok (.iload_n 3, 1) := by decide +kernel
theorem dX7_askOf_128 : decode cX7_askOf 128 = .ok (.iconst (-1), 1) := by decide +kernel
theorem dX7_askOf_129 : decode cX7_askOf 129 = .ok (.if_icmp .eq 10, 3) := by decide +kernel
theorem dX7_askOf_132 : decode cX7_askOf 132 = .ok (.iload 8, 2) := by decide +kernel
theorem dX7_askOf_134 : decode cX7_askOf 134 = .ok (.iload 4, 2) := by decide +kernel
theorem dX7_askOf_136 : decode cX7_askOf 136 = .ok (.if_icmp .ge 7, 3) := by decide +kernel
theorem dX7_askOf_139 : decode cX7_askOf 139 = .ok (.iconst 1, 1) := by decide +kernel
theorem dX7_askOf_140 : decode cX7_askOf 140 = .ok (.goto 4, 3) := by decide +kernel
theorem dX7_askOf_143 : decode cX7_askOf 143 = .ok (.iconst 0, 1) := by decide +kernel
theorem dX7_askOf_144 : decode cX7_askOf 144 = .ok (.istore 9, 2) := by decide +kernel
theorem dX7_askOf_146 : decode cX7_askOf 146 = .ok (.iload 9, 2) := by decide +kernel
theorem dX7_askOf_148 : decode cX7_askOf 148 = .ok (.ifCond .eq 8, 3) := by decide +kernel
theorem dX7_askOf_151 : decode cX7_askOf 151 = .ok (.iload 5, 2) := by decide +kernel
theorem dX7_askOf_153 : decode cX7_askOf 153 = .ok (.goto 4, 3) := by decide +kernel
theorem dX7_askOf_156 : decode cX7_askOf 156 = .ok (.iload_n 3, 1) := by decide +kernel
theorem dX7_askOf_157 : decode cX7_askOf 157 = .ok (.istore_n 3, 1) := by decide +kernel
theorem dX7_askOf_158 : decode cX7_askOf 158 = .ok (.iload 9, 2) := by decide +kernel
theorem dX7_askOf_160 : decode cX7_askOf 160 = .ok (.ifCond .eq 8, 3) := by decide +kernel
theorem dX7_askOf_163 : decode cX7_askOf 163 = .ok (.iload 8, 2) := by decide +kernel
theorem dX7_askOf_165 : decode cX7_askOf 165 = .ok (.goto 5, 3) := by decide +kernel
theorem dX7_askOf_168 : decode cX7_askOf 168 = .ok (.iload 4, 2) := by decide +kernel
theorem dX7_askOf_170 : decode cX7_askOf 170 = .ok (.istore 4, 2) := by decide +kernel
theorem dX7_askOf_172 : decode cX7_askOf 172 = .ok (.iinc 5 1, 3) := by decide +kernel
theorem dX7_askOf_175 : decode cX7_askOf 175 = .ok (.goto (-161), 3) := by decide +kernel
theorem dX7_askOf_178 : decode cX7_askOf 178 = .ok (.iload_n 3, 1) := by decide +kernel
theorem dX7_askOf_179 : decode cX7_askOf 179 = .ok (.ireturn, 1) := by decide +kernel
theorem dX7_ask_0 : decode cX7_ask 0 = .ok (.aload_n 0, 1) := by decide +kernel
theorem dX7_ask_1 : decode cX7_ask 1 = .ok (.iload_n 1, 1) := by decide +kernel
theorem dX7_ask_2 : decode cX7_ask 2 = .ok (.invokevirtual 156, 3) := by decide +kernel
theorem dX7_ask_5 : decode cX7_ask 5 = .ok (.ifCond .eq 11, 3) := by decide +kernel
theorem dX7_ask_8 : decode cX7_ask 8 = .ok (.aload_n 0, 1) := by decide +kernel
theorem dX7_ask_9 : decode cX7_ask 9 = .ok (.iload_n 1, 1) := by decide +kernel
theorem dX7_ask_10 : decode cX7_ask 10 = .ok (.invokevirtual 330, 3) := by decide +kernel
theorem dX7_ask_13 : decode cX7_ask 13 = .ok (.goto 5, 3) := by decide +kernel
theorem dX7_ask_16 : decode cX7_ask 16 = .ok (.bipush (-2), 2) := by decide +kernel
theorem dX7_ask_18 : decode cX7_ask 18 = .ok (.ireturn, 1) := by decide +kernel
theorem dX7_chanceOf_0 : decode cX7_chanceOf 0 = .ok (.aload_n 0, 1) := by decide +kernel
theorem dX7_chanceOf_1 : decode cX7_chanceOf 1 = .ok (.invokevirtual 234, 3) := by decide +kernel
theorem dX7_chanceOf_4 : decode cX7_chanceOf 4 = .ok (.lconst 0, 1) := by decide +kernel
theorem dX7_chanceOf_5 : decode cX7_chanceOf 5 = .ok (.lstore 4, 2) := by decide +kernel
theorem dX7_chanceOf_7 : decode cX7_chanceOf 7 = .ok (.iconst 0, 1) := by decide +kernel
theorem dX7_chanceOf_8 : decode cX7_chanceOf 8 = .ok (.istore 6, 2) := by decide +kernel
theorem dX7_chanceOf_10 : decode cX7_chanceOf 10 = .ok (.iload 6, 2) := by decide +kernel
theorem dX7_chanceOf_12 : decode cX7_chanceOf 12 = .ok (.iconst 1, 1) := by decide +kernel
theorem dX7_chanceOf_13 : decode cX7_chanceOf 13 = .ok (.aload_n 0, 1) := by decide +kernel
theorem dX7_chanceOf_14 : decode cX7_chanceOf 14 = .ok (.getfield 171, 3) := by decide +kernel
theorem dX7_chanceOf_17 : decode cX7_chanceOf 17 = .ok (.ishl, 1) := by decide +kernel
theorem dX7_chanceOf_18 : decode cX7_chanceOf 18 = .ok (.if_icmp .ge 94, 3) := by decide +kernel
theorem dX7_chanceOf_21 : decode cX7_chanceOf 21 = .ok (.lconst 1, 1) := by decide +kernel
theorem dX7_chanceOf_22 : decode cX7_chanceOf 22 = .ok (.lstore 7, 2) := by decide +kernel
theorem dX7_chanceOf_24 : decode cX7_chanceOf 24 = .ok (.iconst 0, 1) := by decide +kernel
theorem dX7_chanceOf_25 : decode cX7_chanceOf 25 = .ok (.istore 9, 2) := by decide +kernel
theorem dX7_chanceOf_27 : decode cX7_chanceOf 27 = .ok (.iload 9, 2) := by decide +kernel
theorem dX7_chanceOf_29 : decode cX7_chanceOf 29 = .ok (.aload_n 0, 1) := by decide +kernel
theorem dX7_chanceOf_30 : decode cX7_chanceOf 30 = .ok (.getfield 171, 3) := by decide +kernel
theorem dX7_chanceOf_33 : decode cX7_chanceOf 33 = .ok (.if_icmp .ge 34, 3) := by decide +kernel
theorem dX7_chanceOf_36 : decode cX7_chanceOf 36 = .ok (.lload 7, 2) := by decide +kernel
theorem dX7_chanceOf_38 : decode cX7_chanceOf 38 = .ok (.iload 6, 2) := by decide +kernel
theorem dX7_chanceOf_40 : decode cX7_chanceOf 40 = .ok (.iload 9, 2) := by decide +kernel
theorem dX7_chanceOf_42 : decode cX7_chanceOf 42 = .ok (.invokestatic 196, 3) := by decide +kernel
theorem dX7_chanceOf_45 : decode cX7_chanceOf 45 = .ok (.ifCond .eq 11, 3) := by decide +kernel
theorem dX7_chanceOf_48 : decode cX7_chanceOf 48 = .ok (.bipush 16, 2) := by decide +kernel
theorem dX7_chanceOf_50 : decode cX7_chanceOf 50 = .ok (.iload_n 1, 1) := by decide +kernel
theorem dX7_chanceOf_51 : decode cX7_chanceOf 51 = .ok (.isub, 1) := by decide +kernel
theorem dX7_chanceOf_52 : decode cX7_chanceOf 52 = .ok (.i2l, 1) := by decide +kernel
theorem dX7_chanceOf_53 : decode cX7_chanceOf 53 = .ok (.goto 5, 3) := by decide +kernel
theorem dX7_chanceOf_56 : decode cX7_chanceOf 56 = .ok (.iload_n 1, 1) := by decide +kernel
theorem dX7_chanceOf_57 : decode cX7_chanceOf 57 = .ok (.i2l, 1) := by decide +kernel
theorem dX7_chanceOf_58 : decode cX7_chanceOf 58 = .ok (.lmul, 1) := by decide +kernel
theorem dX7_chanceOf_59 : decode cX7_chanceOf 59 = .ok (.lstore 7, 2) := by decide +kernel
theorem dX7_chanceOf_61 : decode cX7_chanceOf 61 = .ok (.iinc 9 1, 3) := by decide +kernel
theorem dX7_chanceOf_64 : decode cX7_chanceOf 64 = .ok (.goto (-37), 3) := by decide +kernel
theorem dX7_chanceOf_67 : decode cX7_chanceOf 67 = .ok (.lload 7, 2) := by decide +kernel
theorem dX7_chanceOf_69 : decode cX7_chanceOf 69 = .ok (.lconst 0, 1) := by decide +kernel
theorem dX7_chanceOf_70 : decode cX7_chanceOf 70 = .ok (.lcmp, 1) := by decide +kernel
theorem dX7_chanceOf_71 : decode cX7_chanceOf 71 = .ok (.ifCond .le 35, 3) := by decide +kernel
theorem dX7_chanceOf_74 : decode cX7_chanceOf 74 = .ok (.aload_n 0, 1) := by decide +kernel
theorem dX7_chanceOf_75 : decode cX7_chanceOf 75 = .ok (.iload 6, 2) := by decide +kernel
theorem dX7_chanceOf_77 : decode cX7_chanceOf 77 = .ok (.putfield 190, 3) := by decide +kernel
theorem dX7_chanceOf_80 : decode cX7_chanceOf 80 = .ok (.aload_n 0, 1) := by decide +kernel
theorem dX7_chanceOf_81 : decode cX7_chanceOf 81 = .ok (.invokevirtual 237, 3) := by decide +kernel
theorem dX7_chanceOf_84 : decode cX7_chanceOf 84 = .ok (.lload 4, 2) := by decide +kernel
theorem dX7_chanceOf_86 : decode cX7_chanceOf 86 = .ok (.aload_n 0, 1) := by decide +kernel
theorem dX7_chanceOf_87 : decode cX7_chanceOf 87 = .ok (.getfield 228, 3) := by decide +kernel
theorem dX7_chanceOf_90 : decode cX7_chanceOf 90 = .ok (.iload_n 2, 1) := by decide +kernel
theorem dX7_chanceOf_91 : decode cX7_chanceOf 91 = .ok (.invokestatic 196, 3) := by decide +kernel
theorem dX7_chanceOf_94 : decode cX7_chanceOf 94 = .ok (.ifCond .eq 8, 3) := by decide +kernel
theorem dX7_chanceOf_97 : decode cX7_chanceOf 97 = .ok (.lload 7, 2) := by decide +kernel
theorem dX7_chanceOf_99 : decode cX7_chanceOf 99 = .ok (.goto 4, 3) := by decide +kernel
theorem dX7_chanceOf_102 : decode cX7_chanceOf 102 = .ok (.lconst 0, 1) := by decide +kernel
theorem dX7_chanceOf_103 : decode cX7_chanceOf 103 = .ok (.ladd, 1) := by decide +kernel
theorem dX7_chanceOf_104 : decode cX7_chanceOf 104 = .ok (.lstore 4, 2) := by decide +kernel
theorem dX7_chanceOf_106 : decode cX7_chanceOf 106 = .ok (.iinc 6 1, 3) := by decide +kernel
theorem dX7_chanceOf_109 : decode cX7_chanceOf 109 = .ok (.goto (-99), 3) := by decide +kernel
theorem dX7_chanceOf_112 : decode cX7_chanceOf 112 = .ok (.lload 4, 2) := by decide +kernel
theorem dX7_chanceOf_114 : decode cX7_chanceOf 114 = .ok (.lconst 1, 1) := by decide +kernel
theorem dX7_chanceOf_115 : decode cX7_chanceOf 115 = .ok (.iconst 4, 1) := by decide +kernel
theorem dX7_chanceOf_116 : decode cX7_chanceOf 116 = .ok (.aload_n 0, 1) := by decide +kernel
theorem dX7_chanceOf_117 : decode cX7_chanceOf 117 = .ok (.getfield 171, 3) := by decide +kernel
theorem dX7_chanceOf_120 : decode cX7_chanceOf 120 = .ok (.imul, 1) := by decide +kernel
theorem dX7_chanceOf_121 : decode cX7_chanceOf 121 = .ok (.lshl, 1) := by decide +kernel
theorem dX7_chanceOf_122 : decode cX7_chanceOf 122 = .ok (.iload_n 3, 1) := by decide +kernel
theorem dX7_chanceOf_123 : decode cX7_chanceOf 123 = .ok (.invokestatic 333, 3) := by decide +kernel
theorem dX7_chanceOf_126 : decode cX7_chanceOf 126 = .ok (.lreturn, 1) := by decide +kernel
theorem dX7_chance_0 : decode cX7_chance 0 = .ok (.iload_n 1, 1) := by decide +kernel
theorem dX7_chance_1 : decode cX7_chance 1 = .ok (.iconst 0, 1) := by decide +kernel
theorem dX7_chance_2 : decode cX7_chance 2 = .ok (.bipush 16, 2) := by decide +kernel
theorem dX7_chance_4 : decode cX7_chance 4 = .ok (.invokestatic 113, 3) := by decide +kernel
theorem dX7_chance_7 : decode cX7_chance 7 = .ok (.ifCond .eq 28, 3) := by decide +kernel
theorem dX7_chance_10 : decode cX7_chance 10 = .ok (.aload_n 0, 1) := by decide +kernel
theorem dX7_chance_11 : decode cX7_chance 11 = .ok (.iload_n 2, 1) := by decide +kernel
theorem dX7_chance_12 : decode cX7_chance 12 = .ok (.invokevirtual 162, 3) := by decide +kernel
theorem dX7_chance_15 : decode cX7_chance 15 = .ok (.ifCond .eq 20, 3) := by decide +kernel
theorem dX7_chance_18 : decode cX7_chance 18 = .ok (.iload_n 3, 1) := by decide +kernel
theorem dX7_chance_19 : decode cX7_chance 19 = .ok (.invokestatic 117, 3) := by decide +kernel
theorem dX7_chance_22 : decode cX7_chance 22 = .ok (.ifCond .eq 13, 3) := by decide +kernel
theorem dX7_chance_25 : decode cX7_chance 25 = .ok (.aload_n 0, 1) := by decide +kernel
theorem dX7_chance_26 : decode cX7_chance 26 = .ok (.iload_n 1, 1) := by decide +kernel
theorem dX7_chance_27 : decode cX7_chance 27 = .ok (.iload_n 2, 1) := by decide +kernel
theorem dX7_chance_28 : decode cX7_chance 28 = .ok (.iload_n 3, 1) := by decide +kernel
theorem dX7_chance_29 : decode cX7_chance 29 = .ok (.invokevirtual 337, 3) := by decide +kernel
theorem dX7_chance_32 : decode cX7_chance 32 = .ok (.goto 8, 3) := by decide +kernel
theorem dX7_chance_35 : decode cX7_chance 35 = .ok (.bipush (-2), 2) := by decide +kernel
theorem dX7_chance_37 : decode cX7_chance 37 = .ok (.invokestatic 341, 3) := by decide +kernel
theorem dX7_chance_40 : decode cX7_chance 40 = .ok (.lreturn, 1) := by decide +kernel
theorem dX7_livesOf_0 : decode cX7_livesOf 0 = .ok (.aload_n 0, 1) := by decide +kernel
theorem dX7_livesOf_1 : decode cX7_livesOf 1 = .ok (.invokevirtual 234, 3) := by decide +kernel
theorem dX7_livesOf_4 : decode cX7_livesOf 4 = .ok (.iload_n 1, 1) := by decide +kernel
theorem dX7_livesOf_5 : decode cX7_livesOf 5 = .ok (.istore 4, 2) := by decide +kernel
theorem dX7_livesOf_7 : decode cX7_livesOf 7 = .ok (.aload_n 0, 1) := by decide +kernel
theorem dX7_livesOf_8 : decode cX7_livesOf 8 = .ok (.iload_n 2, 1) := by decide +kernel
theorem dX7_livesOf_9 : decode cX7_livesOf 9 = .ok (.putfield 184, 3) := by decide +kernel
theorem dX7_livesOf_12 : decode cX7_livesOf 12 = .ok (.iconst 0, 1) := by decide +kernel
theorem dX7_livesOf_13 : decode cX7_livesOf 13 = .ok (.istore 5, 2) := by decide +kernel
theorem dX7_livesOf_15 : decode cX7_livesOf 15 = .ok (.iload 5, 2) := by decide +kernel
theorem dX7_livesOf_17 : decode cX7_livesOf 17 = .ok (.iload_n 2, 1) := by decide +kernel
theorem dX7_livesOf_18 : decode cX7_livesOf 18 = .ok (.if_icmp .ge 116, 3) := by decide +kernel
theorem dX7_livesOf_21 : decode cX7_livesOf 21 = .ok (.ldc_w 345, 3) := by decide +kernel
theorem dX7_livesOf_24 : decode cX7_livesOf 24 = .ok (.iload 4, 2) := by decide +kernel
theorem dX7_livesOf_26 : decode cX7_livesOf 26 = .ok (.imul, 1) := by decide +kernel
theorem dX7_livesOf_27 : decode cX7_livesOf 27 = .ok (.sipush 12345, 3) := by decide +kernel
theorem dX7_livesOf_30 : decode cX7_livesOf 30 = .ok (.iadd, 1) := by decide +kernel
theorem dX7_livesOf_31 : decode cX7_livesOf 31 = .ok (.istore 4, 2) := by decide +kernel
theorem dX7_livesOf_33 : decode cX7_livesOf 33 = .ok (.aload_n 0, 1) := by decide +kernel
theorem dX7_livesOf_34 : decode cX7_livesOf 34 = .ok (.getfield 43, 3) := by decide +kernel
theorem dX7_livesOf_37 : decode cX7_livesOf 37 = .ok (.iload 5, 2) := by decide +kernel
theorem dX7_livesOf_39 : decode cX7_livesOf 39 = .ok (.iload 4, 2) := by decide +kernel
theorem dX7_livesOf_41 : decode cX7_livesOf 41 = .ok (.bipush 16, 2) := by decide +kernel
theorem dX7_livesOf_43 : decode cX7_livesOf 43 = .ok (.iushr, 1) := by decide +kernel
theorem dX7_livesOf_44 : decode cX7_livesOf 44 = .ok (.bipush 24, 2) := by decide +kernel
theorem dX7_livesOf_46 : decode cX7_livesOf 46 = .ok (.irem, 1) := by decide +kernel
theorem dX7_livesOf_47 : decode cX7_livesOf 47 = .ok (.iastore, 1) := by decide +kernel
theorem dX7_livesOf_48 : decode cX7_livesOf 48 = .ok (.ldc_w 345, 3) := by decide +kernel
theorem dX7_livesOf_51 : decode cX7_livesOf 51 = .ok (.iload 4, 2) := by decide +kernel
theorem dX7_livesOf_53 : decode cX7_livesOf 53 = .ok (.imul, 1) := by decide +kernel
theorem dX7_livesOf_54 : decode cX7_livesOf 54 = .ok (.sipush 12345, 3) := by decide +kernel
theorem dX7_livesOf_57 : decode cX7_livesOf 57 = .ok (.iadd, 1) := by decide +kernel
theorem dX7_livesOf_58 : decode cX7_livesOf 58 = .ok (.istore 4, 2) := by decide +kernel
theorem dX7_livesOf_60 : decode cX7_livesOf 60 = .ok (.aload_n 0, 1) := by decide +kernel
theorem dX7_livesOf_61 : decode cX7_livesOf 61 = .ok (.getfield 46, 3) := by decide +kernel
theorem dX7_livesOf_64 : decode cX7_livesOf 64 = .ok (.iload 5, 2) := by decide +kernel
theorem dX7_livesOf_66 : decode cX7_livesOf 66 = .ok (.iload 4, 2) := by decide +kernel
theorem dX7_livesOf_68 : decode cX7_livesOf 68 = .ok (.bipush 16, 2) := by decide +kernel
theorem dX7_livesOf_70 : decode cX7_livesOf 70 = .ok (.iushr, 1) := by decide +kernel
theorem dX7_livesOf_71 : decode cX7_livesOf 71 = .ok (.bipush 8, 2) := by decide +kernel
theorem dX7_livesOf_73 : decode cX7_livesOf 73 = .ok (.irem, 1) := by decide +kernel
theorem dX7_livesOf_74 : decode cX7_livesOf 74 = .ok (.iastore, 1) := by decide +kernel
theorem dX7_livesOf_75 : decode cX7_livesOf 75 = .ok (.ldc_w 345, 3) := by decide +kernel
theorem dX7_livesOf_78 : decode cX7_livesOf 78 = .ok (.iload 4, 2) := by decide +kernel
theorem dX7_livesOf_80 : decode cX7_livesOf 80 = .ok (.imul, 1) := by decide +kernel
theorem dX7_livesOf_81 : decode cX7_livesOf 81 = .ok (.sipush 12345, 3) := by decide +kernel
theorem dX7_livesOf_84 : decode cX7_livesOf 84 = .ok (.iadd, 1) := by decide +kernel
theorem dX7_livesOf_85 : decode cX7_livesOf 85 = .ok (.istore 4, 2) := by decide +kernel
theorem dX7_livesOf_87 : decode cX7_livesOf 87 = .ok (.aload_n 0, 1) := by decide +kernel
theorem dX7_livesOf_88 : decode cX7_livesOf 88 = .ok (.getfield 49, 3) := by decide +kernel
theorem dX7_livesOf_91 : decode cX7_livesOf 91 = .ok (.iload 5, 2) := by decide +kernel
theorem dX7_livesOf_93 : decode cX7_livesOf 93 = .ok (.iload 4, 2) := by decide +kernel
theorem dX7_livesOf_95 : decode cX7_livesOf 95 = .ok (.bipush 16, 2) := by decide +kernel
theorem dX7_livesOf_97 : decode cX7_livesOf 97 = .ok (.iushr, 1) := by decide +kernel
theorem dX7_livesOf_98 : decode cX7_livesOf 98 = .ok (.bipush 10, 2) := by decide +kernel
theorem dX7_livesOf_100 : decode cX7_livesOf 100 = .ok (.irem, 1) := by decide +kernel
theorem dX7_livesOf_101 : decode cX7_livesOf 101 = .ok (.iastore, 1) := by decide +kernel
theorem dX7_livesOf_102 : decode cX7_livesOf 102 = .ok (.ldc_w 345, 3) := by decide +kernel
theorem dX7_livesOf_105 : decode cX7_livesOf 105 = .ok (.iload 4, 2) := by decide +kernel
theorem dX7_livesOf_107 : decode cX7_livesOf 107 = .ok (.imul, 1) := by decide +kernel
theorem dX7_livesOf_108 : decode cX7_livesOf 108 = .ok (.sipush 12345, 3) := by decide +kernel
theorem dX7_livesOf_111 : decode cX7_livesOf 111 = .ok (.iadd, 1) := by decide +kernel
theorem dX7_livesOf_112 : decode cX7_livesOf 112 = .ok (.istore 4, 2) := by decide +kernel
theorem dX7_livesOf_114 : decode cX7_livesOf 114 = .ok (.aload_n 0, 1) := by decide +kernel
theorem dX7_livesOf_115 : decode cX7_livesOf 115 = .ok (.getfield 52, 3) := by decide +kernel
theorem dX7_livesOf_118 : decode cX7_livesOf 118 = .ok (.iload 5, 2) := by decide +kernel
theorem dX7_livesOf_120 : decode cX7_livesOf 120 = .ok (.iload 4, 2) := by decide +kernel
theorem dX7_livesOf_122 : decode cX7_livesOf 122 = .ok (.bipush 16, 2) := by decide +kernel
theorem dX7_livesOf_124 : decode cX7_livesOf 124 = .ok (.iushr, 1) := by decide +kernel
theorem dX7_livesOf_125 : decode cX7_livesOf 125 = .ok (.iconst 3, 1) := by decide +kernel
theorem dX7_livesOf_126 : decode cX7_livesOf 126 = .ok (.irem, 1) := by decide +kernel
theorem dX7_livesOf_127 : decode cX7_livesOf 127 = .ok (.iastore, 1) := by decide +kernel
theorem dX7_livesOf_128 : decode cX7_livesOf 128 = .ok (.iinc 5 1, 3) := by decide +kernel
theorem dX7_livesOf_131 : decode cX7_livesOf 131 = .ok (.goto (-116), 3) := by decide +kernel
theorem dX7_livesOf_134 : decode cX7_livesOf 134 = .ok (.aload_n 0, 1) := by decide +kernel
theorem dX7_livesOf_135 : decode cX7_livesOf 135 = .ok (.invokevirtual 237, 3) := by decide +kernel
theorem dX7_livesOf_138 : decode cX7_livesOf 138 = .ok (.iload_n 3, 1) := by decide +kernel
theorem dX7_livesOf_139 : decode cX7_livesOf 139 = .ok (.ifCond .ne 13, 3) := by decide +kernel
theorem dX7_livesOf_142 : decode cX7_livesOf 142 = .ok (.aload_n 0, 1) := by decide +kernel
theorem dX7_livesOf_143 : decode cX7_livesOf 143 = .ok (.getfield 228, 3) := by decide +kernel
theorem dX7_livesOf_146 : decode cX7_livesOf 146 = .ok (.invokestatic 259, 3) := by decide +kernel
theorem dX7_livesOf_149 : decode cX7_livesOf 149 = .ok (.goto 7, 3) := by decide +kernel
theorem dX7_livesOf_152 : decode cX7_livesOf 152 = .ok (.aload_n 0, 1) := by decide +kernel
theorem dX7_livesOf_153 : decode cX7_livesOf 153 = .ok (.invokevirtual 262, 3) := by decide +kernel
theorem dX7_livesOf_156 : decode cX7_livesOf 156 = .ok (.ireturn, 1) := by decide +kernel
theorem dX7_lives_0 : decode cX7_lives 0 = .ok (.iload_n 2, 1) := by decide +kernel
theorem dX7_lives_1 : decode cX7_lives 1 = .ok (.iconst 0, 1) := by decide +kernel
theorem dX7_lives_2 : decode cX7_lives 2 = .ok (.bipush 12, 2) := by decide +kernel
theorem dX7_lives_4 : decode cX7_lives 4 = .ok (.invokestatic 113, 3) := by decide +kernel
theorem dX7_lives_7 : decode cX7_lives 7 = .ok (.ifCond .eq 20, 3) := by decide +kernel
theorem dX7_lives_10 : decode cX7_lives 10 = .ok (.iload_n 3, 1) := by decide +kernel
theorem dX7_lives_11 : decode cX7_lives 11 = .ok (.invokestatic 117, 3) := by decide +kernel
theorem dX7_lives_14 : decode cX7_lives 14 = .ok (.ifCond .eq 13, 3) := by decide +kernel
theorem dX7_lives_17 : decode cX7_lives 17 = .ok (.aload_n 0, 1) := by decide +kernel
theorem dX7_lives_18 : decode cX7_lives 18 = .ok (.iload_n 1, 1) := by decide +kernel
theorem dX7_lives_19 : decode cX7_lives 19 = .ok (.iload_n 2, 1) := by decide +kernel
theorem dX7_lives_20 : decode cX7_lives 20 = .ok (.iload_n 3, 1) := by decide +kernel
theorem dX7_lives_21 : decode cX7_lives 21 = .ok (.invokevirtual 346, 3) := by decide +kernel
theorem dX7_lives_24 : decode cX7_lives 24 = .ok (.goto 5, 3) := by decide +kernel
theorem dX7_lives_27 : decode cX7_lives 27 = .ok (.bipush (-2), 2) := by decide +kernel
theorem dX7_lives_29 : decode cX7_lives 29 = .ok (.ireturn, 1) := by decide +kernel
theorem dX7_meets_0 : decode cX7_meets 0 = .ok (.aload_n 0, 1) := by decide +kernel
theorem dX7_meets_1 : decode cX7_meets 1 = .ok (.iload_n 1, 1) := by decide +kernel
theorem dX7_meets_2 : decode cX7_meets 2 = .ok (.putfield 349, 3) := by decide +kernel
theorem dX7_meets_5 : decode cX7_meets 5 = .ok (.bipush (-10), 2) := by decide +kernel
theorem dX7_meets_7 : decode cX7_meets 7 = .ok (.iload_n 1, 1) := by decide +kernel
theorem dX7_meets_8 : decode cX7_meets 8 = .ok (.isub, 1) := by decide +kernel
theorem dX7_meets_9 : decode cX7_meets 9 = .ok (.ireturn, 1) := by decide +kernel
theorem dX7_isSheet_0 : decode cX7_isSheet 0 = .ok (.iload_n 0, 1) := by decide +kernel
theorem dX7_isSheet_1 : decode cX7_isSheet 1 = .ok (.iconst 0, 1) := by decide +kernel
theorem dX7_isSheet_2 : decode cX7_isSheet 2 = .ok (.iconst 3, 1) := by decide +kernel
theorem dX7_isSheet_3 : decode cX7_isSheet 3 = .ok (.invokestatic 113, 3) := by decide +kernel
theorem dX7_isSheet_6 : decode cX7_isSheet 6 = .ok (.ireturn, 1) := by decide +kernel
theorem dX7_sheet_0 : decode cX7_sheet 0 = .ok (.iload_n 1, 1) := by decide +kernel
theorem dX7_sheet_1 : decode cX7_sheet 1 = .ok (.invokestatic 174, 3) := by decide +kernel
theorem dX7_sheet_4 : decode cX7_sheet 4 = .ok (.ifCond .eq 18, 3) := by decide +kernel
theorem dX7_sheet_7 : decode cX7_sheet 7 = .ok (.iload_n 2, 1) := by decide +kernel
theorem dX7_sheet_8 : decode cX7_sheet 8 = .ok (.iconst 0, 1) := by decide +kernel
theorem dX7_sheet_9 : decode cX7_sheet 9 = .ok (.iconst 2, 1) := by decide +kernel
theorem dX7_sheet_10 : decode cX7_sheet 10 = .ok (.invokestatic 113, 3) := by decide +kernel
theorem dX7_sheet_13 : decode cX7_sheet 13 = .ok (.ifCond .eq 9, 3) := by decide +kernel
theorem dX7_sheet_16 : decode cX7_sheet 16 = .ok (.iload_n 3, 1) := by decide +kernel
theorem dX7_sheet_17 : decode cX7_sheet 17 = .ok (.bipush 60, 2) := by decide +kernel
theorem dX7_sheet_19 : decode cX7_sheet 19 = .ok (.if_icmp .le 6, 3) := by decide +kernel
theorem dX7_sheet_22 : decode cX7_sheet 22 = .ok (.bipush (-2), 2) := by decide +kernel
theorem dX7_sheet_24 : decode cX7_sheet 24 = .ok (.ireturn, 1) := by decide +kernel
theorem dX7_sheet_25 : decode cX7_sheet 25 = .ok (.iload_n 3, 1) := by decide +kernel
theorem dX7_sheet_26 : decode cX7_sheet 26 = .ok (.ifCond .ge 9, 3) := by decide +kernel
theorem dX7_sheet_29 : decode cX7_sheet 29 = .ok (.aload_n 0, 1) := by decide +kernel
theorem dX7_sheet_30 : decode cX7_sheet 30 = .ok (.iconst 5, 1) := by decide +kernel
theorem dX7_sheet_31 : decode cX7_sheet 31 = .ok (.invokevirtual 177, 3) := by decide +kernel
theorem dX7_sheet_34 : decode cX7_sheet 34 = .ok (.ireturn, 1) := by decide +kernel
theorem dX7_sheet_35 : decode cX7_sheet 35 = .ok (.aload_n 0, 1) := by decide +kernel
theorem dX7_sheet_36 : decode cX7_sheet 36 = .ok (.getfield 91, 3) := by decide +kernel
theorem dX7_sheet_39 : decode cX7_sheet 39 = .ok (.iload_n 1, 1) := by decide +kernel
theorem dX7_sheet_40 : decode cX7_sheet 40 = .ok (.iconst 1, 1) := by decide +kernel
theorem dX7_sheet_41 : decode cX7_sheet 41 = .ok (.bastore, 1) := by decide +kernel
theorem dX7_sheet_42 : decode cX7_sheet 42 = .ok (.aload_n 0, 1) := by decide +kernel
theorem dX7_sheet_43 : decode cX7_sheet 43 = .ok (.getfield 95, 3) := by decide +kernel
theorem dX7_sheet_46 : decode cX7_sheet 46 = .ok (.iload_n 1, 1) := by decide +kernel
theorem dX7_sheet_47 : decode cX7_sheet 47 = .ok (.iload_n 2, 1) := by decide +kernel
theorem dX7_sheet_48 : decode cX7_sheet 48 = .ok (.iastore, 1) := by decide +kernel
theorem dX7_sheet_49 : decode cX7_sheet 49 = .ok (.aload_n 0, 1) := by decide +kernel
theorem dX7_sheet_50 : decode cX7_sheet 50 = .ok (.getfield 98, 3) := by decide +kernel
theorem dX7_sheet_53 : decode cX7_sheet 53 = .ok (.iload_n 1, 1) := by decide +kernel
theorem dX7_sheet_54 : decode cX7_sheet 54 = .ok (.iload_n 3, 1) := by decide +kernel
theorem dX7_sheet_55 : decode cX7_sheet 55 = .ok (.iastore, 1) := by decide +kernel
theorem dX7_sheet_56 : decode cX7_sheet 56 = .ok (.iconst 0, 1) := by decide +kernel
theorem dX7_sheet_57 : decode cX7_sheet 57 = .ok (.istore 4, 2) := by decide +kernel
theorem dX7_sheet_59 : decode cX7_sheet 59 = .ok (.iload 4, 2) := by decide +kernel
theorem dX7_sheet_61 : decode cX7_sheet 61 = .ok (.bipush 60, 2) := by decide +kernel
theorem dX7_sheet_63 : decode cX7_sheet 63 = .ok (.if_icmp .ge 22, 3) := by decide +kernel
theorem dX7_sheet_66 : decode cX7_sheet 66 = .ok (.aload_n 0, 1) := by decide +kernel
theorem dX7_sheet_67 : decode cX7_sheet 67 = .ok (.getfield 101, 3) := by decide +kernel
theorem dX7_sheet_70 : decode cX7_sheet 70 = .ok (.bipush 60, 2) := by decide +kernel
theorem dX7_sheet_72 : decode cX7_sheet 72 = .ok (.iload_n 1, 1) := by decide +kernel
theorem dX7_sheet_73 : decode cX7_sheet 73 = .ok (.imul, 1) := by decide +kernel
theorem dX7_sheet_74 : decode cX7_sheet 74 = .ok (.iload 4, 2) := by decide +kernel
theorem dX7_sheet_76 : decode cX7_sheet 76 = .ok (.iadd, 1) := by decide +kernel
theorem dX7_sheet_77 : decode cX7_sheet 77 = .ok (.iconst 0, 1) := by decide +kernel
theorem dX7_sheet_78 : decode cX7_sheet 78 = .ok (.iastore, 1) := by decide +kernel
theorem dX7_sheet_79 : decode cX7_sheet 79 = .ok (.iinc 4 1, 3) := by decide +kernel
theorem dX7_sheet_82 : decode cX7_sheet 82 = .ok (.goto (-23), 3) := by decide +kernel
theorem dX7_sheet_85 : decode cX7_sheet 85 = .ok (.iload_n 3, 1) := by decide +kernel
theorem dX7_sheet_86 : decode cX7_sheet 86 = .ok (.ireturn, 1) := by decide +kernel
theorem dX7_lose_0 : decode cX7_lose 0 = .ok (.iload_n 1, 1) := by decide +kernel
theorem dX7_lose_1 : decode cX7_lose 1 = .ok (.invokestatic 174, 3) := by decide +kernel
theorem dX7_lose_4 : decode cX7_lose 4 = .ok (.ifCond .ne 6, 3) := by decide +kernel
theorem dX7_lose_7 : decode cX7_lose 7 = .ok (.bipush (-2), 2) := by decide +kernel
theorem dX7_lose_9 : decode cX7_lose 9 = .ok (.ireturn, 1) := by decide +kernel
theorem dX7_lose_10 : decode cX7_lose 10 = .ok (.aload_n 0, 1) := by decide +kernel
theorem dX7_lose_11 : decode cX7_lose 11 = .ok (.getfield 91, 3) := by decide +kernel
theorem dX7_lose_14 : decode cX7_lose 14 = .ok (.iload_n 1, 1) := by decide +kernel
theorem dX7_lose_15 : decode cX7_lose 15 = .ok (.baload, 1) := by decide +kernel
theorem dX7_lose_16 : decode cX7_lose 16 = .ok (.ifCond .ne 9, 3) := by decide +kernel
theorem dX7_lose_19 : decode cX7_lose 19 = .ok (.aload_n 0, 1) := by decide +kernel
theorem dX7_lose_20 : decode cX7_lose 20 = .ok (.iconst 1, 1) := by decide +kernel
theorem dX7_lose_21 : decode cX7_lose 21 = .ok (.invokevirtual 177, 3) := by decide +kernel
theorem dX7_lose_24 : decode cX7_lose 24 = .ok (.ireturn, 1) := by decide +kernel
theorem dX7_lose_25 : decode cX7_lose 25 = .ok (.aload_n 0, 1) := by decide +kernel
theorem dX7_lose_26 : decode cX7_lose 26 = .ok (.getfield 91, 3) := by decide +kernel
theorem dX7_lose_29 : decode cX7_lose 29 = .ok (.iload_n 1, 1) := by decide +kernel
theorem dX7_lose_30 : decode cX7_lose 30 = .ok (.iconst 0, 1) := by decide +kernel
theorem dX7_lose_31 : decode cX7_lose 31 = .ok (.bastore, 1) := by decide +kernel
theorem dX7_lose_32 : decode cX7_lose 32 = .ok (.aload_n 0, 1) := by decide +kernel
theorem dX7_lose_33 : decode cX7_lose 33 = .ok (.getfield 98, 3) := by decide +kernel
theorem dX7_lose_36 : decode cX7_lose 36 = .ok (.iload_n 1, 1) := by decide +kernel
theorem dX7_lose_37 : decode cX7_lose 37 = .ok (.iaload, 1) := by decide +kernel
theorem dX7_lose_38 : decode cX7_lose 38 = .ok (.ireturn, 1) := by decide +kernel
theorem dX7_lacks_0 : decode cX7_lacks 0 = .ok (.aload_n 0, 1) := by decide +kernel
theorem dX7_lacks_1 : decode cX7_lacks 1 = .ok (.getfield 91, 3) := by decide +kernel
theorem dX7_lacks_4 : decode cX7_lacks 4 = .ok (.iload_n 1, 1) := by decide +kernel
theorem dX7_lacks_5 : decode cX7_lacks 5 = .ok (.baload, 1) := by decide +kernel
theorem dX7_lacks_6 : decode cX7_lacks 6 = .ok (.ifCond .ne 7, 3) := by decide +kernel
theorem dX7_lacks_9 : decode cX7_lacks 9 = .ok (.iconst 1, 1) := by decide +kernel
theorem dX7_lacks_10 : decode cX7_lacks 10 = .ok (.goto 38, 3) := by decide +kernel
theorem dX7_lacks_13 : decode cX7_lacks 13 = .ok (.aload_n 0, 1) := by decide +kernel
theorem dX7_lacks_14 : decode cX7_lacks 14 = .ok (.getfield 95, 3) := by decide +kernel
theorem dX7_lacks_17 : decode cX7_lacks 17 = .ok (.iload_n 1, 1) := by decide +kernel
theorem dX7_lacks_18 : decode cX7_lacks 18 = .ok (.iaload, 1) := by decide +kernel
theorem dX7_lacks_19 : decode cX7_lacks 19 = .ok (.iload_n 2, 1) := by decide +kernel
theorem dX7_lacks_20 : decode cX7_lacks 20 = .ok (.if_icmp .eq 7, 3) := by decide +kernel
theorem dX7_lacks_23 : decode cX7_lacks 23 = .ok (.iconst 3, 1) := by decide +kernel
theorem dX7_lacks_24 : decode cX7_lacks 24 = .ok (.goto 24, 3) := by decide +kernel
theorem dX7_lacks_27 : decode cX7_lacks 27 = .ok (.iload_n 3, 1) := by decide +kernel
theorem dX7_lacks_28 : decode cX7_lacks 28 = .ok (.iconst 0, 1) := by decide +kernel
theorem dX7_lacks_29 : decode cX7_lacks 29 = .ok (.aload_n 0, 1) := by decide +kernel
theorem dX7_lacks_30 : decode cX7_lacks 30 = .ok (.getfield 98, 3) := by decide +kernel
theorem dX7_lacks_33 : decode cX7_lacks 33 = .ok (.iload_n 1, 1) := by decide +kernel
theorem dX7_lacks_34 : decode cX7_lacks 34 = .ok (.iaload, 1) := by decide +kernel
theorem dX7_lacks_35 : decode cX7_lacks 35 = .ok (.iconst 1, 1) := by decide +kernel
theorem dX7_lacks_36 : decode cX7_lacks 36 = .ok (.isub, 1) := by decide +kernel
theorem dX7_lacks_37 : decode cX7_lacks 37 = .ok (.invokestatic 113, 3) := by decide +kernel
theorem dX7_lacks_40 : decode cX7_lacks 40 = .ok (.ifCond .eq 7, 3) := by decide +kernel
theorem dX7_lacks_43 : decode cX7_lacks 43 = .ok (.iconst 0, 1) := by decide +kernel
theorem dX7_lacks_44 : decode cX7_lacks 44 = .ok (.goto 4, 3) := by decide +kernel
theorem dX7_lacks_47 : decode cX7_lacks 47 = .ok (.iconst 2, 1) := by decide +kernel
theorem dX7_lacks_48 : decode cX7_lacks 48 = .ok (.ireturn, 1) := by decide +kernel
theorem dX7_keep_0 : decode cX7_keep 0 = .ok (.aload_n 0, 1) := by decide +kernel
theorem dX7_keep_1 : decode cX7_keep 1 = .ok (.getfield 101, 3) := by decide +kernel
theorem dX7_keep_4 : decode cX7_keep 4 = .ok (.bipush 60, 2) := by decide +kernel
theorem dX7_keep_6 : decode cX7_keep 6 = .ok (.iload_n 1, 1) := by decide +kernel
theorem dX7_keep_7 : decode cX7_keep 7 = .ok (.imul, 1) := by decide +kernel
theorem dX7_keep_8 : decode cX7_keep 8 = .ok (.iload_n 2, 1) := by decide +kernel
theorem dX7_keep_9 : decode cX7_keep 9 = .ok (.iadd, 1) := by decide +kernel
theorem dX7_keep_10 : decode cX7_keep 10 = .ok (.aload_n 0, 1) := by decide +kernel
theorem dX7_keep_11 : decode cX7_keep 11 = .ok (.getfield 95, 3) := by decide +kernel
theorem dX7_keep_14 : decode cX7_keep 14 = .ok (.iload_n 1, 1) := by decide +kernel
theorem dX7_keep_15 : decode cX7_keep 15 = .ok (.iaload, 1) := by decide +kernel
theorem dX7_keep_16 : decode cX7_keep 16 = .ok (.ifCond .ne 8, 3) := by decide +kernel
theorem dX7_keep_19 : decode cX7_keep 19 = .ok (.iload_n 3, 1) := by decide +kernel
theorem dX7_keep_20 : decode cX7_keep 20 = .ok (.i2b, 1) := by decide +kernel
theorem dX7_keep_21 : decode cX7_keep 21 = .ok (.goto 19, 3) := by decide +kernel
theorem dX7_keep_24 : decode cX7_keep 24 = .ok (.aload_n 0, 1) := by decide +kernel
theorem dX7_keep_25 : decode cX7_keep 25 = .ok (.getfield 95, 3) := by decide +kernel
theorem dX7_keep_28 : decode cX7_keep 28 = .ok (.iload_n 1, 1) := by decide +kernel
theorem dX7_keep_29 : decode cX7_keep 29 = .ok (.iaload, 1) := by decide +kernel
theorem dX7_keep_30 : decode cX7_keep 30 = .ok (.iconst 1, 1) := by decide +kernel
theorem dX7_keep_31 : decode cX7_keep 31 = .ok (.if_icmp .ne 8, 3) := by decide +kernel
theorem dX7_keep_34 : decode cX7_keep 34 = .ok (.iload_n 3, 1) := by decide +kernel
theorem dX7_keep_35 : decode cX7_keep 35 = .ok (.i2s, 1) := by decide +kernel
theorem dX7_keep_36 : decode cX7_keep 36 = .ok (.goto 4, 3) := by decide +kernel
theorem dX7_keep_39 : decode cX7_keep 39 = .ok (.iload_n 3, 1) := by decide +kernel
theorem dX7_keep_40 : decode cX7_keep 40 = .ok (.iastore, 1) := by decide +kernel
theorem dX7_keep_41 : decode cX7_keep 41 = .ok (.return_, 1) := by decide +kernel
theorem dX7_put_0 : decode cX7_put 0 = .ok (.iload_n 1, 1) := by decide +kernel
theorem dX7_put_1 : decode cX7_put 1 = .ok (.invokestatic 174, 3) := by decide +kernel
theorem dX7_put_4 : decode cX7_put 4 = .ok (.ifCond .eq 12, 3) := by decide +kernel
theorem dX7_put_7 : decode cX7_put 7 = .ok (.iload_n 2, 1) := by decide +kernel
theorem dX7_put_8 : decode cX7_put 8 = .ok (.iconst 0, 1) := by decide +kernel
theorem dX7_put_9 : decode cX7_put 9 = .ok (.iconst 2, 1) := by decide +kernel
theorem dX7_put_10 : decode cX7_put 10 = .ok (.invokestatic 113, 3) := by decide +kernel
theorem dX7_put_13 : decode cX7_put 13 = .ok (.ifCond .ne 6, 3) := by decide +kernel
theorem dX7_put_16 : decode cX7_put 16 = .ok (.bipush (-2), 2) := by decide +kernel
theorem dX7_put_18 : decode cX7_put 18 = .ok (.ireturn, 1) := by decide +kernel
theorem dX7_put_19 : decode cX7_put 19 = .ok (.aload_n 0, 1) := by decide +kernel
theorem dX7_put_20 : decode cX7_put 20 = .ok (.iload_n 1, 1) := by decide +kernel
theorem dX7_put_21 : decode cX7_put 21 = .ok (.iload_n 2, 1) := by decide +kernel
theorem dX7_put_22 : decode cX7_put 22 = .ok (.iload_n 3, 1) := by decide +kernel
theorem dX7_put_23 : decode cX7_put 23 = .ok (.invokevirtual 352, 3) := by decide +kernel
theorem dX7_put_26 : decode cX7_put 26 = .ok (.istore 5, 2) := by decide +kernel
theorem dX7_put_28 : decode cX7_put 28 = .ok (.iload 5, 2) := by decide +kernel
theorem dX7_put_30 : decode cX7_put 30 = .ok (.ifCond .le 10, 3) := by decide +kernel
theorem dX7_put_33 : decode cX7_put 33 = .ok (.aload_n 0, 1) := by decide +kernel
theorem dX7_put_34 : decode cX7_put 34 = .ok (.iload 5, 2) := by decide +kernel
theorem dX7_put_36 : decode cX7_put 36 = .ok (.invokevirtual 177, 3) := by decide +kernel
theorem dX7_put_39 : decode cX7_put 39 = .ok (.ireturn, 1) := by decide +kernel
theorem dX7_put_40 : decode cX7_put 40 = .ok (.aload_n 0, 1) := by decide +kernel
theorem dX7_put_41 : decode cX7_put 41 = .ok (.iload_n 1, 1) := by decide +kernel
theorem dX7_put_42 : decode cX7_put 42 = .ok (.iload_n 3, 1) := by decide +kernel
theorem dX7_put_43 : decode cX7_put 43 = .ok (.iload 4, 2) := by decide +kernel
theorem dX7_put_45 : decode cX7_put 45 = .ok (.invokevirtual 355, 3) := by decide +kernel
theorem dX7_put_48 : decode cX7_put 48 = .ok (.iconst 1, 1) := by decide +kernel
theorem dX7_put_49 : decode cX7_put 49 = .ok (.ireturn, 1) := by decide +kernel
theorem dX7_get_0 : decode cX7_get 0 = .ok (.iload_n 1, 1) := by decide +kernel
theorem dX7_get_1 : decode cX7_get 1 = .ok (.invokestatic 174, 3) := by decide +kernel
theorem dX7_get_4 : decode cX7_get 4 = .ok (.ifCond .eq 12, 3) := by decide +kernel
theorem dX7_get_7 : decode cX7_get 7 = .ok (.iload_n 2, 1) := by decide +kernel
theorem dX7_get_8 : decode cX7_get 8 = .ok (.iconst 0, 1) := by decide +kernel
theorem dX7_get_9 : decode cX7_get 9 = .ok (.iconst 2, 1) := by decide +kernel
theorem dX7_get_10 : decode cX7_get 10 = .ok (.invokestatic 113, 3) := by decide +kernel
theorem dX7_get_13 : decode cX7_get 13 = .ok (.ifCond .ne 6, 3) := by decide +kernel
theorem dX7_get_16 : decode cX7_get 16 = .ok (.ldc 255, 2) := by decide +kernel
theorem dX7_get_18 : decode cX7_get 18 = .ok (.ireturn, 1) := by decide +kernel
theorem dX7_get_19 : decode cX7_get 19 = .ok (.aload_n 0, 1) := by decide +kernel
theorem dX7_get_20 : decode cX7_get 20 = .ok (.iload_n 1, 1) := by decide +kernel
theorem dX7_get_21 : decode cX7_get 21 = .ok (.iload_n 2, 1) := by decide +kernel
theorem dX7_get_22 : decode cX7_get 22 = .ok (.iload_n 3, 1) := by decide +kernel
theorem dX7_get_23 : decode cX7_get 23 = .ok (.invokevirtual 352, 3) := by decide +kernel
theorem dX7_get_26 : decode cX7_get 26 = .ok (.istore 4, 2) := by decide +kernel
theorem dX7_get_28 : decode cX7_get 28 = .ok (.iload 4, 2) := by decide +kernel
theorem dX7_get_30 : decode cX7_get 30 = .ok (.ifCond .le 12, 3) := by decide +kernel
theorem dX7_get_33 : decode cX7_get 33 = .ok (.aload_n 0, 1) := by decide +kernel
theorem dX7_get_34 : decode cX7_get 34 = .ok (.iload 4, 2) := by decide +kernel
theorem dX7_get_36 : decode cX7_get 36 = .ok (.putfield 349, 3) := by decide +kernel
theorem dX7_get_39 : decode cX7_get 39 = .ok (.ldc 255, 2) := by decide +kernel
theorem dX7_get_41 : decode cX7_get 41 = .ok (.ireturn, 1) := by decide +kernel
theorem dX7_get_42 : decode cX7_get 42 = .ok (.aload_n 0, 1) := by decide +kernel
theorem dX7_get_43 : decode cX7_get 43 = .ok (.getfield 101, 3) := by decide +kernel
theorem dX7_get_46 : decode cX7_get 46 = .ok (.bipush 60, 2) := by decide +kernel
theorem dX7_get_48 : decode cX7_get 48 = .ok (.iload_n 1, 1) := by decide +kernel
theorem dX7_get_49 : decode cX7_get 49 = .ok (.imul, 1) := by decide +kernel
theorem dX7_get_50 : decode cX7_get 50 = .ok (.iload_n 3, 1) := by decide +kernel
theorem dX7_get_51 : decode cX7_get 51 = .ok (.iadd, 1) := by decide +kernel
theorem dX7_get_52 : decode cX7_get 52 = .ok (.iaload, 1) := by decide +kernel
theorem dX7_get_53 : decode cX7_get 53 = .ok (.ireturn, 1) := by decide +kernel
theorem dX7_copy_0 : decode cX7_copy 0 = .ok (.iload_n 1, 1) := by decide +kernel
theorem dX7_copy_1 : decode cX7_copy 1 = .ok (.invokestatic 174, 3) := by decide +kernel
theorem dX7_copy_4 : decode cX7_copy 4 = .ok (.ifCond .eq 10, 3) := by decide +kernel
theorem dX7_copy_7 : decode cX7_copy 7 = .ok (.iload_n 3, 1) := by decide +kernel
theorem dX7_copy_8 : decode cX7_copy 8 = .ok (.invokestatic 174, 3) := by decide +kernel
theorem dX7_copy_11 : decode cX7_copy 11 = .ok (.ifCond .ne 6, 3) := by decide +kernel
theorem dX7_copy_14 : decode cX7_copy 14 = .ok (.bipush (-2), 2) := by decide +kernel
theorem dX7_copy_16 : decode cX7_copy 16 = .ok (.ireturn, 1) := by decide +kernel
theorem dX7_copy_17 : decode cX7_copy 17 = .ok (.aload_n 0, 1) := by decide +kernel
theorem dX7_copy_18 : decode cX7_copy 18 = .ok (.getfield 91, 3) := by decide +kernel
theorem dX7_copy_21 : decode cX7_copy 21 = .ok (.iload_n 1, 1) := by decide +kernel
theorem dX7_copy_22 : decode cX7_copy 22 = .ok (.baload, 1) := by decide +kernel
theorem dX7_copy_23 : decode cX7_copy 23 = .ok (.ifCond .eq 12, 3) := by decide +kernel
theorem dX7_copy_26 : decode cX7_copy 26 = .ok (.aload_n 0, 1) := by decide +kernel
theorem dX7_copy_27 : decode cX7_copy 27 = .ok (.getfield 91, 3) := by decide +kernel
theorem dX7_copy_30 : decode cX7_copy 30 = .ok (.iload_n 3, 1) := by decide +kernel
theorem dX7_copy_31 : decode cX7_copy 31 = .ok (.baload, 1) := by decide +kernel
theorem dX7_copy_32 : decode cX7_copy 32 = .ok (.ifCond .ne 9, 3) := by decide +kernel
theorem dX7_copy_35 : decode cX7_copy 35 = .ok (.aload_n 0, 1) := by decide +kernel
theorem dX7_copy_36 : decode cX7_copy 36 = .ok (.iconst 1, 1) := by decide +kernel
theorem dX7_copy_37 : decode cX7_copy 37 = .ok (.invokevirtual 177, 3) := by decide +kernel
theorem dX7_copy_40 : decode cX7_copy 40 = .ok (.ireturn, 1) := by decide +kernel
theorem dX7_copy_41 : decode cX7_copy 41 = .ok (.aload_n 0, 1) := by decide +kernel
theorem dX7_copy_42 : decode cX7_copy 42 = .ok (.getfield 95, 3) := by decide +kernel
theorem dX7_copy_45 : decode cX7_copy 45 = .ok (.iload_n 1, 1) := by decide +kernel
theorem dX7_copy_46 : decode cX7_copy 46 = .ok (.iaload, 1) := by decide +kernel
theorem dX7_copy_47 : decode cX7_copy 47 = .ok (.aload_n 0, 1) := by decide +kernel
theorem dX7_copy_48 : decode cX7_copy 48 = .ok (.getfield 95, 3) := by decide +kernel
theorem dX7_copy_51 : decode cX7_copy 51 = .ok (.iload_n 3, 1) := by decide +kernel
theorem dX7_copy_52 : decode cX7_copy 52 = .ok (.iaload, 1) := by decide +kernel
theorem dX7_copy_53 : decode cX7_copy 53 = .ok (.if_icmp .eq 9, 3) := by decide +kernel
theorem dX7_copy_56 : decode cX7_copy 56 = .ok (.aload_n 0, 1) := by decide +kernel
theorem dX7_copy_57 : decode cX7_copy 57 = .ok (.iconst 4, 1) := by decide +kernel
theorem dX7_copy_58 : decode cX7_copy 58 = .ok (.invokevirtual 177, 3) := by decide +kernel
theorem dX7_copy_61 : decode cX7_copy 61 = .ok (.ireturn, 1) := by decide +kernel
theorem dX7_copy_62 : decode cX7_copy 62 = .ok (.iload_n 2, 1) := by decide +kernel
theorem dX7_copy_63 : decode cX7_copy 63 = .ok (.ifCond .lt 48, 3) := by decide +kernel
theorem dX7_copy_66 : decode cX7_copy 66 = .ok (.iload 4, 2) := by decide +kernel
theorem dX7_copy_68 : decode cX7_copy 68 = .ok (.ifCond .lt 43, 3) := by decide +kernel
theorem dX7_copy_71 : decode cX7_copy 71 = .ok (.iload 5, 2) := by decide +kernel
theorem dX7_copy_73 : decode cX7_copy 73 = .ok (.ifCond .lt 38, 3) := by decide +kernel
theorem dX7_copy_76 : decode cX7_copy 76 = .ok (.iload_n 2, 1) := by decide +kernel
theorem dX7_copy_77 : decode cX7_copy 77 = .ok (.i2l, 1) := by decide +kernel
theorem dX7_copy_78 : decode cX7_copy 78 = .ok (.iload 5, 2) := by decide +kernel
theorem dX7_copy_80 : decode cX7_copy 80 = .ok (.i2l, 1) := by decide +kernel
theorem dX7_copy_81 : decode cX7_copy 81 = .ok (.ladd, 1) := by decide +kernel
theorem dX7_copy_82 : decode cX7_copy 82 = .ok (.aload_n 0, 1) := by decide +kernel
theorem dX7_copy_83 : decode cX7_copy 83 = .ok (.getfield 98, 3) := by decide +kernel
theorem dX7_copy_86 : decode cX7_copy 86 = .ok (.iload_n 1, 1) := by decide +kernel
theorem dX7_copy_87 : decode cX7_copy 87 = .ok (.iaload, 1) := by decide +kernel
theorem dX7_copy_88 : decode cX7_copy 88 = .ok (.i2l, 1) := by decide +kernel
theorem dX7_copy_89 : decode cX7_copy 89 = .ok (.lcmp, 1) := by decide +kernel
theorem dX7_copy_90 : decode cX7_copy 90 = .ok (.ifCond .gt 21, 3) := by decide +kernel
theorem dX7_copy_93 : decode cX7_copy 93 = .ok (.iload 4, 2) := by decide +kernel
theorem dX7_copy_95 : decode cX7_copy 95 = .ok (.i2l, 1) := by decide +kernel
theorem dX7_copy_96 : decode cX7_copy 96 = .ok (.iload 5, 2) := by decide +kernel
theorem dX7_copy_98 : decode cX7_copy 98 = .ok (.i2l, 1) := by decide +kernel
theorem dX7_copy_99 : decode cX7_copy 99 = .ok (.ladd, 1) := by decide +kernel
theorem dX7_copy_100 : decode cX7_copy 100 = .ok (.aload_n 0, 1) := by decide +kernel
theorem dX7_copy_101 : decode cX7_copy 101 = .ok (.getfield 98, 3) := by decide +kernel
theorem dX7_copy_104 : decode cX7_copy 104 = .ok (.iload_n 3, 1) := by decide +kernel
theorem dX7_copy_105 : decode cX7_copy 105 = .ok (.iaload, 1) := by decide +kernel
theorem dX7_copy_106 : decode cX7_copy 106 = .ok (.i2l, 1) := by decide +kernel
theorem dX7_copy_107 : decode cX7_copy 107 = .ok (.lcmp, 1) := by decide +kernel
theorem dX7_copy_108 : decode cX7_copy 108 = .ok (.ifCond .le 9, 3) := by decide +kernel
theorem dX7_copy_111 : decode cX7_copy 111 = .ok (.aload_n 0, 1) := by decide +kernel
theorem dX7_copy_112 : decode cX7_copy 112 = .ok (.iconst 2, 1) := by decide +kernel
theorem dX7_copy_113 : decode cX7_copy 113 = .ok (.invokevirtual 177, 3) := by decide +kernel
theorem dX7_copy_116 : decode cX7_copy 116 = .ok (.ireturn, 1) := by decide +kernel
theorem dX7_copy_117 : decode cX7_copy 117 = .ok (.iconst 0, 1) := by decide +kernel
theorem dX7_copy_118 : decode cX7_copy 118 = .ok (.istore 6, 2) := by decide +kernel
theorem dX7_copy_120 : decode cX7_copy 120 = .ok (.iload 6, 2) := by decide +kernel
theorem dX7_copy_122 : decode cX7_copy 122 = .ok (.iload 5, 2) := by decide +kernel
theorem dX7_copy_124 : decode cX7_copy 124 = .ok (.if_icmp .ge 30, 3) := by decide +kernel
theorem dX7_copy_127 : decode cX7_copy 127 = .ok (.aload_n 0, 1) := by decide +kernel
theorem dX7_copy_128 : decode cX7_copy 128 = .ok (.getfield 104, 3) := by decide +kernel
theorem dX7_copy_131 : decode cX7_copy 131 = .ok (.iload 6, 2) := by decide +kernel
theorem dX7_copy_133 : decode cX7_copy 133 = .ok (.aload_n 0, 1) := by decide +kernel
theorem dX7_copy_134 : decode cX7_copy 134 = .ok (.getfield 101, 3) := by decide +kernel
theorem dX7_copy_137 : decode cX7_copy 137 = .ok (.bipush 60, 2) := by decide +kernel
theorem dX7_copy_139 : decode cX7_copy 139 = .ok (.iload_n 1, 1) := by decide +kernel
theorem dX7_copy_140 : decode cX7_copy 140 = .ok (.imul, 1) := by decide +kernel
theorem dX7_copy_141 : decode cX7_copy 141 = .ok (.iload_n 2, 1) := by decide +kernel
theorem dX7_copy_142 : decode cX7_copy 142 = .ok (.iadd, 1) := by decide +kernel
theorem dX7_copy_143 : decode cX7_copy 143 = .ok (.iload 6, 2) := by decide +kernel
theorem dX7_copy_145 : decode cX7_copy 145 = .ok (.iadd, 1) := by decide +kernel
theorem dX7_copy_146 : decode cX7_copy 146 = .ok (.iaload, 1) := by decide +kernel
theorem dX7_copy_147 : decode cX7_copy 147 = .ok (.iastore, 1) := by decide +kernel
theorem dX7_copy_148 : decode cX7_copy 148 = .ok (.iinc 6 1, 3) := by decide +kernel
theorem dX7_copy_151 : decode cX7_copy 151 = .ok (.goto (-31), 3) := by decide +kernel
theorem dX7_copy_154 : decode cX7_copy 154 = .ok (.iconst 0, 1) := by decide +kernel
theorem dX7_copy_155 : decode cX7_copy 155 = .ok (.istore 6, 2) := by decide +kernel
theorem dX7_copy_157 : decode cX7_copy 157 = .ok (.iload 6, 2) := by decide +kernel
theorem dX7_copy_159 : decode cX7_copy 159 = .ok (.iload 5, 2) := by decide +kernel
theorem dX7_copy_161 : decode cX7_copy 161 = .ok (.if_icmp .ge 31, 3) := by decide +kernel
theorem dX7_copy_164 : decode cX7_copy 164 = .ok (.aload_n 0, 1) := by decide +kernel
theorem dX7_copy_165 : decode cX7_copy 165 = .ok (.getfield 101, 3) := by decide +kernel
theorem dX7_copy_168 : decode cX7_copy 168 = .ok (.bipush 60, 2) := by decide +kernel
theorem dX7_copy_170 : decode cX7_copy 170 = .ok (.iload_n 3, 1) := by decide +kernel
theorem dX7_copy_171 : decode cX7_copy 171 = .ok (.imul, 1) := by decide +kernel
theorem dX7_copy_172 : decode cX7_copy 172 = .ok (.iload 4, 2) := by decide +kernel
theorem dX7_copy_174 : decode cX7_copy 174 = .ok (.iadd, 1) := by decide +kernel
theorem dX7_copy_175 : decode cX7_copy 175 = .ok (.iload 6, 2) := by decide +kernel
theorem dX7_copy_177 : decode cX7_copy 177 = .ok (.iadd, 1) := by decide +kernel
theorem dX7_copy_178 : decode cX7_copy 178 = .ok (.aload_n 0, 1) := by decide +kernel
theorem dX7_copy_179 : decode cX7_copy 179 = .ok (.getfield 104, 3) := by decide +kernel
theorem dX7_copy_182 : decode cX7_copy 182 = .ok (.iload 6, 2) := by decide +kernel
theorem dX7_copy_184 : decode cX7_copy 184 = .ok (.iaload, 1) := by decide +kernel
theorem dX7_copy_185 : decode cX7_copy 185 = .ok (.iastore, 1) := by decide +kernel
theorem dX7_copy_186 : decode cX7_copy 186 = .ok (.iinc 6 1, 3) := by decide +kernel
theorem dX7_copy_189 : decode cX7_copy 189 = .ok (.goto (-32), 3) := by decide +kernel
theorem dX7_copy_192 : decode cX7_copy 192 = .ok (.iconst 1, 1) := by decide +kernel
theorem dX7_copy_193 : decode cX7_copy 193 = .ok (.ireturn, 1) := by decide +kernel
theorem dX7_write_0 : decode cX7_write 0 = .ok (.iload_n 1, 1) := by decide +kernel
theorem dX7_write_1 : decode cX7_write 1 = .ok (.invokestatic 132, 3) := by decide +kernel
theorem dX7_write_4 : decode cX7_write 4 = .ok (.ifCond .eq 10, 3) := by decide +kernel
theorem dX7_write_7 : decode cX7_write 7 = .ok (.iload_n 2, 1) := by decide +kernel
theorem dX7_write_8 : decode cX7_write 8 = .ok (.invokestatic 174, 3) := by decide +kernel
theorem dX7_write_11 : decode cX7_write 11 = .ok (.ifCond .ne 6, 3) := by decide +kernel
theorem dX7_write_14 : decode cX7_write 14 = .ok (.bipush (-2), 2) := by decide +kernel
theorem dX7_write_16 : decode cX7_write 16 = .ok (.ireturn, 1) := by decide +kernel
theorem dX7_write_17 : decode cX7_write 17 = .ok (.aload_n 0, 1) := by decide +kernel
theorem dX7_write_18 : decode cX7_write 18 = .ok (.getfield 91, 3) := by decide +kernel
theorem dX7_write_21 : decode cX7_write 21 = .ok (.iload_n 2, 1) := by decide +kernel
theorem dX7_write_22 : decode cX7_write 22 = .ok (.baload, 1) := by decide +kernel
theorem dX7_write_23 : decode cX7_write 23 = .ok (.ifCond .ne 9, 3) := by decide +kernel
theorem dX7_write_26 : decode cX7_write 26 = .ok (.aload_n 0, 1) := by decide +kernel
theorem dX7_write_27 : decode cX7_write 27 = .ok (.iconst 1, 1) := by decide +kernel
theorem dX7_write_28 : decode cX7_write 28 = .ok (.invokevirtual 177, 3) := by decide +kernel
theorem dX7_write_31 : decode cX7_write 31 = .ok (.ireturn, 1) := by decide +kernel
theorem dX7_write_32 : decode cX7_write 32 = .ok (.aload_n 0, 1) := by decide +kernel
theorem dX7_write_33 : decode cX7_write 33 = .ok (.invokevirtual 243, 3) := by decide +kernel
theorem dX7_write_36 : decode cX7_write 36 = .ok (.iconst 0, 1) := by decide +kernel
theorem dX7_write_37 : decode cX7_write 37 = .ok (.istore_n 3, 1) := by decide +kernel
theorem dX7_write_38 : decode cX7_write 38 = .ok (.iload_n 3, 1) := by decide +kernel
theorem dX7_write_39 : decode cX7_write 39 = .ok (.aload_n 0, 1) := by decide +kernel
theorem dX7_write_40 : decode cX7_write 40 = .ok (.getfield 98, 3) := by decide +kernel
theorem dX7_write_43 : decode cX7_write 43 = .ok (.iload_n 2, 1) := by decide +kernel
theorem dX7_write_44 : decode cX7_write 44 = .ok (.iaload, 1) := by decide +kernel
theorem dX7_write_45 : decode cX7_write 45 = .ok (.if_icmp .ge 32, 3) := by decide +kernel
theorem dX7_write_48 : decode cX7_write 48 = .ok (.iload_n 3, 1) := by decide +kernel
theorem dX7_write_49 : decode cX7_write 49 = .ok (.bipush 24, 2) := by decide +kernel
theorem dX7_write_51 : decode cX7_write 51 = .ok (.if_icmp .ge 26, 3) := by decide +kernel
theorem dX7_write_54 : decode cX7_write 54 = .ok (.aload_n 0, 1) := by decide +kernel
theorem dX7_write_55 : decode cX7_write 55 = .ok (.iload_n 2, 1) := by decide +kernel
theorem dX7_write_56 : decode cX7_write 56 = .ok (.iload_n 3, 1) := by decide +kernel
theorem dX7_write_57 : decode cX7_write 57 = .ok (.aload_n 0, 1) := by decide +kernel
theorem dX7_write_58 : decode cX7_write 58 = .ok (.getfield 67, 3) := by decide +kernel
theorem dX7_write_61 : decode cX7_write 61 = .ok (.bipush 24, 2) := by decide +kernel
theorem dX7_write_63 : decode cX7_write 63 = .ok (.iload_n 1, 1) := by decide +kernel
theorem dX7_write_64 : decode cX7_write 64 = .ok (.imul, 1) := by decide +kernel
theorem dX7_write_65 : decode cX7_write 65 = .ok (.iload_n 3, 1) := by decide +kernel
theorem dX7_write_66 : decode cX7_write 66 = .ok (.iadd, 1) := by decide +kernel
theorem dX7_write_67 : decode cX7_write 67 = .ok (.iaload, 1) := by decide +kernel
theorem dX7_write_68 : decode cX7_write 68 = .ok (.invokevirtual 355, 3) := by decide +kernel
theorem dX7_write_71 : decode cX7_write 71 = .ok (.iinc 3 1, 3) := by decide +kernel
theorem dX7_write_74 : decode cX7_write 74 = .ok (.goto (-36), 3) := by decide +kernel
theorem dX7_write_77 : decode cX7_write 77 = .ok (.iload_n 3, 1) := by decide +kernel
theorem dX7_write_78 : decode cX7_write 78 = .ok (.ireturn, 1) := by decide +kernel
theorem dX7_tellOf_0 : decode cX7_tellOf 0 = .ok (.aload_n 0, 1) := by decide +kernel
theorem dX7_tellOf_1 : decode cX7_tellOf 1 = .ok (.invokevirtual 153, 3) := by decide +kernel
theorem dX7_tellOf_4 : decode cX7_tellOf 4 = .ok (.iload_n 1, 1) := by decide +kernel
theorem dX7_tellOf_5 : decode cX7_tellOf 5 = .ok (.ifCond .ne 10, 3) := by decide +kernel
theorem dX7_tellOf_8 : decode cX7_tellOf 8 = .ok (.aload_n 0, 1) := by decide +kernel
theorem dX7_tellOf_9 : decode cX7_tellOf 9 = .ok (.getfield 135, 3) := by decide +kernel
theorem dX7_tellOf_12 : decode cX7_tellOf 12 = .ok (.goto 7, 3) := by decide +kernel
theorem dX7_tellOf_15 : decode cX7_tellOf 15 = .ok (.aload_n 0, 1) := by decide +kernel
theorem dX7_tellOf_16 : decode cX7_tellOf 16 = .ok (.getfield 138, 3) := by decide +kernel
theorem dX7_tellOf_19 : decode cX7_tellOf 19 = .ok (.ireturn, 1) := by decide +kernel
theorem dX7_count_0 : decode cX7_count 0 = .ok (.iload_n 1, 1) := by decide +kernel
theorem dX7_count_1 : decode cX7_count 1 = .ok (.tableswitch 92 0 8 #[51, 51, 57, 57, 66, 71, 76, 82, 87], 51) := by decide +kernel
theorem dX7_count_52 : decode cX7_count 52 = .ok (.aload_n 0, 1) := by decide +kernel
theorem dX7_count_53 : decode cX7_count 53 = .ok (.iload_n 1, 1) := by decide +kernel
theorem dX7_count_54 : decode cX7_count 54 = .ok (.invokevirtual 359, 3) := by decide +kernel
theorem dX7_count_57 : decode cX7_count 57 = .ok (.ireturn, 1) := by decide +kernel
theorem dX7_count_58 : decode cX7_count 58 = .ok (.aload_n 0, 1) := by decide +kernel
theorem dX7_count_59 : decode cX7_count 59 = .ok (.getfield 7, 3) := by decide +kernel
theorem dX7_count_62 : decode cX7_count 62 = .ok (.iload_n 1, 1) := by decide +kernel
theorem dX7_count_63 : decode cX7_count 63 = .ok (.iconst 2, 1) := by decide +kernel
theorem dX7_count_64 : decode cX7_count 64 = .ok (.isub, 1) := by decide +kernel
theorem dX7_count_65 : decode cX7_count 65 = .ok (.iaload, 1) := by decide +kernel
theorem dX7_count_66 : decode cX7_count 66 = .ok (.ireturn, 1) := by decide +kernel
theorem dX7_count_67 : decode cX7_count 67 = .ok (.aload_n 0, 1) := by decide +kernel
theorem dX7_count_68 : decode cX7_count 68 = .ok (.getfield 107, 3) := by decide +kernel
theorem dX7_count_71 : decode cX7_count 71 = .ok (.ireturn, 1) := by decide +kernel
theorem dX7_count_72 : decode cX7_count 72 = .ok (.aload_n 0, 1) := by decide +kernel
theorem dX7_count_73 : decode cX7_count 73 = .ok (.getfield 171, 3) := by decide +kernel
theorem dX7_count_76 : decode cX7_count 76 = .ok (.ireturn, 1) := by decide +kernel
theorem dX7_count_77 : decode cX7_count 77 = .ok (.aload_n 0, 1) := by decide +kernel
theorem dX7_count_78 : decode cX7_count 78 = .ok (.iconst 0, 1) := by decide +kernel
theorem dX7_count_79 : decode cX7_count 79 = .ok (.invokevirtual 269, 3) := by decide +kernel
theorem dX7_count_82 : decode cX7_count 82 = .ok (.ireturn, 1) := by decide +kernel
theorem dX7_count_83 : decode cX7_count 83 = .ok (.aload_n 0, 1) := by decide +kernel
theorem dX7_count_84 : decode cX7_count 84 = .ok (.getfield 314, 3) := by decide +kernel
theorem dX7_count_87 : decode cX7_count 87 = .ok (.ireturn, 1) := by decide +kernel
theorem dX7_count_88 : decode cX7_count 88 = .ok (.aload_n 0, 1) := by decide +kernel
theorem dX7_count_89 : decode cX7_count 89 = .ok (.getfield 349, 3) := by decide +kernel
theorem dX7_count_92 : decode cX7_count 92 = .ok (.ireturn, 1) := by decide +kernel
theorem dX7_count_93 : decode cX7_count 93 = .ok (.bipush (-2), 2) := by decide +kernel
theorem dX7_count_95 : decode cX7_count 95 = .ok (.ireturn, 1) := by decide +kernel
theorem dX7_taleDigest_0 : decode cX7_taleDigest 0 = .ok (.lload_n 1, 1) := by decide +kernel
theorem dX7_taleDigest_1 : decode cX7_taleDigest 1 = .ok (.lstore 4, 2) := by decide +kernel
theorem dX7_taleDigest_3 : decode cX7_taleDigest 3 = .ok (.iconst 0, 1) := by decide +kernel
theorem dX7_taleDigest_4 : decode cX7_taleDigest 4 = .ok (.istore 6, 2) := by decide +kernel
theorem dX7_taleDigest_6 : decode cX7_taleDigest 6 = .ok (.iload 6, 2) := by decide +kernel
theorem dX7_taleDigest_8 : decode cX7_taleDigest 8 = .ok (.iconst 4, 1) := by decide +kernel
theorem dX7_taleDigest_9 : decode cX7_taleDigest 9 = .ok (.if_icmp .ge 26, 3) := by decide +kernel
theorem dX7_taleDigest_12 : decode cX7_taleDigest 12 = .ok (.ldc2_w 362, 3) := by decide +kernel
theorem dX7_taleDigest_15 : decode cX7_taleDigest 15 = .ok (.lload 4, 2) := by decide +kernel
theorem dX7_taleDigest_17 : decode cX7_taleDigest 17 = .ok (.lmul, 1) := by decide +kernel
theorem dX7_taleDigest_18 : decode cX7_taleDigest 18 = .ok (.aload_n 0, 1) := by decide +kernel
theorem dX7_taleDigest_19 : decode cX7_taleDigest 19 = .ok (.iload_n 3, 1) := by decide +kernel
theorem dX7_taleDigest_20 : decode cX7_taleDigest 20 = .ok (.iload 6, 2) := by decide +kernel
theorem dX7_taleDigest_22 : decode cX7_taleDigest 22 = .ok (.invokevirtual 159, 3) := by decide +kernel
theorem dX7_taleDigest_25 : decode cX7_taleDigest 25 = .ok (.i2l, 1) := by decide +kernel
theorem dX7_taleDigest_26 : decode cX7_taleDigest 26 = .ok (.ladd, 1) := by decide +kernel
theorem dX7_taleDigest_27 : decode cX7_taleDigest 27 = .ok (.lstore 4, 2) := by decide +kernel
theorem dX7_taleDigest_29 : decode cX7_taleDigest 29 = .ok (.iinc 6 1, 3) := by decide +kernel
theorem dX7_taleDigest_32 : decode cX7_taleDigest 32 = .ok (.goto (-26), 3) := by decide +kernel
theorem dX7_taleDigest_35 : decode cX7_taleDigest 35 = .ok (.iconst 0, 1) := by decide +kernel
theorem dX7_taleDigest_36 : decode cX7_taleDigest 36 = .ok (.istore 6, 2) := by decide +kernel
theorem dX7_taleDigest_38 : decode cX7_taleDigest 38 = .ok (.iload 6, 2) := by decide +kernel
theorem dX7_taleDigest_40 : decode cX7_taleDigest 40 = .ok (.iconst 3, 1) := by decide +kernel
theorem dX7_taleDigest_41 : decode cX7_taleDigest 41 = .ok (.if_icmp .ge 26, 3) := by decide +kernel
theorem dX7_taleDigest_44 : decode cX7_taleDigest 44 = .ok (.ldc2_w 362, 3) := by decide +kernel
theorem dX7_taleDigest_47 : decode cX7_taleDigest 47 = .ok (.lload 4, 2) := by decide +kernel
theorem dX7_taleDigest_49 : decode cX7_taleDigest 49 = .ok (.lmul, 1) := by decide +kernel
theorem dX7_taleDigest_50 : decode cX7_taleDigest 50 = .ok (.aload_n 0, 1) := by decide +kernel
theorem dX7_taleDigest_51 : decode cX7_taleDigest 51 = .ok (.iload_n 3, 1) := by decide +kernel
theorem dX7_taleDigest_52 : decode cX7_taleDigest 52 = .ok (.iload 6, 2) := by decide +kernel
theorem dX7_taleDigest_54 : decode cX7_taleDigest 54 = .ok (.invokevirtual 246, 3) := by decide +kernel
theorem dX7_taleDigest_57 : decode cX7_taleDigest 57 = .ok (.i2l, 1) := by decide +kernel
theorem dX7_taleDigest_58 : decode cX7_taleDigest 58 = .ok (.ladd, 1) := by decide +kernel
theorem dX7_taleDigest_59 : decode cX7_taleDigest 59 = .ok (.lstore 4, 2) := by decide +kernel
theorem dX7_taleDigest_61 : decode cX7_taleDigest 61 = .ok (.iinc 6 1, 3) := by decide +kernel
theorem dX7_taleDigest_64 : decode cX7_taleDigest 64 = .ok (.goto (-26), 3) := by decide +kernel
theorem dX7_taleDigest_67 : decode cX7_taleDigest 67 = .ok (.ldc2_w 362, 3) := by decide +kernel
theorem dX7_taleDigest_70 : decode cX7_taleDigest 70 = .ok (.lload 4, 2) := by decide +kernel
theorem dX7_taleDigest_72 : decode cX7_taleDigest 72 = .ok (.lmul, 1) := by decide +kernel
theorem dX7_taleDigest_73 : decode cX7_taleDigest 73 = .ok (.aload_n 0, 1) := by decide +kernel
theorem dX7_taleDigest_74 : decode cX7_taleDigest 74 = .ok (.iload_n 3, 1) := by decide +kernel
theorem dX7_taleDigest_75 : decode cX7_taleDigest 75 = .ok (.iconst 0, 1) := by decide +kernel
theorem dX7_taleDigest_76 : decode cX7_taleDigest 76 = .ok (.invokevirtual 296, 3) := by decide +kernel
theorem dX7_taleDigest_79 : decode cX7_taleDigest 79 = .ok (.i2l, 1) := by decide +kernel
theorem dX7_taleDigest_80 : decode cX7_taleDigest 80 = .ok (.ladd, 1) := by decide +kernel
theorem dX7_taleDigest_81 : decode cX7_taleDigest 81 = .ok (.lstore 4, 2) := by decide +kernel
theorem dX7_taleDigest_83 : decode cX7_taleDigest 83 = .ok (.ldc2_w 362, 3) := by decide +kernel
theorem dX7_taleDigest_86 : decode cX7_taleDigest 86 = .ok (.lload 4, 2) := by decide +kernel
theorem dX7_taleDigest_88 : decode cX7_taleDigest 88 = .ok (.lmul, 1) := by decide +kernel
theorem dX7_taleDigest_89 : decode cX7_taleDigest 89 = .ok (.aload_n 0, 1) := by decide +kernel
theorem dX7_taleDigest_90 : decode cX7_taleDigest 90 = .ok (.iload_n 3, 1) := by decide +kernel
theorem dX7_taleDigest_91 : decode cX7_taleDigest 91 = .ok (.iconst 1, 1) := by decide +kernel
theorem dX7_taleDigest_92 : decode cX7_taleDigest 92 = .ok (.invokevirtual 296, 3) := by decide +kernel
theorem dX7_taleDigest_95 : decode cX7_taleDigest 95 = .ok (.i2l, 1) := by decide +kernel
theorem dX7_taleDigest_96 : decode cX7_taleDigest 96 = .ok (.ladd, 1) := by decide +kernel
theorem dX7_taleDigest_97 : decode cX7_taleDigest 97 = .ok (.lstore 4, 2) := by decide +kernel
theorem dX7_taleDigest_99 : decode cX7_taleDigest 99 = .ok (.ldc2_w 362, 3) := by decide +kernel
theorem dX7_taleDigest_102 : decode cX7_taleDigest 102 = .ok (.lload 4, 2) := by decide +kernel
theorem dX7_taleDigest_104 : decode cX7_taleDigest 104 = .ok (.lmul, 1) := by decide +kernel
theorem dX7_taleDigest_105 : decode cX7_taleDigest 105 = .ok (.aload_n 0, 1) := by decide +kernel
theorem dX7_taleDigest_106 : decode cX7_taleDigest 106 = .ok (.iload_n 3, 1) := by decide +kernel
theorem dX7_taleDigest_107 : decode cX7_taleDigest 107 = .ok (.invokevirtual 324, 3) := by decide +kernel
theorem dX7_taleDigest_110 : decode cX7_taleDigest 110 = .ok (.i2l, 1) := by decide +kernel
theorem dX7_taleDigest_111 : decode cX7_taleDigest 111 = .ok (.ladd, 1) := by decide +kernel
theorem dX7_taleDigest_112 : decode cX7_taleDigest 112 = .ok (.lstore 4, 2) := by decide +kernel
theorem dX7_taleDigest_114 : decode cX7_taleDigest 114 = .ok (.ldc2_w 362, 3) := by decide +kernel
theorem dX7_taleDigest_117 : decode cX7_taleDigest 117 = .ok (.lload 4, 2) := by decide +kernel
theorem dX7_taleDigest_119 : decode cX7_taleDigest 119 = .ok (.lmul, 1) := by decide +kernel
theorem dX7_taleDigest_120 : decode cX7_taleDigest 120 = .ok (.aload_n 0, 1) := by decide +kernel
theorem dX7_taleDigest_121 : decode cX7_taleDigest 121 = .ok (.iload_n 3, 1) := by decide +kernel
theorem dX7_taleDigest_122 : decode cX7_taleDigest 122 = .ok (.invokevirtual 327, 3) := by decide +kernel
theorem dX7_taleDigest_125 : decode cX7_taleDigest 125 = .ok (.i2l, 1) := by decide +kernel
theorem dX7_taleDigest_126 : decode cX7_taleDigest 126 = .ok (.ladd, 1) := by decide +kernel
theorem dX7_taleDigest_127 : decode cX7_taleDigest 127 = .ok (.lstore 4, 2) := by decide +kernel
theorem dX7_taleDigest_129 : decode cX7_taleDigest 129 = .ok (.ldc2_w 362, 3) := by decide +kernel
theorem dX7_taleDigest_132 : decode cX7_taleDigest 132 = .ok (.lload 4, 2) := by decide +kernel
theorem dX7_taleDigest_134 : decode cX7_taleDigest 134 = .ok (.lmul, 1) := by decide +kernel
theorem dX7_taleDigest_135 : decode cX7_taleDigest 135 = .ok (.aload_n 0, 1) := by decide +kernel
theorem dX7_taleDigest_136 : decode cX7_taleDigest 136 = .ok (.iload_n 3, 1) := by decide +kernel
theorem dX7_taleDigest_137 : decode cX7_taleDigest 137 = .ok (.invokevirtual 330, 3) := by decide +kernel
theorem dX7_taleDigest_140 : decode cX7_taleDigest 140 = .ok (.i2l, 1) := by decide +kernel
theorem dX7_taleDigest_141 : decode cX7_taleDigest 141 = .ok (.ladd, 1) := by decide +kernel
theorem dX7_taleDigest_142 : decode cX7_taleDigest 142 = .ok (.lreturn, 1) := by decide +kernel
theorem dX7_chargeDigest_0 : decode cX7_chargeDigest 0 = .ok (.ldc2_w 362, 3) := by decide +kernel
theorem dX7_chargeDigest_3 : decode cX7_chargeDigest 3 = .ok (.lload_n 1, 1) := by decide +kernel
theorem dX7_chargeDigest_4 : decode cX7_chargeDigest 4 = .ok (.lmul, 1) := by decide +kernel
theorem dX7_chargeDigest_5 : decode cX7_chargeDigest 5 = .ok (.aload_n 0, 1) := by decide +kernel
theorem dX7_chargeDigest_6 : decode cX7_chargeDigest 6 = .ok (.iload_n 3, 1) := by decide +kernel
theorem dX7_chargeDigest_7 : decode cX7_chargeDigest 7 = .ok (.iconst 0, 1) := by decide +kernel
theorem dX7_chargeDigest_8 : decode cX7_chargeDigest 8 = .ok (.invokevirtual 165, 3) := by decide +kernel
theorem dX7_chargeDigest_11 : decode cX7_chargeDigest 11 = .ok (.i2l, 1) := by decide +kernel
theorem dX7_chargeDigest_12 : decode cX7_chargeDigest 12 = .ok (.ladd, 1) := by decide +kernel
theorem dX7_chargeDigest_13 : decode cX7_chargeDigest 13 = .ok (.lstore 4, 2) := by decide +kernel
theorem dX7_chargeDigest_15 : decode cX7_chargeDigest 15 = .ok (.ldc2_w 362, 3) := by decide +kernel
theorem dX7_chargeDigest_18 : decode cX7_chargeDigest 18 = .ok (.lload 4, 2) := by decide +kernel
theorem dX7_chargeDigest_20 : decode cX7_chargeDigest 20 = .ok (.lmul, 1) := by decide +kernel
theorem dX7_chargeDigest_21 : decode cX7_chargeDigest 21 = .ok (.aload_n 0, 1) := by decide +kernel
theorem dX7_chargeDigest_22 : decode cX7_chargeDigest 22 = .ok (.iload_n 3, 1) := by decide +kernel
theorem dX7_chargeDigest_23 : decode cX7_chargeDigest 23 = .ok (.iconst 1, 1) := by decide +kernel
theorem dX7_chargeDigest_24 : decode cX7_chargeDigest 24 = .ok (.invokevirtual 165, 3) := by decide +kernel
theorem dX7_chargeDigest_27 : decode cX7_chargeDigest 27 = .ok (.i2l, 1) := by decide +kernel
theorem dX7_chargeDigest_28 : decode cX7_chargeDigest 28 = .ok (.ladd, 1) := by decide +kernel
theorem dX7_chargeDigest_29 : decode cX7_chargeDigest 29 = .ok (.lstore 4, 2) := by decide +kernel
theorem dX7_chargeDigest_31 : decode cX7_chargeDigest 31 = .ok (.ldc2_w 362, 3) := by decide +kernel
theorem dX7_chargeDigest_34 : decode cX7_chargeDigest 34 = .ok (.lload 4, 2) := by decide +kernel
theorem dX7_chargeDigest_36 : decode cX7_chargeDigest 36 = .ok (.lmul, 1) := by decide +kernel
theorem dX7_chargeDigest_37 : decode cX7_chargeDigest 37 = .ok (.aload_n 0, 1) := by decide +kernel
theorem dX7_chargeDigest_38 : decode cX7_chargeDigest 38 = .ok (.iload_n 3, 1) := by decide +kernel
theorem dX7_chargeDigest_39 : decode cX7_chargeDigest 39 = .ok (.invokevirtual 252, 3) := by decide +kernel
theorem dX7_chargeDigest_42 : decode cX7_chargeDigest 42 = .ok (.i2l, 1) := by decide +kernel
theorem dX7_chargeDigest_43 : decode cX7_chargeDigest 43 = .ok (.ladd, 1) := by decide +kernel
theorem dX7_chargeDigest_44 : decode cX7_chargeDigest 44 = .ok (.lstore 4, 2) := by decide +kernel
theorem dX7_chargeDigest_46 : decode cX7_chargeDigest 46 = .ok (.ldc2_w 362, 3) := by decide +kernel
theorem dX7_chargeDigest_49 : decode cX7_chargeDigest 49 = .ok (.lload 4, 2) := by decide +kernel
theorem dX7_chargeDigest_51 : decode cX7_chargeDigest 51 = .ok (.lmul, 1) := by decide +kernel
theorem dX7_chargeDigest_52 : decode cX7_chargeDigest 52 = .ok (.aload_n 0, 1) := by decide +kernel
theorem dX7_chargeDigest_53 : decode cX7_chargeDigest 53 = .ok (.iload_n 3, 1) := by decide +kernel
theorem dX7_chargeDigest_54 : decode cX7_chargeDigest 54 = .ok (.iconst 0, 1) := by decide +kernel
theorem dX7_chargeDigest_55 : decode cX7_chargeDigest 55 = .ok (.invokevirtual 256, 3) := by decide +kernel
theorem dX7_chargeDigest_58 : decode cX7_chargeDigest 58 = .ok (.i2l, 1) := by decide +kernel
theorem dX7_chargeDigest_59 : decode cX7_chargeDigest 59 = .ok (.ladd, 1) := by decide +kernel
theorem dX7_chargeDigest_60 : decode cX7_chargeDigest 60 = .ok (.lstore 4, 2) := by decide +kernel
theorem dX7_chargeDigest_62 : decode cX7_chargeDigest 62 = .ok (.ldc2_w 362, 3) := by decide +kernel
theorem dX7_chargeDigest_65 : decode cX7_chargeDigest 65 = .ok (.lload 4, 2) := by decide +kernel
theorem dX7_chargeDigest_67 : decode cX7_chargeDigest 67 = .ok (.lmul, 1) := by decide +kernel
theorem dX7_chargeDigest_68 : decode cX7_chargeDigest 68 = .ok (.aload_n 0, 1) := by decide +kernel
theorem dX7_chargeDigest_69 : decode cX7_chargeDigest 69 = .ok (.iload_n 3, 1) := by decide +kernel
theorem dX7_chargeDigest_70 : decode cX7_chargeDigest 70 = .ok (.iconst 1, 1) := by decide +kernel
theorem dX7_chargeDigest_71 : decode cX7_chargeDigest 71 = .ok (.invokevirtual 256, 3) := by decide +kernel
theorem dX7_chargeDigest_74 : decode cX7_chargeDigest 74 = .ok (.i2l, 1) := by decide +kernel
theorem dX7_chargeDigest_75 : decode cX7_chargeDigest 75 = .ok (.ladd, 1) := by decide +kernel
theorem dX7_chargeDigest_76 : decode cX7_chargeDigest 76 = .ok (.lstore 4, 2) := by decide +kernel
theorem dX7_chargeDigest_78 : decode cX7_chargeDigest 78 = .ok (.ldc2_w 362, 3) := by decide +kernel
theorem dX7_chargeDigest_81 : decode cX7_chargeDigest 81 = .ok (.lload 4, 2) := by decide +kernel
theorem dX7_chargeDigest_83 : decode cX7_chargeDigest 83 = .ok (.lmul, 1) := by decide +kernel
theorem dX7_chargeDigest_84 : decode cX7_chargeDigest 84 = .ok (.aload_n 0, 1) := by decide +kernel
theorem dX7_chargeDigest_85 : decode cX7_chargeDigest 85 = .ok (.iconst 5, 1) := by decide +kernel
theorem dX7_chargeDigest_86 : decode cX7_chargeDigest 86 = .ok (.iload_n 3, 1) := by decide +kernel
theorem dX7_chargeDigest_87 : decode cX7_chargeDigest 87 = .ok (.iconst 0, 1) := by decide +kernel
theorem dX7_chargeDigest_88 : decode cX7_chargeDigest 88 = .ok (.invokevirtual 337, 3) := by decide +kernel
theorem dX7_chargeDigest_91 : decode cX7_chargeDigest 91 = .ok (.ladd, 1) := by decide +kernel
theorem dX7_chargeDigest_92 : decode cX7_chargeDigest 92 = .ok (.lstore 4, 2) := by decide +kernel
theorem dX7_chargeDigest_94 : decode cX7_chargeDigest 94 = .ok (.ldc2_w 362, 3) := by decide +kernel
theorem dX7_chargeDigest_97 : decode cX7_chargeDigest 97 = .ok (.lload 4, 2) := by decide +kernel
theorem dX7_chargeDigest_99 : decode cX7_chargeDigest 99 = .ok (.lmul, 1) := by decide +kernel
theorem dX7_chargeDigest_100 : decode cX7_chargeDigest 100 = .ok (.aload_n 0, 1) := by decide +kernel
theorem dX7_chargeDigest_101 : decode cX7_chargeDigest 101 = .ok (.iconst 5, 1) := by decide +kernel
theorem dX7_chargeDigest_102 : decode cX7_chargeDigest 102 = .ok (.iload_n 3, 1) := by decide +kernel
theorem dX7_chargeDigest_103 : decode cX7_chargeDigest 103 = .ok (.iconst 1, 1) := by decide +kernel
theorem dX7_chargeDigest_104 : decode cX7_chargeDigest 104 = .ok (.invokevirtual 337, 3) := by decide +kernel
theorem dX7_chargeDigest_107 : decode cX7_chargeDigest 107 = .ok (.ladd, 1) := by decide +kernel
theorem dX7_chargeDigest_108 : decode cX7_chargeDigest 108 = .ok (.lreturn, 1) := by decide +kernel
theorem dX7_digest_0 : decode cX7_digest 0 = .ok (.ldc2_w 364, 3) := by decide +kernel
theorem dX7_digest_3 : decode cX7_digest 3 = .ok (.lstore_n 1, 1) := by decide +kernel
theorem dX7_digest_4 : decode cX7_digest 4 = .ok (.iconst 0, 1) := by decide +kernel
theorem dX7_digest_5 : decode cX7_digest 5 = .ok (.istore_n 3, 1) := by decide +kernel
theorem dX7_digest_6 : decode cX7_digest 6 = .ok (.iload_n 3, 1) := by decide +kernel
theorem dX7_digest_7 : decode cX7_digest 7 = .ok (.bipush 8, 2) := by decide +kernel
theorem dX7_digest_9 : decode cX7_digest 9 = .ok (.if_icmp .ge 22, 3) := by decide +kernel
theorem dX7_digest_12 : decode cX7_digest 12 = .ok (.ldc2_w 362, 3) := by decide +kernel
theorem dX7_digest_15 : decode cX7_digest 15 = .ok (.lload_n 1, 1) := by decide +kernel
theorem dX7_digest_16 : decode cX7_digest 16 = .ok (.lmul, 1) := by decide +kernel
theorem dX7_digest_17 : decode cX7_digest 17 = .ok (.aload_n 0, 1) := by decide +kernel
theorem dX7_digest_18 : decode cX7_digest 18 = .ok (.iload_n 3, 1) := by decide +kernel
theorem dX7_digest_19 : decode cX7_digest 19 = .ok (.invokevirtual 366, 3) := by decide +kernel
theorem dX7_digest_22 : decode cX7_digest 22 = .ok (.i2l, 1) := by decide +kernel
theorem dX7_digest_23 : decode cX7_digest 23 = .ok (.ladd, 1) := by decide +kernel
theorem dX7_digest_24 : decode cX7_digest 24 = .ok (.lstore_n 1, 1) := by decide +kernel
theorem dX7_digest_25 : decode cX7_digest 25 = .ok (.iinc 3 1, 3) := by decide +kernel
theorem dX7_digest_28 : decode cX7_digest 28 = .ok (.goto (-22), 3) := by decide +kernel
theorem dX7_digest_31 : decode cX7_digest 31 = .ok (.ldc2_w 362, 3) := by decide +kernel
theorem dX7_digest_34 : decode cX7_digest 34 = .ok (.lload_n 1, 1) := by decide +kernel
theorem dX7_digest_35 : decode cX7_digest 35 = .ok (.lmul, 1) := by decide +kernel
theorem dX7_digest_36 : decode cX7_digest 36 = .ok (.aload_n 0, 1) := by decide +kernel
theorem dX7_digest_37 : decode cX7_digest 37 = .ok (.iconst 0, 1) := by decide +kernel
theorem dX7_digest_38 : decode cX7_digest 38 = .ok (.invokevirtual 150, 3) := by decide +kernel
theorem dX7_digest_41 : decode cX7_digest 41 = .ok (.i2l, 1) := by decide +kernel
theorem dX7_digest_42 : decode cX7_digest 42 = .ok (.ladd, 1) := by decide +kernel
theorem dX7_digest_43 : decode cX7_digest 43 = .ok (.lstore_n 1, 1) := by decide +kernel
theorem dX7_digest_44 : decode cX7_digest 44 = .ok (.ldc2_w 362, 3) := by decide +kernel
theorem dX7_digest_47 : decode cX7_digest 47 = .ok (.lload_n 1, 1) := by decide +kernel
theorem dX7_digest_48 : decode cX7_digest 48 = .ok (.lmul, 1) := by decide +kernel
theorem dX7_digest_49 : decode cX7_digest 49 = .ok (.aload_n 0, 1) := by decide +kernel
theorem dX7_digest_50 : decode cX7_digest 50 = .ok (.iconst 1, 1) := by decide +kernel
theorem dX7_digest_51 : decode cX7_digest 51 = .ok (.invokevirtual 150, 3) := by decide +kernel
theorem dX7_digest_54 : decode cX7_digest 54 = .ok (.i2l, 1) := by decide +kernel
theorem dX7_digest_55 : decode cX7_digest 55 = .ok (.ladd, 1) := by decide +kernel
theorem dX7_digest_56 : decode cX7_digest 56 = .ok (.lstore_n 1, 1) := by decide +kernel
theorem dX7_digest_57 : decode cX7_digest 57 = .ok (.iconst 0, 1) := by decide +kernel
theorem dX7_digest_58 : decode cX7_digest 58 = .ok (.istore_n 3, 1) := by decide +kernel
theorem dX7_digest_59 : decode cX7_digest 59 = .ok (.iload_n 3, 1) := by decide +kernel
theorem dX7_digest_60 : decode cX7_digest 60 = .ok (.bipush 8, 2) := by decide +kernel
theorem dX7_digest_62 : decode cX7_digest 62 = .ok (.if_icmp .ge 72, 3) := by decide +kernel
theorem dX7_digest_65 : decode cX7_digest 65 = .ok (.ldc2_w 362, 3) := by decide +kernel
theorem dX7_digest_68 : decode cX7_digest 68 = .ok (.lload_n 1, 1) := by decide +kernel
theorem dX7_digest_69 : decode cX7_digest 69 = .ok (.lmul, 1) := by decide +kernel
theorem dX7_digest_70 : decode cX7_digest 70 = .ok (.aload_n 0, 1) := by decide +kernel
theorem dX7_digest_71 : decode cX7_digest 71 = .ok (.iconst 3, 1) := by decide +kernel
theorem dX7_digest_72 : decode cX7_digest 72 = .ok (.iload_n 3, 1) := by decide +kernel
theorem dX7_digest_73 : decode cX7_digest 73 = .ok (.iconst 0, 1) := by decide +kernel
theorem dX7_digest_74 : decode cX7_digest 74 = .ok (.invokevirtual 249, 3) := by decide +kernel
theorem dX7_digest_77 : decode cX7_digest 77 = .ok (.i2l, 1) := by decide +kernel
theorem dX7_digest_78 : decode cX7_digest 78 = .ok (.ladd, 1) := by decide +kernel
theorem dX7_digest_79 : decode cX7_digest 79 = .ok (.lstore_n 1, 1) := by decide +kernel
theorem dX7_digest_80 : decode cX7_digest 80 = .ok (.ldc2_w 362, 3) := by decide +kernel
theorem dX7_digest_83 : decode cX7_digest 83 = .ok (.lload_n 1, 1) := by decide +kernel
theorem dX7_digest_84 : decode cX7_digest 84 = .ok (.lmul, 1) := by decide +kernel
theorem dX7_digest_85 : decode cX7_digest 85 = .ok (.aload_n 0, 1) := by decide +kernel
theorem dX7_digest_86 : decode cX7_digest 86 = .ok (.bipush 12, 2) := by decide +kernel
theorem dX7_digest_88 : decode cX7_digest 88 = .ok (.iload_n 3, 1) := by decide +kernel
theorem dX7_digest_89 : decode cX7_digest 89 = .ok (.iconst 0, 1) := by decide +kernel
theorem dX7_digest_90 : decode cX7_digest 90 = .ok (.invokevirtual 249, 3) := by decide +kernel
theorem dX7_digest_93 : decode cX7_digest 93 = .ok (.i2l, 1) := by decide +kernel
theorem dX7_digest_94 : decode cX7_digest 94 = .ok (.ladd, 1) := by decide +kernel
theorem dX7_digest_95 : decode cX7_digest 95 = .ok (.lstore_n 1, 1) := by decide +kernel
theorem dX7_digest_96 : decode cX7_digest 96 = .ok (.ldc2_w 362, 3) := by decide +kernel
theorem dX7_digest_99 : decode cX7_digest 99 = .ok (.lload_n 1, 1) := by decide +kernel
theorem dX7_digest_100 : decode cX7_digest 100 = .ok (.lmul, 1) := by decide +kernel
theorem dX7_digest_101 : decode cX7_digest 101 = .ok (.aload_n 0, 1) := by decide +kernel
theorem dX7_digest_102 : decode cX7_digest 102 = .ok (.bipush 23, 2) := by decide +kernel
theorem dX7_digest_104 : decode cX7_digest 104 = .ok (.iload_n 3, 1) := by decide +kernel
theorem dX7_digest_105 : decode cX7_digest 105 = .ok (.iconst 0, 1) := by decide +kernel
theorem dX7_digest_106 : decode cX7_digest 106 = .ok (.invokevirtual 249, 3) := by decide +kernel
theorem dX7_digest_109 : decode cX7_digest 109 = .ok (.i2l, 1) := by decide +kernel
theorem dX7_digest_110 : decode cX7_digest 110 = .ok (.ladd, 1) := by decide +kernel
theorem dX7_digest_111 : decode cX7_digest 111 = .ok (.lstore_n 1, 1) := by decide +kernel
theorem dX7_digest_112 : decode cX7_digest 112 = .ok (.ldc2_w 362, 3) := by decide +kernel
theorem dX7_digest_115 : decode cX7_digest 115 = .ok (.lload_n 1, 1) := by decide +kernel
theorem dX7_digest_116 : decode cX7_digest 116 = .ok (.lmul, 1) := by decide +kernel
theorem dX7_digest_117 : decode cX7_digest 117 = .ok (.aload_n 0, 1) := by decide +kernel
theorem dX7_digest_118 : decode cX7_digest 118 = .ok (.bipush 23, 2) := by decide +kernel
theorem dX7_digest_120 : decode cX7_digest 120 = .ok (.iload_n 3, 1) := by decide +kernel
theorem dX7_digest_121 : decode cX7_digest 121 = .ok (.iconst 1, 1) := by decide +kernel
theorem dX7_digest_122 : decode cX7_digest 122 = .ok (.invokevirtual 249, 3) := by decide +kernel
theorem dX7_digest_125 : decode cX7_digest 125 = .ok (.i2l, 1) := by decide +kernel
theorem dX7_digest_126 : decode cX7_digest 126 = .ok (.ladd, 1) := by decide +kernel
theorem dX7_digest_127 : decode cX7_digest 127 = .ok (.lstore_n 1, 1) := by decide +kernel
theorem dX7_digest_128 : decode cX7_digest 128 = .ok (.iinc 3 1, 3) := by decide +kernel
theorem dX7_digest_131 : decode cX7_digest 131 = .ok (.goto (-72), 3) := by decide +kernel
theorem dX7_digest_134 : decode cX7_digest 134 = .ok (.iconst 0, 1) := by decide +kernel
theorem dX7_digest_135 : decode cX7_digest 135 = .ok (.istore_n 3, 1) := by decide +kernel
theorem dX7_digest_136 : decode cX7_digest 136 = .ok (.iload_n 3, 1) := by decide +kernel
theorem dX7_digest_137 : decode cX7_digest 137 = .ok (.bipush 24, 2) := by decide +kernel
theorem dX7_digest_139 : decode cX7_digest 139 = .ok (.if_icmp .ge 22, 3) := by decide +kernel
theorem dX7_digest_142 : decode cX7_digest 142 = .ok (.ldc2_w 362, 3) := by decide +kernel
theorem dX7_digest_145 : decode cX7_digest 145 = .ok (.lload_n 1, 1) := by decide +kernel
theorem dX7_digest_146 : decode cX7_digest 146 = .ok (.lmul, 1) := by decide +kernel
theorem dX7_digest_147 : decode cX7_digest 147 = .ok (.aload_n 0, 1) := by decide +kernel
theorem dX7_digest_148 : decode cX7_digest 148 = .ok (.iload_n 3, 1) := by decide +kernel
theorem dX7_digest_149 : decode cX7_digest 149 = .ok (.invokevirtual 281, 3) := by decide +kernel
theorem dX7_digest_152 : decode cX7_digest 152 = .ok (.i2l, 1) := by decide +kernel
theorem dX7_digest_153 : decode cX7_digest 153 = .ok (.ladd, 1) := by decide +kernel
theorem dX7_digest_154 : decode cX7_digest 154 = .ok (.lstore_n 1, 1) := by decide +kernel
theorem dX7_digest_155 : decode cX7_digest 155 = .ok (.iinc 3 1, 3) := by decide +kernel
theorem dX7_digest_158 : decode cX7_digest 158 = .ok (.goto (-22), 3) := by decide +kernel
theorem dX7_digest_161 : decode cX7_digest 161 = .ok (.iconst 0, 1) := by decide +kernel
theorem dX7_digest_162 : decode cX7_digest 162 = .ok (.istore_n 3, 1) := by decide +kernel
theorem dX7_digest_163 : decode cX7_digest 163 = .ok (.iload_n 3, 1) := by decide +kernel
theorem dX7_digest_164 : decode cX7_digest 164 = .ok (.aload_n 0, 1) := by decide +kernel
theorem dX7_digest_165 : decode cX7_digest 165 = .ok (.getfield 135, 3) := by decide +kernel
theorem dX7_digest_168 : decode cX7_digest 168 = .ok (.if_icmp .ge 16, 3) := by decide +kernel
theorem dX7_digest_171 : decode cX7_digest 171 = .ok (.aload_n 0, 1) := by decide +kernel
theorem dX7_digest_172 : decode cX7_digest 172 = .ok (.lload_n 1, 1) := by decide +kernel
theorem dX7_digest_173 : decode cX7_digest 173 = .ok (.iload_n 3, 1) := by decide +kernel
theorem dX7_digest_174 : decode cX7_digest 174 = .ok (.invokevirtual 369, 3) := by decide +kernel
theorem dX7_digest_177 : decode cX7_digest 177 = .ok (.lstore_n 1, 1) := by decide +kernel
theorem dX7_digest_178 : decode cX7_digest 178 = .ok (.iinc 3 1, 3) := by decide +kernel
theorem dX7_digest_181 : decode cX7_digest 181 = .ok (.goto (-18), 3) := by decide +kernel
theorem dX7_digest_184 : decode cX7_digest 184 = .ok (.iconst 0, 1) := by decide +kernel
theorem dX7_digest_185 : decode cX7_digest 185 = .ok (.istore_n 3, 1) := by decide +kernel
theorem dX7_digest_186 : decode cX7_digest 186 = .ok (.iload_n 3, 1) := by decide +kernel
theorem dX7_digest_187 : decode cX7_digest 187 = .ok (.aload_n 0, 1) := by decide +kernel
theorem dX7_digest_188 : decode cX7_digest 188 = .ok (.getfield 138, 3) := by decide +kernel
theorem dX7_digest_191 : decode cX7_digest 191 = .ok (.if_icmp .ge 16, 3) := by decide +kernel
theorem dX7_digest_194 : decode cX7_digest 194 = .ok (.aload_n 0, 1) := by decide +kernel
theorem dX7_digest_195 : decode cX7_digest 195 = .ok (.lload_n 1, 1) := by decide +kernel
theorem dX7_digest_196 : decode cX7_digest 196 = .ok (.iload_n 3, 1) := by decide +kernel
theorem dX7_digest_197 : decode cX7_digest 197 = .ok (.invokevirtual 373, 3) := by decide +kernel
theorem dX7_digest_200 : decode cX7_digest 200 = .ok (.lstore_n 1, 1) := by decide +kernel
theorem dX7_digest_201 : decode cX7_digest 201 = .ok (.iinc 3 1, 3) := by decide +kernel
theorem dX7_digest_204 : decode cX7_digest 204 = .ok (.goto (-18), 3) := by decide +kernel
theorem dX7_digest_207 : decode cX7_digest 207 = .ok (.iconst 0, 1) := by decide +kernel
theorem dX7_digest_208 : decode cX7_digest 208 = .ok (.istore_n 3, 1) := by decide +kernel
theorem dX7_digest_209 : decode cX7_digest 209 = .ok (.iload_n 3, 1) := by decide +kernel
theorem dX7_digest_210 : decode cX7_digest 210 = .ok (.iconst 4, 1) := by decide +kernel
theorem dX7_digest_211 : decode cX7_digest 211 = .ok (.if_icmp .ge 22, 3) := by decide +kernel
theorem dX7_digest_214 : decode cX7_digest 214 = .ok (.ldc2_w 362, 3) := by decide +kernel
theorem dX7_digest_217 : decode cX7_digest 217 = .ok (.lload_n 1, 1) := by decide +kernel
theorem dX7_digest_218 : decode cX7_digest 218 = .ok (.lmul, 1) := by decide +kernel
theorem dX7_digest_219 : decode cX7_digest 219 = .ok (.aload_n 0, 1) := by decide +kernel
theorem dX7_digest_220 : decode cX7_digest 220 = .ok (.iload_n 3, 1) := by decide +kernel
theorem dX7_digest_221 : decode cX7_digest 221 = .ok (.invokevirtual 269, 3) := by decide +kernel
theorem dX7_digest_224 : decode cX7_digest 224 = .ok (.i2l, 1) := by decide +kernel
theorem dX7_digest_225 : decode cX7_digest 225 = .ok (.ladd, 1) := by decide +kernel
theorem dX7_digest_226 : decode cX7_digest 226 = .ok (.lstore_n 1, 1) := by decide +kernel
theorem dX7_digest_227 : decode cX7_digest 227 = .ok (.iinc 3 1, 3) := by decide +kernel
theorem dX7_digest_230 : decode cX7_digest 230 = .ok (.goto (-21), 3) := by decide +kernel
theorem dX7_digest_233 : decode cX7_digest 233 = .ok (.ldc2_w 362, 3) := by decide +kernel
theorem dX7_digest_236 : decode cX7_digest 236 = .ok (.lload_n 1, 1) := by decide +kernel
theorem dX7_digest_237 : decode cX7_digest 237 = .ok (.lmul, 1) := by decide +kernel
theorem dX7_digest_238 : decode cX7_digest 238 = .ok (.aload_n 0, 1) := by decide +kernel
theorem dX7_digest_239 : decode cX7_digest 239 = .ok (.invokevirtual 272, 3) := by decide +kernel
theorem dX7_digest_242 : decode cX7_digest 242 = .ok (.i2l, 1) := by decide +kernel
theorem dX7_digest_243 : decode cX7_digest 243 = .ok (.ladd, 1) := by decide +kernel
theorem dX7_digest_244 : decode cX7_digest 244 = .ok (.lstore_n 1, 1) := by decide +kernel
theorem dX7_digest_245 : decode cX7_digest 245 = .ok (.ldc2_w 362, 3) := by decide +kernel
theorem dX7_digest_248 : decode cX7_digest 248 = .ok (.lload_n 1, 1) := by decide +kernel
theorem dX7_digest_249 : decode cX7_digest 249 = .ok (.lmul, 1) := by decide +kernel
theorem dX7_digest_250 : decode cX7_digest 250 = .ok (.aload_n 0, 1) := by decide +kernel
theorem dX7_digest_251 : decode cX7_digest 251 = .ok (.invokevirtual 275, 3) := by decide +kernel
theorem dX7_digest_254 : decode cX7_digest 254 = .ok (.i2l, 1) := by decide +kernel
theorem dX7_digest_255 : decode cX7_digest 255 = .ok (.ladd, 1) := by decide +kernel
theorem dX7_digest_256 : decode cX7_digest 256 = .ok (.lstore_n 1, 1) := by decide +kernel
theorem dX7_digest_257 : decode cX7_digest 257 = .ok (.ldc2_w 362, 3) := by decide +kernel
theorem dX7_digest_260 : decode cX7_digest 260 = .ok (.lload_n 1, 1) := by decide +kernel
theorem dX7_digest_261 : decode cX7_digest 261 = .ok (.lmul, 1) := by decide +kernel
theorem dX7_digest_262 : decode cX7_digest 262 = .ok (.aload_n 0, 1) := by decide +kernel
theorem dX7_digest_263 : decode cX7_digest 263 = .ok (.iconst 0, 1) := by decide +kernel
theorem dX7_digest_264 : decode cX7_digest 264 = .ok (.invokevirtual 299, 3) := by decide +kernel
theorem dX7_digest_267 : decode cX7_digest 267 = .ok (.i2l, 1) := by decide +kernel
theorem dX7_digest_268 : decode cX7_digest 268 = .ok (.ladd, 1) := by decide +kernel
theorem dX7_digest_269 : decode cX7_digest 269 = .ok (.lstore_n 1, 1) := by decide +kernel
theorem dX7_digest_270 : decode cX7_digest 270 = .ok (.ldc2_w 362, 3) := by decide +kernel
theorem dX7_digest_273 : decode cX7_digest 273 = .ok (.lload_n 1, 1) := by decide +kernel
theorem dX7_digest_274 : decode cX7_digest 274 = .ok (.lmul, 1) := by decide +kernel
theorem dX7_digest_275 : decode cX7_digest 275 = .ok (.aload_n 0, 1) := by decide +kernel
theorem dX7_digest_276 : decode cX7_digest 276 = .ok (.iconst 1, 1) := by decide +kernel
theorem dX7_digest_277 : decode cX7_digest 277 = .ok (.invokevirtual 299, 3) := by decide +kernel
theorem dX7_digest_280 : decode cX7_digest 280 = .ok (.i2l, 1) := by decide +kernel
theorem dX7_digest_281 : decode cX7_digest 281 = .ok (.ladd, 1) := by decide +kernel
theorem dX7_digest_282 : decode cX7_digest 282 = .ok (.lstore_n 1, 1) := by decide +kernel
theorem dX7_digest_283 : decode cX7_digest 283 = .ok (.ldc2_w 362, 3) := by decide +kernel
theorem dX7_digest_286 : decode cX7_digest 286 = .ok (.lload_n 1, 1) := by decide +kernel
theorem dX7_digest_287 : decode cX7_digest 287 = .ok (.lmul, 1) := by decide +kernel
theorem dX7_digest_288 : decode cX7_digest 288 = .ok (.aload_n 0, 1) := by decide +kernel
theorem dX7_digest_289 : decode cX7_digest 289 = .ok (.iconst 0, 1) := by decide +kernel
theorem dX7_digest_290 : decode cX7_digest 290 = .ok (.invokevirtual 302, 3) := by decide +kernel
theorem dX7_digest_293 : decode cX7_digest 293 = .ok (.i2l, 1) := by decide +kernel
theorem dX7_digest_294 : decode cX7_digest 294 = .ok (.ladd, 1) := by decide +kernel
theorem dX7_digest_295 : decode cX7_digest 295 = .ok (.lstore_n 1, 1) := by decide +kernel
theorem dX7_digest_296 : decode cX7_digest 296 = .ok (.ldc2_w 362, 3) := by decide +kernel
theorem dX7_digest_299 : decode cX7_digest 299 = .ok (.lload_n 1, 1) := by decide +kernel
theorem dX7_digest_300 : decode cX7_digest 300 = .ok (.lmul, 1) := by decide +kernel
theorem dX7_digest_301 : decode cX7_digest 301 = .ok (.aload_n 0, 1) := by decide +kernel
theorem dX7_digest_302 : decode cX7_digest 302 = .ok (.iconst 1, 1) := by decide +kernel
theorem dX7_digest_303 : decode cX7_digest 303 = .ok (.invokevirtual 302, 3) := by decide +kernel
theorem dX7_digest_306 : decode cX7_digest 306 = .ok (.i2l, 1) := by decide +kernel
theorem dX7_digest_307 : decode cX7_digest 307 = .ok (.ladd, 1) := by decide +kernel
theorem dX7_digest_308 : decode cX7_digest 308 = .ok (.lstore_n 1, 1) := by decide +kernel
theorem dX7_digest_309 : decode cX7_digest 309 = .ok (.aload_n 0, 1) := by decide +kernel
theorem dX7_digest_310 : decode cX7_digest 310 = .ok (.invokevirtual 308, 3) := by decide +kernel
theorem dX7_digest_313 : decode cX7_digest 313 = .ok (.istore_n 3, 1) := by decide +kernel
theorem dX7_digest_314 : decode cX7_digest 314 = .ok (.ldc2_w 362, 3) := by decide +kernel
theorem dX7_digest_317 : decode cX7_digest 317 = .ok (.lload_n 1, 1) := by decide +kernel
theorem dX7_digest_318 : decode cX7_digest 318 = .ok (.lmul, 1) := by decide +kernel
theorem dX7_digest_319 : decode cX7_digest 319 = .ok (.iload_n 3, 1) := by decide +kernel
theorem dX7_digest_320 : decode cX7_digest 320 = .ok (.i2l, 1) := by decide +kernel
theorem dX7_digest_321 : decode cX7_digest 321 = .ok (.ladd, 1) := by decide +kernel
theorem dX7_digest_322 : decode cX7_digest 322 = .ok (.lstore_n 1, 1) := by decide +kernel
theorem dX7_digest_323 : decode cX7_digest 323 = .ok (.ldc2_w 362, 3) := by decide +kernel
theorem dX7_digest_326 : decode cX7_digest 326 = .ok (.lload_n 1, 1) := by decide +kernel
theorem dX7_digest_327 : decode cX7_digest 327 = .ok (.lmul, 1) := by decide +kernel
theorem dX7_digest_328 : decode cX7_digest 328 = .ok (.aload_n 0, 1) := by decide +kernel
theorem dX7_digest_329 : decode cX7_digest 329 = .ok (.iload_n 3, 1) := by decide +kernel
theorem dX7_digest_330 : decode cX7_digest 330 = .ok (.iconst 0, 1) := by decide +kernel
theorem dX7_digest_331 : decode cX7_digest 331 = .ok (.invokevirtual 311, 3) := by decide +kernel
theorem dX7_digest_334 : decode cX7_digest 334 = .ok (.i2l, 1) := by decide +kernel
theorem dX7_digest_335 : decode cX7_digest 335 = .ok (.ladd, 1) := by decide +kernel
theorem dX7_digest_336 : decode cX7_digest 336 = .ok (.lstore_n 1, 1) := by decide +kernel
theorem dX7_digest_337 : decode cX7_digest 337 = .ok (.ldc2_w 362, 3) := by decide +kernel
theorem dX7_digest_340 : decode cX7_digest 340 = .ok (.lload_n 1, 1) := by decide +kernel
theorem dX7_digest_341 : decode cX7_digest 341 = .ok (.lmul, 1) := by decide +kernel
theorem dX7_digest_342 : decode cX7_digest 342 = .ok (.aload_n 0, 1) := by decide +kernel
theorem dX7_digest_343 : decode cX7_digest 343 = .ok (.invokevirtual 321, 3) := by decide +kernel
theorem dX7_digest_346 : decode cX7_digest 346 = .ok (.i2l, 1) := by decide +kernel
theorem dX7_digest_347 : decode cX7_digest 347 = .ok (.ladd, 1) := by decide +kernel
theorem dX7_digest_348 : decode cX7_digest 348 = .ok (.lstore_n 1, 1) := by decide +kernel
theorem dX7_digest_349 : decode cX7_digest 349 = .ok (.ldc2_w 362, 3) := by decide +kernel
theorem dX7_digest_352 : decode cX7_digest 352 = .ok (.lload_n 1, 1) := by decide +kernel
theorem dX7_digest_353 : decode cX7_digest 353 = .ok (.lmul, 1) := by decide +kernel
theorem dX7_digest_354 : decode cX7_digest 354 = .ok (.aload_n 0, 1) := by decide +kernel
theorem dX7_digest_355 : decode cX7_digest 355 = .ok (.bipush 7, 2) := by decide +kernel
theorem dX7_digest_357 : decode cX7_digest 357 = .ok (.bipush 9, 2) := by decide +kernel
theorem dX7_digest_359 : decode cX7_digest 359 = .ok (.iconst 0, 1) := by decide +kernel
theorem dX7_digest_360 : decode cX7_digest 360 = .ok (.invokevirtual 346, 3) := by decide +kernel
theorem dX7_digest_363 : decode cX7_digest 363 = .ok (.i2l, 1) := by decide +kernel
theorem dX7_digest_364 : decode cX7_digest 364 = .ok (.ladd, 1) := by decide +kernel
theorem dX7_digest_365 : decode cX7_digest 365 = .ok (.lstore_n 1, 1) := by decide +kernel
theorem dX7_digest_366 : decode cX7_digest 366 = .ok (.ldc2_w 362, 3) := by decide +kernel
theorem dX7_digest_369 : decode cX7_digest 369 = .ok (.lload_n 1, 1) := by decide +kernel
theorem dX7_digest_370 : decode cX7_digest 370 = .ok (.lmul, 1) := by decide +kernel
theorem dX7_digest_371 : decode cX7_digest 371 = .ok (.aload_n 0, 1) := by decide +kernel
theorem dX7_digest_372 : decode cX7_digest 372 = .ok (.bipush 7, 2) := by decide +kernel
theorem dX7_digest_374 : decode cX7_digest 374 = .ok (.bipush 9, 2) := by decide +kernel
theorem dX7_digest_376 : decode cX7_digest 376 = .ok (.iconst 1, 1) := by decide +kernel
theorem dX7_digest_377 : decode cX7_digest 377 = .ok (.invokevirtual 346, 3) := by decide +kernel
theorem dX7_digest_380 : decode cX7_digest 380 = .ok (.i2l, 1) := by decide +kernel
theorem dX7_digest_381 : decode cX7_digest 381 = .ok (.ladd, 1) := by decide +kernel
theorem dX7_digest_382 : decode cX7_digest 382 = .ok (.lreturn, 1) := by decide +kernel
