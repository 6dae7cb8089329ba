theorem dX0_init_0 : decode cX0_init 0 = .ok (.aload_n 0, 1) := by decide +kernel
theorem dX0_init_1 : decode cX0_init 1 = .ok (.invokespecial 3, 3) := by decide +kernel
theorem dX0_init_4 : decode cX0_init 4 = .ok (.aload_n 0, 1) := by decide +kernel
theorem dX0_init_5 : decode cX0_init 5 = .ok (.bipush 12, 2) := by decide +kernel
theorem dX0_init_7 : decode cX0_init 7 = .ok (.newarray .boolean, 2) := by decide +kernel
theorem dX0_init_9 : decode cX0_init 9 = .ok (.putfield 9, 3) := by decide +kernel
theorem dX0_init_12 : decode cX0_init 12 = .ok (.aload_n 0, 1) := by decide +kernel
theorem dX0_init_13 : decode cX0_init 13 = .ok (.bipush 12, 2) := by decide +kernel
theorem dX0_init_15 : decode cX0_init 15 = .ok (.newarray .int, 2) := by decide +kernel
theorem dX0_init_17 : decode cX0_init 17 = .ok (.putfield 15, 3) := by decide +kernel
theorem dX0_init_20 : decode cX0_init 20 = .ok (.aload_n 0, 1) := by decide +kernel
theorem dX0_init_21 : decode cX0_init 21 = .ok (.iconst 0, 1) := by decide +kernel
theorem dX0_init_22 : decode cX0_init 22 = .ok (.putfield 19, 3) := by decide +kernel
theorem dX0_init_25 : decode cX0_init 25 = .ok (.aload_n 0, 1) := by decide +kernel
theorem dX0_init_26 : decode cX0_init 26 = .ok (.bipush 8, 2) := by decide +kernel
theorem dX0_init_28 : decode cX0_init 28 = .ok (.newarray .int, 2) := by decide +kernel
theorem dX0_init_30 : decode cX0_init 30 = .ok (.putfield 23, 3) := by decide +kernel
theorem dX0_init_33 : decode cX0_init 33 = .ok (.aload_n 0, 1) := by decide +kernel
theorem dX0_init_34 : decode cX0_init 34 = .ok (.bipush 8, 2) := by decide +kernel
theorem dX0_init_36 : decode cX0_init 36 = .ok (.newarray .int, 2) := by decide +kernel
theorem dX0_init_38 : decode cX0_init 38 = .ok (.putfield 26, 3) := by decide +kernel
theorem dX0_init_41 : decode cX0_init 41 = .ok (.aload_n 0, 1) := by decide +kernel
theorem dX0_init_42 : decode cX0_init 42 = .ok (.aload_n 1, 1) := by decide +kernel
theorem dX0_init_43 : decode cX0_init 43 = .ok (.putfield 29, 3) := by decide +kernel
theorem dX0_init_46 : decode cX0_init 46 = .ok (.aload_n 0, 1) := by decide +kernel
theorem dX0_init_47 : decode cX0_init 47 = .ok (.aload_n 2, 1) := by decide +kernel
theorem dX0_init_48 : decode cX0_init 48 = .ok (.putfield 33, 3) := by decide +kernel
theorem dX0_init_51 : decode cX0_init 51 = .ok (.return_, 1) := by decide +kernel
theorem dX0_hear_0 : decode cX0_hear 0 = .ok (.aload_n 0, 1) := by decide +kernel
theorem dX0_hear_1 : decode cX0_hear 1 = .ok (.aload_n 1, 1) := by decide +kernel
theorem dX0_hear_2 : decode cX0_hear 2 = .ok (.putfield 29, 3) := by decide +kernel
theorem dX0_hear_5 : decode cX0_hear 5 = .ok (.aload_n 0, 1) := by decide +kernel
theorem dX0_hear_6 : decode cX0_hear 6 = .ok (.iconst 0, 1) := by decide +kernel
theorem dX0_hear_7 : decode cX0_hear 7 = .ok (.putfield 19, 3) := by decide +kernel
theorem dX0_hear_10 : decode cX0_hear 10 = .ok (.iconst 0, 1) := by decide +kernel
theorem dX0_hear_11 : decode cX0_hear 11 = .ok (.istore_n 3, 1) := by decide +kernel
theorem dX0_hear_12 : decode cX0_hear 12 = .ok (.iload_n 3, 1) := by decide +kernel
theorem dX0_hear_13 : decode cX0_hear 13 = .ok (.aload_n 0, 1) := by decide +kernel
theorem dX0_hear_14 : decode cX0_hear 14 = .ok (.getfield 33, 3) := by decide +kernel
theorem dX0_hear_17 : decode cX0_hear 17 = .ok (.getfield 37, 3) := by decide +kernel
theorem dX0_hear_20 : decode cX0_hear 20 = .ok (.if_icmp .ge 37, 3) := by decide +kernel
theorem dX0_hear_23 : decode cX0_hear 23 = .ok (.aload_n 0, 1) := by decide +kernel
theorem dX0_hear_24 : decode cX0_hear 24 = .ok (.getfield 26, 3) := by decide +kernel
theorem dX0_hear_27 : decode cX0_hear 27 = .ok (.iload_n 3, 1) := by decide +kernel
theorem dX0_hear_28 : decode cX0_hear 28 = .ok (.iload_n 2, 1) := by decide +kernel
theorem dX0_hear_29 : decode cX0_hear 29 = .ok (.iload_n 3, 1) := by decide +kernel
theorem dX0_hear_30 : decode cX0_hear 30 = .ok (.ishr, 1) := by decide +kernel
theorem dX0_hear_31 : decode cX0_hear 31 = .ok (.iconst 1, 1) := by decide +kernel
theorem dX0_hear_32 : decode cX0_hear 32 = .ok (.iand, 1) := by decide +kernel
theorem dX0_hear_33 : decode cX0_hear 33 = .ok (.iconst 1, 1) := by decide +kernel
theorem dX0_hear_34 : decode cX0_hear 34 = .ok (.if_icmp .ne 15, 3) := by decide +kernel
theorem dX0_hear_37 : decode cX0_hear 37 = .ok (.aload_n 0, 1) := by decide +kernel
theorem dX0_hear_38 : decode cX0_hear 38 = .ok (.getfield 33, 3) := by decide +kernel
theorem dX0_hear_41 : decode cX0_hear 41 = .ok (.getfield 42, 3) := by decide +kernel
theorem dX0_hear_44 : decode cX0_hear 44 = .ok (.iload_n 3, 1) := by decide +kernel
theorem dX0_hear_45 : decode cX0_hear 45 = .ok (.iaload, 1) := by decide +kernel
theorem dX0_hear_46 : decode cX0_hear 46 = .ok (.goto 4, 3) := by decide +kernel
theorem dX0_hear_49 : decode cX0_hear 49 = .ok (.iconst (-1), 1) := by decide +kernel
theorem dX0_hear_50 : decode cX0_hear 50 = .ok (.iastore, 1) := by decide +kernel
theorem dX0_hear_51 : decode cX0_hear 51 = .ok (.iinc 3 1, 3) := by decide +kernel
theorem dX0_hear_54 : decode cX0_hear 54 = .ok (.goto (-42), 3) := by decide +kernel
theorem dX0_hear_57 : decode cX0_hear 57 = .ok (.iconst 0, 1) := by decide +kernel
theorem dX0_hear_58 : decode cX0_hear 58 = .ok (.istore_n 3, 1) := by decide +kernel
theorem dX0_hear_59 : decode cX0_hear 59 = .ok (.iload_n 3, 1) := by decide +kernel
theorem dX0_hear_60 : decode cX0_hear 60 = .ok (.aload_n 0, 1) := by decide +kernel
theorem dX0_hear_61 : decode cX0_hear 61 = .ok (.getfield 29, 3) := by decide +kernel
theorem dX0_hear_64 : decode cX0_hear 64 = .ok (.getfield 43, 3) := by decide +kernel
theorem dX0_hear_67 : decode cX0_hear 67 = .ok (.if_icmp .ge 60, 3) := by decide +kernel
theorem dX0_hear_70 : decode cX0_hear 70 = .ok (.aload_n 0, 1) := by decide +kernel
theorem dX0_hear_71 : decode cX0_hear 71 = .ok (.getfield 9, 3) := by decide +kernel
theorem dX0_hear_74 : decode cX0_hear 74 = .ok (.iload_n 3, 1) := by decide +kernel
theorem dX0_hear_75 : decode cX0_hear 75 = .ok (.aload_n 0, 1) := by decide +kernel
theorem dX0_hear_76 : decode cX0_hear 76 = .ok (.iload_n 3, 1) := by decide +kernel
theorem dX0_hear_77 : decode cX0_hear 77 = .ok (.invokevirtual 46, 3) := by decide +kernel
theorem dX0_hear_80 : decode cX0_hear 80 = .ok (.ifCond .ne 16, 3) := by decide +kernel
theorem dX0_hear_83 : decode cX0_hear 83 = .ok (.aload_n 0, 1) := by decide +kernel
theorem dX0_hear_84 : decode cX0_hear 84 = .ok (.iload_n 3, 1) := by decide +kernel
theorem dX0_hear_85 : decode cX0_hear 85 = .ok (.invokevirtual 50, 3) := by decide +kernel
theorem dX0_hear_88 : decode cX0_hear 88 = .ok (.iconst (-1), 1) := by decide +kernel
theorem dX0_hear_89 : decode cX0_hear 89 = .ok (.if_icmp .ne 7, 3) := by decide +kernel
theorem dX0_hear_92 : decode cX0_hear 92 = .ok (.iconst 1, 1) := by decide +kernel
theorem dX0_hear_93 : decode cX0_hear 93 = .ok (.goto 4, 3) := by decide +kernel
theorem dX0_hear_96 : decode cX0_hear 96 = .ok (.iconst 0, 1) := by decide +kernel
theorem dX0_hear_97 : decode cX0_hear 97 = .ok (.bastore, 1) := by decide +kernel
theorem dX0_hear_98 : decode cX0_hear 98 = .ok (.aload_n 0, 1) := by decide +kernel
theorem dX0_hear_99 : decode cX0_hear 99 = .ok (.dup, 1) := by decide +kernel
theorem dX0_hear_100 : decode cX0_hear 100 = .ok (.getfield 19, 3) := by decide +kernel
theorem dX0_hear_103 : decode cX0_hear 103 = .ok (.aload_n 0, 1) := by decide +kernel
theorem dX0_hear_104 : decode cX0_hear 104 = .ok (.getfield 9, 3) := by decide +kernel
theorem dX0_hear_107 : decode cX0_hear 107 = .ok (.iload_n 3, 1) := by decide +kernel
theorem dX0_hear_108 : decode cX0_hear 108 = .ok (.baload, 1) := by decide +kernel
theorem dX0_hear_109 : decode cX0_hear 109 = .ok (.ifCond .eq 7, 3) := by decide +kernel
theorem dX0_hear_112 : decode cX0_hear 112 = .ok (.iconst 1, 1) := by decide +kernel
theorem dX0_hear_113 : decode cX0_hear 113 = .ok (.goto 4, 3) := by decide +kernel
theorem dX0_hear_116 : decode cX0_hear 116 = .ok (.iconst 0, 1) := by decide +kernel
theorem dX0_hear_117 : decode cX0_hear 117 = .ok (.iadd, 1) := by decide +kernel
theorem dX0_hear_118 : decode cX0_hear 118 = .ok (.putfield 19, 3) := by decide +kernel
theorem dX0_hear_121 : decode cX0_hear 121 = .ok (.iinc 3 1, 3) := by decide +kernel
theorem dX0_hear_124 : decode cX0_hear 124 = .ok (.goto (-65), 3) := by decide +kernel
theorem dX0_hear_127 : decode cX0_hear 127 = .ok (.aload_n 0, 1) := by decide +kernel
theorem dX0_hear_128 : decode cX0_hear 128 = .ok (.getfield 23, 3) := by decide +kernel
theorem dX0_hear_131 : decode cX0_hear 131 = .ok (.iconst (-1), 1) := by decide +kernel
theorem dX0_hear_132 : decode cX0_hear 132 = .ok (.invokestatic 54, 3) := by decide +kernel
theorem dX0_hear_135 : decode cX0_hear 135 = .ok (.iconst 0, 1) := by decide +kernel
theorem dX0_hear_136 : decode cX0_hear 136 = .ok (.istore_n 3, 1) := by decide +kernel
theorem dX0_hear_137 : decode cX0_hear 137 = .ok (.iload_n 3, 1) := by decide +kernel
theorem dX0_hear_138 : decode cX0_hear 138 = .ok (.aload_n 0, 1) := by decide +kernel
theorem dX0_hear_139 : decode cX0_hear 139 = .ok (.getfield 29, 3) := by decide +kernel
theorem dX0_hear_142 : decode cX0_hear 142 = .ok (.getfield 43, 3) := by decide +kernel
theorem dX0_hear_145 : decode cX0_hear 145 = .ok (.if_icmp .ge 99, 3) := by decide +kernel
theorem dX0_hear_148 : decode cX0_hear 148 = .ok (.aload_n 0, 1) := by decide +kernel
theorem dX0_hear_149 : decode cX0_hear 149 = .ok (.getfield 15, 3) := by decide +kernel
theorem dX0_hear_152 : decode cX0_hear 152 = .ok (.iload_n 3, 1) := by decide +kernel
theorem dX0_hear_153 : decode cX0_hear 153 = .ok (.aload_n 0, 1) := by decide +kernel
theorem dX0_hear_154 : decode cX0_hear 154 = .ok (.getfield 9, 3) := by decide +kernel
theorem dX0_hear_157 : decode cX0_hear 157 = .ok (.iload_n 3, 1) := by decide +kernel
theorem dX0_hear_158 : decode cX0_hear 158 = .ok (.baload, 1) := by decide +kernel
theorem dX0_hear_159 : decode cX0_hear 159 = .ok (.ifCond .eq 11, 3) := by decide +kernel
theorem dX0_hear_162 : decode cX0_hear 162 = .ok (.aload_n 0, 1) := by decide +kernel
theorem dX0_hear_163 : decode cX0_hear 163 = .ok (.iload_n 3, 1) := by decide +kernel
theorem dX0_hear_164 : decode cX0_hear 164 = .ok (.invokevirtual 60, 3) := by decide +kernel
theorem dX0_hear_167 : decode cX0_hear 167 = .ok (.goto 4, 3) := by decide +kernel
theorem dX0_hear_170 : decode cX0_hear 170 = .ok (.iconst 0, 1) := by decide +kernel
theorem dX0_hear_171 : decode cX0_hear 171 = .ok (.iastore, 1) := by decide +kernel
theorem dX0_hear_172 : decode cX0_hear 172 = .ok (.aload_n 0, 1) := by decide +kernel
theorem dX0_hear_173 : decode cX0_hear 173 = .ok (.getfield 29, 3) := by decide +kernel
theorem dX0_hear_176 : decode cX0_hear 176 = .ok (.getfield 63, 3) := by decide +kernel
theorem dX0_hear_179 : decode cX0_hear 179 = .ok (.iload_n 3, 1) := by decide +kernel
theorem dX0_hear_180 : decode cX0_hear 180 = .ok (.iaload, 1) := by decide +kernel
theorem dX0_hear_181 : decode cX0_hear 181 = .ok (.istore 4, 2) := by decide +kernel
theorem dX0_hear_183 : decode cX0_hear 183 = .ok (.aload_n 0, 1) := by decide +kernel
theorem dX0_hear_184 : decode cX0_hear 184 = .ok (.getfield 9, 3) := by decide +kernel
theorem dX0_hear_187 : decode cX0_hear 187 = .ok (.iload_n 3, 1) := by decide +kernel
theorem dX0_hear_188 : decode cX0_hear 188 = .ok (.baload, 1) := by decide +kernel
theorem dX0_hear_189 : decode cX0_hear 189 = .ok (.ifCond .eq 49, 3) := by decide +kernel
theorem dX0_hear_192 : decode cX0_hear 192 = .ok (.aload_n 0, 1) := by decide +kernel
theorem dX0_hear_193 : decode cX0_hear 193 = .ok (.getfield 23, 3) := by decide +kernel
theorem dX0_hear_196 : decode cX0_hear 196 = .ok (.iload 4, 2) := by decide +kernel
theorem dX0_hear_198 : decode cX0_hear 198 = .ok (.iaload, 1) := by decide +kernel
theorem dX0_hear_199 : decode cX0_hear 199 = .ok (.iconst (-1), 1) := by decide +kernel
theorem dX0_hear_200 : decode cX0_hear 200 = .ok (.if_icmp .eq 22, 3) := by decide +kernel
theorem dX0_hear_203 : decode cX0_hear 203 = .ok (.aload_n 0, 1) := by decide +kernel
theorem dX0_hear_204 : decode cX0_hear 204 = .ok (.getfield 29, 3) := by decide +kernel
theorem dX0_hear_207 : decode cX0_hear 207 = .ok (.getfield 66, 3) := by decide +kernel
theorem dX0_hear_210 : decode cX0_hear 210 = .ok (.iload_n 3, 1) := by decide +kernel
theorem dX0_hear_211 : decode cX0_hear 211 = .ok (.iaload, 1) := by decide +kernel
theorem dX0_hear_212 : decode cX0_hear 212 = .ok (.aload_n 0, 1) := by decide +kernel
theorem dX0_hear_213 : decode cX0_hear 213 = .ok (.getfield 23, 3) := by decide +kernel
theorem dX0_hear_216 : decode cX0_hear 216 = .ok (.iload 4, 2) := by decide +kernel
theorem dX0_hear_218 : decode cX0_hear 218 = .ok (.iaload, 1) := by decide +kernel
theorem dX0_hear_219 : decode cX0_hear 219 = .ok (.if_icmp .ge 19, 3) := by decide +kernel
theorem dX0_hear_222 : decode cX0_hear 222 = .ok (.aload_n 0, 1) := by decide +kernel
theorem dX0_hear_223 : decode cX0_hear 223 = .ok (.getfield 23, 3) := by decide +kernel
theorem dX0_hear_226 : decode cX0_hear 226 = .ok (.iload 4, 2) := by decide +kernel
theorem dX0_hear_228 : decode cX0_hear 228 = .ok (.aload_n 0, 1) := by decide +kernel
theorem dX0_hear_229 : decode cX0_hear 229 = .ok (.getfield 29, 3) := by decide +kernel
theorem dX0_hear_232 : decode cX0_hear 232 = .ok (.getfield 66, 3) := by decide +kernel
theorem dX0_hear_235 : decode cX0_hear 235 = .ok (.iload_n 3, 1) := by decide +kernel
theorem dX0_hear_236 : decode cX0_hear 236 = .ok (.iaload, 1) := by decide +kernel
theorem dX0_hear_237 : decode cX0_hear 237 = .ok (.iastore, 1) := by decide +kernel
theorem dX0_hear_238 : decode cX0_hear 238 = .ok (.iinc 3 1, 3) := by decide +kernel
theorem dX0_hear_241 : decode cX0_hear 241 = .ok (.goto (-104), 3) := by decide +kernel
theorem dX0_hear_244 : decode cX0_hear 244 = .ok (.return_, 1) := by decide +kernel
theorem dX0_spoiled_0 : decode cX0_spoiled 0 = .ok (.iconst 0, 1) := by decide +kernel
theorem dX0_spoiled_1 : decode cX0_spoiled 1 = .ok (.istore_n 2, 1) := by decide +kernel
theorem dX0_spoiled_2 : decode cX0_spoiled 2 = .ok (.iload_n 2, 1) := by decide +kernel
theorem dX0_spoiled_3 : decode cX0_spoiled 3 = .ok (.aload_n 0, 1) := by decide +kernel
theorem dX0_spoiled_4 : decode cX0_spoiled 4 = .ok (.getfield 33, 3) := by decide +kernel
theorem dX0_spoiled_7 : decode cX0_spoiled 7 = .ok (.getfield 37, 3) := by decide +kernel
theorem dX0_spoiled_10 : decode cX0_spoiled 10 = .ok (.if_icmp .ge 102, 3) := by decide +kernel
theorem dX0_spoiled_13 : decode cX0_spoiled 13 = .ok (.aload_n 0, 1) := by decide +kernel
theorem dX0_spoiled_14 : decode cX0_spoiled 14 = .ok (.getfield 29, 3) := by decide +kernel
theorem dX0_spoiled_17 : decode cX0_spoiled 17 = .ok (.getfield 66, 3) := by decide +kernel
theorem dX0_spoiled_20 : decode cX0_spoiled 20 = .ok (.iload_n 1, 1) := by decide +kernel
theorem dX0_spoiled_21 : decode cX0_spoiled 21 = .ok (.iaload, 1) := by decide +kernel
theorem dX0_spoiled_22 : decode cX0_spoiled 22 = .ok (.aload_n 0, 1) := by decide +kernel
theorem dX0_spoiled_23 : decode cX0_spoiled 23 = .ok (.getfield 33, 3) := by decide +kernel
theorem dX0_spoiled_26 : decode cX0_spoiled 26 = .ok (.getfield 69, 3) := by decide +kernel
theorem dX0_spoiled_29 : decode cX0_spoiled 29 = .ok (.iload_n 2, 1) := by decide +kernel
theorem dX0_spoiled_30 : decode cX0_spoiled 30 = .ok (.iaload, 1) := by decide +kernel
theorem dX0_spoiled_31 : decode cX0_spoiled 31 = .ok (.isub, 1) := by decide +kernel
theorem dX0_spoiled_32 : decode cX0_spoiled 32 = .ok (.istore_n 3, 1) := by decide +kernel
theorem dX0_spoiled_33 : decode cX0_spoiled 33 = .ok (.aload_n 0, 1) := by decide +kernel
theorem dX0_spoiled_34 : decode cX0_spoiled 34 = .ok (.getfield 26, 3) := by decide +kernel
theorem dX0_spoiled_37 : decode cX0_spoiled 37 = .ok (.iload_n 2, 1) := by decide +kernel
theorem dX0_spoiled_38 : decode cX0_spoiled 38 = .ok (.iaload, 1) := by decide +kernel
theorem dX0_spoiled_39 : decode cX0_spoiled 39 = .ok (.ifCond .ne 30, 3) := by decide +kernel
theorem dX0_spoiled_42 : decode cX0_spoiled 42 = .ok (.aload_n 0, 1) := by decide +kernel
theorem dX0_spoiled_43 : decode cX0_spoiled 43 = .ok (.getfield 33, 3) := by decide +kernel
theorem dX0_spoiled_46 : decode cX0_spoiled 46 = .ok (.getfield 70, 3) := by decide +kernel
theorem dX0_spoiled_49 : decode cX0_spoiled 49 = .ok (.iload_n 2, 1) := by decide +kernel
theorem dX0_spoiled_50 : decode cX0_spoiled 50 = .ok (.iaload, 1) := by decide +kernel
theorem dX0_spoiled_51 : decode cX0_spoiled 51 = .ok (.aload_n 0, 1) := by decide +kernel
theorem dX0_spoiled_52 : decode cX0_spoiled 52 = .ok (.getfield 29, 3) := by decide +kernel
theorem dX0_spoiled_55 : decode cX0_spoiled 55 = .ok (.getfield 73, 3) := by decide +kernel
theorem dX0_spoiled_58 : decode cX0_spoiled 58 = .ok (.iload_n 1, 1) := by decide +kernel
theorem dX0_spoiled_59 : decode cX0_spoiled 59 = .ok (.iaload, 1) := by decide +kernel
theorem dX0_spoiled_60 : decode cX0_spoiled 60 = .ok (.if_icmp .ne 9, 3) := by decide +kernel
theorem dX0_spoiled_63 : decode cX0_spoiled 63 = .ok (.iload_n 3, 1) := by decide +kernel
theorem dX0_spoiled_64 : decode cX0_spoiled 64 = .ok (.ifCond .lt 5, 3) := by decide +kernel
theorem dX0_spoiled_67 : decode cX0_spoiled 67 = .ok (.iconst 1, 1) := by decide +kernel
theorem dX0_spoiled_68 : decode cX0_spoiled 68 = .ok (.ireturn, 1) := by decide +kernel
theorem dX0_spoiled_69 : decode cX0_spoiled 69 = .ok (.aload_n 0, 1) := by decide +kernel
theorem dX0_spoiled_70 : decode cX0_spoiled 70 = .ok (.getfield 26, 3) := by decide +kernel
theorem dX0_spoiled_73 : decode cX0_spoiled 73 = .ok (.iload_n 2, 1) := by decide +kernel
theorem dX0_spoiled_74 : decode cX0_spoiled 74 = .ok (.iaload, 1) := by decide +kernel
theorem dX0_spoiled_75 : decode cX0_spoiled 75 = .ok (.iconst 1, 1) := by decide +kernel
theorem dX0_spoiled_76 : decode cX0_spoiled 76 = .ok (.if_icmp .ne 30, 3) := by decide +kernel
theorem dX0_spoiled_79 : decode cX0_spoiled 79 = .ok (.aload_n 0, 1) := by decide +kernel
theorem dX0_spoiled_80 : decode cX0_spoiled 80 = .ok (.getfield 33, 3) := by decide +kernel
theorem dX0_spoiled_83 : decode cX0_spoiled 83 = .ok (.getfield 70, 3) := by decide +kernel
theorem dX0_spoiled_86 : decode cX0_spoiled 86 = .ok (.iload_n 2, 1) := by decide +kernel
theorem dX0_spoiled_87 : decode cX0_spoiled 87 = .ok (.iaload, 1) := by decide +kernel
theorem dX0_spoiled_88 : decode cX0_spoiled 88 = .ok (.aload_n 0, 1) := by decide +kernel
theorem dX0_spoiled_89 : decode cX0_spoiled 89 = .ok (.getfield 29, 3) := by decide +kernel
theorem dX0_spoiled_92 : decode cX0_spoiled 92 = .ok (.getfield 63, 3) := by decide +kernel
theorem dX0_spoiled_95 : decode cX0_spoiled 95 = .ok (.iload_n 1, 1) := by decide +kernel
theorem dX0_spoiled_96 : decode cX0_spoiled 96 = .ok (.iaload, 1) := by decide +kernel
theorem dX0_spoiled_97 : decode cX0_spoiled 97 = .ok (.if_icmp .ne 9, 3) := by decide +kernel
theorem dX0_spoiled_100 : decode cX0_spoiled 100 = .ok (.iload_n 3, 1) := by decide +kernel
theorem dX0_spoiled_101 : decode cX0_spoiled 101 = .ok (.ifCond .ne 5, 3) := by decide +kernel
theorem dX0_spoiled_104 : decode cX0_spoiled 104 = .ok (.iconst 1, 1) := by decide +kernel
theorem dX0_spoiled_105 : decode cX0_spoiled 105 = .ok (.ireturn, 1) := by decide +kernel
theorem dX0_spoiled_106 : decode cX0_spoiled 106 = .ok (.iinc 2 1, 3) := by decide +kernel
theorem dX0_spoiled_109 : decode cX0_spoiled 109 = .ok (.goto (-107), 3) := by decide +kernel
theorem dX0_spoiled_112 : decode cX0_spoiled 112 = .ok (.iconst 0, 1) := by decide +kernel
theorem dX0_spoiled_113 : decode cX0_spoiled 113 = .ok (.ireturn, 1) := by decide +kernel
theorem dX0_firstAgainst_0 : decode cX0_firstAgainst 0 = .ok (.iconst 0, 1) := by decide +kernel
theorem dX0_firstAgainst_1 : decode cX0_firstAgainst 1 = .ok (.istore_n 2, 1) := by decide +kernel
theorem dX0_firstAgainst_2 : decode cX0_firstAgainst 2 = .ok (.iload_n 2, 1) := by decide +kernel
theorem dX0_firstAgainst_3 : decode cX0_firstAgainst 3 = .ok (.iload_n 1, 1) := by decide +kernel
theorem dX0_firstAgainst_4 : decode cX0_firstAgainst 4 = .ok (.if_icmp .ge 32, 3) := by decide +kernel
theorem dX0_firstAgainst_7 : decode cX0_firstAgainst 7 = .ok (.aload_n 0, 1) := by decide +kernel
theorem dX0_firstAgainst_8 : decode cX0_firstAgainst 8 = .ok (.getfield 9, 3) := by decide +kernel
theorem dX0_firstAgainst_11 : decode cX0_firstAgainst 11 = .ok (.iload_n 2, 1) := by decide +kernel
theorem dX0_firstAgainst_12 : decode cX0_firstAgainst 12 = .ok (.baload, 1) := by decide +kernel
theorem dX0_firstAgainst_13 : decode cX0_firstAgainst 13 = .ok (.ifCond .eq 17, 3) := by decide +kernel
theorem dX0_firstAgainst_16 : decode cX0_firstAgainst 16 = .ok (.aload_n 0, 1) := by decide +kernel
theorem dX0_firstAgainst_17 : decode cX0_firstAgainst 17 = .ok (.getfield 29, 3) := by decide +kernel
theorem dX0_firstAgainst_20 : decode cX0_firstAgainst 20 = .ok (.iload_n 2, 1) := by decide +kernel
theorem dX0_firstAgainst_21 : decode cX0_firstAgainst 21 = .ok (.iload_n 1, 1) := by decide +kernel
theorem dX0_firstAgainst_22 : decode cX0_firstAgainst 22 = .ok (.invokevirtual 76, 3) := by decide +kernel
theorem dX0_firstAgainst_25 : decode cX0_firstAgainst 25 = .ok (.ifCond .eq 5, 3) := by decide +kernel
theorem dX0_firstAgainst_28 : decode cX0_firstAgainst 28 = .ok (.iload_n 2, 1) := by decide +kernel
theorem dX0_firstAgainst_29 : decode cX0_firstAgainst 29 = .ok (.ireturn, 1) := by decide +kernel
theorem dX0_firstAgainst_30 : decode cX0_firstAgainst 30 = .ok (.iinc 2 1, 3) := by decide +kernel
theorem dX0_firstAgainst_33 : decode cX0_firstAgainst 33 = .ok (.goto (-31), 3) := by decide +kernel
theorem dX0_firstAgainst_36 : decode cX0_firstAgainst 36 = .ok (.iconst (-1), 1) := by decide +kernel
theorem dX0_firstAgainst_37 : decode cX0_firstAgainst 37 = .ok (.ireturn, 1) := by decide +kernel
theorem dX0_weigh_0 : decode cX0_weigh 0 = .ok (.aload_n 0, 1) := by decide +kernel
theorem dX0_weigh_1 : decode cX0_weigh 1 = .ok (.getfield 29, 3) := by decide +kernel
theorem dX0_weigh_4 : decode cX0_weigh 4 = .ok (.getfield 80, 3) := by decide +kernel
theorem dX0_weigh_7 : decode cX0_weigh 7 = .ok (.iload_n 1, 1) := by decide +kernel
theorem dX0_weigh_8 : decode cX0_weigh 8 = .ok (.iaload, 1) := by decide +kernel
theorem dX0_weigh_9 : decode cX0_weigh 9 = .ok (.lookupswitch 41 #[(0, 27), (1, 29)], 27) := by decide +kernel
theorem dX0_weigh_36 : decode cX0_weigh 36 = .ok (.iconst 3, 1) := by decide +kernel
theorem dX0_weigh_37 : decode cX0_weigh 37 = .ok (.ireturn, 1) := by decide +kernel
theorem dX0_weigh_38 : decode cX0_weigh 38 = .ok (.iconst 3, 1) := by decide +kernel
theorem dX0_weigh_39 : decode cX0_weigh 39 = .ok (.iconst 1, 1) := by decide +kernel
theorem dX0_weigh_40 : decode cX0_weigh 40 = .ok (.aload_n 0, 1) := by decide +kernel
theorem dX0_weigh_41 : decode cX0_weigh 41 = .ok (.iload_n 1, 1) := by decide +kernel
theorem dX0_weigh_42 : decode cX0_weigh 42 = .ok (.invokevirtual 83, 3) := by decide +kernel
theorem dX0_weigh_45 : decode cX0_weigh 45 = .ok (.iadd, 1) := by decide +kernel
theorem dX0_weigh_46 : decode cX0_weigh 46 = .ok (.invokestatic 86, 3) := by decide +kernel
theorem dX0_weigh_49 : decode cX0_weigh 49 = .ok (.ireturn, 1) := by decide +kernel
theorem dX0_weigh_50 : decode cX0_weigh 50 = .ok (.aload_n 0, 1) := by decide +kernel
theorem dX0_weigh_51 : decode cX0_weigh 51 = .ok (.aload_n 0, 1) := by decide +kernel
theorem dX0_weigh_52 : decode cX0_weigh 52 = .ok (.getfield 29, 3) := by decide +kernel
theorem dX0_weigh_55 : decode cX0_weigh 55 = .ok (.getfield 73, 3) := by decide +kernel
theorem dX0_weigh_58 : decode cX0_weigh 58 = .ok (.iload_n 1, 1) := by decide +kernel
theorem dX0_weigh_59 : decode cX0_weigh 59 = .ok (.iaload, 1) := by decide +kernel
theorem dX0_weigh_60 : decode cX0_weigh 60 = .ok (.invokevirtual 92, 3) := by decide +kernel
theorem dX0_weigh_63 : decode cX0_weigh 63 = .ok (.ifCond .le 7, 3) := by decide +kernel
theorem dX0_weigh_66 : decode cX0_weigh 66 = .ok (.iconst 0, 1) := by decide +kernel
theorem dX0_weigh_67 : decode cX0_weigh 67 = .ok (.goto 4, 3) := by decide +kernel
theorem dX0_weigh_70 : decode cX0_weigh 70 = .ok (.iconst 2, 1) := by decide +kernel
theorem dX0_weigh_71 : decode cX0_weigh 71 = .ok (.ireturn, 1) := by decide +kernel
theorem dX0_othersFor_0 : decode cX0_othersFor 0 = .ok (.iconst 0, 1) := by decide +kernel
theorem dX0_othersFor_1 : decode cX0_othersFor 1 = .ok (.istore_n 2, 1) := by decide +kernel
theorem dX0_othersFor_2 : decode cX0_othersFor 2 = .ok (.iconst 0, 1) := by decide +kernel
theorem dX0_othersFor_3 : decode cX0_othersFor 3 = .ok (.istore_n 3, 1) := by decide +kernel
theorem dX0_othersFor_4 : decode cX0_othersFor 4 = .ok (.iload_n 3, 1) := by decide +kernel
theorem dX0_othersFor_5 : decode cX0_othersFor 5 = .ok (.aload_n 0, 1) := by decide +kernel
theorem dX0_othersFor_6 : decode cX0_othersFor 6 = .ok (.getfield 29, 3) := by decide +kernel
theorem dX0_othersFor_9 : decode cX0_othersFor 9 = .ok (.getfield 43, 3) := by decide +kernel
theorem dX0_othersFor_12 : decode cX0_othersFor 12 = .ok (.if_icmp .ge 74, 3) := by decide +kernel
theorem dX0_othersFor_15 : decode cX0_othersFor 15 = .ok (.aload_n 0, 1) := by decide +kernel
theorem dX0_othersFor_16 : decode cX0_othersFor 16 = .ok (.getfield 9, 3) := by decide +kernel
theorem dX0_othersFor_19 : decode cX0_othersFor 19 = .ok (.iload_n 3, 1) := by decide +kernel
theorem dX0_othersFor_20 : decode cX0_othersFor 20 = .ok (.baload, 1) := by decide +kernel
theorem dX0_othersFor_21 : decode cX0_othersFor 21 = .ok (.ifCond .eq 59, 3) := by decide +kernel
theorem dX0_othersFor_24 : decode cX0_othersFor 24 = .ok (.aload_n 0, 1) := by decide +kernel
theorem dX0_othersFor_25 : decode cX0_othersFor 25 = .ok (.getfield 29, 3) := by decide +kernel
theorem dX0_othersFor_28 : decode cX0_othersFor 28 = .ok (.getfield 66, 3) := by decide +kernel
theorem dX0_othersFor_31 : decode cX0_othersFor 31 = .ok (.iload_n 3, 1) := by decide +kernel
theorem dX0_othersFor_32 : decode cX0_othersFor 32 = .ok (.iaload, 1) := by decide +kernel
theorem dX0_othersFor_33 : decode cX0_othersFor 33 = .ok (.aload_n 0, 1) := by decide +kernel
theorem dX0_othersFor_34 : decode cX0_othersFor 34 = .ok (.getfield 29, 3) := by decide +kernel
theorem dX0_othersFor_37 : decode cX0_othersFor 37 = .ok (.getfield 66, 3) := by decide +kernel
theorem dX0_othersFor_40 : decode cX0_othersFor 40 = .ok (.iload_n 1, 1) := by decide +kernel
theorem dX0_othersFor_41 : decode cX0_othersFor 41 = .ok (.iaload, 1) := by decide +kernel
theorem dX0_othersFor_42 : decode cX0_othersFor 42 = .ok (.if_icmp .ne 38, 3) := by decide +kernel
theorem dX0_othersFor_45 : decode cX0_othersFor 45 = .ok (.aload_n 0, 1) := by decide +kernel
theorem dX0_othersFor_46 : decode cX0_othersFor 46 = .ok (.getfield 29, 3) := by decide +kernel
theorem dX0_othersFor_49 : decode cX0_othersFor 49 = .ok (.getfield 63, 3) := by decide +kernel
theorem dX0_othersFor_52 : decode cX0_othersFor 52 = .ok (.iload_n 3, 1) := by decide +kernel
theorem dX0_othersFor_53 : decode cX0_othersFor 53 = .ok (.iaload, 1) := by decide +kernel
theorem dX0_othersFor_54 : decode cX0_othersFor 54 = .ok (.aload_n 0, 1) := by decide +kernel
theorem dX0_othersFor_55 : decode cX0_othersFor 55 = .ok (.getfield 29, 3) := by decide +kernel
theorem dX0_othersFor_58 : decode cX0_othersFor 58 = .ok (.getfield 63, 3) := by decide +kernel
theorem dX0_othersFor_61 : decode cX0_othersFor 61 = .ok (.iload_n 1, 1) := by decide +kernel
theorem dX0_othersFor_62 : decode cX0_othersFor 62 = .ok (.iaload, 1) := by decide +kernel
theorem dX0_othersFor_63 : decode cX0_othersFor 63 = .ok (.if_icmp .ne 17, 3) := by decide +kernel
theorem dX0_othersFor_66 : decode cX0_othersFor 66 = .ok (.iload_n 2, 1) := by decide +kernel
theorem dX0_othersFor_67 : decode cX0_othersFor 67 = .ok (.iconst 1, 1) := by decide +kernel
theorem dX0_othersFor_68 : decode cX0_othersFor 68 = .ok (.aload_n 0, 1) := by decide +kernel
theorem dX0_othersFor_69 : decode cX0_othersFor 69 = .ok (.getfield 29, 3) := by decide +kernel
theorem dX0_othersFor_72 : decode cX0_othersFor 72 = .ok (.getfield 73, 3) := by decide +kernel
theorem dX0_othersFor_75 : decode cX0_othersFor 75 = .ok (.iload_n 3, 1) := by decide +kernel
theorem dX0_othersFor_76 : decode cX0_othersFor 76 = .ok (.iaload, 1) := by decide +kernel
theorem dX0_othersFor_77 : decode cX0_othersFor 77 = .ok (.ishl, 1) := by decide +kernel
theorem dX0_othersFor_78 : decode cX0_othersFor 78 = .ok (.ior, 1) := by decide +kernel
theorem dX0_othersFor_79 : decode cX0_othersFor 79 = .ok (.istore_n 2, 1) := by decide +kernel
theorem dX0_othersFor_80 : decode cX0_othersFor 80 = .ok (.iinc 3 1, 3) := by decide +kernel
theorem dX0_othersFor_83 : decode cX0_othersFor 83 = .ok (.goto (-79), 3) := by decide +kernel
theorem dX0_othersFor_86 : decode cX0_othersFor 86 = .ok (.iload_n 2, 1) := by decide +kernel
theorem dX0_othersFor_87 : decode cX0_othersFor 87 = .ok (.iconst 1, 1) := by decide +kernel
theorem dX0_othersFor_88 : decode cX0_othersFor 88 = .ok (.aload_n 0, 1) := by decide +kernel
theorem dX0_othersFor_89 : decode cX0_othersFor 89 = .ok (.getfield 29, 3) := by decide +kernel
theorem dX0_othersFor_92 : decode cX0_othersFor 92 = .ok (.getfield 73, 3) := by decide +kernel
theorem dX0_othersFor_95 : decode cX0_othersFor 95 = .ok (.iload_n 1, 1) := by decide +kernel
theorem dX0_othersFor_96 : decode cX0_othersFor 96 = .ok (.iaload, 1) := by decide +kernel
theorem dX0_othersFor_97 : decode cX0_othersFor 97 = .ok (.ishl, 1) := by decide +kernel
theorem dX0_othersFor_98 : decode cX0_othersFor 98 = .ok (.iconst (-1), 1) := by decide +kernel
theorem dX0_othersFor_99 : decode cX0_othersFor 99 = .ok (.ixor, 1) := by decide +kernel
theorem dX0_othersFor_100 : decode cX0_othersFor 100 = .ok (.iand, 1) := by decide +kernel
theorem dX0_othersFor_101 : decode cX0_othersFor 101 = .ok (.invokestatic 95, 3) := by decide +kernel
theorem dX0_othersFor_104 : decode cX0_othersFor 104 = .ok (.ireturn, 1) := by decide +kernel
theorem dX0_fallenOf_0 : decode cX0_fallenOf 0 = .ok (.iconst 0, 1) := by decide +kernel
theorem dX0_fallenOf_1 : decode cX0_fallenOf 1 = .ok (.istore_n 2, 1) := by decide +kernel
theorem dX0_fallenOf_2 : decode cX0_fallenOf 2 = .ok (.iconst 0, 1) := by decide +kernel
theorem dX0_fallenOf_3 : decode cX0_fallenOf 3 = .ok (.istore_n 3, 1) := by decide +kernel
theorem dX0_fallenOf_4 : decode cX0_fallenOf 4 = .ok (.iload_n 3, 1) := by decide +kernel
theorem dX0_fallenOf_5 : decode cX0_fallenOf 5 = .ok (.aload_n 0, 1) := by decide +kernel
theorem dX0_fallenOf_6 : decode cX0_fallenOf 6 = .ok (.getfield 29, 3) := by decide +kernel
theorem dX0_fallenOf_9 : decode cX0_fallenOf 9 = .ok (.getfield 43, 3) := by decide +kernel
theorem dX0_fallenOf_12 : decode cX0_fallenOf 12 = .ok (.if_icmp .ge 34, 3) := by decide +kernel
theorem dX0_fallenOf_15 : decode cX0_fallenOf 15 = .ok (.aload_n 0, 1) := by decide +kernel
theorem dX0_fallenOf_16 : decode cX0_fallenOf 16 = .ok (.getfield 29, 3) := by decide +kernel
theorem dX0_fallenOf_19 : decode cX0_fallenOf 19 = .ok (.getfield 73, 3) := by decide +kernel
theorem dX0_fallenOf_22 : decode cX0_fallenOf 22 = .ok (.iload_n 3, 1) := by decide +kernel
theorem dX0_fallenOf_23 : decode cX0_fallenOf 23 = .ok (.iaload, 1) := by decide +kernel
theorem dX0_fallenOf_24 : decode cX0_fallenOf 24 = .ok (.iload_n 1, 1) := by decide +kernel
theorem dX0_fallenOf_25 : decode cX0_fallenOf 25 = .ok (.if_icmp .ne 15, 3) := by decide +kernel
theorem dX0_fallenOf_28 : decode cX0_fallenOf 28 = .ok (.aload_n 0, 1) := by decide +kernel
theorem dX0_fallenOf_29 : decode cX0_fallenOf 29 = .ok (.getfield 9, 3) := by decide +kernel
theorem dX0_fallenOf_32 : decode cX0_fallenOf 32 = .ok (.iload_n 3, 1) := by decide +kernel
theorem dX0_fallenOf_33 : decode cX0_fallenOf 33 = .ok (.baload, 1) := by decide +kernel
theorem dX0_fallenOf_34 : decode cX0_fallenOf 34 = .ok (.ifCond .ne 6, 3) := by decide +kernel
theorem dX0_fallenOf_37 : decode cX0_fallenOf 37 = .ok (.iinc 2 1, 3) := by decide +kernel
theorem dX0_fallenOf_40 : decode cX0_fallenOf 40 = .ok (.iinc 3 1, 3) := by decide +kernel
theorem dX0_fallenOf_43 : decode cX0_fallenOf 43 = .ok (.goto (-39), 3) := by decide +kernel
theorem dX0_fallenOf_46 : decode cX0_fallenOf 46 = .ok (.iload_n 2, 1) := by decide +kernel
theorem dX0_fallenOf_47 : decode cX0_fallenOf 47 = .ok (.ireturn, 1) := by decide +kernel
theorem dX0_standing_0 : decode cX0_standing 0 = .ok (.aload_n 0, 1) := by decide +kernel
theorem dX0_standing_1 : decode cX0_standing 1 = .ok (.getfield 23, 3) := by decide +kernel
theorem dX0_standing_4 : decode cX0_standing 4 = .ok (.iload_n 2, 1) := by decide +kernel
theorem dX0_standing_5 : decode cX0_standing 5 = .ok (.iaload, 1) := by decide +kernel
theorem dX0_standing_6 : decode cX0_standing 6 = .ok (.istore_n 3, 1) := by decide +kernel
theorem dX0_standing_7 : decode cX0_standing 7 = .ok (.iload_n 3, 1) := by decide +kernel
theorem dX0_standing_8 : decode cX0_standing 8 = .ok (.iconst (-1), 1) := by decide +kernel
theorem dX0_standing_9 : decode cX0_standing 9 = .ok (.if_icmp .eq 8, 3) := by decide +kernel
theorem dX0_standing_12 : decode cX0_standing 12 = .ok (.iload_n 1, 1) := by decide +kernel
theorem dX0_standing_13 : decode cX0_standing 13 = .ok (.iload_n 3, 1) := by decide +kernel
theorem dX0_standing_14 : decode cX0_standing 14 = .ok (.if_icmp .ge 5, 3) := by decide +kernel
theorem dX0_standing_17 : decode cX0_standing 17 = .ok (.iconst (-1), 1) := by decide +kernel
theorem dX0_standing_18 : decode cX0_standing 18 = .ok (.ireturn, 1) := by decide +kernel
theorem dX0_standing_19 : decode cX0_standing 19 = .ok (.iload_n 1, 1) := by decide +kernel
theorem dX0_standing_20 : decode cX0_standing 20 = .ok (.iload_n 3, 1) := by decide +kernel
theorem dX0_standing_21 : decode cX0_standing 21 = .ok (.isub, 1) := by decide +kernel
theorem dX0_standing_22 : decode cX0_standing 22 = .ok (.istore 4, 2) := by decide +kernel
theorem dX0_standing_24 : decode cX0_standing 24 = .ok (.iconst 0, 1) := by decide +kernel
theorem dX0_standing_25 : decode cX0_standing 25 = .ok (.istore 5, 2) := by decide +kernel
theorem dX0_standing_27 : decode cX0_standing 27 = .ok (.iload 5, 2) := by decide +kernel
theorem dX0_standing_29 : decode cX0_standing 29 = .ok (.aload_n 0, 1) := by decide +kernel
theorem dX0_standing_30 : decode cX0_standing 30 = .ok (.getfield 29, 3) := by decide +kernel
theorem dX0_standing_33 : decode cX0_standing 33 = .ok (.getfield 43, 3) := by decide +kernel
theorem dX0_standing_36 : decode cX0_standing 36 = .ok (.if_icmp .ge 49, 3) := by decide +kernel
theorem dX0_standing_39 : decode cX0_standing 39 = .ok (.aload_n 0, 1) := by decide +kernel
theorem dX0_standing_40 : decode cX0_standing 40 = .ok (.getfield 29, 3) := by decide +kernel
theorem dX0_standing_43 : decode cX0_standing 43 = .ok (.getfield 63, 3) := by decide +kernel
theorem dX0_standing_46 : decode cX0_standing 46 = .ok (.iload 5, 2) := by decide +kernel
theorem dX0_standing_48 : decode cX0_standing 48 = .ok (.iaload, 1) := by decide +kernel
theorem dX0_standing_49 : decode cX0_standing 49 = .ok (.iload_n 2, 1) := by decide +kernel
theorem dX0_standing_50 : decode cX0_standing 50 = .ok (.if_icmp .ne 29, 3) := by decide +kernel
theorem dX0_standing_53 : decode cX0_standing 53 = .ok (.aload_n 0, 1) := by decide +kernel
theorem dX0_standing_54 : decode cX0_standing 54 = .ok (.getfield 29, 3) := by decide +kernel
theorem dX0_standing_57 : decode cX0_standing 57 = .ok (.getfield 66, 3) := by decide +kernel
theorem dX0_standing_60 : decode cX0_standing 60 = .ok (.iload 5, 2) := by decide +kernel
theorem dX0_standing_62 : decode cX0_standing 62 = .ok (.iaload, 1) := by decide +kernel
theorem dX0_standing_63 : decode cX0_standing 63 = .ok (.iload_n 1, 1) := by decide +kernel
theorem dX0_standing_64 : decode cX0_standing 64 = .ok (.if_icmp .gt 15, 3) := by decide +kernel
theorem dX0_standing_67 : decode cX0_standing 67 = .ok (.iload 4, 2) := by decide +kernel
theorem dX0_standing_69 : decode cX0_standing 69 = .ok (.aload_n 0, 1) := by decide +kernel
theorem dX0_standing_70 : decode cX0_standing 70 = .ok (.getfield 15, 3) := by decide +kernel
theorem dX0_standing_73 : decode cX0_standing 73 = .ok (.iload 5, 2) := by decide +kernel
theorem dX0_standing_75 : decode cX0_standing 75 = .ok (.iaload, 1) := by decide +kernel
theorem dX0_standing_76 : decode cX0_standing 76 = .ok (.iadd, 1) := by decide +kernel
theorem dX0_standing_77 : decode cX0_standing 77 = .ok (.istore 4, 2) := by decide +kernel
theorem dX0_standing_79 : decode cX0_standing 79 = .ok (.iinc 5 1, 3) := by decide +kernel
theorem dX0_standing_82 : decode cX0_standing 82 = .ok (.goto (-55), 3) := by decide +kernel
theorem dX0_standing_85 : decode cX0_standing 85 = .ok (.iconst 0, 1) := by decide +kernel
theorem dX0_standing_86 : decode cX0_standing 86 = .ok (.istore 5, 2) := by decide +kernel
theorem dX0_standing_88 : decode cX0_standing 88 = .ok (.iload 5, 2) := by decide +kernel
theorem dX0_standing_90 : decode cX0_standing 90 = .ok (.aload_n 0, 1) := by decide +kernel
theorem dX0_standing_91 : decode cX0_standing 91 = .ok (.getfield 33, 3) := by decide +kernel
theorem dX0_standing_94 : decode cX0_standing 94 = .ok (.getfield 37, 3) := by decide +kernel
theorem dX0_standing_97 : decode cX0_standing 97 = .ok (.if_icmp .ge 77, 3) := by decide +kernel
theorem dX0_standing_100 : decode cX0_standing 100 = .ok (.aload_n 0, 1) := by decide +kernel
theorem dX0_standing_101 : decode cX0_standing 101 = .ok (.getfield 26, 3) := by decide +kernel
theorem dX0_standing_104 : decode cX0_standing 104 = .ok (.iload 5, 2) := by decide +kernel
theorem dX0_standing_106 : decode cX0_standing 106 = .ok (.iaload, 1) := by decide +kernel
theorem dX0_standing_107 : decode cX0_standing 107 = .ok (.iconst 2, 1) := by decide +kernel
theorem dX0_standing_108 : decode cX0_standing 108 = .ok (.if_icmp .ne 21, 3) := by decide +kernel
theorem dX0_standing_111 : decode cX0_standing 111 = .ok (.aload_n 0, 1) := by decide +kernel
theorem dX0_standing_112 : decode cX0_standing 112 = .ok (.getfield 33, 3) := by decide +kernel
theorem dX0_standing_115 : decode cX0_standing 115 = .ok (.getfield 70, 3) := by decide +kernel
theorem dX0_standing_118 : decode cX0_standing 118 = .ok (.iload 5, 2) := by decide +kernel
theorem dX0_standing_120 : decode cX0_standing 120 = .ok (.iaload, 1) := by decide +kernel
theorem dX0_standing_121 : decode cX0_standing 121 = .ok (.iload_n 2, 1) := by decide +kernel
theorem dX0_standing_122 : decode cX0_standing 122 = .ok (.if_icmp .ne 7, 3) := by decide +kernel
theorem dX0_standing_125 : decode cX0_standing 125 = .ok (.iconst 1, 1) := by decide +kernel
theorem dX0_standing_126 : decode cX0_standing 126 = .ok (.goto 4, 3) := by decide +kernel
theorem dX0_standing_129 : decode cX0_standing 129 = .ok (.iconst 0, 1) := by decide +kernel
theorem dX0_standing_130 : decode cX0_standing 130 = .ok (.istore 6, 2) := by decide +kernel
theorem dX0_standing_132 : decode cX0_standing 132 = .ok (.iload 6, 2) := by decide +kernel
theorem dX0_standing_134 : decode cX0_standing 134 = .ok (.ifCond .eq 34, 3) := by decide +kernel
theorem dX0_standing_137 : decode cX0_standing 137 = .ok (.aload_n 0, 1) := by decide +kernel
theorem dX0_standing_138 : decode cX0_standing 138 = .ok (.getfield 33, 3) := by decide +kernel
theorem dX0_standing_141 : decode cX0_standing 141 = .ok (.getfield 69, 3) := by decide +kernel
theorem dX0_standing_144 : decode cX0_standing 144 = .ok (.iload 5, 2) := by decide +kernel
theorem dX0_standing_146 : decode cX0_standing 146 = .ok (.iaload, 1) := by decide +kernel
theorem dX0_standing_147 : decode cX0_standing 147 = .ok (.iload_n 3, 1) := by decide +kernel
theorem dX0_standing_148 : decode cX0_standing 148 = .ok (.if_icmp .lt 20, 3) := by decide +kernel
theorem dX0_standing_151 : decode cX0_standing 151 = .ok (.aload_n 0, 1) := by decide +kernel
theorem dX0_standing_152 : decode cX0_standing 152 = .ok (.getfield 33, 3) := by decide +kernel
theorem dX0_standing_155 : decode cX0_standing 155 = .ok (.getfield 69, 3) := by decide +kernel
theorem dX0_standing_158 : decode cX0_standing 158 = .ok (.iload 5, 2) := by decide +kernel
theorem dX0_standing_160 : decode cX0_standing 160 = .ok (.iaload, 1) := by decide +kernel
theorem dX0_standing_161 : decode cX0_standing 161 = .ok (.iload_n 1, 1) := by decide +kernel
theorem dX0_standing_162 : decode cX0_standing 162 = .ok (.if_icmp .gt 6, 3) := by decide +kernel
theorem dX0_standing_165 : decode cX0_standing 165 = .ok (.iinc 4 3, 3) := by decide +kernel
theorem dX0_standing_168 : decode cX0_standing 168 = .ok (.iinc 5 1, 3) := by decide +kernel
theorem dX0_standing_171 : decode cX0_standing 171 = .ok (.goto (-83), 3) := by decide +kernel
theorem dX0_standing_174 : decode cX0_standing 174 = .ok (.bipush 40, 2) := by decide +kernel
theorem dX0_standing_176 : decode cX0_standing 176 = .ok (.iload 4, 2) := by decide +kernel
theorem dX0_standing_178 : decode cX0_standing 178 = .ok (.invokestatic 86, 3) := by decide +kernel
theorem dX0_standing_181 : decode cX0_standing 181 = .ok (.ireturn, 1) := by decide +kernel
theorem dX0_menOfRank_0 : decode cX0_menOfRank 0 = .ok (.iconst 0, 1) := by decide +kernel
theorem dX0_menOfRank_1 : decode cX0_menOfRank 1 = .ok (.istore_n 2, 1) := by decide +kernel
theorem dX0_menOfRank_2 : decode cX0_menOfRank 2 = .ok (.iconst 0, 1) := by decide +kernel
theorem dX0_menOfRank_3 : decode cX0_menOfRank 3 = .ok (.istore_n 3, 1) := by decide +kernel
theorem dX0_menOfRank_4 : decode cX0_menOfRank 4 = .ok (.iload_n 3, 1) := by decide +kernel
theorem dX0_menOfRank_5 : decode cX0_menOfRank 5 = .ok (.bipush 8, 2) := by decide +kernel
theorem dX0_menOfRank_7 : decode cX0_menOfRank 7 = .ok (.if_icmp .ge 26, 3) := by decide +kernel
theorem dX0_menOfRank_10 : decode cX0_menOfRank 10 = .ok (.aload_n 0, 1) := by decide +kernel
theorem dX0_menOfRank_11 : decode cX0_menOfRank 11 = .ok (.bipush 23, 2) := by decide +kernel
theorem dX0_menOfRank_13 : decode cX0_menOfRank 13 = .ok (.iload_n 3, 1) := by decide +kernel
theorem dX0_menOfRank_14 : decode cX0_menOfRank 14 = .ok (.invokevirtual 100, 3) := by decide +kernel
theorem dX0_menOfRank_17 : decode cX0_menOfRank 17 = .ok (.invokestatic 103, 3) := by decide +kernel
theorem dX0_menOfRank_20 : decode cX0_menOfRank 20 = .ok (.iload_n 1, 1) := by decide +kernel
theorem dX0_menOfRank_21 : decode cX0_menOfRank 21 = .ok (.if_icmp .lt 6, 3) := by decide +kernel
theorem dX0_menOfRank_24 : decode cX0_menOfRank 24 = .ok (.iinc 2 1, 3) := by decide +kernel
theorem dX0_menOfRank_27 : decode cX0_menOfRank 27 = .ok (.iinc 3 1, 3) := by decide +kernel
theorem dX0_menOfRank_30 : decode cX0_menOfRank 30 = .ok (.goto (-26), 3) := by decide +kernel
theorem dX0_menOfRank_33 : decode cX0_menOfRank 33 = .ok (.iload_n 2, 1) := by decide +kernel
theorem dX0_menOfRank_34 : decode cX0_menOfRank 34 = .ok (.ireturn, 1) := by decide +kernel
theorem dX0_weightIn_0 : decode cX0_weightIn 0 = .ok (.iconst 0, 1) := by decide +kernel
theorem dX0_weightIn_1 : decode cX0_weightIn 1 = .ok (.istore_n 3, 1) := by decide +kernel
theorem dX0_weightIn_2 : decode cX0_weightIn 2 = .ok (.iconst 0, 1) := by decide +kernel
theorem dX0_weightIn_3 : decode cX0_weightIn 3 = .ok (.istore 4, 2) := by decide +kernel
theorem dX0_weightIn_5 : decode cX0_weightIn 5 = .ok (.iload 4, 2) := by decide +kernel
theorem dX0_weightIn_7 : decode cX0_weightIn 7 = .ok (.aload_n 0, 1) := by decide +kernel
theorem dX0_weightIn_8 : decode cX0_weightIn 8 = .ok (.getfield 29, 3) := by decide +kernel
theorem dX0_weightIn_11 : decode cX0_weightIn 11 = .ok (.getfield 43, 3) := by decide +kernel
theorem dX0_weightIn_14 : decode cX0_weightIn 14 = .ok (.if_icmp .ge 47, 3) := by decide +kernel
theorem dX0_weightIn_17 : decode cX0_weightIn 17 = .ok (.aload_n 0, 1) := by decide +kernel
theorem dX0_weightIn_18 : decode cX0_weightIn 18 = .ok (.getfield 29, 3) := by decide +kernel
theorem dX0_weightIn_21 : decode cX0_weightIn 21 = .ok (.getfield 66, 3) := by decide +kernel
theorem dX0_weightIn_24 : decode cX0_weightIn 24 = .ok (.iload 4, 2) := by decide +kernel
theorem dX0_weightIn_26 : decode cX0_weightIn 26 = .ok (.iaload, 1) := by decide +kernel
theorem dX0_weightIn_27 : decode cX0_weightIn 27 = .ok (.iload_n 1, 1) := by decide +kernel
theorem dX0_weightIn_28 : decode cX0_weightIn 28 = .ok (.if_icmp .ne 27, 3) := by decide +kernel
theorem dX0_weightIn_31 : decode cX0_weightIn 31 = .ok (.aload_n 0, 1) := by decide +kernel
theorem dX0_weightIn_32 : decode cX0_weightIn 32 = .ok (.getfield 29, 3) := by decide +kernel
theorem dX0_weightIn_35 : decode cX0_weightIn 35 = .ok (.getfield 63, 3) := by decide +kernel
theorem dX0_weightIn_38 : decode cX0_weightIn 38 = .ok (.iload 4, 2) := by decide +kernel
theorem dX0_weightIn_40 : decode cX0_weightIn 40 = .ok (.iaload, 1) := by decide +kernel
theorem dX0_weightIn_41 : decode cX0_weightIn 41 = .ok (.iload_n 2, 1) := by decide +kernel
theorem dX0_weightIn_42 : decode cX0_weightIn 42 = .ok (.if_icmp .ne 13, 3) := by decide +kernel
theorem dX0_weightIn_45 : decode cX0_weightIn 45 = .ok (.iload_n 3, 1) := by decide +kernel
theorem dX0_weightIn_46 : decode cX0_weightIn 46 = .ok (.aload_n 0, 1) := by decide +kernel
theorem dX0_weightIn_47 : decode cX0_weightIn 47 = .ok (.getfield 15, 3) := by decide +kernel
theorem dX0_weightIn_50 : decode cX0_weightIn 50 = .ok (.iload 4, 2) := by decide +kernel
theorem dX0_weightIn_52 : decode cX0_weightIn 52 = .ok (.iaload, 1) := by decide +kernel
theorem dX0_weightIn_53 : decode cX0_weightIn 53 = .ok (.iadd, 1) := by decide +kernel
theorem dX0_weightIn_54 : decode cX0_weightIn 54 = .ok (.istore_n 3, 1) := by decide +kernel
theorem dX0_weightIn_55 : decode cX0_weightIn 55 = .ok (.iinc 4 1, 3) := by decide +kernel
theorem dX0_weightIn_58 : decode cX0_weightIn 58 = .ok (.goto (-53), 3) := by decide +kernel
theorem dX0_weightIn_61 : decode cX0_weightIn 61 = .ok (.iload_n 3, 1) := by decide +kernel
theorem dX0_weightIn_62 : decode cX0_weightIn 62 = .ok (.ireturn, 1) := by decide +kernel
theorem dX0_support_0 : decode cX0_support 0 = .ok (.aload_n 0, 1) := by decide +kernel
theorem dX0_support_1 : decode cX0_support 1 = .ok (.iload_n 1, 1) := by decide +kernel
theorem dX0_support_2 : decode cX0_support 2 = .ok (.iload_n 2, 1) := by decide +kernel
theorem dX0_support_3 : decode cX0_support 3 = .ok (.invokevirtual 106, 3) := by decide +kernel
theorem dX0_support_6 : decode cX0_support 6 = .ok (.istore_n 3, 1) := by decide +kernel
theorem dX0_support_7 : decode cX0_support 7 = .ok (.iload_n 3, 1) := by decide +kernel
theorem dX0_support_8 : decode cX0_support 8 = .ok (.ifCond .ne 7, 3) := by decide +kernel
theorem dX0_support_11 : decode cX0_support 11 = .ok (.iconst 0, 1) := by decide +kernel
theorem dX0_support_12 : decode cX0_support 12 = .ok (.goto 14, 3) := by decide +kernel
theorem dX0_support_15 : decode cX0_support 15 = .ok (.iload_n 3, 1) := by decide +kernel
theorem dX0_support_16 : decode cX0_support 16 = .ok (.aload_n 0, 1) := by decide +kernel
theorem dX0_support_17 : decode cX0_support 17 = .ok (.iload_n 1, 1) := by decide +kernel
theorem dX0_support_18 : decode cX0_support 18 = .ok (.iload_n 2, 1) := by decide +kernel
theorem dX0_support_19 : decode cX0_support 19 = .ok (.invokevirtual 100, 3) := by decide +kernel
theorem dX0_support_22 : decode cX0_support 22 = .ok (.invokestatic 103, 3) := by decide +kernel
theorem dX0_support_25 : decode cX0_support 25 = .ok (.imul, 1) := by decide +kernel
theorem dX0_support_26 : decode cX0_support 26 = .ok (.ireturn, 1) := by decide +kernel
theorem dX0_trust_0 : decode cX0_trust 0 = .ok (.iconst 0, 1) := by decide +kernel
theorem dX0_trust_1 : decode cX0_trust 1 = .ok (.istore_n 3, 1) := by decide +kernel
theorem dX0_trust_2 : decode cX0_trust 2 = .ok (.iconst 0, 1) := by decide +kernel
theorem dX0_trust_3 : decode cX0_trust 3 = .ok (.istore 4, 2) := by decide +kernel
theorem dX0_trust_5 : decode cX0_trust 5 = .ok (.iload 4, 2) := by decide +kernel
theorem dX0_trust_7 : decode cX0_trust 7 = .ok (.bipush 8, 2) := by decide +kernel
theorem dX0_trust_9 : decode cX0_trust 9 = .ok (.if_icmp .ge 27, 3) := by decide +kernel
theorem dX0_trust_12 : decode cX0_trust 12 = .ok (.iload 4, 2) := by decide +kernel
theorem dX0_trust_14 : decode cX0_trust 14 = .ok (.iload_n 2, 1) := by decide +kernel
theorem dX0_trust_15 : decode cX0_trust 15 = .ok (.if_icmp .eq 15, 3) := by decide +kernel
theorem dX0_trust_18 : decode cX0_trust 18 = .ok (.iload_n 3, 1) := by decide +kernel
theorem dX0_trust_19 : decode cX0_trust 19 = .ok (.aload_n 0, 1) := by decide +kernel
theorem dX0_trust_20 : decode cX0_trust 20 = .ok (.iload_n 1, 1) := by decide +kernel
theorem dX0_trust_21 : decode cX0_trust 21 = .ok (.iload 4, 2) := by decide +kernel
theorem dX0_trust_23 : decode cX0_trust 23 = .ok (.invokevirtual 109, 3) := by decide +kernel
theorem dX0_trust_26 : decode cX0_trust 26 = .ok (.invokestatic 112, 3) := by decide +kernel
theorem dX0_trust_29 : decode cX0_trust 29 = .ok (.istore_n 3, 1) := by decide +kernel
theorem dX0_trust_30 : decode cX0_trust 30 = .ok (.iinc 4 1, 3) := by decide +kernel
theorem dX0_trust_33 : decode cX0_trust 33 = .ok (.goto (-28), 3) := by decide +kernel
theorem dX0_trust_36 : decode cX0_trust 36 = .ok (.iload_n 3, 1) := by decide +kernel
theorem dX0_trust_37 : decode cX0_trust 37 = .ok (.aload_n 0, 1) := by decide +kernel
theorem dX0_trust_38 : decode cX0_trust 38 = .ok (.iload_n 1, 1) := by decide +kernel
theorem dX0_trust_39 : decode cX0_trust 39 = .ok (.iload_n 2, 1) := by decide +kernel
theorem dX0_trust_40 : decode cX0_trust 40 = .ok (.invokevirtual 106, 3) := by decide +kernel
theorem dX0_trust_43 : decode cX0_trust 43 = .ok (.isub, 1) := by decide +kernel
theorem dX0_trust_44 : decode cX0_trust 44 = .ok (.ireturn, 1) := by decide +kernel
theorem dX0_trustedTown_0 : decode cX0_trustedTown 0 = .ok (.iconst (-1), 1) := by decide +kernel
theorem dX0_trustedTown_1 : decode cX0_trustedTown 1 = .ok (.istore_n 3, 1) := by decide +kernel
theorem dX0_trustedTown_2 : decode cX0_trustedTown 2 = .ok (.iconst (-1), 1) := by decide +kernel
theorem dX0_trustedTown_3 : decode cX0_trustedTown 3 = .ok (.istore 4, 2) := by decide +kernel
theorem dX0_trustedTown_5 : decode cX0_trustedTown 5 = .ok (.iconst 0, 1) := by decide +kernel
theorem dX0_trustedTown_6 : decode cX0_trustedTown 6 = .ok (.istore 5, 2) := by decide +kernel
theorem dX0_trustedTown_8 : decode cX0_trustedTown 8 = .ok (.iload 5, 2) := by decide +kernel
theorem dX0_trustedTown_10 : decode cX0_trustedTown 10 = .ok (.bipush 8, 2) := by decide +kernel
theorem dX0_trustedTown_12 : decode cX0_trustedTown 12 = .ok (.if_icmp .ge 42, 3) := by decide +kernel
theorem dX0_trustedTown_15 : decode cX0_trustedTown 15 = .ok (.iload 5, 2) := by decide +kernel
theorem dX0_trustedTown_17 : decode cX0_trustedTown 17 = .ok (.iload_n 2, 1) := by decide +kernel
theorem dX0_trustedTown_18 : decode cX0_trustedTown 18 = .ok (.if_icmp .ne 7, 3) := by decide +kernel
theorem dX0_trustedTown_21 : decode cX0_trustedTown 21 = .ok (.iconst (-1), 1) := by decide +kernel
theorem dX0_trustedTown_22 : decode cX0_trustedTown 22 = .ok (.goto 10, 3) := by decide +kernel
theorem dX0_trustedTown_25 : decode cX0_trustedTown 25 = .ok (.aload_n 0, 1) := by decide +kernel
theorem dX0_trustedTown_26 : decode cX0_trustedTown 26 = .ok (.iload_n 1, 1) := by decide +kernel
theorem dX0_trustedTown_27 : decode cX0_trustedTown 27 = .ok (.iload 5, 2) := by decide +kernel
theorem dX0_trustedTown_29 : decode cX0_trustedTown 29 = .ok (.invokevirtual 109, 3) := by decide +kernel
theorem dX0_trustedTown_32 : decode cX0_trustedTown 32 = .ok (.istore 6, 2) := by decide +kernel
theorem dX0_trustedTown_34 : decode cX0_trustedTown 34 = .ok (.iload 6, 2) := by decide +kernel
theorem dX0_trustedTown_36 : decode cX0_trustedTown 36 = .ok (.iload 4, 2) := by decide +kernel
theorem dX0_trustedTown_38 : decode cX0_trustedTown 38 = .ok (.if_icmp .le 10, 3) := by decide +kernel
theorem dX0_trustedTown_41 : decode cX0_trustedTown 41 = .ok (.iload 5, 2) := by decide +kernel
theorem dX0_trustedTown_43 : decode cX0_trustedTown 43 = .ok (.istore_n 3, 1) := by decide +kernel
theorem dX0_trustedTown_44 : decode cX0_trustedTown 44 = .ok (.iload 6, 2) := by decide +kernel
theorem dX0_trustedTown_46 : decode cX0_trustedTown 46 = .ok (.istore 4, 2) := by decide +kernel
theorem dX0_trustedTown_48 : decode cX0_trustedTown 48 = .ok (.iinc 5 1, 3) := by decide +kernel
theorem dX0_trustedTown_51 : decode cX0_trustedTown 51 = .ok (.goto (-43), 3) := by decide +kernel
theorem dX0_trustedTown_54 : decode cX0_trustedTown 54 = .ok (.iload_n 3, 1) := by decide +kernel
theorem dX0_trustedTown_55 : decode cX0_trustedTown 55 = .ok (.ireturn, 1) := by decide +kernel
theorem dX0_swornTowns_0 : decode cX0_swornTowns 0 = .ok (.sipush 255, 3) := by decide +kernel
theorem dX0_swornTowns_3 : decode cX0_swornTowns 3 = .ok (.istore_n 2, 1) := by decide +kernel
theorem dX0_swornTowns_4 : decode cX0_swornTowns 4 = .ok (.iconst 0, 1) := by decide +kernel
theorem dX0_swornTowns_5 : decode cX0_swornTowns 5 = .ok (.istore_n 3, 1) := by decide +kernel
theorem dX0_swornTowns_6 : decode cX0_swornTowns 6 = .ok (.iload_n 3, 1) := by decide +kernel
theorem dX0_swornTowns_7 : decode cX0_swornTowns 7 = .ok (.aload_n 0, 1) := by decide +kernel
theorem dX0_swornTowns_8 : decode cX0_swornTowns 8 = .ok (.getfield 29, 3) := by decide +kernel
theorem dX0_swornTowns_11 : decode cX0_swornTowns 11 = .ok (.getfield 43, 3) := by decide +kernel
theorem dX0_swornTowns_14 : decode cX0_swornTowns 14 = .ok (.if_icmp .ge 57, 3) := by decide +kernel
theorem dX0_swornTowns_17 : decode cX0_swornTowns 17 = .ok (.aload_n 0, 1) := by decide +kernel
theorem dX0_swornTowns_18 : decode cX0_swornTowns 18 = .ok (.getfield 9, 3) := by decide +kernel
theorem dX0_swornTowns_21 : decode cX0_swornTowns 21 = .ok (.iload_n 3, 1) := by decide +kernel
theorem dX0_swornTowns_22 : decode cX0_swornTowns 22 = .ok (.baload, 1) := by decide +kernel
theorem dX0_swornTowns_23 : decode cX0_swornTowns 23 = .ok (.ifCond .eq 42, 3) := by decide +kernel
theorem dX0_swornTowns_26 : decode cX0_swornTowns 26 = .ok (.aload_n 0, 1) := by decide +kernel
theorem dX0_swornTowns_27 : decode cX0_swornTowns 27 = .ok (.getfield 29, 3) := by decide +kernel
theorem dX0_swornTowns_30 : decode cX0_swornTowns 30 = .ok (.getfield 80, 3) := by decide +kernel
theorem dX0_swornTowns_33 : decode cX0_swornTowns 33 = .ok (.iload_n 3, 1) := by decide +kernel
theorem dX0_swornTowns_34 : decode cX0_swornTowns 34 = .ok (.iaload, 1) := by decide +kernel
theorem dX0_swornTowns_35 : decode cX0_swornTowns 35 = .ok (.ifCond .ne 30, 3) := by decide +kernel
theorem dX0_swornTowns_38 : decode cX0_swornTowns 38 = .ok (.aload_n 0, 1) := by decide +kernel
theorem dX0_swornTowns_39 : decode cX0_swornTowns 39 = .ok (.getfield 29, 3) := by decide +kernel
theorem dX0_swornTowns_42 : decode cX0_swornTowns 42 = .ok (.getfield 66, 3) := by decide +kernel
theorem dX0_swornTowns_45 : decode cX0_swornTowns 45 = .ok (.iload_n 3, 1) := by decide +kernel
theorem dX0_swornTowns_46 : decode cX0_swornTowns 46 = .ok (.iaload, 1) := by decide +kernel
theorem dX0_swornTowns_47 : decode cX0_swornTowns 47 = .ok (.iload_n 1, 1) := by decide +kernel
theorem dX0_swornTowns_48 : decode cX0_swornTowns 48 = .ok (.if_icmp .ne 17, 3) := by decide +kernel
theorem dX0_swornTowns_51 : decode cX0_swornTowns 51 = .ok (.iload_n 2, 1) := by decide +kernel
theorem dX0_swornTowns_52 : decode cX0_swornTowns 52 = .ok (.iconst 1, 1) := by decide +kernel
theorem dX0_swornTowns_53 : decode cX0_swornTowns 53 = .ok (.aload_n 0, 1) := by decide +kernel
theorem dX0_swornTowns_54 : decode cX0_swornTowns 54 = .ok (.getfield 29, 3) := by decide +kernel
theorem dX0_swornTowns_57 : decode cX0_swornTowns 57 = .ok (.getfield 63, 3) := by decide +kernel
theorem dX0_swornTowns_60 : decode cX0_swornTowns 60 = .ok (.iload_n 3, 1) := by decide +kernel
theorem dX0_swornTowns_61 : decode cX0_swornTowns 61 = .ok (.iaload, 1) := by decide +kernel
theorem dX0_swornTowns_62 : decode cX0_swornTowns 62 = .ok (.ishl, 1) := by decide +kernel
theorem dX0_swornTowns_63 : decode cX0_swornTowns 63 = .ok (.iand, 1) := by decide +kernel
theorem dX0_swornTowns_64 : decode cX0_swornTowns 64 = .ok (.istore_n 2, 1) := by decide +kernel
theorem dX0_swornTowns_65 : decode cX0_swornTowns 65 = .ok (.iinc 3 1, 3) := by decide +kernel
theorem dX0_swornTowns_68 : decode cX0_swornTowns 68 = .ok (.goto (-62), 3) := by decide +kernel
theorem dX0_swornTowns_71 : decode cX0_swornTowns 71 = .ok (.iload_n 2, 1) := by decide +kernel
theorem dX0_swornTowns_72 : decode cX0_swornTowns 72 = .ok (.ireturn, 1) := by decide +kernel
theorem dX1_init_0 : decode cX1_init 0 = .ok (.aload_n 0, 1) := by decide +kernel
theorem dX1_init_1 : decode cX1_init 1 = .ok (.invokespecial 3, 3) := by decide +kernel
theorem dX1_init_4 : decode cX1_init 4 = .ok (.aload_n 0, 1) := by decide +kernel
theorem dX1_init_5 : decode cX1_init 5 = .ok (.bipush 8, 2) := by decide +kernel
theorem dX1_init_7 : decode cX1_init 7 = .ok (.newarray .int, 2) := by decide +kernel
theorem dX1_init_9 : decode cX1_init 9 = .ok (.putfield 9, 3) := by decide +kernel
theorem dX1_init_12 : decode cX1_init 12 = .ok (.aload_n 0, 1) := by decide +kernel
theorem dX1_init_13 : decode cX1_init 13 = .ok (.bipush 8, 2) := by decide +kernel
theorem dX1_init_15 : decode cX1_init 15 = .ok (.newarray .int, 2) := by decide +kernel
theorem dX1_init_17 : decode cX1_init 17 = .ok (.putfield 15, 3) := by decide +kernel
theorem dX1_init_20 : decode cX1_init 20 = .ok (.aload_n 0, 1) := by decide +kernel
theorem dX1_init_21 : decode cX1_init 21 = .ok (.iconst 0, 1) := by decide +kernel
theorem dX1_init_22 : decode cX1_init 22 = .ok (.putfield 18, 3) := by decide +kernel
theorem dX1_init_25 : decode cX1_init 25 = .ok (.return_, 1) := by decide +kernel
theorem dX1_takeFrom_0 : decode cX1_takeFrom 0 = .ok (.aload_n 0, 1) := by decide +kernel
theorem dX1_takeFrom_1 : decode cX1_takeFrom 1 = .ok (.aload_n 1, 1) := by decide +kernel
theorem dX1_takeFrom_2 : decode cX1_takeFrom 2 = .ok (.invokevirtual 22, 3) := by decide +kernel
theorem dX1_takeFrom_5 : decode cX1_takeFrom 5 = .ok (.ifCond .eq 7, 3) := by decide +kernel
theorem dX1_takeFrom_8 : decode cX1_takeFrom 8 = .ok (.iconst 0, 1) := by decide +kernel
theorem dX1_takeFrom_9 : decode cX1_takeFrom 9 = .ok (.goto 16, 3) := by decide +kernel
theorem dX1_takeFrom_12 : decode cX1_takeFrom 12 = .ok (.bipush 8, 2) := by decide +kernel
theorem dX1_takeFrom_14 : decode cX1_takeFrom 14 = .ok (.aload_n 1, 1) := by decide +kernel
theorem dX1_takeFrom_15 : decode cX1_takeFrom 15 = .ok (.getfield 28, 3) := by decide +kernel
theorem dX1_takeFrom_18 : decode cX1_takeFrom 18 = .ok (.iconst 1, 1) := by decide +kernel
theorem dX1_takeFrom_19 : decode cX1_takeFrom 19 = .ok (.iadd, 1) := by decide +kernel
theorem dX1_takeFrom_20 : decode cX1_takeFrom 20 = .ok (.iconst 3, 1) := by decide +kernel
theorem dX1_takeFrom_21 : decode cX1_takeFrom 21 = .ok (.idiv, 1) := by decide +kernel
theorem dX1_takeFrom_22 : decode cX1_takeFrom 22 = .ok (.invokestatic 29, 3) := by decide +kernel
theorem dX1_takeFrom_25 : decode cX1_takeFrom 25 = .ok (.putfield 18, 3) := by decide +kernel
theorem dX1_takeFrom_28 : decode cX1_takeFrom 28 = .ok (.iconst 0, 1) := by decide +kernel
theorem dX1_takeFrom_29 : decode cX1_takeFrom 29 = .ok (.istore_n 2, 1) := by decide +kernel
theorem dX1_takeFrom_30 : decode cX1_takeFrom 30 = .ok (.iload_n 2, 1) := by decide +kernel
theorem dX1_takeFrom_31 : decode cX1_takeFrom 31 = .ok (.aload_n 0, 1) := by decide +kernel
theorem dX1_takeFrom_32 : decode cX1_takeFrom 32 = .ok (.getfield 18, 3) := by decide +kernel
theorem dX1_takeFrom_35 : decode cX1_takeFrom 35 = .ok (.if_icmp .ge 45, 3) := by decide +kernel
theorem dX1_takeFrom_38 : decode cX1_takeFrom 38 = .ok (.aload_n 0, 1) := by decide +kernel
theorem dX1_takeFrom_39 : decode cX1_takeFrom 39 = .ok (.getfield 9, 3) := by decide +kernel
theorem dX1_takeFrom_42 : decode cX1_takeFrom 42 = .ok (.iload_n 2, 1) := by decide +kernel
theorem dX1_takeFrom_43 : decode cX1_takeFrom 43 = .ok (.aload_n 1, 1) := by decide +kernel
theorem dX1_takeFrom_44 : decode cX1_takeFrom 44 = .ok (.getfield 35, 3) := by decide +kernel
theorem dX1_takeFrom_47 : decode cX1_takeFrom 47 = .ok (.iload_n 2, 1) := by decide +kernel
theorem dX1_takeFrom_48 : decode cX1_takeFrom 48 = .ok (.iconst 3, 1) := by decide +kernel
theorem dX1_takeFrom_49 : decode cX1_takeFrom 49 = .ok (.imul, 1) := by decide +kernel
theorem dX1_takeFrom_50 : decode cX1_takeFrom 50 = .ok (.iaload, 1) := by decide +kernel
theorem dX1_takeFrom_51 : decode cX1_takeFrom 51 = .ok (.bipush 97, 2) := by decide +kernel
theorem dX1_takeFrom_53 : decode cX1_takeFrom 53 = .ok (.isub, 1) := by decide +kernel
theorem dX1_takeFrom_54 : decode cX1_takeFrom 54 = .ok (.iastore, 1) := by decide +kernel
theorem dX1_takeFrom_55 : decode cX1_takeFrom 55 = .ok (.aload_n 0, 1) := by decide +kernel
theorem dX1_takeFrom_56 : decode cX1_takeFrom 56 = .ok (.getfield 15, 3) := by decide +kernel
theorem dX1_takeFrom_59 : decode cX1_takeFrom 59 = .ok (.iload_n 2, 1) := by decide +kernel
theorem dX1_takeFrom_60 : decode cX1_takeFrom 60 = .ok (.aload_n 1, 1) := by decide +kernel
theorem dX1_takeFrom_61 : decode cX1_takeFrom 61 = .ok (.getfield 35, 3) := by decide +kernel
theorem dX1_takeFrom_64 : decode cX1_takeFrom 64 = .ok (.iload_n 2, 1) := by decide +kernel
theorem dX1_takeFrom_65 : decode cX1_takeFrom 65 = .ok (.iconst 3, 1) := by decide +kernel
theorem dX1_takeFrom_66 : decode cX1_takeFrom 66 = .ok (.imul, 1) := by decide +kernel
theorem dX1_takeFrom_67 : decode cX1_takeFrom 67 = .ok (.iconst 1, 1) := by decide +kernel
theorem dX1_takeFrom_68 : decode cX1_takeFrom 68 = .ok (.iadd, 1) := by decide +kernel
theorem dX1_takeFrom_69 : decode cX1_takeFrom 69 = .ok (.iaload, 1) := by decide +kernel
theorem dX1_takeFrom_70 : decode cX1_takeFrom 70 = .ok (.bipush 48, 2) := by decide +kernel
theorem dX1_takeFrom_72 : decode cX1_takeFrom 72 = .ok (.isub, 1) := by decide +kernel
theorem dX1_takeFrom_73 : decode cX1_takeFrom 73 = .ok (.iastore, 1) := by decide +kernel
theorem dX1_takeFrom_74 : decode cX1_takeFrom 74 = .ok (.iinc 2 1, 3) := by decide +kernel
theorem dX1_takeFrom_77 : decode cX1_takeFrom 77 = .ok (.goto (-47), 3) := by decide +kernel
theorem dX1_takeFrom_80 : decode cX1_takeFrom 80 = .ok (.return_, 1) := by decide +kernel
theorem dX2_init_0 : decode cX2_init 0 = .ok (.aload_n 0, 1) := by decide +kernel
theorem dX2_init_1 : decode cX2_init 1 = .ok (.invokespecial 3, 3) := by decide +kernel
theorem dX2_init_4 : decode cX2_init 4 = .ok (.aload_n 0, 1) := by decide +kernel
theorem dX2_init_5 : decode cX2_init 5 = .ok (.bipush 8, 2) := by decide +kernel
theorem dX2_init_7 : decode cX2_init 7 = .ok (.newarray .int, 2) := by decide +kernel
theorem dX2_init_9 : decode cX2_init 9 = .ok (.putfield 9, 3) := by decide +kernel
theorem dX2_init_12 : decode cX2_init 12 = .ok (.aload_n 0, 1) := by decide +kernel
theorem dX2_init_13 : decode cX2_init 13 = .ok (.bipush 8, 2) := by decide +kernel
theorem dX2_init_15 : decode cX2_init 15 = .ok (.newarray .int, 2) := by decide +kernel
theorem dX2_init_17 : decode cX2_init 17 = .ok (.putfield 15, 3) := by decide +kernel
theorem dX2_init_20 : decode cX2_init 20 = .ok (.aload_n 0, 1) := by decide +kernel
theorem dX2_init_21 : decode cX2_init 21 = .ok (.bipush 8, 2) := by decide +kernel
theorem dX2_init_23 : decode cX2_init 23 = .ok (.newarray .int, 2) := by decide +kernel
theorem dX2_init_25 : decode cX2_init 25 = .ok (.putfield 18, 3) := by decide +kernel
theorem dX2_init_28 : decode cX2_init 28 = .ok (.aload_n 0, 1) := by decide +kernel
theorem dX2_init_29 : decode cX2_init 29 = .ok (.iconst 0, 1) := by decide +kernel
theorem dX2_init_30 : decode cX2_init 30 = .ok (.putfield 21, 3) := by decide +kernel
theorem dX2_init_33 : decode cX2_init 33 = .ok (.return_, 1) := by decide +kernel
theorem dX2_all_0 : decode cX2_all 0 = .ok (.iconst 1, 1) := by decide +kernel
theorem dX2_all_1 : decode cX2_all 1 = .ok (.aload_n 0, 1) := by decide +kernel
theorem dX2_all_2 : decode cX2_all 2 = .ok (.getfield 21, 3) := by decide +kernel
theorem dX2_all_5 : decode cX2_all 5 = .ok (.ishl, 1) := by decide +kernel
theorem dX2_all_6 : decode cX2_all 6 = .ok (.iconst 1, 1) := by decide +kernel
theorem dX2_all_7 : decode cX2_all 7 = .ok (.isub, 1) := by decide +kernel
theorem dX2_all_8 : decode cX2_all 8 = .ok (.ireturn, 1) := by decide +kernel
theorem dX3_init_0 : decode cX3_init 0 = .ok (.aload_n 0, 1) := by decide +kernel
theorem dX3_init_1 : decode cX3_init 1 = .ok (.invokespecial 3, 3) := by decide +kernel
theorem dX3_init_4 : decode cX3_init 4 = .ok (.aload_n 0, 1) := by decide +kernel
theorem dX3_init_5 : decode cX3_init 5 = .ok (.iload_n 1, 1) := by decide +kernel
theorem dX3_init_6 : decode cX3_init 6 = .ok (.putfield 9, 3) := by decide +kernel
theorem dX3_init_9 : decode cX3_init 9 = .ok (.aload_n 0, 1) := by decide +kernel
theorem dX3_init_10 : decode cX3_init 10 = .ok (.iload_n 2, 1) := by decide +kernel
theorem dX3_init_11 : decode cX3_init 11 = .ok (.newarray .int, 2) := by decide +kernel
theorem dX3_init_13 : decode cX3_init 13 = .ok (.putfield 15, 3) := by decide +kernel
theorem dX3_init_16 : decode cX3_init 16 = .ok (.return_, 1) := by decide +kernel
theorem dX3_cut_0 : decode cX3_cut 0 = .ok (.aload_n 0, 1) := by decide +kernel
theorem dX3_cut_1 : decode cX3_cut 1 = .ok (.getfield 9, 3) := by decide +kernel
theorem dX3_cut_4 : decode cX3_cut 4 = .ok (.ifCond .ne 8, 3) := by decide +kernel
theorem dX3_cut_7 : decode cX3_cut 7 = .ok (.iload_n 1, 1) := by decide +kernel
theorem dX3_cut_8 : decode cX3_cut 8 = .ok (.i2b, 1) := by decide +kernel
theorem dX3_cut_9 : decode cX3_cut 9 = .ok (.goto 17, 3) := by decide +kernel
theorem dX3_cut_12 : decode cX3_cut 12 = .ok (.aload_n 0, 1) := by decide +kernel
theorem dX3_cut_13 : decode cX3_cut 13 = .ok (.getfield 9, 3) := by decide +kernel
theorem dX3_cut_16 : decode cX3_cut 16 = .ok (.iconst 1, 1) := by decide +kernel
theorem dX3_cut_17 : decode cX3_cut 17 = .ok (.if_icmp .ne 8, 3) := by decide +kernel
theorem dX3_cut_20 : decode cX3_cut 20 = .ok (.iload_n 1, 1) := by decide +kernel
theorem dX3_cut_21 : decode cX3_cut 21 = .ok (.i2s, 1) := by decide +kernel
theorem dX3_cut_22 : decode cX3_cut 22 = .ok (.goto 4, 3) := by decide +kernel
theorem dX3_cut_25 : decode cX3_cut 25 = .ok (.iload_n 1, 1) := by decide +kernel
theorem dX3_cut_26 : decode cX3_cut 26 = .ok (.ireturn, 1) := by decide +kernel
theorem dX3_spans_0 : decode cX3_spans 0 = .ok (.iload_n 1, 1) := by decide +kernel
theorem dX3_spans_1 : decode cX3_spans 1 = .ok (.ifCond .lt 18, 3) := by decide +kernel
theorem dX3_spans_4 : decode cX3_spans 4 = .ok (.iload_n 1, 1) := by decide +kernel
theorem dX3_spans_5 : decode cX3_spans 5 = .ok (.aload_n 0, 1) := by decide +kernel
theorem dX3_spans_6 : decode cX3_spans 6 = .ok (.getfield 15, 3) := by decide +kernel
theorem dX3_spans_9 : decode cX3_spans 9 = .ok (.arraylength, 1) := by decide +kernel
theorem dX3_spans_10 : decode cX3_spans 10 = .ok (.iload_n 2, 1) := by decide +kernel
theorem dX3_spans_11 : decode cX3_spans 11 = .ok (.isub, 1) := by decide +kernel
theorem dX3_spans_12 : decode cX3_spans 12 = .ok (.if_icmp .gt 7, 3) := by decide +kernel
theorem dX3_spans_15 : decode cX3_spans 15 = .ok (.iconst 1, 1) := by decide +kernel
theorem dX3_spans_16 : decode cX3_spans 16 = .ok (.goto 4, 3) := by decide +kernel
theorem dX3_spans_19 : decode cX3_spans 19 = .ok (.iconst 0, 1) := by decide +kernel
theorem dX3_spans_20 : decode cX3_spans 20 = .ok (.ireturn, 1) := by decide +kernel
theorem dX4_init_0 : decode cX4_init 0 = .ok (.aload_n 0, 1) := by decide +kernel
theorem dX4_init_1 : decode cX4_init 1 = .ok (.invokespecial 3, 3) := by decide +kernel
theorem dX4_init_4 : decode cX4_init 4 = .ok (.aload_n 0, 1) := by decide +kernel
theorem dX4_init_5 : decode cX4_init 5 = .ok (.bipush 12, 2) := by decide +kernel
theorem dX4_init_7 : decode cX4_init 7 = .ok (.newarray .int, 2) := by decide +kernel
theorem dX4_init_9 : decode cX4_init 9 = .ok (.putfield 9, 3) := by decide +kernel
theorem dX4_init_12 : decode cX4_init 12 = .ok (.aload_n 0, 1) := by decide +kernel
theorem dX4_init_13 : decode cX4_init 13 = .ok (.bipush 12, 2) := by decide +kernel
theorem dX4_init_15 : decode cX4_init 15 = .ok (.newarray .int, 2) := by decide +kernel
theorem dX4_init_17 : decode cX4_init 17 = .ok (.putfield 15, 3) := by decide +kernel
theorem dX4_init_20 : decode cX4_init 20 = .ok (.aload_n 0, 1) := by decide +kernel
theorem dX4_init_21 : decode cX4_init 21 = .ok (.bipush 12, 2) := by decide +kernel
theorem dX4_init_23 : decode cX4_init 23 = .ok (.newarray .int, 2) := by decide +kernel
theorem dX4_init_25 : decode cX4_init 25 = .ok (.putfield 18, 3) := by decide +kernel
theorem dX4_init_28 : decode cX4_init 28 = .ok (.aload_n 0, 1) := by decide +kernel
theorem dX4_init_29 : decode cX4_init 29 = .ok (.bipush 12, 2) := by decide +kernel
theorem dX4_init_31 : decode cX4_init 31 = .ok (.newarray .int, 2) := by decide +kernel
theorem dX4_init_33 : decode cX4_init 33 = .ok (.putfield 21, 3) := by decide +kernel
theorem dX4_init_36 : decode cX4_init 36 = .ok (.aload_n 0, 1) := by decide +kernel
theorem dX4_init_37 : decode cX4_init 37 = .ok (.iconst 0, 1) := by decide +kernel
theorem dX4_init_38 : decode cX4_init 38 = .ok (.putfield 24, 3) := by decide +kernel
theorem dX4_init_41 : decode cX4_init 41 = .ok (.aload_n 0, 1) := by decide +kernel
theorem dX4_init_42 : decode cX4_init 42 = .ok (.iconst 0, 1) := by decide +kernel
theorem dX4_init_43 : decode cX4_init 43 = .ok (.putfield 28, 3) := by decide +kernel
theorem dX4_init_46 : decode cX4_init 46 = .ok (.return_, 1) := by decide +kernel
theorem dX4_takeFrom_0 : decode cX4_takeFrom 0 = .ok (.aload_n 0, 1) := by decide +kernel
theorem dX4_takeFrom_1 : decode cX4_takeFrom 1 = .ok (.aload_n 1, 1) := by decide +kernel
theorem dX4_takeFrom_2 : decode cX4_takeFrom 2 = .ok (.invokevirtual 31, 3) := by decide +kernel
theorem dX4_takeFrom_5 : decode cX4_takeFrom 5 = .ok (.ifCond .eq 7, 3) := by decide +kernel
theorem dX4_takeFrom_8 : decode cX4_takeFrom 8 = .ok (.iconst 0, 1) := by decide +kernel
theorem dX4_takeFrom_9 : decode cX4_takeFrom 9 = .ok (.goto 16, 3) := by decide +kernel
theorem dX4_takeFrom_12 : decode cX4_takeFrom 12 = .ok (.bipush 12, 2) := by decide +kernel
theorem dX4_takeFrom_14 : decode cX4_takeFrom 14 = .ok (.aload_n 1, 1) := by decide +kernel
theorem dX4_takeFrom_15 : decode cX4_takeFrom 15 = .ok (.getfield 37, 3) := by decide +kernel
theorem dX4_takeFrom_18 : decode cX4_takeFrom 18 = .ok (.iconst 1, 1) := by decide +kernel
theorem dX4_takeFrom_19 : decode cX4_takeFrom 19 = .ok (.iadd, 1) := by decide +kernel
theorem dX4_takeFrom_20 : decode cX4_takeFrom 20 = .ok (.iconst 5, 1) := by decide +kernel
theorem dX4_takeFrom_21 : decode cX4_takeFrom 21 = .ok (.idiv, 1) := by decide +kernel
theorem dX4_takeFrom_22 : decode cX4_takeFrom 22 = .ok (.invokestatic 38, 3) := by decide +kernel
theorem dX4_takeFrom_25 : decode cX4_takeFrom 25 = .ok (.putfield 24, 3) := by decide +kernel
theorem dX4_takeFrom_28 : decode cX4_takeFrom 28 = .ok (.iconst 0, 1) := by decide +kernel
theorem dX4_takeFrom_29 : decode cX4_takeFrom 29 = .ok (.istore_n 2, 1) := by decide +kernel
theorem dX4_takeFrom_30 : decode cX4_takeFrom 30 = .ok (.iload_n 2, 1) := by decide +kernel
theorem dX4_takeFrom_31 : decode cX4_takeFrom 31 = .ok (.aload_n 0, 1) := by decide +kernel
theorem dX4_takeFrom_32 : decode cX4_takeFrom 32 = .ok (.getfield 24, 3) := by decide +kernel
theorem dX4_takeFrom_35 : decode cX4_takeFrom 35 = .ok (.if_icmp .ge 101, 3) := by decide +kernel
theorem dX4_takeFrom_38 : decode cX4_takeFrom 38 = .ok (.iload_n 2, 1) := by decide +kernel
theorem dX4_takeFrom_39 : decode cX4_takeFrom 39 = .ok (.iconst 5, 1) := by decide +kernel
theorem dX4_takeFrom_40 : decode cX4_takeFrom 40 = .ok (.imul, 1) := by decide +kernel
theorem dX4_takeFrom_41 : decode cX4_takeFrom 41 = .ok (.istore_n 3, 1) := by decide +kernel
theorem dX4_takeFrom_42 : decode cX4_takeFrom 42 = .ok (.aload_n 0, 1) := by decide +kernel
theorem dX4_takeFrom_43 : decode cX4_takeFrom 43 = .ok (.getfield 9, 3) := by decide +kernel
theorem dX4_takeFrom_46 : decode cX4_takeFrom 46 = .ok (.iload_n 2, 1) := by decide +kernel
theorem dX4_takeFrom_47 : decode cX4_takeFrom 47 = .ok (.aload_n 1, 1) := by decide +kernel
theorem dX4_takeFrom_48 : decode cX4_takeFrom 48 = .ok (.getfield 44, 3) := by decide +kernel
theorem dX4_takeFrom_51 : decode cX4_takeFrom 51 = .ok (.iload_n 3, 1) := by decide +kernel
theorem dX4_takeFrom_52 : decode cX4_takeFrom 52 = .ok (.iaload, 1) := by decide +kernel
theorem dX4_takeFrom_53 : decode cX4_takeFrom 53 = .ok (.bipush 97, 2) := by decide +kernel
theorem dX4_takeFrom_55 : decode cX4_takeFrom 55 = .ok (.isub, 1) := by decide +kernel
theorem dX4_takeFrom_56 : decode cX4_takeFrom 56 = .ok (.iastore, 1) := by decide +kernel
theorem dX4_takeFrom_57 : decode cX4_takeFrom 57 = .ok (.aload_n 0, 1) := by decide +kernel
theorem dX4_takeFrom_58 : decode cX4_takeFrom 58 = .ok (.getfield 15, 3) := by decide +kernel
theorem dX4_takeFrom_61 : decode cX4_takeFrom 61 = .ok (.iload_n 2, 1) := by decide +kernel
theorem dX4_takeFrom_62 : decode cX4_takeFrom 62 = .ok (.aload_n 1, 1) := by decide +kernel
theorem dX4_takeFrom_63 : decode cX4_takeFrom 63 = .ok (.getfield 44, 3) := by decide +kernel
theorem dX4_takeFrom_66 : decode cX4_takeFrom 66 = .ok (.iload_n 3, 1) := by decide +kernel
theorem dX4_takeFrom_67 : decode cX4_takeFrom 67 = .ok (.iconst 1, 1) := by decide +kernel
theorem dX4_takeFrom_68 : decode cX4_takeFrom 68 = .ok (.iadd, 1) := by decide +kernel
theorem dX4_takeFrom_69 : decode cX4_takeFrom 69 = .ok (.iaload, 1) := by decide +kernel
theorem dX4_takeFrom_70 : decode cX4_takeFrom 70 = .ok (.bipush 48, 2) := by decide +kernel
theorem dX4_takeFrom_72 : decode cX4_takeFrom 72 = .ok (.isub, 1) := by decide +kernel
theorem dX4_takeFrom_73 : decode cX4_takeFrom 73 = .ok (.iastore, 1) := by decide +kernel
theorem dX4_takeFrom_74 : decode cX4_takeFrom 74 = .ok (.aload_n 0, 1) := by decide +kernel
theorem dX4_takeFrom_75 : decode cX4_takeFrom 75 = .ok (.getfield 18, 3) := by decide +kernel
theorem dX4_takeFrom_78 : decode cX4_takeFrom 78 = .ok (.iload_n 2, 1) := by decide +kernel
theorem dX4_takeFrom_79 : decode cX4_takeFrom 79 = .ok (.aload_n 1, 1) := by decide +kernel
theorem dX4_takeFrom_80 : decode cX4_takeFrom 80 = .ok (.getfield 44, 3) := by decide +kernel
theorem dX4_takeFrom_83 : decode cX4_takeFrom 83 = .ok (.iload_n 3, 1) := by decide +kernel
theorem dX4_takeFrom_84 : decode cX4_takeFrom 84 = .ok (.iconst 2, 1) := by decide +kernel
theorem dX4_takeFrom_85 : decode cX4_takeFrom 85 = .ok (.iadd, 1) := by decide +kernel
theorem dX4_takeFrom_86 : decode cX4_takeFrom 86 = .ok (.iaload, 1) := by decide +kernel
theorem dX4_takeFrom_87 : decode cX4_takeFrom 87 = .ok (.bipush 48, 2) := by decide +kernel
theorem dX4_takeFrom_89 : decode cX4_takeFrom 89 = .ok (.isub, 1) := by decide +kernel
theorem dX4_takeFrom_90 : decode cX4_takeFrom 90 = .ok (.iastore, 1) := by decide +kernel
theorem dX4_takeFrom_91 : decode cX4_takeFrom 91 = .ok (.aload_n 1, 1) := by decide +kernel
theorem dX4_takeFrom_92 : decode cX4_takeFrom 92 = .ok (.getfield 44, 3) := by decide +kernel
theorem dX4_takeFrom_95 : decode cX4_takeFrom 95 = .ok (.iload_n 3, 1) := by decide +kernel
theorem dX4_takeFrom_96 : decode cX4_takeFrom 96 = .ok (.iconst 3, 1) := by decide +kernel
theorem dX4_takeFrom_97 : decode cX4_takeFrom 97 = .ok (.iadd, 1) := by decide +kernel
theorem dX4_takeFrom_98 : decode cX4_takeFrom 98 = .ok (.iaload, 1) := by decide +kernel
theorem dX4_takeFrom_99 : decode cX4_takeFrom 99 = .ok (.istore 4, 2) := by decide +kernel
theorem dX4_takeFrom_101 : decode cX4_takeFrom 101 = .ok (.aload_n 0, 1) := by decide +kernel
theorem dX4_takeFrom_102 : decode cX4_takeFrom 102 = .ok (.getfield 21, 3) := by decide +kernel
theorem dX4_takeFrom_105 : decode cX4_takeFrom 105 = .ok (.iload_n 2, 1) := by decide +kernel
theorem dX4_takeFrom_106 : decode cX4_takeFrom 106 = .ok (.iload 4, 2) := by decide +kernel
theorem dX4_takeFrom_108 : decode cX4_takeFrom 108 = .ok (.bipush 115, 2) := by decide +kernel
theorem dX4_takeFrom_110 : decode cX4_takeFrom 110 = .ok (.if_icmp .ne 7, 3) := by decide +kernel
theorem dX4_takeFrom_113 : decode cX4_takeFrom 113 = .ok (.iconst 0, 1) := by decide +kernel
theorem dX4_takeFrom_114 : decode cX4_takeFrom 114 = .ok (.goto 15, 3) := by decide +kernel
theorem dX4_takeFrom_117 : decode cX4_takeFrom 117 = .ok (.iload 4, 2) := by decide +kernel
theorem dX4_takeFrom_119 : decode cX4_takeFrom 119 = .ok (.bipush 100, 2) := by decide +kernel
theorem dX4_takeFrom_121 : decode cX4_takeFrom 121 = .ok (.if_icmp .ne 7, 3) := by decide +kernel
theorem dX4_takeFrom_124 : decode cX4_takeFrom 124 = .ok (.iconst 1, 1) := by decide +kernel
theorem dX4_takeFrom_125 : decode cX4_takeFrom 125 = .ok (.goto 4, 3) := by decide +kernel
theorem dX4_takeFrom_128 : decode cX4_takeFrom 128 = .ok (.iconst 2, 1) := by decide +kernel
theorem dX4_takeFrom_129 : decode cX4_takeFrom 129 = .ok (.iastore, 1) := by decide +kernel
theorem dX4_takeFrom_130 : decode cX4_takeFrom 130 = .ok (.iinc 2 1, 3) := by decide +kernel
theorem dX4_takeFrom_133 : decode cX4_takeFrom 133 = .ok (.goto (-103), 3) := by decide +kernel
theorem dX4_takeFrom_136 : decode cX4_takeFrom 136 = .ok (.return_, 1) := by decide +kernel
theorem dX4_becomeLike_0 : decode cX4_becomeLike 0 = .ok (.aload_n 0, 1) := by decide +kernel
theorem dX4_becomeLike_1 : decode cX4_becomeLike 1 = .ok (.aload_n 1, 1) := by decide +kernel
theorem dX4_becomeLike_2 : decode cX4_becomeLike 2 = .ok (.getfield 24, 3) := by decide +kernel
theorem dX4_becomeLike_5 : decode cX4_becomeLike 5 = .ok (.putfield 24, 3) := by decide +kernel
theorem dX4_becomeLike_8 : decode cX4_becomeLike 8 = .ok (.iconst 0, 1) := by decide +kernel
theorem dX4_becomeLike_9 : decode cX4_becomeLike 9 = .ok (.istore_n 2, 1) := by decide +kernel
theorem dX4_becomeLike_10 : decode cX4_becomeLike 10 = .ok (.iload_n 2, 1) := by decide +kernel
theorem dX4_becomeLike_11 : decode cX4_becomeLike 11 = .ok (.aload_n 0, 1) := by decide +kernel
theorem dX4_becomeLike_12 : decode cX4_becomeLike 12 = .ok (.getfield 24, 3) := by decide +kernel
theorem dX4_becomeLike_15 : decode cX4_becomeLike 15 = .ok (.if_icmp .ge 16, 3) := by decide +kernel
theorem dX4_becomeLike_18 : decode cX4_becomeLike 18 = .ok (.aload_n 0, 1) := by decide +kernel
theorem dX4_becomeLike_19 : decode cX4_becomeLike 19 = .ok (.iload_n 2, 1) := by decide +kernel
theorem dX4_becomeLike_20 : decode cX4_becomeLike 20 = .ok (.aload_n 1, 1) := by decide +kernel
theorem dX4_becomeLike_21 : decode cX4_becomeLike 21 = .ok (.iload_n 2, 1) := by decide +kernel
theorem dX4_becomeLike_22 : decode cX4_becomeLike 22 = .ok (.invokevirtual 47, 3) := by decide +kernel
theorem dX4_becomeLike_25 : decode cX4_becomeLike 25 = .ok (.iinc 2 1, 3) := by decide +kernel
theorem dX4_becomeLike_28 : decode cX4_becomeLike 28 = .ok (.goto (-18), 3) := by decide +kernel
theorem dX4_becomeLike_31 : decode cX4_becomeLike 31 = .ok (.return_, 1) := by decide +kernel
theorem dX4_leaveOut_0 : decode cX4_leaveOut 0 = .ok (.iload_n 1, 1) := by decide +kernel
theorem dX4_leaveOut_1 : decode cX4_leaveOut 1 = .ok (.istore_n 2, 1) := by decide +kernel
theorem dX4_leaveOut_2 : decode cX4_leaveOut 2 = .ok (.iload_n 2, 1) := by decide +kernel
theorem dX4_leaveOut_3 : decode cX4_leaveOut 3 = .ok (.iconst 1, 1) := by decide +kernel
theorem dX4_leaveOut_4 : decode cX4_leaveOut 4 = .ok (.iadd, 1) := by decide +kernel
theorem dX4_leaveOut_5 : decode cX4_leaveOut 5 = .ok (.aload_n 0, 1) := by decide +kernel
theorem dX4_leaveOut_6 : decode cX4_leaveOut 6 = .ok (.getfield 24, 3) := by decide +kernel
theorem dX4_leaveOut_9 : decode cX4_leaveOut 9 = .ok (.if_icmp .ge 18, 3) := by decide +kernel
theorem dX4_leaveOut_12 : decode cX4_leaveOut 12 = .ok (.aload_n 0, 1) := by decide +kernel
theorem dX4_leaveOut_13 : decode cX4_leaveOut 13 = .ok (.iload_n 2, 1) := by decide +kernel
theorem dX4_leaveOut_14 : decode cX4_leaveOut 14 = .ok (.aload_n 0, 1) := by decide +kernel
theorem dX4_leaveOut_15 : decode cX4_leaveOut 15 = .ok (.iload_n 2, 1) := by decide +kernel
theorem dX4_leaveOut_16 : decode cX4_leaveOut 16 = .ok (.iconst 1, 1) := by decide +kernel
theorem dX4_leaveOut_17 : decode cX4_leaveOut 17 = .ok (.iadd, 1) := by decide +kernel
theorem dX4_leaveOut_18 : decode cX4_leaveOut 18 = .ok (.invokevirtual 47, 3) := by decide +kernel
theorem dX4_leaveOut_21 : decode cX4_leaveOut 21 = .ok (.iinc 2 1, 3) := by decide +kernel
theorem dX4_leaveOut_24 : decode cX4_leaveOut 24 = .ok (.goto (-22), 3) := by decide +kernel
theorem dX4_leaveOut_27 : decode cX4_leaveOut 27 = .ok (.aload_n 0, 1) := by decide +kernel
theorem dX4_leaveOut_28 : decode cX4_leaveOut 28 = .ok (.dup, 1) := by decide +kernel
theorem dX4_leaveOut_29 : decode cX4_leaveOut 29 = .ok (.getfield 24, 3) := by decide +kernel
theorem dX4_leaveOut_32 : decode cX4_leaveOut 32 = .ok (.iconst 1, 1) := by decide +kernel
theorem dX4_leaveOut_33 : decode cX4_leaveOut 33 = .ok (.isub, 1) := by decide +kernel
theorem dX4_leaveOut_34 : decode cX4_leaveOut 34 = .ok (.putfield 24, 3) := by decide +kernel
theorem dX4_leaveOut_37 : decode cX4_leaveOut 37 = .ok (.return_, 1) := by decide +kernel
theorem dX4_takeOver_0 : decode cX4_takeOver 0 = .ok (.aload_n 0, 1) := by decide +kernel
theorem dX4_takeOver_1 : decode cX4_takeOver 1 = .ok (.getfield 9, 3) := by decide +kernel
theorem dX4_takeOver_4 : decode cX4_takeOver 4 = .ok (.iload_n 1, 1) := by decide +kernel
theorem dX4_takeOver_5 : decode cX4_takeOver 5 = .ok (.aload_n 2, 1) := by decide +kernel
theorem dX4_takeOver_6 : decode cX4_takeOver 6 = .ok (.getfield 9, 3) := by decide +kernel
theorem dX4_takeOver_9 : decode cX4_takeOver 9 = .ok (.iload_n 3, 1) := by decide +kernel
theorem dX4_takeOver_10 : decode cX4_takeOver 10 = .ok (.iaload, 1) := by decide +kernel
theorem dX4_takeOver_11 : decode cX4_takeOver 11 = .ok (.iastore, 1) := by decide +kernel
theorem dX4_takeOver_12 : decode cX4_takeOver 12 = .ok (.aload_n 0, 1) := by decide +kernel
theorem dX4_takeOver_13 : decode cX4_takeOver 13 = .ok (.getfield 15, 3) := by decide +kernel
theorem dX4_takeOver_16 : decode cX4_takeOver 16 = .ok (.iload_n 1, 1) := by decide +kernel
theorem dX4_takeOver_17 : decode cX4_takeOver 17 = .ok (.aload_n 2, 1) := by decide +kernel
theorem dX4_takeOver_18 : decode cX4_takeOver 18 = .ok (.getfield 15, 3) := by decide +kernel
theorem dX4_takeOver_21 : decode cX4_takeOver 21 = .ok (.iload_n 3, 1) := by decide +kernel
theorem dX4_takeOver_22 : decode cX4_takeOver 22 = .ok (.iaload, 1) := by decide +kernel
theorem dX4_takeOver_23 : decode cX4_takeOver 23 = .ok (.iastore, 1) := by decide +kernel
theorem dX4_takeOver_24 : decode cX4_takeOver 24 = .ok (.aload_n 0, 1) := by decide +kernel
theorem dX4_takeOver_25 : decode cX4_takeOver 25 = .ok (.getfield 18, 3) := by decide +kernel
theorem dX4_takeOver_28 : decode cX4_takeOver 28 = .ok (.iload_n 1, 1) := by decide +kernel
theorem dX4_takeOver_29 : decode cX4_takeOver 29 = .ok (.aload_n 2, 1) := by decide +kernel
theorem dX4_takeOver_30 : decode cX4_takeOver 30 = .ok (.getfield 18, 3) := by decide +kernel
theorem dX4_takeOver_33 : decode cX4_takeOver 33 = .ok (.iload_n 3, 1) := by decide +kernel
theorem dX4_takeOver_34 : decode cX4_takeOver 34 = .ok (.iaload, 1) := by decide +kernel
theorem dX4_takeOver_35 : decode cX4_takeOver 35 = .ok (.iastore, 1) := by decide +kernel
theorem dX4_takeOver_36 : decode cX4_takeOver 36 = .ok (.aload_n 0, 1) := by decide +kernel
theorem dX4_takeOver_37 : decode cX4_takeOver 37 = .ok (.getfield 21, 3) := by decide +kernel
theorem dX4_takeOver_40 : decode cX4_takeOver 40 = .ok (.iload_n 1, 1) := by decide +kernel
theorem dX4_takeOver_41 : decode cX4_takeOver 41 = .ok (.aload_n 2, 1) := by decide +kernel
theorem dX4_takeOver_42 : decode cX4_takeOver 42 = .ok (.getfield 21, 3) := by decide +kernel
theorem dX4_takeOver_45 : decode cX4_takeOver 45 = .ok (.iload_n 3, 1) := by decide +kernel
theorem dX4_takeOver_46 : decode cX4_takeOver 46 = .ok (.iaload, 1) := by decide +kernel
theorem dX4_takeOver_47 : decode cX4_takeOver 47 = .ok (.iastore, 1) := by decide +kernel
theorem dX4_takeOver_48 : decode cX4_takeOver 48 = .ok (.return_, 1) := by decide +kernel
theorem dX4_drawLots_0 : decode cX4_drawLots 0 = .ok (.aload_n 0, 1) := by decide +kernel
theorem dX4_drawLots_1 : decode cX4_drawLots 1 = .ok (.iload_n 1, 1) := by decide +kernel
theorem dX4_drawLots_2 : decode cX4_drawLots 2 = .ok (.putfield 28, 3) := by decide +kernel
theorem dX4_drawLots_5 : decode cX4_drawLots 5 = .ok (.aload_n 0, 1) := by decide +kernel
theorem dX4_drawLots_6 : decode cX4_drawLots 6 = .ok (.iload_n 2, 1) := by decide +kernel
theorem dX4_drawLots_7 : decode cX4_drawLots 7 = .ok (.putfield 24, 3) := by decide +kernel
theorem dX4_drawLots_10 : decode cX4_drawLots 10 = .ok (.iconst 0, 1) := by decide +kernel
theorem dX4_drawLots_11 : decode cX4_drawLots 11 = .ok (.istore_n 3, 1) := by decide +kernel
theorem dX4_drawLots_12 : decode cX4_drawLots 12 = .ok (.iload_n 3, 1) := by decide +kernel
theorem dX4_drawLots_13 : decode cX4_drawLots 13 = .ok (.aload_n 0, 1) := by decide +kernel
theorem dX4_drawLots_14 : decode cX4_drawLots 14 = .ok (.getfield 24, 3) := by decide +kernel
theorem dX4_drawLots_17 : decode cX4_drawLots 17 = .ok (.if_icmp .ge 60, 3) := by decide +kernel
theorem dX4_drawLots_20 : decode cX4_drawLots 20 = .ok (.aload_n 0, 1) := by decide +kernel
theorem dX4_drawLots_21 : decode cX4_drawLots 21 = .ok (.getfield 9, 3) := by decide +kernel
theorem dX4_drawLots_24 : decode cX4_drawLots 24 = .ok (.iload_n 3, 1) := by decide +kernel
theorem dX4_drawLots_25 : decode cX4_drawLots 25 = .ok (.aload_n 0, 1) := by decide +kernel
theorem dX4_drawLots_26 : decode cX4_drawLots 26 = .ok (.invokevirtual 51, 3) := by decide +kernel
theorem dX4_drawLots_29 : decode cX4_drawLots 29 = .ok (.bipush 24, 2) := by decide +kernel
theorem dX4_drawLots_31 : decode cX4_drawLots 31 = .ok (.irem, 1) := by decide +kernel
theorem dX4_drawLots_32 : decode cX4_drawLots 32 = .ok (.iastore, 1) := by decide +kernel
theorem dX4_drawLots_33 : decode cX4_drawLots 33 = .ok (.aload_n 0, 1) := by decide +kernel
theorem dX4_drawLots_34 : decode cX4_drawLots 34 = .ok (.getfield 15, 3) := by decide +kernel
theorem dX4_drawLots_37 : decode cX4_drawLots 37 = .ok (.iload_n 3, 1) := by decide +kernel
theorem dX4_drawLots_38 : decode cX4_drawLots 38 = .ok (.aload_n 0, 1) := by decide +kernel
theorem dX4_drawLots_39 : decode cX4_drawLots 39 = .ok (.invokevirtual 51, 3) := by decide +kernel
theorem dX4_drawLots_42 : decode cX4_drawLots 42 = .ok (.bipush 8, 2) := by decide +kernel
theorem dX4_drawLots_44 : decode cX4_drawLots 44 = .ok (.irem, 1) := by decide +kernel
theorem dX4_drawLots_45 : decode cX4_drawLots 45 = .ok (.iastore, 1) := by decide +kernel
theorem dX4_drawLots_46 : decode cX4_drawLots 46 = .ok (.aload_n 0, 1) := by decide +kernel
theorem dX4_drawLots_47 : decode cX4_drawLots 47 = .ok (.getfield 18, 3) := by decide +kernel
theorem dX4_drawLots_50 : decode cX4_drawLots 50 = .ok (.iload_n 3, 1) := by decide +kernel
theorem dX4_drawLots_51 : decode cX4_drawLots 51 = .ok (.aload_n 0, 1) := by decide +kernel
theorem dX4_drawLots_52 : decode cX4_drawLots 52 = .ok (.invokevirtual 51, 3) := by decide +kernel
theorem dX4_drawLots_55 : decode cX4_drawLots 55 = .ok (.bipush 10, 2) := by decide +kernel
theorem dX4_drawLots_57 : decode cX4_drawLots 57 = .ok (.irem, 1) := by decide +kernel
theorem dX4_drawLots_58 : decode cX4_drawLots 58 = .ok (.iastore, 1) := by decide +kernel
theorem dX4_drawLots_59 : decode cX4_drawLots 59 = .ok (.aload_n 0, 1) := by decide +kernel
theorem dX4_drawLots_60 : decode cX4_drawLots 60 = .ok (.getfield 21, 3) := by decide +kernel
theorem dX4_drawLots_63 : decode cX4_drawLots 63 = .ok (.iload_n 3, 1) := by decide +kernel
theorem dX4_drawLots_64 : decode cX4_drawLots 64 = .ok (.aload_n 0, 1) := by decide +kernel
theorem dX4_drawLots_65 : decode cX4_drawLots 65 = .ok (.invokevirtual 51, 3) := by decide +kernel
theorem dX4_drawLots_68 : decode cX4_drawLots 68 = .ok (.iconst 3, 1) := by decide +kernel
theorem dX4_drawLots_69 : decode cX4_drawLots 69 = .ok (.irem, 1) := by decide +kernel
theorem dX4_drawLots_70 : decode cX4_drawLots 70 = .ok (.iastore, 1) := by decide +kernel
theorem dX4_drawLots_71 : decode cX4_drawLots 71 = .ok (.iinc 3 1, 3) := by decide +kernel
theorem dX4_drawLots_74 : decode cX4_drawLots 74 = .ok (.goto (-62), 3) := by decide +kernel
theorem dX4_drawLots_77 : decode cX4_drawLots 77 = .ok (.return_, 1) := by decide +kernel
theorem dX4_nextLot_0 : decode cX4_nextLot 0 = .ok (.aload_n 0, 1) := by decide +kernel
theorem dX4_nextLot_1 : decode cX4_nextLot 1 = .ok (.ldc 55, 2) := by decide +kernel
theorem dX4_nextLot_3 : decode cX4_nextLot 3 = .ok (.aload_n 0, 1) := by decide +kernel
theorem dX4_nextLot_4 : decode cX4_nextLot 4 = .ok (.getfield 28, 3) := by decide +kernel
theorem dX4_nextLot_7 : decode cX4_nextLot 7 = .ok (.imul, 1) := by decide +kernel
theorem dX4_nextLot_8 : decode cX4_nextLot 8 = .ok (.sipush 12345, 3) := by decide +kernel
theorem dX4_nextLot_11 : decode cX4_nextLot 11 = .ok (.iadd, 1) := by decide +kernel
theorem dX4_nextLot_12 : decode cX4_nextLot 12 = .ok (.putfield 28, 3) := by decide +kernel
theorem dX4_nextLot_15 : decode cX4_nextLot 15 = .ok (.aload_n 0, 1) := by decide +kernel
theorem dX4_nextLot_16 : decode cX4_nextLot 16 = .ok (.getfield 28, 3) := by decide +kernel
theorem dX4_nextLot_19 : decode cX4_nextLot 19 = .ok (.bipush 16, 2) := by decide +kernel
theorem dX4_nextLot_21 : decode cX4_nextLot 21 = .ok (.iushr, 1) := by decide +kernel
theorem dX4_nextLot_22 : decode cX4_nextLot 22 = .ok (.ireturn, 1) := by decide +kernel
theorem dX4_apart_0 : decode cX4_apart 0 = .ok (.aload_n 0, 1) := by decide +kernel
theorem dX4_apart_1 : decode cX4_apart 1 = .ok (.getfield 18, 3) := by decide +kernel
theorem dX4_apart_4 : decode cX4_apart 4 = .ok (.iload_n 1, 1) := by decide +kernel
theorem dX4_apart_5 : decode cX4_apart 5 = .ok (.iaload, 1) := by decide +kernel
theorem dX4_apart_6 : decode cX4_apart 6 = .ok (.aload_n 0, 1) := by decide +kernel
theorem dX4_apart_7 : decode cX4_apart 7 = .ok (.getfield 18, 3) := by decide +kernel
theorem dX4_apart_10 : decode cX4_apart 10 = .ok (.iload_n 2, 1) := by decide +kernel
theorem dX4_apart_11 : decode cX4_apart 11 = .ok (.iaload, 1) := by decide +kernel
theorem dX4_apart_12 : decode cX4_apart 12 = .ok (.if_icmp .ne 42, 3) := by decide +kernel
theorem dX4_apart_15 : decode cX4_apart 15 = .ok (.aload_n 0, 1) := by decide +kernel
theorem dX4_apart_16 : decode cX4_apart 16 = .ok (.getfield 15, 3) := by decide +kernel
theorem dX4_apart_19 : decode cX4_apart 19 = .ok (.iload_n 1, 1) := by decide +kernel
theorem dX4_apart_20 : decode cX4_apart 20 = .ok (.iaload, 1) := by decide +kernel
theorem dX4_apart_21 : decode cX4_apart 21 = .ok (.aload_n 0, 1) := by decide +kernel
theorem dX4_apart_22 : decode cX4_apart 22 = .ok (.getfield 15, 3) := by decide +kernel
theorem dX4_apart_25 : decode cX4_apart 25 = .ok (.iload_n 2, 1) := by decide +kernel
theorem dX4_apart_26 : decode cX4_apart 26 = .ok (.iaload, 1) := by decide +kernel
theorem dX4_apart_27 : decode cX4_apart 27 = .ok (.isub, 1) := by decide +kernel
theorem dX4_apart_28 : decode cX4_apart 28 = .ok (.invokestatic 56, 3) := by decide +kernel
theorem dX4_apart_31 : decode cX4_apart 31 = .ok (.aload_n 0, 1) := by decide +kernel
theorem dX4_apart_32 : decode cX4_apart 32 = .ok (.getfield 9, 3) := by decide +kernel
theorem dX4_apart_35 : decode cX4_apart 35 = .ok (.iload_n 1, 1) := by decide +kernel
theorem dX4_apart_36 : decode cX4_apart 36 = .ok (.iaload, 1) := by decide +kernel
theorem dX4_apart_37 : decode cX4_apart 37 = .ok (.aload_n 0, 1) := by decide +kernel
theorem dX4_apart_38 : decode cX4_apart 38 = .ok (.getfield 9, 3) := by decide +kernel
theorem dX4_apart_41 : decode cX4_apart 41 = .ok (.iload_n 2, 1) := by decide +kernel
theorem dX4_apart_42 : decode cX4_apart 42 = .ok (.iaload, 1) := by decide +kernel
theorem dX4_apart_43 : decode cX4_apart 43 = .ok (.isub, 1) := by decide +kernel
theorem dX4_apart_44 : decode cX4_apart 44 = .ok (.invokestatic 56, 3) := by decide +kernel
theorem dX4_apart_47 : decode cX4_apart 47 = .ok (.if_icmp .le 7, 3) := by decide +kernel
theorem dX4_apart_50 : decode cX4_apart 50 = .ok (.iconst 1, 1) := by decide +kernel
theorem dX4_apart_51 : decode cX4_apart 51 = .ok (.goto 4, 3) := by decide +kernel
theorem dX4_apart_54 : decode cX4_apart 54 = .ok (.iconst 0, 1) := by decide +kernel
theorem dX4_apart_55 : decode cX4_apart 55 = .ok (.ireturn, 1) := by decide +kernel
theorem dX4_together_0 : decode cX4_together 0 = .ok (.iconst 0, 1) := by decide +kernel
theorem dX4_together_1 : decode cX4_together 1 = .ok (.istore_n 2, 1) := by decide +kernel
theorem dX4_together_2 : decode cX4_together 2 = .ok (.iload_n 2, 1) := by decide +kernel
theorem dX4_together_3 : decode cX4_together 3 = .ok (.aload_n 0, 1) := by decide +kernel
theorem dX4_together_4 : decode cX4_together 4 = .ok (.getfield 24, 3) := by decide +kernel
theorem dX4_together_7 : decode cX4_together 7 = .ok (.if_icmp .ge 46, 3) := by decide +kernel
theorem dX4_together_10 : decode cX4_together 10 = .ok (.iconst 0, 1) := by decide +kernel
theorem dX4_together_11 : decode cX4_together 11 = .ok (.istore_n 3, 1) := by decide +kernel
theorem dX4_together_12 : decode cX4_together 12 = .ok (.iload_n 3, 1) := by decide +kernel
theorem dX4_together_13 : decode cX4_together 13 = .ok (.iload_n 2, 1) := by decide +kernel
theorem dX4_together_14 : decode cX4_together 14 = .ok (.if_icmp .ge 33, 3) := by decide +kernel
theorem dX4_together_17 : decode cX4_together 17 = .ok (.iload_n 1, 1) := by decide +kernel
theorem dX4_together_18 : decode cX4_together 18 = .ok (.iload_n 2, 1) := by decide +kernel
theorem dX4_together_19 : decode cX4_together 19 = .ok (.ishr, 1) := by decide +kernel
theorem dX4_together_20 : decode cX4_together 20 = .ok (.iload_n 1, 1) := by decide +kernel
theorem dX4_together_21 : decode cX4_together 21 = .ok (.iload_n 3, 1) := by decide +kernel
theorem dX4_together_22 : decode cX4_together 22 = .ok (.ishr, 1) := by decide +kernel
theorem dX4_together_23 : decode cX4_together 23 = .ok (.iand, 1) := by decide +kernel
theorem dX4_together_24 : decode cX4_together 24 = .ok (.iconst 1, 1) := by decide +kernel
theorem dX4_together_25 : decode cX4_together 25 = .ok (.iand, 1) := by decide +kernel
theorem dX4_together_26 : decode cX4_together 26 = .ok (.iconst 1, 1) := by decide +kernel
theorem dX4_together_27 : decode cX4_together 27 = .ok (.if_icmp .ne 14, 3) := by decide +kernel
theorem dX4_together_30 : decode cX4_together 30 = .ok (.aload_n 0, 1) := by decide +kernel
theorem dX4_together_31 : decode cX4_together 31 = .ok (.iload_n 2, 1) := by decide +kernel
theorem dX4_together_32 : decode cX4_together 32 = .ok (.iload_n 3, 1) := by decide +kernel
theorem dX4_together_33 : decode cX4_together 33 = .ok (.invokevirtual 60, 3) := by decide +kernel
theorem dX4_together_36 : decode cX4_together 36 = .ok (.ifCond .eq 5, 3) := by decide +kernel
theorem dX4_together_39 : decode cX4_together 39 = .ok (.iconst 0, 1) := by decide +kernel
theorem dX4_together_40 : decode cX4_together 40 = .ok (.ireturn, 1) := by decide +kernel
theorem dX4_together_41 : decode cX4_together 41 = .ok (.iinc 3 1, 3) := by decide +kernel
theorem dX4_together_44 : decode cX4_together 44 = .ok (.goto (-32), 3) := by decide +kernel
theorem dX4_together_47 : decode cX4_together 47 = .ok (.iinc 2 1, 3) := by decide +kernel
theorem dX4_together_50 : decode cX4_together 50 = .ok (.goto (-48), 3) := by decide +kernel
theorem dX4_together_53 : decode cX4_together 53 = .ok (.iconst 1, 1) := by decide +kernel
theorem dX4_together_54 : decode cX4_together 54 = .ok (.ireturn, 1) := by decide +kernel
theorem dX5_init_0 : decode cX5_init 0 = .ok (.aload_n 0, 1) := by decide +kernel
theorem dX5_init_1 : decode cX5_init 1 = .ok (.invokespecial 3, 3) := by decide +kernel
theorem dX5_init_4 : decode cX5_init 4 = .ok (.aload_n 0, 1) := by decide +kernel
theorem dX5_init_5 : decode cX5_init 5 = .ok (.iconst 0, 1) := by decide +kernel
theorem dX5_init_6 : decode cX5_init 6 = .ok (.putfield 9, 3) := by decide +kernel
theorem dX5_init_9 : decode cX5_init 9 = .ok (.aload_n 0, 1) := by decide +kernel
theorem dX5_init_10 : decode cX5_init 10 = .ok (.iload_n 1, 1) := by decide +kernel
theorem dX5_init_11 : decode cX5_init 11 = .ok (.newarray .int, 2) := by decide +kernel
theorem dX5_init_13 : decode cX5_init 13 = .ok (.putfield 15, 3) := by decide +kernel
theorem dX5_init_16 : decode cX5_init 16 = .ok (.aload_n 0, 1) := by decide +kernel
theorem dX5_init_17 : decode cX5_init 17 = .ok (.iload_n 2, 1) := by decide +kernel
theorem dX5_init_18 : decode cX5_init 18 = .ok (.putfield 19, 3) := by decide +kernel
theorem dX5_init_21 : decode cX5_init 21 = .ok (.return_, 1) := by decide +kernel
theorem dX5_faultPlace_0 : decode cX5_faultPlace 0 = .ok (.iconst 0, 1) := by decide +kernel
theorem dX5_faultPlace_1 : decode cX5_faultPlace 1 = .ok (.istore_n 1, 1) := by decide +kernel
theorem dX5_faultPlace_2 : decode cX5_faultPlace 2 = .ok (.iconst 0, 1) := by decide +kernel
theorem dX5_faultPlace_3 : decode cX5_faultPlace 3 = .ok (.istore_n 2, 1) := by decide +kernel
theorem dX5_faultPlace_4 : decode cX5_faultPlace 4 = .ok (.iload_n 2, 1) := by decide +kernel
theorem dX5_faultPlace_5 : decode cX5_faultPlace 5 = .ok (.aload_n 0, 1) := by decide +kernel
theorem dX5_faultPlace_6 : decode cX5_faultPlace 6 = .ok (.getfield 9, 3) := by decide +kernel
theorem dX5_faultPlace_9 : decode cX5_faultPlace 9 = .ok (.if_icmp .ge 43, 3) := by decide +kernel
theorem dX5_faultPlace_12 : decode cX5_faultPlace 12 = .ok (.aload_n 0, 1) := by decide +kernel
theorem dX5_faultPlace_13 : decode cX5_faultPlace 13 = .ok (.iload_n 1, 1) := by decide +kernel
theorem dX5_faultPlace_14 : decode cX5_faultPlace 14 = .ok (.aload_n 0, 1) := by decide +kernel
theorem dX5_faultPlace_15 : decode cX5_faultPlace 15 = .ok (.getfield 15, 3) := by decide +kernel
theorem dX5_faultPlace_18 : decode cX5_faultPlace 18 = .ok (.iload_n 2, 1) := by decide +kernel
theorem dX5_faultPlace_19 : decode cX5_faultPlace 19 = .ok (.iaload, 1) := by decide +kernel
theorem dX5_faultPlace_20 : decode cX5_faultPlace 20 = .ok (.invokevirtual 22, 3) := by decide +kernel
theorem dX5_faultPlace_23 : decode cX5_faultPlace 23 = .ok (.ifCond .ne 5, 3) := by decide +kernel
theorem dX5_faultPlace_26 : decode cX5_faultPlace 26 = .ok (.iload_n 2, 1) := by decide +kernel
theorem dX5_faultPlace_27 : decode cX5_faultPlace 27 = .ok (.ireturn, 1) := by decide +kernel
theorem dX5_faultPlace_28 : decode cX5_faultPlace 28 = .ok (.iload_n 1, 1) := by decide +kernel
theorem dX5_faultPlace_29 : decode cX5_faultPlace 29 = .ok (.iconst 1, 1) := by decide +kernel
theorem dX5_faultPlace_30 : decode cX5_faultPlace 30 = .ok (.iadd, 1) := by decide +kernel
theorem dX5_faultPlace_31 : decode cX5_faultPlace 31 = .ok (.aload_n 0, 1) := by decide +kernel
theorem dX5_faultPlace_32 : decode cX5_faultPlace 32 = .ok (.getfield 19, 3) := by decide +kernel
theorem dX5_faultPlace_35 : decode cX5_faultPlace 35 = .ok (.if_icmp .ne 7, 3) := by decide +kernel
theorem dX5_faultPlace_38 : decode cX5_faultPlace 38 = .ok (.iconst 0, 1) := by decide +kernel
theorem dX5_faultPlace_39 : decode cX5_faultPlace 39 = .ok (.goto 6, 3) := by decide +kernel
theorem dX5_faultPlace_42 : decode cX5_faultPlace 42 = .ok (.iload_n 1, 1) := by decide +kernel
theorem dX5_faultPlace_43 : decode cX5_faultPlace 43 = .ok (.iconst 1, 1) := by decide +kernel
theorem dX5_faultPlace_44 : decode cX5_faultPlace 44 = .ok (.iadd, 1) := by decide +kernel
theorem dX5_faultPlace_45 : decode cX5_faultPlace 45 = .ok (.istore_n 1, 1) := by decide +kernel
theorem dX5_faultPlace_46 : decode cX5_faultPlace 46 = .ok (.iinc 2 1, 3) := by decide +kernel
theorem dX5_faultPlace_49 : decode cX5_faultPlace 49 = .ok (.goto (-45), 3) := by decide +kernel
theorem dX5_faultPlace_52 : decode cX5_faultPlace 52 = .ok (.aload_n 0, 1) := by decide +kernel
theorem dX5_faultPlace_53 : decode cX5_faultPlace 53 = .ok (.getfield 9, 3) := by decide +kernel
theorem dX5_faultPlace_56 : decode cX5_faultPlace 56 = .ok (.ifCond .eq 13, 3) := by decide +kernel
theorem dX5_faultPlace_59 : decode cX5_faultPlace 59 = .ok (.iload_n 1, 1) := by decide +kernel
theorem dX5_faultPlace_60 : decode cX5_faultPlace 60 = .ok (.aload_n 0, 1) := by decide +kernel
theorem dX5_faultPlace_61 : decode cX5_faultPlace 61 = .ok (.getfield 19, 3) := by decide +kernel
theorem dX5_faultPlace_64 : decode cX5_faultPlace 64 = .ok (.iconst 1, 1) := by decide +kernel
theorem dX5_faultPlace_65 : decode cX5_faultPlace 65 = .ok (.isub, 1) := by decide +kernel
theorem dX5_faultPlace_66 : decode cX5_faultPlace 66 = .ok (.if_icmp .ne 7, 3) := by decide +kernel
theorem dX5_faultPlace_69 : decode cX5_faultPlace 69 = .ok (.iconst (-1), 1) := by decide +kernel
theorem dX5_faultPlace_70 : decode cX5_faultPlace 70 = .ok (.goto 7, 3) := by decide +kernel
theorem dX5_faultPlace_73 : decode cX5_faultPlace 73 = .ok (.aload_n 0, 1) := by decide +kernel
theorem dX5_faultPlace_74 : decode cX5_faultPlace 74 = .ok (.getfield 9, 3) := by decide +kernel
theorem dX5_faultPlace_77 : decode cX5_faultPlace 77 = .ok (.ireturn, 1) := by decide +kernel
theorem dX5_fits_0 : decode cX5_fits 0 = .ok (.iload_n 1, 1) := by decide +kernel
theorem dX5_fits_1 : decode cX5_fits 1 = .ok (.aload_n 0, 1) := by decide +kernel
theorem dX5_fits_2 : decode cX5_fits 2 = .ok (.getfield 19, 3) := by decide +kernel
theorem dX5_fits_5 : decode cX5_fits 5 = .ok (.iconst 1, 1) := by decide +kernel
theorem dX5_fits_6 : decode cX5_fits 6 = .ok (.isub, 1) := by decide +kernel
theorem dX5_fits_7 : decode cX5_fits 7 = .ok (.if_icmp .ne 15, 3) := by decide +kernel
theorem dX5_fits_10 : decode cX5_fits 10 = .ok (.iload_n 2, 1) := by decide +kernel
theorem dX5_fits_11 : decode cX5_fits 11 = .ok (.bipush 59, 2) := by decide +kernel
theorem dX5_fits_13 : decode cX5_fits 13 = .ok (.if_icmp .ne 7, 3) := by decide +kernel
theorem dX5_fits_16 : decode cX5_fits 16 = .ok (.iconst 1, 1) := by decide +kernel
theorem dX5_fits_17 : decode cX5_fits 17 = .ok (.goto 4, 3) := by decide +kernel
theorem dX5_fits_20 : decode cX5_fits 20 = .ok (.iconst 0, 1) := by decide +kernel
theorem dX5_fits_21 : decode cX5_fits 21 = .ok (.ireturn, 1) := by decide +kernel
theorem dX5_fits_22 : decode cX5_fits 22 = .ok (.iload_n 1, 1) := by decide +kernel
theorem dX5_fits_23 : decode cX5_fits 23 = .ok (.tableswitch 79 0 2 #[25, 43, 61], 25) := by decide +kernel
theorem dX5_fits_48 : decode cX5_fits 48 = .ok (.iload_n 2, 1) := by decide +kernel
theorem dX5_fits_49 : decode cX5_fits 49 = .ok (.bipush 97, 2) := by decide +kernel
theorem dX5_fits_51 : decode cX5_fits 51 = .ok (.if_icmp .lt 13, 3) := by decide +kernel
theorem dX5_fits_54 : decode cX5_fits 54 = .ok (.iload_n 2, 1) := by decide +kernel
theorem dX5_fits_55 : decode cX5_fits 55 = .ok (.bipush 120, 2) := by decide +kernel
theorem dX5_fits_57 : decode cX5_fits 57 = .ok (.if_icmp .gt 7, 3) := by decide +kernel
theorem dX5_fits_60 : decode cX5_fits 60 = .ok (.iconst 1, 1) := by decide +kernel
theorem dX5_fits_61 : decode cX5_fits 61 = .ok (.goto 4, 3) := by decide +kernel
theorem dX5_fits_64 : decode cX5_fits 64 = .ok (.iconst 0, 1) := by decide +kernel
theorem dX5_fits_65 : decode cX5_fits 65 = .ok (.ireturn, 1) := by decide +kernel
theorem dX5_fits_66 : decode cX5_fits 66 = .ok (.iload_n 2, 1) := by decide +kernel
theorem dX5_fits_67 : decode cX5_fits 67 = .ok (.bipush 48, 2) := by decide +kernel
theorem dX5_fits_69 : decode cX5_fits 69 = .ok (.if_icmp .lt 13, 3) := by decide +kernel
theorem dX5_fits_72 : decode cX5_fits 72 = .ok (.iload_n 2, 1) := by decide +kernel
theorem dX5_fits_73 : decode cX5_fits 73 = .ok (.bipush 55, 2) := by decide +kernel
theorem dX5_fits_75 : decode cX5_fits 75 = .ok (.if_icmp .gt 7, 3) := by decide +kernel
theorem dX5_fits_78 : decode cX5_fits 78 = .ok (.iconst 1, 1) := by decide +kernel
theorem dX5_fits_79 : decode cX5_fits 79 = .ok (.goto 4, 3) := by decide +kernel
theorem dX5_fits_82 : decode cX5_fits 82 = .ok (.iconst 0, 1) := by decide +kernel
theorem dX5_fits_83 : decode cX5_fits 83 = .ok (.ireturn, 1) := by decide +kernel
theorem dX5_fits_84 : decode cX5_fits 84 = .ok (.iload_n 2, 1) := by decide +kernel
theorem dX5_fits_85 : decode cX5_fits 85 = .ok (.bipush 48, 2) := by decide +kernel
theorem dX5_fits_87 : decode cX5_fits 87 = .ok (.if_icmp .lt 13, 3) := by decide +kernel
theorem dX5_fits_90 : decode cX5_fits 90 = .ok (.iload_n 2, 1) := by decide +kernel
theorem dX5_fits_91 : decode cX5_fits 91 = .ok (.bipush 57, 2) := by decide +kernel
theorem dX5_fits_93 : decode cX5_fits 93 = .ok (.if_icmp .gt 7, 3) := by decide +kernel
theorem dX5_fits_96 : decode cX5_fits 96 = .ok (.iconst 1, 1) := by decide +kernel
theorem dX5_fits_97 : decode cX5_fits 97 = .ok (.goto 4, 3) := by decide +kernel
theorem dX5_fits_100 : decode cX5_fits 100 = .ok (.iconst 0, 1) := by decide +kernel
theorem dX5_fits_101 : decode cX5_fits 101 = .ok (.ireturn, 1) := by decide +kernel
theorem dX5_fits_102 : decode cX5_fits 102 = .ok (.iload_n 2, 1) := by decide +kernel
theorem dX5_fits_103 : decode cX5_fits 103 = .ok (.bipush 115, 2) := by decide +kernel
theorem dX5_fits_105 : decode cX5_fits 105 = .ok (.if_icmp .eq 15, 3) := by decide +kernel
theorem dX5_fits_108 : decode cX5_fits 108 = .ok (.iload_n 2, 1) := by decide +kernel
theorem dX5_fits_109 : decode cX5_fits 109 = .ok (.bipush 100, 2) := by decide +kernel
theorem dX5_fits_111 : decode cX5_fits 111 = .ok (.if_icmp .eq 9, 3) := by decide +kernel
theorem dX5_fits_114 : decode cX5_fits 114 = .ok (.iload_n 2, 1) := by decide +kernel
theorem dX5_fits_115 : decode cX5_fits 115 = .ok (.bipush 107, 2) := by decide +kernel
theorem dX5_fits_117 : decode cX5_fits 117 = .ok (.if_icmp .ne 7, 3) := by decide +kernel
theorem dX5_fits_120 : decode cX5_fits 120 = .ok (.iconst 1, 1) := by decide +kernel
theorem dX5_fits_121 : decode cX5_fits 121 = .ok (.goto 4, 3) := by decide +kernel
theorem dX5_fits_124 : decode cX5_fits 124 = .ok (.iconst 0, 1) := by decide +kernel
theorem dX5_fits_125 : decode cX5_fits 125 = .ok (.ireturn, 1) := by decide +kernel
theorem dX5_hasFault_0 : decode cX5_hasFault 0 = .ok (.aload_n 0, 1) := by decide +kernel
theorem dX5_hasFault_1 : decode cX5_hasFault 1 = .ok (.invokevirtual 26, 3) := by decide +kernel
theorem dX5_hasFault_4 : decode cX5_hasFault 4 = .ok (.iconst (-1), 1) := by decide +kernel
theorem dX5_hasFault_5 : decode cX5_hasFault 5 = .ok (.if_icmp .eq 7, 3) := by decide +kernel
theorem dX5_hasFault_8 : decode cX5_hasFault 8 = .ok (.iconst 1, 1) := by decide +kernel
theorem dX5_hasFault_9 : decode cX5_hasFault 9 = .ok (.goto 4, 3) := by decide +kernel
theorem dX5_hasFault_12 : decode cX5_hasFault 12 = .ok (.iconst 0, 1) := by decide +kernel
theorem dX5_hasFault_13 : decode cX5_hasFault 13 = .ok (.ireturn, 1) := by decide +kernel
