theorem dL_length3_50 : decode cL_length3 50 = .ok (.iadd, 1) := by decide +kernel
theorem dL_length3_51 : decode cL_length3 51 = .ok (.aload_n 1, 1) := by decide +kernel
theorem dL_length3_52 : decode cL_length3 52 = .ok (.iconst 4, 1) := by decide +kernel
theorem dL_length3_53 : decode cL_length3 53 = .ok (.iload_n 0, 1) := by decide +kernel
theorem dL_length3_54 : decode cL_length3 54 = .ok (.imul, 1) := by decide +kernel
theorem dL_length3_55 : decode cL_length3 55 = .ok (.iconst 2, 1) := by decide +kernel
theorem dL_length3_56 : decode cL_length3 56 = .ok (.iadd, 1) := by decide +kernel
theorem dL_length3_57 : decode cL_length3 57 = .ok (.iaload, 1) := by decide +kernel
theorem dL_length3_58 : decode cL_length3 58 = .ok (.invokestatic 12, 3) := by decide +kernel
theorem dL_length3_61 : decode cL_length3 61 = .ok (.iadd, 1) := by decide +kernel
theorem dL_length3_62 : decode cL_length3 62 = .ok (.goto 41, 3) := by decide +kernel
theorem dL_length3_65 : decode cL_length3 65 = .ok (.iload_n 2, 1) := by decide +kernel
theorem dL_length3_66 : decode cL_length3 66 = .ok (.bipush 8, 2) := by decide +kernel
theorem dL_length3_68 : decode cL_length3 68 = .ok (.if_icmp .ne 10, 3) := by decide +kernel
theorem dL_length3_71 : decode cL_length3 71 = .ok (.iload_n 3, 1) := by decide +kernel
theorem dL_length3_72 : decode cL_length3 72 = .ok (.bipush 6, 2) := by decide +kernel
theorem dL_length3_74 : decode cL_length3 74 = .ok (.iadd, 1) := by decide +kernel
theorem dL_length3_75 : decode cL_length3 75 = .ok (.goto 28, 3) := by decide +kernel
theorem dL_length3_78 : decode cL_length3 78 = .ok (.iload_n 3, 1) := by decide +kernel
theorem dL_length3_79 : decode cL_length3 79 = .ok (.aload_n 1, 1) := by decide +kernel
theorem dL_length3_80 : decode cL_length3 80 = .ok (.iconst 4, 1) := by decide +kernel
theorem dL_length3_81 : decode cL_length3 81 = .ok (.iload_n 0, 1) := by decide +kernel
theorem dL_length3_82 : decode cL_length3 82 = .ok (.imul, 1) := by decide +kernel
theorem dL_length3_83 : decode cL_length3 83 = .ok (.iconst 2, 1) := by decide +kernel
theorem dL_length3_84 : decode cL_length3 84 = .ok (.iadd, 1) := by decide +kernel
theorem dL_length3_85 : decode cL_length3 85 = .ok (.iaload, 1) := by decide +kernel
theorem dL_length3_86 : decode cL_length3 86 = .ok (.aload_n 1, 1) := by decide +kernel
theorem dL_length3_87 : decode cL_length3 87 = .ok (.invokestatic 55, 3) := by decide +kernel
theorem dL_length3_90 : decode cL_length3 90 = .ok (.iadd, 1) := by decide +kernel
theorem dL_length3_91 : decode cL_length3 91 = .ok (.iload_n 2, 1) := by decide +kernel
theorem dL_length3_92 : decode cL_length3 92 = .ok (.iconst 2, 1) := by decide +kernel
theorem dL_length3_93 : decode cL_length3 93 = .ok (.if_icmp .ge 7, 3) := by decide +kernel
theorem dL_length3_96 : decode cL_length3 96 = .ok (.iconst 5, 1) := by decide +kernel
theorem dL_length3_97 : decode cL_length3 97 = .ok (.goto 5, 3) := by decide +kernel
theorem dL_length3_100 : decode cL_length3 100 = .ok (.bipush 7, 2) := by decide +kernel
theorem dL_length3_102 : decode cL_length3 102 = .ok (.iadd, 1) := by decide +kernel
theorem dL_length3_103 : decode cL_length3 103 = .ok (.ireturn, 1) := by decide +kernel
theorem dL_sign3_0 : decode cL_sign3 0 = .ok (.aload_n 2, 1) := by decide +kernel
theorem dL_sign3_1 : decode cL_sign3 1 = .ok (.iconst 4, 1) := by decide +kernel
theorem dL_sign3_2 : decode cL_sign3 2 = .ok (.iload_n 0, 1) := by decide +kernel
theorem dL_sign3_3 : decode cL_sign3 3 = .ok (.imul, 1) := by decide +kernel
theorem dL_sign3_4 : decode cL_sign3 4 = .ok (.iaload, 1) := by decide +kernel
theorem dL_sign3_5 : decode cL_sign3 5 = .ok (.istore_n 3, 1) := by decide +kernel
theorem dL_sign3_6 : decode cL_sign3 6 = .ok (.aload_n 2, 1) := by decide +kernel
theorem dL_sign3_7 : decode cL_sign3 7 = .ok (.iconst 4, 1) := by decide +kernel
theorem dL_sign3_8 : decode cL_sign3 8 = .ok (.iload_n 0, 1) := by decide +kernel
theorem dL_sign3_9 : decode cL_sign3 9 = .ok (.imul, 1) := by decide +kernel
theorem dL_sign3_10 : decode cL_sign3 10 = .ok (.iconst 1, 1) := by decide +kernel
theorem dL_sign3_11 : decode cL_sign3 11 = .ok (.iadd, 1) := by decide +kernel
theorem dL_sign3_12 : decode cL_sign3 12 = .ok (.iaload, 1) := by decide +kernel
theorem dL_sign3_13 : decode cL_sign3 13 = .ok (.istore 4, 2) := by decide +kernel
theorem dL_sign3_15 : decode cL_sign3 15 = .ok (.aload_n 2, 1) := by decide +kernel
theorem dL_sign3_16 : decode cL_sign3 16 = .ok (.iconst 4, 1) := by decide +kernel
theorem dL_sign3_17 : decode cL_sign3 17 = .ok (.iload_n 0, 1) := by decide +kernel
theorem dL_sign3_18 : decode cL_sign3 18 = .ok (.imul, 1) := by decide +kernel
theorem dL_sign3_19 : decode cL_sign3 19 = .ok (.iconst 2, 1) := by decide +kernel
theorem dL_sign3_20 : decode cL_sign3 20 = .ok (.iadd, 1) := by decide +kernel
theorem dL_sign3_21 : decode cL_sign3 21 = .ok (.iaload, 1) := by decide +kernel
theorem dL_sign3_22 : decode cL_sign3 22 = .ok (.istore 5, 2) := by decide +kernel
theorem dL_sign3_24 : decode cL_sign3 24 = .ok (.iload_n 3, 1) := by decide +kernel
theorem dL_sign3_25 : decode cL_sign3 25 = .ok (.iconst 4, 1) := by decide +kernel
theorem dL_sign3_26 : decode cL_sign3 26 = .ok (.if_icmp .eq 8, 3) := by decide +kernel
theorem dL_sign3_29 : decode cL_sign3 29 = .ok (.iload_n 3, 1) := by decide +kernel
theorem dL_sign3_30 : decode cL_sign3 30 = .ok (.iconst 5, 1) := by decide +kernel
theorem dL_sign3_31 : decode cL_sign3 31 = .ok (.if_icmp .ne 10, 3) := by decide +kernel
theorem dL_sign3_34 : decode cL_sign3 34 = .ok (.iload_n 0, 1) := by decide +kernel
theorem dL_sign3_35 : decode cL_sign3 35 = .ok (.iload_n 1, 1) := by decide +kernel
theorem dL_sign3_36 : decode cL_sign3 36 = .ok (.aload_n 2, 1) := by decide +kernel
theorem dL_sign3_37 : decode cL_sign3 37 = .ok (.invokestatic 44, 3) := by decide +kernel
theorem dL_sign3_40 : decode cL_sign3 40 = .ok (.ireturn, 1) := by decide +kernel
theorem dL_sign3_41 : decode cL_sign3 41 = .ok (.iload_n 3, 1) := by decide +kernel
theorem dL_sign3_42 : decode cL_sign3 42 = .ok (.bipush 6, 2) := by decide +kernel
theorem dL_sign3_44 : decode cL_sign3 44 = .ok (.if_icmp .ne 18, 3) := by decide +kernel
theorem dL_sign3_47 : decode cL_sign3 47 = .ok (.iload_n 1, 1) := by decide +kernel
theorem dL_sign3_48 : decode cL_sign3 48 = .ok (.ifCond .ne 8, 3) := by decide +kernel
theorem dL_sign3_51 : decode cL_sign3 51 = .ok (.bipush 84, 2) := by decide +kernel
theorem dL_sign3_53 : decode cL_sign3 53 = .ok (.goto 8, 3) := by decide +kernel
theorem dL_sign3_56 : decode cL_sign3 56 = .ok (.bipush 48, 2) := by decide +kernel
theorem dL_sign3_58 : decode cL_sign3 58 = .ok (.iload 4, 2) := by decide +kernel
theorem dL_sign3_60 : decode cL_sign3 60 = .ok (.iadd, 1) := by decide +kernel
theorem dL_sign3_61 : decode cL_sign3 61 = .ok (.ireturn, 1) := by decide +kernel
theorem dL_sign3_62 : decode cL_sign3 62 = .ok (.iload_n 3, 1) := by decide +kernel
theorem dL_sign3_63 : decode cL_sign3 63 = .ok (.bipush 7, 2) := by decide +kernel
theorem dL_sign3_65 : decode cL_sign3 65 = .ok (.if_icmp .ne 13, 3) := by decide +kernel
theorem dL_sign3_68 : decode cL_sign3 68 = .ok (.iload 5, 2) := by decide +kernel
theorem dL_sign3_70 : decode cL_sign3 70 = .ok (.invokestatic 12, 3) := by decide +kernel
theorem dL_sign3_73 : decode cL_sign3 73 = .ok (.iconst 5, 1) := by decide +kernel
theorem dL_sign3_74 : decode cL_sign3 74 = .ok (.iadd, 1) := by decide +kernel
theorem dL_sign3_75 : decode cL_sign3 75 = .ok (.goto 23, 3) := by decide +kernel
theorem dL_sign3_78 : decode cL_sign3 78 = .ok (.iload_n 3, 1) := by decide +kernel
theorem dL_sign3_79 : decode cL_sign3 79 = .ok (.bipush 8, 2) := by decide +kernel
theorem dL_sign3_81 : decode cL_sign3 81 = .ok (.if_icmp .ne 7, 3) := by decide +kernel
theorem dL_sign3_84 : decode cL_sign3 84 = .ok (.iconst 5, 1) := by decide +kernel
theorem dL_sign3_85 : decode cL_sign3 85 = .ok (.goto 13, 3) := by decide +kernel
theorem dL_sign3_88 : decode cL_sign3 88 = .ok (.iload_n 3, 1) := by decide +kernel
theorem dL_sign3_89 : decode cL_sign3 89 = .ok (.iconst 2, 1) := by decide +kernel
theorem dL_sign3_90 : decode cL_sign3 90 = .ok (.if_icmp .ge 7, 3) := by decide +kernel
theorem dL_sign3_93 : decode cL_sign3 93 = .ok (.iconst 1, 1) := by decide +kernel
theorem dL_sign3_94 : decode cL_sign3 94 = .ok (.goto 4, 3) := by decide +kernel
theorem dL_sign3_97 : decode cL_sign3 97 = .ok (.iconst 4, 1) := by decide +kernel
theorem dL_sign3_98 : decode cL_sign3 98 = .ok (.istore 6, 2) := by decide +kernel
theorem dL_sign3_100 : decode cL_sign3 100 = .ok (.iload 4, 2) := by decide +kernel
theorem dL_sign3_102 : decode cL_sign3 102 = .ok (.aload_n 2, 1) := by decide +kernel
theorem dL_sign3_103 : decode cL_sign3 103 = .ok (.invokestatic 55, 3) := by decide +kernel
theorem dL_sign3_106 : decode cL_sign3 106 = .ok (.istore 7, 2) := by decide +kernel
theorem dL_sign3_108 : decode cL_sign3 108 = .ok (.iload_n 1, 1) := by decide +kernel
theorem dL_sign3_109 : decode cL_sign3 109 = .ok (.iload 6, 2) := by decide +kernel
theorem dL_sign3_111 : decode cL_sign3 111 = .ok (.if_icmp .ge 11, 3) := by decide +kernel
theorem dL_sign3_114 : decode cL_sign3 114 = .ok (.iload_n 3, 1) := by decide +kernel
theorem dL_sign3_115 : decode cL_sign3 115 = .ok (.iload 5, 2) := by decide +kernel
theorem dL_sign3_117 : decode cL_sign3 117 = .ok (.iload_n 1, 1) := by decide +kernel
theorem dL_sign3_118 : decode cL_sign3 118 = .ok (.invokestatic 47, 3) := by decide +kernel
theorem dL_sign3_121 : decode cL_sign3 121 = .ok (.ireturn, 1) := by decide +kernel
theorem dL_sign3_122 : decode cL_sign3 122 = .ok (.iload_n 1, 1) := by decide +kernel
theorem dL_sign3_123 : decode cL_sign3 123 = .ok (.iload 6, 2) := by decide +kernel
theorem dL_sign3_125 : decode cL_sign3 125 = .ok (.iload 7, 2) := by decide +kernel
theorem dL_sign3_127 : decode cL_sign3 127 = .ok (.iadd, 1) := by decide +kernel
theorem dL_sign3_128 : decode cL_sign3 128 = .ok (.if_icmp .ge 14, 3) := by decide +kernel
theorem dL_sign3_131 : decode cL_sign3 131 = .ok (.iload 4, 2) := by decide +kernel
theorem dL_sign3_133 : decode cL_sign3 133 = .ok (.iload_n 1, 1) := by decide +kernel
theorem dL_sign3_134 : decode cL_sign3 134 = .ok (.iload 6, 2) := by decide +kernel
theorem dL_sign3_136 : decode cL_sign3 136 = .ok (.isub, 1) := by decide +kernel
theorem dL_sign3_137 : decode cL_sign3 137 = .ok (.aload_n 2, 1) := by decide +kernel
theorem dL_sign3_138 : decode cL_sign3 138 = .ok (.invokestatic 58, 3) := by decide +kernel
theorem dL_sign3_141 : decode cL_sign3 141 = .ok (.ireturn, 1) := by decide +kernel
theorem dL_sign3_142 : decode cL_sign3 142 = .ok (.iload_n 1, 1) := by decide +kernel
theorem dL_sign3_143 : decode cL_sign3 143 = .ok (.iload 6, 2) := by decide +kernel
theorem dL_sign3_145 : decode cL_sign3 145 = .ok (.isub, 1) := by decide +kernel
theorem dL_sign3_146 : decode cL_sign3 146 = .ok (.iload 7, 2) := by decide +kernel
theorem dL_sign3_148 : decode cL_sign3 148 = .ok (.isub, 1) := by decide +kernel
theorem dL_sign3_149 : decode cL_sign3 149 = .ok (.istore 8, 2) := by decide +kernel
theorem dL_sign3_151 : decode cL_sign3 151 = .ok (.iload_n 3, 1) := by decide +kernel
theorem dL_sign3_152 : decode cL_sign3 152 = .ok (.iconst 2, 1) := by decide +kernel
theorem dL_sign3_153 : decode cL_sign3 153 = .ok (.if_icmp .ge 7, 3) := by decide +kernel
theorem dL_sign3_156 : decode cL_sign3 156 = .ok (.iconst 3, 1) := by decide +kernel
theorem dL_sign3_157 : decode cL_sign3 157 = .ok (.goto 13, 3) := by decide +kernel
theorem dL_sign3_160 : decode cL_sign3 160 = .ok (.iload_n 3, 1) := by decide +kernel
theorem dL_sign3_161 : decode cL_sign3 161 = .ok (.iconst 4, 1) := by decide +kernel
theorem dL_sign3_162 : decode cL_sign3 162 = .ok (.if_icmp .ge 7, 3) := by decide +kernel
theorem dL_sign3_165 : decode cL_sign3 165 = .ok (.iconst 2, 1) := by decide +kernel
theorem dL_sign3_166 : decode cL_sign3 166 = .ok (.goto 4, 3) := by decide +kernel
theorem dL_sign3_169 : decode cL_sign3 169 = .ok (.iconst 0, 1) := by decide +kernel
theorem dL_sign3_170 : decode cL_sign3 170 = .ok (.istore 9, 2) := by decide +kernel
theorem dL_sign3_172 : decode cL_sign3 172 = .ok (.iload 8, 2) := by decide +kernel
theorem dL_sign3_174 : decode cL_sign3 174 = .ok (.iload 9, 2) := by decide +kernel
theorem dL_sign3_176 : decode cL_sign3 176 = .ok (.if_icmp .ge 46, 3) := by decide +kernel
theorem dL_sign3_179 : decode cL_sign3 179 = .ok (.iload_n 3, 1) := by decide +kernel
theorem dL_sign3_180 : decode cL_sign3 180 = .ok (.iconst 1, 1) := by decide +kernel
theorem dL_sign3_181 : decode cL_sign3 181 = .ok (.if_icmp .le 18, 3) := by decide +kernel
theorem dL_sign3_184 : decode cL_sign3 184 = .ok (.iload 8, 2) := by decide +kernel
theorem dL_sign3_186 : decode cL_sign3 186 = .ok (.ifCond .ne 8, 3) := by decide +kernel
theorem dL_sign3_189 : decode cL_sign3 189 = .ok (.bipush 44, 2) := by decide +kernel
theorem dL_sign3_191 : decode cL_sign3 191 = .ok (.goto 30, 3) := by decide +kernel
theorem dL_sign3_194 : decode cL_sign3 194 = .ok (.bipush 32, 2) := by decide +kernel
theorem dL_sign3_196 : decode cL_sign3 196 = .ok (.goto 25, 3) := by decide +kernel
theorem dL_sign3_199 : decode cL_sign3 199 = .ok (.iload 8, 2) := by decide +kernel
theorem dL_sign3_201 : decode cL_sign3 201 = .ok (.iconst 1, 1) := by decide +kernel
theorem dL_sign3_202 : decode cL_sign3 202 = .ok (.if_icmp .eq 8, 3) := by decide +kernel
theorem dL_sign3_205 : decode cL_sign3 205 = .ok (.bipush 32, 2) := by decide +kernel
theorem dL_sign3_207 : decode cL_sign3 207 = .ok (.goto 14, 3) := by decide +kernel
theorem dL_sign3_210 : decode cL_sign3 210 = .ok (.iload_n 3, 1) := by decide +kernel
theorem dL_sign3_211 : decode cL_sign3 211 = .ok (.ifCond .ne 8, 3) := by decide +kernel
theorem dL_sign3_214 : decode cL_sign3 214 = .ok (.bipush 43, 2) := by decide +kernel
theorem dL_sign3_216 : decode cL_sign3 216 = .ok (.goto 5, 3) := by decide +kernel
theorem dL_sign3_219 : decode cL_sign3 219 = .ok (.bipush 45, 2) := by decide +kernel
theorem dL_sign3_221 : decode cL_sign3 221 = .ok (.ireturn, 1) := by decide +kernel
theorem dL_sign3_222 : decode cL_sign3 222 = .ok (.iload_n 3, 1) := by decide +kernel
theorem dL_sign3_223 : decode cL_sign3 223 = .ok (.iconst 3, 1) := by decide +kernel
theorem dL_sign3_224 : decode cL_sign3 224 = .ok (.if_icmp .gt 17, 3) := by decide +kernel
theorem dL_sign3_227 : decode cL_sign3 227 = .ok (.iload 8, 2) := by decide +kernel
theorem dL_sign3_229 : decode cL_sign3 229 = .ok (.iload 9, 2) := by decide +kernel
theorem dL_sign3_231 : decode cL_sign3 231 = .ok (.isub, 1) := by decide +kernel
theorem dL_sign3_232 : decode cL_sign3 232 = .ok (.iload 5, 2) := by decide +kernel
theorem dL_sign3_234 : decode cL_sign3 234 = .ok (.aload_n 2, 1) := by decide +kernel
theorem dL_sign3_235 : decode cL_sign3 235 = .ok (.invokestatic 55, 3) := by decide +kernel
theorem dL_sign3_238 : decode cL_sign3 238 = .ok (.if_icmp .ne 8, 3) := by decide +kernel
theorem dL_sign3_241 : decode cL_sign3 241 = .ok (.bipush 41, 2) := by decide +kernel
theorem dL_sign3_243 : decode cL_sign3 243 = .ok (.goto 14, 3) := by decide +kernel
theorem dL_sign3_246 : decode cL_sign3 246 = .ok (.iload 5, 2) := by decide +kernel
theorem dL_sign3_248 : decode cL_sign3 248 = .ok (.iload 8, 2) := by decide +kernel
theorem dL_sign3_250 : decode cL_sign3 250 = .ok (.iload 9, 2) := by decide +kernel
theorem dL_sign3_252 : decode cL_sign3 252 = .ok (.isub, 1) := by decide +kernel
theorem dL_sign3_253 : decode cL_sign3 253 = .ok (.aload_n 2, 1) := by decide +kernel
theorem dL_sign3_254 : decode cL_sign3 254 = .ok (.invokestatic 58, 3) := by decide +kernel
theorem dL_sign3_257 : decode cL_sign3 257 = .ok (.ireturn, 1) := by decide +kernel
theorem dL_at4_0 : decode cL_at4 0 = .ok (.aload_n 2, 1) := by decide +kernel
theorem dL_at4_1 : decode cL_at4 1 = .ok (.iconst 4, 1) := by decide +kernel
theorem dL_at4_2 : decode cL_at4 2 = .ok (.iload_n 0, 1) := by decide +kernel
theorem dL_at4_3 : decode cL_at4 3 = .ok (.imul, 1) := by decide +kernel
theorem dL_at4_4 : decode cL_at4 4 = .ok (.iaload, 1) := by decide +kernel
theorem dL_at4_5 : decode cL_at4 5 = .ok (.istore 5, 2) := by decide +kernel
theorem dL_at4_7 : decode cL_at4 7 = .ok (.aload_n 2, 1) := by decide +kernel
theorem dL_at4_8 : decode cL_at4 8 = .ok (.iconst 4, 1) := by decide +kernel
theorem dL_at4_9 : decode cL_at4 9 = .ok (.iload_n 0, 1) := by decide +kernel
theorem dL_at4_10 : decode cL_at4 10 = .ok (.imul, 1) := by decide +kernel
theorem dL_at4_11 : decode cL_at4 11 = .ok (.iconst 1, 1) := by decide +kernel
theorem dL_at4_12 : decode cL_at4 12 = .ok (.iadd, 1) := by decide +kernel
theorem dL_at4_13 : decode cL_at4 13 = .ok (.iaload, 1) := by decide +kernel
theorem dL_at4_14 : decode cL_at4 14 = .ok (.istore 6, 2) := by decide +kernel
theorem dL_at4_16 : decode cL_at4 16 = .ok (.aload_n 2, 1) := by decide +kernel
theorem dL_at4_17 : decode cL_at4 17 = .ok (.iconst 4, 1) := by decide +kernel
theorem dL_at4_18 : decode cL_at4 18 = .ok (.iload_n 0, 1) := by decide +kernel
theorem dL_at4_19 : decode cL_at4 19 = .ok (.imul, 1) := by decide +kernel
theorem dL_at4_20 : decode cL_at4 20 = .ok (.iconst 2, 1) := by decide +kernel
theorem dL_at4_21 : decode cL_at4 21 = .ok (.iadd, 1) := by decide +kernel
theorem dL_at4_22 : decode cL_at4 22 = .ok (.iaload, 1) := by decide +kernel
theorem dL_at4_23 : decode cL_at4 23 = .ok (.istore 7, 2) := by decide +kernel
theorem dL_at4_25 : decode cL_at4 25 = .ok (.iload 5, 2) := by decide +kernel
theorem dL_at4_27 : decode cL_at4 27 = .ok (.iconst 4, 1) := by decide +kernel
theorem dL_at4_28 : decode cL_at4 28 = .ok (.if_icmp .eq 9, 3) := by decide +kernel
theorem dL_at4_31 : decode cL_at4 31 = .ok (.iload 5, 2) := by decide +kernel
theorem dL_at4_33 : decode cL_at4 33 = .ok (.iconst 5, 1) := by decide +kernel
theorem dL_at4_34 : decode cL_at4 34 = .ok (.if_icmp .ne 11, 3) := by decide +kernel
theorem dL_at4_37 : decode cL_at4 37 = .ok (.iload_n 0, 1) := by decide +kernel
theorem dL_at4_38 : decode cL_at4 38 = .ok (.iload_n 1, 1) := by decide +kernel
theorem dL_at4_39 : decode cL_at4 39 = .ok (.aload_n 2, 1) := by decide +kernel
theorem dL_at4_40 : decode cL_at4 40 = .ok (.aload_n 3, 1) := by decide +kernel
theorem dL_at4_41 : decode cL_at4 41 = .ok (.invokestatic 22, 3) := by decide +kernel
theorem dL_at4_44 : decode cL_at4 44 = .ok (.lreturn, 1) := by decide +kernel
theorem dL_at4_45 : decode cL_at4 45 = .ok (.iload 5, 2) := by decide +kernel
theorem dL_at4_47 : decode cL_at4 47 = .ok (.bipush 6, 2) := by decide +kernel
theorem dL_at4_49 : decode cL_at4 49 = .ok (.if_icmp .ne 20, 3) := by decide +kernel
theorem dL_at4_52 : decode cL_at4 52 = .ok (.iload 6, 2) := by decide +kernel
theorem dL_at4_54 : decode cL_at4 54 = .ok (.iload_n 1, 1) := by decide +kernel
theorem dL_at4_55 : decode cL_at4 55 = .ok (.aload 4, 2) := by decide +kernel
theorem dL_at4_57 : decode cL_at4 57 = .ok (.invokestatic 26, 3) := by decide +kernel
theorem dL_at4_60 : decode cL_at4 60 = .ok (.iload_n 1, 1) := by decide +kernel
theorem dL_at4_61 : decode cL_at4 61 = .ok (.aload_n 2, 1) := by decide +kernel
theorem dL_at4_62 : decode cL_at4 62 = .ok (.aload_n 3, 1) := by decide +kernel
theorem dL_at4_63 : decode cL_at4 63 = .ok (.aload 4, 2) := by decide +kernel
theorem dL_at4_65 : decode cL_at4 65 = .ok (.invokestatic 61, 3) := by decide +kernel
theorem dL_at4_68 : decode cL_at4 68 = .ok (.lreturn, 1) := by decide +kernel
theorem dL_at4_69 : decode cL_at4 69 = .ok (.iload 6, 2) := by decide +kernel
theorem dL_at4_71 : decode cL_at4 71 = .ok (.iload_n 1, 1) := by decide +kernel
theorem dL_at4_72 : decode cL_at4 72 = .ok (.aload_n 2, 1) := by decide +kernel
theorem dL_at4_73 : decode cL_at4 73 = .ok (.aload_n 3, 1) := by decide +kernel
theorem dL_at4_74 : decode cL_at4 74 = .ok (.aload 4, 2) := by decide +kernel
theorem dL_at4_76 : decode cL_at4 76 = .ok (.invokestatic 61, 3) := by decide +kernel
theorem dL_at4_79 : decode cL_at4 79 = .ok (.lstore 8, 2) := by decide +kernel
theorem dL_at4_81 : decode cL_at4 81 = .ok (.iload 5, 2) := by decide +kernel
theorem dL_at4_83 : decode cL_at4 83 = .ok (.bipush 7, 2) := by decide +kernel
theorem dL_at4_85 : decode cL_at4 85 = .ok (.if_icmp .ne 16, 3) := by decide +kernel
theorem dL_at4_88 : decode cL_at4 88 = .ok (.lload 8, 2) := by decide +kernel
theorem dL_at4_90 : decode cL_at4 90 = .ok (.iload 7, 2) := by decide +kernel
theorem dL_at4_92 : decode cL_at4 92 = .ok (.i2l, 1) := by decide +kernel
theorem dL_at4_93 : decode cL_at4 93 = .ok (.lmul, 1) := by decide +kernel
theorem dL_at4_94 : decode cL_at4 94 = .ok (.ldc2_w 30, 3) := by decide +kernel
theorem dL_at4_97 : decode cL_at4 97 = .ok (.invokestatic 32, 3) := by decide +kernel
theorem dL_at4_100 : decode cL_at4 100 = .ok (.lreturn, 1) := by decide +kernel
theorem dL_at4_101 : decode cL_at4 101 = .ok (.iload 5, 2) := by decide +kernel
theorem dL_at4_103 : decode cL_at4 103 = .ok (.bipush 8, 2) := by decide +kernel
theorem dL_at4_105 : decode cL_at4 105 = .ok (.if_icmp .ne 45, 3) := by decide +kernel
theorem dL_at4_108 : decode cL_at4 108 = .ok (.iconst 1, 1) := by decide +kernel
theorem dL_at4_109 : decode cL_at4 109 = .ok (.istore 10, 2) := by decide +kernel
theorem dL_at4_111 : decode cL_at4 111 = .ok (.iload 10, 2) := by decide +kernel
theorem dL_at4_113 : decode cL_at4 113 = .ok (.iconst 4, 1) := by decide +kernel
theorem dL_at4_114 : decode cL_at4 114 = .ok (.if_icmp .ge 33, 3) := by decide +kernel
theorem dL_at4_117 : decode cL_at4 117 = .ok (.iload 10, 2) := by decide +kernel
theorem dL_at4_119 : decode cL_at4 119 = .ok (.iload_n 1, 1) := by decide +kernel
theorem dL_at4_120 : decode cL_at4 120 = .ok (.if_icmp .gt 27, 3) := by decide +kernel
theorem dL_at4_123 : decode cL_at4 123 = .ok (.lload 8, 2) := by decide +kernel
theorem dL_at4_125 : decode cL_at4 125 = .ok (.iload 6, 2) := by decide +kernel
theorem dL_at4_127 : decode cL_at4 127 = .ok (.iload_n 1, 1) := by decide +kernel
theorem dL_at4_128 : decode cL_at4 128 = .ok (.iload 10, 2) := by decide +kernel
theorem dL_at4_130 : decode cL_at4 130 = .ok (.isub, 1) := by decide +kernel
theorem dL_at4_131 : decode cL_at4 131 = .ok (.aload_n 2, 1) := by decide +kernel
theorem dL_at4_132 : decode cL_at4 132 = .ok (.aload_n 3, 1) := by decide +kernel
theorem dL_at4_133 : decode cL_at4 133 = .ok (.aload 4, 2) := by decide +kernel
theorem dL_at4_135 : decode cL_at4 135 = .ok (.invokestatic 61, 3) := by decide +kernel
theorem dL_at4_138 : decode cL_at4 138 = .ok (.ladd, 1) := by decide +kernel
theorem dL_at4_139 : decode cL_at4 139 = .ok (.lstore 8, 2) := by decide +kernel
theorem dL_at4_141 : decode cL_at4 141 = .ok (.iinc 10 1, 3) := by decide +kernel
theorem dL_at4_144 : decode cL_at4 144 = .ok (.goto (-33), 3) := by decide +kernel
theorem dL_at4_147 : decode cL_at4 147 = .ok (.lload 8, 2) := by decide +kernel
theorem dL_at4_149 : decode cL_at4 149 = .ok (.lreturn, 1) := by decide +kernel
theorem dL_at4_150 : decode cL_at4 150 = .ok (.iload 5, 2) := by decide +kernel
theorem dL_at4_152 : decode cL_at4 152 = .ok (.lload 8, 2) := by decide +kernel
theorem dL_at4_154 : decode cL_at4 154 = .ok (.iload 7, 2) := by decide +kernel
theorem dL_at4_156 : decode cL_at4 156 = .ok (.iload_n 1, 1) := by decide +kernel
theorem dL_at4_157 : decode cL_at4 157 = .ok (.aload_n 2, 1) := by decide +kernel
theorem dL_at4_158 : decode cL_at4 158 = .ok (.aload_n 3, 1) := by decide +kernel
theorem dL_at4_159 : decode cL_at4 159 = .ok (.aload 4, 2) := by decide +kernel
theorem dL_at4_161 : decode cL_at4 161 = .ok (.invokestatic 61, 3) := by decide +kernel
theorem dL_at4_164 : decode cL_at4 164 = .ok (.invokestatic 36, 3) := by decide +kernel
theorem dL_at4_167 : decode cL_at4 167 = .ok (.lreturn, 1) := by decide +kernel
theorem dL_length4_0 : decode cL_length4 0 = .ok (.aload_n 1, 1) := by decide +kernel
theorem dL_length4_1 : decode cL_length4 1 = .ok (.iconst 4, 1) := by decide +kernel
theorem dL_length4_2 : decode cL_length4 2 = .ok (.iload_n 0, 1) := by decide +kernel
theorem dL_length4_3 : decode cL_length4 3 = .ok (.imul, 1) := by decide +kernel
theorem dL_length4_4 : decode cL_length4 4 = .ok (.iaload, 1) := by decide +kernel
theorem dL_length4_5 : decode cL_length4 5 = .ok (.istore_n 2, 1) := by decide +kernel
theorem dL_length4_6 : decode cL_length4 6 = .ok (.iload_n 2, 1) := by decide +kernel
theorem dL_length4_7 : decode cL_length4 7 = .ok (.iconst 4, 1) := by decide +kernel
theorem dL_length4_8 : decode cL_length4 8 = .ok (.if_icmp .eq 8, 3) := by decide +kernel
theorem dL_length4_11 : decode cL_length4 11 = .ok (.iload_n 2, 1) := by decide +kernel
theorem dL_length4_12 : decode cL_length4 12 = .ok (.iconst 5, 1) := by decide +kernel
theorem dL_length4_13 : decode cL_length4 13 = .ok (.if_icmp .ne 9, 3) := by decide +kernel
theorem dL_length4_16 : decode cL_length4 16 = .ok (.iload_n 0, 1) := by decide +kernel
theorem dL_length4_17 : decode cL_length4 17 = .ok (.aload_n 1, 1) := by decide +kernel
theorem dL_length4_18 : decode cL_length4 18 = .ok (.invokestatic 40, 3) := by decide +kernel
theorem dL_length4_21 : decode cL_length4 21 = .ok (.ireturn, 1) := by decide +kernel
theorem dL_length4_22 : decode cL_length4 22 = .ok (.iload_n 2, 1) := by decide +kernel
theorem dL_length4_23 : decode cL_length4 23 = .ok (.bipush 6, 2) := by decide +kernel
theorem dL_length4_25 : decode cL_length4 25 = .ok (.if_icmp .ne 5, 3) := by decide +kernel
theorem dL_length4_28 : decode cL_length4 28 = .ok (.iconst 2, 1) := by decide +kernel
theorem dL_length4_29 : decode cL_length4 29 = .ok (.ireturn, 1) := by decide +kernel
theorem dL_length4_30 : decode cL_length4 30 = .ok (.aload_n 1, 1) := by decide +kernel
theorem dL_length4_31 : decode cL_length4 31 = .ok (.iconst 4, 1) := by decide +kernel
theorem dL_length4_32 : decode cL_length4 32 = .ok (.iload_n 0, 1) := by decide +kernel
theorem dL_length4_33 : decode cL_length4 33 = .ok (.imul, 1) := by decide +kernel
theorem dL_length4_34 : decode cL_length4 34 = .ok (.iconst 1, 1) := by decide +kernel
theorem dL_length4_35 : decode cL_length4 35 = .ok (.iadd, 1) := by decide +kernel
theorem dL_length4_36 : decode cL_length4 36 = .ok (.iaload, 1) := by decide +kernel
theorem dL_length4_37 : decode cL_length4 37 = .ok (.aload_n 1, 1) := by decide +kernel
theorem dL_length4_38 : decode cL_length4 38 = .ok (.invokestatic 64, 3) := by decide +kernel
theorem dL_length4_41 : decode cL_length4 41 = .ok (.istore_n 3, 1) := by decide +kernel
theorem dL_length4_42 : decode cL_length4 42 = .ok (.iload_n 2, 1) := by decide +kernel
theorem dL_length4_43 : decode cL_length4 43 = .ok (.bipush 7, 2) := by decide +kernel
theorem dL_length4_45 : decode cL_length4 45 = .ok (.if_icmp .ne 20, 3) := by decide +kernel
theorem dL_length4_48 : decode cL_length4 48 = .ok (.iload_n 3, 1) := by decide +kernel
theorem dL_length4_49 : decode cL_length4 49 = .ok (.iconst 5, 1) := by decide +kernel
theorem dL_length4_50 : decode cL_length4 50 = .ok (.iadd, 1) := by decide +kernel
theorem dL_length4_51 : decode cL_length4 51 = .ok (.aload_n 1, 1) := by decide +kernel
theorem dL_length4_52 : decode cL_length4 52 = .ok (.iconst 4, 1) := by decide +kernel
theorem dL_length4_53 : decode cL_length4 53 = .ok (.iload_n 0, 1) := by decide +kernel
theorem dL_length4_54 : decode cL_length4 54 = .ok (.imul, 1) := by decide +kernel
theorem dL_length4_55 : decode cL_length4 55 = .ok (.iconst 2, 1) := by decide +kernel
theorem dL_length4_56 : decode cL_length4 56 = .ok (.iadd, 1) := by decide +kernel
theorem dL_length4_57 : decode cL_length4 57 = .ok (.iaload, 1) := by decide +kernel
theorem dL_length4_58 : decode cL_length4 58 = .ok (.invokestatic 12, 3) := by decide +kernel
theorem dL_length4_61 : decode cL_length4 61 = .ok (.iadd, 1) := by decide +kernel
theorem dL_length4_62 : decode cL_length4 62 = .ok (.goto 41, 3) := by decide +kernel
theorem dL_length4_65 : decode cL_length4 65 = .ok (.iload_n 2, 1) := by decide +kernel
theorem dL_length4_66 : decode cL_length4 66 = .ok (.bipush 8, 2) := by decide +kernel
theorem dL_length4_68 : decode cL_length4 68 = .ok (.if_icmp .ne 10, 3) := by decide +kernel
theorem dL_length4_71 : decode cL_length4 71 = .ok (.iload_n 3, 1) := by decide +kernel
theorem dL_length4_72 : decode cL_length4 72 = .ok (.bipush 6, 2) := by decide +kernel
theorem dL_length4_74 : decode cL_length4 74 = .ok (.iadd, 1) := by decide +kernel
theorem dL_length4_75 : decode cL_length4 75 = .ok (.goto 28, 3) := by decide +kernel
theorem dL_length4_78 : decode cL_length4 78 = .ok (.iload_n 3, 1) := by decide +kernel
theorem dL_length4_79 : decode cL_length4 79 = .ok (.aload_n 1, 1) := by decide +kernel
theorem dL_length4_80 : decode cL_length4 80 = .ok (.iconst 4, 1) := by decide +kernel
theorem dL_length4_81 : decode cL_length4 81 = .ok (.iload_n 0, 1) := by decide +kernel
theorem dL_length4_82 : decode cL_length4 82 = .ok (.imul, 1) := by decide +kernel
theorem dL_length4_83 : decode cL_length4 83 = .ok (.iconst 2, 1) := by decide +kernel
theorem dL_length4_84 : decode cL_length4 84 = .ok (.iadd, 1) := by decide +kernel
theorem dL_length4_85 : decode cL_length4 85 = .ok (.iaload, 1) := by decide +kernel
theorem dL_length4_86 : decode cL_length4 86 = .ok (.aload_n 1, 1) := by decide +kernel
theorem dL_length4_87 : decode cL_length4 87 = .ok (.invokestatic 64, 3) := by decide +kernel
theorem dL_length4_90 : decode cL_length4 90 = .ok (.iadd, 1) := by decide +kernel
theorem dL_length4_91 : decode cL_length4 91 = .ok (.iload_n 2, 1) := by decide +kernel
theorem dL_length4_92 : decode cL_length4 92 = .ok (.iconst 2, 1) := by decide +kernel
theorem dL_length4_93 : decode cL_length4 93 = .ok (.if_icmp .ge 7, 3) := by decide +kernel
theorem dL_length4_96 : decode cL_length4 96 = .ok (.iconst 5, 1) := by decide +kernel
theorem dL_length4_97 : decode cL_length4 97 = .ok (.goto 5, 3) := by decide +kernel
theorem dL_length4_100 : decode cL_length4 100 = .ok (.bipush 7, 2) := by decide +kernel
theorem dL_length4_102 : decode cL_length4 102 = .ok (.iadd, 1) := by decide +kernel
theorem dL_length4_103 : decode cL_length4 103 = .ok (.ireturn, 1) := by decide +kernel
theorem dL_sign4_0 : decode cL_sign4 0 = .ok (.aload_n 2, 1) := by decide +kernel
theorem dL_sign4_1 : decode cL_sign4 1 = .ok (.iconst 4, 1) := by decide +kernel
theorem dL_sign4_2 : decode cL_sign4 2 = .ok (.iload_n 0, 1) := by decide +kernel
theorem dL_sign4_3 : decode cL_sign4 3 = .ok (.imul, 1) := by decide +kernel
theorem dL_sign4_4 : decode cL_sign4 4 = .ok (.iaload, 1) := by decide +kernel
theorem dL_sign4_5 : decode cL_sign4 5 = .ok (.istore_n 3, 1) := by decide +kernel
theorem dL_sign4_6 : decode cL_sign4 6 = .ok (.aload_n 2, 1) := by decide +kernel
theorem dL_sign4_7 : decode cL_sign4 7 = .ok (.iconst 4, 1) := by decide +kernel
theorem dL_sign4_8 : decode cL_sign4 8 = .ok (.iload_n 0, 1) := by decide +kernel
theorem dL_sign4_9 : decode cL_sign4 9 = .ok (.imul, 1) := by decide +kernel
theorem dL_sign4_10 : decode cL_sign4 10 = .ok (.iconst 1, 1) := by decide +kernel
theorem dL_sign4_11 : decode cL_sign4 11 = .ok (.iadd, 1) := by decide +kernel
theorem dL_sign4_12 : decode cL_sign4 12 = .ok (.iaload, 1) := by decide +kernel
theorem dL_sign4_13 : decode cL_sign4 13 = .ok (.istore 4, 2) := by decide +kernel
theorem dL_sign4_15 : decode cL_sign4 15 = .ok (.aload_n 2, 1) := by decide +kernel
theorem dL_sign4_16 : decode cL_sign4 16 = .ok (.iconst 4, 1) := by decide +kernel
theorem dL_sign4_17 : decode cL_sign4 17 = .ok (.iload_n 0, 1) := by decide +kernel
theorem dL_sign4_18 : decode cL_sign4 18 = .ok (.imul, 1) := by decide +kernel
theorem dL_sign4_19 : decode cL_sign4 19 = .ok (.iconst 2, 1) := by decide +kernel
theorem dL_sign4_20 : decode cL_sign4 20 = .ok (.iadd, 1) := by decide +kernel
theorem dL_sign4_21 : decode cL_sign4 21 = .ok (.iaload, 1) := by decide +kernel
theorem dL_sign4_22 : decode cL_sign4 22 = .ok (.istore 5, 2) := by decide +kernel
theorem dL_sign4_24 : decode cL_sign4 24 = .ok (.iload_n 3, 1) := by decide +kernel
theorem dL_sign4_25 : decode cL_sign4 25 = .ok (.iconst 4, 1) := by decide +kernel
theorem dL_sign4_26 : decode cL_sign4 26 = .ok (.if_icmp .eq 8, 3) := by decide +kernel
theorem dL_sign4_29 : decode cL_sign4 29 = .ok (.iload_n 3, 1) := by decide +kernel
theorem dL_sign4_30 : decode cL_sign4 30 = .ok (.iconst 5, 1) := by decide +kernel
theorem dL_sign4_31 : decode cL_sign4 31 = .ok (.if_icmp .ne 10, 3) := by decide +kernel
theorem dL_sign4_34 : decode cL_sign4 34 = .ok (.iload_n 0, 1) := by decide +kernel
theorem dL_sign4_35 : decode cL_sign4 35 = .ok (.iload_n 1, 1) := by decide +kernel
theorem dL_sign4_36 : decode cL_sign4 36 = .ok (.aload_n 2, 1) := by decide +kernel
theorem dL_sign4_37 : decode cL_sign4 37 = .ok (.invokestatic 44, 3) := by decide +kernel
theorem dL_sign4_40 : decode cL_sign4 40 = .ok (.ireturn, 1) := by decide +kernel
theorem dL_sign4_41 : decode cL_sign4 41 = .ok (.iload_n 3, 1) := by decide +kernel
theorem dL_sign4_42 : decode cL_sign4 42 = .ok (.bipush 6, 2) := by decide +kernel
theorem dL_sign4_44 : decode cL_sign4 44 = .ok (.if_icmp .ne 18, 3) := by decide +kernel
theorem dL_sign4_47 : decode cL_sign4 47 = .ok (.iload_n 1, 1) := by decide +kernel
theorem dL_sign4_48 : decode cL_sign4 48 = .ok (.ifCond .ne 8, 3) := by decide +kernel
theorem dL_sign4_51 : decode cL_sign4 51 = .ok (.bipush 84, 2) := by decide +kernel
theorem dL_sign4_53 : decode cL_sign4 53 = .ok (.goto 8, 3) := by decide +kernel
theorem dL_sign4_56 : decode cL_sign4 56 = .ok (.bipush 48, 2) := by decide +kernel
theorem dL_sign4_58 : decode cL_sign4 58 = .ok (.iload 4, 2) := by decide +kernel
theorem dL_sign4_60 : decode cL_sign4 60 = .ok (.iadd, 1) := by decide +kernel
theorem dL_sign4_61 : decode cL_sign4 61 = .ok (.ireturn, 1) := by decide +kernel
theorem dL_sign4_62 : decode cL_sign4 62 = .ok (.iload_n 3, 1) := by decide +kernel
theorem dL_sign4_63 : decode cL_sign4 63 = .ok (.bipush 7, 2) := by decide +kernel
theorem dL_sign4_65 : decode cL_sign4 65 = .ok (.if_icmp .ne 13, 3) := by decide +kernel
theorem dL_sign4_68 : decode cL_sign4 68 = .ok (.iload 5, 2) := by decide +kernel
theorem dL_sign4_70 : decode cL_sign4 70 = .ok (.invokestatic 12, 3) := by decide +kernel
theorem dL_sign4_73 : decode cL_sign4 73 = .ok (.iconst 5, 1) := by decide +kernel
theorem dL_sign4_74 : decode cL_sign4 74 = .ok (.iadd, 1) := by decide +kernel
theorem dL_sign4_75 : decode cL_sign4 75 = .ok (.goto 23, 3) := by decide +kernel
theorem dL_sign4_78 : decode cL_sign4 78 = .ok (.iload_n 3, 1) := by decide +kernel
theorem dL_sign4_79 : decode cL_sign4 79 = .ok (.bipush 8, 2) := by decide +kernel
theorem dL_sign4_81 : decode cL_sign4 81 = .ok (.if_icmp .ne 7, 3) := by decide +kernel
theorem dL_sign4_84 : decode cL_sign4 84 = .ok (.iconst 5, 1) := by decide +kernel
theorem dL_sign4_85 : decode cL_sign4 85 = .ok (.goto 13, 3) := by decide +kernel
theorem dL_sign4_88 : decode cL_sign4 88 = .ok (.iload_n 3, 1) := by decide +kernel
theorem dL_sign4_89 : decode cL_sign4 89 = .ok (.iconst 2, 1) := by decide +kernel
theorem dL_sign4_90 : decode cL_sign4 90 = .ok (.if_icmp .ge 7, 3) := by decide +kernel
theorem dL_sign4_93 : decode cL_sign4 93 = .ok (.iconst 1, 1) := by decide +kernel
theorem dL_sign4_94 : decode cL_sign4 94 = .ok (.goto 4, 3) := by decide +kernel
theorem dL_sign4_97 : decode cL_sign4 97 = .ok (.iconst 4, 1) := by decide +kernel
theorem dL_sign4_98 : decode cL_sign4 98 = .ok (.istore 6, 2) := by decide +kernel
theorem dL_sign4_100 : decode cL_sign4 100 = .ok (.iload 4, 2) := by decide +kernel
theorem dL_sign4_102 : decode cL_sign4 102 = .ok (.aload_n 2, 1) := by decide +kernel
theorem dL_sign4_103 : decode cL_sign4 103 = .ok (.invokestatic 64, 3) := by decide +kernel
theorem dL_sign4_106 : decode cL_sign4 106 = .ok (.istore 7, 2) := by decide +kernel
theorem dL_sign4_108 : decode cL_sign4 108 = .ok (.iload_n 1, 1) := by decide +kernel
theorem dL_sign4_109 : decode cL_sign4 109 = .ok (.iload 6, 2) := by decide +kernel
theorem dL_sign4_111 : decode cL_sign4 111 = .ok (.if_icmp .ge 11, 3) := by decide +kernel
theorem dL_sign4_114 : decode cL_sign4 114 = .ok (.iload_n 3, 1) := by decide +kernel
theorem dL_sign4_115 : decode cL_sign4 115 = .ok (.iload 5, 2) := by decide +kernel
theorem dL_sign4_117 : decode cL_sign4 117 = .ok (.iload_n 1, 1) := by decide +kernel
theorem dL_sign4_118 : decode cL_sign4 118 = .ok (.invokestatic 47, 3) := by decide +kernel
theorem dL_sign4_121 : decode cL_sign4 121 = .ok (.ireturn, 1) := by decide +kernel
theorem dL_sign4_122 : decode cL_sign4 122 = .ok (.iload_n 1, 1) := by decide +kernel
theorem dL_sign4_123 : decode cL_sign4 123 = .ok (.iload 6, 2) := by decide +kernel
theorem dL_sign4_125 : decode cL_sign4 125 = .ok (.iload 7, 2) := by decide +kernel
theorem dL_sign4_127 : decode cL_sign4 127 = .ok (.iadd, 1) := by decide +kernel
theorem dL_sign4_128 : decode cL_sign4 128 = .ok (.if_icmp .ge 14, 3) := by decide +kernel
theorem dL_sign4_131 : decode cL_sign4 131 = .ok (.iload 4, 2) := by decide +kernel
theorem dL_sign4_133 : decode cL_sign4 133 = .ok (.iload_n 1, 1) := by decide +kernel
theorem dL_sign4_134 : decode cL_sign4 134 = .ok (.iload 6, 2) := by decide +kernel
theorem dL_sign4_136 : decode cL_sign4 136 = .ok (.isub, 1) := by decide +kernel
theorem dL_sign4_137 : decode cL_sign4 137 = .ok (.aload_n 2, 1) := by decide +kernel
theorem dL_sign4_138 : decode cL_sign4 138 = .ok (.invokestatic 67, 3) := by decide +kernel
theorem dL_sign4_141 : decode cL_sign4 141 = .ok (.ireturn, 1) := by decide +kernel
theorem dL_sign4_142 : decode cL_sign4 142 = .ok (.iload_n 1, 1) := by decide +kernel
theorem dL_sign4_143 : decode cL_sign4 143 = .ok (.iload 6, 2) := by decide +kernel
theorem dL_sign4_145 : decode cL_sign4 145 = .ok (.isub, 1) := by decide +kernel
theorem dL_sign4_146 : decode cL_sign4 146 = .ok (.iload 7, 2) := by decide +kernel
theorem dL_sign4_148 : decode cL_sign4 148 = .ok (.isub, 1) := by decide +kernel
theorem dL_sign4_149 : decode cL_sign4 149 = .ok (.istore 8, 2) := by decide +kernel
theorem dL_sign4_151 : decode cL_sign4 151 = .ok (.iload_n 3, 1) := by decide +kernel
theorem dL_sign4_152 : decode cL_sign4 152 = .ok (.iconst 2, 1) := by decide +kernel
theorem dL_sign4_153 : decode cL_sign4 153 = .ok (.if_icmp .ge 7, 3) := by decide +kernel
theorem dL_sign4_156 : decode cL_sign4 156 = .ok (.iconst 3, 1) := by decide +kernel
theorem dL_sign4_157 : decode cL_sign4 157 = .ok (.goto 13, 3) := by decide +kernel
theorem dL_sign4_160 : decode cL_sign4 160 = .ok (.iload_n 3, 1) := by decide +kernel
theorem dL_sign4_161 : decode cL_sign4 161 = .ok (.iconst 4, 1) := by decide +kernel
theorem dL_sign4_162 : decode cL_sign4 162 = .ok (.if_icmp .ge 7, 3) := by decide +kernel
theorem dL_sign4_165 : decode cL_sign4 165 = .ok (.iconst 2, 1) := by decide +kernel
theorem dL_sign4_166 : decode cL_sign4 166 = .ok (.goto 4, 3) := by decide +kernel
theorem dL_sign4_169 : decode cL_sign4 169 = .ok (.iconst 0, 1) := by decide +kernel
theorem dL_sign4_170 : decode cL_sign4 170 = .ok (.istore 9, 2) := by decide +kernel
theorem dL_sign4_172 : decode cL_sign4 172 = .ok (.iload 8, 2) := by decide +kernel
theorem dL_sign4_174 : decode cL_sign4 174 = .ok (.iload 9, 2) := by decide +kernel
theorem dL_sign4_176 : decode cL_sign4 176 = .ok (.if_icmp .ge 46, 3) := by decide +kernel
theorem dL_sign4_179 : decode cL_sign4 179 = .ok (.iload_n 3, 1) := by decide +kernel
theorem dL_sign4_180 : decode cL_sign4 180 = .ok (.iconst 1, 1) := by decide +kernel
theorem dL_sign4_181 : decode cL_sign4 181 = .ok (.if_icmp .le 18, 3) := by decide +kernel
theorem dL_sign4_184 : decode cL_sign4 184 = .ok (.iload 8, 2) := by decide +kernel
theorem dL_sign4_186 : decode cL_sign4 186 = .ok (.ifCond .ne 8, 3) := by decide +kernel
theorem dL_sign4_189 : decode cL_sign4 189 = .ok (.bipush 44, 2) := by decide +kernel
theorem dL_sign4_191 : decode cL_sign4 191 = .ok (.goto 30, 3) := by decide +kernel
theorem dL_sign4_194 : decode cL_sign4 194 = .ok (.bipush 32, 2) := by decide +kernel
theorem dL_sign4_196 : decode cL_sign4 196 = .ok (.goto 25, 3) := by decide +kernel
theorem dL_sign4_199 : decode cL_sign4 199 = .ok (.iload 8, 2) := by decide +kernel
theorem dL_sign4_201 : decode cL_sign4 201 = .ok (.iconst 1, 1) := by decide +kernel
theorem dL_sign4_202 : decode cL_sign4 202 = .ok (.if_icmp .eq 8, 3) := by decide +kernel
theorem dL_sign4_205 : decode cL_sign4 205 = .ok (.bipush 32, 2) := by decide +kernel
theorem dL_sign4_207 : decode cL_sign4 207 = .ok (.goto 14, 3) := by decide +kernel
theorem dL_sign4_210 : decode cL_sign4 210 = .ok (.iload_n 3, 1) := by decide +kernel
theorem dL_sign4_211 : decode cL_sign4 211 = .ok (.ifCond .ne 8, 3) := by decide +kernel
theorem dL_sign4_214 : decode cL_sign4 214 = .ok (.bipush 43, 2) := by decide +kernel
theorem dL_sign4_216 : decode cL_sign4 216 = .ok (.goto 5, 3) := by decide +kernel
theorem dL_sign4_219 : decode cL_sign4 219 = .ok (.bipush 45, 2) := by decide +kernel
theorem dL_sign4_221 : decode cL_sign4 221 = .ok (.ireturn, 1) := by decide +kernel
theorem dL_sign4_222 : decode cL_sign4 222 = .ok (.iload_n 3, 1) := by decide +kernel
theorem dL_sign4_223 : decode cL_sign4 223 = .ok (.iconst 3, 1) := by decide +kernel
theorem dL_sign4_224 : decode cL_sign4 224 = .ok (.if_icmp .gt 17, 3) := by decide +kernel
theorem dL_sign4_227 : decode cL_sign4 227 = .ok (.iload 8, 2) := by decide +kernel
theorem dL_sign4_229 : decode cL_sign4 229 = .ok (.iload 9, 2) := by decide +kernel
theorem dL_sign4_231 : decode cL_sign4 231 = .ok (.isub, 1) := by decide +kernel
theorem dL_sign4_232 : decode cL_sign4 232 = .ok (.iload 5, 2) := by decide +kernel
theorem dL_sign4_234 : decode cL_sign4 234 = .ok (.aload_n 2, 1) := by decide +kernel
theorem dL_sign4_235 : decode cL_sign4 235 = .ok (.invokestatic 64, 3) := by decide +kernel
theorem dL_sign4_238 : decode cL_sign4 238 = .ok (.if_icmp .ne 8, 3) := by decide +kernel
theorem dL_sign4_241 : decode cL_sign4 241 = .ok (.bipush 41, 2) := by decide +kernel
theorem dL_sign4_243 : decode cL_sign4 243 = .ok (.goto 14, 3) := by decide +kernel
theorem dL_sign4_246 : decode cL_sign4 246 = .ok (.iload 5, 2) := by decide +kernel
theorem dL_sign4_248 : decode cL_sign4 248 = .ok (.iload 8, 2) := by decide +kernel
theorem dL_sign4_250 : decode cL_sign4 250 = .ok (.iload 9, 2) := by decide +kernel
theorem dL_sign4_252 : decode cL_sign4 252 = .ok (.isub, 1) := by decide +kernel
theorem dL_sign4_253 : decode cL_sign4 253 = .ok (.aload_n 2, 1) := by decide +kernel
theorem dL_sign4_254 : decode cL_sign4 254 = .ok (.invokestatic 67, 3) := by decide +kernel
theorem dL_sign4_257 : decode cL_sign4 257 = .ok (.ireturn, 1) := by decide +kernel
theorem dL_at5_0 : decode cL_at5 0 = .ok (.aload_n 2, 1) := by decide +kernel
theorem dL_at5_1 : decode cL_at5 1 = .ok (.iconst 4, 1) := by decide +kernel
theorem dL_at5_2 : decode cL_at5 2 = .ok (.iload_n 0, 1) := by decide +kernel
theorem dL_at5_3 : decode cL_at5 3 = .ok (.imul, 1) := by decide +kernel
theorem dL_at5_4 : decode cL_at5 4 = .ok (.iaload, 1) := by decide +kernel
theorem dL_at5_5 : decode cL_at5 5 = .ok (.istore 5, 2) := by decide +kernel
theorem dL_at5_7 : decode cL_at5 7 = .ok (.aload_n 2, 1) := by decide +kernel
theorem dL_at5_8 : decode cL_at5 8 = .ok (.iconst 4, 1) := by decide +kernel
theorem dL_at5_9 : decode cL_at5 9 = .ok (.iload_n 0, 1) := by decide +kernel
theorem dL_at5_10 : decode cL_at5 10 = .ok (.imul, 1) := by decide +kernel
theorem dL_at5_11 : decode cL_at5 11 = .ok (.iconst 1, 1) := by decide +kernel
theorem dL_at5_12 : decode cL_at5 12 = .ok (.iadd, 1) := by decide +kernel
theorem dL_at5_13 : decode cL_at5 13 = .ok (.iaload, 1) := by decide +kernel
theorem dL_at5_14 : decode cL_at5 14 = .ok (.istore 6, 2) := by decide +kernel
theorem dL_at5_16 : decode cL_at5 16 = .ok (.aload_n 2, 1) := by decide +kernel
theorem dL_at5_17 : decode cL_at5 17 = .ok (.iconst 4, 1) := by decide +kernel
theorem dL_at5_18 : decode cL_at5 18 = .ok (.iload_n 0, 1) := by decide +kernel
theorem dL_at5_19 : decode cL_at5 19 = .ok (.imul, 1) := by decide +kernel
theorem dL_at5_20 : decode cL_at5 20 = .ok (.iconst 2, 1) := by decide +kernel
theorem dL_at5_21 : decode cL_at5 21 = .ok (.iadd, 1) := by decide +kernel
theorem dL_at5_22 : decode cL_at5 22 = .ok (.iaload, 1) := by decide +kernel
theorem dL_at5_23 : decode cL_at5 23 = .ok (.istore 7, 2) := by decide +kernel
theorem dL_at5_25 : decode cL_at5 25 = .ok (.iload 5, 2) := by decide +kernel
theorem dL_at5_27 : decode cL_at5 27 = .ok (.iconst 4, 1) := by decide +kernel
theorem dL_at5_28 : decode cL_at5 28 = .ok (.if_icmp .eq 9, 3) := by decide +kernel
theorem dL_at5_31 : decode cL_at5 31 = .ok (.iload 5, 2) := by decide +kernel
theorem dL_at5_33 : decode cL_at5 33 = .ok (.iconst 5, 1) := by decide +kernel
theorem dL_at5_34 : decode cL_at5 34 = .ok (.if_icmp .ne 11, 3) := by decide +kernel
theorem dL_at5_37 : decode cL_at5 37 = .ok (.iload_n 0, 1) := by decide +kernel
theorem dL_at5_38 : decode cL_at5 38 = .ok (.iload_n 1, 1) := by decide +kernel
theorem dL_at5_39 : decode cL_at5 39 = .ok (.aload_n 2, 1) := by decide +kernel
theorem dL_at5_40 : decode cL_at5 40 = .ok (.aload_n 3, 1) := by decide +kernel
theorem dL_at5_41 : decode cL_at5 41 = .ok (.invokestatic 22, 3) := by decide +kernel
theorem dL_at5_44 : decode cL_at5 44 = .ok (.lreturn, 1) := by decide +kernel
theorem dL_at5_45 : decode cL_at5 45 = .ok (.iload 5, 2) := by decide +kernel
theorem dL_at5_47 : decode cL_at5 47 = .ok (.bipush 6, 2) := by decide +kernel
theorem dL_at5_49 : decode cL_at5 49 = .ok (.if_icmp .ne 20, 3) := by decide +kernel
theorem dL_at5_52 : decode cL_at5 52 = .ok (.iload 6, 2) := by decide +kernel
theorem dL_at5_54 : decode cL_at5 54 = .ok (.iload_n 1, 1) := by decide +kernel
theorem dL_at5_55 : decode cL_at5 55 = .ok (.aload 4, 2) := by decide +kernel
theorem dL_at5_57 : decode cL_at5 57 = .ok (.invokestatic 26, 3) := by decide +kernel
theorem dL_at5_60 : decode cL_at5 60 = .ok (.iload_n 1, 1) := by decide +kernel
theorem dL_at5_61 : decode cL_at5 61 = .ok (.aload_n 2, 1) := by decide +kernel
theorem dL_at5_62 : decode cL_at5 62 = .ok (.aload_n 3, 1) := by decide +kernel
theorem dL_at5_63 : decode cL_at5 63 = .ok (.aload 4, 2) := by decide +kernel
theorem dL_at5_65 : decode cL_at5 65 = .ok (.invokestatic 70, 3) := by decide +kernel
theorem dL_at5_68 : decode cL_at5 68 = .ok (.lreturn, 1) := by decide +kernel
theorem dL_at5_69 : decode cL_at5 69 = .ok (.iload 6, 2) := by decide +kernel
theorem dL_at5_71 : decode cL_at5 71 = .ok (.iload_n 1, 1) := by decide +kernel
theorem dL_at5_72 : decode cL_at5 72 = .ok (.aload_n 2, 1) := by decide +kernel
theorem dL_at5_73 : decode cL_at5 73 = .ok (.aload_n 3, 1) := by decide +kernel
theorem dL_at5_74 : decode cL_at5 74 = .ok (.aload 4, 2) := by decide +kernel
theorem dL_at5_76 : decode cL_at5 76 = .ok (.invokestatic 70, 3) := by decide +kernel
theorem dL_at5_79 : decode cL_at5 79 = .ok (.lstore 8, 2) := by decide +kernel
theorem dL_at5_81 : decode cL_at5 81 = .ok (.iload 5, 2) := by decide +kernel
theorem dL_at5_83 : decode cL_at5 83 = .ok (.bipush 7, 2) := by decide +kernel
theorem dL_at5_85 : decode cL_at5 85 = .ok (.if_icmp .ne 16, 3) := by decide +kernel
theorem dL_at5_88 : decode cL_at5 88 = .ok (.lload 8, 2) := by decide +kernel
theorem dL_at5_90 : decode cL_at5 90 = .ok (.iload 7, 2) := by decide +kernel
theorem dL_at5_92 : decode cL_at5 92 = .ok (.i2l, 1) := by decide +kernel
theorem dL_at5_93 : decode cL_at5 93 = .ok (.lmul, 1) := by decide +kernel
theorem dL_at5_94 : decode cL_at5 94 = .ok (.ldc2_w 30, 3) := by decide +kernel
theorem dL_at5_97 : decode cL_at5 97 = .ok (.invokestatic 32, 3) := by decide +kernel
theorem dL_at5_100 : decode cL_at5 100 = .ok (.lreturn, 1) := by decide +kernel
theorem dL_at5_101 : decode cL_at5 101 = .ok (.iload 5, 2) := by decide +kernel
theorem dL_at5_103 : decode cL_at5 103 = .ok (.bipush 8, 2) := by decide +kernel
theorem dL_at5_105 : decode cL_at5 105 = .ok (.if_icmp .ne 45, 3) := by decide +kernel
theorem dL_at5_108 : decode cL_at5 108 = .ok (.iconst 1, 1) := by decide +kernel
theorem dL_at5_109 : decode cL_at5 109 = .ok (.istore 10, 2) := by decide +kernel
theorem dL_at5_111 : decode cL_at5 111 = .ok (.iload 10, 2) := by decide +kernel
theorem dL_at5_113 : decode cL_at5 113 = .ok (.iconst 4, 1) := by decide +kernel
theorem dL_at5_114 : decode cL_at5 114 = .ok (.if_icmp .ge 33, 3) := by decide +kernel
theorem dL_at5_117 : decode cL_at5 117 = .ok (.iload 10, 2) := by decide +kernel
theorem dL_at5_119 : decode cL_at5 119 = .ok (.iload_n 1, 1) := by decide +kernel
theorem dL_at5_120 : decode cL_at5 120 = .ok (.if_icmp .gt 27, 3) := by decide +kernel
theorem dL_at5_123 : decode cL_at5 123 = .ok (.lload 8, 2) := by decide +kernel
theorem dL_at5_125 : decode cL_at5 125 = .ok (.iload 6, 2) := by decide +kernel
theorem dL_at5_127 : decode cL_at5 127 = .ok (.iload_n 1, 1) := by decide +kernel
theorem dL_at5_128 : decode cL_at5 128 = .ok (.iload 10, 2) := by decide +kernel
theorem dL_at5_130 : decode cL_at5 130 = .ok (.isub, 1) := by decide +kernel
theorem dL_at5_131 : decode cL_at5 131 = .ok (.aload_n 2, 1) := by decide +kernel
theorem dL_at5_132 : decode cL_at5 132 = .ok (.aload_n 3, 1) := by decide +kernel
theorem dL_at5_133 : decode cL_at5 133 = .ok (.aload 4, 2) := by decide +kernel
theorem dL_at5_135 : decode cL_at5 135 = .ok (.invokestatic 70, 3) := by decide +kernel
theorem dL_at5_138 : decode cL_at5 138 = .ok (.ladd, 1) := by decide +kernel
theorem dL_at5_139 : decode cL_at5 139 = .ok (.lstore 8, 2) := by decide +kernel
theorem dL_at5_141 : decode cL_at5 141 = .ok (.iinc 10 1, 3) := by decide +kernel
theorem dL_at5_144 : decode cL_at5 144 = .ok (.goto (-33), 3) := by decide +kernel
theorem dL_at5_147 : decode cL_at5 147 = .ok (.lload 8, 2) := by decide +kernel
theorem dL_at5_149 : decode cL_at5 149 = .ok (.lreturn, 1) := by decide +kernel
theorem dL_at5_150 : decode cL_at5 150 = .ok (.iload 5, 2) := by decide +kernel
theorem dL_at5_152 : decode cL_at5 152 = .ok (.lload 8, 2) := by decide +kernel
theorem dL_at5_154 : decode cL_at5 154 = .ok (.iload 7, 2) := by decide +kernel
theorem dL_at5_156 : decode cL_at5 156 = .ok (.iload_n 1, 1) := by decide +kernel
theorem dL_at5_157 : decode cL_at5 157 = .ok (.aload_n 2, 1) := by decide +kernel
theorem dL_at5_158 : decode cL_at5 158 = .ok (.aload_n 3, 1) := by decide +kernel
theorem dL_at5_159 : decode cL_at5 159 = .ok (.aload 4, 2) := by decide +kernel
theorem dL_at5_161 : decode cL_at5 161 = .ok (.invokestatic 70, 3) := by decide +kernel
theorem dL_at5_164 : decode cL_at5 164 = .ok (.invokestatic 36, 3) := by decide +kernel
theorem dL_at5_167 : decode cL_at5 167 = .ok (.lreturn, 1) := by decide +kernel
theorem dL_length5_0 : decode cL_length5 0 = .ok (.aload_n 1, 1) := by decide +kernel
theorem dL_length5_1 : decode cL_length5 1 = .ok (.iconst 4, 1) := by decide +kernel
theorem dL_length5_2 : decode cL_length5 2 = .ok (.iload_n 0, 1) := by decide +kernel
theorem dL_length5_3 : decode cL_length5 3 = .ok (.imul, 1) := by decide +kernel
theorem dL_length5_4 : decode cL_length5 4 = .ok (.iaload, 1) := by decide +kernel
theorem dL_length5_5 : decode cL_length5 5 = .ok (.istore_n 2, 1) := by decide +kernel
theorem dL_length5_6 : decode cL_length5 6 = .ok (.iload_n 2, 1) := by decide +kernel
theorem dL_length5_7 : decode cL_length5 7 = .ok (.iconst 4, 1) := by decide +kernel
theorem dL_length5_8 : decode cL_length5 8 = .ok (.if_icmp .eq 8, 3) := by decide +kernel
theorem dL_length5_11 : decode cL_length5 11 = .ok (.iload_n 2, 1) := by decide +kernel
theorem dL_length5_12 : decode cL_length5 12 = .ok (.iconst 5, 1) := by decide +kernel
theorem dL_length5_13 : decode cL_length5 13 = .ok (.if_icmp .ne 9, 3) := by decide +kernel
theorem dL_length5_16 : decode cL_length5 16 = .ok (.iload_n 0, 1) := by decide +kernel
theorem dL_length5_17 : decode cL_length5 17 = .ok (.aload_n 1, 1) := by decide +kernel
theorem dL_length5_18 : decode cL_length5 18 = .ok (.invokestatic 40, 3) := by decide +kernel
theorem dL_length5_21 : decode cL_length5 21 = .ok (.ireturn, 1) := by decide +kernel
theorem dL_length5_22 : decode cL_length5 22 = .ok (.iload_n 2, 1) := by decide +kernel
theorem dL_length5_23 : decode cL_length5 23 = .ok (.bipush 6, 2) := by decide +kernel
theorem dL_length5_25 : decode cL_length5 25 = .ok (.if_icmp .ne 5, 3) := by decide +kernel
theorem dL_length5_28 : decode cL_length5 28 = .ok (.iconst 2, 1) := by decide +kernel
theorem dL_length5_29 : decode cL_length5 29 = .ok (.ireturn, 1) := by decide +kernel
theorem dL_length5_30 : decode cL_length5 30 = .ok (.aload_n 1, 1) := by decide +kernel
theorem dL_length5_31 : decode cL_length5 31 = .ok (.iconst 4, 1) := by decide +kernel
theorem dL_length5_32 : decode cL_length5 32 = .ok (.iload_n 0, 1) := by decide +kernel
theorem dL_length5_33 : decode cL_length5 33 = .ok (.imul, 1) := by decide +kernel
theorem dL_length5_34 : decode cL_length5 34 = .ok (.iconst 1, 1) := by decide +kernel
theorem dL_length5_35 : decode cL_length5 35 = .ok (.iadd, 1) := by decide +kernel
theorem dL_length5_36 : decode cL_length5 36 = .ok (.iaload, 1) := by decide +kernel
theorem dL_length5_37 : decode cL_length5 37 = .ok (.aload_n 1, 1) := by decide +kernel
theorem dL_length5_38 : decode cL_length5 38 = .ok (.invokestatic 73, 3) := by decide +kernel
theorem dL_length5_41 : decode cL_length5 41 = .ok (.istore_n 3, 1) := by decide +kernel
theorem dL_length5_42 : decode cL_length5 42 = .ok (.iload_n 2, 1) := by decide +kernel
theorem dL_length5_43 : decode cL_length5 43 = .ok (.bipush 7, 2) := by decide +kernel
theorem dL_length5_45 : decode cL_length5 45 = .ok (.if_icmp .ne 20, 3) := by decide +kernel
theorem dL_length5_48 : decode cL_length5 48 = .ok (.iload_n 3, 1) := by decide +kernel
theorem dL_length5_49 : decode cL_length5 49 = .ok (.iconst 5, 1) := by decide +kernel
theorem dL_length5_50 : decode cL_length5 50 = .ok (.iadd, 1) := by decide +kernel
theorem dL_length5_51 : decode cL_length5 51 = .ok (.aload_n 1, 1) := by decide +kernel
theorem dL_length5_52 : decode cL_length5 52 = .ok (.iconst 4, 1) := by decide +kernel
theorem dL_length5_53 : decode cL_length5 53 = .ok (.iload_n 0, 1) := by decide +kernel
theorem dL_length5_54 : decode cL_length5 54 = .ok (.imul, 1) := by decide +kernel
theorem dL_length5_55 : decode cL_length5 55 = .ok (.iconst 2, 1) := by decide +kernel
theorem dL_length5_56 : decode cL_length5 56 = .ok (.iadd, 1) := by decide +kernel
theorem dL_length5_57 : decode cL_length5 57 = .ok (.iaload, 1) := by decide +kernel
theorem dL_length5_58 : decode cL_length5 58 = .ok (.invokestatic 12, 3) := by decide +kernel
theorem dL_length5_61 : decode cL_length5 61 = .ok (.iadd, 1) := by decide +kernel
theorem dL_length5_62 : decode cL_length5 62 = .ok (.goto 41, 3) := by decide +kernel
theorem dL_length5_65 : decode cL_length5 65 = .ok (.iload_n 2, 1) := by decide +kernel
theorem dL_length5_66 : decode cL_length5 66 = .ok (.bipush 8, 2) := by decide +kernel
theorem dL_length5_68 : decode cL_length5 68 = .ok (.if_icmp .ne 10, 3) := by decide +kernel
theorem dL_length5_71 : decode cL_length5 71 = .ok (.iload_n 3, 1) := by decide +kernel
theorem dL_length5_72 : decode cL_length5 72 = .ok (.bipush 6, 2) := by decide +kernel
theorem dL_length5_74 : decode cL_length5 74 = .ok (.iadd, 1) := by decide +kernel
theorem dL_length5_75 : decode cL_length5 75 = .ok (.goto 28, 3) := by decide +kernel
theorem dL_length5_78 : decode cL_length5 78 = .ok (.iload_n 3, 1) := by decide +kernel
theorem dL_length5_79 : decode cL_length5 79 = .ok (.aload_n 1, 1) := by decide +kernel
theorem dL_length5_80 : decode cL_length5 80 = .ok (.iconst 4, 1) := by decide +kernel
theorem dL_length5_81 : decode cL_length5 81 = .ok (.iload_n 0, 1) := by decide +kernel
theorem dL_length5_82 : decode cL_length5 82 = .ok (.imul, 1) := by decide +kernel
theorem dL_length5_83 : decode cL_length5 83 = .ok (.iconst 2, 1) := by decide +kernel
theorem dL_length5_84 : decode cL_length5 84 = .ok (.iadd, 1) := by decide +kernel
theorem dL_length5_85 : decode cL_length5 85 = .ok (.iaload, 1) := by decide +kernel
theorem dL_length5_86 : decode cL_length5 86 = .ok (.aload_n 1, 1) := by decide +kernel
theorem dL_length5_87 : decode cL_length5 87 = .ok (.invokestatic 73, 3) := by decide +kernel
theorem dL_length5_90 : decode cL_length5 90 = .ok (.iadd, 1) := by decide +kernel
theorem dL_length5_91 : decode cL_length5 91 = .ok (.iload_n 2, 1) := by decide +kernel
theorem dL_length5_92 : decode cL_length5 92 = .ok (.iconst 2, 1) := by decide +kernel
theorem dL_length5_93 : decode cL_length5 93 = .ok (.if_icmp .ge 7, 3) := by decide +kernel
theorem dL_length5_96 : decode cL_length5 96 = .ok (.iconst 5, 1) := by decide +kernel
theorem dL_length5_97 : decode cL_length5 97 = .ok (.goto 5, 3) := by decide +kernel
theorem dL_length5_100 : decode cL_length5 100 = .ok (.bipush 7, 2) := by decide +kernel
theorem dL_length5_102 : decode cL_length5 102 = .ok (.iadd, 1) := by decide +kernel
theorem dL_length5_103 : decode cL_length5 103 = .ok (.ireturn, 1) := by decide +kernel
theorem dL_sign5_0 : decode cL_sign5 0 = .ok (.aload_n 2, 1) := by decide +kernel
theorem dL_sign5_1 : decode cL_sign5 1 = .ok (.iconst 4, 1) := by decide +kernel
theorem dL_sign5_2 : decode cL_sign5 2 = .ok (.iload_n 0, 1) := by decide +kernel
theorem dL_sign5_3 : decode cL_sign5 3 = .ok (.imul, 1) := by decide +kernel
theorem dL_sign5_4 : decode cL_sign5 4 = .ok (.iaload, 1) := by decide +kernel
theorem dL_sign5_5 : decode cL_sign5 5 = .ok (.istore_n 3, 1) := by decide +kernel
theorem dL_sign5_6 : decode cL_sign5 6 = .ok (.aload_n 2, 1) := by decide +kernel
theorem dL_sign5_7 : decode cL_sign5 7 = .ok (.iconst 4, 1) := by decide +kernel
theorem dL_sign5_8 : decode cL_sign5 8 = .ok (.iload_n 0, 1) := by decide +kernel
theorem dL_sign5_9 : decode cL_sign5 9 = .ok (.imul, 1) := by decide +kernel
theorem dL_sign5_10 : decode cL_sign5 10 = .ok (.iconst 1, 1) := by decide +kernel
theorem dL_sign5_11 : decode cL_sign5 11 = .ok (.iadd, 1) := by decide +kernel
theorem dL_sign5_12 : decode cL_sign5 12 = .ok (.iaload, 1) := by decide +kernel
theorem dL_sign5_13 : decode cL_sign5 13 = .ok (.istore 4, 2) := by decide +kernel
theorem dL_sign5_15 : decode cL_sign5 15 = .ok (.aload_n 2, 1) := by decide +kernel
theorem dL_sign5_16 : decode cL_sign5 16 = .ok (.iconst 4, 1) := by decide +kernel
theorem dL_sign5_17 : decode cL_sign5 17 = .ok (.iload_n 0, 1) := by decide +kernel
theorem dL_sign5_18 : decode cL_sign5 18 = .ok (.imul, 1) := by decide +kernel
theorem dL_sign5_19 : decode cL_sign5 19 = .ok (.iconst 2, 1) := by decide +kernel
theorem dL_sign5_20 : decode cL_sign5 20 = .ok (.iadd, 1) := by decide +kernel
theorem dL_sign5_21 : decode cL_sign5 21 = .ok (.iaload, 1) := by decide +kernel
theorem dL_sign5_22 : decode cL_sign5 22 = .ok (.istore 5, 2) := by decide +kernel
theorem dL_sign5_24 : decode cL_sign5 24 = .ok (.iload_n 3, 1) := by decide +kernel
theorem dL_sign5_25 : decode cL_sign5 25 = .ok (.iconst 4, 1) := by decide +kernel
theorem dL_sign5_26 : decode cL_sign5 26 = .ok (.if_icmp .eq 8, 3) := by decide +kernel
theorem dL_sign5_29 : decode cL_sign5 29 = .ok (.iload_n 3, 1) := by decide +kernel
theorem dL_sign5_30 : decode cL_sign5 30 = .ok (.iconst 5, 1) := by decide +kernel
theorem dL_sign5_31 : decode cL_sign5 31 = .ok (.if_icmp .ne 10, 3) := by decide +kernel
theorem dL_sign5_34 : decode cL_sign5 34 = .ok (.iload_n 0, 1) := by decide +kernel
theorem dL_sign5_35 : decode cL_sign5 35 = .ok (.iload_n 1, 1) := by decide +kernel
theorem dL_sign5_36 : decode cL_sign5 36 = .ok (.aload_n 2, 1) := by decide +kernel
theorem dL_sign5_37 : decode cL_sign5 37 = .ok (.invokestatic 44, 3) := by decide +kernel
theorem dL_sign5_40 : decode cL_sign5 40 = .ok (.ireturn, 1) := by decide +kernel
theorem dL_sign5_41 : decode cL_sign5 41 = .ok (.iload_n 3, 1) := by decide +kernel
theorem dL_sign5_42 : decode cL_sign5 42 = .ok (.bipush 6, 2) := by decide +kernel
theorem dL_sign5_44 : decode cL_sign5 44 = .ok (.if_icmp .ne 18, 3) := by decide +kernel
theorem dL_sign5_47 : decode cL_sign5 47 = .ok (.iload_n 1, 1) := by decide +kernel
theorem dL_sign5_48 : decode cL_sign5 48 = .ok (.ifCond .ne 8, 3) := by decide +kernel
theorem dL_sign5_51 : decode cL_sign5 51 = .ok (.bipush 84, 2) := by decide +kernel
theorem dL_sign5_53 : decode cL_sign5 53 = .ok (.goto 8, 3) := by decide +kernel
theorem dL_sign5_56 : decode cL_sign5 56 = .ok (.bipush 48, 2) := by decide +kernel
theorem dL_sign5_58 : decode cL_sign5 58 = .ok (.iload 4, 2) := by decide +kernel
theorem dL_sign5_60 : decode cL_sign5 60 = .ok (.iadd, 1) := by decide +kernel
theorem dL_sign5_61 : decode cL_sign5 61 = .ok (.ireturn, 1) := by decide +kernel
theorem dL_sign5_62 : decode cL_sign5 62 = .ok (.iload_n 3, 1) := by decide +kernel
theorem dL_sign5_63 : decode cL_sign5 63 = .ok (.bipush 7, 2) := by decide +kernel
theorem dL_sign5_65 : decode cL_sign5 65 = .ok (.if_icmp .ne 13, 3) := by decide +kernel
theorem dL_sign5_68 : decode cL_sign5 68 = .ok (.iload 5, 2) := by decide +kernel
theorem dL_sign5_70 : decode cL_sign5 70 = .ok (.invokestatic 12, 3) := by decide +kernel
theorem dL_sign5_73 : decode cL_sign5 73 = .ok (.iconst 5, 1) := by decide +kernel
theorem dL_sign5_74 : decode cL_sign5 74 = .ok (.iadd, 1) := by decide +kernel
theorem dL_sign5_75 : decode cL_sign5 75 = .ok (.goto 23, 3) := by decide +kernel
theorem dL_sign5_78 : decode cL_sign5 78 = .ok (.iload_n 3, 1) := by decide +kernel
theorem dL_sign5_79 : decode cL_sign5 79 = .ok (.bipush 8, 2) := by decide +kernel
theorem dL_sign5_81 : decode cL_sign5 81 = .ok (.if_icmp .ne 7, 3) := by decide +kernel
theorem dL_sign5_84 : decode cL_sign5 84 = .ok (.iconst 5, 1) := by decide +kernel
theorem dL_sign5_85 : decode cL_sign5 85 = .ok (.goto 13, 3) := by decide +kernel
theorem dL_sign5_88 : decode cL_sign5 88 = .ok (.iload_n 3, 1) := by decide +kernel
theorem dL_sign5_89 : decode cL_sign5 89 = .ok (.iconst 2, 1) := by decide +kernel
theorem dL_sign5_90 : decode cL_sign5 90 = .ok (.if_icmp .ge 7, 3) := by decide +kernel
theorem dL_sign5_93 : decode cL_sign5 93 = .ok (.iconst 1, 1) := by decide +kernel
theorem dL_sign5_94 : decode cL_sign5 94 = .ok (.goto 4, 3) := by decide +kernel
theorem dL_sign5_97 : decode cL_sign5 97 = .ok (.iconst 4, 1) := by decide +kernel
theorem dL_sign5_98 : decode cL_sign5 98 = .ok (.istore 6, 2) := by decide +kernel
theorem dL_sign5_100 : decode cL_sign5 100 = .ok (.iload 4, 2) := by decide +kernel
theorem dL_sign5_102 : decode cL_sign5 102 = .ok (.aload_n 2, 1) := by decide +kernel
theorem dL_sign5_103 : decode cL_sign5 103 = .ok (.invokestatic 73, 3) := by decide +kernel
theorem dL_sign5_106 : decode cL_sign5 106 = .ok (.istore 7, 2) := by decide +kernel
theorem dL_sign5_108 : decode cL_sign5 108 = .ok (.iload_n 1, 1) := by decide +kernel
theorem dL_sign5_109 : decode cL_sign5 109 = .ok (.iload 6, 2) := by decide +kernel
theorem dL_sign5_111 : decode cL_sign5 111 = .ok (.if_icmp .ge 11, 3) := by decide +kernel
theorem dL_sign5_114 : decode cL_sign5 114 = .ok (.iload_n 3, 1) := by decide +kernel
theorem dL_sign5_115 : decode cL_sign5 115 = .ok (.iload 5, 2) := by decide +kernel
theorem dL_sign5_117 : decode cL_sign5 117 = .ok (.iload_n 1, 1) := by decide +kernel
theorem dL_sign5_118 : decode cL_sign5 118 = .ok (.invokestatic 47, 3) := by decide +kernel
