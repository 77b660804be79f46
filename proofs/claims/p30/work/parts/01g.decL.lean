theorem dL_sign5_121 : decode cL_sign5 121 = .ok (.ireturn, 1) := by decide +kernel
theorem dL_sign5_122 : decode cL_sign5 122 = .ok (.iload_n 1, 1) := by decide +kernel
theorem dL_sign5_123 : decode cL_sign5 123 = .ok (.iload 6, 2) := by decide +kernel
theorem dL_sign5_125 : decode cL_sign5 125 = .ok (.iload 7, 2) := by decide +kernel
theorem dL_sign5_127 : decode cL_sign5 127 = .ok (.iadd, 1) := by decide +kernel
theorem dL_sign5_128 : decode cL_sign5 128 = .ok (.if_icmp .ge 14, 3) := by decide +kernel
theorem dL_sign5_131 : decode cL_sign5 131 = .ok (.iload 4, 2) := by decide +kernel
theorem dL_sign5_133 : decode cL_sign5 133 = .ok (.iload_n 1, 1) := by decide +kernel
theorem dL_sign5_134 : decode cL_sign5 134 = .ok (.iload 6, 2) := by decide +kernel
theorem dL_sign5_136 : decode cL_sign5 136 = .ok (.isub, 1) := by decide +kernel
theorem dL_sign5_137 : decode cL_sign5 137 = .ok (.aload_n 2, 1) := by decide +kernel
theorem dL_sign5_138 : decode cL_sign5 138 = .ok (.invokestatic 76, 3) := by decide +kernel
theorem dL_sign5_141 : decode cL_sign5 141 = .ok (.ireturn, 1) := by decide +kernel
theorem dL_sign5_142 : decode cL_sign5 142 = .ok (.iload_n 1, 1) := by decide +kernel
theorem dL_sign5_143 : decode cL_sign5 143 = .ok (.iload 6, 2) := by decide +kernel
theorem dL_sign5_145 : decode cL_sign5 145 = .ok (.isub, 1) := by decide +kernel
theorem dL_sign5_146 : decode cL_sign5 146 = .ok (.iload 7, 2) := by decide +kernel
theorem dL_sign5_148 : decode cL_sign5 148 = .ok (.isub, 1) := by decide +kernel
theorem dL_sign5_149 : decode cL_sign5 149 = .ok (.istore 8, 2) := by decide +kernel
theorem dL_sign5_151 : decode cL_sign5 151 = .ok (.iload_n 3, 1) := by decide +kernel
theorem dL_sign5_152 : decode cL_sign5 152 = .ok (.iconst 2, 1) := by decide +kernel
theorem dL_sign5_153 : decode cL_sign5 153 = .ok (.if_icmp .ge 7, 3) := by decide +kernel
theorem dL_sign5_156 : decode cL_sign5 156 = .ok (.iconst 3, 1) := by decide +kernel
theorem dL_sign5_157 : decode cL_sign5 157 = .ok (.goto 13, 3) := by decide +kernel
theorem dL_sign5_160 : decode cL_sign5 160 = .ok (.iload_n 3, 1) := by decide +kernel
theorem dL_sign5_161 : decode cL_sign5 161 = .ok (.iconst 4, 1) := by decide +kernel
theorem dL_sign5_162 : decode cL_sign5 162 = .ok (.if_icmp .ge 7, 3) := by decide +kernel
theorem dL_sign5_165 : decode cL_sign5 165 = .ok (.iconst 2, 1) := by decide +kernel
theorem dL_sign5_166 : decode cL_sign5 166 = .ok (.goto 4, 3) := by decide +kernel
theorem dL_sign5_169 : decode cL_sign5 169 = .ok (.iconst 0, 1) := by decide +kernel
theorem dL_sign5_170 : decode cL_sign5 170 = .ok (.istore 9, 2) := by decide +kernel
theorem dL_sign5_172 : decode cL_sign5 172 = .ok (.iload 8, 2) := by decide +kernel
theorem dL_sign5_174 : decode cL_sign5 174 = .ok (.iload 9, 2) := by decide +kernel
theorem dL_sign5_176 : decode cL_sign5 176 = .ok (.if_icmp .ge 46, 3) := by decide +kernel
theorem dL_sign5_179 : decode cL_sign5 179 = .ok (.iload_n 3, 1) := by decide +kernel
theorem dL_sign5_180 : decode cL_sign5 180 = .ok (.iconst 1, 1) := by decide +kernel
theorem dL_sign5_181 : decode cL_sign5 181 = .ok (.if_icmp .le 18, 3) := by decide +kernel
theorem dL_sign5_184 : decode cL_sign5 184 = .ok (.iload 8, 2) := by decide +kernel
theorem dL_sign5_186 : decode cL_sign5 186 = .ok (.ifCond .ne 8, 3) := by decide +kernel
theorem dL_sign5_189 : decode cL_sign5 189 = .ok (.bipush 44, 2) := by decide +kernel
theorem dL_sign5_191 : decode cL_sign5 191 = .ok (.goto 30, 3) := by decide +kernel
theorem dL_sign5_194 : decode cL_sign5 194 = .ok (.bipush 32, 2) := by decide +kernel
theorem dL_sign5_196 : decode cL_sign5 196 = .ok (.goto 25, 3) := by decide +kernel
theorem dL_sign5_199 : decode cL_sign5 199 = .ok (.iload 8, 2) := by decide +kernel
theorem dL_sign5_201 : decode cL_sign5 201 = .ok (.iconst 1, 1) := by decide +kernel
theorem dL_sign5_202 : decode cL_sign5 202 = .ok (.if_icmp .eq 8, 3) := by decide +kernel
theorem dL_sign5_205 : decode cL_sign5 205 = .ok (.bipush 32, 2) := by decide +kernel
theorem dL_sign5_207 : decode cL_sign5 207 = .ok (.goto 14, 3) := by decide +kernel
theorem dL_sign5_210 : decode cL_sign5 210 = .ok (.iload_n 3, 1) := by decide +kernel
theorem dL_sign5_211 : decode cL_sign5 211 = .ok (.ifCond .ne 8, 3) := by decide +kernel
theorem dL_sign5_214 : decode cL_sign5 214 = .ok (.bipush 43, 2) := by decide +kernel
theorem dL_sign5_216 : decode cL_sign5 216 = .ok (.goto 5, 3) := by decide +kernel
theorem dL_sign5_219 : decode cL_sign5 219 = .ok (.bipush 45, 2) := by decide +kernel
theorem dL_sign5_221 : decode cL_sign5 221 = .ok (.ireturn, 1) := by decide +kernel
theorem dL_sign5_222 : decode cL_sign5 222 = .ok (.iload_n 3, 1) := by decide +kernel
theorem dL_sign5_223 : decode cL_sign5 223 = .ok (.iconst 3, 1) := by decide +kernel
theorem dL_sign5_224 : decode cL_sign5 224 = .ok (.if_icmp .gt 17, 3) := by decide +kernel
theorem dL_sign5_227 : decode cL_sign5 227 = .ok (.iload 8, 2) := by decide +kernel
theorem dL_sign5_229 : decode cL_sign5 229 = .ok (.iload 9, 2) := by decide +kernel
theorem dL_sign5_231 : decode cL_sign5 231 = .ok (.isub, 1) := by decide +kernel
theorem dL_sign5_232 : decode cL_sign5 232 = .ok (.iload 5, 2) := by decide +kernel
theorem dL_sign5_234 : decode cL_sign5 234 = .ok (.aload_n 2, 1) := by decide +kernel
theorem dL_sign5_235 : decode cL_sign5 235 = .ok (.invokestatic 73, 3) := by decide +kernel
theorem dL_sign5_238 : decode cL_sign5 238 = .ok (.if_icmp .ne 8, 3) := by decide +kernel
theorem dL_sign5_241 : decode cL_sign5 241 = .ok (.bipush 41, 2) := by decide +kernel
theorem dL_sign5_243 : decode cL_sign5 243 = .ok (.goto 14, 3) := by decide +kernel
theorem dL_sign5_246 : decode cL_sign5 246 = .ok (.iload 5, 2) := by decide +kernel
theorem dL_sign5_248 : decode cL_sign5 248 = .ok (.iload 8, 2) := by decide +kernel
theorem dL_sign5_250 : decode cL_sign5 250 = .ok (.iload 9, 2) := by decide +kernel
theorem dL_sign5_252 : decode cL_sign5 252 = .ok (.isub, 1) := by decide +kernel
theorem dL_sign5_253 : decode cL_sign5 253 = .ok (.aload_n 2, 1) := by decide +kernel
theorem dL_sign5_254 : decode cL_sign5 254 = .ok (.invokestatic 76, 3) := by decide +kernel
theorem dL_sign5_257 : decode cL_sign5 257 = .ok (.ireturn, 1) := by decide +kernel
theorem dL_at6_0 : decode cL_at6 0 = .ok (.aload_n 2, 1) := by decide +kernel
theorem dL_at6_1 : decode cL_at6 1 = .ok (.iconst 4, 1) := by decide +kernel
theorem dL_at6_2 : decode cL_at6 2 = .ok (.iload_n 0, 1) := by decide +kernel
theorem dL_at6_3 : decode cL_at6 3 = .ok (.imul, 1) := by decide +kernel
theorem dL_at6_4 : decode cL_at6 4 = .ok (.iaload, 1) := by decide +kernel
theorem dL_at6_5 : decode cL_at6 5 = .ok (.istore 5, 2) := by decide +kernel
theorem dL_at6_7 : decode cL_at6 7 = .ok (.aload_n 2, 1) := by decide +kernel
theorem dL_at6_8 : decode cL_at6 8 = .ok (.iconst 4, 1) := by decide +kernel
theorem dL_at6_9 : decode cL_at6 9 = .ok (.iload_n 0, 1) := by decide +kernel
theorem dL_at6_10 : decode cL_at6 10 = .ok (.imul, 1) := by decide +kernel
theorem dL_at6_11 : decode cL_at6 11 = .ok (.iconst 1, 1) := by decide +kernel
theorem dL_at6_12 : decode cL_at6 12 = .ok (.iadd, 1) := by decide +kernel
theorem dL_at6_13 : decode cL_at6 13 = .ok (.iaload, 1) := by decide +kernel
theorem dL_at6_14 : decode cL_at6 14 = .ok (.istore 6, 2) := by decide +kernel
theorem dL_at6_16 : decode cL_at6 16 = .ok (.aload_n 2, 1) := by decide +kernel
theorem dL_at6_17 : decode cL_at6 17 = .ok (.iconst 4, 1) := by decide +kernel
theorem dL_at6_18 : decode cL_at6 18 = .ok (.iload_n 0, 1) := by decide +kernel
theorem dL_at6_19 : decode cL_at6 19 = .ok (.imul, 1) := by decide +kernel
theorem dL_at6_20 : decode cL_at6 20 = .ok (.iconst 2, 1) := by decide +kernel
theorem dL_at6_21 : decode cL_at6 21 = .ok (.iadd, 1) := by decide +kernel
theorem dL_at6_22 : decode cL_at6 22 = .ok (.iaload, 1) := by decide +kernel
theorem dL_at6_23 : decode cL_at6 23 = .ok (.istore 7, 2) := by decide +kernel
theorem dL_at6_25 : decode cL_at6 25 = .ok (.iload 5, 2) := by decide +kernel
theorem dL_at6_27 : decode cL_at6 27 = .ok (.iconst 4, 1) := by decide +kernel
theorem dL_at6_28 : decode cL_at6 28 = .ok (.if_icmp .eq 9, 3) := by decide +kernel
theorem dL_at6_31 : decode cL_at6 31 = .ok (.iload 5, 2) := by decide +kernel
theorem dL_at6_33 : decode cL_at6 33 = .ok (.iconst 5, 1) := by decide +kernel
theorem dL_at6_34 : decode cL_at6 34 = .ok (.if_icmp .ne 11, 3) := by decide +kernel
theorem dL_at6_37 : decode cL_at6 37 = .ok (.iload_n 0, 1) := by decide +kernel
theorem dL_at6_38 : decode cL_at6 38 = .ok (.iload_n 1, 1) := by decide +kernel
theorem dL_at6_39 : decode cL_at6 39 = .ok (.aload_n 2, 1) := by decide +kernel
theorem dL_at6_40 : decode cL_at6 40 = .ok (.aload_n 3, 1) := by decide +kernel
theorem dL_at6_41 : decode cL_at6 41 = .ok (.invokestatic 22, 3) := by decide +kernel
theorem dL_at6_44 : decode cL_at6 44 = .ok (.lreturn, 1) := by decide +kernel
theorem dL_at6_45 : decode cL_at6 45 = .ok (.iload 5, 2) := by decide +kernel
theorem dL_at6_47 : decode cL_at6 47 = .ok (.bipush 6, 2) := by decide +kernel
theorem dL_at6_49 : decode cL_at6 49 = .ok (.if_icmp .ne 20, 3) := by decide +kernel
theorem dL_at6_52 : decode cL_at6 52 = .ok (.iload 6, 2) := by decide +kernel
theorem dL_at6_54 : decode cL_at6 54 = .ok (.iload_n 1, 1) := by decide +kernel
theorem dL_at6_55 : decode cL_at6 55 = .ok (.aload 4, 2) := by decide +kernel
theorem dL_at6_57 : decode cL_at6 57 = .ok (.invokestatic 26, 3) := by decide +kernel
theorem dL_at6_60 : decode cL_at6 60 = .ok (.iload_n 1, 1) := by decide +kernel
theorem dL_at6_61 : decode cL_at6 61 = .ok (.aload_n 2, 1) := by decide +kernel
theorem dL_at6_62 : decode cL_at6 62 = .ok (.aload_n 3, 1) := by decide +kernel
theorem dL_at6_63 : decode cL_at6 63 = .ok (.aload 4, 2) := by decide +kernel
theorem dL_at6_65 : decode cL_at6 65 = .ok (.invokestatic 79, 3) := by decide +kernel
theorem dL_at6_68 : decode cL_at6 68 = .ok (.lreturn, 1) := by decide +kernel
theorem dL_at6_69 : decode cL_at6 69 = .ok (.iload 6, 2) := by decide +kernel
theorem dL_at6_71 : decode cL_at6 71 = .ok (.iload_n 1, 1) := by decide +kernel
theorem dL_at6_72 : decode cL_at6 72 = .ok (.aload_n 2, 1) := by decide +kernel
theorem dL_at6_73 : decode cL_at6 73 = .ok (.aload_n 3, 1) := by decide +kernel
theorem dL_at6_74 : decode cL_at6 74 = .ok (.aload 4, 2) := by decide +kernel
theorem dL_at6_76 : decode cL_at6 76 = .ok (.invokestatic 79, 3) := by decide +kernel
theorem dL_at6_79 : decode cL_at6 79 = .ok (.lstore 8, 2) := by decide +kernel
theorem dL_at6_81 : decode cL_at6 81 = .ok (.iload 5, 2) := by decide +kernel
theorem dL_at6_83 : decode cL_at6 83 = .ok (.bipush 7, 2) := by decide +kernel
theorem dL_at6_85 : decode cL_at6 85 = .ok (.if_icmp .ne 16, 3) := by decide +kernel
theorem dL_at6_88 : decode cL_at6 88 = .ok (.lload 8, 2) := by decide +kernel
theorem dL_at6_90 : decode cL_at6 90 = .ok (.iload 7, 2) := by decide +kernel
theorem dL_at6_92 : decode cL_at6 92 = .ok (.i2l, 1) := by decide +kernel
theorem dL_at6_93 : decode cL_at6 93 = .ok (.lmul, 1) := by decide +kernel
theorem dL_at6_94 : decode cL_at6 94 = .ok (.ldc2_w 30, 3) := by decide +kernel
theorem dL_at6_97 : decode cL_at6 97 = .ok (.invokestatic 32, 3) := by decide +kernel
theorem dL_at6_100 : decode cL_at6 100 = .ok (.lreturn, 1) := by decide +kernel
theorem dL_at6_101 : decode cL_at6 101 = .ok (.iload 5, 2) := by decide +kernel
theorem dL_at6_103 : decode cL_at6 103 = .ok (.bipush 8, 2) := by decide +kernel
theorem dL_at6_105 : decode cL_at6 105 = .ok (.if_icmp .ne 45, 3) := by decide +kernel
theorem dL_at6_108 : decode cL_at6 108 = .ok (.iconst 1, 1) := by decide +kernel
theorem dL_at6_109 : decode cL_at6 109 = .ok (.istore 10, 2) := by decide +kernel
theorem dL_at6_111 : decode cL_at6 111 = .ok (.iload 10, 2) := by decide +kernel
theorem dL_at6_113 : decode cL_at6 113 = .ok (.iconst 4, 1) := by decide +kernel
theorem dL_at6_114 : decode cL_at6 114 = .ok (.if_icmp .ge 33, 3) := by decide +kernel
theorem dL_at6_117 : decode cL_at6 117 = .ok (.iload 10, 2) := by decide +kernel
theorem dL_at6_119 : decode cL_at6 119 = .ok (.iload_n 1, 1) := by decide +kernel
theorem dL_at6_120 : decode cL_at6 120 = .ok (.if_icmp .gt 27, 3) := by decide +kernel
theorem dL_at6_123 : decode cL_at6 123 = .ok (.lload 8, 2) := by decide +kernel
theorem dL_at6_125 : decode cL_at6 125 = .ok (.iload 6, 2) := by decide +kernel
theorem dL_at6_127 : decode cL_at6 127 = .ok (.iload_n 1, 1) := by decide +kernel
theorem dL_at6_128 : decode cL_at6 128 = .ok (.iload 10, 2) := by decide +kernel
theorem dL_at6_130 : decode cL_at6 130 = .ok (.isub, 1) := by decide +kernel
theorem dL_at6_131 : decode cL_at6 131 = .ok (.aload_n 2, 1) := by decide +kernel
theorem dL_at6_132 : decode cL_at6 132 = .ok (.aload_n 3, 1) := by decide +kernel
theorem dL_at6_133 : decode cL_at6 133 = .ok (.aload 4, 2) := by decide +kernel
theorem dL_at6_135 : decode cL_at6 135 = .ok (.invokestatic 79, 3) := by decide +kernel
theorem dL_at6_138 : decode cL_at6 138 = .ok (.ladd, 1) := by decide +kernel
theorem dL_at6_139 : decode cL_at6 139 = .ok (.lstore 8, 2) := by decide +kernel
theorem dL_at6_141 : decode cL_at6 141 = .ok (.iinc 10 1, 3) := by decide +kernel
theorem dL_at6_144 : decode cL_at6 144 = .ok (.goto (-33), 3) := by decide +kernel
theorem dL_at6_147 : decode cL_at6 147 = .ok (.lload 8, 2) := by decide +kernel
theorem dL_at6_149 : decode cL_at6 149 = .ok (.lreturn, 1) := by decide +kernel
theorem dL_at6_150 : decode cL_at6 150 = .ok (.iload 5, 2) := by decide +kernel
theorem dL_at6_152 : decode cL_at6 152 = .ok (.lload 8, 2) := by decide +kernel
theorem dL_at6_154 : decode cL_at6 154 = .ok (.iload 7, 2) := by decide +kernel
theorem dL_at6_156 : decode cL_at6 156 = .ok (.iload_n 1, 1) := by decide +kernel
theorem dL_at6_157 : decode cL_at6 157 = .ok (.aload_n 2, 1) := by decide +kernel
theorem dL_at6_158 : decode cL_at6 158 = .ok (.aload_n 3, 1) := by decide +kernel
theorem dL_at6_159 : decode cL_at6 159 = .ok (.aload 4, 2) := by decide +kernel
theorem dL_at6_161 : decode cL_at6 161 = .ok (.invokestatic 79, 3) := by decide +kernel
theorem dL_at6_164 : decode cL_at6 164 = .ok (.invokestatic 36, 3) := by decide +kernel
theorem dL_at6_167 : decode cL_at6 167 = .ok (.lreturn, 1) := by decide +kernel
theorem dL_length6_0 : decode cL_length6 0 = .ok (.aload_n 1, 1) := by decide +kernel
theorem dL_length6_1 : decode cL_length6 1 = .ok (.iconst 4, 1) := by decide +kernel
theorem dL_length6_2 : decode cL_length6 2 = .ok (.iload_n 0, 1) := by decide +kernel
theorem dL_length6_3 : decode cL_length6 3 = .ok (.imul, 1) := by decide +kernel
theorem dL_length6_4 : decode cL_length6 4 = .ok (.iaload, 1) := by decide +kernel
theorem dL_length6_5 : decode cL_length6 5 = .ok (.istore_n 2, 1) := by decide +kernel
theorem dL_length6_6 : decode cL_length6 6 = .ok (.iload_n 2, 1) := by decide +kernel
theorem dL_length6_7 : decode cL_length6 7 = .ok (.iconst 4, 1) := by decide +kernel
theorem dL_length6_8 : decode cL_length6 8 = .ok (.if_icmp .eq 8, 3) := by decide +kernel
theorem dL_length6_11 : decode cL_length6 11 = .ok (.iload_n 2, 1) := by decide +kernel
theorem dL_length6_12 : decode cL_length6 12 = .ok (.iconst 5, 1) := by decide +kernel
theorem dL_length6_13 : decode cL_length6 13 = .ok (.if_icmp .ne 9, 3) := by decide +kernel
theorem dL_length6_16 : decode cL_length6 16 = .ok (.iload_n 0, 1) := by decide +kernel
theorem dL_length6_17 : decode cL_length6 17 = .ok (.aload_n 1, 1) := by decide +kernel
theorem dL_length6_18 : decode cL_length6 18 = .ok (.invokestatic 40, 3) := by decide +kernel
theorem dL_length6_21 : decode cL_length6 21 = .ok (.ireturn, 1) := by decide +kernel
theorem dL_length6_22 : decode cL_length6 22 = .ok (.iload_n 2, 1) := by decide +kernel
theorem dL_length6_23 : decode cL_length6 23 = .ok (.bipush 6, 2) := by decide +kernel
theorem dL_length6_25 : decode cL_length6 25 = .ok (.if_icmp .ne 5, 3) := by decide +kernel
theorem dL_length6_28 : decode cL_length6 28 = .ok (.iconst 2, 1) := by decide +kernel
theorem dL_length6_29 : decode cL_length6 29 = .ok (.ireturn, 1) := by decide +kernel
theorem dL_length6_30 : decode cL_length6 30 = .ok (.aload_n 1, 1) := by decide +kernel
theorem dL_length6_31 : decode cL_length6 31 = .ok (.iconst 4, 1) := by decide +kernel
theorem dL_length6_32 : decode cL_length6 32 = .ok (.iload_n 0, 1) := by decide +kernel
theorem dL_length6_33 : decode cL_length6 33 = .ok (.imul, 1) := by decide +kernel
theorem dL_length6_34 : decode cL_length6 34 = .ok (.iconst 1, 1) := by decide +kernel
theorem dL_length6_35 : decode cL_length6 35 = .ok (.iadd, 1) := by decide +kernel
theorem dL_length6_36 : decode cL_length6 36 = .ok (.iaload, 1) := by decide +kernel
theorem dL_length6_37 : decode cL_length6 37 = .ok (.aload_n 1, 1) := by decide +kernel
theorem dL_length6_38 : decode cL_length6 38 = .ok (.invokestatic 82, 3) := by decide +kernel
theorem dL_length6_41 : decode cL_length6 41 = .ok (.istore_n 3, 1) := by decide +kernel
theorem dL_length6_42 : decode cL_length6 42 = .ok (.iload_n 2, 1) := by decide +kernel
theorem dL_length6_43 : decode cL_length6 43 = .ok (.bipush 7, 2) := by decide +kernel
theorem dL_length6_45 : decode cL_length6 45 = .ok (.if_icmp .ne 20, 3) := by decide +kernel
theorem dL_length6_48 : decode cL_length6 48 = .ok (.iload_n 3, 1) := by decide +kernel
theorem dL_length6_49 : decode cL_length6 49 = .ok (.iconst 5, 1) := by decide +kernel
theorem dL_length6_50 : decode cL_length6 50 = .ok (.iadd, 1) := by decide +kernel
theorem dL_length6_51 : decode cL_length6 51 = .ok (.aload_n 1, 1) := by decide +kernel
theorem dL_length6_52 : decode cL_length6 52 = .ok (.iconst 4, 1) := by decide +kernel
theorem dL_length6_53 : decode cL_length6 53 = .ok (.iload_n 0, 1) := by decide +kernel
theorem dL_length6_54 : decode cL_length6 54 = .ok (.imul, 1) := by decide +kernel
theorem dL_length6_55 : decode cL_length6 55 = .ok (.iconst 2, 1) := by decide +kernel
theorem dL_length6_56 : decode cL_length6 56 = .ok (.iadd, 1) := by decide +kernel
theorem dL_length6_57 : decode cL_length6 57 = .ok (.iaload, 1) := by decide +kernel
theorem dL_length6_58 : decode cL_length6 58 = .ok (.invokestatic 12, 3) := by decide +kernel
theorem dL_length6_61 : decode cL_length6 61 = .ok (.iadd, 1) := by decide +kernel
theorem dL_length6_62 : decode cL_length6 62 = .ok (.goto 41, 3) := by decide +kernel
theorem dL_length6_65 : decode cL_length6 65 = .ok (.iload_n 2, 1) := by decide +kernel
theorem dL_length6_66 : decode cL_length6 66 = .ok (.bipush 8, 2) := by decide +kernel
theorem dL_length6_68 : decode cL_length6 68 = .ok (.if_icmp .ne 10, 3) := by decide +kernel
theorem dL_length6_71 : decode cL_length6 71 = .ok (.iload_n 3, 1) := by decide +kernel
theorem dL_length6_72 : decode cL_length6 72 = .ok (.bipush 6, 2) := by decide +kernel
theorem dL_length6_74 : decode cL_length6 74 = .ok (.iadd, 1) := by decide +kernel
theorem dL_length6_75 : decode cL_length6 75 = .ok (.goto 28, 3) := by decide +kernel
theorem dL_length6_78 : decode cL_length6 78 = .ok (.iload_n 3, 1) := by decide +kernel
theorem dL_length6_79 : decode cL_length6 79 = .ok (.aload_n 1, 1) := by decide +kernel
theorem dL_length6_80 : decode cL_length6 80 = .ok (.iconst 4, 1) := by decide +kernel
theorem dL_length6_81 : decode cL_length6 81 = .ok (.iload_n 0, 1) := by decide +kernel
theorem dL_length6_82 : decode cL_length6 82 = .ok (.imul, 1) := by decide +kernel
theorem dL_length6_83 : decode cL_length6 83 = .ok (.iconst 2, 1) := by decide +kernel
theorem dL_length6_84 : decode cL_length6 84 = .ok (.iadd, 1) := by decide +kernel
theorem dL_length6_85 : decode cL_length6 85 = .ok (.iaload, 1) := by decide +kernel
theorem dL_length6_86 : decode cL_length6 86 = .ok (.aload_n 1, 1) := by decide +kernel
theorem dL_length6_87 : decode cL_length6 87 = .ok (.invokestatic 82, 3) := by decide +kernel
theorem dL_length6_90 : decode cL_length6 90 = .ok (.iadd, 1) := by decide +kernel
theorem dL_length6_91 : decode cL_length6 91 = .ok (.iload_n 2, 1) := by decide +kernel
theorem dL_length6_92 : decode cL_length6 92 = .ok (.iconst 2, 1) := by decide +kernel
theorem dL_length6_93 : decode cL_length6 93 = .ok (.if_icmp .ge 7, 3) := by decide +kernel
theorem dL_length6_96 : decode cL_length6 96 = .ok (.iconst 5, 1) := by decide +kernel
theorem dL_length6_97 : decode cL_length6 97 = .ok (.goto 5, 3) := by decide +kernel
theorem dL_length6_100 : decode cL_length6 100 = .ok (.bipush 7, 2) := by decide +kernel
theorem dL_length6_102 : decode cL_length6 102 = .ok (.iadd, 1) := by decide +kernel
theorem dL_length6_103 : decode cL_length6 103 = .ok (.ireturn, 1) := by decide +kernel
theorem dL_sign6_0 : decode cL_sign6 0 = .ok (.aload_n 2, 1) := by decide +kernel
theorem dL_sign6_1 : decode cL_sign6 1 = .ok (.iconst 4, 1) := by decide +kernel
theorem dL_sign6_2 : decode cL_sign6 2 = .ok (.iload_n 0, 1) := by decide +kernel
theorem dL_sign6_3 : decode cL_sign6 3 = .ok (.imul, 1) := by decide +kernel
theorem dL_sign6_4 : decode cL_sign6 4 = .ok (.iaload, 1) := by decide +kernel
theorem dL_sign6_5 : decode cL_sign6 5 = .ok (.istore_n 3, 1) := by decide +kernel
theorem dL_sign6_6 : decode cL_sign6 6 = .ok (.aload_n 2, 1) := by decide +kernel
theorem dL_sign6_7 : decode cL_sign6 7 = .ok (.iconst 4, 1) := by decide +kernel
theorem dL_sign6_8 : decode cL_sign6 8 = .ok (.iload_n 0, 1) := by decide +kernel
theorem dL_sign6_9 : decode cL_sign6 9 = .ok (.imul, 1) := by decide +kernel
theorem dL_sign6_10 : decode cL_sign6 10 = .ok (.iconst 1, 1) := by decide +kernel
theorem dL_sign6_11 : decode cL_sign6 11 = .ok (.iadd, 1) := by decide +kernel
theorem dL_sign6_12 : decode cL_sign6 12 = .ok (.iaload, 1) := by decide +kernel
theorem dL_sign6_13 : decode cL_sign6 13 = .ok (.istore 4, 2) := by decide +kernel
theorem dL_sign6_15 : decode cL_sign6 15 = .ok (.aload_n 2, 1) := by decide +kernel
theorem dL_sign6_16 : decode cL_sign6 16 = .ok (.iconst 4, 1) := by decide +kernel
theorem dL_sign6_17 : decode cL_sign6 17 = .ok (.iload_n 0, 1) := by decide +kernel
theorem dL_sign6_18 : decode cL_sign6 18 = .ok (.imul, 1) := by decide +kernel
theorem dL_sign6_19 : decode cL_sign6 19 = .ok (.iconst 2, 1) := by decide +kernel
theorem dL_sign6_20 : decode cL_sign6 20 = .ok (.iadd, 1) := by decide +kernel
theorem dL_sign6_21 : decode cL_sign6 21 = .ok (.iaload, 1) := by decide +kernel
theorem dL_sign6_22 : decode cL_sign6 22 = .ok (.istore 5, 2) := by decide +kernel
theorem dL_sign6_24 : decode cL_sign6 24 = .ok (.iload_n 3, 1) := by decide +kernel
theorem dL_sign6_25 : decode cL_sign6 25 = .ok (.iconst 4, 1) := by decide +kernel
theorem dL_sign6_26 : decode cL_sign6 26 = .ok (.if_icmp .eq 8, 3) := by decide +kernel
theorem dL_sign6_29 : decode cL_sign6 29 = .ok (.iload_n 3, 1) := by decide +kernel
theorem dL_sign6_30 : decode cL_sign6 30 = .ok (.iconst 5, 1) := by decide +kernel
theorem dL_sign6_31 : decode cL_sign6 31 = .ok (.if_icmp .ne 10, 3) := by decide +kernel
theorem dL_sign6_34 : decode cL_sign6 34 = .ok (.iload_n 0, 1) := by decide +kernel
theorem dL_sign6_35 : decode cL_sign6 35 = .ok (.iload_n 1, 1) := by decide +kernel
theorem dL_sign6_36 : decode cL_sign6 36 = .ok (.aload_n 2, 1) := by decide +kernel
theorem dL_sign6_37 : decode cL_sign6 37 = .ok (.invokestatic 44, 3) := by decide +kernel
theorem dL_sign6_40 : decode cL_sign6 40 = .ok (.ireturn, 1) := by decide +kernel
theorem dL_sign6_41 : decode cL_sign6 41 = .ok (.iload_n 3, 1) := by decide +kernel
theorem dL_sign6_42 : decode cL_sign6 42 = .ok (.bipush 6, 2) := by decide +kernel
theorem dL_sign6_44 : decode cL_sign6 44 = .ok (.if_icmp .ne 18, 3) := by decide +kernel
theorem dL_sign6_47 : decode cL_sign6 47 = .ok (.iload_n 1, 1) := by decide +kernel
theorem dL_sign6_48 : decode cL_sign6 48 = .ok (.ifCond .ne 8, 3) := by decide +kernel
theorem dL_sign6_51 : decode cL_sign6 51 = .ok (.bipush 84, 2) := by decide +kernel
theorem dL_sign6_53 : decode cL_sign6 53 = .ok (.goto 8, 3) := by decide +kernel
theorem dL_sign6_56 : decode cL_sign6 56 = .ok (.bipush 48, 2) := by decide +kernel
theorem dL_sign6_58 : decode cL_sign6 58 = .ok (.iload 4, 2) := by decide +kernel
theorem dL_sign6_60 : decode cL_sign6 60 = .ok (.iadd, 1) := by decide +kernel
theorem dL_sign6_61 : decode cL_sign6 61 = .ok (.ireturn, 1) := by decide +kernel
theorem dL_sign6_62 : decode cL_sign6 62 = .ok (.iload_n 3, 1) := by decide +kernel
theorem dL_sign6_63 : decode cL_sign6 63 = .ok (.bipush 7, 2) := by decide +kernel
theorem dL_sign6_65 : decode cL_sign6 65 = .ok (.if_icmp .ne 13, 3) := by decide +kernel
theorem dL_sign6_68 : decode cL_sign6 68 = .ok (.iload 5, 2) := by decide +kernel
theorem dL_sign6_70 : decode cL_sign6 70 = .ok (.invokestatic 12, 3) := by decide +kernel
theorem dL_sign6_73 : decode cL_sign6 73 = .ok (.iconst 5, 1) := by decide +kernel
theorem dL_sign6_74 : decode cL_sign6 74 = .ok (.iadd, 1) := by decide +kernel
theorem dL_sign6_75 : decode cL_sign6 75 = .ok (.goto 23, 3) := by decide +kernel
theorem dL_sign6_78 : decode cL_sign6 78 = .ok (.iload_n 3, 1) := by decide +kernel
theorem dL_sign6_79 : decode cL_sign6 79 = .ok (.bipush 8, 2) := by decide +kernel
theorem dL_sign6_81 : decode cL_sign6 81 = .ok (.if_icmp .ne 7, 3) := by decide +kernel
theorem dL_sign6_84 : decode cL_sign6 84 = .ok (.iconst 5, 1) := by decide +kernel
theorem dL_sign6_85 : decode cL_sign6 85 = .ok (.goto 13, 3) := by decide +kernel
theorem dL_sign6_88 : decode cL_sign6 88 = .ok (.iload_n 3, 1) := by decide +kernel
theorem dL_sign6_89 : decode cL_sign6 89 = .ok (.iconst 2, 1) := by decide +kernel
theorem dL_sign6_90 : decode cL_sign6 90 = .ok (.if_icmp .ge 7, 3) := by decide +kernel
theorem dL_sign6_93 : decode cL_sign6 93 = .ok (.iconst 1, 1) := by decide +kernel
theorem dL_sign6_94 : decode cL_sign6 94 = .ok (.goto 4, 3) := by decide +kernel
theorem dL_sign6_97 : decode cL_sign6 97 = .ok (.iconst 4, 1) := by decide +kernel
theorem dL_sign6_98 : decode cL_sign6 98 = .ok (.istore 6, 2) := by decide +kernel
theorem dL_sign6_100 : decode cL_sign6 100 = .ok (.iload 4, 2) := by decide +kernel
theorem dL_sign6_102 : decode cL_sign6 102 = .ok (.aload_n 2, 1) := by decide +kernel
theorem dL_sign6_103 : decode cL_sign6 103 = .ok (.invokestatic 82, 3) := by decide +kernel
theorem dL_sign6_106 : decode cL_sign6 106 = .ok (.istore 7, 2) := by decide +kernel
theorem dL_sign6_108 : decode cL_sign6 108 = .ok (.iload_n 1, 1) := by decide +kernel
theorem dL_sign6_109 : decode cL_sign6 109 = .ok (.iload 6, 2) := by decide +kernel
theorem dL_sign6_111 : decode cL_sign6 111 = .ok (.if_icmp .ge 11, 3) := by decide +kernel
theorem dL_sign6_114 : decode cL_sign6 114 = .ok (.iload_n 3, 1) := by decide +kernel
theorem dL_sign6_115 : decode cL_sign6 115 = .ok (.iload 5, 2) := by decide +kernel
theorem dL_sign6_117 : decode cL_sign6 117 = .ok (.iload_n 1, 1) := by decide +kernel
theorem dL_sign6_118 : decode cL_sign6 118 = .ok (.invokestatic 47, 3) := by decide +kernel
theorem dL_sign6_121 : decode cL_sign6 121 = .ok (.ireturn, 1) := by decide +kernel
theorem dL_sign6_122 : decode cL_sign6 122 = .ok (.iload_n 1, 1) := by decide +kernel
theorem dL_sign6_123 : decode cL_sign6 123 = .ok (.iload 6, 2) := by decide +kernel
theorem dL_sign6_125 : decode cL_sign6 125 = .ok (.iload 7, 2) := by decide +kernel
theorem dL_sign6_127 : decode cL_sign6 127 = .ok (.iadd, 1) := by decide +kernel
theorem dL_sign6_128 : decode cL_sign6 128 = .ok (.if_icmp .ge 14, 3) := by decide +kernel
theorem dL_sign6_131 : decode cL_sign6 131 = .ok (.iload 4, 2) := by decide +kernel
theorem dL_sign6_133 : decode cL_sign6 133 = .ok (.iload_n 1, 1) := by decide +kernel
theorem dL_sign6_134 : decode cL_sign6 134 = .ok (.iload 6, 2) := by decide +kernel
theorem dL_sign6_136 : decode cL_sign6 136 = .ok (.isub, 1) := by decide +kernel
theorem dL_sign6_137 : decode cL_sign6 137 = .ok (.aload_n 2, 1) := by decide +kernel
theorem dL_sign6_138 : decode cL_sign6 138 = .ok (.invokestatic 85, 3) := by decide +kernel
theorem dL_sign6_141 : decode cL_sign6 141 = .ok (.ireturn, 1) := by decide +kernel
theorem dL_sign6_142 : decode cL_sign6 142 = .ok (.iload_n 1, 1) := by decide +kernel
theorem dL_sign6_143 : decode cL_sign6 143 = .ok (.iload 6, 2) := by decide +kernel
theorem dL_sign6_145 : decode cL_sign6 145 = .ok (.isub, 1) := by decide +kernel
theorem dL_sign6_146 : decode cL_sign6 146 = .ok (.iload 7, 2) := by decide +kernel
theorem dL_sign6_148 : decode cL_sign6 148 = .ok (.isub, 1) := by decide +kernel
theorem dL_sign6_149 : decode cL_sign6 149 = .ok (.istore 8, 2) := by decide +kernel
theorem dL_sign6_151 : decode cL_sign6 151 = .ok (.iload_n 3, 1) := by decide +kernel
theorem dL_sign6_152 : decode cL_sign6 152 = .ok (.iconst 2, 1) := by decide +kernel
theorem dL_sign6_153 : decode cL_sign6 153 = .ok (.if_icmp .ge 7, 3) := by decide +kernel
theorem dL_sign6_156 : decode cL_sign6 156 = .ok (.iconst 3, 1) := by decide +kernel
theorem dL_sign6_157 : decode cL_sign6 157 = .ok (.goto 13, 3) := by decide +kernel
theorem dL_sign6_160 : decode cL_sign6 160 = .ok (.iload_n 3, 1) := by decide +kernel
theorem dL_sign6_161 : decode cL_sign6 161 = .ok (.iconst 4, 1) := by decide +kernel
theorem dL_sign6_162 : decode cL_sign6 162 = .ok (.if_icmp .ge 7, 3) := by decide +kernel
theorem dL_sign6_165 : decode cL_sign6 165 = .ok (.iconst 2, 1) := by decide +kernel
theorem dL_sign6_166 : decode cL_sign6 166 = .ok (.goto 4, 3) := by decide +kernel
theorem dL_sign6_169 : decode cL_sign6 169 = .ok (.iconst 0, 1) := by decide +kernel
theorem dL_sign6_170 : decode cL_sign6 170 = .ok (.istore 9, 2) := by decide +kernel
theorem dL_sign6_172 : decode cL_sign6 172 = .ok (.iload 8, 2) := by decide +kernel
theorem dL_sign6_174 : decode cL_sign6 174 = .ok (.iload 9, 2) := by decide +kernel
theorem dL_sign6_176 : decode cL_sign6 176 = .ok (.if_icmp .ge 46, 3) := by decide +kernel
theorem dL_sign6_179 : decode cL_sign6 179 = .ok (.iload_n 3, 1) := by decide +kernel
theorem dL_sign6_180 : decode cL_sign6 180 = .ok (.iconst 1, 1) := by decide +kernel
theorem dL_sign6_181 : decode cL_sign6 181 = .ok (.if_icmp .le 18, 3) := by decide +kernel
theorem dL_sign6_184 : decode cL_sign6 184 = .ok (.iload 8, 2) := by decide +kernel
theorem dL_sign6_186 : decode cL_sign6 186 = .ok (.ifCond .ne 8, 3) := by decide +kernel
theorem dL_sign6_189 : decode cL_sign6 189 = .ok (.bipush 44, 2) := by decide +kernel
theorem dL_sign6_191 : decode cL_sign6 191 = .ok (.goto 30, 3) := by decide +kernel
theorem dL_sign6_194 : decode cL_sign6 194 = .ok (.bipush 32, 2) := by decide +kernel
theorem dL_sign6_196 : decode cL_sign6 196 = .ok (.goto 25, 3) := by decide +kernel
theorem dL_sign6_199 : decode cL_sign6 199 = .ok (.iload 8, 2) := by decide +kernel
theorem dL_sign6_201 : decode cL_sign6 201 = .ok (.iconst 1, 1) := by decide +kernel
theorem dL_sign6_202 : decode cL_sign6 202 = .ok (.if_icmp .eq 8, 3) := by decide +kernel
theorem dL_sign6_205 : decode cL_sign6 205 = .ok (.bipush 32, 2) := by decide +kernel
theorem dL_sign6_207 : decode cL_sign6 207 = .ok (.goto 14, 3) := by decide +kernel
theorem dL_sign6_210 : decode cL_sign6 210 = .ok (.iload_n 3, 1) := by decide +kernel
theorem dL_sign6_211 : decode cL_sign6 211 = .ok (.ifCond .ne 8, 3) := by decide +kernel
theorem dL_sign6_214 : decode cL_sign6 214 = .ok (.bipush 43, 2) := by decide +kernel
theorem dL_sign6_216 : decode cL_sign6 216 = .ok (.goto 5, 3) := by decide +kernel
theorem dL_sign6_219 : decode cL_sign6 219 = .ok (.bipush 45, 2) := by decide +kernel
theorem dL_sign6_221 : decode cL_sign6 221 = .ok (.ireturn, 1) := by decide +kernel
theorem dL_sign6_222 : decode cL_sign6 222 = .ok (.iload_n 3, 1) := by decide +kernel
theorem dL_sign6_223 : decode cL_sign6 223 = .ok (.iconst 3, 1) := by decide +kernel
theorem dL_sign6_224 : decode cL_sign6 224 = .ok (.if_icmp .gt 17, 3) := by decide +kernel
theorem dL_sign6_227 : decode cL_sign6 227 = .ok (.iload 8, 2) := by decide +kernel
theorem dL_sign6_229 : decode cL_sign6 229 = .ok (.iload 9, 2) := by decide +kernel
theorem dL_sign6_231 : decode cL_sign6 231 = .ok (.isub, 1) := by decide +kernel
theorem dL_sign6_232 : decode cL_sign6 232 = .ok (.iload 5, 2) := by decide +kernel
theorem dL_sign6_234 : decode cL_sign6 234 = .ok (.aload_n 2, 1) := by decide +kernel
theorem dL_sign6_235 : decode cL_sign6 235 = .ok (.invokestatic 82, 3) := by decide +kernel
theorem dL_sign6_238 : decode cL_sign6 238 = .ok (.if_icmp .ne 8, 3) := by decide +kernel
theorem dL_sign6_241 : decode cL_sign6 241 = .ok (.bipush 41, 2) := by decide +kernel
theorem dL_sign6_243 : decode cL_sign6 243 = .ok (.goto 14, 3) := by decide +kernel
theorem dL_sign6_246 : decode cL_sign6 246 = .ok (.iload 5, 2) := by decide +kernel
theorem dL_sign6_248 : decode cL_sign6 248 = .ok (.iload 8, 2) := by decide +kernel
theorem dL_sign6_250 : decode cL_sign6 250 = .ok (.iload 9, 2) := by decide +kernel
theorem dL_sign6_252 : decode cL_sign6 252 = .ok (.isub, 1) := by decide +kernel
theorem dL_sign6_253 : decode cL_sign6 253 = .ok (.aload_n 2, 1) := by decide +kernel
theorem dL_sign6_254 : decode cL_sign6 254 = .ok (.invokestatic 85, 3) := by decide +kernel
theorem dL_sign6_257 : decode cL_sign6 257 = .ok (.ireturn, 1) := by decide +kernel
theorem dL_value_0 : decode cL_value 0 = .ok (.iload_n 0, 1) := by decide +kernel
theorem dL_value_1 : decode cL_value 1 = .ok (.iload_n 1, 1) := by decide +kernel
theorem dL_value_2 : decode cL_value 2 = .ok (.aload 4, 2) := by decide +kernel
theorem dL_value_4 : decode cL_value 4 = .ok (.invokestatic 26, 3) := by decide +kernel
theorem dL_value_7 : decode cL_value 7 = .ok (.iload_n 1, 1) := by decide +kernel
theorem dL_value_8 : decode cL_value 8 = .ok (.aload_n 2, 1) := by decide +kernel
theorem dL_value_9 : decode cL_value 9 = .ok (.aload_n 3, 1) := by decide +kernel
theorem dL_value_10 : decode cL_value 10 = .ok (.aload 4, 2) := by decide +kernel
theorem dL_value_12 : decode cL_value 12 = .ok (.invokestatic 88, 3) := by decide +kernel
theorem dL_value_15 : decode cL_value 15 = .ok (.lreturn, 1) := by decide +kernel
theorem dL_refused_0 : decode cL_refused 0 = .ok (.iload_n 1, 1) := by decide +kernel
theorem dL_refused_1 : decode cL_refused 1 = .ok (.ifCond .ne 12, 3) := by decide +kernel
theorem dL_refused_4 : decode cL_refused 4 = .ok (.aload_n 0, 1) := by decide +kernel
theorem dL_refused_5 : decode cL_refused 5 = .ok (.iload_n 2, 1) := by decide +kernel
theorem dL_refused_6 : decode cL_refused 6 = .ok (.invokevirtual 91, 3) := by decide +kernel
theorem dL_refused_9 : decode cL_refused 9 = .ok (.i2l, 1) := by decide +kernel
theorem dL_refused_10 : decode cL_refused 10 = .ok (.goto 161, 3) := by decide +kernel
theorem dL_refused_13 : decode cL_refused 13 = .ok (.iload_n 1, 1) := by decide +kernel
theorem dL_refused_14 : decode cL_refused 14 = .ok (.iconst 1, 1) := by decide +kernel
theorem dL_refused_15 : decode cL_refused 15 = .ok (.if_icmp .ne 12, 3) := by decide +kernel
theorem dL_refused_18 : decode cL_refused 18 = .ok (.aload_n 0, 1) := by decide +kernel
theorem dL_refused_19 : decode cL_refused 19 = .ok (.iload_n 2, 1) := by decide +kernel
theorem dL_refused_20 : decode cL_refused 20 = .ok (.invokevirtual 96, 3) := by decide +kernel
theorem dL_refused_23 : decode cL_refused 23 = .ok (.i2l, 1) := by decide +kernel
theorem dL_refused_24 : decode cL_refused 24 = .ok (.goto 147, 3) := by decide +kernel
theorem dL_refused_27 : decode cL_refused 27 = .ok (.iload_n 1, 1) := by decide +kernel
theorem dL_refused_28 : decode cL_refused 28 = .ok (.iconst 2, 1) := by decide +kernel
theorem dL_refused_29 : decode cL_refused 29 = .ok (.if_icmp .ne 12, 3) := by decide +kernel
theorem dL_refused_32 : decode cL_refused 32 = .ok (.aload_n 0, 1) := by decide +kernel
theorem dL_refused_33 : decode cL_refused 33 = .ok (.iload_n 2, 1) := by decide +kernel
theorem dL_refused_34 : decode cL_refused 34 = .ok (.invokevirtual 98, 3) := by decide +kernel
theorem dL_refused_37 : decode cL_refused 37 = .ok (.i2l, 1) := by decide +kernel
theorem dL_refused_38 : decode cL_refused 38 = .ok (.goto 133, 3) := by decide +kernel
theorem dL_refused_41 : decode cL_refused 41 = .ok (.iload_n 1, 1) := by decide +kernel
theorem dL_refused_42 : decode cL_refused 42 = .ok (.iconst 3, 1) := by decide +kernel
theorem dL_refused_43 : decode cL_refused 43 = .ok (.if_icmp .ne 11, 3) := by decide +kernel
theorem dL_refused_46 : decode cL_refused 46 = .ok (.aload_n 0, 1) := by decide +kernel
theorem dL_refused_47 : decode cL_refused 47 = .ok (.invokevirtual 101, 3) := by decide +kernel
theorem dL_refused_50 : decode cL_refused 50 = .ok (.i2l, 1) := by decide +kernel
theorem dL_refused_51 : decode cL_refused 51 = .ok (.goto 120, 3) := by decide +kernel
theorem dL_refused_54 : decode cL_refused 54 = .ok (.iload_n 1, 1) := by decide +kernel
theorem dL_refused_55 : decode cL_refused 55 = .ok (.iconst 4, 1) := by decide +kernel
theorem dL_refused_56 : decode cL_refused 56 = .ok (.if_icmp .ne 11, 3) := by decide +kernel
theorem dL_refused_59 : decode cL_refused 59 = .ok (.aload_n 0, 1) := by decide +kernel
theorem dL_refused_60 : decode cL_refused 60 = .ok (.invokevirtual 105, 3) := by decide +kernel
theorem dL_refused_63 : decode cL_refused 63 = .ok (.i2l, 1) := by decide +kernel
theorem dL_refused_64 : decode cL_refused 64 = .ok (.goto 107, 3) := by decide +kernel
theorem dL_refused_67 : decode cL_refused 67 = .ok (.iload_n 1, 1) := by decide +kernel
theorem dL_refused_68 : decode cL_refused 68 = .ok (.iconst 5, 1) := by decide +kernel
theorem dL_refused_69 : decode cL_refused 69 = .ok (.if_icmp .ne 13, 3) := by decide +kernel
theorem dL_refused_72 : decode cL_refused 72 = .ok (.aload_n 0, 1) := by decide +kernel
theorem dL_refused_73 : decode cL_refused 73 = .ok (.iload_n 2, 1) := by decide +kernel
theorem dL_refused_74 : decode cL_refused 74 = .ok (.iload_n 3, 1) := by decide +kernel
theorem dL_refused_75 : decode cL_refused 75 = .ok (.invokevirtual 108, 3) := by decide +kernel
theorem dL_refused_78 : decode cL_refused 78 = .ok (.i2l, 1) := by decide +kernel
theorem dL_refused_79 : decode cL_refused 79 = .ok (.goto 92, 3) := by decide +kernel
theorem dL_refused_82 : decode cL_refused 82 = .ok (.iload_n 1, 1) := by decide +kernel
theorem dL_refused_83 : decode cL_refused 83 = .ok (.bipush 6, 2) := by decide +kernel
theorem dL_refused_85 : decode cL_refused 85 = .ok (.if_icmp .ne 15, 3) := by decide +kernel
theorem dL_refused_88 : decode cL_refused 88 = .ok (.aload_n 0, 1) := by decide +kernel
theorem dL_refused_89 : decode cL_refused 89 = .ok (.iload_n 2, 1) := by decide +kernel
theorem dL_refused_90 : decode cL_refused 90 = .ok (.iload_n 3, 1) := by decide +kernel
theorem dL_refused_91 : decode cL_refused 91 = .ok (.iload 4, 2) := by decide +kernel
theorem dL_refused_93 : decode cL_refused 93 = .ok (.invokevirtual 111, 3) := by decide +kernel
theorem dL_refused_96 : decode cL_refused 96 = .ok (.i2l, 1) := by decide +kernel
theorem dL_refused_97 : decode cL_refused 97 = .ok (.goto 74, 3) := by decide +kernel
theorem dL_refused_100 : decode cL_refused 100 = .ok (.iload_n 1, 1) := by decide +kernel
theorem dL_refused_101 : decode cL_refused 101 = .ok (.bipush 7, 2) := by decide +kernel
theorem dL_refused_103 : decode cL_refused 103 = .ok (.if_icmp .ne 12, 3) := by decide +kernel
theorem dL_refused_106 : decode cL_refused 106 = .ok (.aload_n 0, 1) := by decide +kernel
theorem dL_refused_107 : decode cL_refused 107 = .ok (.iload_n 2, 1) := by decide +kernel
theorem dL_refused_108 : decode cL_refused 108 = .ok (.iload_n 3, 1) := by decide +kernel
theorem dL_refused_109 : decode cL_refused 109 = .ok (.invokevirtual 114, 3) := by decide +kernel
theorem dL_refused_112 : decode cL_refused 112 = .ok (.goto 59, 3) := by decide +kernel
theorem dL_refused_115 : decode cL_refused 115 = .ok (.iload_n 1, 1) := by decide +kernel
theorem dL_refused_116 : decode cL_refused 116 = .ok (.bipush 8, 2) := by decide +kernel
theorem dL_refused_118 : decode cL_refused 118 = .ok (.if_icmp .ne 14, 3) := by decide +kernel
theorem dL_refused_121 : decode cL_refused 121 = .ok (.aload_n 0, 1) := by decide +kernel
theorem dL_refused_122 : decode cL_refused 122 = .ok (.iload_n 2, 1) := by decide +kernel
theorem dL_refused_123 : decode cL_refused 123 = .ok (.iload_n 3, 1) := by decide +kernel
theorem dL_refused_124 : decode cL_refused 124 = .ok (.iload 4, 2) := by decide +kernel
theorem dL_refused_126 : decode cL_refused 126 = .ok (.invokevirtual 118, 3) := by decide +kernel
theorem dL_refused_129 : decode cL_refused 129 = .ok (.goto 42, 3) := by decide +kernel
theorem dL_refused_132 : decode cL_refused 132 = .ok (.iload_n 1, 1) := by decide +kernel
theorem dL_refused_133 : decode cL_refused 133 = .ok (.bipush 9, 2) := by decide +kernel
theorem dL_refused_135 : decode cL_refused 135 = .ok (.if_icmp .ne 12, 3) := by decide +kernel
theorem dL_refused_138 : decode cL_refused 138 = .ok (.aload_n 0, 1) := by decide +kernel
theorem dL_refused_139 : decode cL_refused 139 = .ok (.iload_n 2, 1) := by decide +kernel
theorem dL_refused_140 : decode cL_refused 140 = .ok (.iload_n 3, 1) := by decide +kernel
theorem dL_refused_141 : decode cL_refused 141 = .ok (.invokevirtual 122, 3) := by decide +kernel
theorem dL_refused_144 : decode cL_refused 144 = .ok (.goto 27, 3) := by decide +kernel
theorem dL_refused_147 : decode cL_refused 147 = .ok (.iload_n 1, 1) := by decide +kernel
theorem dL_refused_148 : decode cL_refused 148 = .ok (.bipush 10, 2) := by decide +kernel
theorem dL_refused_150 : decode cL_refused 150 = .ok (.if_icmp .ne 12, 3) := by decide +kernel
theorem dL_refused_153 : decode cL_refused 153 = .ok (.aload_n 0, 1) := by decide +kernel
theorem dL_refused_154 : decode cL_refused 154 = .ok (.iload_n 2, 1) := by decide +kernel
theorem dL_refused_155 : decode cL_refused 155 = .ok (.iload_n 3, 1) := by decide +kernel
theorem dL_refused_156 : decode cL_refused 156 = .ok (.invokevirtual 125, 3) := by decide +kernel
theorem dL_refused_159 : decode cL_refused 159 = .ok (.goto 12, 3) := by decide +kernel
theorem dL_refused_162 : decode cL_refused 162 = .ok (.aload_n 0, 1) := by decide +kernel
theorem dL_refused_163 : decode cL_refused 163 = .ok (.iload_n 2, 1) := by decide +kernel
theorem dL_refused_164 : decode cL_refused 164 = .ok (.iload_n 3, 1) := by decide +kernel
theorem dL_refused_165 : decode cL_refused 165 = .ok (.iload 4, 2) := by decide +kernel
theorem dL_refused_167 : decode cL_refused 167 = .ok (.invokevirtual 128, 3) := by decide +kernel
theorem dL_refused_170 : decode cL_refused 170 = .ok (.i2l, 1) := by decide +kernel
theorem dL_refused_171 : decode cL_refused 171 = .ok (.l2i, 1) := by decide +kernel
theorem dL_refused_172 : decode cL_refused 172 = .ok (.iconst 0, 1) := by decide +kernel
theorem dL_refused_173 : decode cL_refused 173 = .ok (.imul, 1) := by decide +kernel
theorem dL_refused_174 : decode cL_refused 174 = .ok (.ireturn, 1) := by decide +kernel
theorem dL_refused_175 : decode cL_refused 175 = .ok (.astore 5, 2) := by decide +kernel
theorem dL_refused_177 : decode cL_refused 177 = .ok (.iconst 1, 1) := by decide +kernel
theorem dL_refused_178 : decode cL_refused 178 = .ok (.ireturn, 1) := by decide +kernel
theorem dL_refused_179 : decode cL_refused 179 = .ok (.astore 5, 2) := by decide +kernel
theorem dL_refused_181 : decode cL_refused 181 = .ok (.iconst 2, 1) := by decide +kernel
theorem dL_refused_182 : decode cL_refused 182 = .ok (.ireturn, 1) := by decide +kernel
theorem dL_refused_183 : decode cL_refused 183 = .ok (.astore 5, 2) := by decide +kernel
theorem dL_refused_185 : decode cL_refused 185 = .ok (.iconst 3, 1) := by decide +kernel
theorem dL_refused_186 : decode cL_refused 186 = .ok (.ireturn, 1) := by decide +kernel
theorem dL_limit_0 : decode cL_limit 0 = .ok (.iload_n 2, 1) := by decide +kernel
theorem dL_limit_1 : decode cL_limit 1 = .ok (.istore_n 3, 1) := by decide +kernel
theorem dL_limit_2 : decode cL_limit 2 = .ok (.iload_n 3, 1) := by decide +kernel
theorem dL_limit_3 : decode cL_limit 3 = .ok (.ifCond .lt 33, 3) := by decide +kernel
theorem dL_limit_6 : decode cL_limit 6 = .ok (.aload_n 0, 1) := by decide +kernel
theorem dL_limit_7 : decode cL_limit 7 = .ok (.bipush 32, 2) := by decide +kernel
theorem dL_limit_9 : decode cL_limit 9 = .ok (.iload_n 1, 1) := by decide +kernel
theorem dL_limit_10 : decode cL_limit 10 = .ok (.imul, 1) := by decide +kernel
theorem dL_limit_11 : decode cL_limit 11 = .ok (.iconst 4, 1) := by decide +kernel
theorem dL_limit_12 : decode cL_limit 12 = .ok (.iadd, 1) := by decide +kernel
theorem dL_limit_13 : decode cL_limit 13 = .ok (.iload_n 3, 1) := by decide +kernel
theorem dL_limit_14 : decode cL_limit 14 = .ok (.iadd, 1) := by decide +kernel
theorem dL_limit_15 : decode cL_limit 15 = .ok (.iaload, 1) := by decide +kernel
theorem dL_limit_16 : decode cL_limit 16 = .ok (.ifCond .lt 14, 3) := by decide +kernel
theorem dL_limit_19 : decode cL_limit 19 = .ok (.aload_n 0, 1) := by decide +kernel
theorem dL_limit_20 : decode cL_limit 20 = .ok (.bipush 32, 2) := by decide +kernel
theorem dL_limit_22 : decode cL_limit 22 = .ok (.iload_n 1, 1) := by decide +kernel
theorem dL_limit_23 : decode cL_limit 23 = .ok (.imul, 1) := by decide +kernel
theorem dL_limit_24 : decode cL_limit 24 = .ok (.iconst 4, 1) := by decide +kernel
theorem dL_limit_25 : decode cL_limit 25 = .ok (.iadd, 1) := by decide +kernel
theorem dL_limit_26 : decode cL_limit 26 = .ok (.iload_n 3, 1) := by decide +kernel
theorem dL_limit_27 : decode cL_limit 27 = .ok (.iadd, 1) := by decide +kernel
theorem dL_limit_28 : decode cL_limit 28 = .ok (.iaload, 1) := by decide +kernel
theorem dL_limit_29 : decode cL_limit 29 = .ok (.ireturn, 1) := by decide +kernel
theorem dL_limit_30 : decode cL_limit 30 = .ok (.iinc 3 (-1), 3) := by decide +kernel
theorem dL_limit_33 : decode cL_limit 33 = .ok (.goto (-31), 3) := by decide +kernel
theorem dL_limit_36 : decode cL_limit 36 = .ok (.iconst (-1), 1) := by decide +kernel
theorem dL_limit_37 : decode cL_limit 37 = .ok (.ireturn, 1) := by decide +kernel
theorem dL_kept_0 : decode cL_kept 0 = .ok (.lload_n 2, 1) := by decide +kernel
theorem dL_kept_1 : decode cL_kept 1 = .ok (.lconst 0, 1) := by decide +kernel
theorem dL_kept_2 : decode cL_kept 2 = .ok (.lcmp, 1) := by decide +kernel
theorem dL_kept_3 : decode cL_kept 3 = .ok (.ifCond .le 20, 3) := by decide +kernel
theorem dL_kept_6 : decode cL_kept 6 = .ok (.ldc2_w 30, 3) := by decide +kernel
theorem dL_kept_9 : decode cL_kept 9 = .ok (.lload_n 0, 1) := by decide +kernel
theorem dL_kept_10 : decode cL_kept 10 = .ok (.lmul, 1) := by decide +kernel
theorem dL_kept_11 : decode cL_kept 11 = .ok (.lload 4, 2) := by decide +kernel
theorem dL_kept_13 : decode cL_kept 13 = .ok (.lload_n 2, 1) := by decide +kernel
theorem dL_kept_14 : decode cL_kept 14 = .ok (.lmul, 1) := by decide +kernel
theorem dL_kept_15 : decode cL_kept 15 = .ok (.lcmp, 1) := by decide +kernel
theorem dL_kept_16 : decode cL_kept 16 = .ok (.ifCond .gt 7, 3) := by decide +kernel
theorem dL_kept_19 : decode cL_kept 19 = .ok (.iconst 1, 1) := by decide +kernel
theorem dL_kept_20 : decode cL_kept 20 = .ok (.goto 4, 3) := by decide +kernel
theorem dL_kept_23 : decode cL_kept 23 = .ok (.iconst 0, 1) := by decide +kernel
theorem dL_kept_24 : decode cL_kept 24 = .ok (.ireturn, 1) := by decide +kernel
theorem dL_tests_0 : decode cL_tests 0 = .ok (.iconst 0, 1) := by decide +kernel
theorem dL_tests_1 : decode cL_tests 1 = .ok (.istore 6, 2) := by decide +kernel
theorem dL_tests_3 : decode cL_tests 3 = .ok (.iconst 0, 1) := by decide +kernel
theorem dL_tests_4 : decode cL_tests 4 = .ok (.istore 7, 2) := by decide +kernel
theorem dL_tests_6 : decode cL_tests 6 = .ok (.iload 7, 2) := by decide +kernel
theorem dL_tests_8 : decode cL_tests 8 = .ok (.iload_n 2, 1) := by decide +kernel
theorem dL_tests_9 : decode cL_tests 9 = .ok (.if_icmp .ge 303, 3) := by decide +kernel
theorem dL_tests_12 : decode cL_tests 12 = .ok (.iconst 0, 1) := by decide +kernel
theorem dL_tests_13 : decode cL_tests 13 = .ok (.istore 8, 2) := by decide +kernel
theorem dL_tests_15 : decode cL_tests 15 = .ok (.iload 8, 2) := by decide +kernel
theorem dL_tests_17 : decode cL_tests 17 = .ok (.bipush 9, 2) := by decide +kernel
theorem dL_tests_19 : decode cL_tests 19 = .ok (.if_icmp .ge 287, 3) := by decide +kernel
theorem dL_tests_22 : decode cL_tests 22 = .ok (.bipush 32, 2) := by decide +kernel
theorem dL_tests_24 : decode cL_tests 24 = .ok (.iload 7, 2) := by decide +kernel
theorem dL_tests_26 : decode cL_tests 26 = .ok (.imul, 1) := by decide +kernel
theorem dL_tests_27 : decode cL_tests 27 = .ok (.istore 9, 2) := by decide +kernel
theorem dL_tests_29 : decode cL_tests 29 = .ok (.aload_n 1, 1) := by decide +kernel
theorem dL_tests_30 : decode cL_tests 30 = .ok (.iload 9, 2) := by decide +kernel
theorem dL_tests_32 : decode cL_tests 32 = .ok (.iaload, 1) := by decide +kernel
theorem dL_tests_33 : decode cL_tests 33 = .ok (.iload 8, 2) := by decide +kernel
theorem dL_tests_35 : decode cL_tests 35 = .ok (.aload_n 3, 1) := by decide +kernel
theorem dL_tests_36 : decode cL_tests 36 = .ok (.aload 4, 2) := by decide +kernel
theorem dL_tests_38 : decode cL_tests 38 = .ok (.aload 5, 2) := by decide +kernel
theorem dL_tests_40 : decode cL_tests 40 = .ok (.invokestatic 138, 3) := by decide +kernel
theorem dL_tests_43 : decode cL_tests 43 = .ok (.lstore 10, 2) := by decide +kernel
theorem dL_tests_45 : decode cL_tests 45 = .ok (.aload_n 1, 1) := by decide +kernel
theorem dL_tests_46 : decode cL_tests 46 = .ok (.iload 9, 2) := by decide +kernel
theorem dL_tests_48 : decode cL_tests 48 = .ok (.iconst 1, 1) := by decide +kernel
theorem dL_tests_49 : decode cL_tests 49 = .ok (.iadd, 1) := by decide +kernel
theorem dL_tests_50 : decode cL_tests 50 = .ok (.iaload, 1) := by decide +kernel
theorem dL_tests_51 : decode cL_tests 51 = .ok (.iload 8, 2) := by decide +kernel
theorem dL_tests_53 : decode cL_tests 53 = .ok (.aload_n 3, 1) := by decide +kernel
theorem dL_tests_54 : decode cL_tests 54 = .ok (.aload 4, 2) := by decide +kernel
theorem dL_tests_56 : decode cL_tests 56 = .ok (.aload 5, 2) := by decide +kernel
theorem dL_tests_58 : decode cL_tests 58 = .ok (.invokestatic 138, 3) := by decide +kernel
theorem dL_tests_61 : decode cL_tests 61 = .ok (.lstore 12, 2) := by decide +kernel
theorem dL_tests_63 : decode cL_tests 63 = .ok (.aload_n 1, 1) := by decide +kernel
theorem dL_tests_64 : decode cL_tests 64 = .ok (.iload 9, 2) := by decide +kernel
theorem dL_tests_66 : decode cL_tests 66 = .ok (.bipush 13, 2) := by decide +kernel
theorem dL_tests_68 : decode cL_tests 68 = .ok (.iadd, 1) := by decide +kernel
theorem dL_tests_69 : decode cL_tests 69 = .ok (.iload 8, 2) := by decide +kernel
theorem dL_tests_71 : decode cL_tests 71 = .ok (.iadd, 1) := by decide +kernel
theorem dL_tests_72 : decode cL_tests 72 = .ok (.iaload, 1) := by decide +kernel
theorem dL_tests_73 : decode cL_tests 73 = .ok (.istore 14, 2) := by decide +kernel
theorem dL_tests_75 : decode cL_tests 75 = .ok (.aload_n 1, 1) := by decide +kernel
theorem dL_tests_76 : decode cL_tests 76 = .ok (.iload 7, 2) := by decide +kernel
theorem dL_tests_78 : decode cL_tests 78 = .ok (.iload 8, 2) := by decide +kernel
theorem dL_tests_80 : decode cL_tests 80 = .ok (.invokestatic 140, 3) := by decide +kernel
theorem dL_tests_83 : decode cL_tests 83 = .ok (.istore 15, 2) := by decide +kernel
theorem dL_tests_85 : decode cL_tests 85 = .ok (.iload 15, 2) := by decide +kernel
theorem dL_tests_87 : decode cL_tests 87 = .ok (.ifCond .lt 36, 3) := by decide +kernel
theorem dL_tests_90 : decode cL_tests 90 = .ok (.aload_n 1, 1) := by decide +kernel
theorem dL_tests_91 : decode cL_tests 91 = .ok (.iload 9, 2) := by decide +kernel
theorem dL_tests_93 : decode cL_tests 93 = .ok (.iconst 2, 1) := by decide +kernel
theorem dL_tests_94 : decode cL_tests 94 = .ok (.iadd, 1) := by decide +kernel
theorem dL_tests_95 : decode cL_tests 95 = .ok (.iaload, 1) := by decide +kernel
theorem dL_tests_96 : decode cL_tests 96 = .ok (.ifCond .lt 31, 3) := by decide +kernel
theorem dL_tests_99 : decode cL_tests 99 = .ok (.aload 4, 2) := by decide +kernel
theorem dL_tests_101 : decode cL_tests 101 = .ok (.bipush 10, 2) := by decide +kernel
theorem dL_tests_103 : decode cL_tests 103 = .ok (.aload_n 1, 1) := by decide +kernel
theorem dL_tests_104 : decode cL_tests 104 = .ok (.iload 9, 2) := by decide +kernel
theorem dL_tests_106 : decode cL_tests 106 = .ok (.iconst 2, 1) := by decide +kernel
theorem dL_tests_107 : decode cL_tests 107 = .ok (.iadd, 1) := by decide +kernel
theorem dL_tests_108 : decode cL_tests 108 = .ok (.iaload, 1) := by decide +kernel
theorem dL_tests_109 : decode cL_tests 109 = .ok (.imul, 1) := by decide +kernel
theorem dL_tests_110 : decode cL_tests 110 = .ok (.iload 8, 2) := by decide +kernel
theorem dL_tests_112 : decode cL_tests 112 = .ok (.iadd, 1) := by decide +kernel
theorem dL_tests_113 : decode cL_tests 113 = .ok (.iaload, 1) := by decide +kernel
theorem dL_tests_114 : decode cL_tests 114 = .ok (.aload_n 1, 1) := by decide +kernel
theorem dL_tests_115 : decode cL_tests 115 = .ok (.iload 9, 2) := by decide +kernel
theorem dL_tests_117 : decode cL_tests 117 = .ok (.iconst 3, 1) := by decide +kernel
theorem dL_tests_118 : decode cL_tests 118 = .ok (.iadd, 1) := by decide +kernel
theorem dL_tests_119 : decode cL_tests 119 = .ok (.iaload, 1) := by decide +kernel
theorem dL_tests_120 : decode cL_tests 120 = .ok (.if_icmp .ge 7, 3) := by decide +kernel
theorem dL_tests_123 : decode cL_tests 123 = .ok (.iconst 1, 1) := by decide +kernel
theorem dL_tests_124 : decode cL_tests 124 = .ok (.goto 4, 3) := by decide +kernel
theorem dL_tests_127 : decode cL_tests 127 = .ok (.iconst 0, 1) := by decide +kernel
theorem dL_tests_128 : decode cL_tests 128 = .ok (.istore 16, 2) := by decide +kernel
theorem dL_tests_130 : decode cL_tests 130 = .ok (.iload 16, 2) := by decide +kernel
theorem dL_tests_132 : decode cL_tests 132 = .ok (.ifCond .eq 7, 3) := by decide +kernel
theorem dL_tests_135 : decode cL_tests 135 = .ok (.iconst 0, 1) := by decide +kernel
theorem dL_tests_136 : decode cL_tests 136 = .ok (.goto 65, 3) := by decide +kernel
theorem dL_tests_139 : decode cL_tests 139 = .ok (.lload 10, 2) := by decide +kernel
theorem dL_tests_141 : decode cL_tests 141 = .ok (.lload 12, 2) := by decide +kernel
theorem dL_tests_143 : decode cL_tests 143 = .ok (.iload 15, 2) := by decide +kernel
theorem dL_tests_145 : decode cL_tests 145 = .ok (.i2l, 1) := by decide +kernel
theorem dL_tests_146 : decode cL_tests 146 = .ok (.invokestatic 144, 3) := by decide +kernel
theorem dL_tests_149 : decode cL_tests 149 = .ok (.ifCond .eq 7, 3) := by decide +kernel
theorem dL_tests_152 : decode cL_tests 152 = .ok (.iconst 1, 1) := by decide +kernel
theorem dL_tests_153 : decode cL_tests 153 = .ok (.goto 48, 3) := by decide +kernel
theorem dL_tests_156 : decode cL_tests 156 = .ok (.iload 14, 2) := by decide +kernel
theorem dL_tests_158 : decode cL_tests 158 = .ok (.ifCond .le 24, 3) := by decide +kernel
theorem dL_tests_161 : decode cL_tests 161 = .ok (.lload 10, 2) := by decide +kernel
theorem dL_tests_163 : decode cL_tests 163 = .ok (.lload 12, 2) := by decide +kernel
theorem dL_tests_165 : decode cL_tests 165 = .ok (.iload 14, 2) := by decide +kernel
theorem dL_tests_167 : decode cL_tests 167 = .ok (.i2l, 1) := by decide +kernel
theorem dL_tests_168 : decode cL_tests 168 = .ok (.ladd, 1) := by decide +kernel
theorem dL_tests_169 : decode cL_tests 169 = .ok (.iload 15, 2) := by decide +kernel
theorem dL_tests_171 : decode cL_tests 171 = .ok (.i2l, 1) := by decide +kernel
theorem dL_tests_172 : decode cL_tests 172 = .ok (.invokestatic 144, 3) := by decide +kernel
theorem dL_tests_175 : decode cL_tests 175 = .ok (.ifCond .eq 7, 3) := by decide +kernel
theorem dL_tests_178 : decode cL_tests 178 = .ok (.iconst 2, 1) := by decide +kernel
theorem dL_tests_179 : decode cL_tests 179 = .ok (.goto 22, 3) := by decide +kernel
theorem dL_tests_182 : decode cL_tests 182 = .ok (.aload_n 1, 1) := by decide +kernel
theorem dL_tests_183 : decode cL_tests 183 = .ok (.iload 9, 2) := by decide +kernel
theorem dL_tests_185 : decode cL_tests 185 = .ok (.bipush 22, 2) := by decide +kernel
theorem dL_tests_187 : decode cL_tests 187 = .ok (.iadd, 1) := by decide +kernel
theorem dL_tests_188 : decode cL_tests 188 = .ok (.iload 8, 2) := by decide +kernel
theorem dL_tests_190 : decode cL_tests 190 = .ok (.iadd, 1) := by decide +kernel
theorem dL_tests_191 : decode cL_tests 191 = .ok (.iaload, 1) := by decide +kernel
theorem dL_tests_192 : decode cL_tests 192 = .ok (.iconst 1, 1) := by decide +kernel
theorem dL_tests_193 : decode cL_tests 193 = .ok (.if_icmp .ne 7, 3) := by decide +kernel
theorem dL_tests_196 : decode cL_tests 196 = .ok (.iconst 3, 1) := by decide +kernel
theorem dL_tests_197 : decode cL_tests 197 = .ok (.goto 4, 3) := by decide +kernel
theorem dL_tests_200 : decode cL_tests 200 = .ok (.iconst 4, 1) := by decide +kernel
theorem dL_tests_201 : decode cL_tests 201 = .ok (.istore 17, 2) := by decide +kernel
theorem dL_tests_203 : decode cL_tests 203 = .ok (.aload_n 0, 1) := by decide +kernel
theorem dL_tests_204 : decode cL_tests 204 = .ok (.iload 7, 2) := by decide +kernel
theorem dL_tests_206 : decode cL_tests 206 = .ok (.iload 8, 2) := by decide +kernel
theorem dL_tests_208 : decode cL_tests 208 = .ok (.invokevirtual 148, 3) := by decide +kernel
theorem dL_tests_211 : decode cL_tests 211 = .ok (.iload 17, 2) := by decide +kernel
theorem dL_tests_213 : decode cL_tests 213 = .ok (.if_icmp .eq 5, 3) := by decide +kernel
theorem dL_tests_216 : decode cL_tests 216 = .ok (.iconst 0, 1) := by decide +kernel
theorem dL_tests_217 : decode cL_tests 217 = .ok (.ireturn, 1) := by decide +kernel
theorem dL_tests_218 : decode cL_tests 218 = .ok (.iload 15, 2) := by decide +kernel
theorem dL_tests_220 : decode cL_tests 220 = .ok (.ifCond .lt 14, 3) := by decide +kernel
theorem dL_tests_223 : decode cL_tests 223 = .ok (.lload 12, 2) := by decide +kernel
theorem dL_tests_225 : decode cL_tests 225 = .ok (.iload 14, 2) := by decide +kernel
theorem dL_tests_227 : decode cL_tests 227 = .ok (.i2l, 1) := by decide +kernel
theorem dL_tests_228 : decode cL_tests 228 = .ok (.ladd, 1) := by decide +kernel
theorem dL_tests_229 : decode cL_tests 229 = .ok (.lconst 0, 1) := by decide +kernel
theorem dL_tests_230 : decode cL_tests 230 = .ok (.lcmp, 1) := by decide +kernel
theorem dL_tests_231 : decode cL_tests 231 = .ok (.ifCond .gt 20, 3) := by decide +kernel
theorem dL_tests_234 : decode cL_tests 234 = .ok (.aload_n 0, 1) := by decide +kernel
theorem dL_tests_235 : decode cL_tests 235 = .ok (.bipush 7, 2) := by decide +kernel
theorem dL_tests_237 : decode cL_tests 237 = .ok (.iload 7, 2) := by decide +kernel
theorem dL_tests_239 : decode cL_tests 239 = .ok (.iload 8, 2) := by decide +kernel
theorem dL_tests_241 : decode cL_tests 241 = .ok (.iconst 0, 1) := by decide +kernel
theorem dL_tests_242 : decode cL_tests 242 = .ok (.invokestatic 151, 3) := by decide +kernel
theorem dL_tests_245 : decode cL_tests 245 = .ok (.iconst 3, 1) := by decide +kernel
theorem dL_tests_246 : decode cL_tests 246 = .ok (.if_icmp .eq 38, 3) := by decide +kernel
theorem dL_tests_249 : decode cL_tests 249 = .ok (.iconst 0, 1) := by decide +kernel
theorem dL_tests_250 : decode cL_tests 250 = .ok (.ireturn, 1) := by decide +kernel
theorem dL_tests_251 : decode cL_tests 251 = .ok (.aload_n 0, 1) := by decide +kernel
theorem dL_tests_252 : decode cL_tests 252 = .ok (.iload 7, 2) := by decide +kernel
theorem dL_tests_254 : decode cL_tests 254 = .ok (.iload 8, 2) := by decide +kernel
theorem dL_tests_256 : decode cL_tests 256 = .ok (.invokevirtual 114, 3) := by decide +kernel
theorem dL_tests_259 : decode cL_tests 259 = .ok (.iload 15, 2) := by decide +kernel
theorem dL_tests_261 : decode cL_tests 261 = .ok (.i2l, 1) := by decide +kernel
theorem dL_tests_262 : decode cL_tests 262 = .ok (.lload 12, 2) := by decide +kernel
theorem dL_tests_264 : decode cL_tests 264 = .ok (.iload 14, 2) := by decide +kernel
theorem dL_tests_266 : decode cL_tests 266 = .ok (.i2l, 1) := by decide +kernel
theorem dL_tests_267 : decode cL_tests 267 = .ok (.ladd, 1) := by decide +kernel
theorem dL_tests_268 : decode cL_tests 268 = .ok (.lmul, 1) := by decide +kernel
theorem dL_tests_269 : decode cL_tests 269 = .ok (.ldc2_w 30, 3) := by decide +kernel
theorem dL_tests_272 : decode cL_tests 272 = .ok (.invokestatic 32, 3) := by decide +kernel
theorem dL_tests_275 : decode cL_tests 275 = .ok (.lload 10, 2) := by decide +kernel
theorem dL_tests_277 : decode cL_tests 277 = .ok (.lsub, 1) := by decide +kernel
theorem dL_tests_278 : decode cL_tests 278 = .ok (.lcmp, 1) := by decide +kernel
theorem dL_tests_279 : decode cL_tests 279 = .ok (.ifCond .eq 5, 3) := by decide +kernel
theorem dL_tests_282 : decode cL_tests 282 = .ok (.iconst 0, 1) := by decide +kernel
theorem dL_tests_283 : decode cL_tests 283 = .ok (.ireturn, 1) := by decide +kernel
theorem dL_tests_284 : decode cL_tests 284 = .ok (.iload 6, 2) := by decide +kernel
theorem dL_tests_286 : decode cL_tests 286 = .ok (.iload 17, 2) := by decide +kernel
theorem dL_tests_288 : decode cL_tests 288 = .ok (.iconst 4, 1) := by decide +kernel
theorem dL_tests_289 : decode cL_tests 289 = .ok (.if_icmp .ne 7, 3) := by decide +kernel
theorem dL_tests_292 : decode cL_tests 292 = .ok (.iconst 1, 1) := by decide +kernel
theorem dL_tests_293 : decode cL_tests 293 = .ok (.goto 4, 3) := by decide +kernel
theorem dL_tests_296 : decode cL_tests 296 = .ok (.iconst 0, 1) := by decide +kernel
theorem dL_tests_297 : decode cL_tests 297 = .ok (.iadd, 1) := by decide +kernel
theorem dL_tests_298 : decode cL_tests 298 = .ok (.istore 6, 2) := by decide +kernel
theorem dL_tests_300 : decode cL_tests 300 = .ok (.iinc 8 1, 3) := by decide +kernel
theorem dL_tests_303 : decode cL_tests 303 = .ok (.goto (-288), 3) := by decide +kernel
theorem dL_tests_306 : decode cL_tests 306 = .ok (.iinc 7 1, 3) := by decide +kernel
theorem dL_tests_309 : decode cL_tests 309 = .ok (.goto (-303), 3) := by decide +kernel
theorem dL_tests_312 : decode cL_tests 312 = .ok (.iconst 0, 1) := by decide +kernel
theorem dL_tests_313 : decode cL_tests 313 = .ok (.istore 7, 2) := by decide +kernel
theorem dL_tests_315 : decode cL_tests 315 = .ok (.iconst 0, 1) := by decide +kernel
theorem dL_tests_316 : decode cL_tests 316 = .ok (.istore 8, 2) := by decide +kernel
theorem dL_tests_318 : decode cL_tests 318 = .ok (.iload 8, 2) := by decide +kernel
theorem dL_tests_320 : decode cL_tests 320 = .ok (.iload_n 2, 1) := by decide +kernel
theorem dL_tests_321 : decode cL_tests 321 = .ok (.if_icmp .ge 48, 3) := by decide +kernel
theorem dL_tests_324 : decode cL_tests 324 = .ok (.bipush 9, 2) := by decide +kernel
theorem dL_tests_326 : decode cL_tests 326 = .ok (.istore 9, 2) := by decide +kernel
theorem dL_tests_328 : decode cL_tests 328 = .ok (.iload 9, 2) := by decide +kernel
theorem dL_tests_330 : decode cL_tests 330 = .ok (.bipush 20, 2) := by decide +kernel
theorem dL_tests_332 : decode cL_tests 332 = .ok (.if_icmp .ge 31, 3) := by decide +kernel
theorem dL_tests_335 : decode cL_tests 335 = .ok (.iload 7, 2) := by decide +kernel
theorem dL_tests_337 : decode cL_tests 337 = .ok (.aload_n 0, 1) := by decide +kernel
theorem dL_tests_338 : decode cL_tests 338 = .ok (.iload 8, 2) := by decide +kernel
theorem dL_tests_340 : decode cL_tests 340 = .ok (.iload 9, 2) := by decide +kernel
theorem dL_tests_342 : decode cL_tests 342 = .ok (.invokevirtual 148, 3) := by decide +kernel
theorem dL_tests_345 : decode cL_tests 345 = .ok (.iconst 4, 1) := by decide +kernel
theorem dL_tests_346 : decode cL_tests 346 = .ok (.if_icmp .ne 7, 3) := by decide +kernel
theorem dL_tests_349 : decode cL_tests 349 = .ok (.iconst 1, 1) := by decide +kernel
theorem dL_tests_350 : decode cL_tests 350 = .ok (.goto 4, 3) := by decide +kernel
theorem dL_tests_353 : decode cL_tests 353 = .ok (.iconst 0, 1) := by decide +kernel
theorem dL_tests_354 : decode cL_tests 354 = .ok (.iadd, 1) := by decide +kernel
