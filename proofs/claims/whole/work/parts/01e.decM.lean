theorem dX5_init_0 : decode cX5_init 0 = .ok (.aload_n 0, 1) := by decide +kernel
theorem dX5_init_1 : decode cX5_init 1 = .ok (.invokespecial 1, 3) := by decide +kernel
theorem dX5_init_4 : decode cX5_init 4 = .ok (.aload_n 0, 1) := by decide +kernel
theorem dX5_init_5 : decode cX5_init 5 = .ok (.bipush 120, 2) := by decide +kernel
theorem dX5_init_7 : decode cX5_init 7 = .ok (.newarray .int, 2) := by decide +kernel
theorem dX5_init_9 : decode cX5_init 9 = .ok (.putfield 7, 3) := by decide +kernel
theorem dX5_init_12 : decode cX5_init 12 = .ok (.aload_n 0, 1) := by decide +kernel
theorem dX5_init_13 : decode cX5_init 13 = .ok (.bipush 8, 2) := by decide +kernel
theorem dX5_init_15 : decode cX5_init 15 = .ok (.newarray .int, 2) := by decide +kernel
theorem dX5_init_17 : decode cX5_init 17 = .ok (.putfield 13, 3) := by decide +kernel
theorem dX5_init_20 : decode cX5_init 20 = .ok (.aload_n 0, 1) := by decide +kernel
theorem dX5_init_21 : decode cX5_init 21 = .ok (.bipush 8, 2) := by decide +kernel
theorem dX5_init_23 : decode cX5_init 23 = .ok (.newarray .int, 2) := by decide +kernel
theorem dX5_init_25 : decode cX5_init 25 = .ok (.putfield 16, 3) := by decide +kernel
theorem dX5_init_28 : decode cX5_init 28 = .ok (.aload_n 0, 1) := by decide +kernel
theorem dX5_init_29 : decode cX5_init 29 = .ok (.sipush 512, 3) := by decide +kernel
theorem dX5_init_32 : decode cX5_init 32 = .ok (.newarray .int, 2) := by decide +kernel
theorem dX5_init_34 : decode cX5_init 34 = .ok (.putfield 19, 3) := by decide +kernel
theorem dX5_init_37 : decode cX5_init 37 = .ok (.aload_n 0, 1) := by decide +kernel
theorem dX5_init_38 : decode cX5_init 38 = .ok (.sipush 512, 3) := by decide +kernel
theorem dX5_init_41 : decode cX5_init 41 = .ok (.newarray .int, 2) := by decide +kernel
theorem dX5_init_43 : decode cX5_init 43 = .ok (.putfield 22, 3) := by decide +kernel
theorem dX5_init_46 : decode cX5_init 46 = .ok (.aload_n 0, 1) := by decide +kernel
theorem dX5_init_47 : decode cX5_init 47 = .ok (.bipush 10, 2) := by decide +kernel
theorem dX5_init_49 : decode cX5_init 49 = .ok (.newarray .int, 2) := by decide +kernel
theorem dX5_init_51 : decode cX5_init 51 = .ok (.putfield 25, 3) := by decide +kernel
theorem dX5_init_54 : decode cX5_init 54 = .ok (.aload_n 0, 1) := by decide +kernel
theorem dX5_init_55 : decode cX5_init 55 = .ok (.sipush 200, 3) := by decide +kernel
theorem dX5_init_58 : decode cX5_init 58 = .ok (.newarray .int, 2) := by decide +kernel
theorem dX5_init_60 : decode cX5_init 60 = .ok (.putfield 28, 3) := by decide +kernel
theorem dX5_init_63 : decode cX5_init 63 = .ok (.aload_n 0, 1) := by decide +kernel
theorem dX5_init_64 : decode cX5_init 64 = .ok (.sipush 12800, 3) := by decide +kernel
theorem dX5_init_67 : decode cX5_init 67 = .ok (.newarray .int, 2) := by decide +kernel
theorem dX5_init_69 : decode cX5_init 69 = .ok (.putfield 31, 3) := by decide +kernel
theorem dX5_init_72 : decode cX5_init 72 = .ok (.aload_n 0, 1) := by decide +kernel
theorem dX5_init_73 : decode cX5_init 73 = .ok (.sipush 12800, 3) := by decide +kernel
theorem dX5_init_76 : decode cX5_init 76 = .ok (.newarray .int, 2) := by decide +kernel
theorem dX5_init_78 : decode cX5_init 78 = .ok (.putfield 34, 3) := by decide +kernel
theorem dX5_init_81 : decode cX5_init 81 = .ok (.aload_n 0, 1) := by decide +kernel
theorem dX5_init_82 : decode cX5_init 82 = .ok (.sipush 200, 3) := by decide +kernel
theorem dX5_init_85 : decode cX5_init 85 = .ok (.newarray .long, 2) := by decide +kernel
theorem dX5_init_87 : decode cX5_init 87 = .ok (.putfield 37, 3) := by decide +kernel
theorem dX5_init_90 : decode cX5_init 90 = .ok (.aload_n 0, 1) := by decide +kernel
theorem dX5_init_91 : decode cX5_init 91 = .ok (.sipush 200, 3) := by decide +kernel
theorem dX5_init_94 : decode cX5_init 94 = .ok (.newarray .long, 2) := by decide +kernel
theorem dX5_init_96 : decode cX5_init 96 = .ok (.putfield 41, 3) := by decide +kernel
theorem dX5_init_99 : decode cX5_init 99 = .ok (.aload_n 0, 1) := by decide +kernel
theorem dX5_init_100 : decode cX5_init 100 = .ok (.sipush 1000, 3) := by decide +kernel
theorem dX5_init_103 : decode cX5_init 103 = .ok (.newarray .char, 2) := by decide +kernel
theorem dX5_init_105 : decode cX5_init 105 = .ok (.putfield 44, 3) := by decide +kernel
theorem dX5_init_108 : decode cX5_init 108 = .ok (.aload_n 0, 1) := by decide +kernel
theorem dX5_init_109 : decode cX5_init 109 = .ok (.bipush 16, 2) := by decide +kernel
theorem dX5_init_111 : decode cX5_init 111 = .ok (.newarray .int, 2) := by decide +kernel
theorem dX5_init_113 : decode cX5_init 113 = .ok (.putfield 48, 3) := by decide +kernel
theorem dX5_init_116 : decode cX5_init 116 = .ok (.aload_n 0, 1) := by decide +kernel
theorem dX5_init_117 : decode cX5_init 117 = .ok (.bipush 6, 2) := by decide +kernel
theorem dX5_init_119 : decode cX5_init 119 = .ok (.newarray .int, 2) := by decide +kernel
theorem dX5_init_121 : decode cX5_init 121 = .ok (.putfield 51, 3) := by decide +kernel
theorem dX5_init_124 : decode cX5_init 124 = .ok (.aload_n 0, 1) := by decide +kernel
theorem dX5_init_125 : decode cX5_init 125 = .ok (.bipush 6, 2) := by decide +kernel
theorem dX5_init_127 : decode cX5_init 127 = .ok (.newarray .int, 2) := by decide +kernel
theorem dX5_init_129 : decode cX5_init 129 = .ok (.putfield 54, 3) := by decide +kernel
theorem dX5_init_132 : decode cX5_init 132 = .ok (.aload_n 0, 1) := by decide +kernel
theorem dX5_init_133 : decode cX5_init 133 = .ok (.bipush 120, 2) := by decide +kernel
theorem dX5_init_135 : decode cX5_init 135 = .ok (.newarray .int, 2) := by decide +kernel
theorem dX5_init_137 : decode cX5_init 137 = .ok (.putfield 57, 3) := by decide +kernel
theorem dX5_init_140 : decode cX5_init 140 = .ok (.aload_n 0, 1) := by decide +kernel
theorem dX5_init_141 : decode cX5_init 141 = .ok (.bipush 6, 2) := by decide +kernel
theorem dX5_init_143 : decode cX5_init 143 = .ok (.newarray .int, 2) := by decide +kernel
theorem dX5_init_145 : decode cX5_init 145 = .ok (.putfield 60, 3) := by decide +kernel
theorem dX5_init_148 : decode cX5_init 148 = .ok (.aload_n 0, 1) := by decide +kernel
theorem dX5_init_149 : decode cX5_init 149 = .ok (.bipush 6, 2) := by decide +kernel
theorem dX5_init_151 : decode cX5_init 151 = .ok (.newarray .int, 2) := by decide +kernel
theorem dX5_init_153 : decode cX5_init 153 = .ok (.putfield 63, 3) := by decide +kernel
theorem dX5_init_156 : decode cX5_init 156 = .ok (.aload_n 0, 1) := by decide +kernel
theorem dX5_init_157 : decode cX5_init 157 = .ok (.bipush 120, 2) := by decide +kernel
theorem dX5_init_159 : decode cX5_init 159 = .ok (.newarray .int, 2) := by decide +kernel
theorem dX5_init_161 : decode cX5_init 161 = .ok (.putfield 66, 3) := by decide +kernel
theorem dX5_init_164 : decode cX5_init 164 = .ok (.aload_n 0, 1) := by decide +kernel
theorem dX5_init_165 : decode cX5_init 165 = .ok (.bipush 120, 2) := by decide +kernel
theorem dX5_init_167 : decode cX5_init 167 = .ok (.newarray .boolean, 2) := by decide +kernel
theorem dX5_init_169 : decode cX5_init 169 = .ok (.putfield 69, 3) := by decide +kernel
theorem dX5_init_172 : decode cX5_init 172 = .ok (.aload_n 0, 1) := by decide +kernel
theorem dX5_init_173 : decode cX5_init 173 = .ok (.bipush 6, 2) := by decide +kernel
theorem dX5_init_175 : decode cX5_init 175 = .ok (.newarray .int, 2) := by decide +kernel
theorem dX5_init_177 : decode cX5_init 177 = .ok (.putfield 73, 3) := by decide +kernel
theorem dX5_init_180 : decode cX5_init 180 = .ok (.aload_n 0, 1) := by decide +kernel
theorem dX5_init_181 : decode cX5_init 181 = .ok (.bipush 6, 2) := by decide +kernel
theorem dX5_init_183 : decode cX5_init 183 = .ok (.newarray .int, 2) := by decide +kernel
theorem dX5_init_185 : decode cX5_init 185 = .ok (.putfield 76, 3) := by decide +kernel
theorem dX5_init_188 : decode cX5_init 188 = .ok (.aload_n 0, 1) := by decide +kernel
theorem dX5_init_189 : decode cX5_init 189 = .ok (.bipush 6, 2) := by decide +kernel
theorem dX5_init_191 : decode cX5_init 191 = .ok (.newarray .int, 2) := by decide +kernel
theorem dX5_init_193 : decode cX5_init 193 = .ok (.putfield 79, 3) := by decide +kernel
theorem dX5_init_196 : decode cX5_init 196 = .ok (.aload_n 0, 1) := by decide +kernel
theorem dX5_init_197 : decode cX5_init 197 = .ok (.bipush 6, 2) := by decide +kernel
theorem dX5_init_199 : decode cX5_init 199 = .ok (.newarray .long, 2) := by decide +kernel
theorem dX5_init_201 : decode cX5_init 201 = .ok (.putfield 82, 3) := by decide +kernel
theorem dX5_init_204 : decode cX5_init 204 = .ok (.iconst 0, 1) := by decide +kernel
theorem dX5_init_205 : decode cX5_init 205 = .ok (.istore_n 1, 1) := by decide +kernel
theorem dX5_init_206 : decode cX5_init 206 = .ok (.iload_n 1, 1) := by decide +kernel
theorem dX5_init_207 : decode cX5_init 207 = .ok (.bipush 120, 2) := by decide +kernel
theorem dX5_init_209 : decode cX5_init 209 = .ok (.if_icmp .ge 16, 3) := by decide +kernel
theorem dX5_init_212 : decode cX5_init 212 = .ok (.aload_n 0, 1) := by decide +kernel
theorem dX5_init_213 : decode cX5_init 213 = .ok (.getfield 57, 3) := by decide +kernel
theorem dX5_init_216 : decode cX5_init 216 = .ok (.iload_n 1, 1) := by decide +kernel
theorem dX5_init_217 : decode cX5_init 217 = .ok (.iconst (-1), 1) := by decide +kernel
theorem dX5_init_218 : decode cX5_init 218 = .ok (.iastore, 1) := by decide +kernel
theorem dX5_init_219 : decode cX5_init 219 = .ok (.iinc 1 1, 3) := by decide +kernel
theorem dX5_init_222 : decode cX5_init 222 = .ok (.goto (-16), 3) := by decide +kernel
theorem dX5_init_225 : decode cX5_init 225 = .ok (.iconst 0, 1) := by decide +kernel
theorem dX5_init_226 : decode cX5_init 226 = .ok (.istore_n 1, 1) := by decide +kernel
theorem dX5_init_227 : decode cX5_init 227 = .ok (.iload_n 1, 1) := by decide +kernel
theorem dX5_init_228 : decode cX5_init 228 = .ok (.bipush 6, 2) := by decide +kernel
theorem dX5_init_230 : decode cX5_init 230 = .ok (.if_icmp .ge 16, 3) := by decide +kernel
theorem dX5_init_233 : decode cX5_init 233 = .ok (.aload_n 0, 1) := by decide +kernel
theorem dX5_init_234 : decode cX5_init 234 = .ok (.getfield 60, 3) := by decide +kernel
theorem dX5_init_237 : decode cX5_init 237 = .ok (.iload_n 1, 1) := by decide +kernel
theorem dX5_init_238 : decode cX5_init 238 = .ok (.iconst (-1), 1) := by decide +kernel
theorem dX5_init_239 : decode cX5_init 239 = .ok (.iastore, 1) := by decide +kernel
theorem dX5_init_240 : decode cX5_init 240 = .ok (.iinc 1 1, 3) := by decide +kernel
theorem dX5_init_243 : decode cX5_init 243 = .ok (.goto (-16), 3) := by decide +kernel
theorem dX5_init_246 : decode cX5_init 246 = .ok (.return_, 1) := by decide +kernel
theorem dX5_thrown_0 : decode cX5_thrown 0 = .ok (.aload_n 0, 1) := by decide +kernel
theorem dX5_thrown_1 : decode cX5_thrown 1 = .ok (.getfield 85, 3) := by decide +kernel
theorem dX5_thrown_4 : decode cX5_thrown 4 = .ok (.ireturn, 1) := by decide +kernel
theorem dX5_isIn_0 : decode cX5_isIn 0 = .ok (.iload_n 0, 1) := by decide +kernel
theorem dX5_isIn_1 : decode cX5_isIn 1 = .ok (.iload_n 1, 1) := by decide +kernel
theorem dX5_isIn_2 : decode cX5_isIn 2 = .ok (.if_icmp .lt 12, 3) := by decide +kernel
theorem dX5_isIn_5 : decode cX5_isIn 5 = .ok (.iload_n 0, 1) := by decide +kernel
theorem dX5_isIn_6 : decode cX5_isIn 6 = .ok (.iload_n 2, 1) := by decide +kernel
theorem dX5_isIn_7 : decode cX5_isIn 7 = .ok (.if_icmp .gt 7, 3) := by decide +kernel
theorem dX5_isIn_10 : decode cX5_isIn 10 = .ok (.iconst 1, 1) := by decide +kernel
theorem dX5_isIn_11 : decode cX5_isIn 11 = .ok (.goto 4, 3) := by decide +kernel
theorem dX5_isIn_14 : decode cX5_isIn 14 = .ok (.iconst 0, 1) := by decide +kernel
theorem dX5_isIn_15 : decode cX5_isIn 15 = .ok (.ireturn, 1) := by decide +kernel
theorem dX5_isQuarter_0 : decode cX5_isQuarter 0 = .ok (.iload_n 0, 1) := by decide +kernel
theorem dX5_isQuarter_1 : decode cX5_isQuarter 1 = .ok (.iconst 0, 1) := by decide +kernel
theorem dX5_isQuarter_2 : decode cX5_isQuarter 2 = .ok (.bipush 19, 2) := by decide +kernel
theorem dX5_isQuarter_4 : decode cX5_isQuarter 4 = .ok (.invokestatic 89, 3) := by decide +kernel
theorem dX5_isQuarter_7 : decode cX5_isQuarter 7 = .ok (.ireturn, 1) := by decide +kernel
theorem dX5_isAccount_0 : decode cX5_isAccount 0 = .ok (.iload_n 0, 1) := by decide +kernel
theorem dX5_isAccount_1 : decode cX5_isAccount 1 = .ok (.iconst 0, 1) := by decide +kernel
theorem dX5_isAccount_2 : decode cX5_isAccount 2 = .ok (.iconst 5, 1) := by decide +kernel
theorem dX5_isAccount_3 : decode cX5_isAccount 3 = .ok (.invokestatic 89, 3) := by decide +kernel
theorem dX5_isAccount_6 : decode cX5_isAccount 6 = .ok (.ireturn, 1) := by decide +kernel
theorem dX5_isTerm_0 : decode cX5_isTerm 0 = .ok (.iload_n 1, 1) := by decide +kernel
theorem dX5_isTerm_1 : decode cX5_isTerm 1 = .ok (.iconst 0, 1) := by decide +kernel
theorem dX5_isTerm_2 : decode cX5_isTerm 2 = .ok (.aload_n 0, 1) := by decide +kernel
theorem dX5_isTerm_3 : decode cX5_isTerm 3 = .ok (.getfield 93, 3) := by decide +kernel
theorem dX5_isTerm_6 : decode cX5_isTerm 6 = .ok (.iconst 1, 1) := by decide +kernel
theorem dX5_isTerm_7 : decode cX5_isTerm 7 = .ok (.isub, 1) := by decide +kernel
theorem dX5_isTerm_8 : decode cX5_isTerm 8 = .ok (.invokestatic 89, 3) := by decide +kernel
theorem dX5_isTerm_11 : decode cX5_isTerm 11 = .ok (.ireturn, 1) := by decide +kernel
theorem dX5_down_0 : decode cX5_down 0 = .ok (.lload_n 0, 1) := by decide +kernel
theorem dX5_down_1 : decode cX5_down 1 = .ok (.iload_n 2, 1) := by decide +kernel
theorem dX5_down_2 : decode cX5_down 2 = .ok (.i2l, 1) := by decide +kernel
theorem dX5_down_3 : decode cX5_down 3 = .ok (.ldiv, 1) := by decide +kernel
theorem dX5_down_4 : decode cX5_down 4 = .ok (.lstore_n 3, 1) := by decide +kernel
theorem dX5_down_5 : decode cX5_down 5 = .ok (.lload_n 0, 1) := by decide +kernel
theorem dX5_down_6 : decode cX5_down 6 = .ok (.iload_n 2, 1) := by decide +kernel
theorem dX5_down_7 : decode cX5_down 7 = .ok (.i2l, 1) := by decide +kernel
theorem dX5_down_8 : decode cX5_down 8 = .ok (.lrem, 1) := by decide +kernel
theorem dX5_down_9 : decode cX5_down 9 = .ok (.lconst 0, 1) := by decide +kernel
theorem dX5_down_10 : decode cX5_down 10 = .ok (.lcmp, 1) := by decide +kernel
theorem dX5_down_11 : decode cX5_down 11 = .ok (.ifCond .ge 9, 3) := by decide +kernel
theorem dX5_down_14 : decode cX5_down 14 = .ok (.lload_n 3, 1) := by decide +kernel
theorem dX5_down_15 : decode cX5_down 15 = .ok (.lconst 1, 1) := by decide +kernel
theorem dX5_down_16 : decode cX5_down 16 = .ok (.lsub, 1) := by decide +kernel
theorem dX5_down_17 : decode cX5_down 17 = .ok (.goto 4, 3) := by decide +kernel
theorem dX5_down_20 : decode cX5_down 20 = .ok (.lload_n 3, 1) := by decide +kernel
theorem dX5_down_21 : decode cX5_down 21 = .ok (.lreturn, 1) := by decide +kernel
theorem dX5_amount_0 : decode cX5_amount 0 = .ok (.iload_n 1, 1) := by decide +kernel
theorem dX5_amount_1 : decode cX5_amount 1 = .ok (.invokestatic 96, 3) := by decide +kernel
theorem dX5_amount_4 : decode cX5_amount 4 = .ok (.ifCond .eq 14, 3) := by decide +kernel
theorem dX5_amount_7 : decode cX5_amount 7 = .ok (.iload_n 2, 1) := by decide +kernel
theorem dX5_amount_8 : decode cX5_amount 8 = .ok (.invokestatic 100, 3) := by decide +kernel
theorem dX5_amount_11 : decode cX5_amount 11 = .ok (.ifCond .eq 7, 3) := by decide +kernel
theorem dX5_amount_14 : decode cX5_amount 14 = .ok (.iconst 1, 1) := by decide +kernel
theorem dX5_amount_15 : decode cX5_amount 15 = .ok (.goto 4, 3) := by decide +kernel
theorem dX5_amount_18 : decode cX5_amount 18 = .ok (.iconst 0, 1) := by decide +kernel
theorem dX5_amount_19 : decode cX5_amount 19 = .ok (.istore 4, 2) := by decide +kernel
theorem dX5_amount_21 : decode cX5_amount 21 = .ok (.aload_n 0, 1) := by decide +kernel
theorem dX5_amount_22 : decode cX5_amount 22 = .ok (.iload 4, 2) := by decide +kernel
theorem dX5_amount_24 : decode cX5_amount 24 = .ok (.ifCond .ne 7, 3) := by decide +kernel
theorem dX5_amount_27 : decode cX5_amount 27 = .ok (.iconst 1, 1) := by decide +kernel
theorem dX5_amount_28 : decode cX5_amount 28 = .ok (.goto 19, 3) := by decide +kernel
theorem dX5_amount_31 : decode cX5_amount 31 = .ok (.iload_n 3, 1) := by decide +kernel
theorem dX5_amount_32 : decode cX5_amount 32 = .ok (.ldc 103, 2) := by decide +kernel
theorem dX5_amount_34 : decode cX5_amount 34 = .ok (.ldc 104, 2) := by decide +kernel
theorem dX5_amount_36 : decode cX5_amount 36 = .ok (.invokestatic 89, 3) := by decide +kernel
theorem dX5_amount_39 : decode cX5_amount 39 = .ok (.ifCond .eq 7, 3) := by decide +kernel
theorem dX5_amount_42 : decode cX5_amount 42 = .ok (.iconst 0, 1) := by decide +kernel
theorem dX5_amount_43 : decode cX5_amount 43 = .ok (.goto 4, 3) := by decide +kernel
theorem dX5_amount_46 : decode cX5_amount 46 = .ok (.iconst 2, 1) := by decide +kernel
theorem dX5_amount_47 : decode cX5_amount 47 = .ok (.putfield 85, 3) := by decide +kernel
theorem dX5_amount_50 : decode cX5_amount 50 = .ok (.aload_n 0, 1) := by decide +kernel
theorem dX5_amount_51 : decode cX5_amount 51 = .ok (.getfield 85, 3) := by decide +kernel
theorem dX5_amount_54 : decode cX5_amount 54 = .ok (.ifCond .le 5, 3) := by decide +kernel
theorem dX5_amount_57 : decode cX5_amount 57 = .ok (.iconst 0, 1) := by decide +kernel
theorem dX5_amount_58 : decode cX5_amount 58 = .ok (.ireturn, 1) := by decide +kernel
theorem dX5_amount_59 : decode cX5_amount 59 = .ok (.aload_n 0, 1) := by decide +kernel
theorem dX5_amount_60 : decode cX5_amount 60 = .ok (.getfield 7, 3) := by decide +kernel
theorem dX5_amount_63 : decode cX5_amount 63 = .ok (.bipush 20, 2) := by decide +kernel
theorem dX5_amount_65 : decode cX5_amount 65 = .ok (.iload_n 1, 1) := by decide +kernel
theorem dX5_amount_66 : decode cX5_amount 66 = .ok (.imul, 1) := by decide +kernel
theorem dX5_amount_67 : decode cX5_amount 67 = .ok (.iload_n 2, 1) := by decide +kernel
theorem dX5_amount_68 : decode cX5_amount 68 = .ok (.iadd, 1) := by decide +kernel
theorem dX5_amount_69 : decode cX5_amount 69 = .ok (.iaload, 1) := by decide +kernel
theorem dX5_amount_70 : decode cX5_amount 70 = .ok (.istore 5, 2) := by decide +kernel
theorem dX5_amount_72 : decode cX5_amount 72 = .ok (.aload_n 0, 1) := by decide +kernel
theorem dX5_amount_73 : decode cX5_amount 73 = .ok (.getfield 7, 3) := by decide +kernel
theorem dX5_amount_76 : decode cX5_amount 76 = .ok (.bipush 20, 2) := by decide +kernel
theorem dX5_amount_78 : decode cX5_amount 78 = .ok (.iload_n 1, 1) := by decide +kernel
theorem dX5_amount_79 : decode cX5_amount 79 = .ok (.imul, 1) := by decide +kernel
theorem dX5_amount_80 : decode cX5_amount 80 = .ok (.iload_n 2, 1) := by decide +kernel
theorem dX5_amount_81 : decode cX5_amount 81 = .ok (.iadd, 1) := by decide +kernel
theorem dX5_amount_82 : decode cX5_amount 82 = .ok (.iload_n 3, 1) := by decide +kernel
theorem dX5_amount_83 : decode cX5_amount 83 = .ok (.iastore, 1) := by decide +kernel
theorem dX5_amount_84 : decode cX5_amount 84 = .ok (.iload 5, 2) := by decide +kernel
theorem dX5_amount_86 : decode cX5_amount 86 = .ok (.ireturn, 1) := by decide +kernel
theorem dX5_adds_0 : decode cX5_adds 0 = .ok (.aload_n 0, 1) := by decide +kernel
theorem dX5_adds_1 : decode cX5_adds 1 = .ok (.getfield 19, 3) := by decide +kernel
theorem dX5_adds_4 : decode cX5_adds 4 = .ok (.bipush 64, 2) := by decide +kernel
theorem dX5_adds_6 : decode cX5_adds 6 = .ok (.iload_n 1, 1) := by decide +kernel
theorem dX5_adds_7 : decode cX5_adds 7 = .ok (.imul, 1) := by decide +kernel
theorem dX5_adds_8 : decode cX5_adds 8 = .ok (.aload_n 0, 1) := by decide +kernel
theorem dX5_adds_9 : decode cX5_adds 9 = .ok (.getfield 13, 3) := by decide +kernel
theorem dX5_adds_12 : decode cX5_adds 12 = .ok (.iload_n 1, 1) := by decide +kernel
theorem dX5_adds_13 : decode cX5_adds 13 = .ok (.iaload, 1) := by decide +kernel
theorem dX5_adds_14 : decode cX5_adds 14 = .ok (.iadd, 1) := by decide +kernel
theorem dX5_adds_15 : decode cX5_adds 15 = .ok (.iload_n 2, 1) := by decide +kernel
theorem dX5_adds_16 : decode cX5_adds 16 = .ok (.iastore, 1) := by decide +kernel
theorem dX5_adds_17 : decode cX5_adds 17 = .ok (.aload_n 0, 1) := by decide +kernel
theorem dX5_adds_18 : decode cX5_adds 18 = .ok (.getfield 22, 3) := by decide +kernel
theorem dX5_adds_21 : decode cX5_adds 21 = .ok (.bipush 64, 2) := by decide +kernel
theorem dX5_adds_23 : decode cX5_adds 23 = .ok (.iload_n 1, 1) := by decide +kernel
theorem dX5_adds_24 : decode cX5_adds 24 = .ok (.imul, 1) := by decide +kernel
theorem dX5_adds_25 : decode cX5_adds 25 = .ok (.aload_n 0, 1) := by decide +kernel
theorem dX5_adds_26 : decode cX5_adds 26 = .ok (.getfield 13, 3) := by decide +kernel
theorem dX5_adds_29 : decode cX5_adds 29 = .ok (.iload_n 1, 1) := by decide +kernel
theorem dX5_adds_30 : decode cX5_adds 30 = .ok (.iaload, 1) := by decide +kernel
theorem dX5_adds_31 : decode cX5_adds 31 = .ok (.iadd, 1) := by decide +kernel
theorem dX5_adds_32 : decode cX5_adds 32 = .ok (.iload_n 3, 1) := by decide +kernel
theorem dX5_adds_33 : decode cX5_adds 33 = .ok (.iastore, 1) := by decide +kernel
theorem dX5_adds_34 : decode cX5_adds 34 = .ok (.aload_n 0, 1) := by decide +kernel
theorem dX5_adds_35 : decode cX5_adds 35 = .ok (.getfield 13, 3) := by decide +kernel
theorem dX5_adds_38 : decode cX5_adds 38 = .ok (.iload_n 1, 1) := by decide +kernel
theorem dX5_adds_39 : decode cX5_adds 39 = .ok (.dup2, 1) := by decide +kernel
theorem dX5_adds_40 : decode cX5_adds 40 = .ok (.iaload, 1) := by decide +kernel
theorem dX5_adds_41 : decode cX5_adds 41 = .ok (.iconst 1, 1) := by decide +kernel
theorem dX5_adds_42 : decode cX5_adds 42 = .ok (.iadd, 1) := by decide +kernel
theorem dX5_adds_43 : decode cX5_adds 43 = .ok (.iastore, 1) := by decide +kernel
theorem dX5_adds_44 : decode cX5_adds 44 = .ok (.return_, 1) := by decide +kernel
theorem dX5_pushes_0 : decode cX5_pushes 0 = .ok (.aload_n 0, 1) := by decide +kernel
theorem dX5_pushes_1 : decode cX5_pushes 1 = .ok (.getfield 13, 3) := by decide +kernel
theorem dX5_pushes_4 : decode cX5_pushes 4 = .ok (.aload_n 0, 1) := by decide +kernel
theorem dX5_pushes_5 : decode cX5_pushes 5 = .ok (.getfield 105, 3) := by decide +kernel
theorem dX5_pushes_8 : decode cX5_pushes 8 = .ok (.iconst 0, 1) := by decide +kernel
theorem dX5_pushes_9 : decode cX5_pushes 9 = .ok (.iastore, 1) := by decide +kernel
theorem dX5_pushes_10 : decode cX5_pushes 10 = .ok (.aload_n 0, 1) := by decide +kernel
theorem dX5_pushes_11 : decode cX5_pushes 11 = .ok (.getfield 16, 3) := by decide +kernel
theorem dX5_pushes_14 : decode cX5_pushes 14 = .ok (.aload_n 0, 1) := by decide +kernel
theorem dX5_pushes_15 : decode cX5_pushes 15 = .ok (.getfield 105, 3) := by decide +kernel
theorem dX5_pushes_18 : decode cX5_pushes 18 = .ok (.iload_n 3, 1) := by decide +kernel
theorem dX5_pushes_19 : decode cX5_pushes 19 = .ok (.iastore, 1) := by decide +kernel
theorem dX5_pushes_20 : decode cX5_pushes 20 = .ok (.aload_n 0, 1) := by decide +kernel
theorem dX5_pushes_21 : decode cX5_pushes 21 = .ok (.aload_n 0, 1) := by decide +kernel
theorem dX5_pushes_22 : decode cX5_pushes 22 = .ok (.getfield 105, 3) := by decide +kernel
theorem dX5_pushes_25 : decode cX5_pushes 25 = .ok (.iload_n 1, 1) := by decide +kernel
theorem dX5_pushes_26 : decode cX5_pushes 26 = .ok (.iload_n 2, 1) := by decide +kernel
theorem dX5_pushes_27 : decode cX5_pushes 27 = .ok (.invokevirtual 108, 3) := by decide +kernel
theorem dX5_pushes_30 : decode cX5_pushes 30 = .ok (.aload_n 0, 1) := by decide +kernel
theorem dX5_pushes_31 : decode cX5_pushes 31 = .ok (.dup, 1) := by decide +kernel
theorem dX5_pushes_32 : decode cX5_pushes 32 = .ok (.getfield 105, 3) := by decide +kernel
theorem dX5_pushes_35 : decode cX5_pushes 35 = .ok (.iconst 1, 1) := by decide +kernel
theorem dX5_pushes_36 : decode cX5_pushes 36 = .ok (.iadd, 1) := by decide +kernel
theorem dX5_pushes_37 : decode cX5_pushes 37 = .ok (.putfield 105, 3) := by decide +kernel
theorem dX5_pushes_40 : decode cX5_pushes 40 = .ok (.aload_n 0, 1) := by decide +kernel
theorem dX5_pushes_41 : decode cX5_pushes 41 = .ok (.getfield 105, 3) := by decide +kernel
theorem dX5_pushes_44 : decode cX5_pushes 44 = .ok (.ireturn, 1) := by decide +kernel
theorem dX5_account_0 : decode cX5_account 0 = .ok (.aload_n 0, 1) := by decide +kernel
theorem dX5_account_1 : decode cX5_account 1 = .ok (.iload_n 1, 1) := by decide +kernel
theorem dX5_account_2 : decode cX5_account 2 = .ok (.invokestatic 96, 3) := by decide +kernel
theorem dX5_account_5 : decode cX5_account 5 = .ok (.ifCond .ne 7, 3) := by decide +kernel
theorem dX5_account_8 : decode cX5_account 8 = .ok (.iconst 1, 1) := by decide +kernel
theorem dX5_account_9 : decode cX5_account 9 = .ok (.goto 17, 3) := by decide +kernel
theorem dX5_account_12 : decode cX5_account 12 = .ok (.aload_n 0, 1) := by decide +kernel
theorem dX5_account_13 : decode cX5_account 13 = .ok (.getfield 105, 3) := by decide +kernel
theorem dX5_account_16 : decode cX5_account 16 = .ok (.bipush 8, 2) := by decide +kernel
theorem dX5_account_18 : decode cX5_account 18 = .ok (.if_icmp .ne 7, 3) := by decide +kernel
theorem dX5_account_21 : decode cX5_account 21 = .ok (.iconst 2, 1) := by decide +kernel
theorem dX5_account_22 : decode cX5_account 22 = .ok (.goto 4, 3) := by decide +kernel
theorem dX5_account_25 : decode cX5_account 25 = .ok (.iconst 0, 1) := by decide +kernel
theorem dX5_account_26 : decode cX5_account 26 = .ok (.putfield 85, 3) := by decide +kernel
theorem dX5_account_29 : decode cX5_account 29 = .ok (.aload_n 0, 1) := by decide +kernel
theorem dX5_account_30 : decode cX5_account 30 = .ok (.getfield 85, 3) := by decide +kernel
theorem dX5_account_33 : decode cX5_account 33 = .ok (.ifCond .le 7, 3) := by decide +kernel
theorem dX5_account_36 : decode cX5_account 36 = .ok (.iconst 0, 1) := by decide +kernel
theorem dX5_account_37 : decode cX5_account 37 = .ok (.goto 10, 3) := by decide +kernel
theorem dX5_account_40 : decode cX5_account 40 = .ok (.aload_n 0, 1) := by decide +kernel
theorem dX5_account_41 : decode cX5_account 41 = .ok (.iconst 4, 1) := by decide +kernel
theorem dX5_account_42 : decode cX5_account 42 = .ok (.iload_n 1, 1) := by decide +kernel
theorem dX5_account_43 : decode cX5_account 43 = .ok (.iconst 1, 1) := by decide +kernel
theorem dX5_account_44 : decode cX5_account 44 = .ok (.invokevirtual 112, 3) := by decide +kernel
theorem dX5_account_47 : decode cX5_account 47 = .ok (.ireturn, 1) := by decide +kernel
theorem dX5_number_0 : decode cX5_number 0 = .ok (.aload_n 0, 1) := by decide +kernel
theorem dX5_number_1 : decode cX5_number 1 = .ok (.iload_n 1, 1) := by decide +kernel
theorem dX5_number_2 : decode cX5_number 2 = .ok (.iconst 0, 1) := by decide +kernel
theorem dX5_number_3 : decode cX5_number 3 = .ok (.ldc 104, 2) := by decide +kernel
theorem dX5_number_5 : decode cX5_number 5 = .ok (.invokestatic 89, 3) := by decide +kernel
theorem dX5_number_8 : decode cX5_number 8 = .ok (.ifCond .ne 7, 3) := by decide +kernel
theorem dX5_number_11 : decode cX5_number 11 = .ok (.iconst 1, 1) := by decide +kernel
theorem dX5_number_12 : decode cX5_number 12 = .ok (.goto 17, 3) := by decide +kernel
theorem dX5_number_15 : decode cX5_number 15 = .ok (.aload_n 0, 1) := by decide +kernel
theorem dX5_number_16 : decode cX5_number 16 = .ok (.getfield 105, 3) := by decide +kernel
theorem dX5_number_19 : decode cX5_number 19 = .ok (.bipush 8, 2) := by decide +kernel
theorem dX5_number_21 : decode cX5_number 21 = .ok (.if_icmp .ne 7, 3) := by decide +kernel
theorem dX5_number_24 : decode cX5_number 24 = .ok (.iconst 2, 1) := by decide +kernel
theorem dX5_number_25 : decode cX5_number 25 = .ok (.goto 4, 3) := by decide +kernel
theorem dX5_number_28 : decode cX5_number 28 = .ok (.iconst 0, 1) := by decide +kernel
theorem dX5_number_29 : decode cX5_number 29 = .ok (.putfield 85, 3) := by decide +kernel
theorem dX5_number_32 : decode cX5_number 32 = .ok (.aload_n 0, 1) := by decide +kernel
theorem dX5_number_33 : decode cX5_number 33 = .ok (.getfield 85, 3) := by decide +kernel
theorem dX5_number_36 : decode cX5_number 36 = .ok (.ifCond .le 7, 3) := by decide +kernel
theorem dX5_number_39 : decode cX5_number 39 = .ok (.iconst 0, 1) := by decide +kernel
theorem dX5_number_40 : decode cX5_number 40 = .ok (.goto 10, 3) := by decide +kernel
theorem dX5_number_43 : decode cX5_number 43 = .ok (.aload_n 0, 1) := by decide +kernel
theorem dX5_number_44 : decode cX5_number 44 = .ok (.iconst 5, 1) := by decide +kernel
theorem dX5_number_45 : decode cX5_number 45 = .ok (.iload_n 1, 1) := by decide +kernel
theorem dX5_number_46 : decode cX5_number 46 = .ok (.iconst 1, 1) := by decide +kernel
theorem dX5_number_47 : decode cX5_number 47 = .ok (.invokevirtual 112, 3) := by decide +kernel
theorem dX5_number_50 : decode cX5_number 50 = .ok (.ireturn, 1) := by decide +kernel
theorem dX5_term_0 : decode cX5_term 0 = .ok (.aload_n 0, 1) := by decide +kernel
theorem dX5_term_1 : decode cX5_term 1 = .ok (.aload_n 0, 1) := by decide +kernel
theorem dX5_term_2 : decode cX5_term 2 = .ok (.iload_n 1, 1) := by decide +kernel
theorem dX5_term_3 : decode cX5_term 3 = .ok (.invokevirtual 116, 3) := by decide +kernel
theorem dX5_term_6 : decode cX5_term 6 = .ok (.ifCond .ne 7, 3) := by decide +kernel
theorem dX5_term_9 : decode cX5_term 9 = .ok (.iconst 1, 1) := by decide +kernel
theorem dX5_term_10 : decode cX5_term 10 = .ok (.goto 4, 3) := by decide +kernel
theorem dX5_term_13 : decode cX5_term 13 = .ok (.iconst 0, 1) := by decide +kernel
theorem dX5_term_14 : decode cX5_term 14 = .ok (.putfield 85, 3) := by decide +kernel
theorem dX5_term_17 : decode cX5_term 17 = .ok (.aload_n 0, 1) := by decide +kernel
theorem dX5_term_18 : decode cX5_term 18 = .ok (.getfield 85, 3) := by decide +kernel
theorem dX5_term_21 : decode cX5_term 21 = .ok (.ifCond .le 5, 3) := by decide +kernel
theorem dX5_term_24 : decode cX5_term 24 = .ok (.iconst 0, 1) := by decide +kernel
theorem dX5_term_25 : decode cX5_term 25 = .ok (.ireturn, 1) := by decide +kernel
theorem dX5_term_26 : decode cX5_term 26 = .ok (.aload_n 0, 1) := by decide +kernel
theorem dX5_term_27 : decode cX5_term 27 = .ok (.aload_n 0, 1) := by decide +kernel
theorem dX5_term_28 : decode cX5_term 28 = .ok (.getfield 105, 3) := by decide +kernel
theorem dX5_term_31 : decode cX5_term 31 = .ok (.bipush 8, 2) := by decide +kernel
theorem dX5_term_33 : decode cX5_term 33 = .ok (.if_icmp .eq 14, 3) := by decide +kernel
theorem dX5_term_36 : decode cX5_term 36 = .ok (.aload_n 0, 1) := by decide +kernel
theorem dX5_term_37 : decode cX5_term 37 = .ok (.getfield 25, 3) := by decide +kernel
theorem dX5_term_40 : decode cX5_term 40 = .ok (.iload_n 1, 1) := by decide +kernel
theorem dX5_term_41 : decode cX5_term 41 = .ok (.iaload, 1) := by decide +kernel
theorem dX5_term_42 : decode cX5_term 42 = .ok (.bipush 6, 2) := by decide +kernel
theorem dX5_term_44 : decode cX5_term 44 = .ok (.if_icmp .ne 7, 3) := by decide +kernel
theorem dX5_term_47 : decode cX5_term 47 = .ok (.iconst 2, 1) := by decide +kernel
theorem dX5_term_48 : decode cX5_term 48 = .ok (.goto 4, 3) := by decide +kernel
theorem dX5_term_51 : decode cX5_term 51 = .ok (.iconst 0, 1) := by decide +kernel
theorem dX5_term_52 : decode cX5_term 52 = .ok (.putfield 85, 3) := by decide +kernel
theorem dX5_term_55 : decode cX5_term 55 = .ok (.aload_n 0, 1) := by decide +kernel
theorem dX5_term_56 : decode cX5_term 56 = .ok (.getfield 85, 3) := by decide +kernel
theorem dX5_term_59 : decode cX5_term 59 = .ok (.ifCond .le 7, 3) := by decide +kernel
theorem dX5_term_62 : decode cX5_term 62 = .ok (.iconst 0, 1) := by decide +kernel
theorem dX5_term_63 : decode cX5_term 63 = .ok (.goto 18, 3) := by decide +kernel
theorem dX5_term_66 : decode cX5_term 66 = .ok (.aload_n 0, 1) := by decide +kernel
theorem dX5_term_67 : decode cX5_term 67 = .ok (.bipush 6, 2) := by decide +kernel
theorem dX5_term_69 : decode cX5_term 69 = .ok (.iload_n 1, 1) := by decide +kernel
theorem dX5_term_70 : decode cX5_term 70 = .ok (.aload_n 0, 1) := by decide +kernel
theorem dX5_term_71 : decode cX5_term 71 = .ok (.getfield 25, 3) := by decide +kernel
theorem dX5_term_74 : decode cX5_term 74 = .ok (.iload_n 1, 1) := by decide +kernel
theorem dX5_term_75 : decode cX5_term 75 = .ok (.iaload, 1) := by decide +kernel
theorem dX5_term_76 : decode cX5_term 76 = .ok (.iconst 1, 1) := by decide +kernel
theorem dX5_term_77 : decode cX5_term 77 = .ok (.iadd, 1) := by decide +kernel
theorem dX5_term_78 : decode cX5_term 78 = .ok (.invokevirtual 112, 3) := by decide +kernel
theorem dX5_term_81 : decode cX5_term 81 = .ok (.ireturn, 1) := by decide +kernel
theorem dX5_join_0 : decode cX5_join 0 = .ok (.aload_n 0, 1) := by decide +kernel
theorem dX5_join_1 : decode cX5_join 1 = .ok (.iload_n 1, 1) := by decide +kernel
theorem dX5_join_2 : decode cX5_join 2 = .ok (.iconst 0, 1) := by decide +kernel
theorem dX5_join_3 : decode cX5_join 3 = .ok (.iconst 3, 1) := by decide +kernel
theorem dX5_join_4 : decode cX5_join 4 = .ok (.invokestatic 89, 3) := by decide +kernel
theorem dX5_join_7 : decode cX5_join 7 = .ok (.ifCond .eq 7, 3) := by decide +kernel
theorem dX5_join_10 : decode cX5_join 10 = .ok (.iconst 0, 1) := by decide +kernel
theorem dX5_join_11 : decode cX5_join 11 = .ok (.goto 4, 3) := by decide +kernel
theorem dX5_join_14 : decode cX5_join 14 = .ok (.iconst 1, 1) := by decide +kernel
theorem dX5_join_15 : decode cX5_join 15 = .ok (.putfield 85, 3) := by decide +kernel
theorem dX5_join_18 : decode cX5_join 18 = .ok (.aload_n 0, 1) := by decide +kernel
theorem dX5_join_19 : decode cX5_join 19 = .ok (.getfield 85, 3) := by decide +kernel
theorem dX5_join_22 : decode cX5_join 22 = .ok (.ifCond .le 5, 3) := by decide +kernel
theorem dX5_join_25 : decode cX5_join 25 = .ok (.iconst 0, 1) := by decide +kernel
theorem dX5_join_26 : decode cX5_join 26 = .ok (.ireturn, 1) := by decide +kernel
theorem dX5_join_27 : decode cX5_join 27 = .ok (.aload_n 0, 1) := by decide +kernel
theorem dX5_join_28 : decode cX5_join 28 = .ok (.aload_n 0, 1) := by decide +kernel
theorem dX5_join_29 : decode cX5_join 29 = .ok (.getfield 105, 3) := by decide +kernel
theorem dX5_join_32 : decode cX5_join 32 = .ok (.iconst 2, 1) := by decide +kernel
theorem dX5_join_33 : decode cX5_join 33 = .ok (.if_icmp .ge 7, 3) := by decide +kernel
theorem dX5_join_36 : decode cX5_join 36 = .ok (.iconst 2, 1) := by decide +kernel
theorem dX5_join_37 : decode cX5_join 37 = .ok (.goto 4, 3) := by decide +kernel
theorem dX5_join_40 : decode cX5_join 40 = .ok (.iconst 0, 1) := by decide +kernel
theorem dX5_join_41 : decode cX5_join 41 = .ok (.putfield 85, 3) := by decide +kernel
theorem dX5_join_44 : decode cX5_join 44 = .ok (.aload_n 0, 1) := by decide +kernel
theorem dX5_join_45 : decode cX5_join 45 = .ok (.getfield 85, 3) := by decide +kernel
theorem dX5_join_48 : decode cX5_join 48 = .ok (.ifCond .le 5, 3) := by decide +kernel
theorem dX5_join_51 : decode cX5_join 51 = .ok (.iconst 0, 1) := by decide +kernel
theorem dX5_join_52 : decode cX5_join 52 = .ok (.ireturn, 1) := by decide +kernel
theorem dX5_join_53 : decode cX5_join 53 = .ok (.aload_n 0, 1) := by decide +kernel
theorem dX5_join_54 : decode cX5_join 54 = .ok (.getfield 105, 3) := by decide +kernel
theorem dX5_join_57 : decode cX5_join 57 = .ok (.iconst 2, 1) := by decide +kernel
theorem dX5_join_58 : decode cX5_join 58 = .ok (.isub, 1) := by decide +kernel
theorem dX5_join_59 : decode cX5_join 59 = .ok (.istore_n 2, 1) := by decide +kernel
theorem dX5_join_60 : decode cX5_join 60 = .ok (.aload_n 0, 1) := by decide +kernel
theorem dX5_join_61 : decode cX5_join 61 = .ok (.getfield 105, 3) := by decide +kernel
theorem dX5_join_64 : decode cX5_join 64 = .ok (.iconst 1, 1) := by decide +kernel
theorem dX5_join_65 : decode cX5_join 65 = .ok (.isub, 1) := by decide +kernel
theorem dX5_join_66 : decode cX5_join 66 = .ok (.istore_n 3, 1) := by decide +kernel
theorem dX5_join_67 : decode cX5_join 67 = .ok (.aload_n 0, 1) := by decide +kernel
theorem dX5_join_68 : decode cX5_join 68 = .ok (.aload_n 0, 1) := by decide +kernel
theorem dX5_join_69 : decode cX5_join 69 = .ok (.getfield 16, 3) := by decide +kernel
theorem dX5_join_72 : decode cX5_join 72 = .ok (.iload_n 2, 1) := by decide +kernel
theorem dX5_join_73 : decode cX5_join 73 = .ok (.iaload, 1) := by decide +kernel
theorem dX5_join_74 : decode cX5_join 74 = .ok (.bipush 6, 2) := by decide +kernel
theorem dX5_join_76 : decode cX5_join 76 = .ok (.if_icmp .eq 14, 3) := by decide +kernel
theorem dX5_join_79 : decode cX5_join 79 = .ok (.aload_n 0, 1) := by decide +kernel
theorem dX5_join_80 : decode cX5_join 80 = .ok (.getfield 16, 3) := by decide +kernel
theorem dX5_join_83 : decode cX5_join 83 = .ok (.iload_n 3, 1) := by decide +kernel
theorem dX5_join_84 : decode cX5_join 84 = .ok (.iaload, 1) := by decide +kernel
theorem dX5_join_85 : decode cX5_join 85 = .ok (.bipush 6, 2) := by decide +kernel
theorem dX5_join_87 : decode cX5_join 87 = .ok (.if_icmp .ne 7, 3) := by decide +kernel
theorem dX5_join_90 : decode cX5_join 90 = .ok (.iconst 2, 1) := by decide +kernel
theorem dX5_join_91 : decode cX5_join 91 = .ok (.goto 4, 3) := by decide +kernel
theorem dX5_join_94 : decode cX5_join 94 = .ok (.iconst 0, 1) := by decide +kernel
theorem dX5_join_95 : decode cX5_join 95 = .ok (.putfield 85, 3) := by decide +kernel
theorem dX5_join_98 : decode cX5_join 98 = .ok (.aload_n 0, 1) := by decide +kernel
theorem dX5_join_99 : decode cX5_join 99 = .ok (.getfield 85, 3) := by decide +kernel
theorem dX5_join_102 : decode cX5_join 102 = .ok (.ifCond .le 5, 3) := by decide +kernel
theorem dX5_join_105 : decode cX5_join 105 = .ok (.iconst 0, 1) := by decide +kernel
theorem dX5_join_106 : decode cX5_join 106 = .ok (.ireturn, 1) := by decide +kernel
theorem dX5_join_107 : decode cX5_join 107 = .ok (.iconst 0, 1) := by decide +kernel
theorem dX5_join_108 : decode cX5_join 108 = .ok (.istore 4, 2) := by decide +kernel
theorem dX5_join_110 : decode cX5_join 110 = .ok (.iload 4, 2) := by decide +kernel
theorem dX5_join_112 : decode cX5_join 112 = .ok (.aload_n 0, 1) := by decide +kernel
theorem dX5_join_113 : decode cX5_join 113 = .ok (.getfield 13, 3) := by decide +kernel
theorem dX5_join_116 : decode cX5_join 116 = .ok (.iload_n 3, 1) := by decide +kernel
theorem dX5_join_117 : decode cX5_join 117 = .ok (.iaload, 1) := by decide +kernel
theorem dX5_join_118 : decode cX5_join 118 = .ok (.if_icmp .ge 38, 3) := by decide +kernel
theorem dX5_join_121 : decode cX5_join 121 = .ok (.aload_n 0, 1) := by decide +kernel
theorem dX5_join_122 : decode cX5_join 122 = .ok (.iload_n 2, 1) := by decide +kernel
theorem dX5_join_123 : decode cX5_join 123 = .ok (.aload_n 0, 1) := by decide +kernel
theorem dX5_join_124 : decode cX5_join 124 = .ok (.getfield 19, 3) := by decide +kernel
theorem dX5_join_127 : decode cX5_join 127 = .ok (.bipush 64, 2) := by decide +kernel
theorem dX5_join_129 : decode cX5_join 129 = .ok (.iload_n 3, 1) := by decide +kernel
theorem dX5_join_130 : decode cX5_join 130 = .ok (.imul, 1) := by decide +kernel
theorem dX5_join_131 : decode cX5_join 131 = .ok (.iload 4, 2) := by decide +kernel
theorem dX5_join_133 : decode cX5_join 133 = .ok (.iadd, 1) := by decide +kernel
theorem dX5_join_134 : decode cX5_join 134 = .ok (.iaload, 1) := by decide +kernel
theorem dX5_join_135 : decode cX5_join 135 = .ok (.aload_n 0, 1) := by decide +kernel
theorem dX5_join_136 : decode cX5_join 136 = .ok (.getfield 22, 3) := by decide +kernel
theorem dX5_join_139 : decode cX5_join 139 = .ok (.bipush 64, 2) := by decide +kernel
theorem dX5_join_141 : decode cX5_join 141 = .ok (.iload_n 3, 1) := by decide +kernel
theorem dX5_join_142 : decode cX5_join 142 = .ok (.imul, 1) := by decide +kernel
theorem dX5_join_143 : decode cX5_join 143 = .ok (.iload 4, 2) := by decide +kernel
theorem dX5_join_145 : decode cX5_join 145 = .ok (.iadd, 1) := by decide +kernel
theorem dX5_join_146 : decode cX5_join 146 = .ok (.iaload, 1) := by decide +kernel
theorem dX5_join_147 : decode cX5_join 147 = .ok (.invokevirtual 108, 3) := by decide +kernel
theorem dX5_join_150 : decode cX5_join 150 = .ok (.iinc 4 1, 3) := by decide +kernel
theorem dX5_join_153 : decode cX5_join 153 = .ok (.goto (-43), 3) := by decide +kernel
theorem dX5_join_156 : decode cX5_join 156 = .ok (.aload_n 0, 1) := by decide +kernel
theorem dX5_join_157 : decode cX5_join 157 = .ok (.iload_n 2, 1) := by decide +kernel
theorem dX5_join_158 : decode cX5_join 158 = .ok (.iload_n 1, 1) := by decide +kernel
theorem dX5_join_159 : decode cX5_join 159 = .ok (.iconst 0, 1) := by decide +kernel
theorem dX5_join_160 : decode cX5_join 160 = .ok (.invokevirtual 108, 3) := by decide +kernel
theorem dX5_join_163 : decode cX5_join 163 = .ok (.aload_n 0, 1) := by decide +kernel
theorem dX5_join_164 : decode cX5_join 164 = .ok (.getfield 16, 3) := by decide +kernel
theorem dX5_join_167 : decode cX5_join 167 = .ok (.iload_n 2, 1) := by decide +kernel
theorem dX5_join_168 : decode cX5_join 168 = .ok (.iconst 1, 1) := by decide +kernel
theorem dX5_join_169 : decode cX5_join 169 = .ok (.aload_n 0, 1) := by decide +kernel
theorem dX5_join_170 : decode cX5_join 170 = .ok (.getfield 16, 3) := by decide +kernel
theorem dX5_join_173 : decode cX5_join 173 = .ok (.iload_n 2, 1) := by decide +kernel
theorem dX5_join_174 : decode cX5_join 174 = .ok (.iaload, 1) := by decide +kernel
theorem dX5_join_175 : decode cX5_join 175 = .ok (.aload_n 0, 1) := by decide +kernel
theorem dX5_join_176 : decode cX5_join 176 = .ok (.getfield 16, 3) := by decide +kernel
theorem dX5_join_179 : decode cX5_join 179 = .ok (.iload_n 3, 1) := by decide +kernel
theorem dX5_join_180 : decode cX5_join 180 = .ok (.iaload, 1) := by decide +kernel
theorem dX5_join_181 : decode cX5_join 181 = .ok (.if_icmp .le 12, 3) := by decide +kernel
theorem dX5_join_184 : decode cX5_join 184 = .ok (.aload_n 0, 1) := by decide +kernel
theorem dX5_join_185 : decode cX5_join 185 = .ok (.getfield 16, 3) := by decide +kernel
theorem dX5_join_188 : decode cX5_join 188 = .ok (.iload_n 2, 1) := by decide +kernel
theorem dX5_join_189 : decode cX5_join 189 = .ok (.iaload, 1) := by decide +kernel
theorem dX5_join_190 : decode cX5_join 190 = .ok (.goto 9, 3) := by decide +kernel
theorem dX5_join_193 : decode cX5_join 193 = .ok (.aload_n 0, 1) := by decide +kernel
theorem dX5_join_194 : decode cX5_join 194 = .ok (.getfield 16, 3) := by decide +kernel
theorem dX5_join_197 : decode cX5_join 197 = .ok (.iload_n 3, 1) := by decide +kernel
theorem dX5_join_198 : decode cX5_join 198 = .ok (.iaload, 1) := by decide +kernel
theorem dX5_join_199 : decode cX5_join 199 = .ok (.iadd, 1) := by decide +kernel
theorem dX5_join_200 : decode cX5_join 200 = .ok (.iastore, 1) := by decide +kernel
theorem dX5_join_201 : decode cX5_join 201 = .ok (.aload_n 0, 1) := by decide +kernel
theorem dX5_join_202 : decode cX5_join 202 = .ok (.dup, 1) := by decide +kernel
theorem dX5_join_203 : decode cX5_join 203 = .ok (.getfield 105, 3) := by decide +kernel
theorem dX5_join_206 : decode cX5_join 206 = .ok (.iconst 1, 1) := by decide +kernel
theorem dX5_join_207 : decode cX5_join 207 = .ok (.isub, 1) := by decide +kernel
theorem dX5_join_208 : decode cX5_join 208 = .ok (.putfield 105, 3) := by decide +kernel
theorem dX5_join_211 : decode cX5_join 211 = .ok (.aload_n 0, 1) := by decide +kernel
theorem dX5_join_212 : decode cX5_join 212 = .ok (.getfield 105, 3) := by decide +kernel
theorem dX5_join_215 : decode cX5_join 215 = .ok (.ireturn, 1) := by decide +kernel
theorem dX5_grows_0 : decode cX5_grows 0 = .ok (.aload_n 0, 1) := by decide +kernel
theorem dX5_grows_1 : decode cX5_grows 1 = .ok (.aload_n 0, 1) := by decide +kernel
theorem dX5_grows_2 : decode cX5_grows 2 = .ok (.getfield 105, 3) := by decide +kernel
theorem dX5_grows_5 : decode cX5_grows 5 = .ok (.iconst 1, 1) := by decide +kernel
theorem dX5_grows_6 : decode cX5_grows 6 = .ok (.isub, 1) := by decide +kernel
theorem dX5_grows_7 : decode cX5_grows 7 = .ok (.iload_n 1, 1) := by decide +kernel
theorem dX5_grows_8 : decode cX5_grows 8 = .ok (.iload_n 2, 1) := by decide +kernel
theorem dX5_grows_9 : decode cX5_grows 9 = .ok (.invokevirtual 108, 3) := by decide +kernel
theorem dX5_grows_12 : decode cX5_grows 12 = .ok (.aload_n 0, 1) := by decide +kernel
theorem dX5_grows_13 : decode cX5_grows 13 = .ok (.getfield 16, 3) := by decide +kernel
theorem dX5_grows_16 : decode cX5_grows 16 = .ok (.aload_n 0, 1) := by decide +kernel
theorem dX5_grows_17 : decode cX5_grows 17 = .ok (.getfield 105, 3) := by decide +kernel
theorem dX5_grows_20 : decode cX5_grows 20 = .ok (.iconst 1, 1) := by decide +kernel
theorem dX5_grows_21 : decode cX5_grows 21 = .ok (.isub, 1) := by decide +kernel
theorem dX5_grows_22 : decode cX5_grows 22 = .ok (.dup2, 1) := by decide +kernel
theorem dX5_grows_23 : decode cX5_grows 23 = .ok (.iaload, 1) := by decide +kernel
theorem dX5_grows_24 : decode cX5_grows 24 = .ok (.iconst 1, 1) := by decide +kernel
theorem dX5_grows_25 : decode cX5_grows 25 = .ok (.iadd, 1) := by decide +kernel
theorem dX5_grows_26 : decode cX5_grows 26 = .ok (.iastore, 1) := by decide +kernel
theorem dX5_grows_27 : decode cX5_grows 27 = .ok (.aload_n 0, 1) := by decide +kernel
theorem dX5_grows_28 : decode cX5_grows 28 = .ok (.getfield 16, 3) := by decide +kernel
theorem dX5_grows_31 : decode cX5_grows 31 = .ok (.aload_n 0, 1) := by decide +kernel
theorem dX5_grows_32 : decode cX5_grows 32 = .ok (.getfield 105, 3) := by decide +kernel
theorem dX5_grows_35 : decode cX5_grows 35 = .ok (.iconst 1, 1) := by decide +kernel
theorem dX5_grows_36 : decode cX5_grows 36 = .ok (.isub, 1) := by decide +kernel
theorem dX5_grows_37 : decode cX5_grows 37 = .ok (.iaload, 1) := by decide +kernel
theorem dX5_grows_38 : decode cX5_grows 38 = .ok (.ireturn, 1) := by decide +kernel
theorem dX5_canGrow_0 : decode cX5_canGrow 0 = .ok (.aload_n 0, 1) := by decide +kernel
theorem dX5_canGrow_1 : decode cX5_canGrow 1 = .ok (.getfield 105, 3) := by decide +kernel
theorem dX5_canGrow_4 : decode cX5_canGrow 4 = .ok (.ifCond .le 23, 3) := by decide +kernel
theorem dX5_canGrow_7 : decode cX5_canGrow 7 = .ok (.aload_n 0, 1) := by decide +kernel
theorem dX5_canGrow_8 : decode cX5_canGrow 8 = .ok (.getfield 16, 3) := by decide +kernel
theorem dX5_canGrow_11 : decode cX5_canGrow 11 = .ok (.aload_n 0, 1) := by decide +kernel
theorem dX5_canGrow_12 : decode cX5_canGrow 12 = .ok (.getfield 105, 3) := by decide +kernel
theorem dX5_canGrow_15 : decode cX5_canGrow 15 = .ok (.iconst 1, 1) := by decide +kernel
theorem dX5_canGrow_16 : decode cX5_canGrow 16 = .ok (.isub, 1) := by decide +kernel
theorem dX5_canGrow_17 : decode cX5_canGrow 17 = .ok (.iaload, 1) := by decide +kernel
theorem dX5_canGrow_18 : decode cX5_canGrow 18 = .ok (.bipush 6, 2) := by decide +kernel
theorem dX5_canGrow_20 : decode cX5_canGrow 20 = .ok (.if_icmp .ge 7, 3) := by decide +kernel
theorem dX5_canGrow_23 : decode cX5_canGrow 23 = .ok (.iconst 1, 1) := by decide +kernel
theorem dX5_canGrow_24 : decode cX5_canGrow 24 = .ok (.goto 4, 3) := by decide +kernel
theorem dX5_canGrow_27 : decode cX5_canGrow 27 = .ok (.iconst 0, 1) := by decide +kernel
theorem dX5_canGrow_28 : decode cX5_canGrow 28 = .ok (.ireturn, 1) := by decide +kernel
theorem dX5_share_0 : decode cX5_share 0 = .ok (.aload_n 0, 1) := by decide +kernel
theorem dX5_share_1 : decode cX5_share 1 = .ok (.iload_n 1, 1) := by decide +kernel
theorem dX5_share_2 : decode cX5_share 2 = .ok (.iconst 0, 1) := by decide +kernel
theorem dX5_share_3 : decode cX5_share 3 = .ok (.bipush 100, 2) := by decide +kernel
theorem dX5_share_5 : decode cX5_share 5 = .ok (.invokestatic 89, 3) := by decide +kernel
theorem dX5_share_8 : decode cX5_share 8 = .ok (.ifCond .ne 7, 3) := by decide +kernel
theorem dX5_share_11 : decode cX5_share 11 = .ok (.iconst 1, 1) := by decide +kernel
theorem dX5_share_12 : decode cX5_share 12 = .ok (.goto 15, 3) := by decide +kernel
theorem dX5_share_15 : decode cX5_share 15 = .ok (.aload_n 0, 1) := by decide +kernel
theorem dX5_share_16 : decode cX5_share 16 = .ok (.invokevirtual 119, 3) := by decide +kernel
theorem dX5_share_19 : decode cX5_share 19 = .ok (.ifCond .eq 7, 3) := by decide +kernel
theorem dX5_share_22 : decode cX5_share 22 = .ok (.iconst 0, 1) := by decide +kernel
theorem dX5_share_23 : decode cX5_share 23 = .ok (.goto 4, 3) := by decide +kernel
theorem dX5_share_26 : decode cX5_share 26 = .ok (.iconst 2, 1) := by decide +kernel
theorem dX5_share_27 : decode cX5_share 27 = .ok (.putfield 85, 3) := by decide +kernel
theorem dX5_share_30 : decode cX5_share 30 = .ok (.aload_n 0, 1) := by decide +kernel
theorem dX5_share_31 : decode cX5_share 31 = .ok (.getfield 85, 3) := by decide +kernel
theorem dX5_share_34 : decode cX5_share 34 = .ok (.ifCond .le 7, 3) := by decide +kernel
theorem dX5_share_37 : decode cX5_share 37 = .ok (.iconst 0, 1) := by decide +kernel
theorem dX5_share_38 : decode cX5_share 38 = .ok (.goto 10, 3) := by decide +kernel
theorem dX5_share_41 : decode cX5_share 41 = .ok (.aload_n 0, 1) := by decide +kernel
theorem dX5_share_42 : decode cX5_share 42 = .ok (.bipush 7, 2) := by decide +kernel
theorem dX5_share_44 : decode cX5_share 44 = .ok (.iload_n 1, 1) := by decide +kernel
theorem dX5_share_45 : decode cX5_share 45 = .ok (.invokevirtual 123, 3) := by decide +kernel
theorem dX5_share_48 : decode cX5_share 48 = .ok (.ireturn, 1) := by decide +kernel
theorem dX5_year_0 : decode cX5_year 0 = .ok (.aload_n 0, 1) := by decide +kernel
theorem dX5_year_1 : decode cX5_year 1 = .ok (.aload_n 0, 1) := by decide +kernel
theorem dX5_year_2 : decode cX5_year 2 = .ok (.invokevirtual 119, 3) := by decide +kernel
theorem dX5_year_5 : decode cX5_year 5 = .ok (.ifCond .eq 7, 3) := by decide +kernel
theorem dX5_year_8 : decode cX5_year 8 = .ok (.iconst 0, 1) := by decide +kernel
theorem dX5_year_9 : decode cX5_year 9 = .ok (.goto 4, 3) := by decide +kernel
theorem dX5_year_12 : decode cX5_year 12 = .ok (.iconst 1, 1) := by decide +kernel
theorem dX5_year_13 : decode cX5_year 13 = .ok (.putfield 85, 3) := by decide +kernel
theorem dX5_year_16 : decode cX5_year 16 = .ok (.aload_n 0, 1) := by decide +kernel
theorem dX5_year_17 : decode cX5_year 17 = .ok (.getfield 85, 3) := by decide +kernel
theorem dX5_year_20 : decode cX5_year 20 = .ok (.ifCond .le 7, 3) := by decide +kernel
theorem dX5_year_23 : decode cX5_year 23 = .ok (.iconst 0, 1) := by decide +kernel
theorem dX5_year_24 : decode cX5_year 24 = .ok (.goto 10, 3) := by decide +kernel
theorem dX5_year_27 : decode cX5_year 27 = .ok (.aload_n 0, 1) := by decide +kernel
theorem dX5_year_28 : decode cX5_year 28 = .ok (.bipush 8, 2) := by decide +kernel
theorem dX5_year_30 : decode cX5_year 30 = .ok (.iconst 0, 1) := by decide +kernel
theorem dX5_year_31 : decode cX5_year 31 = .ok (.invokevirtual 123, 3) := by decide +kernel
theorem dX5_year_34 : decode cX5_year 34 = .ok (.ireturn, 1) := by decide +kernel
theorem dX5_clear_0 : decode cX5_clear 0 = .ok (.aload_n 0, 1) := by decide +kernel
theorem dX5_clear_1 : decode cX5_clear 1 = .ok (.iconst 0, 1) := by decide +kernel
theorem dX5_clear_2 : decode cX5_clear 2 = .ok (.putfield 85, 3) := by decide +kernel
theorem dX5_clear_5 : decode cX5_clear 5 = .ok (.aload_n 0, 1) := by decide +kernel
theorem dX5_clear_6 : decode cX5_clear 6 = .ok (.getfield 105, 3) := by decide +kernel
theorem dX5_clear_9 : decode cX5_clear 9 = .ok (.istore_n 1, 1) := by decide +kernel
theorem dX5_clear_10 : decode cX5_clear 10 = .ok (.aload_n 0, 1) := by decide +kernel
theorem dX5_clear_11 : decode cX5_clear 11 = .ok (.iconst 0, 1) := by decide +kernel
theorem dX5_clear_12 : decode cX5_clear 12 = .ok (.putfield 105, 3) := by decide +kernel
theorem dX5_clear_15 : decode cX5_clear 15 = .ok (.iload_n 1, 1) := by decide +kernel
theorem dX5_clear_16 : decode cX5_clear 16 = .ok (.ireturn, 1) := by decide +kernel
theorem dX5_defines_0 : decode cX5_defines 0 = .ok (.bipush 20, 2) := by decide +kernel
theorem dX5_defines_2 : decode cX5_defines 2 = .ok (.iload_n 1, 1) := by decide +kernel
theorem dX5_defines_3 : decode cX5_defines 3 = .ok (.imul, 1) := by decide +kernel
theorem dX5_defines_4 : decode cX5_defines 4 = .ok (.iload_n 2, 1) := by decide +kernel
theorem dX5_defines_5 : decode cX5_defines 5 = .ok (.iadd, 1) := by decide +kernel
theorem dX5_defines_6 : decode cX5_defines 6 = .ok (.istore_n 3, 1) := by decide +kernel
theorem dX5_defines_7 : decode cX5_defines 7 = .ok (.aload_n 0, 1) := by decide +kernel
theorem dX5_defines_8 : decode cX5_defines 8 = .ok (.dup, 1) := by decide +kernel
theorem dX5_defines_9 : decode cX5_defines 9 = .ok (.getfield 105, 3) := by decide +kernel
theorem dX5_defines_12 : decode cX5_defines 12 = .ok (.iconst 1, 1) := by decide +kernel
theorem dX5_defines_13 : decode cX5_defines 13 = .ok (.isub, 1) := by decide +kernel
theorem dX5_defines_14 : decode cX5_defines 14 = .ok (.putfield 105, 3) := by decide +kernel
theorem dX5_defines_17 : decode cX5_defines 17 = .ok (.aload_n 0, 1) := by decide +kernel
theorem dX5_defines_18 : decode cX5_defines 18 = .ok (.getfield 28, 3) := by decide +kernel
theorem dX5_defines_21 : decode cX5_defines 21 = .ok (.iload_n 3, 1) := by decide +kernel
theorem dX5_defines_22 : decode cX5_defines 22 = .ok (.aload_n 0, 1) := by decide +kernel
theorem dX5_defines_23 : decode cX5_defines 23 = .ok (.getfield 13, 3) := by decide +kernel
theorem dX5_defines_26 : decode cX5_defines 26 = .ok (.aload_n 0, 1) := by decide +kernel
theorem dX5_defines_27 : decode cX5_defines 27 = .ok (.getfield 105, 3) := by decide +kernel
theorem dX5_defines_30 : decode cX5_defines 30 = .ok (.iaload, 1) := by decide +kernel
theorem dX5_defines_31 : decode cX5_defines 31 = .ok (.iastore, 1) := by decide +kernel
theorem dX5_defines_32 : decode cX5_defines 32 = .ok (.iconst 0, 1) := by decide +kernel
theorem dX5_defines_33 : decode cX5_defines 33 = .ok (.istore 4, 2) := by decide +kernel
theorem dX5_defines_35 : decode cX5_defines 35 = .ok (.iload 4, 2) := by decide +kernel
theorem dX5_defines_37 : decode cX5_defines 37 = .ok (.aload_n 0, 1) := by decide +kernel
theorem dX5_defines_38 : decode cX5_defines 38 = .ok (.getfield 13, 3) := by decide +kernel
theorem dX5_defines_41 : decode cX5_defines 41 = .ok (.aload_n 0, 1) := by decide +kernel
theorem dX5_defines_42 : decode cX5_defines 42 = .ok (.getfield 105, 3) := by decide +kernel
theorem dX5_defines_45 : decode cX5_defines 45 = .ok (.iaload, 1) := by decide +kernel
theorem dX5_defines_46 : decode cX5_defines 46 = .ok (.if_icmp .ge 63, 3) := by decide +kernel
theorem dX5_defines_49 : decode cX5_defines 49 = .ok (.aload_n 0, 1) := by decide +kernel
theorem dX5_defines_50 : decode cX5_defines 50 = .ok (.getfield 31, 3) := by decide +kernel
theorem dX5_defines_53 : decode cX5_defines 53 = .ok (.bipush 64, 2) := by decide +kernel
theorem dX5_defines_55 : decode cX5_defines 55 = .ok (.iload_n 3, 1) := by decide +kernel
theorem dX5_defines_56 : decode cX5_defines 56 = .ok (.imul, 1) := by decide +kernel
theorem dX5_defines_57 : decode cX5_defines 57 = .ok (.iload 4, 2) := by decide +kernel
theorem dX5_defines_59 : decode cX5_defines 59 = .ok (.iadd, 1) := by decide +kernel
theorem dX5_defines_60 : decode cX5_defines 60 = .ok (.aload_n 0, 1) := by decide +kernel
theorem dX5_defines_61 : decode cX5_defines 61 = .ok (.getfield 19, 3) := by decide +kernel
theorem dX5_defines_64 : decode cX5_defines 64 = .ok (.bipush 64, 2) := by decide +kernel
theorem dX5_defines_66 : decode cX5_defines 66 = .ok (.aload_n 0, 1) := by decide +kernel
theorem dX5_defines_67 : decode cX5_defines 67 = .ok (.getfield 105, 3) := by decide +kernel
theorem dX5_defines_70 : decode cX5_defines 70 = .ok (.imul, 1) := by decide +kernel
theorem dX5_defines_71 : decode cX5_defines 71 = .ok (.iload 4, 2) := by decide +kernel
theorem dX5_defines_73 : decode cX5_defines 73 = .ok (.iadd, 1) := by decide +kernel
theorem dX5_defines_74 : decode cX5_defines 74 = .ok (.iaload, 1) := by decide +kernel
theorem dX5_defines_75 : decode cX5_defines 75 = .ok (.iastore, 1) := by decide +kernel
theorem dX5_defines_76 : decode cX5_defines 76 = .ok (.aload_n 0, 1) := by decide +kernel
theorem dX5_defines_77 : decode cX5_defines 77 = .ok (.getfield 34, 3) := by decide +kernel
theorem dX5_defines_80 : decode cX5_defines 80 = .ok (.bipush 64, 2) := by decide +kernel
theorem dX5_defines_82 : decode cX5_defines 82 = .ok (.iload_n 3, 1) := by decide +kernel
theorem dX5_defines_83 : decode cX5_defines 83 = .ok (.imul, 1) := by decide +kernel
theorem dX5_defines_84 : decode cX5_defines 84 = .ok (.iload 4, 2) := by decide +kernel
theorem dX5_defines_86 : decode cX5_defines 86 = .ok (.iadd, 1) := by decide +kernel
theorem dX5_defines_87 : decode cX5_defines 87 = .ok (.aload_n 0, 1) := by decide +kernel
theorem dX5_defines_88 : decode cX5_defines 88 = .ok (.getfield 22, 3) := by decide +kernel
theorem dX5_defines_91 : decode cX5_defines 91 = .ok (.bipush 64, 2) := by decide +kernel
theorem dX5_defines_93 : decode cX5_defines 93 = .ok (.aload_n 0, 1) := by decide +kernel
theorem dX5_defines_94 : decode cX5_defines 94 = .ok (.getfield 105, 3) := by decide +kernel
theorem dX5_defines_97 : decode cX5_defines 97 = .ok (.imul, 1) := by decide +kernel
theorem dX5_defines_98 : decode cX5_defines 98 = .ok (.iload 4, 2) := by decide +kernel
theorem dX5_defines_100 : decode cX5_defines 100 = .ok (.iadd, 1) := by decide +kernel
theorem dX5_defines_101 : decode cX5_defines 101 = .ok (.iaload, 1) := by decide +kernel
theorem dX5_defines_102 : decode cX5_defines 102 = .ok (.iastore, 1) := by decide +kernel
theorem dX5_defines_103 : decode cX5_defines 103 = .ok (.iinc 4 1, 3) := by decide +kernel
theorem dX5_defines_106 : decode cX5_defines 106 = .ok (.goto (-71), 3) := by decide +kernel
theorem dX5_defines_109 : decode cX5_defines 109 = .ok (.return_, 1) := by decide +kernel
theorem dX5_define_0 : decode cX5_define 0 = .ok (.aload_n 0, 1) := by decide +kernel
theorem dX5_define_1 : decode cX5_define 1 = .ok (.aload_n 0, 1) := by decide +kernel
theorem dX5_define_2 : decode cX5_define 2 = .ok (.getfield 105, 3) := by decide +kernel
theorem dX5_define_5 : decode cX5_define 5 = .ok (.ifCond .eq 12, 3) := by decide +kernel
theorem dX5_define_8 : decode cX5_define 8 = .ok (.aload_n 0, 1) := by decide +kernel
theorem dX5_define_9 : decode cX5_define 9 = .ok (.getfield 93, 3) := by decide +kernel
theorem dX5_define_12 : decode cX5_define 12 = .ok (.bipush 10, 2) := by decide +kernel
theorem dX5_define_14 : decode cX5_define 14 = .ok (.if_icmp .ne 7, 3) := by decide +kernel
theorem dX5_define_17 : decode cX5_define 17 = .ok (.iconst 1, 1) := by decide +kernel
theorem dX5_define_18 : decode cX5_define 18 = .ok (.goto 4, 3) := by decide +kernel
theorem dX5_define_21 : decode cX5_define 21 = .ok (.iconst 0, 1) := by decide +kernel
theorem dX5_define_22 : decode cX5_define 22 = .ok (.putfield 85, 3) := by decide +kernel
theorem dX5_define_25 : decode cX5_define 25 = .ok (.aload_n 0, 1) := by decide +kernel
theorem dX5_define_26 : decode cX5_define 26 = .ok (.getfield 85, 3) := by decide +kernel
theorem dX5_define_29 : decode cX5_define 29 = .ok (.ifCond .le 5, 3) := by decide +kernel
theorem dX5_define_32 : decode cX5_define 32 = .ok (.iconst 0, 1) := by decide +kernel
theorem dX5_define_33 : decode cX5_define 33 = .ok (.ireturn, 1) := by decide +kernel
theorem dX5_define_34 : decode cX5_define 34 = .ok (.aload_n 0, 1) := by decide +kernel
theorem dX5_define_35 : decode cX5_define 35 = .ok (.getfield 25, 3) := by decide +kernel
theorem dX5_define_38 : decode cX5_define 38 = .ok (.aload_n 0, 1) := by decide +kernel
theorem dX5_define_39 : decode cX5_define 39 = .ok (.getfield 93, 3) := by decide +kernel
theorem dX5_define_42 : decode cX5_define 42 = .ok (.aload_n 0, 1) := by decide +kernel
theorem dX5_define_43 : decode cX5_define 43 = .ok (.getfield 16, 3) := by decide +kernel
theorem dX5_define_46 : decode cX5_define 46 = .ok (.aload_n 0, 1) := by decide +kernel
theorem dX5_define_47 : decode cX5_define 47 = .ok (.getfield 105, 3) := by decide +kernel
theorem dX5_define_50 : decode cX5_define 50 = .ok (.iconst 1, 1) := by decide +kernel
theorem dX5_define_51 : decode cX5_define 51 = .ok (.isub, 1) := by decide +kernel
theorem dX5_define_52 : decode cX5_define 52 = .ok (.iaload, 1) := by decide +kernel
theorem dX5_define_53 : decode cX5_define 53 = .ok (.iastore, 1) := by decide +kernel
theorem dX5_define_54 : decode cX5_define 54 = .ok (.aload_n 0, 1) := by decide +kernel
theorem dX5_define_55 : decode cX5_define 55 = .ok (.dup, 1) := by decide +kernel
theorem dX5_define_56 : decode cX5_define 56 = .ok (.getfield 93, 3) := by decide +kernel
theorem dX5_define_59 : decode cX5_define 59 = .ok (.iconst 1, 1) := by decide +kernel
theorem dX5_define_60 : decode cX5_define 60 = .ok (.iadd, 1) := by decide +kernel
theorem dX5_define_61 : decode cX5_define 61 = .ok (.putfield 93, 3) := by decide +kernel
theorem dX5_define_64 : decode cX5_define 64 = .ok (.aload_n 0, 1) := by decide +kernel
theorem dX5_define_65 : decode cX5_define 65 = .ok (.aload_n 0, 1) := by decide +kernel
theorem dX5_define_66 : decode cX5_define 66 = .ok (.getfield 93, 3) := by decide +kernel
theorem dX5_define_69 : decode cX5_define 69 = .ok (.iconst 1, 1) := by decide +kernel
theorem dX5_define_70 : decode cX5_define 70 = .ok (.isub, 1) := by decide +kernel
theorem dX5_define_71 : decode cX5_define 71 = .ok (.iconst 0, 1) := by decide +kernel
theorem dX5_define_72 : decode cX5_define 72 = .ok (.invokevirtual 127, 3) := by decide +kernel
theorem dX5_define_75 : decode cX5_define 75 = .ok (.aload_n 0, 1) := by decide +kernel
theorem dX5_define_76 : decode cX5_define 76 = .ok (.getfield 93, 3) := by decide +kernel
theorem dX5_define_79 : decode cX5_define 79 = .ok (.iconst 1, 1) := by decide +kernel
theorem dX5_define_80 : decode cX5_define 80 = .ok (.isub, 1) := by decide +kernel
theorem dX5_define_81 : decode cX5_define 81 = .ok (.ireturn, 1) := by decide +kernel
theorem dX5_greatestNamed_0 : decode cX5_greatestNamed 0 = .ok (.iconst (-1), 1) := by decide +kernel
theorem dX5_greatestNamed_1 : decode cX5_greatestNamed 1 = .ok (.istore_n 1, 1) := by decide +kernel
theorem dX5_greatestNamed_2 : decode cX5_greatestNamed 2 = .ok (.iconst 0, 1) := by decide +kernel
theorem dX5_greatestNamed_3 : decode cX5_greatestNamed 3 = .ok (.istore_n 2, 1) := by decide +kernel
theorem dX5_greatestNamed_4 : decode cX5_greatestNamed 4 = .ok (.iload_n 2, 1) := by decide +kernel
theorem dX5_greatestNamed_5 : decode cX5_greatestNamed 5 = .ok (.aload_n 0, 1) := by decide +kernel
theorem dX5_greatestNamed_6 : decode cX5_greatestNamed 6 = .ok (.getfield 13, 3) := by decide +kernel
theorem dX5_greatestNamed_9 : decode cX5_greatestNamed 9 = .ok (.aload_n 0, 1) := by decide +kernel
theorem dX5_greatestNamed_10 : decode cX5_greatestNamed 10 = .ok (.getfield 105, 3) := by decide +kernel
theorem dX5_greatestNamed_13 : decode cX5_greatestNamed 13 = .ok (.iconst 1, 1) := by decide +kernel
theorem dX5_greatestNamed_14 : decode cX5_greatestNamed 14 = .ok (.isub, 1) := by decide +kernel
theorem dX5_greatestNamed_15 : decode cX5_greatestNamed 15 = .ok (.iaload, 1) := by decide +kernel
theorem dX5_greatestNamed_16 : decode cX5_greatestNamed 16 = .ok (.if_icmp .ge 53, 3) := by decide +kernel
theorem dX5_greatestNamed_19 : decode cX5_greatestNamed 19 = .ok (.bipush 64, 2) := by decide +kernel
theorem dX5_greatestNamed_21 : decode cX5_greatestNamed 21 = .ok (.aload_n 0, 1) := by decide +kernel
theorem dX5_greatestNamed_22 : decode cX5_greatestNamed 22 = .ok (.getfield 105, 3) := by decide +kernel
theorem dX5_greatestNamed_25 : decode cX5_greatestNamed 25 = .ok (.iconst 1, 1) := by decide +kernel
theorem dX5_greatestNamed_26 : decode cX5_greatestNamed 26 = .ok (.isub, 1) := by decide +kernel
theorem dX5_greatestNamed_27 : decode cX5_greatestNamed 27 = .ok (.imul, 1) := by decide +kernel
theorem dX5_greatestNamed_28 : decode cX5_greatestNamed 28 = .ok (.iload_n 2, 1) := by decide +kernel
theorem dX5_greatestNamed_29 : decode cX5_greatestNamed 29 = .ok (.iadd, 1) := by decide +kernel
theorem dX5_greatestNamed_30 : decode cX5_greatestNamed 30 = .ok (.istore_n 3, 1) := by decide +kernel
theorem dX5_greatestNamed_31 : decode cX5_greatestNamed 31 = .ok (.aload_n 0, 1) := by decide +kernel
theorem dX5_greatestNamed_32 : decode cX5_greatestNamed 32 = .ok (.getfield 19, 3) := by decide +kernel
theorem dX5_greatestNamed_35 : decode cX5_greatestNamed 35 = .ok (.iload_n 3, 1) := by decide +kernel
theorem dX5_greatestNamed_36 : decode cX5_greatestNamed 36 = .ok (.iaload, 1) := by decide +kernel
theorem dX5_greatestNamed_37 : decode cX5_greatestNamed 37 = .ok (.bipush 6, 2) := by decide +kernel
theorem dX5_greatestNamed_39 : decode cX5_greatestNamed 39 = .ok (.if_icmp .ne 22, 3) := by decide +kernel
theorem dX5_greatestNamed_42 : decode cX5_greatestNamed 42 = .ok (.aload_n 0, 1) := by decide +kernel
theorem dX5_greatestNamed_43 : decode cX5_greatestNamed 43 = .ok (.getfield 22, 3) := by decide +kernel
theorem dX5_greatestNamed_46 : decode cX5_greatestNamed 46 = .ok (.iload_n 3, 1) := by decide +kernel
theorem dX5_greatestNamed_47 : decode cX5_greatestNamed 47 = .ok (.iaload, 1) := by decide +kernel
theorem dX5_greatestNamed_48 : decode cX5_greatestNamed 48 = .ok (.iload_n 1, 1) := by decide +kernel
theorem dX5_greatestNamed_49 : decode cX5_greatestNamed 49 = .ok (.if_icmp .le 12, 3) := by decide +kernel
theorem dX5_greatestNamed_52 : decode cX5_greatestNamed 52 = .ok (.aload_n 0, 1) := by decide +kernel
theorem dX5_greatestNamed_53 : decode cX5_greatestNamed 53 = .ok (.getfield 22, 3) := by decide +kernel
theorem dX5_greatestNamed_56 : decode cX5_greatestNamed 56 = .ok (.iload_n 3, 1) := by decide +kernel
theorem dX5_greatestNamed_57 : decode cX5_greatestNamed 57 = .ok (.iaload, 1) := by decide +kernel
theorem dX5_greatestNamed_58 : decode cX5_greatestNamed 58 = .ok (.goto 4, 3) := by decide +kernel
theorem dX5_greatestNamed_61 : decode cX5_greatestNamed 61 = .ok (.iload_n 1, 1) := by decide +kernel
theorem dX5_greatestNamed_62 : decode cX5_greatestNamed 62 = .ok (.istore_n 1, 1) := by decide +kernel
theorem dX5_greatestNamed_63 : decode cX5_greatestNamed 63 = .ok (.iinc 2 1, 3) := by decide +kernel
theorem dX5_greatestNamed_66 : decode cX5_greatestNamed 66 = .ok (.goto (-62), 3) := by decide +kernel
theorem dX5_greatestNamed_69 : decode cX5_greatestNamed 69 = .ok (.iload_n 1, 1) := by decide +kernel
theorem dX5_greatestNamed_70 : decode cX5_greatestNamed 70 = .ok (.ireturn, 1) := by decide +kernel
theorem dX5_amend_0 : decode cX5_amend 0 = .ok (.aload_n 0, 1) := by decide +kernel
theorem dX5_amend_1 : decode cX5_amend 1 = .ok (.aload_n 0, 1) := by decide +kernel
theorem dX5_amend_2 : decode cX5_amend 2 = .ok (.iload_n 1, 1) := by decide +kernel
theorem dX5_amend_3 : decode cX5_amend 3 = .ok (.invokevirtual 116, 3) := by decide +kernel
theorem dX5_amend_6 : decode cX5_amend 6 = .ok (.ifCond .eq 14, 3) := by decide +kernel
theorem dX5_amend_9 : decode cX5_amend 9 = .ok (.iload_n 2, 1) := by decide +kernel
theorem dX5_amend_10 : decode cX5_amend 10 = .ok (.invokestatic 100, 3) := by decide +kernel
theorem dX5_amend_13 : decode cX5_amend 13 = .ok (.ifCond .eq 7, 3) := by decide +kernel
theorem dX5_amend_16 : decode cX5_amend 16 = .ok (.iconst 0, 1) := by decide +kernel
theorem dX5_amend_17 : decode cX5_amend 17 = .ok (.goto 4, 3) := by decide +kernel
theorem dX5_amend_20 : decode cX5_amend 20 = .ok (.iconst 1, 1) := by decide +kernel
theorem dX5_amend_21 : decode cX5_amend 21 = .ok (.putfield 85, 3) := by decide +kernel
theorem dX5_amend_24 : decode cX5_amend 24 = .ok (.aload_n 0, 1) := by decide +kernel
theorem dX5_amend_25 : decode cX5_amend 25 = .ok (.getfield 85, 3) := by decide +kernel
theorem dX5_amend_28 : decode cX5_amend 28 = .ok (.ifCond .le 5, 3) := by decide +kernel
theorem dX5_amend_31 : decode cX5_amend 31 = .ok (.iconst 0, 1) := by decide +kernel
theorem dX5_amend_32 : decode cX5_amend 32 = .ok (.ireturn, 1) := by decide +kernel
theorem dX5_amend_33 : decode cX5_amend 33 = .ok (.aload_n 0, 1) := by decide +kernel
theorem dX5_amend_34 : decode cX5_amend 34 = .ok (.aload_n 0, 1) := by decide +kernel
theorem dX5_amend_35 : decode cX5_amend 35 = .ok (.getfield 105, 3) := by decide +kernel
theorem dX5_amend_38 : decode cX5_amend 38 = .ok (.ifCond .eq 31, 3) := by decide +kernel
theorem dX5_amend_41 : decode cX5_amend 41 = .ok (.aload_n 0, 1) := by decide +kernel
theorem dX5_amend_42 : decode cX5_amend 42 = .ok (.getfield 16, 3) := by decide +kernel
theorem dX5_amend_45 : decode cX5_amend 45 = .ok (.aload_n 0, 1) := by decide +kernel
theorem dX5_amend_46 : decode cX5_amend 46 = .ok (.getfield 105, 3) := by decide +kernel
theorem dX5_amend_49 : decode cX5_amend 49 = .ok (.iconst 1, 1) := by decide +kernel
theorem dX5_amend_50 : decode cX5_amend 50 = .ok (.isub, 1) := by decide +kernel
theorem dX5_amend_51 : decode cX5_amend 51 = .ok (.iaload, 1) := by decide +kernel
theorem dX5_amend_52 : decode cX5_amend 52 = .ok (.aload_n 0, 1) := by decide +kernel
theorem dX5_amend_53 : decode cX5_amend 53 = .ok (.getfield 25, 3) := by decide +kernel
theorem dX5_amend_56 : decode cX5_amend 56 = .ok (.iload_n 1, 1) := by decide +kernel
theorem dX5_amend_57 : decode cX5_amend 57 = .ok (.iaload, 1) := by decide +kernel
theorem dX5_amend_58 : decode cX5_amend 58 = .ok (.if_icmp .gt 11, 3) := by decide +kernel
theorem dX5_amend_61 : decode cX5_amend 61 = .ok (.aload_n 0, 1) := by decide +kernel
theorem dX5_amend_62 : decode cX5_amend 62 = .ok (.invokevirtual 131, 3) := by decide +kernel
theorem dX5_amend_65 : decode cX5_amend 65 = .ok (.iload_n 1, 1) := by decide +kernel
theorem dX5_amend_66 : decode cX5_amend 66 = .ok (.if_icmp .lt 7, 3) := by decide +kernel
theorem dX5_amend_69 : decode cX5_amend 69 = .ok (.iconst 2, 1) := by decide +kernel
theorem dX5_amend_70 : decode cX5_amend 70 = .ok (.goto 4, 3) := by decide +kernel
theorem dX5_amend_73 : decode cX5_amend 73 = .ok (.iconst 0, 1) := by decide +kernel
theorem dX5_amend_74 : decode cX5_amend 74 = .ok (.putfield 85, 3) := by decide +kernel
theorem dX5_amend_77 : decode cX5_amend 77 = .ok (.aload_n 0, 1) := by decide +kernel
theorem dX5_amend_78 : decode cX5_amend 78 = .ok (.getfield 85, 3) := by decide +kernel
theorem dX5_amend_81 : decode cX5_amend 81 = .ok (.ifCond .le 5, 3) := by decide +kernel
theorem dX5_amend_84 : decode cX5_amend 84 = .ok (.iconst 0, 1) := by decide +kernel
theorem dX5_amend_85 : decode cX5_amend 85 = .ok (.ireturn, 1) := by decide +kernel
theorem dX5_amend_86 : decode cX5_amend 86 = .ok (.aload_n 0, 1) := by decide +kernel
theorem dX5_amend_87 : decode cX5_amend 87 = .ok (.iload_n 1, 1) := by decide +kernel
theorem dX5_amend_88 : decode cX5_amend 88 = .ok (.iload_n 2, 1) := by decide +kernel
theorem dX5_amend_89 : decode cX5_amend 89 = .ok (.invokevirtual 127, 3) := by decide +kernel
theorem dX5_amend_92 : decode cX5_amend 92 = .ok (.iconst 0, 1) := by decide +kernel
theorem dX5_amend_93 : decode cX5_amend 93 = .ok (.istore_n 3, 1) := by decide +kernel
theorem dX5_amend_94 : decode cX5_amend 94 = .ok (.iconst 0, 1) := by decide +kernel
theorem dX5_amend_95 : decode cX5_amend 95 = .ok (.istore 4, 2) := by decide +kernel
theorem dX5_amend_97 : decode cX5_amend 97 = .ok (.iload 4, 2) := by decide +kernel
theorem dX5_amend_99 : decode cX5_amend 99 = .ok (.bipush 20, 2) := by decide +kernel
theorem dX5_amend_101 : decode cX5_amend 101 = .ok (.if_icmp .ge 32, 3) := by decide +kernel
theorem dX5_amend_104 : decode cX5_amend 104 = .ok (.iload_n 3, 1) := by decide +kernel
theorem dX5_amend_105 : decode cX5_amend 105 = .ok (.aload_n 0, 1) := by decide +kernel
theorem dX5_amend_106 : decode cX5_amend 106 = .ok (.getfield 28, 3) := by decide +kernel
theorem dX5_amend_109 : decode cX5_amend 109 = .ok (.bipush 20, 2) := by decide +kernel
theorem dX5_amend_111 : decode cX5_amend 111 = .ok (.iload_n 1, 1) := by decide +kernel
theorem dX5_amend_112 : decode cX5_amend 112 = .ok (.imul, 1) := by decide +kernel
theorem dX5_amend_113 : decode cX5_amend 113 = .ok (.iload 4, 2) := by decide +kernel
theorem dX5_amend_115 : decode cX5_amend 115 = .ok (.iadd, 1) := by decide +kernel
theorem dX5_amend_116 : decode cX5_amend 116 = .ok (.iaload, 1) := by decide +kernel
theorem dX5_amend_117 : decode cX5_amend 117 = .ok (.ifCond .le 7, 3) := by decide +kernel
theorem dX5_amend_120 : decode cX5_amend 120 = .ok (.iconst 1, 1) := by decide +kernel
theorem dX5_amend_121 : decode cX5_amend 121 = .ok (.goto 4, 3) := by decide +kernel
theorem dX5_amend_124 : decode cX5_amend 124 = .ok (.iconst 0, 1) := by decide +kernel
theorem dX5_amend_125 : decode cX5_amend 125 = .ok (.iadd, 1) := by decide +kernel
theorem dX5_amend_126 : decode cX5_amend 126 = .ok (.istore_n 3, 1) := by decide +kernel
theorem dX5_amend_127 : decode cX5_amend 127 = .ok (.iinc 4 1, 3) := by decide +kernel
theorem dX5_amend_130 : decode cX5_amend 130 = .ok (.goto (-33), 3) := by decide +kernel
theorem dX5_amend_133 : decode cX5_amend 133 = .ok (.iload_n 3, 1) := by decide +kernel
theorem dX5_amend_134 : decode cX5_amend 134 = .ok (.ireturn, 1) := by decide +kernel
theorem dX5_terms_0 : decode cX5_terms 0 = .ok (.aload_n 0, 1) := by decide +kernel
theorem dX5_terms_1 : decode cX5_terms 1 = .ok (.iconst 0, 1) := by decide +kernel
theorem dX5_terms_2 : decode cX5_terms 2 = .ok (.putfield 85, 3) := by decide +kernel
theorem dX5_terms_5 : decode cX5_terms 5 = .ok (.aload_n 0, 1) := by decide +kernel
theorem dX5_terms_6 : decode cX5_terms 6 = .ok (.getfield 93, 3) := by decide +kernel
theorem dX5_terms_9 : decode cX5_terms 9 = .ok (.ireturn, 1) := by decide +kernel
theorem dX5_level_0 : decode cX5_level 0 = .ok (.aload_n 0, 1) := by decide +kernel
theorem dX5_level_1 : decode cX5_level 1 = .ok (.aload_n 0, 1) := by decide +kernel
theorem dX5_level_2 : decode cX5_level 2 = .ok (.iload_n 1, 1) := by decide +kernel
theorem dX5_level_3 : decode cX5_level 3 = .ok (.invokevirtual 116, 3) := by decide +kernel
theorem dX5_level_6 : decode cX5_level 6 = .ok (.ifCond .eq 7, 3) := by decide +kernel
theorem dX5_level_9 : decode cX5_level 9 = .ok (.iconst 0, 1) := by decide +kernel
theorem dX5_level_10 : decode cX5_level 10 = .ok (.goto 4, 3) := by decide +kernel
theorem dX5_level_13 : decode cX5_level 13 = .ok (.iconst 1, 1) := by decide +kernel
theorem dX5_level_14 : decode cX5_level 14 = .ok (.putfield 85, 3) := by decide +kernel
theorem dX5_level_17 : decode cX5_level 17 = .ok (.aload_n 0, 1) := by decide +kernel
theorem dX5_level_18 : decode cX5_level 18 = .ok (.getfield 85, 3) := by decide +kernel
theorem dX5_level_21 : decode cX5_level 21 = .ok (.ifCond .le 7, 3) := by decide +kernel
theorem dX5_level_24 : decode cX5_level 24 = .ok (.iconst 0, 1) := by decide +kernel
theorem dX5_level_25 : decode cX5_level 25 = .ok (.goto 9, 3) := by decide +kernel
theorem dX5_level_28 : decode cX5_level 28 = .ok (.aload_n 0, 1) := by decide +kernel
theorem dX5_level_29 : decode cX5_level 29 = .ok (.getfield 25, 3) := by decide +kernel
theorem dX5_level_32 : decode cX5_level 32 = .ok (.iload_n 1, 1) := by decide +kernel
theorem dX5_level_33 : decode cX5_level 33 = .ok (.iaload, 1) := by decide +kernel
theorem dX5_level_34 : decode cX5_level 34 = .ok (.ireturn, 1) := by decide +kernel
theorem dX5_holding_0 : decode cX5_holding 0 = .ok (.bipush 20, 2) := by decide +kernel
theorem dX5_holding_2 : decode cX5_holding 2 = .ok (.iload_n 1, 1) := by decide +kernel
theorem dX5_holding_3 : decode cX5_holding 3 = .ok (.imul, 1) := by decide +kernel
theorem dX5_holding_4 : decode cX5_holding 4 = .ok (.iload_n 2, 1) := by decide +kernel
theorem dX5_holding_5 : decode cX5_holding 5 = .ok (.iadd, 1) := by decide +kernel
theorem dX5_holding_6 : decode cX5_holding 6 = .ok (.istore_n 3, 1) := by decide +kernel
theorem dX5_holding_7 : decode cX5_holding 7 = .ok (.aload_n 0, 1) := by decide +kernel
theorem dX5_holding_8 : decode cX5_holding 8 = .ok (.getfield 28, 3) := by decide +kernel
theorem dX5_holding_11 : decode cX5_holding 11 = .ok (.iload_n 3, 1) := by decide +kernel
theorem dX5_holding_12 : decode cX5_holding 12 = .ok (.iaload, 1) := by decide +kernel
theorem dX5_holding_13 : decode cX5_holding 13 = .ok (.ifCond .ne 9, 3) := by decide +kernel
theorem dX5_holding_16 : decode cX5_holding 16 = .ok (.iinc 3 (-1), 3) := by decide +kernel
theorem dX5_holding_19 : decode cX5_holding 19 = .ok (.goto (-12), 3) := by decide +kernel
theorem dX5_holding_22 : decode cX5_holding 22 = .ok (.iload_n 3, 1) := by decide +kernel
theorem dX5_holding_23 : decode cX5_holding 23 = .ok (.ireturn, 1) := by decide +kernel
theorem dX5_leaf_0 : decode cX5_leaf 0 = .ok (.iload_n 1, 1) := by decide +kernel
theorem dX5_leaf_1 : decode cX5_leaf 1 = .ok (.iconst 4, 1) := by decide +kernel
theorem dX5_leaf_2 : decode cX5_leaf 2 = .ok (.if_icmp .ne 18, 3) := by decide +kernel
theorem dX5_leaf_5 : decode cX5_leaf 5 = .ok (.aload_n 0, 1) := by decide +kernel
theorem dX5_leaf_6 : decode cX5_leaf 6 = .ok (.getfield 7, 3) := by decide +kernel
theorem dX5_leaf_9 : decode cX5_leaf 9 = .ok (.bipush 20, 2) := by decide +kernel
theorem dX5_leaf_11 : decode cX5_leaf 11 = .ok (.iload_n 2, 1) := by decide +kernel
theorem dX5_leaf_12 : decode cX5_leaf 12 = .ok (.imul, 1) := by decide +kernel
theorem dX5_leaf_13 : decode cX5_leaf 13 = .ok (.iload_n 3, 1) := by decide +kernel
theorem dX5_leaf_14 : decode cX5_leaf 14 = .ok (.iadd, 1) := by decide +kernel
theorem dX5_leaf_15 : decode cX5_leaf 15 = .ok (.iaload, 1) := by decide +kernel
theorem dX5_leaf_16 : decode cX5_leaf 16 = .ok (.i2l, 1) := by decide +kernel
theorem dX5_leaf_17 : decode cX5_leaf 17 = .ok (.goto 24, 3) := by decide +kernel
theorem dX5_leaf_20 : decode cX5_leaf 20 = .ok (.iload_n 1, 1) := by decide +kernel
theorem dX5_leaf_21 : decode cX5_leaf 21 = .ok (.iconst 5, 1) := by decide +kernel
theorem dX5_leaf_22 : decode cX5_leaf 22 = .ok (.if_icmp .ne 8, 3) := by decide +kernel
theorem dX5_leaf_25 : decode cX5_leaf 25 = .ok (.iload_n 2, 1) := by decide +kernel
theorem dX5_leaf_26 : decode cX5_leaf 26 = .ok (.i2l, 1) := by decide +kernel
theorem dX5_leaf_27 : decode cX5_leaf 27 = .ok (.goto 14, 3) := by decide +kernel
theorem dX5_leaf_30 : decode cX5_leaf 30 = .ok (.aload_n 0, 1) := by decide +kernel
theorem dX5_leaf_31 : decode cX5_leaf 31 = .ok (.getfield 37, 3) := by decide +kernel
theorem dX5_leaf_34 : decode cX5_leaf 34 = .ok (.bipush 20, 2) := by decide +kernel
theorem dX5_leaf_36 : decode cX5_leaf 36 = .ok (.iload_n 2, 1) := by decide +kernel
theorem dX5_leaf_37 : decode cX5_leaf 37 = .ok (.imul, 1) := by decide +kernel
theorem dX5_leaf_38 : decode cX5_leaf 38 = .ok (.iload_n 3, 1) := by decide +kernel
theorem dX5_leaf_39 : decode cX5_leaf 39 = .ok (.iadd, 1) := by decide +kernel
theorem dX5_leaf_40 : decode cX5_leaf 40 = .ok (.laload, 1) := by decide +kernel
theorem dX5_leaf_41 : decode cX5_leaf 41 = .ok (.lreturn, 1) := by decide +kernel
theorem dX5_joined_0 : decode cX5_joined 0 = .ok (.lload_n 1, 1) := by decide +kernel
theorem dX5_joined_1 : decode cX5_joined 1 = .ok (.lload_n 3, 1) := by decide +kernel
theorem dX5_joined_2 : decode cX5_joined 2 = .ok (.lcmp, 1) := by decide +kernel
theorem dX5_joined_3 : decode cX5_joined 3 = .ok (.ifCond .ge 7, 3) := by decide +kernel
theorem dX5_joined_6 : decode cX5_joined 6 = .ok (.lload_n 1, 1) := by decide +kernel
theorem dX5_joined_7 : decode cX5_joined 7 = .ok (.goto 4, 3) := by decide +kernel
theorem dX5_joined_10 : decode cX5_joined 10 = .ok (.lload_n 3, 1) := by decide +kernel
theorem dX5_joined_11 : decode cX5_joined 11 = .ok (.lstore 5, 2) := by decide +kernel
theorem dX5_joined_13 : decode cX5_joined 13 = .ok (.iload_n 0, 1) := by decide +kernel
theorem dX5_joined_14 : decode cX5_joined 14 = .ok (.ifCond .ne 9, 3) := by decide +kernel
theorem dX5_joined_17 : decode cX5_joined 17 = .ok (.lload_n 1, 1) := by decide +kernel
theorem dX5_joined_18 : decode cX5_joined 18 = .ok (.lload_n 3, 1) := by decide +kernel
theorem dX5_joined_19 : decode cX5_joined 19 = .ok (.ladd, 1) := by decide +kernel
theorem dX5_joined_20 : decode cX5_joined 20 = .ok (.goto 30, 3) := by decide +kernel
theorem dX5_joined_23 : decode cX5_joined 23 = .ok (.iload_n 0, 1) := by decide +kernel
theorem dX5_joined_24 : decode cX5_joined 24 = .ok (.iconst 1, 1) := by decide +kernel
theorem dX5_joined_25 : decode cX5_joined 25 = .ok (.if_icmp .ne 9, 3) := by decide +kernel
theorem dX5_joined_28 : decode cX5_joined 28 = .ok (.lload_n 1, 1) := by decide +kernel
theorem dX5_joined_29 : decode cX5_joined 29 = .ok (.lload_n 3, 1) := by decide +kernel
theorem dX5_joined_30 : decode cX5_joined 30 = .ok (.lsub, 1) := by decide +kernel
theorem dX5_joined_31 : decode cX5_joined 31 = .ok (.goto 19, 3) := by decide +kernel
theorem dX5_joined_34 : decode cX5_joined 34 = .ok (.iload_n 0, 1) := by decide +kernel
theorem dX5_joined_35 : decode cX5_joined 35 = .ok (.iconst 2, 1) := by decide +kernel
theorem dX5_joined_36 : decode cX5_joined 36 = .ok (.if_icmp .ne 8, 3) := by decide +kernel
theorem dX5_joined_39 : decode cX5_joined 39 = .ok (.lload 5, 2) := by decide +kernel
theorem dX5_joined_41 : decode cX5_joined 41 = .ok (.goto 9, 3) := by decide +kernel
theorem dX5_joined_44 : decode cX5_joined 44 = .ok (.lload_n 1, 1) := by decide +kernel
theorem dX5_joined_45 : decode cX5_joined 45 = .ok (.lload_n 3, 1) := by decide +kernel
theorem dX5_joined_46 : decode cX5_joined 46 = .ok (.ladd, 1) := by decide +kernel
theorem dX5_joined_47 : decode cX5_joined 47 = .ok (.lload 5, 2) := by decide +kernel
theorem dX5_joined_49 : decode cX5_joined 49 = .ok (.lsub, 1) := by decide +kernel
theorem dX5_joined_50 : decode cX5_joined 50 = .ok (.lreturn, 1) := by decide +kernel
theorem dX5_works_0 : decode cX5_works 0 = .ok (.iconst 0, 1) := by decide +kernel
theorem dX5_works_1 : decode cX5_works 1 = .ok (.istore_n 2, 1) := by decide +kernel
theorem dX5_works_2 : decode cX5_works 2 = .ok (.iconst 0, 1) := by decide +kernel
theorem dX5_works_3 : decode cX5_works 3 = .ok (.istore_n 3, 1) := by decide +kernel
theorem dX5_works_4 : decode cX5_works 4 = .ok (.iload_n 3, 1) := by decide +kernel
theorem dX5_works_5 : decode cX5_works 5 = .ok (.aload_n 0, 1) := by decide +kernel
theorem dX5_works_6 : decode cX5_works 6 = .ok (.getfield 28, 3) := by decide +kernel
theorem dX5_works_9 : decode cX5_works 9 = .ok (.iload_n 1, 1) := by decide +kernel
theorem dX5_works_10 : decode cX5_works 10 = .ok (.iaload, 1) := by decide +kernel
theorem dX5_works_11 : decode cX5_works 11 = .ok (.if_icmp .ge 255, 3) := by decide +kernel
theorem dX5_works_14 : decode cX5_works 14 = .ok (.aload_n 0, 1) := by decide +kernel
theorem dX5_works_15 : decode cX5_works 15 = .ok (.getfield 31, 3) := by decide +kernel
theorem dX5_works_18 : decode cX5_works 18 = .ok (.bipush 64, 2) := by decide +kernel
theorem dX5_works_20 : decode cX5_works 20 = .ok (.iload_n 1, 1) := by decide +kernel
theorem dX5_works_21 : decode cX5_works 21 = .ok (.imul, 1) := by decide +kernel
theorem dX5_works_22 : decode cX5_works 22 = .ok (.iload_n 3, 1) := by decide +kernel
theorem dX5_works_23 : decode cX5_works 23 = .ok (.iadd, 1) := by decide +kernel
theorem dX5_works_24 : decode cX5_works 24 = .ok (.iaload, 1) := by decide +kernel
theorem dX5_works_25 : decode cX5_works 25 = .ok (.istore 4, 2) := by decide +kernel
theorem dX5_works_27 : decode cX5_works 27 = .ok (.aload_n 0, 1) := by decide +kernel
theorem dX5_works_28 : decode cX5_works 28 = .ok (.getfield 34, 3) := by decide +kernel
theorem dX5_works_31 : decode cX5_works 31 = .ok (.bipush 64, 2) := by decide +kernel
theorem dX5_works_33 : decode cX5_works 33 = .ok (.iload_n 1, 1) := by decide +kernel
theorem dX5_works_34 : decode cX5_works 34 = .ok (.imul, 1) := by decide +kernel
theorem dX5_works_35 : decode cX5_works 35 = .ok (.iload_n 3, 1) := by decide +kernel
theorem dX5_works_36 : decode cX5_works 36 = .ok (.iadd, 1) := by decide +kernel
theorem dX5_works_37 : decode cX5_works 37 = .ok (.iaload, 1) := by decide +kernel
theorem dX5_works_38 : decode cX5_works 38 = .ok (.istore 5, 2) := by decide +kernel
theorem dX5_works_40 : decode cX5_works 40 = .ok (.iload_n 2, 1) := by decide +kernel
theorem dX5_works_41 : decode cX5_works 41 = .ok (.iload 4, 2) := by decide +kernel
theorem dX5_works_43 : decode cX5_works 43 = .ok (.iconst 4, 1) := by decide +kernel
theorem dX5_works_44 : decode cX5_works 44 = .ok (.bipush 6, 2) := by decide +kernel
theorem dX5_works_46 : decode cX5_works 46 = .ok (.invokestatic 89, 3) := by decide +kernel
theorem dX5_works_49 : decode cX5_works 49 = .ok (.ifCond .eq 7, 3) := by decide +kernel
theorem dX5_works_52 : decode cX5_works 52 = .ok (.iconst 1, 1) := by decide +kernel
theorem dX5_works_53 : decode cX5_works 53 = .ok (.goto 14, 3) := by decide +kernel
theorem dX5_works_56 : decode cX5_works 56 = .ok (.iload 4, 2) := by decide +kernel
theorem dX5_works_58 : decode cX5_works 58 = .ok (.iconst 4, 1) := by decide +kernel
theorem dX5_works_59 : decode cX5_works 59 = .ok (.if_icmp .ge 7, 3) := by decide +kernel
theorem dX5_works_62 : decode cX5_works 62 = .ok (.iconst (-1), 1) := by decide +kernel
theorem dX5_works_63 : decode cX5_works 63 = .ok (.goto 4, 3) := by decide +kernel
theorem dX5_works_66 : decode cX5_works 66 = .ok (.iconst 0, 1) := by decide +kernel
theorem dX5_works_67 : decode cX5_works 67 = .ok (.iadd, 1) := by decide +kernel
theorem dX5_works_68 : decode cX5_works 68 = .ok (.istore_n 2, 1) := by decide +kernel
theorem dX5_works_69 : decode cX5_works 69 = .ok (.bipush 20, 2) := by decide +kernel
theorem dX5_works_71 : decode cX5_works 71 = .ok (.iload_n 2, 1) := by decide +kernel
theorem dX5_works_72 : decode cX5_works 72 = .ok (.iconst 1, 1) := by decide +kernel
theorem dX5_works_73 : decode cX5_works 73 = .ok (.isub, 1) := by decide +kernel
theorem dX5_works_74 : decode cX5_works 74 = .ok (.imul, 1) := by decide +kernel
theorem dX5_works_75 : decode cX5_works 75 = .ok (.istore 6, 2) := by decide +kernel
theorem dX5_works_77 : decode cX5_works 77 = .ok (.bipush 19, 2) := by decide +kernel
theorem dX5_works_79 : decode cX5_works 79 = .ok (.istore 7, 2) := by decide +kernel
theorem dX5_works_81 : decode cX5_works 81 = .ok (.iload 7, 2) := by decide +kernel
theorem dX5_works_83 : decode cX5_works 83 = .ok (.ifCond .lt 177, 3) := by decide +kernel
theorem dX5_works_86 : decode cX5_works 86 = .ok (.iload 4, 2) := by decide +kernel
theorem dX5_works_88 : decode cX5_works 88 = .ok (.iconst 4, 1) := by decide +kernel
theorem dX5_works_89 : decode cX5_works 89 = .ok (.bipush 6, 2) := by decide +kernel
theorem dX5_works_91 : decode cX5_works 91 = .ok (.invokestatic 89, 3) := by decide +kernel
theorem dX5_works_94 : decode cX5_works 94 = .ok (.ifCond .eq 26, 3) := by decide +kernel
theorem dX5_works_97 : decode cX5_works 97 = .ok (.aload_n 0, 1) := by decide +kernel
theorem dX5_works_98 : decode cX5_works 98 = .ok (.getfield 41, 3) := by decide +kernel
theorem dX5_works_101 : decode cX5_works 101 = .ok (.iload 6, 2) := by decide +kernel
theorem dX5_works_103 : decode cX5_works 103 = .ok (.iload 7, 2) := by decide +kernel
theorem dX5_works_105 : decode cX5_works 105 = .ok (.iadd, 1) := by decide +kernel
theorem dX5_works_106 : decode cX5_works 106 = .ok (.aload_n 0, 1) := by decide +kernel
theorem dX5_works_107 : decode cX5_works 107 = .ok (.iload 4, 2) := by decide +kernel
theorem dX5_works_109 : decode cX5_works 109 = .ok (.iload 5, 2) := by decide +kernel
theorem dX5_works_111 : decode cX5_works 111 = .ok (.iload 7, 2) := by decide +kernel
theorem dX5_works_113 : decode cX5_works 113 = .ok (.invokevirtual 135, 3) := by decide +kernel
theorem dX5_works_116 : decode cX5_works 116 = .ok (.lastore, 1) := by decide +kernel
theorem dX5_works_117 : decode cX5_works 117 = .ok (.goto 137, 3) := by decide +kernel
theorem dX5_works_120 : decode cX5_works 120 = .ok (.iload 4, 2) := by decide +kernel
theorem dX5_works_122 : decode cX5_works 122 = .ok (.iconst 4, 1) := by decide +kernel
theorem dX5_works_123 : decode cX5_works 123 = .ok (.if_icmp .ge 44, 3) := by decide +kernel
theorem dX5_works_126 : decode cX5_works 126 = .ok (.aload_n 0, 1) := by decide +kernel
theorem dX5_works_127 : decode cX5_works 127 = .ok (.getfield 41, 3) := by decide +kernel
theorem dX5_works_130 : decode cX5_works 130 = .ok (.iload 6, 2) := by decide +kernel
theorem dX5_works_132 : decode cX5_works 132 = .ok (.iload 7, 2) := by decide +kernel
theorem dX5_works_134 : decode cX5_works 134 = .ok (.iadd, 1) := by decide +kernel
theorem dX5_works_135 : decode cX5_works 135 = .ok (.iload 4, 2) := by decide +kernel
theorem dX5_works_137 : decode cX5_works 137 = .ok (.aload_n 0, 1) := by decide +kernel
theorem dX5_works_138 : decode cX5_works 138 = .ok (.getfield 41, 3) := by decide +kernel
theorem dX5_works_141 : decode cX5_works 141 = .ok (.iload 6, 2) := by decide +kernel
theorem dX5_works_143 : decode cX5_works 143 = .ok (.iload 7, 2) := by decide +kernel
theorem dX5_works_145 : decode cX5_works 145 = .ok (.iadd, 1) := by decide +kernel
theorem dX5_works_146 : decode cX5_works 146 = .ok (.laload, 1) := by decide +kernel
theorem dX5_works_147 : decode cX5_works 147 = .ok (.aload_n 0, 1) := by decide +kernel
theorem dX5_works_148 : decode cX5_works 148 = .ok (.getfield 41, 3) := by decide +kernel
theorem dX5_works_151 : decode cX5_works 151 = .ok (.iload 6, 2) := by decide +kernel
theorem dX5_works_153 : decode cX5_works 153 = .ok (.bipush 20, 2) := by decide +kernel
theorem dX5_works_155 : decode cX5_works 155 = .ok (.iadd, 1) := by decide +kernel
theorem dX5_works_156 : decode cX5_works 156 = .ok (.iload 7, 2) := by decide +kernel
theorem dX5_works_158 : decode cX5_works 158 = .ok (.iadd, 1) := by decide +kernel
theorem dX5_works_159 : decode cX5_works 159 = .ok (.laload, 1) := by decide +kernel
theorem dX5_works_160 : decode cX5_works 160 = .ok (.invokestatic 139, 3) := by decide +kernel
theorem dX5_works_163 : decode cX5_works 163 = .ok (.lastore, 1) := by decide +kernel
theorem dX5_works_164 : decode cX5_works 164 = .ok (.goto 90, 3) := by decide +kernel
theorem dX5_works_167 : decode cX5_works 167 = .ok (.iload 4, 2) := by decide +kernel
theorem dX5_works_169 : decode cX5_works 169 = .ok (.bipush 7, 2) := by decide +kernel
theorem dX5_works_171 : decode cX5_works 171 = .ok (.if_icmp .ne 35, 3) := by decide +kernel
theorem dX5_works_174 : decode cX5_works 174 = .ok (.aload_n 0, 1) := by decide +kernel
theorem dX5_works_175 : decode cX5_works 175 = .ok (.getfield 41, 3) := by decide +kernel
theorem dX5_works_178 : decode cX5_works 178 = .ok (.iload 6, 2) := by decide +kernel
theorem dX5_works_180 : decode cX5_works 180 = .ok (.iload 7, 2) := by decide +kernel
theorem dX5_works_182 : decode cX5_works 182 = .ok (.iadd, 1) := by decide +kernel
theorem dX5_works_183 : decode cX5_works 183 = .ok (.aload_n 0, 1) := by decide +kernel
theorem dX5_works_184 : decode cX5_works 184 = .ok (.getfield 41, 3) := by decide +kernel
theorem dX5_works_187 : decode cX5_works 187 = .ok (.iload 6, 2) := by decide +kernel
theorem dX5_works_189 : decode cX5_works 189 = .ok (.iload 7, 2) := by decide +kernel
theorem dX5_works_191 : decode cX5_works 191 = .ok (.iadd, 1) := by decide +kernel
theorem dX5_works_192 : decode cX5_works 192 = .ok (.laload, 1) := by decide +kernel
theorem dX5_works_193 : decode cX5_works 193 = .ok (.iload 5, 2) := by decide +kernel
theorem dX5_works_195 : decode cX5_works 195 = .ok (.i2l, 1) := by decide +kernel
theorem dX5_works_196 : decode cX5_works 196 = .ok (.lmul, 1) := by decide +kernel
theorem dX5_works_197 : decode cX5_works 197 = .ok (.bipush 100, 2) := by decide +kernel
theorem dX5_works_199 : decode cX5_works 199 = .ok (.invokestatic 143, 3) := by decide +kernel
theorem dX5_works_202 : decode cX5_works 202 = .ok (.lastore, 1) := by decide +kernel
theorem dX5_works_203 : decode cX5_works 203 = .ok (.goto 51, 3) := by decide +kernel
theorem dX5_works_206 : decode cX5_works 206 = .ok (.iconst 1, 1) := by decide +kernel
theorem dX5_works_207 : decode cX5_works 207 = .ok (.istore 8, 2) := by decide +kernel
theorem dX5_works_209 : decode cX5_works 209 = .ok (.iload 8, 2) := by decide +kernel
theorem dX5_works_211 : decode cX5_works 211 = .ok (.iconst 4, 1) := by decide +kernel
theorem dX5_works_212 : decode cX5_works 212 = .ok (.if_icmp .ge 42, 3) := by decide +kernel
theorem dX5_works_215 : decode cX5_works 215 = .ok (.iload 8, 2) := by decide +kernel
theorem dX5_works_217 : decode cX5_works 217 = .ok (.iload 7, 2) := by decide +kernel
theorem dX5_works_219 : decode cX5_works 219 = .ok (.if_icmp .gt 35, 3) := by decide +kernel
theorem dX5_works_222 : decode cX5_works 222 = .ok (.aload_n 0, 1) := by decide +kernel
theorem dX5_works_223 : decode cX5_works 223 = .ok (.getfield 41, 3) := by decide +kernel
theorem dX5_works_226 : decode cX5_works 226 = .ok (.iload 6, 2) := by decide +kernel
theorem dX5_works_228 : decode cX5_works 228 = .ok (.iload 7, 2) := by decide +kernel
theorem dX5_works_230 : decode cX5_works 230 = .ok (.iadd, 1) := by decide +kernel
theorem dX5_works_231 : decode cX5_works 231 = .ok (.dup2, 1) := by decide +kernel
theorem dX5_works_232 : decode cX5_works 232 = .ok (.laload, 1) := by decide +kernel
theorem dX5_works_233 : decode cX5_works 233 = .ok (.aload_n 0, 1) := by decide +kernel
theorem dX5_works_234 : decode cX5_works 234 = .ok (.getfield 41, 3) := by decide +kernel
theorem dX5_works_237 : decode cX5_works 237 = .ok (.iload 6, 2) := by decide +kernel
theorem dX5_works_239 : decode cX5_works 239 = .ok (.iload 7, 2) := by decide +kernel
theorem dX5_works_241 : decode cX5_works 241 = .ok (.iadd, 1) := by decide +kernel
theorem dX5_works_242 : decode cX5_works 242 = .ok (.iload 8, 2) := by decide +kernel
theorem dX5_works_244 : decode cX5_works 244 = .ok (.isub, 1) := by decide +kernel
theorem dX5_works_245 : decode cX5_works 245 = .ok (.laload, 1) := by decide +kernel
theorem dX5_works_246 : decode cX5_works 246 = .ok (.ladd, 1) := by decide +kernel
theorem dX5_works_247 : decode cX5_works 247 = .ok (.lastore, 1) := by decide +kernel
theorem dX5_works_248 : decode cX5_works 248 = .ok (.iinc 8 1, 3) := by decide +kernel
theorem dX5_works_251 : decode cX5_works 251 = .ok (.goto (-42), 3) := by decide +kernel
theorem dX5_works_254 : decode cX5_works 254 = .ok (.iinc 7 (-1), 3) := by decide +kernel
theorem dX5_works_257 : decode cX5_works 257 = .ok (.goto (-176), 3) := by decide +kernel
theorem dX5_works_260 : decode cX5_works 260 = .ok (.iinc 3 1, 3) := by decide +kernel
theorem dX5_works_263 : decode cX5_works 263 = .ok (.goto (-259), 3) := by decide +kernel
theorem dX5_works_266 : decode cX5_works 266 = .ok (.return_, 1) := by decide +kernel
theorem dX5_tells_0 : decode cX5_tells 0 = .ok (.iconst 0, 1) := by decide +kernel
theorem dX5_tells_1 : decode cX5_tells 1 = .ok (.istore_n 1, 1) := by decide +kernel
theorem dX5_tells_2 : decode cX5_tells 2 = .ok (.iload_n 1, 1) := by decide +kernel
theorem dX5_tells_3 : decode cX5_tells 3 = .ok (.aload_n 0, 1) := by decide +kernel
theorem dX5_tells_4 : decode cX5_tells 4 = .ok (.getfield 93, 3) := by decide +kernel
theorem dX5_tells_7 : decode cX5_tells 7 = .ok (.if_icmp .ge 78, 3) := by decide +kernel
theorem dX5_tells_10 : decode cX5_tells 10 = .ok (.iconst 0, 1) := by decide +kernel
theorem dX5_tells_11 : decode cX5_tells 11 = .ok (.istore_n 2, 1) := by decide +kernel
theorem dX5_tells_12 : decode cX5_tells 12 = .ok (.iload_n 2, 1) := by decide +kernel
theorem dX5_tells_13 : decode cX5_tells 13 = .ok (.bipush 20, 2) := by decide +kernel
theorem dX5_tells_15 : decode cX5_tells 15 = .ok (.if_icmp .ge 64, 3) := by decide +kernel
theorem dX5_tells_18 : decode cX5_tells 18 = .ok (.aload_n 0, 1) := by decide +kernel
theorem dX5_tells_19 : decode cX5_tells 19 = .ok (.getfield 28, 3) := by decide +kernel
theorem dX5_tells_22 : decode cX5_tells 22 = .ok (.bipush 20, 2) := by decide +kernel
theorem dX5_tells_24 : decode cX5_tells 24 = .ok (.iload_n 1, 1) := by decide +kernel
theorem dX5_tells_25 : decode cX5_tells 25 = .ok (.imul, 1) := by decide +kernel
theorem dX5_tells_26 : decode cX5_tells 26 = .ok (.iload_n 2, 1) := by decide +kernel
theorem dX5_tells_27 : decode cX5_tells 27 = .ok (.iadd, 1) := by decide +kernel
theorem dX5_tells_28 : decode cX5_tells 28 = .ok (.iaload, 1) := by decide +kernel
theorem dX5_tells_29 : decode cX5_tells 29 = .ok (.ifCond .le 44, 3) := by decide +kernel
theorem dX5_tells_32 : decode cX5_tells 32 = .ok (.aload_n 0, 1) := by decide +kernel
theorem dX5_tells_33 : decode cX5_tells 33 = .ok (.bipush 20, 2) := by decide +kernel
theorem dX5_tells_35 : decode cX5_tells 35 = .ok (.iload_n 1, 1) := by decide +kernel
theorem dX5_tells_36 : decode cX5_tells 36 = .ok (.imul, 1) := by decide +kernel
theorem dX5_tells_37 : decode cX5_tells 37 = .ok (.iload_n 2, 1) := by decide +kernel
theorem dX5_tells_38 : decode cX5_tells 38 = .ok (.iadd, 1) := by decide +kernel
theorem dX5_tells_39 : decode cX5_tells 39 = .ok (.invokevirtual 147, 3) := by decide +kernel
theorem dX5_tells_42 : decode cX5_tells 42 = .ok (.iload_n 2, 1) := by decide +kernel
theorem dX5_tells_43 : decode cX5_tells 43 = .ok (.istore_n 3, 1) := by decide +kernel
theorem dX5_tells_44 : decode cX5_tells 44 = .ok (.iload_n 3, 1) := by decide +kernel
theorem dX5_tells_45 : decode cX5_tells 45 = .ok (.bipush 20, 2) := by decide +kernel
theorem dX5_tells_47 : decode cX5_tells 47 = .ok (.if_icmp .ge 26, 3) := by decide +kernel
theorem dX5_tells_50 : decode cX5_tells 50 = .ok (.aload_n 0, 1) := by decide +kernel
theorem dX5_tells_51 : decode cX5_tells 51 = .ok (.getfield 37, 3) := by decide +kernel
theorem dX5_tells_54 : decode cX5_tells 54 = .ok (.bipush 20, 2) := by decide +kernel
theorem dX5_tells_56 : decode cX5_tells 56 = .ok (.iload_n 1, 1) := by decide +kernel
theorem dX5_tells_57 : decode cX5_tells 57 = .ok (.imul, 1) := by decide +kernel
theorem dX5_tells_58 : decode cX5_tells 58 = .ok (.iload_n 3, 1) := by decide +kernel
theorem dX5_tells_59 : decode cX5_tells 59 = .ok (.iadd, 1) := by decide +kernel
theorem dX5_tells_60 : decode cX5_tells 60 = .ok (.aload_n 0, 1) := by decide +kernel
theorem dX5_tells_61 : decode cX5_tells 61 = .ok (.getfield 41, 3) := by decide +kernel
theorem dX5_tells_64 : decode cX5_tells 64 = .ok (.iload_n 3, 1) := by decide +kernel
theorem dX5_tells_65 : decode cX5_tells 65 = .ok (.laload, 1) := by decide +kernel
theorem dX5_tells_66 : decode cX5_tells 66 = .ok (.lastore, 1) := by decide +kernel
theorem dX5_tells_67 : decode cX5_tells 67 = .ok (.iinc 3 1, 3) := by decide +kernel
theorem dX5_tells_70 : decode cX5_tells 70 = .ok (.goto (-26), 3) := by decide +kernel
theorem dX5_tells_73 : decode cX5_tells 73 = .ok (.iinc 2 1, 3) := by decide +kernel
theorem dX5_tells_76 : decode cX5_tells 76 = .ok (.goto (-64), 3) := by decide +kernel
theorem dX5_tells_79 : decode cX5_tells 79 = .ok (.iinc 1 1, 3) := by decide +kernel
theorem dX5_tells_82 : decode cX5_tells 82 = .ok (.goto (-80), 3) := by decide +kernel
theorem dX5_tells_85 : decode cX5_tells 85 = .ok (.return_, 1) := by decide +kernel
theorem dX5_value_0 : decode cX5_value 0 = .ok (.aload_n 0, 1) := by decide +kernel
theorem dX5_value_1 : decode cX5_value 1 = .ok (.aload_n 0, 1) := by decide +kernel
theorem dX5_value_2 : decode cX5_value 2 = .ok (.iload_n 1, 1) := by decide +kernel
theorem dX5_value_3 : decode cX5_value 3 = .ok (.invokevirtual 116, 3) := by decide +kernel
theorem dX5_value_6 : decode cX5_value 6 = .ok (.ifCond .eq 14, 3) := by decide +kernel
theorem dX5_value_9 : decode cX5_value 9 = .ok (.iload_n 2, 1) := by decide +kernel
theorem dX5_value_10 : decode cX5_value 10 = .ok (.invokestatic 100, 3) := by decide +kernel
theorem dX5_value_13 : decode cX5_value 13 = .ok (.ifCond .eq 7, 3) := by decide +kernel
theorem dX5_value_16 : decode cX5_value 16 = .ok (.iconst 0, 1) := by decide +kernel
theorem dX5_value_17 : decode cX5_value 17 = .ok (.goto 4, 3) := by decide +kernel
theorem dX5_value_20 : decode cX5_value 20 = .ok (.iconst 1, 1) := by decide +kernel
theorem dX5_value_21 : decode cX5_value 21 = .ok (.putfield 85, 3) := by decide +kernel
theorem dX5_value_24 : decode cX5_value 24 = .ok (.aload_n 0, 1) := by decide +kernel
theorem dX5_value_25 : decode cX5_value 25 = .ok (.getfield 85, 3) := by decide +kernel
theorem dX5_value_28 : decode cX5_value 28 = .ok (.ifCond .le 5, 3) := by decide +kernel
theorem dX5_value_31 : decode cX5_value 31 = .ok (.lconst 0, 1) := by decide +kernel
theorem dX5_value_32 : decode cX5_value 32 = .ok (.lreturn, 1) := by decide +kernel
theorem dX5_value_33 : decode cX5_value 33 = .ok (.aload_n 0, 1) := by decide +kernel
theorem dX5_value_34 : decode cX5_value 34 = .ok (.invokevirtual 151, 3) := by decide +kernel
theorem dX5_value_37 : decode cX5_value 37 = .ok (.aload_n 0, 1) := by decide +kernel
theorem dX5_value_38 : decode cX5_value 38 = .ok (.getfield 37, 3) := by decide +kernel
theorem dX5_value_41 : decode cX5_value 41 = .ok (.bipush 20, 2) := by decide +kernel
theorem dX5_value_43 : decode cX5_value 43 = .ok (.iload_n 1, 1) := by decide +kernel
theorem dX5_value_44 : decode cX5_value 44 = .ok (.imul, 1) := by decide +kernel
theorem dX5_value_45 : decode cX5_value 45 = .ok (.iload_n 2, 1) := by decide +kernel
theorem dX5_value_46 : decode cX5_value 46 = .ok (.iadd, 1) := by decide +kernel
theorem dX5_value_47 : decode cX5_value 47 = .ok (.laload, 1) := by decide +kernel
theorem dX5_value_48 : decode cX5_value 48 = .ok (.lreturn, 1) := by decide +kernel
theorem dX5_inserts_0 : decode cX5_inserts 0 = .ok (.aload_n 0, 1) := by decide +kernel
theorem dX5_inserts_1 : decode cX5_inserts 1 = .ok (.getfield 154, 3) := by decide +kernel
theorem dX5_inserts_4 : decode cX5_inserts 4 = .ok (.istore_n 3, 1) := by decide +kernel
theorem dX5_inserts_5 : decode cX5_inserts 5 = .ok (.iload_n 3, 1) := by decide +kernel
theorem dX5_inserts_6 : decode cX5_inserts 6 = .ok (.iload_n 1, 1) := by decide +kernel
theorem dX5_inserts_7 : decode cX5_inserts 7 = .ok (.if_icmp .le 23, 3) := by decide +kernel
theorem dX5_inserts_10 : decode cX5_inserts 10 = .ok (.aload_n 0, 1) := by decide +kernel
theorem dX5_inserts_11 : decode cX5_inserts 11 = .ok (.getfield 44, 3) := by decide +kernel
theorem dX5_inserts_14 : decode cX5_inserts 14 = .ok (.iload_n 3, 1) := by decide +kernel
theorem dX5_inserts_15 : decode cX5_inserts 15 = .ok (.aload_n 0, 1) := by decide +kernel
theorem dX5_inserts_16 : decode cX5_inserts 16 = .ok (.getfield 44, 3) := by decide +kernel
theorem dX5_inserts_19 : decode cX5_inserts 19 = .ok (.iload_n 3, 1) := by decide +kernel
theorem dX5_inserts_20 : decode cX5_inserts 20 = .ok (.iconst 1, 1) := by decide +kernel
theorem dX5_inserts_21 : decode cX5_inserts 21 = .ok (.isub, 1) := by decide +kernel
theorem dX5_inserts_22 : decode cX5_inserts 22 = .ok (.caload, 1) := by decide +kernel
theorem dX5_inserts_23 : decode cX5_inserts 23 = .ok (.castore, 1) := by decide +kernel
theorem dX5_inserts_24 : decode cX5_inserts 24 = .ok (.iinc 3 (-1), 3) := by decide +kernel
theorem dX5_inserts_27 : decode cX5_inserts 27 = .ok (.goto (-22), 3) := by decide +kernel
theorem dX5_inserts_30 : decode cX5_inserts 30 = .ok (.aload_n 0, 1) := by decide +kernel
theorem dX5_inserts_31 : decode cX5_inserts 31 = .ok (.getfield 44, 3) := by decide +kernel
theorem dX5_inserts_34 : decode cX5_inserts 34 = .ok (.iload_n 1, 1) := by decide +kernel
theorem dX5_inserts_35 : decode cX5_inserts 35 = .ok (.iload_n 2, 1) := by decide +kernel
theorem dX5_inserts_36 : decode cX5_inserts 36 = .ok (.castore, 1) := by decide +kernel
theorem dX5_inserts_37 : decode cX5_inserts 37 = .ok (.aload_n 0, 1) := by decide +kernel
theorem dX5_inserts_38 : decode cX5_inserts 38 = .ok (.dup, 1) := by decide +kernel
theorem dX5_inserts_39 : decode cX5_inserts 39 = .ok (.getfield 154, 3) := by decide +kernel
theorem dX5_inserts_42 : decode cX5_inserts 42 = .ok (.iconst 1, 1) := by decide +kernel
theorem dX5_inserts_43 : decode cX5_inserts 43 = .ok (.iadd, 1) := by decide +kernel
theorem dX5_inserts_44 : decode cX5_inserts 44 = .ok (.putfield 154, 3) := by decide +kernel
theorem dX5_inserts_47 : decode cX5_inserts 47 = .ok (.return_, 1) := by decide +kernel
theorem dX5_insertsNumber_0 : decode cX5_insertsNumber 0 = .ok (.iload_n 1, 1) := by decide +kernel
theorem dX5_insertsNumber_1 : decode cX5_insertsNumber 1 = .ok (.istore_n 3, 1) := by decide +kernel
theorem dX5_insertsNumber_2 : decode cX5_insertsNumber 2 = .ok (.iload_n 2, 1) := by decide +kernel
theorem dX5_insertsNumber_3 : decode cX5_insertsNumber 3 = .ok (.istore 4, 2) := by decide +kernel
theorem dX5_insertsNumber_5 : decode cX5_insertsNumber 5 = .ok (.aload_n 0, 1) := by decide +kernel
theorem dX5_insertsNumber_6 : decode cX5_insertsNumber 6 = .ok (.iload_n 1, 1) := by decide +kernel
theorem dX5_insertsNumber_7 : decode cX5_insertsNumber 7 = .ok (.bipush 48, 2) := by decide +kernel
theorem dX5_insertsNumber_9 : decode cX5_insertsNumber 9 = .ok (.iload 4, 2) := by decide +kernel
theorem dX5_insertsNumber_11 : decode cX5_insertsNumber 11 = .ok (.bipush 10, 2) := by decide +kernel
theorem dX5_insertsNumber_13 : decode cX5_insertsNumber 13 = .ok (.irem, 1) := by decide +kernel
theorem dX5_insertsNumber_14 : decode cX5_insertsNumber 14 = .ok (.iadd, 1) := by decide +kernel
theorem dX5_insertsNumber_15 : decode cX5_insertsNumber 15 = .ok (.i2c, 1) := by decide +kernel
theorem dX5_insertsNumber_16 : decode cX5_insertsNumber 16 = .ok (.invokevirtual 157, 3) := by decide +kernel
theorem dX5_insertsNumber_19 : decode cX5_insertsNumber 19 = .ok (.iload 4, 2) := by decide +kernel
theorem dX5_insertsNumber_21 : decode cX5_insertsNumber 21 = .ok (.bipush 10, 2) := by decide +kernel
theorem dX5_insertsNumber_23 : decode cX5_insertsNumber 23 = .ok (.idiv, 1) := by decide +kernel
theorem dX5_insertsNumber_24 : decode cX5_insertsNumber 24 = .ok (.istore 4, 2) := by decide +kernel
theorem dX5_insertsNumber_26 : decode cX5_insertsNumber 26 = .ok (.iinc 3 1, 3) := by decide +kernel
theorem dX5_insertsNumber_29 : decode cX5_insertsNumber 29 = .ok (.iload 4, 2) := by decide +kernel
theorem dX5_insertsNumber_31 : decode cX5_insertsNumber 31 = .ok (.ifCond .gt (-26), 3) := by decide +kernel
theorem dX5_insertsNumber_34 : decode cX5_insertsNumber 34 = .ok (.iload_n 3, 1) := by decide +kernel
theorem dX5_insertsNumber_35 : decode cX5_insertsNumber 35 = .ok (.ireturn, 1) := by decide +kernel
theorem dX5_insertsWord_0 : decode cX5_insertsWord 0 = .ok (.iload_n 1, 1) := by decide +kernel
theorem dX5_insertsWord_1 : decode cX5_insertsWord 1 = .ok (.istore 7, 2) := by decide +kernel
theorem dX5_insertsWord_3 : decode cX5_insertsWord 3 = .ok (.aload_n 0, 1) := by decide +kernel
theorem dX5_insertsWord_4 : decode cX5_insertsWord 4 = .ok (.iload 7, 2) := by decide +kernel
theorem dX5_insertsWord_6 : decode cX5_insertsWord 6 = .ok (.iload_n 2, 1) := by decide +kernel
theorem dX5_insertsWord_7 : decode cX5_insertsWord 7 = .ok (.invokevirtual 157, 3) := by decide +kernel
theorem dX5_insertsWord_10 : decode cX5_insertsWord 10 = .ok (.iinc 7 1, 3) := by decide +kernel
theorem dX5_insertsWord_13 : decode cX5_insertsWord 13 = .ok (.aload_n 0, 1) := by decide +kernel
theorem dX5_insertsWord_14 : decode cX5_insertsWord 14 = .ok (.iload 7, 2) := by decide +kernel
theorem dX5_insertsWord_16 : decode cX5_insertsWord 16 = .ok (.iload_n 3, 1) := by decide +kernel
theorem dX5_insertsWord_17 : decode cX5_insertsWord 17 = .ok (.invokevirtual 157, 3) := by decide +kernel
theorem dX5_insertsWord_20 : decode cX5_insertsWord 20 = .ok (.iinc 7 1, 3) := by decide +kernel
theorem dX5_insertsWord_23 : decode cX5_insertsWord 23 = .ok (.aload_n 0, 1) := by decide +kernel
theorem dX5_insertsWord_24 : decode cX5_insertsWord 24 = .ok (.iload 7, 2) := by decide +kernel
theorem dX5_insertsWord_26 : decode cX5_insertsWord 26 = .ok (.iload 4, 2) := by decide +kernel
theorem dX5_insertsWord_28 : decode cX5_insertsWord 28 = .ok (.invokevirtual 157, 3) := by decide +kernel
theorem dX5_insertsWord_31 : decode cX5_insertsWord 31 = .ok (.iinc 7 1, 3) := by decide +kernel
theorem dX5_insertsWord_34 : decode cX5_insertsWord 34 = .ok (.aload_n 0, 1) := by decide +kernel
theorem dX5_insertsWord_35 : decode cX5_insertsWord 35 = .ok (.iload 7, 2) := by decide +kernel
theorem dX5_insertsWord_37 : decode cX5_insertsWord 37 = .ok (.iload 5, 2) := by decide +kernel
theorem dX5_insertsWord_39 : decode cX5_insertsWord 39 = .ok (.invokevirtual 157, 3) := by decide +kernel
theorem dX5_insertsWord_42 : decode cX5_insertsWord 42 = .ok (.iinc 7 1, 3) := by decide +kernel
theorem dX5_insertsWord_45 : decode cX5_insertsWord 45 = .ok (.aload_n 0, 1) := by decide +kernel
theorem dX5_insertsWord_46 : decode cX5_insertsWord 46 = .ok (.iload 7, 2) := by decide +kernel
theorem dX5_insertsWord_48 : decode cX5_insertsWord 48 = .ok (.iload 6, 2) := by decide +kernel
theorem dX5_insertsWord_50 : decode cX5_insertsWord 50 = .ok (.invokevirtual 157, 3) := by decide +kernel
theorem dX5_insertsWord_53 : decode cX5_insertsWord 53 = .ok (.iload 7, 2) := by decide +kernel
theorem dX5_insertsWord_55 : decode cX5_insertsWord 55 = .ok (.iconst 1, 1) := by decide +kernel
theorem dX5_insertsWord_56 : decode cX5_insertsWord 56 = .ok (.iadd, 1) := by decide +kernel
theorem dX5_insertsWord_57 : decode cX5_insertsWord 57 = .ok (.ireturn, 1) := by decide +kernel
theorem dX5_joinsText_0 : decode cX5_joinsText 0 = .ok (.aload_n 0, 1) := by decide +kernel
theorem dX5_joinsText_1 : decode cX5_joinsText 1 = .ok (.aload_n 0, 1) := by decide +kernel
theorem dX5_joinsText_2 : decode cX5_joinsText 2 = .ok (.getfield 154, 3) := by decide +kernel
theorem dX5_joinsText_5 : decode cX5_joinsText 5 = .ok (.bipush 41, 2) := by decide +kernel
theorem dX5_joinsText_7 : decode cX5_joinsText 7 = .ok (.invokevirtual 157, 3) := by decide +kernel
theorem dX5_joinsText_10 : decode cX5_joinsText 10 = .ok (.iload_n 1, 1) := by decide +kernel
theorem dX5_joinsText_11 : decode cX5_joinsText 11 = .ok (.iconst 2, 1) := by decide +kernel
theorem dX5_joinsText_12 : decode cX5_joinsText 12 = .ok (.if_icmp .ge 43, 3) := by decide +kernel
theorem dX5_joinsText_15 : decode cX5_joinsText 15 = .ok (.aload_n 0, 1) := by decide +kernel
theorem dX5_joinsText_16 : decode cX5_joinsText 16 = .ok (.iload_n 3, 1) := by decide +kernel
theorem dX5_joinsText_17 : decode cX5_joinsText 17 = .ok (.bipush 32, 2) := by decide +kernel
theorem dX5_joinsText_19 : decode cX5_joinsText 19 = .ok (.invokevirtual 157, 3) := by decide +kernel
theorem dX5_joinsText_22 : decode cX5_joinsText 22 = .ok (.aload_n 0, 1) := by decide +kernel
theorem dX5_joinsText_23 : decode cX5_joinsText 23 = .ok (.iload_n 3, 1) := by decide +kernel
theorem dX5_joinsText_24 : decode cX5_joinsText 24 = .ok (.iload_n 1, 1) := by decide +kernel
theorem dX5_joinsText_25 : decode cX5_joinsText 25 = .ok (.ifCond .ne 8, 3) := by decide +kernel
theorem dX5_joinsText_28 : decode cX5_joinsText 28 = .ok (.bipush 43, 2) := by decide +kernel
theorem dX5_joinsText_30 : decode cX5_joinsText 30 = .ok (.goto 5, 3) := by decide +kernel
theorem dX5_joinsText_33 : decode cX5_joinsText 33 = .ok (.bipush 45, 2) := by decide +kernel
theorem dX5_joinsText_35 : decode cX5_joinsText 35 = .ok (.invokevirtual 157, 3) := by decide +kernel
theorem dX5_joinsText_38 : decode cX5_joinsText 38 = .ok (.aload_n 0, 1) := by decide +kernel
theorem dX5_joinsText_39 : decode cX5_joinsText 39 = .ok (.iload_n 3, 1) := by decide +kernel
theorem dX5_joinsText_40 : decode cX5_joinsText 40 = .ok (.bipush 32, 2) := by decide +kernel
theorem dX5_joinsText_42 : decode cX5_joinsText 42 = .ok (.invokevirtual 157, 3) := by decide +kernel
theorem dX5_joinsText_45 : decode cX5_joinsText 45 = .ok (.aload_n 0, 1) := by decide +kernel
theorem dX5_joinsText_46 : decode cX5_joinsText 46 = .ok (.iload_n 2, 1) := by decide +kernel
theorem dX5_joinsText_47 : decode cX5_joinsText 47 = .ok (.bipush 40, 2) := by decide +kernel
theorem dX5_joinsText_49 : decode cX5_joinsText 49 = .ok (.invokevirtual 157, 3) := by decide +kernel
theorem dX5_joinsText_52 : decode cX5_joinsText 52 = .ok (.goto 65, 3) := by decide +kernel
theorem dX5_joinsText_55 : decode cX5_joinsText 55 = .ok (.aload_n 0, 1) := by decide +kernel
theorem dX5_joinsText_56 : decode cX5_joinsText 56 = .ok (.iload_n 3, 1) := by decide +kernel
theorem dX5_joinsText_57 : decode cX5_joinsText 57 = .ok (.bipush 32, 2) := by decide +kernel
theorem dX5_joinsText_59 : decode cX5_joinsText 59 = .ok (.invokevirtual 157, 3) := by decide +kernel
theorem dX5_joinsText_62 : decode cX5_joinsText 62 = .ok (.aload_n 0, 1) := by decide +kernel
theorem dX5_joinsText_63 : decode cX5_joinsText 63 = .ok (.iload_n 3, 1) := by decide +kernel
theorem dX5_joinsText_64 : decode cX5_joinsText 64 = .ok (.bipush 44, 2) := by decide +kernel
theorem dX5_joinsText_66 : decode cX5_joinsText 66 = .ok (.invokevirtual 157, 3) := by decide +kernel
theorem dX5_joinsText_69 : decode cX5_joinsText 69 = .ok (.aload_n 0, 1) := by decide +kernel
theorem dX5_joinsText_70 : decode cX5_joinsText 70 = .ok (.iload_n 2, 1) := by decide +kernel
theorem dX5_joinsText_71 : decode cX5_joinsText 71 = .ok (.bipush 40, 2) := by decide +kernel
theorem dX5_joinsText_73 : decode cX5_joinsText 73 = .ok (.invokevirtual 157, 3) := by decide +kernel
theorem dX5_joinsText_76 : decode cX5_joinsText 76 = .ok (.aload_n 0, 1) := by decide +kernel
theorem dX5_joinsText_77 : decode cX5_joinsText 77 = .ok (.iload_n 2, 1) := by decide +kernel
theorem dX5_joinsText_78 : decode cX5_joinsText 78 = .ok (.iload_n 1, 1) := by decide +kernel
theorem dX5_joinsText_79 : decode cX5_joinsText 79 = .ok (.iconst 2, 1) := by decide +kernel
theorem dX5_joinsText_80 : decode cX5_joinsText 80 = .ok (.if_icmp .ne 8, 3) := by decide +kernel
theorem dX5_joinsText_83 : decode cX5_joinsText 83 = .ok (.bipush 110, 2) := by decide +kernel
theorem dX5_joinsText_85 : decode cX5_joinsText 85 = .ok (.goto 5, 3) := by decide +kernel
theorem dX5_joinsText_88 : decode cX5_joinsText 88 = .ok (.bipush 120, 2) := by decide +kernel
theorem dX5_joinsText_90 : decode cX5_joinsText 90 = .ok (.invokevirtual 157, 3) := by decide +kernel
theorem dX5_joinsText_93 : decode cX5_joinsText 93 = .ok (.aload_n 0, 1) := by decide +kernel
theorem dX5_joinsText_94 : decode cX5_joinsText 94 = .ok (.iload_n 2, 1) := by decide +kernel
theorem dX5_joinsText_95 : decode cX5_joinsText 95 = .ok (.iload_n 1, 1) := by decide +kernel
theorem dX5_joinsText_96 : decode cX5_joinsText 96 = .ok (.iconst 2, 1) := by decide +kernel
theorem dX5_joinsText_97 : decode cX5_joinsText 97 = .ok (.if_icmp .ne 8, 3) := by decide +kernel
theorem dX5_joinsText_100 : decode cX5_joinsText 100 = .ok (.bipush 105, 2) := by decide +kernel
theorem dX5_joinsText_102 : decode cX5_joinsText 102 = .ok (.goto 5, 3) := by decide +kernel
theorem dX5_joinsText_105 : decode cX5_joinsText 105 = .ok (.bipush 97, 2) := by decide +kernel
theorem dX5_joinsText_107 : decode cX5_joinsText 107 = .ok (.invokevirtual 157, 3) := by decide +kernel
theorem dX5_joinsText_110 : decode cX5_joinsText 110 = .ok (.aload_n 0, 1) := by decide +kernel
theorem dX5_joinsText_111 : decode cX5_joinsText 111 = .ok (.iload_n 2, 1) := by decide +kernel
theorem dX5_joinsText_112 : decode cX5_joinsText 112 = .ok (.bipush 109, 2) := by decide +kernel
theorem dX5_joinsText_114 : decode cX5_joinsText 114 = .ok (.invokevirtual 157, 3) := by decide +kernel
theorem dX5_joinsText_117 : decode cX5_joinsText 117 = .ok (.return_, 1) := by decide +kernel
theorem dX5_writes_0 : decode cX5_writes 0 = .ok (.iconst 0, 1) := by decide +kernel
theorem dX5_writes_1 : decode cX5_writes 1 = .ok (.istore_n 2, 1) := by decide +kernel
theorem dX5_writes_2 : decode cX5_writes 2 = .ok (.aload_n 0, 1) := by decide +kernel
theorem dX5_writes_3 : decode cX5_writes 3 = .ok (.iconst 0, 1) := by decide +kernel
theorem dX5_writes_4 : decode cX5_writes 4 = .ok (.putfield 154, 3) := by decide +kernel
theorem dX5_writes_7 : decode cX5_writes 7 = .ok (.iconst 0, 1) := by decide +kernel
theorem dX5_writes_8 : decode cX5_writes 8 = .ok (.istore_n 3, 1) := by decide +kernel
theorem dX5_writes_9 : decode cX5_writes 9 = .ok (.iload_n 3, 1) := by decide +kernel
theorem dX5_writes_10 : decode cX5_writes 10 = .ok (.aload_n 0, 1) := by decide +kernel
theorem dX5_writes_11 : decode cX5_writes 11 = .ok (.getfield 28, 3) := by decide +kernel
theorem dX5_writes_14 : decode cX5_writes 14 = .ok (.iload_n 1, 1) := by decide +kernel
theorem dX5_writes_15 : decode cX5_writes 15 = .ok (.iaload, 1) := by decide +kernel
theorem dX5_writes_16 : decode cX5_writes 16 = .ok (.if_icmp .ge 208, 3) := by decide +kernel
theorem dX5_writes_19 : decode cX5_writes 19 = .ok (.aload_n 0, 1) := by decide +kernel
theorem dX5_writes_20 : decode cX5_writes 20 = .ok (.getfield 31, 3) := by decide +kernel
theorem dX5_writes_23 : decode cX5_writes 23 = .ok (.bipush 64, 2) := by decide +kernel
theorem dX5_writes_25 : decode cX5_writes 25 = .ok (.iload_n 1, 1) := by decide +kernel
theorem dX5_writes_26 : decode cX5_writes 26 = .ok (.imul, 1) := by decide +kernel
theorem dX5_writes_27 : decode cX5_writes 27 = .ok (.iload_n 3, 1) := by decide +kernel
theorem dX5_writes_28 : decode cX5_writes 28 = .ok (.iadd, 1) := by decide +kernel
theorem dX5_writes_29 : decode cX5_writes 29 = .ok (.iaload, 1) := by decide +kernel
theorem dX5_writes_30 : decode cX5_writes 30 = .ok (.istore 4, 2) := by decide +kernel
theorem dX5_writes_32 : decode cX5_writes 32 = .ok (.aload_n 0, 1) := by decide +kernel
theorem dX5_writes_33 : decode cX5_writes 33 = .ok (.getfield 34, 3) := by decide +kernel
theorem dX5_writes_36 : decode cX5_writes 36 = .ok (.bipush 64, 2) := by decide +kernel
theorem dX5_writes_38 : decode cX5_writes 38 = .ok (.iload_n 1, 1) := by decide +kernel
theorem dX5_writes_39 : decode cX5_writes 39 = .ok (.imul, 1) := by decide +kernel
theorem dX5_writes_40 : decode cX5_writes 40 = .ok (.iload_n 3, 1) := by decide +kernel
theorem dX5_writes_41 : decode cX5_writes 41 = .ok (.iadd, 1) := by decide +kernel
theorem dX5_writes_42 : decode cX5_writes 42 = .ok (.iaload, 1) := by decide +kernel
theorem dX5_writes_43 : decode cX5_writes 43 = .ok (.istore 5, 2) := by decide +kernel
theorem dX5_writes_45 : decode cX5_writes 45 = .ok (.iload 4, 2) := by decide +kernel
theorem dX5_writes_47 : decode cX5_writes 47 = .ok (.iconst 4, 1) := by decide +kernel
theorem dX5_writes_48 : decode cX5_writes 48 = .ok (.bipush 6, 2) := by decide +kernel
theorem dX5_writes_50 : decode cX5_writes 50 = .ok (.invokestatic 89, 3) := by decide +kernel
theorem dX5_writes_53 : decode cX5_writes 53 = .ok (.ifCond .eq 57, 3) := by decide +kernel
theorem dX5_writes_56 : decode cX5_writes 56 = .ok (.aload_n 0, 1) := by decide +kernel
theorem dX5_writes_57 : decode cX5_writes 57 = .ok (.getfield 48, 3) := by decide +kernel
theorem dX5_writes_60 : decode cX5_writes 60 = .ok (.iload_n 2, 1) := by decide +kernel
theorem dX5_writes_61 : decode cX5_writes 61 = .ok (.aload_n 0, 1) := by decide +kernel
theorem dX5_writes_62 : decode cX5_writes 62 = .ok (.getfield 154, 3) := by decide +kernel
theorem dX5_writes_65 : decode cX5_writes 65 = .ok (.iastore, 1) := by decide +kernel
theorem dX5_writes_66 : decode cX5_writes 66 = .ok (.iinc 2 1, 3) := by decide +kernel
theorem dX5_writes_69 : decode cX5_writes 69 = .ok (.iload 4, 2) := by decide +kernel
theorem dX5_writes_71 : decode cX5_writes 71 = .ok (.iconst 5, 1) := by decide +kernel
theorem dX5_writes_72 : decode cX5_writes 72 = .ok (.if_icmp .eq 24, 3) := by decide +kernel
theorem dX5_writes_75 : decode cX5_writes 75 = .ok (.aload_n 0, 1) := by decide +kernel
theorem dX5_writes_76 : decode cX5_writes 76 = .ok (.aload_n 0, 1) := by decide +kernel
theorem dX5_writes_77 : decode cX5_writes 77 = .ok (.getfield 154, 3) := by decide +kernel
theorem dX5_writes_80 : decode cX5_writes 80 = .ok (.iload 4, 2) := by decide +kernel
theorem dX5_writes_82 : decode cX5_writes 82 = .ok (.iconst 4, 1) := by decide +kernel
theorem dX5_writes_83 : decode cX5_writes 83 = .ok (.if_icmp .ne 8, 3) := by decide +kernel
theorem dX5_writes_86 : decode cX5_writes 86 = .ok (.bipush 65, 2) := by decide +kernel
theorem dX5_writes_88 : decode cX5_writes 88 = .ok (.goto 5, 3) := by decide +kernel
theorem dX5_writes_91 : decode cX5_writes 91 = .ok (.bipush 84, 2) := by decide +kernel
theorem dX5_writes_93 : decode cX5_writes 93 = .ok (.invokevirtual 157, 3) := by decide +kernel
theorem dX5_writes_96 : decode cX5_writes 96 = .ok (.aload_n 0, 1) := by decide +kernel
theorem dX5_writes_97 : decode cX5_writes 97 = .ok (.aload_n 0, 1) := by decide +kernel
theorem dX5_writes_98 : decode cX5_writes 98 = .ok (.getfield 154, 3) := by decide +kernel
theorem dX5_writes_101 : decode cX5_writes 101 = .ok (.iload 5, 2) := by decide +kernel
theorem dX5_writes_103 : decode cX5_writes 103 = .ok (.invokevirtual 161, 3) := by decide +kernel
theorem dX5_writes_106 : decode cX5_writes 106 = .ok (.pop, 1) := by decide +kernel
theorem dX5_writes_107 : decode cX5_writes 107 = .ok (.goto 111, 3) := by decide +kernel
theorem dX5_writes_110 : decode cX5_writes 110 = .ok (.iload 4, 2) := by decide +kernel
theorem dX5_writes_112 : decode cX5_writes 112 = .ok (.iconst 4, 1) := by decide +kernel
theorem dX5_writes_113 : decode cX5_writes 113 = .ok (.if_icmp .ge 29, 3) := by decide +kernel
theorem dX5_writes_116 : decode cX5_writes 116 = .ok (.iinc 2 (-1), 3) := by decide +kernel
theorem dX5_writes_119 : decode cX5_writes 119 = .ok (.aload_n 0, 1) := by decide +kernel
theorem dX5_writes_120 : decode cX5_writes 120 = .ok (.iload 4, 2) := by decide +kernel
theorem dX5_writes_122 : decode cX5_writes 122 = .ok (.aload_n 0, 1) := by decide +kernel
theorem dX5_writes_123 : decode cX5_writes 123 = .ok (.getfield 48, 3) := by decide +kernel
theorem dX5_writes_126 : decode cX5_writes 126 = .ok (.iload_n 2, 1) := by decide +kernel
theorem dX5_writes_127 : decode cX5_writes 127 = .ok (.iconst 1, 1) := by decide +kernel
theorem dX5_writes_128 : decode cX5_writes 128 = .ok (.isub, 1) := by decide +kernel
theorem dX5_writes_129 : decode cX5_writes 129 = .ok (.iaload, 1) := by decide +kernel
theorem dX5_writes_130 : decode cX5_writes 130 = .ok (.aload_n 0, 1) := by decide +kernel
theorem dX5_writes_131 : decode cX5_writes 131 = .ok (.getfield 48, 3) := by decide +kernel
theorem dX5_writes_134 : decode cX5_writes 134 = .ok (.iload_n 2, 1) := by decide +kernel
theorem dX5_writes_135 : decode cX5_writes 135 = .ok (.iaload, 1) := by decide +kernel
theorem dX5_writes_136 : decode cX5_writes 136 = .ok (.invokevirtual 164, 3) := by decide +kernel
theorem dX5_writes_139 : decode cX5_writes 139 = .ok (.goto 79, 3) := by decide +kernel
theorem dX5_writes_142 : decode cX5_writes 142 = .ok (.iload 4, 2) := by decide +kernel
theorem dX5_writes_144 : decode cX5_writes 144 = .ok (.bipush 7, 2) := by decide +kernel
theorem dX5_writes_146 : decode cX5_writes 146 = .ok (.if_icmp .ne 39, 3) := by decide +kernel
theorem dX5_writes_149 : decode cX5_writes 149 = .ok (.aload_n 0, 1) := by decide +kernel
theorem dX5_writes_150 : decode cX5_writes 150 = .ok (.aload_n 0, 1) := by decide +kernel
theorem dX5_writes_151 : decode cX5_writes 151 = .ok (.getfield 48, 3) := by decide +kernel
theorem dX5_writes_154 : decode cX5_writes 154 = .ok (.iload_n 2, 1) := by decide +kernel
theorem dX5_writes_155 : decode cX5_writes 155 = .ok (.iconst 1, 1) := by decide +kernel
theorem dX5_writes_156 : decode cX5_writes 156 = .ok (.isub, 1) := by decide +kernel
theorem dX5_writes_157 : decode cX5_writes 157 = .ok (.iaload, 1) := by decide +kernel
theorem dX5_writes_158 : decode cX5_writes 158 = .ok (.iload 5, 2) := by decide +kernel
theorem dX5_writes_160 : decode cX5_writes 160 = .ok (.invokevirtual 161, 3) := by decide +kernel
theorem dX5_writes_163 : decode cX5_writes 163 = .ok (.istore 6, 2) := by decide +kernel
theorem dX5_writes_165 : decode cX5_writes 165 = .ok (.aload_n 0, 1) := by decide +kernel
theorem dX5_writes_166 : decode cX5_writes 166 = .ok (.iload 6, 2) := by decide +kernel
theorem dX5_writes_168 : decode cX5_writes 168 = .ok (.bipush 37, 2) := by decide +kernel
theorem dX5_writes_170 : decode cX5_writes 170 = .ok (.bipush 32, 2) := by decide +kernel
theorem dX5_writes_172 : decode cX5_writes 172 = .ok (.bipush 111, 2) := by decide +kernel
theorem dX5_writes_174 : decode cX5_writes 174 = .ok (.bipush 102, 2) := by decide +kernel
theorem dX5_writes_176 : decode cX5_writes 176 = .ok (.bipush 32, 2) := by decide +kernel
theorem dX5_writes_178 : decode cX5_writes 178 = .ok (.invokevirtual 167, 3) := by decide +kernel
theorem dX5_writes_181 : decode cX5_writes 181 = .ok (.pop, 1) := by decide +kernel
theorem dX5_writes_182 : decode cX5_writes 182 = .ok (.goto 36, 3) := by decide +kernel
theorem dX5_writes_185 : decode cX5_writes 185 = .ok (.aload_n 0, 1) := by decide +kernel
theorem dX5_writes_186 : decode cX5_writes 186 = .ok (.aload_n 0, 1) := by decide +kernel
theorem dX5_writes_187 : decode cX5_writes 187 = .ok (.getfield 48, 3) := by decide +kernel
theorem dX5_writes_190 : decode cX5_writes 190 = .ok (.iload_n 2, 1) := by decide +kernel
theorem dX5_writes_191 : decode cX5_writes 191 = .ok (.iconst 1, 1) := by decide +kernel
theorem dX5_writes_192 : decode cX5_writes 192 = .ok (.isub, 1) := by decide +kernel
theorem dX5_writes_193 : decode cX5_writes 193 = .ok (.iaload, 1) := by decide +kernel
theorem dX5_writes_194 : decode cX5_writes 194 = .ok (.bipush 121, 2) := by decide +kernel
theorem dX5_writes_196 : decode cX5_writes 196 = .ok (.bipush 101, 2) := by decide +kernel
theorem dX5_writes_198 : decode cX5_writes 198 = .ok (.bipush 97, 2) := by decide +kernel
theorem dX5_writes_200 : decode cX5_writes 200 = .ok (.bipush 114, 2) := by decide +kernel
theorem dX5_writes_202 : decode cX5_writes 202 = .ok (.bipush 40, 2) := by decide +kernel
theorem dX5_writes_204 : decode cX5_writes 204 = .ok (.invokevirtual 167, 3) := by decide +kernel
theorem dX5_writes_207 : decode cX5_writes 207 = .ok (.pop, 1) := by decide +kernel
theorem dX5_writes_208 : decode cX5_writes 208 = .ok (.aload_n 0, 1) := by decide +kernel
theorem dX5_writes_209 : decode cX5_writes 209 = .ok (.aload_n 0, 1) := by decide +kernel
theorem dX5_writes_210 : decode cX5_writes 210 = .ok (.getfield 154, 3) := by decide +kernel
theorem dX5_writes_213 : decode cX5_writes 213 = .ok (.bipush 41, 2) := by decide +kernel
theorem dX5_writes_215 : decode cX5_writes 215 = .ok (.invokevirtual 157, 3) := by decide +kernel
theorem dX5_writes_218 : decode cX5_writes 218 = .ok (.iinc 3 1, 3) := by decide +kernel
theorem dX5_writes_221 : decode cX5_writes 221 = .ok (.goto (-212), 3) := by decide +kernel
theorem dX5_writes_224 : decode cX5_writes 224 = .ok (.return_, 1) := by decide +kernel
theorem dX5_textLength_0 : decode cX5_textLength 0 = .ok (.aload_n 0, 1) := by decide +kernel
theorem dX5_textLength_1 : decode cX5_textLength 1 = .ok (.aload_n 0, 1) := by decide +kernel
theorem dX5_textLength_2 : decode cX5_textLength 2 = .ok (.iload_n 1, 1) := by decide +kernel
theorem dX5_textLength_3 : decode cX5_textLength 3 = .ok (.invokevirtual 116, 3) := by decide +kernel
theorem dX5_textLength_6 : decode cX5_textLength 6 = .ok (.ifCond .eq 14, 3) := by decide +kernel
theorem dX5_textLength_9 : decode cX5_textLength 9 = .ok (.iload_n 2, 1) := by decide +kernel
theorem dX5_textLength_10 : decode cX5_textLength 10 = .ok (.invokestatic 100, 3) := by decide +kernel
theorem dX5_textLength_13 : decode cX5_textLength 13 = .ok (.ifCond .eq 7, 3) := by decide +kernel
theorem dX5_textLength_16 : decode cX5_textLength 16 = .ok (.iconst 0, 1) := by decide +kernel
theorem dX5_textLength_17 : decode cX5_textLength 17 = .ok (.goto 4, 3) := by decide +kernel
theorem dX5_textLength_20 : decode cX5_textLength 20 = .ok (.iconst 1, 1) := by decide +kernel
theorem dX5_textLength_21 : decode cX5_textLength 21 = .ok (.putfield 85, 3) := by decide +kernel
theorem dX5_textLength_24 : decode cX5_textLength 24 = .ok (.aload_n 0, 1) := by decide +kernel
theorem dX5_textLength_25 : decode cX5_textLength 25 = .ok (.getfield 85, 3) := by decide +kernel
theorem dX5_textLength_28 : decode cX5_textLength 28 = .ok (.ifCond .le 5, 3) := by decide +kernel
theorem dX5_textLength_31 : decode cX5_textLength 31 = .ok (.iconst 0, 1) := by decide +kernel
theorem dX5_textLength_32 : decode cX5_textLength 32 = .ok (.ireturn, 1) := by decide +kernel
theorem dX5_textLength_33 : decode cX5_textLength 33 = .ok (.aload_n 0, 1) := by decide +kernel
theorem dX5_textLength_34 : decode cX5_textLength 34 = .ok (.aload_n 0, 1) := by decide +kernel
theorem dX5_textLength_35 : decode cX5_textLength 35 = .ok (.iload_n 1, 1) := by decide +kernel
theorem dX5_textLength_36 : decode cX5_textLength 36 = .ok (.iload_n 2, 1) := by decide +kernel
theorem dX5_textLength_37 : decode cX5_textLength 37 = .ok (.invokevirtual 171, 3) := by decide +kernel
theorem dX5_textLength_40 : decode cX5_textLength 40 = .ok (.invokevirtual 174, 3) := by decide +kernel
theorem dX5_textLength_43 : decode cX5_textLength 43 = .ok (.aload_n 0, 1) := by decide +kernel
theorem dX5_textLength_44 : decode cX5_textLength 44 = .ok (.getfield 154, 3) := by decide +kernel
theorem dX5_textLength_47 : decode cX5_textLength 47 = .ok (.ireturn, 1) := by decide +kernel
theorem dX5_textChar_0 : decode cX5_textChar 0 = .ok (.aload_n 0, 1) := by decide +kernel
theorem dX5_textChar_1 : decode cX5_textChar 1 = .ok (.aload_n 0, 1) := by decide +kernel
theorem dX5_textChar_2 : decode cX5_textChar 2 = .ok (.iload_n 1, 1) := by decide +kernel
theorem dX5_textChar_3 : decode cX5_textChar 3 = .ok (.invokevirtual 116, 3) := by decide +kernel
theorem dX5_textChar_6 : decode cX5_textChar 6 = .ok (.ifCond .eq 14, 3) := by decide +kernel
theorem dX5_textChar_9 : decode cX5_textChar 9 = .ok (.iload_n 2, 1) := by decide +kernel
theorem dX5_textChar_10 : decode cX5_textChar 10 = .ok (.invokestatic 100, 3) := by decide +kernel
theorem dX5_textChar_13 : decode cX5_textChar 13 = .ok (.ifCond .eq 7, 3) := by decide +kernel
theorem dX5_textChar_16 : decode cX5_textChar 16 = .ok (.iconst 0, 1) := by decide +kernel
theorem dX5_textChar_17 : decode cX5_textChar 17 = .ok (.goto 4, 3) := by decide +kernel
theorem dX5_textChar_20 : decode cX5_textChar 20 = .ok (.iconst 1, 1) := by decide +kernel
theorem dX5_textChar_21 : decode cX5_textChar 21 = .ok (.putfield 85, 3) := by decide +kernel
theorem dX5_textChar_24 : decode cX5_textChar 24 = .ok (.aload_n 0, 1) := by decide +kernel
theorem dX5_textChar_25 : decode cX5_textChar 25 = .ok (.getfield 85, 3) := by decide +kernel
theorem dX5_textChar_28 : decode cX5_textChar 28 = .ok (.ifCond .le 6, 3) := by decide +kernel
theorem dX5_textChar_31 : decode cX5_textChar 31 = .ok (.bipush 32, 2) := by decide +kernel
theorem dX5_textChar_33 : decode cX5_textChar 33 = .ok (.ireturn, 1) := by decide +kernel
theorem dX5_textChar_34 : decode cX5_textChar 34 = .ok (.aload_n 0, 1) := by decide +kernel
theorem dX5_textChar_35 : decode cX5_textChar 35 = .ok (.aload_n 0, 1) := by decide +kernel
theorem dX5_textChar_36 : decode cX5_textChar 36 = .ok (.iload_n 1, 1) := by decide +kernel
theorem dX5_textChar_37 : decode cX5_textChar 37 = .ok (.iload_n 2, 1) := by decide +kernel
theorem dX5_textChar_38 : decode cX5_textChar 38 = .ok (.invokevirtual 171, 3) := by decide +kernel
theorem dX5_textChar_41 : decode cX5_textChar 41 = .ok (.invokevirtual 174, 3) := by decide +kernel
theorem dX5_textChar_44 : decode cX5_textChar 44 = .ok (.aload_n 0, 1) := by decide +kernel
theorem dX5_textChar_45 : decode cX5_textChar 45 = .ok (.iload_n 3, 1) := by decide +kernel
theorem dX5_textChar_46 : decode cX5_textChar 46 = .ok (.iconst 0, 1) := by decide +kernel
theorem dX5_textChar_47 : decode cX5_textChar 47 = .ok (.aload_n 0, 1) := by decide +kernel
theorem dX5_textChar_48 : decode cX5_textChar 48 = .ok (.getfield 154, 3) := by decide +kernel
theorem dX5_textChar_51 : decode cX5_textChar 51 = .ok (.iconst 1, 1) := by decide +kernel
theorem dX5_textChar_52 : decode cX5_textChar 52 = .ok (.isub, 1) := by decide +kernel
theorem dX5_textChar_53 : decode cX5_textChar 53 = .ok (.invokestatic 89, 3) := by decide +kernel
theorem dX5_textChar_56 : decode cX5_textChar 56 = .ok (.ifCond .eq 7, 3) := by decide +kernel
theorem dX5_textChar_59 : decode cX5_textChar 59 = .ok (.iconst 0, 1) := by decide +kernel
theorem dX5_textChar_60 : decode cX5_textChar 60 = .ok (.goto 4, 3) := by decide +kernel
theorem dX5_textChar_63 : decode cX5_textChar 63 = .ok (.iconst 1, 1) := by decide +kernel
theorem dX5_textChar_64 : decode cX5_textChar 64 = .ok (.putfield 85, 3) := by decide +kernel
theorem dX5_textChar_67 : decode cX5_textChar 67 = .ok (.aload_n 0, 1) := by decide +kernel
theorem dX5_textChar_68 : decode cX5_textChar 68 = .ok (.getfield 85, 3) := by decide +kernel
theorem dX5_textChar_71 : decode cX5_textChar 71 = .ok (.ifCond .le 8, 3) := by decide +kernel
theorem dX5_textChar_74 : decode cX5_textChar 74 = .ok (.bipush 32, 2) := by decide +kernel
theorem dX5_textChar_76 : decode cX5_textChar 76 = .ok (.goto 9, 3) := by decide +kernel
theorem dX5_textChar_79 : decode cX5_textChar 79 = .ok (.aload_n 0, 1) := by decide +kernel
theorem dX5_textChar_80 : decode cX5_textChar 80 = .ok (.getfield 44, 3) := by decide +kernel
theorem dX5_textChar_83 : decode cX5_textChar 83 = .ok (.iload_n 3, 1) := by decide +kernel
theorem dX5_textChar_84 : decode cX5_textChar 84 = .ok (.caload, 1) := by decide +kernel
theorem dX5_textChar_85 : decode cX5_textChar 85 = .ok (.ireturn, 1) := by decide +kernel
theorem dX5_isTest_0 : decode cX5_isTest 0 = .ok (.iload_n 1, 1) := by decide +kernel
theorem dX5_isTest_1 : decode cX5_isTest 1 = .ok (.iconst 0, 1) := by decide +kernel
theorem dX5_isTest_2 : decode cX5_isTest 2 = .ok (.aload_n 0, 1) := by decide +kernel
theorem dX5_isTest_3 : decode cX5_isTest 3 = .ok (.getfield 177, 3) := by decide +kernel
theorem dX5_isTest_6 : decode cX5_isTest 6 = .ok (.iconst 1, 1) := by decide +kernel
theorem dX5_isTest_7 : decode cX5_isTest 7 = .ok (.isub, 1) := by decide +kernel
theorem dX5_isTest_8 : decode cX5_isTest 8 = .ok (.invokestatic 89, 3) := by decide +kernel
theorem dX5_isTest_11 : decode cX5_isTest 11 = .ok (.ireturn, 1) := by decide +kernel
theorem dX5_test_0 : decode cX5_test 0 = .ok (.aload_n 0, 1) := by decide +kernel
theorem dX5_test_1 : decode cX5_test 1 = .ok (.aload_n 0, 1) := by decide +kernel
theorem dX5_test_2 : decode cX5_test 2 = .ok (.iload_n 1, 1) := by decide +kernel
theorem dX5_test_3 : decode cX5_test 3 = .ok (.invokevirtual 116, 3) := by decide +kernel
theorem dX5_test_6 : decode cX5_test 6 = .ok (.ifCond .eq 11, 3) := by decide +kernel
theorem dX5_test_9 : decode cX5_test 9 = .ok (.aload_n 0, 1) := by decide +kernel
theorem dX5_test_10 : decode cX5_test 10 = .ok (.iload_n 2, 1) := by decide +kernel
theorem dX5_test_11 : decode cX5_test 11 = .ok (.invokevirtual 116, 3) := by decide +kernel
theorem dX5_test_14 : decode cX5_test 14 = .ok (.ifCond .ne 7, 3) := by decide +kernel
theorem dX5_test_17 : decode cX5_test 17 = .ok (.iconst 1, 1) := by decide +kernel
theorem dX5_test_18 : decode cX5_test 18 = .ok (.goto 17, 3) := by decide +kernel
theorem dX5_test_21 : decode cX5_test 21 = .ok (.aload_n 0, 1) := by decide +kernel
theorem dX5_test_22 : decode cX5_test 22 = .ok (.getfield 177, 3) := by decide +kernel
theorem dX5_test_25 : decode cX5_test 25 = .ok (.bipush 6, 2) := by decide +kernel
theorem dX5_test_27 : decode cX5_test 27 = .ok (.if_icmp .ne 7, 3) := by decide +kernel
theorem dX5_test_30 : decode cX5_test 30 = .ok (.iconst 2, 1) := by decide +kernel
theorem dX5_test_31 : decode cX5_test 31 = .ok (.goto 4, 3) := by decide +kernel
theorem dX5_test_34 : decode cX5_test 34 = .ok (.iconst 0, 1) := by decide +kernel
theorem dX5_test_35 : decode cX5_test 35 = .ok (.putfield 85, 3) := by decide +kernel
theorem dX5_test_38 : decode cX5_test 38 = .ok (.aload_n 0, 1) := by decide +kernel
theorem dX5_test_39 : decode cX5_test 39 = .ok (.getfield 85, 3) := by decide +kernel
theorem dX5_test_42 : decode cX5_test 42 = .ok (.ifCond .le 5, 3) := by decide +kernel
theorem dX5_test_45 : decode cX5_test 45 = .ok (.iconst 0, 1) := by decide +kernel
theorem dX5_test_46 : decode cX5_test 46 = .ok (.ireturn, 1) := by decide +kernel
theorem dX5_test_47 : decode cX5_test 47 = .ok (.aload_n 0, 1) := by decide +kernel
theorem dX5_test_48 : decode cX5_test 48 = .ok (.getfield 51, 3) := by decide +kernel
theorem dX5_test_51 : decode cX5_test 51 = .ok (.aload_n 0, 1) := by decide +kernel
theorem dX5_test_52 : decode cX5_test 52 = .ok (.getfield 177, 3) := by decide +kernel
theorem dX5_test_55 : decode cX5_test 55 = .ok (.iload_n 1, 1) := by decide +kernel
theorem dX5_test_56 : decode cX5_test 56 = .ok (.iastore, 1) := by decide +kernel
theorem dX5_test_57 : decode cX5_test 57 = .ok (.aload_n 0, 1) := by decide +kernel
theorem dX5_test_58 : decode cX5_test 58 = .ok (.getfield 54, 3) := by decide +kernel
theorem dX5_test_61 : decode cX5_test 61 = .ok (.aload_n 0, 1) := by decide +kernel
theorem dX5_test_62 : decode cX5_test 62 = .ok (.getfield 177, 3) := by decide +kernel
theorem dX5_test_65 : decode cX5_test 65 = .ok (.iload_n 2, 1) := by decide +kernel
theorem dX5_test_66 : decode cX5_test 66 = .ok (.iastore, 1) := by decide +kernel
theorem dX5_test_67 : decode cX5_test 67 = .ok (.aload_n 0, 1) := by decide +kernel
theorem dX5_test_68 : decode cX5_test 68 = .ok (.dup, 1) := by decide +kernel
theorem dX5_test_69 : decode cX5_test 69 = .ok (.getfield 177, 3) := by decide +kernel
theorem dX5_test_72 : decode cX5_test 72 = .ok (.iconst 1, 1) := by decide +kernel
theorem dX5_test_73 : decode cX5_test 73 = .ok (.iadd, 1) := by decide +kernel
theorem dX5_test_74 : decode cX5_test 74 = .ok (.putfield 177, 3) := by decide +kernel
theorem dX5_test_77 : decode cX5_test 77 = .ok (.aload_n 0, 1) := by decide +kernel
theorem dX5_test_78 : decode cX5_test 78 = .ok (.getfield 177, 3) := by decide +kernel
theorem dX5_test_81 : decode cX5_test 81 = .ok (.iconst 1, 1) := by decide +kernel
theorem dX5_test_82 : decode cX5_test 82 = .ok (.isub, 1) := by decide +kernel
theorem dX5_test_83 : decode cX5_test 83 = .ok (.ireturn, 1) := by decide +kernel
theorem dX5_limit_0 : decode cX5_limit 0 = .ok (.aload_n 0, 1) := by decide +kernel
theorem dX5_limit_1 : decode cX5_limit 1 = .ok (.iload_n 1, 1) := by decide +kernel
theorem dX5_limit_2 : decode cX5_limit 2 = .ok (.invokevirtual 180, 3) := by decide +kernel
theorem dX5_limit_5 : decode cX5_limit 5 = .ok (.ifCond .eq 14, 3) := by decide +kernel
theorem dX5_limit_8 : decode cX5_limit 8 = .ok (.iload_n 2, 1) := by decide +kernel
theorem dX5_limit_9 : decode cX5_limit 9 = .ok (.invokestatic 100, 3) := by decide +kernel
theorem dX5_limit_12 : decode cX5_limit 12 = .ok (.ifCond .eq 7, 3) := by decide +kernel
theorem dX5_limit_15 : decode cX5_limit 15 = .ok (.iconst 1, 1) := by decide +kernel
theorem dX5_limit_16 : decode cX5_limit 16 = .ok (.goto 4, 3) := by decide +kernel
theorem dX5_limit_19 : decode cX5_limit 19 = .ok (.iconst 0, 1) := by decide +kernel
theorem dX5_limit_20 : decode cX5_limit 20 = .ok (.istore 4, 2) := by decide +kernel
theorem dX5_limit_22 : decode cX5_limit 22 = .ok (.aload_n 0, 1) := by decide +kernel
theorem dX5_limit_23 : decode cX5_limit 23 = .ok (.iload 4, 2) := by decide +kernel
theorem dX5_limit_25 : decode cX5_limit 25 = .ok (.ifCond .ne 7, 3) := by decide +kernel
theorem dX5_limit_28 : decode cX5_limit 28 = .ok (.iconst 1, 1) := by decide +kernel
theorem dX5_limit_29 : decode cX5_limit 29 = .ok (.goto 19, 3) := by decide +kernel
theorem dX5_limit_32 : decode cX5_limit 32 = .ok (.iload_n 3, 1) := by decide +kernel
theorem dX5_limit_33 : decode cX5_limit 33 = .ok (.iconst 0, 1) := by decide +kernel
theorem dX5_limit_34 : decode cX5_limit 34 = .ok (.sipush 10000, 3) := by decide +kernel
theorem dX5_limit_37 : decode cX5_limit 37 = .ok (.invokestatic 89, 3) := by decide +kernel
theorem dX5_limit_40 : decode cX5_limit 40 = .ok (.ifCond .eq 7, 3) := by decide +kernel
theorem dX5_limit_43 : decode cX5_limit 43 = .ok (.iconst 0, 1) := by decide +kernel
theorem dX5_limit_44 : decode cX5_limit 44 = .ok (.goto 4, 3) := by decide +kernel
theorem dX5_limit_47 : decode cX5_limit 47 = .ok (.iconst 2, 1) := by decide +kernel
theorem dX5_limit_48 : decode cX5_limit 48 = .ok (.putfield 85, 3) := by decide +kernel
theorem dX5_limit_51 : decode cX5_limit 51 = .ok (.aload_n 0, 1) := by decide +kernel
theorem dX5_limit_52 : decode cX5_limit 52 = .ok (.getfield 85, 3) := by decide +kernel
theorem dX5_limit_55 : decode cX5_limit 55 = .ok (.ifCond .le 5, 3) := by decide +kernel
theorem dX5_limit_58 : decode cX5_limit 58 = .ok (.iconst 0, 1) := by decide +kernel
theorem dX5_limit_59 : decode cX5_limit 59 = .ok (.ireturn, 1) := by decide +kernel
theorem dX5_limit_60 : decode cX5_limit 60 = .ok (.aload_n 0, 1) := by decide +kernel
theorem dX5_limit_61 : decode cX5_limit 61 = .ok (.getfield 57, 3) := by decide +kernel
theorem dX5_limit_64 : decode cX5_limit 64 = .ok (.bipush 20, 2) := by decide +kernel
theorem dX5_limit_66 : decode cX5_limit 66 = .ok (.iload_n 1, 1) := by decide +kernel
theorem dX5_limit_67 : decode cX5_limit 67 = .ok (.imul, 1) := by decide +kernel
theorem dX5_limit_68 : decode cX5_limit 68 = .ok (.iload_n 2, 1) := by decide +kernel
theorem dX5_limit_69 : decode cX5_limit 69 = .ok (.iadd, 1) := by decide +kernel
theorem dX5_limit_70 : decode cX5_limit 70 = .ok (.iload_n 3, 1) := by decide +kernel
theorem dX5_limit_71 : decode cX5_limit 71 = .ok (.iastore, 1) := by decide +kernel
theorem dX5_limit_72 : decode cX5_limit 72 = .ok (.iconst 0, 1) := by decide +kernel
theorem dX5_limit_73 : decode cX5_limit 73 = .ok (.istore 5, 2) := by decide +kernel
theorem dX5_limit_75 : decode cX5_limit 75 = .ok (.iconst 0, 1) := by decide +kernel
theorem dX5_limit_76 : decode cX5_limit 76 = .ok (.istore 6, 2) := by decide +kernel
theorem dX5_limit_78 : decode cX5_limit 78 = .ok (.iload 6, 2) := by decide +kernel
theorem dX5_limit_80 : decode cX5_limit 80 = .ok (.bipush 20, 2) := by decide +kernel
theorem dX5_limit_82 : decode cX5_limit 82 = .ok (.if_icmp .ge 35, 3) := by decide +kernel
theorem dX5_limit_85 : decode cX5_limit 85 = .ok (.iload 5, 2) := by decide +kernel
theorem dX5_limit_87 : decode cX5_limit 87 = .ok (.aload_n 0, 1) := by decide +kernel
theorem dX5_limit_88 : decode cX5_limit 88 = .ok (.getfield 57, 3) := by decide +kernel
theorem dX5_limit_91 : decode cX5_limit 91 = .ok (.bipush 20, 2) := by decide +kernel
theorem dX5_limit_93 : decode cX5_limit 93 = .ok (.iload_n 1, 1) := by decide +kernel
theorem dX5_limit_94 : decode cX5_limit 94 = .ok (.imul, 1) := by decide +kernel
theorem dX5_limit_95 : decode cX5_limit 95 = .ok (.iload 6, 2) := by decide +kernel
theorem dX5_limit_97 : decode cX5_limit 97 = .ok (.iadd, 1) := by decide +kernel
theorem dX5_limit_98 : decode cX5_limit 98 = .ok (.iaload, 1) := by decide +kernel
theorem dX5_limit_99 : decode cX5_limit 99 = .ok (.iconst (-1), 1) := by decide +kernel
theorem dX5_limit_100 : decode cX5_limit 100 = .ok (.if_icmp .ne 7, 3) := by decide +kernel
theorem dX5_limit_103 : decode cX5_limit 103 = .ok (.iconst 0, 1) := by decide +kernel
theorem dX5_limit_104 : decode cX5_limit 104 = .ok (.goto 4, 3) := by decide +kernel
theorem dX5_limit_107 : decode cX5_limit 107 = .ok (.iconst 1, 1) := by decide +kernel
theorem dX5_limit_108 : decode cX5_limit 108 = .ok (.iadd, 1) := by decide +kernel
theorem dX5_limit_109 : decode cX5_limit 109 = .ok (.istore 5, 2) := by decide +kernel
theorem dX5_limit_111 : decode cX5_limit 111 = .ok (.iinc 6 1, 3) := by decide +kernel
theorem dX5_limit_114 : decode cX5_limit 114 = .ok (.goto (-36), 3) := by decide +kernel
theorem dX5_limit_117 : decode cX5_limit 117 = .ok (.iload 5, 2) := by decide +kernel
theorem dX5_limit_119 : decode cX5_limit 119 = .ok (.ireturn, 1) := by decide +kernel
theorem dX5_limitOf_0 : decode cX5_limitOf 0 = .ok (.iconst (-1), 1) := by decide +kernel
theorem dX5_limitOf_1 : decode cX5_limitOf 1 = .ok (.istore_n 3, 1) := by decide +kernel
theorem dX5_limitOf_2 : decode cX5_limitOf 2 = .ok (.iconst 0, 1) := by decide +kernel
theorem dX5_limitOf_3 : decode cX5_limitOf 3 = .ok (.istore 4, 2) := by decide +kernel
theorem dX5_limitOf_5 : decode cX5_limitOf 5 = .ok (.iload 4, 2) := by decide +kernel
theorem dX5_limitOf_7 : decode cX5_limitOf 7 = .ok (.iload_n 2, 1) := by decide +kernel
theorem dX5_limitOf_8 : decode cX5_limitOf 8 = .ok (.if_icmp .gt 42, 3) := by decide +kernel
theorem dX5_limitOf_11 : decode cX5_limitOf 11 = .ok (.aload_n 0, 1) := by decide +kernel
theorem dX5_limitOf_12 : decode cX5_limitOf 12 = .ok (.getfield 57, 3) := by decide +kernel
theorem dX5_limitOf_15 : decode cX5_limitOf 15 = .ok (.bipush 20, 2) := by decide +kernel
theorem dX5_limitOf_17 : decode cX5_limitOf 17 = .ok (.iload_n 1, 1) := by decide +kernel
theorem dX5_limitOf_18 : decode cX5_limitOf 18 = .ok (.imul, 1) := by decide +kernel
theorem dX5_limitOf_19 : decode cX5_limitOf 19 = .ok (.iload 4, 2) := by decide +kernel
theorem dX5_limitOf_21 : decode cX5_limitOf 21 = .ok (.iadd, 1) := by decide +kernel
theorem dX5_limitOf_22 : decode cX5_limitOf 22 = .ok (.iaload, 1) := by decide +kernel
theorem dX5_limitOf_23 : decode cX5_limitOf 23 = .ok (.iconst (-1), 1) := by decide +kernel
theorem dX5_limitOf_24 : decode cX5_limitOf 24 = .ok (.if_icmp .ne 7, 3) := by decide +kernel
theorem dX5_limitOf_27 : decode cX5_limitOf 27 = .ok (.iload_n 3, 1) := by decide +kernel
theorem dX5_limitOf_28 : decode cX5_limitOf 28 = .ok (.goto 15, 3) := by decide +kernel
theorem dX5_limitOf_31 : decode cX5_limitOf 31 = .ok (.aload_n 0, 1) := by decide +kernel
theorem dX5_limitOf_32 : decode cX5_limitOf 32 = .ok (.getfield 57, 3) := by decide +kernel
theorem dX5_limitOf_35 : decode cX5_limitOf 35 = .ok (.bipush 20, 2) := by decide +kernel
theorem dX5_limitOf_37 : decode cX5_limitOf 37 = .ok (.iload_n 1, 1) := by decide +kernel
theorem dX5_limitOf_38 : decode cX5_limitOf 38 = .ok (.imul, 1) := by decide +kernel
theorem dX5_limitOf_39 : decode cX5_limitOf 39 = .ok (.iload 4, 2) := by decide +kernel
theorem dX5_limitOf_41 : decode cX5_limitOf 41 = .ok (.iadd, 1) := by decide +kernel
theorem dX5_limitOf_42 : decode cX5_limitOf 42 = .ok (.iaload, 1) := by decide +kernel
theorem dX5_limitOf_43 : decode cX5_limitOf 43 = .ok (.istore_n 3, 1) := by decide +kernel
theorem dX5_limitOf_44 : decode cX5_limitOf 44 = .ok (.iinc 4 1, 3) := by decide +kernel
theorem dX5_limitOf_47 : decode cX5_limitOf 47 = .ok (.goto (-42), 3) := by decide +kernel
theorem dX5_limitOf_50 : decode cX5_limitOf 50 = .ok (.iload_n 3, 1) := by decide +kernel
theorem dX5_limitOf_51 : decode cX5_limitOf 51 = .ok (.ireturn, 1) := by decide +kernel
theorem dX5_wake_0 : decode cX5_wake 0 = .ok (.aload_n 0, 1) := by decide +kernel
theorem dX5_wake_1 : decode cX5_wake 1 = .ok (.iload_n 1, 1) := by decide +kernel
theorem dX5_wake_2 : decode cX5_wake 2 = .ok (.invokevirtual 180, 3) := by decide +kernel
theorem dX5_wake_5 : decode cX5_wake 5 = .ok (.ifCond .eq 19, 3) := by decide +kernel
theorem dX5_wake_8 : decode cX5_wake 8 = .ok (.iload_n 2, 1) := by decide +kernel
theorem dX5_wake_9 : decode cX5_wake 9 = .ok (.iconst (-1), 1) := by decide +kernel
theorem dX5_wake_10 : decode cX5_wake 10 = .ok (.if_icmp .eq 10, 3) := by decide +kernel
theorem dX5_wake_13 : decode cX5_wake 13 = .ok (.iload_n 2, 1) := by decide +kernel
theorem dX5_wake_14 : decode cX5_wake 14 = .ok (.invokestatic 96, 3) := by decide +kernel
theorem dX5_wake_17 : decode cX5_wake 17 = .ok (.ifCond .eq 7, 3) := by decide +kernel
theorem dX5_wake_20 : decode cX5_wake 20 = .ok (.iconst 1, 1) := by decide +kernel
theorem dX5_wake_21 : decode cX5_wake 21 = .ok (.goto 4, 3) := by decide +kernel
theorem dX5_wake_24 : decode cX5_wake 24 = .ok (.iconst 0, 1) := by decide +kernel
theorem dX5_wake_25 : decode cX5_wake 25 = .ok (.istore 4, 2) := by decide +kernel
theorem dX5_wake_27 : decode cX5_wake 27 = .ok (.aload_n 0, 1) := by decide +kernel
theorem dX5_wake_28 : decode cX5_wake 28 = .ok (.iload 4, 2) := by decide +kernel
theorem dX5_wake_30 : decode cX5_wake 30 = .ok (.ifCond .ne 7, 3) := by decide +kernel
theorem dX5_wake_33 : decode cX5_wake 33 = .ok (.iconst 1, 1) := by decide +kernel
theorem dX5_wake_34 : decode cX5_wake 34 = .ok (.goto 19, 3) := by decide +kernel
theorem dX5_wake_37 : decode cX5_wake 37 = .ok (.iload_n 3, 1) := by decide +kernel
theorem dX5_wake_38 : decode cX5_wake 38 = .ok (.ldc 103, 2) := by decide +kernel
theorem dX5_wake_40 : decode cX5_wake 40 = .ok (.ldc 104, 2) := by decide +kernel
theorem dX5_wake_42 : decode cX5_wake 42 = .ok (.invokestatic 89, 3) := by decide +kernel
theorem dX5_wake_45 : decode cX5_wake 45 = .ok (.ifCond .eq 7, 3) := by decide +kernel
theorem dX5_wake_48 : decode cX5_wake 48 = .ok (.iconst 0, 1) := by decide +kernel
theorem dX5_wake_49 : decode cX5_wake 49 = .ok (.goto 4, 3) := by decide +kernel
theorem dX5_wake_52 : decode cX5_wake 52 = .ok (.iconst 2, 1) := by decide +kernel
theorem dX5_wake_53 : decode cX5_wake 53 = .ok (.putfield 85, 3) := by decide +kernel
theorem dX5_wake_56 : decode cX5_wake 56 = .ok (.aload_n 0, 1) := by decide +kernel
theorem dX5_wake_57 : decode cX5_wake 57 = .ok (.getfield 85, 3) := by decide +kernel
theorem dX5_wake_60 : decode cX5_wake 60 = .ok (.ifCond .le 5, 3) := by decide +kernel
theorem dX5_wake_63 : decode cX5_wake 63 = .ok (.iconst 0, 1) := by decide +kernel
theorem dX5_wake_64 : decode cX5_wake 64 = .ok (.ireturn, 1) := by decide +kernel
theorem dX5_wake_65 : decode cX5_wake 65 = .ok (.aload_n 0, 1) := by decide +kernel
theorem dX5_wake_66 : decode cX5_wake 66 = .ok (.getfield 60, 3) := by decide +kernel
theorem dX5_wake_69 : decode cX5_wake 69 = .ok (.iload_n 1, 1) := by decide +kernel
theorem dX5_wake_70 : decode cX5_wake 70 = .ok (.iaload, 1) := by decide +kernel
theorem dX5_wake_71 : decode cX5_wake 71 = .ok (.istore 5, 2) := by decide +kernel
theorem dX5_wake_73 : decode cX5_wake 73 = .ok (.aload_n 0, 1) := by decide +kernel
theorem dX5_wake_74 : decode cX5_wake 74 = .ok (.getfield 60, 3) := by decide +kernel
theorem dX5_wake_77 : decode cX5_wake 77 = .ok (.iload_n 1, 1) := by decide +kernel
theorem dX5_wake_78 : decode cX5_wake 78 = .ok (.iload_n 2, 1) := by decide +kernel
theorem dX5_wake_79 : decode cX5_wake 79 = .ok (.iastore, 1) := by decide +kernel
theorem dX5_wake_80 : decode cX5_wake 80 = .ok (.aload_n 0, 1) := by decide +kernel
theorem dX5_wake_81 : decode cX5_wake 81 = .ok (.getfield 63, 3) := by decide +kernel
theorem dX5_wake_84 : decode cX5_wake 84 = .ok (.iload_n 1, 1) := by decide +kernel
theorem dX5_wake_85 : decode cX5_wake 85 = .ok (.iload_n 3, 1) := by decide +kernel
theorem dX5_wake_86 : decode cX5_wake 86 = .ok (.iastore, 1) := by decide +kernel
theorem dX5_wake_87 : decode cX5_wake 87 = .ok (.iload 5, 2) := by decide +kernel
theorem dX5_wake_89 : decode cX5_wake 89 = .ok (.ireturn, 1) := by decide +kernel
theorem dX5_curesAround_0 : decode cX5_curesAround 0 = .ok (.iconst 0, 1) := by decide +kernel
theorem dX5_curesAround_1 : decode cX5_curesAround 1 = .ok (.istore_n 3, 1) := by decide +kernel
theorem dX5_curesAround_2 : decode cX5_curesAround 2 = .ok (.iload_n 2, 1) := by decide +kernel
theorem dX5_curesAround_3 : decode cX5_curesAround 3 = .ok (.iconst 3, 1) := by decide +kernel
theorem dX5_curesAround_4 : decode cX5_curesAround 4 = .ok (.isub, 1) := by decide +kernel
theorem dX5_curesAround_5 : decode cX5_curesAround 5 = .ok (.istore 4, 2) := by decide +kernel
theorem dX5_curesAround_7 : decode cX5_curesAround 7 = .ok (.iload 4, 2) := by decide +kernel
theorem dX5_curesAround_9 : decode cX5_curesAround 9 = .ok (.iload_n 2, 1) := by decide +kernel
theorem dX5_curesAround_10 : decode cX5_curesAround 10 = .ok (.if_icmp .gt 89, 3) := by decide +kernel
theorem dX5_curesAround_13 : decode cX5_curesAround 13 = .ok (.iconst 0, 1) := by decide +kernel
theorem dX5_curesAround_14 : decode cX5_curesAround 14 = .ok (.istore 5, 2) := by decide +kernel
theorem dX5_curesAround_16 : decode cX5_curesAround 16 = .ok (.iload 4, 2) := by decide +kernel
theorem dX5_curesAround_18 : decode cX5_curesAround 18 = .ok (.istore 6, 2) := by decide +kernel
theorem dX5_curesAround_20 : decode cX5_curesAround 20 = .ok (.iload 6, 2) := by decide +kernel
theorem dX5_curesAround_22 : decode cX5_curesAround 22 = .ok (.iload 4, 2) := by decide +kernel
theorem dX5_curesAround_24 : decode cX5_curesAround 24 = .ok (.iconst 4, 1) := by decide +kernel
theorem dX5_curesAround_25 : decode cX5_curesAround 25 = .ok (.iadd, 1) := by decide +kernel
theorem dX5_curesAround_26 : decode cX5_curesAround 26 = .ok (.if_icmp .ge 54, 3) := by decide +kernel
theorem dX5_curesAround_29 : decode cX5_curesAround 29 = .ok (.iload 5, 2) := by decide +kernel
theorem dX5_curesAround_31 : decode cX5_curesAround 31 = .ok (.iload 6, 2) := by decide +kernel
theorem dX5_curesAround_33 : decode cX5_curesAround 33 = .ok (.invokestatic 100, 3) := by decide +kernel
theorem dX5_curesAround_36 : decode cX5_curesAround 36 = .ok (.ifCond .eq 34, 3) := by decide +kernel
theorem dX5_curesAround_39 : decode cX5_curesAround 39 = .ok (.aload_n 0, 1) := by decide +kernel
theorem dX5_curesAround_40 : decode cX5_curesAround 40 = .ok (.getfield 66, 3) := by decide +kernel
theorem dX5_curesAround_43 : decode cX5_curesAround 43 = .ok (.bipush 20, 2) := by decide +kernel
theorem dX5_curesAround_45 : decode cX5_curesAround 45 = .ok (.iload_n 1, 1) := by decide +kernel
theorem dX5_curesAround_46 : decode cX5_curesAround 46 = .ok (.imul, 1) := by decide +kernel
theorem dX5_curesAround_47 : decode cX5_curesAround 47 = .ok (.iload 6, 2) := by decide +kernel
theorem dX5_curesAround_49 : decode cX5_curesAround 49 = .ok (.invokestatic 100, 3) := by decide +kernel
theorem dX5_curesAround_52 : decode cX5_curesAround 52 = .ok (.ifCond .eq 8, 3) := by decide +kernel
theorem dX5_curesAround_55 : decode cX5_curesAround 55 = .ok (.iload 6, 2) := by decide +kernel
theorem dX5_curesAround_57 : decode cX5_curesAround 57 = .ok (.goto 4, 3) := by decide +kernel
theorem dX5_curesAround_60 : decode cX5_curesAround 60 = .ok (.iconst 0, 1) := by decide +kernel
theorem dX5_curesAround_61 : decode cX5_curesAround 61 = .ok (.iadd, 1) := by decide +kernel
theorem dX5_curesAround_62 : decode cX5_curesAround 62 = .ok (.iaload, 1) := by decide +kernel
theorem dX5_curesAround_63 : decode cX5_curesAround 63 = .ok (.ifCond .le 7, 3) := by decide +kernel
theorem dX5_curesAround_66 : decode cX5_curesAround 66 = .ok (.iconst 1, 1) := by decide +kernel
theorem dX5_curesAround_67 : decode cX5_curesAround 67 = .ok (.goto 4, 3) := by decide +kernel
theorem dX5_curesAround_70 : decode cX5_curesAround 70 = .ok (.iconst 0, 1) := by decide +kernel
theorem dX5_curesAround_71 : decode cX5_curesAround 71 = .ok (.iadd, 1) := by decide +kernel
theorem dX5_curesAround_72 : decode cX5_curesAround 72 = .ok (.istore 5, 2) := by decide +kernel
theorem dX5_curesAround_74 : decode cX5_curesAround 74 = .ok (.iinc 6 1, 3) := by decide +kernel
theorem dX5_curesAround_77 : decode cX5_curesAround 77 = .ok (.goto (-57), 3) := by decide +kernel
theorem dX5_curesAround_80 : decode cX5_curesAround 80 = .ok (.iload 5, 2) := by decide +kernel
theorem dX5_curesAround_82 : decode cX5_curesAround 82 = .ok (.iload_n 3, 1) := by decide +kernel
theorem dX5_curesAround_83 : decode cX5_curesAround 83 = .ok (.if_icmp .le 8, 3) := by decide +kernel
theorem dX5_curesAround_86 : decode cX5_curesAround 86 = .ok (.iload 5, 2) := by decide +kernel
theorem dX5_curesAround_88 : decode cX5_curesAround 88 = .ok (.goto 4, 3) := by decide +kernel
theorem dX5_curesAround_91 : decode cX5_curesAround 91 = .ok (.iload_n 3, 1) := by decide +kernel
theorem dX5_curesAround_92 : decode cX5_curesAround 92 = .ok (.istore_n 3, 1) := by decide +kernel
theorem dX5_curesAround_93 : decode cX5_curesAround 93 = .ok (.iinc 4 1, 3) := by decide +kernel
theorem dX5_curesAround_96 : decode cX5_curesAround 96 = .ok (.goto (-89), 3) := by decide +kernel
theorem dX5_curesAround_99 : decode cX5_curesAround 99 = .ok (.iload_n 3, 1) := by decide +kernel
theorem dX5_curesAround_100 : decode cX5_curesAround 100 = .ok (.ireturn, 1) := by decide +kernel
theorem dX5_cure_0 : decode cX5_cure 0 = .ok (.aload_n 0, 1) := by decide +kernel
theorem dX5_cure_1 : decode cX5_cure 1 = .ok (.aload_n 0, 1) := by decide +kernel
theorem dX5_cure_2 : decode cX5_cure 2 = .ok (.iload_n 1, 1) := by decide +kernel
theorem dX5_cure_3 : decode cX5_cure 3 = .ok (.invokevirtual 180, 3) := by decide +kernel
theorem dX5_cure_6 : decode cX5_cure 6 = .ok (.ifCond .eq 10, 3) := by decide +kernel
theorem dX5_cure_9 : decode cX5_cure 9 = .ok (.iload_n 2, 1) := by decide +kernel
theorem dX5_cure_10 : decode cX5_cure 10 = .ok (.invokestatic 100, 3) := by decide +kernel
theorem dX5_cure_13 : decode cX5_cure 13 = .ok (.ifCond .ne 7, 3) := by decide +kernel
theorem dX5_cure_16 : decode cX5_cure 16 = .ok (.iconst 1, 1) := by decide +kernel
theorem dX5_cure_17 : decode cX5_cure 17 = .ok (.goto 18, 3) := by decide +kernel
theorem dX5_cure_20 : decode cX5_cure 20 = .ok (.iload_n 3, 1) := by decide +kernel
theorem dX5_cure_21 : decode cX5_cure 21 = .ok (.iconst 1, 1) := by decide +kernel
theorem dX5_cure_22 : decode cX5_cure 22 = .ok (.ldc 104, 2) := by decide +kernel
theorem dX5_cure_24 : decode cX5_cure 24 = .ok (.invokestatic 89, 3) := by decide +kernel
theorem dX5_cure_27 : decode cX5_cure 27 = .ok (.ifCond .eq 7, 3) := by decide +kernel
theorem dX5_cure_30 : decode cX5_cure 30 = .ok (.iconst 0, 1) := by decide +kernel
theorem dX5_cure_31 : decode cX5_cure 31 = .ok (.goto 4, 3) := by decide +kernel
theorem dX5_cure_34 : decode cX5_cure 34 = .ok (.iconst 2, 1) := by decide +kernel
theorem dX5_cure_35 : decode cX5_cure 35 = .ok (.putfield 85, 3) := by decide +kernel
theorem dX5_cure_38 : decode cX5_cure 38 = .ok (.aload_n 0, 1) := by decide +kernel
theorem dX5_cure_39 : decode cX5_cure 39 = .ok (.getfield 85, 3) := by decide +kernel
theorem dX5_cure_42 : decode cX5_cure 42 = .ok (.ifCond .le 5, 3) := by decide +kernel
theorem dX5_cure_45 : decode cX5_cure 45 = .ok (.iconst 0, 1) := by decide +kernel
theorem dX5_cure_46 : decode cX5_cure 46 = .ok (.ireturn, 1) := by decide +kernel
theorem dX5_cure_47 : decode cX5_cure 47 = .ok (.aload_n 0, 1) := by decide +kernel
theorem dX5_cure_48 : decode cX5_cure 48 = .ok (.aload_n 0, 1) := by decide +kernel
theorem dX5_cure_49 : decode cX5_cure 49 = .ok (.getfield 66, 3) := by decide +kernel
theorem dX5_cure_52 : decode cX5_cure 52 = .ok (.bipush 20, 2) := by decide +kernel
theorem dX5_cure_54 : decode cX5_cure 54 = .ok (.iload_n 1, 1) := by decide +kernel
theorem dX5_cure_55 : decode cX5_cure 55 = .ok (.imul, 1) := by decide +kernel
theorem dX5_cure_56 : decode cX5_cure 56 = .ok (.iload_n 2, 1) := by decide +kernel
theorem dX5_cure_57 : decode cX5_cure 57 = .ok (.iadd, 1) := by decide +kernel
theorem dX5_cure_58 : decode cX5_cure 58 = .ok (.iaload, 1) := by decide +kernel
theorem dX5_cure_59 : decode cX5_cure 59 = .ok (.ifCond .gt 13, 3) := by decide +kernel
theorem dX5_cure_62 : decode cX5_cure 62 = .ok (.aload_n 0, 1) := by decide +kernel
theorem dX5_cure_63 : decode cX5_cure 63 = .ok (.iload_n 1, 1) := by decide +kernel
theorem dX5_cure_64 : decode cX5_cure 64 = .ok (.iload_n 2, 1) := by decide +kernel
theorem dX5_cure_65 : decode cX5_cure 65 = .ok (.invokevirtual 183, 3) := by decide +kernel
theorem dX5_cure_68 : decode cX5_cure 68 = .ok (.iconst 1, 1) := by decide +kernel
theorem dX5_cure_69 : decode cX5_cure 69 = .ok (.if_icmp .le 7, 3) := by decide +kernel
theorem dX5_cure_72 : decode cX5_cure 72 = .ok (.iconst 3, 1) := by decide +kernel
theorem dX5_cure_73 : decode cX5_cure 73 = .ok (.goto 4, 3) := by decide +kernel
theorem dX5_cure_76 : decode cX5_cure 76 = .ok (.iconst 0, 1) := by decide +kernel
theorem dX5_cure_77 : decode cX5_cure 77 = .ok (.putfield 85, 3) := by decide +kernel
theorem dX5_cure_80 : decode cX5_cure 80 = .ok (.aload_n 0, 1) := by decide +kernel
theorem dX5_cure_81 : decode cX5_cure 81 = .ok (.getfield 85, 3) := by decide +kernel
theorem dX5_cure_84 : decode cX5_cure 84 = .ok (.ifCond .le 5, 3) := by decide +kernel
theorem dX5_cure_87 : decode cX5_cure 87 = .ok (.iconst 0, 1) := by decide +kernel
theorem dX5_cure_88 : decode cX5_cure 88 = .ok (.ireturn, 1) := by decide +kernel
theorem dX5_cure_89 : decode cX5_cure 89 = .ok (.aload_n 0, 1) := by decide +kernel
theorem dX5_cure_90 : decode cX5_cure 90 = .ok (.getfield 66, 3) := by decide +kernel
theorem dX5_cure_93 : decode cX5_cure 93 = .ok (.bipush 20, 2) := by decide +kernel
theorem dX5_cure_95 : decode cX5_cure 95 = .ok (.iload_n 1, 1) := by decide +kernel
theorem dX5_cure_96 : decode cX5_cure 96 = .ok (.imul, 1) := by decide +kernel
theorem dX5_cure_97 : decode cX5_cure 97 = .ok (.iload_n 2, 1) := by decide +kernel
theorem dX5_cure_98 : decode cX5_cure 98 = .ok (.iadd, 1) := by decide +kernel
theorem dX5_cure_99 : decode cX5_cure 99 = .ok (.iload_n 3, 1) := by decide +kernel
theorem dX5_cure_100 : decode cX5_cure 100 = .ok (.iastore, 1) := by decide +kernel
theorem dX5_cure_101 : decode cX5_cure 101 = .ok (.iconst 0, 1) := by decide +kernel
theorem dX5_cure_102 : decode cX5_cure 102 = .ok (.istore 4, 2) := by decide +kernel
theorem dX5_cure_104 : decode cX5_cure 104 = .ok (.iconst 0, 1) := by decide +kernel
theorem dX5_cure_105 : decode cX5_cure 105 = .ok (.istore 5, 2) := by decide +kernel
theorem dX5_cure_107 : decode cX5_cure 107 = .ok (.iload 5, 2) := by decide +kernel
theorem dX5_cure_109 : decode cX5_cure 109 = .ok (.bipush 20, 2) := by decide +kernel
theorem dX5_cure_111 : decode cX5_cure 111 = .ok (.if_icmp .ge 34, 3) := by decide +kernel
theorem dX5_cure_114 : decode cX5_cure 114 = .ok (.iload 4, 2) := by decide +kernel
theorem dX5_cure_116 : decode cX5_cure 116 = .ok (.aload_n 0, 1) := by decide +kernel
theorem dX5_cure_117 : decode cX5_cure 117 = .ok (.getfield 66, 3) := by decide +kernel
theorem dX5_cure_120 : decode cX5_cure 120 = .ok (.bipush 20, 2) := by decide +kernel
theorem dX5_cure_122 : decode cX5_cure 122 = .ok (.iload_n 1, 1) := by decide +kernel
theorem dX5_cure_123 : decode cX5_cure 123 = .ok (.imul, 1) := by decide +kernel
theorem dX5_cure_124 : decode cX5_cure 124 = .ok (.iload 5, 2) := by decide +kernel
theorem dX5_cure_126 : decode cX5_cure 126 = .ok (.iadd, 1) := by decide +kernel
theorem dX5_cure_127 : decode cX5_cure 127 = .ok (.iaload, 1) := by decide +kernel
theorem dX5_cure_128 : decode cX5_cure 128 = .ok (.ifCond .le 7, 3) := by decide +kernel
theorem dX5_cure_131 : decode cX5_cure 131 = .ok (.iconst 1, 1) := by decide +kernel
theorem dX5_cure_132 : decode cX5_cure 132 = .ok (.goto 4, 3) := by decide +kernel
theorem dX5_cure_135 : decode cX5_cure 135 = .ok (.iconst 0, 1) := by decide +kernel
theorem dX5_cure_136 : decode cX5_cure 136 = .ok (.iadd, 1) := by decide +kernel
theorem dX5_cure_137 : decode cX5_cure 137 = .ok (.istore 4, 2) := by decide +kernel
theorem dX5_cure_139 : decode cX5_cure 139 = .ok (.iinc 5 1, 3) := by decide +kernel
theorem dX5_cure_142 : decode cX5_cure 142 = .ok (.goto (-35), 3) := by decide +kernel
theorem dX5_cure_145 : decode cX5_cure 145 = .ok (.iload 4, 2) := by decide +kernel
theorem dX5_cure_147 : decode cX5_cure 147 = .ok (.ireturn, 1) := by decide +kernel
theorem dX5_waive_0 : decode cX5_waive 0 = .ok (.aload_n 0, 1) := by decide +kernel
theorem dX5_waive_1 : decode cX5_waive 1 = .ok (.aload_n 0, 1) := by decide +kernel
theorem dX5_waive_2 : decode cX5_waive 2 = .ok (.iload_n 1, 1) := by decide +kernel
theorem dX5_waive_3 : decode cX5_waive 3 = .ok (.invokevirtual 180, 3) := by decide +kernel
theorem dX5_waive_6 : decode cX5_waive 6 = .ok (.ifCond .eq 14, 3) := by decide +kernel
theorem dX5_waive_9 : decode cX5_waive 9 = .ok (.iload_n 2, 1) := by decide +kernel
theorem dX5_waive_10 : decode cX5_waive 10 = .ok (.invokestatic 100, 3) := by decide +kernel
theorem dX5_waive_13 : decode cX5_waive 13 = .ok (.ifCond .eq 7, 3) := by decide +kernel
theorem dX5_waive_16 : decode cX5_waive 16 = .ok (.iconst 0, 1) := by decide +kernel
theorem dX5_waive_17 : decode cX5_waive 17 = .ok (.goto 4, 3) := by decide +kernel
theorem dX5_waive_20 : decode cX5_waive 20 = .ok (.iconst 1, 1) := by decide +kernel
theorem dX5_waive_21 : decode cX5_waive 21 = .ok (.putfield 85, 3) := by decide +kernel
theorem dX5_waive_24 : decode cX5_waive 24 = .ok (.aload_n 0, 1) := by decide +kernel
theorem dX5_waive_25 : decode cX5_waive 25 = .ok (.getfield 85, 3) := by decide +kernel
theorem dX5_waive_28 : decode cX5_waive 28 = .ok (.ifCond .le 5, 3) := by decide +kernel
theorem dX5_waive_31 : decode cX5_waive 31 = .ok (.iconst 0, 1) := by decide +kernel
theorem dX5_waive_32 : decode cX5_waive 32 = .ok (.ireturn, 1) := by decide +kernel
theorem dX5_waive_33 : decode cX5_waive 33 = .ok (.aload_n 0, 1) := by decide +kernel
theorem dX5_waive_34 : decode cX5_waive 34 = .ok (.getfield 69, 3) := by decide +kernel
theorem dX5_waive_37 : decode cX5_waive 37 = .ok (.bipush 20, 2) := by decide +kernel
theorem dX5_waive_39 : decode cX5_waive 39 = .ok (.iload_n 1, 1) := by decide +kernel
theorem dX5_waive_40 : decode cX5_waive 40 = .ok (.imul, 1) := by decide +kernel
theorem dX5_waive_41 : decode cX5_waive 41 = .ok (.iload_n 2, 1) := by decide +kernel
theorem dX5_waive_42 : decode cX5_waive 42 = .ok (.iadd, 1) := by decide +kernel
theorem dX5_waive_43 : decode cX5_waive 43 = .ok (.aload_n 0, 1) := by decide +kernel
theorem dX5_waive_44 : decode cX5_waive 44 = .ok (.getfield 69, 3) := by decide +kernel
theorem dX5_waive_47 : decode cX5_waive 47 = .ok (.bipush 20, 2) := by decide +kernel
theorem dX5_waive_49 : decode cX5_waive 49 = .ok (.iload_n 1, 1) := by decide +kernel
theorem dX5_waive_50 : decode cX5_waive 50 = .ok (.imul, 1) := by decide +kernel
theorem dX5_waive_51 : decode cX5_waive 51 = .ok (.iload_n 2, 1) := by decide +kernel
theorem dX5_waive_52 : decode cX5_waive 52 = .ok (.iadd, 1) := by decide +kernel
theorem dX5_waive_53 : decode cX5_waive 53 = .ok (.baload, 1) := by decide +kernel
theorem dX5_waive_54 : decode cX5_waive 54 = .ok (.ifCond .ne 7, 3) := by decide +kernel
theorem dX5_waive_57 : decode cX5_waive 57 = .ok (.iconst 1, 1) := by decide +kernel
theorem dX5_waive_58 : decode cX5_waive 58 = .ok (.goto 4, 3) := by decide +kernel
theorem dX5_waive_61 : decode cX5_waive 61 = .ok (.iconst 0, 1) := by decide +kernel
theorem dX5_waive_62 : decode cX5_waive 62 = .ok (.bastore, 1) := by decide +kernel
theorem dX5_waive_63 : decode cX5_waive 63 = .ok (.aload_n 0, 1) := by decide +kernel
theorem dX5_waive_64 : decode cX5_waive 64 = .ok (.getfield 69, 3) := by decide +kernel
theorem dX5_waive_67 : decode cX5_waive 67 = .ok (.bipush 20, 2) := by decide +kernel
theorem dX5_waive_69 : decode cX5_waive 69 = .ok (.iload_n 1, 1) := by decide +kernel
theorem dX5_waive_70 : decode cX5_waive 70 = .ok (.imul, 1) := by decide +kernel
theorem dX5_waive_71 : decode cX5_waive 71 = .ok (.iload_n 2, 1) := by decide +kernel
theorem dX5_waive_72 : decode cX5_waive 72 = .ok (.iadd, 1) := by decide +kernel
theorem dX5_waive_73 : decode cX5_waive 73 = .ok (.baload, 1) := by decide +kernel
theorem dX5_waive_74 : decode cX5_waive 74 = .ok (.ireturn, 1) := by decide +kernel
theorem dX5_isKept_0 : decode cX5_isKept 0 = .ok (.aload_n 0, 1) := by decide +kernel
theorem dX5_isKept_1 : decode cX5_isKept 1 = .ok (.getfield 37, 3) := by decide +kernel
theorem dX5_isKept_4 : decode cX5_isKept 4 = .ok (.bipush 20, 2) := by decide +kernel
theorem dX5_isKept_6 : decode cX5_isKept 6 = .ok (.aload_n 0, 1) := by decide +kernel
theorem dX5_isKept_7 : decode cX5_isKept 7 = .ok (.getfield 51, 3) := by decide +kernel
theorem dX5_isKept_10 : decode cX5_isKept 10 = .ok (.iload_n 1, 1) := by decide +kernel
theorem dX5_isKept_11 : decode cX5_isKept 11 = .ok (.iaload, 1) := by decide +kernel
theorem dX5_isKept_12 : decode cX5_isKept 12 = .ok (.imul, 1) := by decide +kernel
theorem dX5_isKept_13 : decode cX5_isKept 13 = .ok (.iload_n 2, 1) := by decide +kernel
theorem dX5_isKept_14 : decode cX5_isKept 14 = .ok (.iadd, 1) := by decide +kernel
theorem dX5_isKept_15 : decode cX5_isKept 15 = .ok (.laload, 1) := by decide +kernel
theorem dX5_isKept_16 : decode cX5_isKept 16 = .ok (.lstore 5, 2) := by decide +kernel
theorem dX5_isKept_18 : decode cX5_isKept 18 = .ok (.aload_n 0, 1) := by decide +kernel
theorem dX5_isKept_19 : decode cX5_isKept 19 = .ok (.getfield 37, 3) := by decide +kernel
theorem dX5_isKept_22 : decode cX5_isKept 22 = .ok (.bipush 20, 2) := by decide +kernel
theorem dX5_isKept_24 : decode cX5_isKept 24 = .ok (.aload_n 0, 1) := by decide +kernel
theorem dX5_isKept_25 : decode cX5_isKept 25 = .ok (.getfield 54, 3) := by decide +kernel
theorem dX5_isKept_28 : decode cX5_isKept 28 = .ok (.iload_n 1, 1) := by decide +kernel
theorem dX5_isKept_29 : decode cX5_isKept 29 = .ok (.iaload, 1) := by decide +kernel
theorem dX5_isKept_30 : decode cX5_isKept 30 = .ok (.imul, 1) := by decide +kernel
theorem dX5_isKept_31 : decode cX5_isKept 31 = .ok (.iload_n 2, 1) := by decide +kernel
theorem dX5_isKept_32 : decode cX5_isKept 32 = .ok (.iadd, 1) := by decide +kernel
theorem dX5_isKept_33 : decode cX5_isKept 33 = .ok (.laload, 1) := by decide +kernel
theorem dX5_isKept_34 : decode cX5_isKept 34 = .ok (.lload_n 3, 1) := by decide +kernel
theorem dX5_isKept_35 : decode cX5_isKept 35 = .ok (.ladd, 1) := by decide +kernel
theorem dX5_isKept_36 : decode cX5_isKept 36 = .ok (.lstore 7, 2) := by decide +kernel
theorem dX5_isKept_38 : decode cX5_isKept 38 = .ok (.lload 7, 2) := by decide +kernel
theorem dX5_isKept_40 : decode cX5_isKept 40 = .ok (.lconst 0, 1) := by decide +kernel
theorem dX5_isKept_41 : decode cX5_isKept 41 = .ok (.lcmp, 1) := by decide +kernel
theorem dX5_isKept_42 : decode cX5_isKept 42 = .ok (.ifCond .le 27, 3) := by decide +kernel
theorem dX5_isKept_45 : decode cX5_isKept 45 = .ok (.ldc2_w 186, 3) := by decide +kernel
theorem dX5_isKept_48 : decode cX5_isKept 48 = .ok (.lload 5, 2) := by decide +kernel
theorem dX5_isKept_50 : decode cX5_isKept 50 = .ok (.lmul, 1) := by decide +kernel
theorem dX5_isKept_51 : decode cX5_isKept 51 = .ok (.aload_n 0, 1) := by decide +kernel
theorem dX5_isKept_52 : decode cX5_isKept 52 = .ok (.iload_n 1, 1) := by decide +kernel
theorem dX5_isKept_53 : decode cX5_isKept 53 = .ok (.iload_n 2, 1) := by decide +kernel
theorem dX5_isKept_54 : decode cX5_isKept 54 = .ok (.invokevirtual 188, 3) := by decide +kernel
theorem dX5_isKept_57 : decode cX5_isKept 57 = .ok (.i2l, 1) := by decide +kernel
theorem dX5_isKept_58 : decode cX5_isKept 58 = .ok (.lload 7, 2) := by decide +kernel
theorem dX5_isKept_60 : decode cX5_isKept 60 = .ok (.lmul, 1) := by decide +kernel
theorem dX5_isKept_61 : decode cX5_isKept 61 = .ok (.lcmp, 1) := by decide +kernel
theorem dX5_isKept_62 : decode cX5_isKept 62 = .ok (.ifCond .gt 7, 3) := by decide +kernel
theorem dX5_isKept_65 : decode cX5_isKept 65 = .ok (.iconst 1, 1) := by decide +kernel
theorem dX5_isKept_66 : decode cX5_isKept 66 = .ok (.goto 4, 3) := by decide +kernel
theorem dX5_isKept_69 : decode cX5_isKept 69 = .ok (.iconst 0, 1) := by decide +kernel
theorem dX5_isKept_70 : decode cX5_isKept 70 = .ok (.ireturn, 1) := by decide +kernel
theorem dX5_stateOf_0 : decode cX5_stateOf 0 = .ok (.aload_n 0, 1) := by decide +kernel
theorem dX5_stateOf_1 : decode cX5_stateOf 1 = .ok (.getfield 60, 3) := by decide +kernel
theorem dX5_stateOf_4 : decode cX5_stateOf 4 = .ok (.iload_n 1, 1) := by decide +kernel
theorem dX5_stateOf_5 : decode cX5_stateOf 5 = .ok (.iaload, 1) := by decide +kernel
theorem dX5_stateOf_6 : decode cX5_stateOf 6 = .ok (.iconst (-1), 1) := by decide +kernel
theorem dX5_stateOf_7 : decode cX5_stateOf 7 = .ok (.if_icmp .eq 46, 3) := by decide +kernel
theorem dX5_stateOf_10 : decode cX5_stateOf 10 = .ok (.aload_n 0, 1) := by decide +kernel
theorem dX5_stateOf_11 : decode cX5_stateOf 11 = .ok (.getfield 7, 3) := by decide +kernel
theorem dX5_stateOf_14 : decode cX5_stateOf 14 = .ok (.bipush 20, 2) := by decide +kernel
theorem dX5_stateOf_16 : decode cX5_stateOf 16 = .ok (.aload_n 0, 1) := by decide +kernel
theorem dX5_stateOf_17 : decode cX5_stateOf 17 = .ok (.getfield 60, 3) := by decide +kernel
theorem dX5_stateOf_20 : decode cX5_stateOf 20 = .ok (.iload_n 1, 1) := by decide +kernel
theorem dX5_stateOf_21 : decode cX5_stateOf 21 = .ok (.iaload, 1) := by decide +kernel
theorem dX5_stateOf_22 : decode cX5_stateOf 22 = .ok (.iconst (-1), 1) := by decide +kernel
theorem dX5_stateOf_23 : decode cX5_stateOf 23 = .ok (.if_icmp .ne 7, 3) := by decide +kernel
theorem dX5_stateOf_26 : decode cX5_stateOf 26 = .ok (.iconst 0, 1) := by decide +kernel
theorem dX5_stateOf_27 : decode cX5_stateOf 27 = .ok (.goto 9, 3) := by decide +kernel
theorem dX5_stateOf_30 : decode cX5_stateOf 30 = .ok (.aload_n 0, 1) := by decide +kernel
theorem dX5_stateOf_31 : decode cX5_stateOf 31 = .ok (.getfield 60, 3) := by decide +kernel
theorem dX5_stateOf_34 : decode cX5_stateOf 34 = .ok (.iload_n 1, 1) := by decide +kernel
theorem dX5_stateOf_35 : decode cX5_stateOf 35 = .ok (.iaload, 1) := by decide +kernel
theorem dX5_stateOf_36 : decode cX5_stateOf 36 = .ok (.imul, 1) := by decide +kernel
theorem dX5_stateOf_37 : decode cX5_stateOf 37 = .ok (.iload_n 2, 1) := by decide +kernel
theorem dX5_stateOf_38 : decode cX5_stateOf 38 = .ok (.iadd, 1) := by decide +kernel
theorem dX5_stateOf_39 : decode cX5_stateOf 39 = .ok (.iaload, 1) := by decide +kernel
theorem dX5_stateOf_40 : decode cX5_stateOf 40 = .ok (.aload_n 0, 1) := by decide +kernel
theorem dX5_stateOf_41 : decode cX5_stateOf 41 = .ok (.getfield 63, 3) := by decide +kernel
theorem dX5_stateOf_44 : decode cX5_stateOf 44 = .ok (.iload_n 1, 1) := by decide +kernel
theorem dX5_stateOf_45 : decode cX5_stateOf 45 = .ok (.iaload, 1) := by decide +kernel
theorem dX5_stateOf_46 : decode cX5_stateOf 46 = .ok (.if_icmp .ge 7, 3) := by decide +kernel
theorem dX5_stateOf_49 : decode cX5_stateOf 49 = .ok (.iconst 1, 1) := by decide +kernel
theorem dX5_stateOf_50 : decode cX5_stateOf 50 = .ok (.goto 4, 3) := by decide +kernel
theorem dX5_stateOf_53 : decode cX5_stateOf 53 = .ok (.iconst 0, 1) := by decide +kernel
theorem dX5_stateOf_54 : decode cX5_stateOf 54 = .ok (.istore_n 3, 1) := by decide +kernel
theorem dX5_stateOf_55 : decode cX5_stateOf 55 = .ok (.iload_n 3, 1) := by decide +kernel
theorem dX5_stateOf_56 : decode cX5_stateOf 56 = .ok (.ifCond .ne 13, 3) := by decide +kernel
theorem dX5_stateOf_59 : decode cX5_stateOf 59 = .ok (.aload_n 0, 1) := by decide +kernel
theorem dX5_stateOf_60 : decode cX5_stateOf 60 = .ok (.iload_n 1, 1) := by decide +kernel
theorem dX5_stateOf_61 : decode cX5_stateOf 61 = .ok (.iload_n 2, 1) := by decide +kernel
theorem dX5_stateOf_62 : decode cX5_stateOf 62 = .ok (.invokevirtual 188, 3) := by decide +kernel
theorem dX5_stateOf_65 : decode cX5_stateOf 65 = .ok (.iconst (-1), 1) := by decide +kernel
theorem dX5_stateOf_66 : decode cX5_stateOf 66 = .ok (.if_icmp .ne 5, 3) := by decide +kernel
theorem dX5_stateOf_69 : decode cX5_stateOf 69 = .ok (.iconst 0, 1) := by decide +kernel
theorem dX5_stateOf_70 : decode cX5_stateOf 70 = .ok (.ireturn, 1) := by decide +kernel
theorem dX5_stateOf_71 : decode cX5_stateOf 71 = .ok (.aload_n 0, 1) := by decide +kernel
theorem dX5_stateOf_72 : decode cX5_stateOf 72 = .ok (.getfield 66, 3) := by decide +kernel
theorem dX5_stateOf_75 : decode cX5_stateOf 75 = .ok (.bipush 20, 2) := by decide +kernel
theorem dX5_stateOf_77 : decode cX5_stateOf 77 = .ok (.iload_n 1, 1) := by decide +kernel
theorem dX5_stateOf_78 : decode cX5_stateOf 78 = .ok (.imul, 1) := by decide +kernel
theorem dX5_stateOf_79 : decode cX5_stateOf 79 = .ok (.iload_n 2, 1) := by decide +kernel
theorem dX5_stateOf_80 : decode cX5_stateOf 80 = .ok (.iadd, 1) := by decide +kernel
theorem dX5_stateOf_81 : decode cX5_stateOf 81 = .ok (.iaload, 1) := by decide +kernel
theorem dX5_stateOf_82 : decode cX5_stateOf 82 = .ok (.istore 4, 2) := by decide +kernel
theorem dX5_stateOf_84 : decode cX5_stateOf 84 = .ok (.aload_n 0, 1) := by decide +kernel
theorem dX5_stateOf_85 : decode cX5_stateOf 85 = .ok (.iload_n 1, 1) := by decide +kernel
theorem dX5_stateOf_86 : decode cX5_stateOf 86 = .ok (.iload_n 2, 1) := by decide +kernel
theorem dX5_stateOf_87 : decode cX5_stateOf 87 = .ok (.lconst 0, 1) := by decide +kernel
theorem dX5_stateOf_88 : decode cX5_stateOf 88 = .ok (.invokevirtual 191, 3) := by decide +kernel
theorem dX5_stateOf_91 : decode cX5_stateOf 91 = .ok (.ifCond .eq 5, 3) := by decide +kernel
theorem dX5_stateOf_94 : decode cX5_stateOf 94 = .ok (.iconst 1, 1) := by decide +kernel
theorem dX5_stateOf_95 : decode cX5_stateOf 95 = .ok (.ireturn, 1) := by decide +kernel
theorem dX5_stateOf_96 : decode cX5_stateOf 96 = .ok (.iload 4, 2) := by decide +kernel
theorem dX5_stateOf_98 : decode cX5_stateOf 98 = .ok (.ifCond .le 19, 3) := by decide +kernel
theorem dX5_stateOf_101 : decode cX5_stateOf 101 = .ok (.aload_n 0, 1) := by decide +kernel
theorem dX5_stateOf_102 : decode cX5_stateOf 102 = .ok (.iload_n 1, 1) := by decide +kernel
theorem dX5_stateOf_103 : decode cX5_stateOf 103 = .ok (.iload_n 2, 1) := by decide +kernel
theorem dX5_stateOf_104 : decode cX5_stateOf 104 = .ok (.iload 4, 2) := by decide +kernel
theorem dX5_stateOf_106 : decode cX5_stateOf 106 = .ok (.i2l, 1) := by decide +kernel
theorem dX5_stateOf_107 : decode cX5_stateOf 107 = .ok (.invokevirtual 191, 3) := by decide +kernel
theorem dX5_stateOf_110 : decode cX5_stateOf 110 = .ok (.ifCond .eq 7, 3) := by decide +kernel
theorem dX5_stateOf_113 : decode cX5_stateOf 113 = .ok (.iconst 2, 1) := by decide +kernel
theorem dX5_stateOf_114 : decode cX5_stateOf 114 = .ok (.goto 22, 3) := by decide +kernel
theorem dX5_stateOf_117 : decode cX5_stateOf 117 = .ok (.aload_n 0, 1) := by decide +kernel
theorem dX5_stateOf_118 : decode cX5_stateOf 118 = .ok (.getfield 69, 3) := by decide +kernel
theorem dX5_stateOf_121 : decode cX5_stateOf 121 = .ok (.bipush 20, 2) := by decide +kernel
theorem dX5_stateOf_123 : decode cX5_stateOf 123 = .ok (.iload_n 1, 1) := by decide +kernel
theorem dX5_stateOf_124 : decode cX5_stateOf 124 = .ok (.imul, 1) := by decide +kernel
theorem dX5_stateOf_125 : decode cX5_stateOf 125 = .ok (.iload_n 2, 1) := by decide +kernel
theorem dX5_stateOf_126 : decode cX5_stateOf 126 = .ok (.iadd, 1) := by decide +kernel
theorem dX5_stateOf_127 : decode cX5_stateOf 127 = .ok (.baload, 1) := by decide +kernel
theorem dX5_stateOf_128 : decode cX5_stateOf 128 = .ok (.ifCond .eq 7, 3) := by decide +kernel
theorem dX5_stateOf_131 : decode cX5_stateOf 131 = .ok (.iconst 3, 1) := by decide +kernel
theorem dX5_stateOf_132 : decode cX5_stateOf 132 = .ok (.goto 4, 3) := by decide +kernel
theorem dX5_stateOf_135 : decode cX5_stateOf 135 = .ok (.iconst 4, 1) := by decide +kernel
theorem dX5_stateOf_136 : decode cX5_stateOf 136 = .ok (.ireturn, 1) := by decide +kernel
theorem dX5_state_0 : decode cX5_state 0 = .ok (.aload_n 0, 1) := by decide +kernel
theorem dX5_state_1 : decode cX5_state 1 = .ok (.aload_n 0, 1) := by decide +kernel
theorem dX5_state_2 : decode cX5_state 2 = .ok (.iload_n 1, 1) := by decide +kernel
theorem dX5_state_3 : decode cX5_state 3 = .ok (.invokevirtual 180, 3) := by decide +kernel
theorem dX5_state_6 : decode cX5_state 6 = .ok (.ifCond .eq 14, 3) := by decide +kernel
theorem dX5_state_9 : decode cX5_state 9 = .ok (.iload_n 2, 1) := by decide +kernel
theorem dX5_state_10 : decode cX5_state 10 = .ok (.invokestatic 100, 3) := by decide +kernel
theorem dX5_state_13 : decode cX5_state 13 = .ok (.ifCond .eq 7, 3) := by decide +kernel
theorem dX5_state_16 : decode cX5_state 16 = .ok (.iconst 0, 1) := by decide +kernel
theorem dX5_state_17 : decode cX5_state 17 = .ok (.goto 4, 3) := by decide +kernel
theorem dX5_state_20 : decode cX5_state 20 = .ok (.iconst 1, 1) := by decide +kernel
theorem dX5_state_21 : decode cX5_state 21 = .ok (.putfield 85, 3) := by decide +kernel
theorem dX5_state_24 : decode cX5_state 24 = .ok (.aload_n 0, 1) := by decide +kernel
theorem dX5_state_25 : decode cX5_state 25 = .ok (.getfield 85, 3) := by decide +kernel
theorem dX5_state_28 : decode cX5_state 28 = .ok (.ifCond .le 5, 3) := by decide +kernel
theorem dX5_state_31 : decode cX5_state 31 = .ok (.iconst 0, 1) := by decide +kernel
theorem dX5_state_32 : decode cX5_state 32 = .ok (.ireturn, 1) := by decide +kernel
theorem dX5_state_33 : decode cX5_state 33 = .ok (.aload_n 0, 1) := by decide +kernel
theorem dX5_state_34 : decode cX5_state 34 = .ok (.invokevirtual 151, 3) := by decide +kernel
theorem dX5_state_37 : decode cX5_state 37 = .ok (.aload_n 0, 1) := by decide +kernel
theorem dX5_state_38 : decode cX5_state 38 = .ok (.iload_n 1, 1) := by decide +kernel
theorem dX5_state_39 : decode cX5_state 39 = .ok (.iload_n 2, 1) := by decide +kernel
theorem dX5_state_40 : decode cX5_state 40 = .ok (.invokevirtual 195, 3) := by decide +kernel
theorem dX5_state_43 : decode cX5_state 43 = .ok (.ireturn, 1) := by decide +kernel
theorem dX5_room_0 : decode cX5_room 0 = .ok (.aload_n 0, 1) := by decide +kernel
theorem dX5_room_1 : decode cX5_room 1 = .ok (.aload_n 0, 1) := by decide +kernel
theorem dX5_room_2 : decode cX5_room 2 = .ok (.iload_n 1, 1) := by decide +kernel
theorem dX5_room_3 : decode cX5_room 3 = .ok (.invokevirtual 180, 3) := by decide +kernel
theorem dX5_room_6 : decode cX5_room 6 = .ok (.ifCond .eq 14, 3) := by decide +kernel
theorem dX5_room_9 : decode cX5_room 9 = .ok (.iload_n 2, 1) := by decide +kernel
theorem dX5_room_10 : decode cX5_room 10 = .ok (.invokestatic 100, 3) := by decide +kernel
theorem dX5_room_13 : decode cX5_room 13 = .ok (.ifCond .eq 7, 3) := by decide +kernel
theorem dX5_room_16 : decode cX5_room 16 = .ok (.iconst 0, 1) := by decide +kernel
theorem dX5_room_17 : decode cX5_room 17 = .ok (.goto 4, 3) := by decide +kernel
theorem dX5_room_20 : decode cX5_room 20 = .ok (.iconst 1, 1) := by decide +kernel
theorem dX5_room_21 : decode cX5_room 21 = .ok (.putfield 85, 3) := by decide +kernel
theorem dX5_room_24 : decode cX5_room 24 = .ok (.aload_n 0, 1) := by decide +kernel
theorem dX5_room_25 : decode cX5_room 25 = .ok (.getfield 85, 3) := by decide +kernel
theorem dX5_room_28 : decode cX5_room 28 = .ok (.ifCond .le 5, 3) := by decide +kernel
theorem dX5_room_31 : decode cX5_room 31 = .ok (.lconst 0, 1) := by decide +kernel
theorem dX5_room_32 : decode cX5_room 32 = .ok (.lreturn, 1) := by decide +kernel
theorem dX5_room_33 : decode cX5_room 33 = .ok (.aload_n 0, 1) := by decide +kernel
theorem dX5_room_34 : decode cX5_room 34 = .ok (.invokevirtual 151, 3) := by decide +kernel
theorem dX5_room_37 : decode cX5_room 37 = .ok (.aload_n 0, 1) := by decide +kernel
theorem dX5_room_38 : decode cX5_room 38 = .ok (.getfield 37, 3) := by decide +kernel
theorem dX5_room_41 : decode cX5_room 41 = .ok (.bipush 20, 2) := by decide +kernel
theorem dX5_room_43 : decode cX5_room 43 = .ok (.aload_n 0, 1) := by decide +kernel
theorem dX5_room_44 : decode cX5_room 44 = .ok (.getfield 54, 3) := by decide +kernel
theorem dX5_room_47 : decode cX5_room 47 = .ok (.iload_n 1, 1) := by decide +kernel
theorem dX5_room_48 : decode cX5_room 48 = .ok (.iaload, 1) := by decide +kernel
theorem dX5_room_49 : decode cX5_room 49 = .ok (.imul, 1) := by decide +kernel
theorem dX5_room_50 : decode cX5_room 50 = .ok (.iload_n 2, 1) := by decide +kernel
theorem dX5_room_51 : decode cX5_room 51 = .ok (.iadd, 1) := by decide +kernel
theorem dX5_room_52 : decode cX5_room 52 = .ok (.laload, 1) := by decide +kernel
theorem dX5_room_53 : decode cX5_room 53 = .ok (.aload_n 0, 1) := by decide +kernel
theorem dX5_room_54 : decode cX5_room 54 = .ok (.getfield 66, 3) := by decide +kernel
theorem dX5_room_57 : decode cX5_room 57 = .ok (.bipush 20, 2) := by decide +kernel
theorem dX5_room_59 : decode cX5_room 59 = .ok (.iload_n 1, 1) := by decide +kernel
theorem dX5_room_60 : decode cX5_room 60 = .ok (.imul, 1) := by decide +kernel
theorem dX5_room_61 : decode cX5_room 61 = .ok (.iload_n 2, 1) := by decide +kernel
theorem dX5_room_62 : decode cX5_room 62 = .ok (.iadd, 1) := by decide +kernel
theorem dX5_room_63 : decode cX5_room 63 = .ok (.iaload, 1) := by decide +kernel
theorem dX5_room_64 : decode cX5_room 64 = .ok (.i2l, 1) := by decide +kernel
theorem dX5_room_65 : decode cX5_room 65 = .ok (.ladd, 1) := by decide +kernel
theorem dX5_room_66 : decode cX5_room 66 = .ok (.lstore_n 3, 1) := by decide +kernel
theorem dX5_room_67 : decode cX5_room 67 = .ok (.aload_n 0, 1) := by decide +kernel
theorem dX5_room_68 : decode cX5_room 68 = .ok (.iload_n 1, 1) := by decide +kernel
theorem dX5_room_69 : decode cX5_room 69 = .ok (.iload_n 2, 1) := by decide +kernel
theorem dX5_room_70 : decode cX5_room 70 = .ok (.invokevirtual 188, 3) := by decide +kernel
theorem dX5_room_73 : decode cX5_room 73 = .ok (.istore 5, 2) := by decide +kernel
theorem dX5_room_75 : decode cX5_room 75 = .ok (.aload_n 0, 1) := by decide +kernel
theorem dX5_room_76 : decode cX5_room 76 = .ok (.iload 5, 2) := by decide +kernel
theorem dX5_room_78 : decode cX5_room 78 = .ok (.iconst (-1), 1) := by decide +kernel
theorem dX5_room_79 : decode cX5_room 79 = .ok (.if_icmp .eq 9, 3) := by decide +kernel
theorem dX5_room_82 : decode cX5_room 82 = .ok (.lload_n 3, 1) := by decide +kernel
theorem dX5_room_83 : decode cX5_room 83 = .ok (.lconst 0, 1) := by decide +kernel
theorem dX5_room_84 : decode cX5_room 84 = .ok (.lcmp, 1) := by decide +kernel
theorem dX5_room_85 : decode cX5_room 85 = .ok (.ifCond .gt 7, 3) := by decide +kernel
theorem dX5_room_88 : decode cX5_room 88 = .ok (.iconst 2, 1) := by decide +kernel
theorem dX5_room_89 : decode cX5_room 89 = .ok (.goto 4, 3) := by decide +kernel
theorem dX5_room_92 : decode cX5_room 92 = .ok (.iconst 0, 1) := by decide +kernel
theorem dX5_room_93 : decode cX5_room 93 = .ok (.putfield 85, 3) := by decide +kernel
theorem dX5_room_96 : decode cX5_room 96 = .ok (.aload_n 0, 1) := by decide +kernel
theorem dX5_room_97 : decode cX5_room 97 = .ok (.getfield 85, 3) := by decide +kernel
theorem dX5_room_100 : decode cX5_room 100 = .ok (.ifCond .le 7, 3) := by decide +kernel
theorem dX5_room_103 : decode cX5_room 103 = .ok (.lconst 0, 1) := by decide +kernel
theorem dX5_room_104 : decode cX5_room 104 = .ok (.goto 30, 3) := by decide +kernel
theorem dX5_room_107 : decode cX5_room 107 = .ok (.iload 5, 2) := by decide +kernel
theorem dX5_room_109 : decode cX5_room 109 = .ok (.i2l, 1) := by decide +kernel
theorem dX5_room_110 : decode cX5_room 110 = .ok (.lload_n 3, 1) := by decide +kernel
theorem dX5_room_111 : decode cX5_room 111 = .ok (.lmul, 1) := by decide +kernel
theorem dX5_room_112 : decode cX5_room 112 = .ok (.bipush 100, 2) := by decide +kernel
theorem dX5_room_114 : decode cX5_room 114 = .ok (.invokestatic 143, 3) := by decide +kernel
theorem dX5_room_117 : decode cX5_room 117 = .ok (.aload_n 0, 1) := by decide +kernel
theorem dX5_room_118 : decode cX5_room 118 = .ok (.getfield 37, 3) := by decide +kernel
theorem dX5_room_121 : decode cX5_room 121 = .ok (.bipush 20, 2) := by decide +kernel
theorem dX5_room_123 : decode cX5_room 123 = .ok (.aload_n 0, 1) := by decide +kernel
theorem dX5_room_124 : decode cX5_room 124 = .ok (.getfield 51, 3) := by decide +kernel
theorem dX5_room_127 : decode cX5_room 127 = .ok (.iload_n 1, 1) := by decide +kernel
theorem dX5_room_128 : decode cX5_room 128 = .ok (.iaload, 1) := by decide +kernel
theorem dX5_room_129 : decode cX5_room 129 = .ok (.imul, 1) := by decide +kernel
theorem dX5_room_130 : decode cX5_room 130 = .ok (.iload_n 2, 1) := by decide +kernel
theorem dX5_room_131 : decode cX5_room 131 = .ok (.iadd, 1) := by decide +kernel
theorem dX5_room_132 : decode cX5_room 132 = .ok (.laload, 1) := by decide +kernel
theorem dX5_room_133 : decode cX5_room 133 = .ok (.lsub, 1) := by decide +kernel
theorem dX5_room_134 : decode cX5_room 134 = .ok (.lreturn, 1) := by decide +kernel
theorem dX5_broken_0 : decode cX5_broken 0 = .ok (.aload_n 0, 1) := by decide +kernel
theorem dX5_broken_1 : decode cX5_broken 1 = .ok (.iconst 0, 1) := by decide +kernel
theorem dX5_broken_2 : decode cX5_broken 2 = .ok (.putfield 85, 3) := by decide +kernel
theorem dX5_broken_5 : decode cX5_broken 5 = .ok (.aload_n 0, 1) := by decide +kernel
theorem dX5_broken_6 : decode cX5_broken 6 = .ok (.invokevirtual 151, 3) := by decide +kernel
theorem dX5_broken_9 : decode cX5_broken 9 = .ok (.iconst 0, 1) := by decide +kernel
theorem dX5_broken_10 : decode cX5_broken 10 = .ok (.istore_n 1, 1) := by decide +kernel
theorem dX5_broken_11 : decode cX5_broken 11 = .ok (.iconst 0, 1) := by decide +kernel
theorem dX5_broken_12 : decode cX5_broken 12 = .ok (.istore_n 2, 1) := by decide +kernel
theorem dX5_broken_13 : decode cX5_broken 13 = .ok (.iload_n 2, 1) := by decide +kernel
theorem dX5_broken_14 : decode cX5_broken 14 = .ok (.aload_n 0, 1) := by decide +kernel
theorem dX5_broken_15 : decode cX5_broken 15 = .ok (.getfield 177, 3) := by decide +kernel
theorem dX5_broken_18 : decode cX5_broken 18 = .ok (.if_icmp .ge 41, 3) := by decide +kernel
theorem dX5_broken_21 : decode cX5_broken 21 = .ok (.iconst 0, 1) := by decide +kernel
theorem dX5_broken_22 : decode cX5_broken 22 = .ok (.istore_n 3, 1) := by decide +kernel
theorem dX5_broken_23 : decode cX5_broken 23 = .ok (.iload_n 3, 1) := by decide +kernel
theorem dX5_broken_24 : decode cX5_broken 24 = .ok (.bipush 20, 2) := by decide +kernel
theorem dX5_broken_26 : decode cX5_broken 26 = .ok (.if_icmp .ge 27, 3) := by decide +kernel
theorem dX5_broken_29 : decode cX5_broken 29 = .ok (.iload_n 1, 1) := by decide +kernel
theorem dX5_broken_30 : decode cX5_broken 30 = .ok (.aload_n 0, 1) := by decide +kernel
theorem dX5_broken_31 : decode cX5_broken 31 = .ok (.iload_n 2, 1) := by decide +kernel
theorem dX5_broken_32 : decode cX5_broken 32 = .ok (.iload_n 3, 1) := by decide +kernel
theorem dX5_broken_33 : decode cX5_broken 33 = .ok (.invokevirtual 195, 3) := by decide +kernel
theorem dX5_broken_36 : decode cX5_broken 36 = .ok (.iconst 4, 1) := by decide +kernel
theorem dX5_broken_37 : decode cX5_broken 37 = .ok (.if_icmp .ne 7, 3) := by decide +kernel
theorem dX5_broken_40 : decode cX5_broken 40 = .ok (.iconst 1, 1) := by decide +kernel
theorem dX5_broken_41 : decode cX5_broken 41 = .ok (.goto 4, 3) := by decide +kernel
theorem dX5_broken_44 : decode cX5_broken 44 = .ok (.iconst 0, 1) := by decide +kernel
theorem dX5_broken_45 : decode cX5_broken 45 = .ok (.iadd, 1) := by decide +kernel
theorem dX5_broken_46 : decode cX5_broken 46 = .ok (.istore_n 1, 1) := by decide +kernel
theorem dX5_broken_47 : decode cX5_broken 47 = .ok (.iinc 3 1, 3) := by decide +kernel
theorem dX5_broken_50 : decode cX5_broken 50 = .ok (.goto (-27), 3) := by decide +kernel
theorem dX5_broken_53 : decode cX5_broken 53 = .ok (.iinc 2 1, 3) := by decide +kernel
theorem dX5_broken_56 : decode cX5_broken 56 = .ok (.goto (-43), 3) := by decide +kernel
theorem dX5_broken_59 : decode cX5_broken 59 = .ok (.iload_n 1, 1) := by decide +kernel
theorem dX5_broken_60 : decode cX5_broken 60 = .ok (.ireturn, 1) := by decide +kernel
theorem dX5_isBasket_0 : decode cX5_isBasket 0 = .ok (.iload_n 1, 1) := by decide +kernel
theorem dX5_isBasket_1 : decode cX5_isBasket 1 = .ok (.iconst 0, 1) := by decide +kernel
theorem dX5_isBasket_2 : decode cX5_isBasket 2 = .ok (.aload_n 0, 1) := by decide +kernel
theorem dX5_isBasket_3 : decode cX5_isBasket 3 = .ok (.getfield 198, 3) := by decide +kernel
theorem dX5_isBasket_6 : decode cX5_isBasket 6 = .ok (.iconst 1, 1) := by decide +kernel
theorem dX5_isBasket_7 : decode cX5_isBasket 7 = .ok (.isub, 1) := by decide +kernel
theorem dX5_isBasket_8 : decode cX5_isBasket 8 = .ok (.invokestatic 89, 3) := by decide +kernel
theorem dX5_isBasket_11 : decode cX5_isBasket 11 = .ok (.ireturn, 1) := by decide +kernel
theorem dX5_basket_0 : decode cX5_basket 0 = .ok (.iload_n 1, 1) := by decide +kernel
theorem dX5_basket_1 : decode cX5_basket 1 = .ok (.iconst 0, 1) := by decide +kernel
theorem dX5_basket_2 : decode cX5_basket 2 = .ok (.ldc 104, 2) := by decide +kernel
theorem dX5_basket_4 : decode cX5_basket 4 = .ok (.invokestatic 89, 3) := by decide +kernel
theorem dX5_basket_7 : decode cX5_basket 7 = .ok (.ifCond .eq 17, 3) := by decide +kernel
theorem dX5_basket_10 : decode cX5_basket 10 = .ok (.iload_n 3, 1) := by decide +kernel
theorem dX5_basket_11 : decode cX5_basket 11 = .ok (.iconst 0, 1) := by decide +kernel
theorem dX5_basket_12 : decode cX5_basket 12 = .ok (.bipush 100, 2) := by decide +kernel
theorem dX5_basket_14 : decode cX5_basket 14 = .ok (.invokestatic 89, 3) := by decide +kernel
theorem dX5_basket_17 : decode cX5_basket 17 = .ok (.ifCond .eq 7, 3) := by decide +kernel
theorem dX5_basket_20 : decode cX5_basket 20 = .ok (.iconst 1, 1) := by decide +kernel
theorem dX5_basket_21 : decode cX5_basket 21 = .ok (.goto 4, 3) := by decide +kernel
theorem dX5_basket_24 : decode cX5_basket 24 = .ok (.iconst 0, 1) := by decide +kernel
theorem dX5_basket_25 : decode cX5_basket 25 = .ok (.istore 4, 2) := by decide +kernel
theorem dX5_basket_27 : decode cX5_basket 27 = .ok (.aload_n 0, 1) := by decide +kernel
theorem dX5_basket_28 : decode cX5_basket 28 = .ok (.iload 4, 2) := by decide +kernel
theorem dX5_basket_30 : decode cX5_basket 30 = .ok (.ifCond .ne 7, 3) := by decide +kernel
theorem dX5_basket_33 : decode cX5_basket 33 = .ok (.iconst 1, 1) := by decide +kernel
theorem dX5_basket_34 : decode cX5_basket 34 = .ok (.goto 29, 3) := by decide +kernel
theorem dX5_basket_37 : decode cX5_basket 37 = .ok (.aload_n 0, 1) := by decide +kernel
theorem dX5_basket_38 : decode cX5_basket 38 = .ok (.iload_n 2, 1) := by decide +kernel
theorem dX5_basket_39 : decode cX5_basket 39 = .ok (.invokevirtual 116, 3) := by decide +kernel
theorem dX5_basket_42 : decode cX5_basket 42 = .ok (.ifCond .ne 7, 3) := by decide +kernel
theorem dX5_basket_45 : decode cX5_basket 45 = .ok (.iconst 2, 1) := by decide +kernel
theorem dX5_basket_46 : decode cX5_basket 46 = .ok (.goto 17, 3) := by decide +kernel
theorem dX5_basket_49 : decode cX5_basket 49 = .ok (.aload_n 0, 1) := by decide +kernel
theorem dX5_basket_50 : decode cX5_basket 50 = .ok (.getfield 198, 3) := by decide +kernel
theorem dX5_basket_53 : decode cX5_basket 53 = .ok (.bipush 6, 2) := by decide +kernel
theorem dX5_basket_55 : decode cX5_basket 55 = .ok (.if_icmp .ne 7, 3) := by decide +kernel
theorem dX5_basket_58 : decode cX5_basket 58 = .ok (.iconst 3, 1) := by decide +kernel
theorem dX5_basket_59 : decode cX5_basket 59 = .ok (.goto 4, 3) := by decide +kernel
theorem dX5_basket_62 : decode cX5_basket 62 = .ok (.iconst 0, 1) := by decide +kernel
theorem dX5_basket_63 : decode cX5_basket 63 = .ok (.putfield 85, 3) := by decide +kernel
theorem dX5_basket_66 : decode cX5_basket 66 = .ok (.aload_n 0, 1) := by decide +kernel
theorem dX5_basket_67 : decode cX5_basket 67 = .ok (.getfield 85, 3) := by decide +kernel
theorem dX5_basket_70 : decode cX5_basket 70 = .ok (.ifCond .le 5, 3) := by decide +kernel
theorem dX5_basket_73 : decode cX5_basket 73 = .ok (.iconst 0, 1) := by decide +kernel
theorem dX5_basket_74 : decode cX5_basket 74 = .ok (.ireturn, 1) := by decide +kernel
theorem dX5_basket_75 : decode cX5_basket 75 = .ok (.aload_n 0, 1) := by decide +kernel
theorem dX5_basket_76 : decode cX5_basket 76 = .ok (.getfield 73, 3) := by decide +kernel
theorem dX5_basket_79 : decode cX5_basket 79 = .ok (.aload_n 0, 1) := by decide +kernel
theorem dX5_basket_80 : decode cX5_basket 80 = .ok (.getfield 198, 3) := by decide +kernel
theorem dX5_basket_83 : decode cX5_basket 83 = .ok (.iload_n 1, 1) := by decide +kernel
theorem dX5_basket_84 : decode cX5_basket 84 = .ok (.iastore, 1) := by decide +kernel
theorem dX5_basket_85 : decode cX5_basket 85 = .ok (.aload_n 0, 1) := by decide +kernel
theorem dX5_basket_86 : decode cX5_basket 86 = .ok (.getfield 76, 3) := by decide +kernel
theorem dX5_basket_89 : decode cX5_basket 89 = .ok (.aload_n 0, 1) := by decide +kernel
theorem dX5_basket_90 : decode cX5_basket 90 = .ok (.getfield 198, 3) := by decide +kernel
theorem dX5_basket_93 : decode cX5_basket 93 = .ok (.iload_n 2, 1) := by decide +kernel
theorem dX5_basket_94 : decode cX5_basket 94 = .ok (.iastore, 1) := by decide +kernel
theorem dX5_basket_95 : decode cX5_basket 95 = .ok (.aload_n 0, 1) := by decide +kernel
theorem dX5_basket_96 : decode cX5_basket 96 = .ok (.getfield 79, 3) := by decide +kernel
theorem dX5_basket_99 : decode cX5_basket 99 = .ok (.aload_n 0, 1) := by decide +kernel
theorem dX5_basket_100 : decode cX5_basket 100 = .ok (.getfield 198, 3) := by decide +kernel
theorem dX5_basket_103 : decode cX5_basket 103 = .ok (.iload_n 3, 1) := by decide +kernel
theorem dX5_basket_104 : decode cX5_basket 104 = .ok (.iastore, 1) := by decide +kernel
theorem dX5_basket_105 : decode cX5_basket 105 = .ok (.aload_n 0, 1) := by decide +kernel
theorem dX5_basket_106 : decode cX5_basket 106 = .ok (.dup, 1) := by decide +kernel
theorem dX5_basket_107 : decode cX5_basket 107 = .ok (.getfield 198, 3) := by decide +kernel
theorem dX5_basket_110 : decode cX5_basket 110 = .ok (.iconst 1, 1) := by decide +kernel
theorem dX5_basket_111 : decode cX5_basket 111 = .ok (.iadd, 1) := by decide +kernel
theorem dX5_basket_112 : decode cX5_basket 112 = .ok (.putfield 198, 3) := by decide +kernel
theorem dX5_basket_115 : decode cX5_basket 115 = .ok (.aload_n 0, 1) := by decide +kernel
theorem dX5_basket_116 : decode cX5_basket 116 = .ok (.getfield 198, 3) := by decide +kernel
theorem dX5_basket_119 : decode cX5_basket 119 = .ok (.iconst 1, 1) := by decide +kernel
theorem dX5_basket_120 : decode cX5_basket 120 = .ok (.isub, 1) := by decide +kernel
theorem dX5_basket_121 : decode cX5_basket 121 = .ok (.ireturn, 1) := by decide +kernel
theorem dX5_sizeOf_0 : decode cX5_sizeOf 0 = .ok (.aload_n 0, 1) := by decide +kernel
theorem dX5_sizeOf_1 : decode cX5_sizeOf 1 = .ok (.invokevirtual 151, 3) := by decide +kernel
theorem dX5_sizeOf_4 : decode cX5_sizeOf 4 = .ok (.aload_n 0, 1) := by decide +kernel
theorem dX5_sizeOf_5 : decode cX5_sizeOf 5 = .ok (.getfield 37, 3) := by decide +kernel
theorem dX5_sizeOf_8 : decode cX5_sizeOf 8 = .ok (.bipush 20, 2) := by decide +kernel
theorem dX5_sizeOf_10 : decode cX5_sizeOf 10 = .ok (.aload_n 0, 1) := by decide +kernel
theorem dX5_sizeOf_11 : decode cX5_sizeOf 11 = .ok (.getfield 76, 3) := by decide +kernel
theorem dX5_sizeOf_14 : decode cX5_sizeOf 14 = .ok (.iload_n 1, 1) := by decide +kernel
theorem dX5_sizeOf_15 : decode cX5_sizeOf 15 = .ok (.iaload, 1) := by decide +kernel
theorem dX5_sizeOf_16 : decode cX5_sizeOf 16 = .ok (.imul, 1) := by decide +kernel
theorem dX5_sizeOf_17 : decode cX5_sizeOf 17 = .ok (.iload_n 2, 1) := by decide +kernel
theorem dX5_sizeOf_18 : decode cX5_sizeOf 18 = .ok (.iadd, 1) := by decide +kernel
theorem dX5_sizeOf_19 : decode cX5_sizeOf 19 = .ok (.laload, 1) := by decide +kernel
theorem dX5_sizeOf_20 : decode cX5_sizeOf 20 = .ok (.lstore_n 3, 1) := by decide +kernel
theorem dX5_sizeOf_21 : decode cX5_sizeOf 21 = .ok (.aload_n 0, 1) := by decide +kernel
theorem dX5_sizeOf_22 : decode cX5_sizeOf 22 = .ok (.getfield 73, 3) := by decide +kernel
theorem dX5_sizeOf_25 : decode cX5_sizeOf 25 = .ok (.iload_n 1, 1) := by decide +kernel
theorem dX5_sizeOf_26 : decode cX5_sizeOf 26 = .ok (.iaload, 1) := by decide +kernel
theorem dX5_sizeOf_27 : decode cX5_sizeOf 27 = .ok (.i2l, 1) := by decide +kernel
theorem dX5_sizeOf_28 : decode cX5_sizeOf 28 = .ok (.lload_n 3, 1) := by decide +kernel
theorem dX5_sizeOf_29 : decode cX5_sizeOf 29 = .ok (.lconst 0, 1) := by decide +kernel
theorem dX5_sizeOf_30 : decode cX5_sizeOf 30 = .ok (.lcmp, 1) := by decide +kernel
theorem dX5_sizeOf_31 : decode cX5_sizeOf 31 = .ok (.ifCond .le 19, 3) := by decide +kernel
theorem dX5_sizeOf_34 : decode cX5_sizeOf 34 = .ok (.lload_n 3, 1) := by decide +kernel
theorem dX5_sizeOf_35 : decode cX5_sizeOf 35 = .ok (.aload_n 0, 1) := by decide +kernel
theorem dX5_sizeOf_36 : decode cX5_sizeOf 36 = .ok (.getfield 79, 3) := by decide +kernel
theorem dX5_sizeOf_39 : decode cX5_sizeOf 39 = .ok (.iload_n 1, 1) := by decide +kernel
theorem dX5_sizeOf_40 : decode cX5_sizeOf 40 = .ok (.iaload, 1) := by decide +kernel
theorem dX5_sizeOf_41 : decode cX5_sizeOf 41 = .ok (.i2l, 1) := by decide +kernel
theorem dX5_sizeOf_42 : decode cX5_sizeOf 42 = .ok (.lmul, 1) := by decide +kernel
theorem dX5_sizeOf_43 : decode cX5_sizeOf 43 = .ok (.ldc2_w 186, 3) := by decide +kernel
theorem dX5_sizeOf_46 : decode cX5_sizeOf 46 = .ok (.ldiv, 1) := by decide +kernel
theorem dX5_sizeOf_47 : decode cX5_sizeOf 47 = .ok (.goto 4, 3) := by decide +kernel
theorem dX5_sizeOf_50 : decode cX5_sizeOf 50 = .ok (.lconst 0, 1) := by decide +kernel
theorem dX5_sizeOf_51 : decode cX5_sizeOf 51 = .ok (.ladd, 1) := by decide +kernel
theorem dX5_sizeOf_52 : decode cX5_sizeOf 52 = .ok (.lreturn, 1) := by decide +kernel
theorem dX5_size_0 : decode cX5_size 0 = .ok (.aload_n 0, 1) := by decide +kernel
theorem dX5_size_1 : decode cX5_size 1 = .ok (.aload_n 0, 1) := by decide +kernel
theorem dX5_size_2 : decode cX5_size 2 = .ok (.iload_n 1, 1) := by decide +kernel
theorem dX5_size_3 : decode cX5_size 3 = .ok (.invokevirtual 201, 3) := by decide +kernel
theorem dX5_size_6 : decode cX5_size 6 = .ok (.ifCond .eq 14, 3) := by decide +kernel
theorem dX5_size_9 : decode cX5_size 9 = .ok (.iload_n 2, 1) := by decide +kernel
theorem dX5_size_10 : decode cX5_size 10 = .ok (.invokestatic 100, 3) := by decide +kernel
theorem dX5_size_13 : decode cX5_size 13 = .ok (.ifCond .eq 7, 3) := by decide +kernel
theorem dX5_size_16 : decode cX5_size 16 = .ok (.iconst 0, 1) := by decide +kernel
theorem dX5_size_17 : decode cX5_size 17 = .ok (.goto 4, 3) := by decide +kernel
theorem dX5_size_20 : decode cX5_size 20 = .ok (.iconst 1, 1) := by decide +kernel
theorem dX5_size_21 : decode cX5_size 21 = .ok (.putfield 85, 3) := by decide +kernel
theorem dX5_size_24 : decode cX5_size 24 = .ok (.aload_n 0, 1) := by decide +kernel
theorem dX5_size_25 : decode cX5_size 25 = .ok (.getfield 85, 3) := by decide +kernel
theorem dX5_size_28 : decode cX5_size 28 = .ok (.ifCond .le 7, 3) := by decide +kernel
theorem dX5_size_31 : decode cX5_size 31 = .ok (.lconst 0, 1) := by decide +kernel
theorem dX5_size_32 : decode cX5_size 32 = .ok (.goto 9, 3) := by decide +kernel
theorem dX5_size_35 : decode cX5_size 35 = .ok (.aload_n 0, 1) := by decide +kernel
theorem dX5_size_36 : decode cX5_size 36 = .ok (.iload_n 1, 1) := by decide +kernel
theorem dX5_size_37 : decode cX5_size 37 = .ok (.iload_n 2, 1) := by decide +kernel
theorem dX5_size_38 : decode cX5_size 38 = .ok (.invokevirtual 204, 3) := by decide +kernel
theorem dX5_size_41 : decode cX5_size 41 = .ok (.lreturn, 1) := by decide +kernel
theorem dX5_use_0 : decode cX5_use 0 = .ok (.aload_n 0, 1) := by decide +kernel
theorem dX5_use_1 : decode cX5_use 1 = .ok (.aload_n 0, 1) := by decide +kernel
theorem dX5_use_2 : decode cX5_use 2 = .ok (.iload_n 1, 1) := by decide +kernel
theorem dX5_use_3 : decode cX5_use 3 = .ok (.invokevirtual 201, 3) := by decide +kernel
theorem dX5_use_6 : decode cX5_use 6 = .ok (.ifCond .eq 10, 3) := by decide +kernel
theorem dX5_use_9 : decode cX5_use 9 = .ok (.iload_n 2, 1) := by decide +kernel
theorem dX5_use_10 : decode cX5_use 10 = .ok (.invokestatic 100, 3) := by decide +kernel
theorem dX5_use_13 : decode cX5_use 13 = .ok (.ifCond .ne 7, 3) := by decide +kernel
theorem dX5_use_16 : decode cX5_use 16 = .ok (.iconst 1, 1) := by decide +kernel
theorem dX5_use_17 : decode cX5_use 17 = .ok (.goto 18, 3) := by decide +kernel
theorem dX5_use_20 : decode cX5_use 20 = .ok (.iload_n 3, 1) := by decide +kernel
theorem dX5_use_21 : decode cX5_use 21 = .ok (.iconst 1, 1) := by decide +kernel
theorem dX5_use_22 : decode cX5_use 22 = .ok (.ldc 104, 2) := by decide +kernel
theorem dX5_use_24 : decode cX5_use 24 = .ok (.invokestatic 89, 3) := by decide +kernel
theorem dX5_use_27 : decode cX5_use 27 = .ok (.ifCond .eq 7, 3) := by decide +kernel
theorem dX5_use_30 : decode cX5_use 30 = .ok (.iconst 0, 1) := by decide +kernel
theorem dX5_use_31 : decode cX5_use 31 = .ok (.goto 4, 3) := by decide +kernel
theorem dX5_use_34 : decode cX5_use 34 = .ok (.iconst 2, 1) := by decide +kernel
theorem dX5_use_35 : decode cX5_use 35 = .ok (.putfield 85, 3) := by decide +kernel
theorem dX5_use_38 : decode cX5_use 38 = .ok (.aload_n 0, 1) := by decide +kernel
theorem dX5_use_39 : decode cX5_use 39 = .ok (.getfield 85, 3) := by decide +kernel
theorem dX5_use_42 : decode cX5_use 42 = .ok (.ifCond .le 5, 3) := by decide +kernel
theorem dX5_use_45 : decode cX5_use 45 = .ok (.lconst 0, 1) := by decide +kernel
theorem dX5_use_46 : decode cX5_use 46 = .ok (.lreturn, 1) := by decide +kernel
theorem dX5_use_47 : decode cX5_use 47 = .ok (.aload_n 0, 1) := by decide +kernel
theorem dX5_use_48 : decode cX5_use 48 = .ok (.aload_n 0, 1) := by decide +kernel
theorem dX5_use_49 : decode cX5_use 49 = .ok (.getfield 82, 3) := by decide +kernel
theorem dX5_use_52 : decode cX5_use 52 = .ok (.iload_n 1, 1) := by decide +kernel
theorem dX5_use_53 : decode cX5_use 53 = .ok (.laload, 1) := by decide +kernel
theorem dX5_use_54 : decode cX5_use 54 = .ok (.iload_n 3, 1) := by decide +kernel
theorem dX5_use_55 : decode cX5_use 55 = .ok (.i2l, 1) := by decide +kernel
theorem dX5_use_56 : decode cX5_use 56 = .ok (.ladd, 1) := by decide +kernel
theorem dX5_use_57 : decode cX5_use 57 = .ok (.aload_n 0, 1) := by decide +kernel
theorem dX5_use_58 : decode cX5_use 58 = .ok (.iload_n 1, 1) := by decide +kernel
theorem dX5_use_59 : decode cX5_use 59 = .ok (.iload_n 2, 1) := by decide +kernel
theorem dX5_use_60 : decode cX5_use 60 = .ok (.invokevirtual 204, 3) := by decide +kernel
theorem dX5_use_63 : decode cX5_use 63 = .ok (.lcmp, 1) := by decide +kernel
theorem dX5_use_64 : decode cX5_use 64 = .ok (.ifCond .le 7, 3) := by decide +kernel
theorem dX5_use_67 : decode cX5_use 67 = .ok (.iconst 3, 1) := by decide +kernel
theorem dX5_use_68 : decode cX5_use 68 = .ok (.goto 4, 3) := by decide +kernel
theorem dX5_use_71 : decode cX5_use 71 = .ok (.iconst 0, 1) := by decide +kernel
theorem dX5_use_72 : decode cX5_use 72 = .ok (.putfield 85, 3) := by decide +kernel
theorem dX5_use_75 : decode cX5_use 75 = .ok (.aload_n 0, 1) := by decide +kernel
theorem dX5_use_76 : decode cX5_use 76 = .ok (.getfield 82, 3) := by decide +kernel
theorem dX5_use_79 : decode cX5_use 79 = .ok (.iload_n 1, 1) := by decide +kernel
theorem dX5_use_80 : decode cX5_use 80 = .ok (.dup2, 1) := by decide +kernel
theorem dX5_use_81 : decode cX5_use 81 = .ok (.laload, 1) := by decide +kernel
theorem dX5_use_82 : decode cX5_use 82 = .ok (.aload_n 0, 1) := by decide +kernel
theorem dX5_use_83 : decode cX5_use 83 = .ok (.getfield 85, 3) := by decide +kernel
theorem dX5_use_86 : decode cX5_use 86 = .ok (.ifCond .le 7, 3) := by decide +kernel
theorem dX5_use_89 : decode cX5_use 89 = .ok (.lconst 0, 1) := by decide +kernel
theorem dX5_use_90 : decode cX5_use 90 = .ok (.goto 5, 3) := by decide +kernel
theorem dX5_use_93 : decode cX5_use 93 = .ok (.iload_n 3, 1) := by decide +kernel
theorem dX5_use_94 : decode cX5_use 94 = .ok (.i2l, 1) := by decide +kernel
theorem dX5_use_95 : decode cX5_use 95 = .ok (.ladd, 1) := by decide +kernel
theorem dX5_use_96 : decode cX5_use 96 = .ok (.lastore, 1) := by decide +kernel
theorem dX5_use_97 : decode cX5_use 97 = .ok (.aload_n 0, 1) := by decide +kernel
theorem dX5_use_98 : decode cX5_use 98 = .ok (.getfield 82, 3) := by decide +kernel
theorem dX5_use_101 : decode cX5_use 101 = .ok (.iload_n 1, 1) := by decide +kernel
theorem dX5_use_102 : decode cX5_use 102 = .ok (.laload, 1) := by decide +kernel
theorem dX5_use_103 : decode cX5_use 103 = .ok (.lreturn, 1) := by decide +kernel
theorem dX5_refill_0 : decode cX5_refill 0 = .ok (.aload_n 0, 1) := by decide +kernel
theorem dX5_refill_1 : decode cX5_refill 1 = .ok (.aload_n 0, 1) := by decide +kernel
theorem dX5_refill_2 : decode cX5_refill 2 = .ok (.iload_n 1, 1) := by decide +kernel
theorem dX5_refill_3 : decode cX5_refill 3 = .ok (.invokevirtual 201, 3) := by decide +kernel
theorem dX5_refill_6 : decode cX5_refill 6 = .ok (.ifCond .ne 7, 3) := by decide +kernel
theorem dX5_refill_9 : decode cX5_refill 9 = .ok (.iconst 1, 1) := by decide +kernel
theorem dX5_refill_10 : decode cX5_refill 10 = .ok (.goto 34, 3) := by decide +kernel
theorem dX5_refill_13 : decode cX5_refill 13 = .ok (.iload_n 2, 1) := by decide +kernel
theorem dX5_refill_14 : decode cX5_refill 14 = .ok (.iconst 1, 1) := by decide +kernel
theorem dX5_refill_15 : decode cX5_refill 15 = .ok (.ldc 104, 2) := by decide +kernel
theorem dX5_refill_17 : decode cX5_refill 17 = .ok (.invokestatic 89, 3) := by decide +kernel
theorem dX5_refill_20 : decode cX5_refill 20 = .ok (.ifCond .ne 7, 3) := by decide +kernel
theorem dX5_refill_23 : decode cX5_refill 23 = .ok (.iconst 2, 1) := by decide +kernel
theorem dX5_refill_24 : decode cX5_refill 24 = .ok (.goto 20, 3) := by decide +kernel
theorem dX5_refill_27 : decode cX5_refill 27 = .ok (.aload_n 0, 1) := by decide +kernel
theorem dX5_refill_28 : decode cX5_refill 28 = .ok (.getfield 82, 3) := by decide +kernel
theorem dX5_refill_31 : decode cX5_refill 31 = .ok (.iload_n 1, 1) := by decide +kernel
theorem dX5_refill_32 : decode cX5_refill 32 = .ok (.laload, 1) := by decide +kernel
theorem dX5_refill_33 : decode cX5_refill 33 = .ok (.iload_n 2, 1) := by decide +kernel
theorem dX5_refill_34 : decode cX5_refill 34 = .ok (.i2l, 1) := by decide +kernel
theorem dX5_refill_35 : decode cX5_refill 35 = .ok (.lcmp, 1) := by decide +kernel
theorem dX5_refill_36 : decode cX5_refill 36 = .ok (.ifCond .ge 7, 3) := by decide +kernel
theorem dX5_refill_39 : decode cX5_refill 39 = .ok (.iconst 3, 1) := by decide +kernel
theorem dX5_refill_40 : decode cX5_refill 40 = .ok (.goto 4, 3) := by decide +kernel
theorem dX5_refill_43 : decode cX5_refill 43 = .ok (.iconst 0, 1) := by decide +kernel
theorem dX5_refill_44 : decode cX5_refill 44 = .ok (.putfield 85, 3) := by decide +kernel
theorem dX5_refill_47 : decode cX5_refill 47 = .ok (.aload_n 0, 1) := by decide +kernel
theorem dX5_refill_48 : decode cX5_refill 48 = .ok (.getfield 85, 3) := by decide +kernel
theorem dX5_refill_51 : decode cX5_refill 51 = .ok (.ifCond .le 5, 3) := by decide +kernel
theorem dX5_refill_54 : decode cX5_refill 54 = .ok (.lconst 0, 1) := by decide +kernel
theorem dX5_refill_55 : decode cX5_refill 55 = .ok (.lreturn, 1) := by decide +kernel
theorem dX5_refill_56 : decode cX5_refill 56 = .ok (.aload_n 0, 1) := by decide +kernel
theorem dX5_refill_57 : decode cX5_refill 57 = .ok (.getfield 82, 3) := by decide +kernel
theorem dX5_refill_60 : decode cX5_refill 60 = .ok (.iload_n 1, 1) := by decide +kernel
theorem dX5_refill_61 : decode cX5_refill 61 = .ok (.dup2, 1) := by decide +kernel
theorem dX5_refill_62 : decode cX5_refill 62 = .ok (.laload, 1) := by decide +kernel
theorem dX5_refill_63 : decode cX5_refill 63 = .ok (.iload_n 2, 1) := by decide +kernel
theorem dX5_refill_64 : decode cX5_refill 64 = .ok (.i2l, 1) := by decide +kernel
theorem dX5_refill_65 : decode cX5_refill 65 = .ok (.lsub, 1) := by decide +kernel
theorem dX5_refill_66 : decode cX5_refill 66 = .ok (.lastore, 1) := by decide +kernel
theorem dX5_refill_67 : decode cX5_refill 67 = .ok (.aload_n 0, 1) := by decide +kernel
theorem dX5_refill_68 : decode cX5_refill 68 = .ok (.getfield 82, 3) := by decide +kernel
theorem dX5_refill_71 : decode cX5_refill 71 = .ok (.iload_n 1, 1) := by decide +kernel
theorem dX5_refill_72 : decode cX5_refill 72 = .ok (.laload, 1) := by decide +kernel
theorem dX5_refill_73 : decode cX5_refill 73 = .ok (.lreturn, 1) := by decide +kernel
