theorem dL_tests_355 : decode cL_tests 355 = .ok (.istore 7, 2) := by decide +kernel
theorem dL_tests_357 : decode cL_tests 357 = .ok (.iinc 9 1, 3) := by decide +kernel
theorem dL_tests_360 : decode cL_tests 360 = .ok (.goto (-32), 3) := by decide +kernel
theorem dL_tests_363 : decode cL_tests 363 = .ok (.iinc 8 1, 3) := by decide +kernel
theorem dL_tests_366 : decode cL_tests 366 = .ok (.goto (-48), 3) := by decide +kernel
theorem dL_tests_369 : decode cL_tests 369 = .ok (.aload_n 0, 1) := by decide +kernel
theorem dL_tests_370 : decode cL_tests 370 = .ok (.invokevirtual 155, 3) := by decide +kernel
theorem dL_tests_373 : decode cL_tests 373 = .ok (.iload 6, 2) := by decide +kernel
theorem dL_tests_375 : decode cL_tests 375 = .ok (.iload 7, 2) := by decide +kernel
theorem dL_tests_377 : decode cL_tests 377 = .ok (.iadd, 1) := by decide +kernel
theorem dL_tests_378 : decode cL_tests 378 = .ok (.if_icmp .ne 7, 3) := by decide +kernel
theorem dL_tests_381 : decode cL_tests 381 = .ok (.iconst 1, 1) := by decide +kernel
theorem dL_tests_382 : decode cL_tests 382 = .ok (.goto 4, 3) := by decide +kernel
theorem dL_tests_385 : decode cL_tests 385 = .ok (.iconst 0, 1) := by decide +kernel
theorem dL_tests_386 : decode cL_tests 386 = .ok (.ireturn, 1) := by decide +kernel
theorem dL_terms_0 : decode cL_terms 0 = .ok (.iconst 0, 1) := by decide +kernel
theorem dL_terms_1 : decode cL_terms 1 = .ok (.istore 8, 2) := by decide +kernel
theorem dL_terms_3 : decode cL_terms 3 = .ok (.iload 8, 2) := by decide +kernel
theorem dL_terms_5 : decode cL_terms 5 = .ok (.iload_n 1, 1) := by decide +kernel
theorem dL_terms_6 : decode cL_terms 6 = .ok (.if_icmp .ge 149, 3) := by decide +kernel
theorem dL_terms_9 : decode cL_terms 9 = .ok (.iload 8, 2) := by decide +kernel
theorem dL_terms_11 : decode cL_terms 11 = .ok (.iload 6, 2) := by decide +kernel
theorem dL_terms_13 : decode cL_terms 13 = .ok (.aload 5, 2) := by decide +kernel
theorem dL_terms_15 : decode cL_terms 15 = .ok (.invokestatic 26, 3) := by decide +kernel
theorem dL_terms_18 : decode cL_terms 18 = .ok (.istore 9, 2) := by decide +kernel
theorem dL_terms_20 : decode cL_terms 20 = .ok (.iload 9, 2) := by decide +kernel
theorem dL_terms_22 : decode cL_terms 22 = .ok (.aload_n 3, 1) := by decide +kernel
theorem dL_terms_23 : decode cL_terms 23 = .ok (.invokestatic 158, 3) := by decide +kernel
theorem dL_terms_26 : decode cL_terms 26 = .ok (.istore 10, 2) := by decide +kernel
theorem dL_terms_28 : decode cL_terms 28 = .ok (.iload 7, 2) := by decide +kernel
theorem dL_terms_30 : decode cL_terms 30 = .ok (.iload 10, 2) := by decide +kernel
theorem dL_terms_32 : decode cL_terms 32 = .ok (.irem, 1) := by decide +kernel
theorem dL_terms_33 : decode cL_terms 33 = .ok (.istore 11, 2) := by decide +kernel
theorem dL_terms_35 : decode cL_terms 35 = .ok (.aload_n 0, 1) := by decide +kernel
theorem dL_terms_36 : decode cL_terms 36 = .ok (.iload 8, 2) := by decide +kernel
theorem dL_terms_38 : decode cL_terms 38 = .ok (.invokevirtual 161, 3) := by decide +kernel
theorem dL_terms_41 : decode cL_terms 41 = .ok (.aload_n 2, 1) := by decide +kernel
theorem dL_terms_42 : decode cL_terms 42 = .ok (.iload 8, 2) := by decide +kernel
theorem dL_terms_44 : decode cL_terms 44 = .ok (.iaload, 1) := by decide +kernel
theorem dL_terms_45 : decode cL_terms 45 = .ok (.if_icmp .ne 102, 3) := by decide +kernel
theorem dL_terms_48 : decode cL_terms 48 = .ok (.aload_n 0, 1) := by decide +kernel
theorem dL_terms_49 : decode cL_terms 49 = .ok (.iload 8, 2) := by decide +kernel
theorem dL_terms_51 : decode cL_terms 51 = .ok (.iload 6, 2) := by decide +kernel
theorem dL_terms_53 : decode cL_terms 53 = .ok (.invokevirtual 125, 3) := by decide +kernel
theorem dL_terms_56 : decode cL_terms 56 = .ok (.iload 8, 2) := by decide +kernel
theorem dL_terms_58 : decode cL_terms 58 = .ok (.iload 6, 2) := by decide +kernel
theorem dL_terms_60 : decode cL_terms 60 = .ok (.aload_n 3, 1) := by decide +kernel
theorem dL_terms_61 : decode cL_terms 61 = .ok (.aload 4, 2) := by decide +kernel
theorem dL_terms_63 : decode cL_terms 63 = .ok (.aload 5, 2) := by decide +kernel
theorem dL_terms_65 : decode cL_terms 65 = .ok (.invokestatic 138, 3) := by decide +kernel
theorem dL_terms_68 : decode cL_terms 68 = .ok (.lcmp, 1) := by decide +kernel
theorem dL_terms_69 : decode cL_terms 69 = .ok (.ifCond .ne 78, 3) := by decide +kernel
theorem dL_terms_72 : decode cL_terms 72 = .ok (.aload_n 0, 1) := by decide +kernel
theorem dL_terms_73 : decode cL_terms 73 = .ok (.iload 8, 2) := by decide +kernel
theorem dL_terms_75 : decode cL_terms 75 = .ok (.iload 6, 2) := by decide +kernel
theorem dL_terms_77 : decode cL_terms 77 = .ok (.invokevirtual 164, 3) := by decide +kernel
theorem dL_terms_80 : decode cL_terms 80 = .ok (.iload 10, 2) := by decide +kernel
theorem dL_terms_82 : decode cL_terms 82 = .ok (.if_icmp .ne 65, 3) := by decide +kernel
theorem dL_terms_85 : decode cL_terms 85 = .ok (.aload_n 0, 1) := by decide +kernel
theorem dL_terms_86 : decode cL_terms 86 = .ok (.iload 8, 2) := by decide +kernel
theorem dL_terms_88 : decode cL_terms 88 = .ok (.iload 6, 2) := by decide +kernel
theorem dL_terms_90 : decode cL_terms 90 = .ok (.iload 11, 2) := by decide +kernel
theorem dL_terms_92 : decode cL_terms 92 = .ok (.invokevirtual 128, 3) := by decide +kernel
theorem dL_terms_95 : decode cL_terms 95 = .ok (.iload 9, 2) := by decide +kernel
theorem dL_terms_97 : decode cL_terms 97 = .ok (.iload 11, 2) := by decide +kernel
theorem dL_terms_99 : decode cL_terms 99 = .ok (.aload_n 3, 1) := by decide +kernel
theorem dL_terms_100 : decode cL_terms 100 = .ok (.invokestatic 167, 3) := by decide +kernel
theorem dL_terms_103 : decode cL_terms 103 = .ok (.if_icmp .ne 44, 3) := by decide +kernel
theorem dL_terms_106 : decode cL_terms 106 = .ok (.aload_n 0, 1) := by decide +kernel
theorem dL_terms_107 : decode cL_terms 107 = .ok (.iload 8, 2) := by decide +kernel
theorem dL_terms_109 : decode cL_terms 109 = .ok (.iload 6, 2) := by decide +kernel
theorem dL_terms_111 : decode cL_terms 111 = .ok (.iload 10, 2) := by decide +kernel
theorem dL_terms_113 : decode cL_terms 113 = .ok (.iconst 1, 1) := by decide +kernel
theorem dL_terms_114 : decode cL_terms 114 = .ok (.isub, 1) := by decide +kernel
theorem dL_terms_115 : decode cL_terms 115 = .ok (.invokevirtual 128, 3) := by decide +kernel
theorem dL_terms_118 : decode cL_terms 118 = .ok (.iload 9, 2) := by decide +kernel
theorem dL_terms_120 : decode cL_terms 120 = .ok (.iload 10, 2) := by decide +kernel
theorem dL_terms_122 : decode cL_terms 122 = .ok (.iconst 1, 1) := by decide +kernel
theorem dL_terms_123 : decode cL_terms 123 = .ok (.isub, 1) := by decide +kernel
theorem dL_terms_124 : decode cL_terms 124 = .ok (.aload_n 3, 1) := by decide +kernel
theorem dL_terms_125 : decode cL_terms 125 = .ok (.invokestatic 167, 3) := by decide +kernel
theorem dL_terms_128 : decode cL_terms 128 = .ok (.if_icmp .ne 19, 3) := by decide +kernel
theorem dL_terms_131 : decode cL_terms 131 = .ok (.aload_n 0, 1) := by decide +kernel
theorem dL_terms_132 : decode cL_terms 132 = .ok (.bipush 11, 2) := by decide +kernel
theorem dL_terms_134 : decode cL_terms 134 = .ok (.iload 8, 2) := by decide +kernel
theorem dL_terms_136 : decode cL_terms 136 = .ok (.iload 6, 2) := by decide +kernel
theorem dL_terms_138 : decode cL_terms 138 = .ok (.iload 10, 2) := by decide +kernel
theorem dL_terms_140 : decode cL_terms 140 = .ok (.invokestatic 151, 3) := by decide +kernel
theorem dL_terms_143 : decode cL_terms 143 = .ok (.iconst 1, 1) := by decide +kernel
theorem dL_terms_144 : decode cL_terms 144 = .ok (.if_icmp .eq 5, 3) := by decide +kernel
theorem dL_terms_147 : decode cL_terms 147 = .ok (.iconst 0, 1) := by decide +kernel
theorem dL_terms_148 : decode cL_terms 148 = .ok (.ireturn, 1) := by decide +kernel
theorem dL_terms_149 : decode cL_terms 149 = .ok (.iinc 8 1, 3) := by decide +kernel
theorem dL_terms_152 : decode cL_terms 152 = .ok (.goto (-149), 3) := by decide +kernel
theorem dL_terms_155 : decode cL_terms 155 = .ok (.aload_n 0, 1) := by decide +kernel
theorem dL_terms_156 : decode cL_terms 156 = .ok (.invokevirtual 170, 3) := by decide +kernel
theorem dL_terms_159 : decode cL_terms 159 = .ok (.iload_n 1, 1) := by decide +kernel
theorem dL_terms_160 : decode cL_terms 160 = .ok (.if_icmp .ne 20, 3) := by decide +kernel
theorem dL_terms_163 : decode cL_terms 163 = .ok (.aload_n 0, 1) := by decide +kernel
theorem dL_terms_164 : decode cL_terms 164 = .ok (.bipush 10, 2) := by decide +kernel
theorem dL_terms_166 : decode cL_terms 166 = .ok (.iload_n 1, 1) := by decide +kernel
theorem dL_terms_167 : decode cL_terms 167 = .ok (.iconst 0, 1) := by decide +kernel
theorem dL_terms_168 : decode cL_terms 168 = .ok (.iconst 0, 1) := by decide +kernel
theorem dL_terms_169 : decode cL_terms 169 = .ok (.invokestatic 151, 3) := by decide +kernel
theorem dL_terms_172 : decode cL_terms 172 = .ok (.iconst 1, 1) := by decide +kernel
theorem dL_terms_173 : decode cL_terms 173 = .ok (.if_icmp .ne 7, 3) := by decide +kernel
theorem dL_terms_176 : decode cL_terms 176 = .ok (.iconst 1, 1) := by decide +kernel
theorem dL_terms_177 : decode cL_terms 177 = .ok (.goto 4, 3) := by decide +kernel
theorem dL_terms_180 : decode cL_terms 180 = .ok (.iconst 0, 1) := by decide +kernel
theorem dL_terms_181 : decode cL_terms 181 = .ok (.ireturn, 1) := by decide +kernel
theorem dL_names_0 : decode cL_names 0 = .ok (.iconst (-1), 1) := by decide +kernel
theorem dL_names_1 : decode cL_names 1 = .ok (.istore_n 3, 1) := by decide +kernel
theorem dL_names_2 : decode cL_names 2 = .ok (.bipush 32, 2) := by decide +kernel
theorem dL_names_4 : decode cL_names 4 = .ok (.newarray .int, 2) := by decide +kernel
theorem dL_names_6 : decode cL_names 6 = .ok (.astore 4, 2) := by decide +kernel
theorem dL_names_8 : decode cL_names 8 = .ok (.iconst 1, 1) := by decide +kernel
theorem dL_names_9 : decode cL_names 9 = .ok (.istore 5, 2) := by decide +kernel
theorem dL_names_11 : decode cL_names 11 = .ok (.aload 4, 2) := by decide +kernel
theorem dL_names_13 : decode cL_names 13 = .ok (.iconst 0, 1) := by decide +kernel
theorem dL_names_14 : decode cL_names 14 = .ok (.iload_n 0, 1) := by decide +kernel
theorem dL_names_15 : decode cL_names 15 = .ok (.iastore, 1) := by decide +kernel
theorem dL_names_16 : decode cL_names 16 = .ok (.iload 5, 2) := by decide +kernel
theorem dL_names_18 : decode cL_names 18 = .ok (.ifCond .le 107, 3) := by decide +kernel
theorem dL_names_21 : decode cL_names 21 = .ok (.iinc 5 (-1), 3) := by decide +kernel
theorem dL_names_24 : decode cL_names 24 = .ok (.aload 4, 2) := by decide +kernel
theorem dL_names_26 : decode cL_names 26 = .ok (.iload 5, 2) := by decide +kernel
theorem dL_names_28 : decode cL_names 28 = .ok (.iaload, 1) := by decide +kernel
theorem dL_names_29 : decode cL_names 29 = .ok (.istore 6, 2) := by decide +kernel
theorem dL_names_31 : decode cL_names 31 = .ok (.aload_n 1, 1) := by decide +kernel
theorem dL_names_32 : decode cL_names 32 = .ok (.iconst 4, 1) := by decide +kernel
theorem dL_names_33 : decode cL_names 33 = .ok (.iload 6, 2) := by decide +kernel
theorem dL_names_35 : decode cL_names 35 = .ok (.imul, 1) := by decide +kernel
theorem dL_names_36 : decode cL_names 36 = .ok (.iaload, 1) := by decide +kernel
theorem dL_names_37 : decode cL_names 37 = .ok (.istore 7, 2) := by decide +kernel
theorem dL_names_39 : decode cL_names 39 = .ok (.iload 7, 2) := by decide +kernel
theorem dL_names_41 : decode cL_names 41 = .ok (.bipush 6, 2) := by decide +kernel
theorem dL_names_43 : decode cL_names 43 = .ok (.if_icmp .ne 28, 3) := by decide +kernel
theorem dL_names_46 : decode cL_names 46 = .ok (.aload_n 1, 1) := by decide +kernel
theorem dL_names_47 : decode cL_names 47 = .ok (.iconst 4, 1) := by decide +kernel
theorem dL_names_48 : decode cL_names 48 = .ok (.iload 6, 2) := by decide +kernel
theorem dL_names_50 : decode cL_names 50 = .ok (.imul, 1) := by decide +kernel
theorem dL_names_51 : decode cL_names 51 = .ok (.iconst 1, 1) := by decide +kernel
theorem dL_names_52 : decode cL_names 52 = .ok (.iadd, 1) := by decide +kernel
theorem dL_names_53 : decode cL_names 53 = .ok (.iaload, 1) := by decide +kernel
theorem dL_names_54 : decode cL_names 54 = .ok (.iload_n 3, 1) := by decide +kernel
theorem dL_names_55 : decode cL_names 55 = .ok (.if_icmp .le 14, 3) := by decide +kernel
theorem dL_names_58 : decode cL_names 58 = .ok (.aload_n 1, 1) := by decide +kernel
theorem dL_names_59 : decode cL_names 59 = .ok (.iconst 4, 1) := by decide +kernel
theorem dL_names_60 : decode cL_names 60 = .ok (.iload 6, 2) := by decide +kernel
theorem dL_names_62 : decode cL_names 62 = .ok (.imul, 1) := by decide +kernel
theorem dL_names_63 : decode cL_names 63 = .ok (.iconst 1, 1) := by decide +kernel
theorem dL_names_64 : decode cL_names 64 = .ok (.iadd, 1) := by decide +kernel
theorem dL_names_65 : decode cL_names 65 = .ok (.iaload, 1) := by decide +kernel
theorem dL_names_66 : decode cL_names 66 = .ok (.goto 4, 3) := by decide +kernel
theorem dL_names_69 : decode cL_names 69 = .ok (.iload_n 3, 1) := by decide +kernel
theorem dL_names_70 : decode cL_names 70 = .ok (.istore_n 3, 1) := by decide +kernel
theorem dL_names_71 : decode cL_names 71 = .ok (.iload 7, 2) := by decide +kernel
theorem dL_names_73 : decode cL_names 73 = .ok (.iconst 4, 1) := by decide +kernel
theorem dL_names_74 : decode cL_names 74 = .ok (.if_icmp .lt 10, 3) := by decide +kernel
theorem dL_names_77 : decode cL_names 77 = .ok (.iload 7, 2) := by decide +kernel
theorem dL_names_79 : decode cL_names 79 = .ok (.bipush 6, 2) := by decide +kernel
theorem dL_names_81 : decode cL_names 81 = .ok (.if_icmp .le 19, 3) := by decide +kernel
theorem dL_names_84 : decode cL_names 84 = .ok (.aload 4, 2) := by decide +kernel
theorem dL_names_86 : decode cL_names 86 = .ok (.iload 5, 2) := by decide +kernel
theorem dL_names_88 : decode cL_names 88 = .ok (.aload_n 1, 1) := by decide +kernel
theorem dL_names_89 : decode cL_names 89 = .ok (.iconst 4, 1) := by decide +kernel
theorem dL_names_90 : decode cL_names 90 = .ok (.iload 6, 2) := by decide +kernel
theorem dL_names_92 : decode cL_names 92 = .ok (.imul, 1) := by decide +kernel
theorem dL_names_93 : decode cL_names 93 = .ok (.iconst 1, 1) := by decide +kernel
theorem dL_names_94 : decode cL_names 94 = .ok (.iadd, 1) := by decide +kernel
theorem dL_names_95 : decode cL_names 95 = .ok (.iaload, 1) := by decide +kernel
theorem dL_names_96 : decode cL_names 96 = .ok (.iastore, 1) := by decide +kernel
theorem dL_names_97 : decode cL_names 97 = .ok (.iinc 5 1, 3) := by decide +kernel
theorem dL_names_100 : decode cL_names 100 = .ok (.iload 7, 2) := by decide +kernel
theorem dL_names_102 : decode cL_names 102 = .ok (.iconst 4, 1) := by decide +kernel
theorem dL_names_103 : decode cL_names 103 = .ok (.if_icmp .ge 19, 3) := by decide +kernel
theorem dL_names_106 : decode cL_names 106 = .ok (.aload 4, 2) := by decide +kernel
theorem dL_names_108 : decode cL_names 108 = .ok (.iload 5, 2) := by decide +kernel
theorem dL_names_110 : decode cL_names 110 = .ok (.aload_n 1, 1) := by decide +kernel
theorem dL_names_111 : decode cL_names 111 = .ok (.iconst 4, 1) := by decide +kernel
theorem dL_names_112 : decode cL_names 112 = .ok (.iload 6, 2) := by decide +kernel
theorem dL_names_114 : decode cL_names 114 = .ok (.imul, 1) := by decide +kernel
theorem dL_names_115 : decode cL_names 115 = .ok (.iconst 2, 1) := by decide +kernel
theorem dL_names_116 : decode cL_names 116 = .ok (.iadd, 1) := by decide +kernel
theorem dL_names_117 : decode cL_names 117 = .ok (.iaload, 1) := by decide +kernel
theorem dL_names_118 : decode cL_names 118 = .ok (.iastore, 1) := by decide +kernel
theorem dL_names_119 : decode cL_names 119 = .ok (.iinc 5 1, 3) := by decide +kernel
theorem dL_names_122 : decode cL_names 122 = .ok (.goto (-106), 3) := by decide +kernel
theorem dL_names_125 : decode cL_names 125 = .ok (.iload_n 3, 1) := by decide +kernel
theorem dL_names_126 : decode cL_names 126 = .ok (.ireturn, 1) := by decide +kernel
theorem dL_law_0 : decode cL_law 0 = .ok (.new 92, 3) := by decide +kernel
theorem dL_law_3 : decode cL_law 3 = .ok (.dup, 1) := by decide +kernel
theorem dL_law_4 : decode cL_law 4 = .ok (.invokespecial 173, 3) := by decide +kernel
theorem dL_law_7 : decode cL_law 7 = .ok (.astore_n 1, 1) := by decide +kernel
theorem dL_law_8 : decode cL_law 8 = .ok (.bipush 60, 2) := by decide +kernel
theorem dL_law_10 : decode cL_law 10 = .ok (.newarray .int, 2) := by decide +kernel
theorem dL_law_12 : decode cL_law 12 = .ok (.astore_n 2, 1) := by decide +kernel
theorem dL_law_13 : decode cL_law 13 = .ok (.bipush 60, 2) := by decide +kernel
theorem dL_law_15 : decode cL_law 15 = .ok (.newarray .int, 2) := by decide +kernel
theorem dL_law_17 : decode cL_law 17 = .ok (.astore_n 3, 1) := by decide +kernel
theorem dL_law_18 : decode cL_law 18 = .ok (.bipush 60, 2) := by decide +kernel
theorem dL_law_20 : decode cL_law 20 = .ok (.newarray .int, 2) := by decide +kernel
theorem dL_law_22 : decode cL_law 22 = .ok (.astore 4, 2) := by decide +kernel
theorem dL_law_24 : decode cL_law 24 = .ok (.bipush 6, 2) := by decide +kernel
theorem dL_law_26 : decode cL_law 26 = .ok (.newarray .int, 2) := by decide +kernel
theorem dL_law_28 : decode cL_law 28 = .ok (.astore 5, 2) := by decide +kernel
theorem dL_law_30 : decode cL_law 30 = .ok (.bipush 64, 2) := by decide +kernel
theorem dL_law_32 : decode cL_law 32 = .ok (.newarray .int, 2) := by decide +kernel
theorem dL_law_34 : decode cL_law 34 = .ok (.astore 6, 2) := by decide +kernel
theorem dL_law_36 : decode cL_law 36 = .ok (.bipush 8, 2) := by decide +kernel
theorem dL_law_38 : decode cL_law 38 = .ok (.newarray .int, 2) := by decide +kernel
theorem dL_law_40 : decode cL_law 40 = .ok (.astore 7, 2) := by decide +kernel
theorem dL_law_42 : decode cL_law 42 = .ok (.bipush 8, 2) := by decide +kernel
theorem dL_law_44 : decode cL_law 44 = .ok (.newarray .int, 2) := by decide +kernel
theorem dL_law_46 : decode cL_law 46 = .ok (.astore 8, 2) := by decide +kernel
theorem dL_law_48 : decode cL_law 48 = .ok (.iconst 0, 1) := by decide +kernel
theorem dL_law_49 : decode cL_law 49 = .ok (.istore 9, 2) := by decide +kernel
theorem dL_law_51 : decode cL_law 51 = .ok (.iconst 0, 1) := by decide +kernel
theorem dL_law_52 : decode cL_law 52 = .ok (.istore 10, 2) := by decide +kernel
theorem dL_law_54 : decode cL_law 54 = .ok (.iconst 0, 1) := by decide +kernel
theorem dL_law_55 : decode cL_law 55 = .ok (.istore 11, 2) := by decide +kernel
theorem dL_law_57 : decode cL_law 57 = .ok (.iconst 0, 1) := by decide +kernel
theorem dL_law_58 : decode cL_law 58 = .ok (.istore 12, 2) := by decide +kernel
theorem dL_law_60 : decode cL_law 60 = .ok (.iconst 0, 1) := by decide +kernel
theorem dL_law_61 : decode cL_law 61 = .ok (.istore 13, 2) := by decide +kernel
theorem dL_law_63 : decode cL_law 63 = .ok (.iconst 0, 1) := by decide +kernel
theorem dL_law_64 : decode cL_law 64 = .ok (.istore 14, 2) := by decide +kernel
theorem dL_law_66 : decode cL_law 66 = .ok (.iload 14, 2) := by decide +kernel
theorem dL_law_68 : decode cL_law 68 = .ok (.bipush 60, 2) := by decide +kernel
theorem dL_law_70 : decode cL_law 70 = .ok (.if_icmp .ge 15, 3) := by decide +kernel
theorem dL_law_73 : decode cL_law 73 = .ok (.aload 4, 2) := by decide +kernel
theorem dL_law_75 : decode cL_law 75 = .ok (.iload 14, 2) := by decide +kernel
theorem dL_law_77 : decode cL_law 77 = .ok (.iconst (-1), 1) := by decide +kernel
theorem dL_law_78 : decode cL_law 78 = .ok (.iastore, 1) := by decide +kernel
theorem dL_law_79 : decode cL_law 79 = .ok (.iinc 14 1, 3) := by decide +kernel
theorem dL_law_82 : decode cL_law 82 = .ok (.goto (-16), 3) := by decide +kernel
theorem dL_law_85 : decode cL_law 85 = .ok (.iconst 0, 1) := by decide +kernel
theorem dL_law_86 : decode cL_law 86 = .ok (.istore 14, 2) := by decide +kernel
theorem dL_law_88 : decode cL_law 88 = .ok (.iload 14, 2) := by decide +kernel
theorem dL_law_90 : decode cL_law 90 = .ok (.bipush 60, 2) := by decide +kernel
theorem dL_law_92 : decode cL_law 92 = .ok (.if_icmp .ge 2227, 3) := by decide +kernel
theorem dL_law_95 : decode cL_law 95 = .ok (.aload_n 0, 1) := by decide +kernel
theorem dL_law_96 : decode cL_law 96 = .ok (.iconst 2, 1) := by decide +kernel
theorem dL_law_97 : decode cL_law 97 = .ok (.iload 14, 2) := by decide +kernel
theorem dL_law_99 : decode cL_law 99 = .ok (.imul, 1) := by decide +kernel
theorem dL_law_100 : decode cL_law 100 = .ok (.invokestatic 174, 3) := by decide +kernel
theorem dL_law_103 : decode cL_law 103 = .ok (.istore 15, 2) := by decide +kernel
theorem dL_law_105 : decode cL_law 105 = .ok (.aload_n 0, 1) := by decide +kernel
theorem dL_law_106 : decode cL_law 106 = .ok (.iconst 2, 1) := by decide +kernel
theorem dL_law_107 : decode cL_law 107 = .ok (.iload 14, 2) := by decide +kernel
theorem dL_law_109 : decode cL_law 109 = .ok (.imul, 1) := by decide +kernel
theorem dL_law_110 : decode cL_law 110 = .ok (.iconst 1, 1) := by decide +kernel
theorem dL_law_111 : decode cL_law 111 = .ok (.iadd, 1) := by decide +kernel
theorem dL_law_112 : decode cL_law 112 = .ok (.invokestatic 174, 3) := by decide +kernel
theorem dL_law_115 : decode cL_law 115 = .ok (.istore 16, 2) := by decide +kernel
theorem dL_law_117 : decode cL_law 117 = .ok (.iload 14, 2) := by decide +kernel
theorem dL_law_119 : decode cL_law 119 = .ok (.ifCond .ne 7, 3) := by decide +kernel
theorem dL_law_122 : decode cL_law 122 = .ok (.iconst 2, 1) := by decide +kernel
theorem dL_law_123 : decode cL_law 123 = .ok (.goto 21, 3) := by decide +kernel
theorem dL_law_126 : decode cL_law 126 = .ok (.iload 14, 2) := by decide +kernel
theorem dL_law_128 : decode cL_law 128 = .ok (.iconst 1, 1) := by decide +kernel
theorem dL_law_129 : decode cL_law 129 = .ok (.if_icmp .ne 8, 3) := by decide +kernel
theorem dL_law_132 : decode cL_law 132 = .ok (.bipush 10, 2) := by decide +kernel
theorem dL_law_134 : decode cL_law 134 = .ok (.goto 10, 3) := by decide +kernel
theorem dL_law_137 : decode cL_law 137 = .ok (.iload 15, 2) := by decide +kernel
theorem dL_law_139 : decode cL_law 139 = .ok (.bipush 20, 2) := by decide +kernel
theorem dL_law_141 : decode cL_law 141 = .ok (.invokestatic 178, 3) := by decide +kernel
theorem dL_law_144 : decode cL_law 144 = .ok (.istore 17, 2) := by decide +kernel
theorem dL_law_146 : decode cL_law 146 = .ok (.iload 11, 2) := by decide +kernel
theorem dL_law_148 : decode cL_law 148 = .ok (.ifCond .ne 7, 3) := by decide +kernel
theorem dL_law_151 : decode cL_law 151 = .ok (.iconst 0, 1) := by decide +kernel
theorem dL_law_152 : decode cL_law 152 = .ok (.goto 10, 3) := by decide +kernel
theorem dL_law_155 : decode cL_law 155 = .ok (.iload 16, 2) := by decide +kernel
theorem dL_law_157 : decode cL_law 157 = .ok (.iload 11, 2) := by decide +kernel
theorem dL_law_159 : decode cL_law 159 = .ok (.invokestatic 178, 3) := by decide +kernel
theorem dL_law_162 : decode cL_law 162 = .ok (.istore 18, 2) := by decide +kernel
theorem dL_law_164 : decode cL_law 164 = .ok (.iload 12, 2) := by decide +kernel
theorem dL_law_166 : decode cL_law 166 = .ok (.ifCond .ne 7, 3) := by decide +kernel
theorem dL_law_169 : decode cL_law 169 = .ok (.iconst 0, 1) := by decide +kernel
theorem dL_law_170 : decode cL_law 170 = .ok (.goto 10, 3) := by decide +kernel
theorem dL_law_173 : decode cL_law 173 = .ok (.iload 16, 2) := by decide +kernel
theorem dL_law_175 : decode cL_law 175 = .ok (.iload 12, 2) := by decide +kernel
theorem dL_law_177 : decode cL_law 177 = .ok (.invokestatic 178, 3) := by decide +kernel
theorem dL_law_180 : decode cL_law 180 = .ok (.istore 19, 2) := by decide +kernel
theorem dL_law_182 : decode cL_law 182 = .ok (.iload 16, 2) := by decide +kernel
theorem dL_law_184 : decode cL_law 184 = .ok (.iconst 3, 1) := by decide +kernel
theorem dL_law_185 : decode cL_law 185 = .ok (.ishr, 1) := by decide +kernel
theorem dL_law_186 : decode cL_law 186 = .ok (.bipush 9, 2) := by decide +kernel
theorem dL_law_188 : decode cL_law 188 = .ok (.invokestatic 178, 3) := by decide +kernel
theorem dL_law_191 : decode cL_law 191 = .ok (.istore 20, 2) := by decide +kernel
theorem dL_law_193 : decode cL_law 193 = .ok (.iload 10, 2) := by decide +kernel
theorem dL_law_195 : decode cL_law 195 = .ok (.ifCond .ne 7, 3) := by decide +kernel
theorem dL_law_198 : decode cL_law 198 = .ok (.iconst 0, 1) := by decide +kernel
theorem dL_law_199 : decode cL_law 199 = .ok (.goto 10, 3) := by decide +kernel
theorem dL_law_202 : decode cL_law 202 = .ok (.aload 8, 2) := by decide +kernel
theorem dL_law_204 : decode cL_law 204 = .ok (.iload 10, 2) := by decide +kernel
theorem dL_law_206 : decode cL_law 206 = .ok (.iconst 1, 1) := by decide +kernel
theorem dL_law_207 : decode cL_law 207 = .ok (.isub, 1) := by decide +kernel
theorem dL_law_208 : decode cL_law 208 = .ok (.iaload, 1) := by decide +kernel
theorem dL_law_209 : decode cL_law 209 = .ok (.istore 21, 2) := by decide +kernel
theorem dL_law_211 : decode cL_law 211 = .ok (.iload 17, 2) := by decide +kernel
theorem dL_law_213 : decode cL_law 213 = .ok (.iconst 2, 1) := by decide +kernel
theorem dL_law_214 : decode cL_law 214 = .ok (.if_icmp .ge 79, 3) := by decide +kernel
theorem dL_law_217 : decode cL_law 217 = .ok (.iload 15, 2) := by decide +kernel
theorem dL_law_219 : decode cL_law 219 = .ok (.iconst 5, 1) := by decide +kernel
theorem dL_law_220 : decode cL_law 220 = .ok (.ishr, 1) := by decide +kernel
theorem dL_law_221 : decode cL_law 221 = .ok (.bipush 6, 2) := by decide +kernel
theorem dL_law_223 : decode cL_law 223 = .ok (.invokestatic 178, 3) := by decide +kernel
theorem dL_law_226 : decode cL_law 226 = .ok (.istore 22, 2) := by decide +kernel
theorem dL_law_228 : decode cL_law 228 = .ok (.aload_n 3, 1) := by decide +kernel
theorem dL_law_229 : decode cL_law 229 = .ok (.bipush 10, 2) := by decide +kernel
theorem dL_law_231 : decode cL_law 231 = .ok (.iload 22, 2) := by decide +kernel
theorem dL_law_233 : decode cL_law 233 = .ok (.imul, 1) := by decide +kernel
theorem dL_law_234 : decode cL_law 234 = .ok (.iload 20, 2) := by decide +kernel
theorem dL_law_236 : decode cL_law 236 = .ok (.iadd, 1) := by decide +kernel
theorem dL_law_237 : decode cL_law 237 = .ok (.iaload, 1) := by decide +kernel
theorem dL_law_238 : decode cL_law 238 = .ok (.istore 23, 2) := by decide +kernel
theorem dL_law_240 : decode cL_law 240 = .ok (.aload_n 3, 1) := by decide +kernel
theorem dL_law_241 : decode cL_law 241 = .ok (.bipush 10, 2) := by decide +kernel
theorem dL_law_243 : decode cL_law 243 = .ok (.iload 22, 2) := by decide +kernel
theorem dL_law_245 : decode cL_law 245 = .ok (.imul, 1) := by decide +kernel
theorem dL_law_246 : decode cL_law 246 = .ok (.iload 20, 2) := by decide +kernel
theorem dL_law_248 : decode cL_law 248 = .ok (.iadd, 1) := by decide +kernel
theorem dL_law_249 : decode cL_law 249 = .ok (.iload 15, 2) := by decide +kernel
theorem dL_law_251 : decode cL_law 251 = .ok (.bipush 8, 2) := by decide +kernel
theorem dL_law_253 : decode cL_law 253 = .ok (.ishr, 1) := by decide +kernel
theorem dL_law_254 : decode cL_law 254 = .ok (.sipush 4001, 3) := by decide +kernel
theorem dL_law_257 : decode cL_law 257 = .ok (.invokestatic 178, 3) := by decide +kernel
theorem dL_law_260 : decode cL_law 260 = .ok (.sipush 1000, 3) := by decide +kernel
theorem dL_law_263 : decode cL_law 263 = .ok (.isub, 1) := by decide +kernel
theorem dL_law_264 : decode cL_law 264 = .ok (.iastore, 1) := by decide +kernel
theorem dL_law_265 : decode cL_law 265 = .ok (.aload_n 1, 1) := by decide +kernel
theorem dL_law_266 : decode cL_law 266 = .ok (.iload 22, 2) := by decide +kernel
theorem dL_law_268 : decode cL_law 268 = .ok (.iload 20, 2) := by decide +kernel
theorem dL_law_270 : decode cL_law 270 = .ok (.aload_n 3, 1) := by decide +kernel
theorem dL_law_271 : decode cL_law 271 = .ok (.bipush 10, 2) := by decide +kernel
theorem dL_law_273 : decode cL_law 273 = .ok (.iload 22, 2) := by decide +kernel
theorem dL_law_275 : decode cL_law 275 = .ok (.imul, 1) := by decide +kernel
theorem dL_law_276 : decode cL_law 276 = .ok (.iload 20, 2) := by decide +kernel
theorem dL_law_278 : decode cL_law 278 = .ok (.iadd, 1) := by decide +kernel
theorem dL_law_279 : decode cL_law 279 = .ok (.iaload, 1) := by decide +kernel
theorem dL_law_280 : decode cL_law 280 = .ok (.invokevirtual 181, 3) := by decide +kernel
theorem dL_law_283 : decode cL_law 283 = .ok (.iload 23, 2) := by decide +kernel
theorem dL_law_285 : decode cL_law 285 = .ok (.if_icmp .eq 5, 3) := by decide +kernel
theorem dL_law_288 : decode cL_law 288 = .ok (.iconst 0, 1) := by decide +kernel
theorem dL_law_289 : decode cL_law 289 = .ok (.ireturn, 1) := by decide +kernel
theorem dL_law_290 : decode cL_law 290 = .ok (.goto 1978, 3) := by decide +kernel
theorem dL_law_293 : decode cL_law 293 = .ok (.iload 17, 2) := by decide +kernel
theorem dL_law_295 : decode cL_law 295 = .ok (.iconst 5, 1) := by decide +kernel
theorem dL_law_296 : decode cL_law 296 = .ok (.if_icmp .ge 277, 3) := by decide +kernel
theorem dL_law_299 : decode cL_law 299 = .ok (.iload 17, 2) := by decide +kernel
theorem dL_law_301 : decode cL_law 301 = .ok (.iconst 2, 1) := by decide +kernel
theorem dL_law_302 : decode cL_law 302 = .ok (.if_icmp .ne 7, 3) := by decide +kernel
theorem dL_law_305 : decode cL_law 305 = .ok (.iconst 4, 1) := by decide +kernel
theorem dL_law_306 : decode cL_law 306 = .ok (.goto 15, 3) := by decide +kernel
theorem dL_law_309 : decode cL_law 309 = .ok (.iload 17, 2) := by decide +kernel
theorem dL_law_311 : decode cL_law 311 = .ok (.iconst 3, 1) := by decide +kernel
theorem dL_law_312 : decode cL_law 312 = .ok (.if_icmp .ne 7, 3) := by decide +kernel
theorem dL_law_315 : decode cL_law 315 = .ok (.iconst 5, 1) := by decide +kernel
theorem dL_law_316 : decode cL_law 316 = .ok (.goto 5, 3) := by decide +kernel
theorem dL_law_319 : decode cL_law 319 = .ok (.bipush 6, 2) := by decide +kernel
theorem dL_law_321 : decode cL_law 321 = .ok (.istore 22, 2) := by decide +kernel
theorem dL_law_323 : decode cL_law 323 = .ok (.iload 9, 2) := by decide +kernel
theorem dL_law_325 : decode cL_law 325 = .ok (.bipush 15, 2) := by decide +kernel
theorem dL_law_327 : decode cL_law 327 = .ok (.if_icmp .ne 17, 3) := by decide +kernel
theorem dL_law_330 : decode cL_law 330 = .ok (.iload 17, 2) := by decide +kernel
theorem dL_law_332 : decode cL_law 332 = .ok (.iconst 4, 1) := by decide +kernel
theorem dL_law_333 : decode cL_law 333 = .ok (.if_icmp .lt 1980, 3) := by decide +kernel
theorem dL_law_336 : decode cL_law 336 = .ok (.iload 11, 2) := by decide +kernel
theorem dL_law_338 : decode cL_law 338 = .ok (.ifCond .le 6, 3) := by decide +kernel
theorem dL_law_341 : decode cL_law 341 = .ok (.goto 1972, 3) := by decide +kernel
theorem dL_law_344 : decode cL_law 344 = .ok (.iload 17, 2) := by decide +kernel
theorem dL_law_346 : decode cL_law 346 = .ok (.iconst 4, 1) := by decide +kernel
theorem dL_law_347 : decode cL_law 347 = .ok (.if_icmp .ne 22, 3) := by decide +kernel
theorem dL_law_350 : decode cL_law 350 = .ok (.iload 11, 2) := by decide +kernel
theorem dL_law_352 : decode cL_law 352 = .ok (.ifCond .ne 17, 3) := by decide +kernel
theorem dL_law_355 : decode cL_law 355 = .ok (.aload_n 1, 1) := by decide +kernel
theorem dL_law_356 : decode cL_law 356 = .ok (.iconst 0, 1) := by decide +kernel
theorem dL_law_357 : decode cL_law 357 = .ok (.iconst 0, 1) := by decide +kernel
theorem dL_law_358 : decode cL_law 358 = .ok (.iconst 0, 1) := by decide +kernel
theorem dL_law_359 : decode cL_law 359 = .ok (.iconst 0, 1) := by decide +kernel
theorem dL_law_360 : decode cL_law 360 = .ok (.invokestatic 151, 3) := by decide +kernel
theorem dL_law_363 : decode cL_law 363 = .ok (.iconst 1, 1) := by decide +kernel
theorem dL_law_364 : decode cL_law 364 = .ok (.if_icmp .eq 1949, 3) := by decide +kernel
theorem dL_law_367 : decode cL_law 367 = .ok (.iconst 0, 1) := by decide +kernel
theorem dL_law_368 : decode cL_law 368 = .ok (.ireturn, 1) := by decide +kernel
theorem dL_law_369 : decode cL_law 369 = .ok (.iload 10, 2) := by decide +kernel
theorem dL_law_371 : decode cL_law 371 = .ok (.bipush 8, 2) := by decide +kernel
theorem dL_law_373 : decode cL_law 373 = .ok (.if_icmp .eq 19, 3) := by decide +kernel
theorem dL_law_376 : decode cL_law 376 = .ok (.iload 17, 2) := by decide +kernel
theorem dL_law_378 : decode cL_law 378 = .ok (.iconst 4, 1) := by decide +kernel
theorem dL_law_379 : decode cL_law 379 = .ok (.if_icmp .ne 34, 3) := by decide +kernel
theorem dL_law_382 : decode cL_law 382 = .ok (.aload 5, 2) := by decide +kernel
theorem dL_law_384 : decode cL_law 384 = .ok (.iload 18, 2) := by decide +kernel
theorem dL_law_386 : decode cL_law 386 = .ok (.iaload, 1) := by decide +kernel
theorem dL_law_387 : decode cL_law 387 = .ok (.bipush 6, 2) := by decide +kernel
theorem dL_law_389 : decode cL_law 389 = .ok (.if_icmp .ne 24, 3) := by decide +kernel
theorem dL_law_392 : decode cL_law 392 = .ok (.iload 17, 2) := by decide +kernel
theorem dL_law_394 : decode cL_law 394 = .ok (.iconst 4, 1) := by decide +kernel
theorem dL_law_395 : decode cL_law 395 = .ok (.if_icmp .ne 1918, 3) := by decide +kernel
theorem dL_law_398 : decode cL_law 398 = .ok (.aload_n 1, 1) := by decide +kernel
theorem dL_law_399 : decode cL_law 399 = .ok (.iconst 0, 1) := by decide +kernel
theorem dL_law_400 : decode cL_law 400 = .ok (.iload 18, 2) := by decide +kernel
theorem dL_law_402 : decode cL_law 402 = .ok (.iconst 0, 1) := by decide +kernel
theorem dL_law_403 : decode cL_law 403 = .ok (.iconst 0, 1) := by decide +kernel
theorem dL_law_404 : decode cL_law 404 = .ok (.invokestatic 151, 3) := by decide +kernel
theorem dL_law_407 : decode cL_law 407 = .ok (.iconst 3, 1) := by decide +kernel
theorem dL_law_408 : decode cL_law 408 = .ok (.if_icmp .eq 1905, 3) := by decide +kernel
theorem dL_law_411 : decode cL_law 411 = .ok (.iconst 0, 1) := by decide +kernel
theorem dL_law_412 : decode cL_law 412 = .ok (.ireturn, 1) := by decide +kernel
theorem dL_law_413 : decode cL_law 413 = .ok (.iload 17, 2) := by decide +kernel
theorem dL_law_415 : decode cL_law 415 = .ok (.iconst 2, 1) := by decide +kernel
theorem dL_law_416 : decode cL_law 416 = .ok (.if_icmp .ne 15, 3) := by decide +kernel
theorem dL_law_419 : decode cL_law 419 = .ok (.iload 15, 2) := by decide +kernel
theorem dL_law_421 : decode cL_law 421 = .ok (.iconst 5, 1) := by decide +kernel
theorem dL_law_422 : decode cL_law 422 = .ok (.ishr, 1) := by decide +kernel
theorem dL_law_423 : decode cL_law 423 = .ok (.bipush 6, 2) := by decide +kernel
theorem dL_law_425 : decode cL_law 425 = .ok (.invokestatic 178, 3) := by decide +kernel
theorem dL_law_428 : decode cL_law 428 = .ok (.goto 41, 3) := by decide +kernel
theorem dL_law_431 : decode cL_law 431 = .ok (.iload 17, 2) := by decide +kernel
theorem dL_law_433 : decode cL_law 433 = .ok (.iconst 3, 1) := by decide +kernel
theorem dL_law_434 : decode cL_law 434 = .ok (.if_icmp .ne 33, 3) := by decide +kernel
theorem dL_law_437 : decode cL_law 437 = .ok (.iload 15, 2) := by decide +kernel
theorem dL_law_439 : decode cL_law 439 = .ok (.iconst 5, 1) := by decide +kernel
theorem dL_law_440 : decode cL_law 440 = .ok (.ishr, 1) := by decide +kernel
theorem dL_law_441 : decode cL_law 441 = .ok (.iload 15, 2) := by decide +kernel
theorem dL_law_443 : decode cL_law 443 = .ok (.bipush 26, 2) := by decide +kernel
theorem dL_law_445 : decode cL_law 445 = .ok (.ishr, 1) := by decide +kernel
theorem dL_law_446 : decode cL_law 446 = .ok (.iconst 2, 1) := by decide +kernel
theorem dL_law_447 : decode cL_law 447 = .ok (.invokestatic 178, 3) := by decide +kernel
theorem dL_law_450 : decode cL_law 450 = .ok (.ifCond .ne 8, 3) := by decide +kernel
theorem dL_law_453 : decode cL_law 453 = .ok (.ldc 184, 2) := by decide +kernel
theorem dL_law_455 : decode cL_law 455 = .ok (.goto 6, 3) := by decide +kernel
theorem dL_law_458 : decode cL_law 458 = .ok (.sipush 300, 3) := by decide +kernel
theorem dL_law_461 : decode cL_law 461 = .ok (.invokestatic 178, 3) := by decide +kernel
theorem dL_law_464 : decode cL_law 464 = .ok (.goto 5, 3) := by decide +kernel
theorem dL_law_467 : decode cL_law 467 = .ok (.iload 18, 2) := by decide +kernel
theorem dL_law_469 : decode cL_law 469 = .ok (.istore 23, 2) := by decide +kernel
theorem dL_law_471 : decode cL_law 471 = .ok (.aload_n 2, 1) := by decide +kernel
theorem dL_law_472 : decode cL_law 472 = .ok (.iconst 4, 1) := by decide +kernel
theorem dL_law_473 : decode cL_law 473 = .ok (.iload 9, 2) := by decide +kernel
theorem dL_law_475 : decode cL_law 475 = .ok (.imul, 1) := by decide +kernel
theorem dL_law_476 : decode cL_law 476 = .ok (.iload 22, 2) := by decide +kernel
theorem dL_law_478 : decode cL_law 478 = .ok (.iastore, 1) := by decide +kernel
theorem dL_law_479 : decode cL_law 479 = .ok (.aload_n 2, 1) := by decide +kernel
theorem dL_law_480 : decode cL_law 480 = .ok (.iconst 4, 1) := by decide +kernel
theorem dL_law_481 : decode cL_law 481 = .ok (.iload 9, 2) := by decide +kernel
theorem dL_law_483 : decode cL_law 483 = .ok (.imul, 1) := by decide +kernel
theorem dL_law_484 : decode cL_law 484 = .ok (.iconst 1, 1) := by decide +kernel
theorem dL_law_485 : decode cL_law 485 = .ok (.iadd, 1) := by decide +kernel
theorem dL_law_486 : decode cL_law 486 = .ok (.iload 23, 2) := by decide +kernel
theorem dL_law_488 : decode cL_law 488 = .ok (.iastore, 1) := by decide +kernel
theorem dL_law_489 : decode cL_law 489 = .ok (.aload_n 2, 1) := by decide +kernel
theorem dL_law_490 : decode cL_law 490 = .ok (.iconst 4, 1) := by decide +kernel
theorem dL_law_491 : decode cL_law 491 = .ok (.iload 9, 2) := by decide +kernel
theorem dL_law_493 : decode cL_law 493 = .ok (.imul, 1) := by decide +kernel
theorem dL_law_494 : decode cL_law 494 = .ok (.iconst 3, 1) := by decide +kernel
theorem dL_law_495 : decode cL_law 495 = .ok (.iadd, 1) := by decide +kernel
theorem dL_law_496 : decode cL_law 496 = .ok (.iload 17, 2) := by decide +kernel
theorem dL_law_498 : decode cL_law 498 = .ok (.iconst 4, 1) := by decide +kernel
theorem dL_law_499 : decode cL_law 499 = .ok (.if_icmp .ne 13, 3) := by decide +kernel
theorem dL_law_502 : decode cL_law 502 = .ok (.aload 5, 2) := by decide +kernel
theorem dL_law_504 : decode cL_law 504 = .ok (.iload 18, 2) := by decide +kernel
theorem dL_law_506 : decode cL_law 506 = .ok (.iaload, 1) := by decide +kernel
theorem dL_law_507 : decode cL_law 507 = .ok (.iconst 1, 1) := by decide +kernel
theorem dL_law_508 : decode cL_law 508 = .ok (.iadd, 1) := by decide +kernel
theorem dL_law_509 : decode cL_law 509 = .ok (.goto 4, 3) := by decide +kernel
theorem dL_law_512 : decode cL_law 512 = .ok (.iconst 1, 1) := by decide +kernel
theorem dL_law_513 : decode cL_law 513 = .ok (.iastore, 1) := by decide +kernel
theorem dL_law_514 : decode cL_law 514 = .ok (.aload 8, 2) := by decide +kernel
theorem dL_law_516 : decode cL_law 516 = .ok (.iload 10, 2) := by decide +kernel
theorem dL_law_518 : decode cL_law 518 = .ok (.iload 9, 2) := by decide +kernel
theorem dL_law_520 : decode cL_law 520 = .ok (.iastore, 1) := by decide +kernel
theorem dL_law_521 : decode cL_law 521 = .ok (.iinc 9 1, 3) := by decide +kernel
theorem dL_law_524 : decode cL_law 524 = .ok (.iinc 10 1, 3) := by decide +kernel
theorem dL_law_527 : decode cL_law 527 = .ok (.iload 17, 2) := by decide +kernel
theorem dL_law_529 : decode cL_law 529 = .ok (.iconst 2, 1) := by decide +kernel
theorem dL_law_530 : decode cL_law 530 = .ok (.if_icmp .ne 12, 3) := by decide +kernel
theorem dL_law_533 : decode cL_law 533 = .ok (.aload_n 1, 1) := by decide +kernel
theorem dL_law_534 : decode cL_law 534 = .ok (.iload 23, 2) := by decide +kernel
theorem dL_law_536 : decode cL_law 536 = .ok (.invokevirtual 185, 3) := by decide +kernel
theorem dL_law_539 : decode cL_law 539 = .ok (.goto 24, 3) := by decide +kernel
theorem dL_law_542 : decode cL_law 542 = .ok (.iload 17, 2) := by decide +kernel
theorem dL_law_544 : decode cL_law 544 = .ok (.iconst 3, 1) := by decide +kernel
theorem dL_law_545 : decode cL_law 545 = .ok (.if_icmp .ne 12, 3) := by decide +kernel
theorem dL_law_548 : decode cL_law 548 = .ok (.aload_n 1, 1) := by decide +kernel
theorem dL_law_549 : decode cL_law 549 = .ok (.iload 23, 2) := by decide +kernel
theorem dL_law_551 : decode cL_law 551 = .ok (.invokevirtual 188, 3) := by decide +kernel
theorem dL_law_554 : decode cL_law 554 = .ok (.goto 9, 3) := by decide +kernel
theorem dL_law_557 : decode cL_law 557 = .ok (.aload_n 1, 1) := by decide +kernel
theorem dL_law_558 : decode cL_law 558 = .ok (.iload 23, 2) := by decide +kernel
theorem dL_law_560 : decode cL_law 560 = .ok (.invokevirtual 91, 3) := by decide +kernel
theorem dL_law_563 : decode cL_law 563 = .ok (.iload 10, 2) := by decide +kernel
theorem dL_law_565 : decode cL_law 565 = .ok (.if_icmp .eq 5, 3) := by decide +kernel
theorem dL_law_568 : decode cL_law 568 = .ok (.iconst 0, 1) := by decide +kernel
theorem dL_law_569 : decode cL_law 569 = .ok (.ireturn, 1) := by decide +kernel
theorem dL_law_570 : decode cL_law 570 = .ok (.goto 1698, 3) := by decide +kernel
theorem dL_law_573 : decode cL_law 573 = .ok (.iload 17, 2) := by decide +kernel
theorem dL_law_575 : decode cL_law 575 = .ok (.bipush 8, 2) := by decide +kernel
theorem dL_law_577 : decode cL_law 577 = .ok (.if_icmp .ge 191, 3) := by decide +kernel
theorem dL_law_580 : decode cL_law 580 = .ok (.iload 15, 2) := by decide +kernel
theorem dL_law_582 : decode cL_law 582 = .ok (.iconst 5, 1) := by decide +kernel
theorem dL_law_583 : decode cL_law 583 = .ok (.ishr, 1) := by decide +kernel
theorem dL_law_584 : decode cL_law 584 = .ok (.iconst 4, 1) := by decide +kernel
theorem dL_law_585 : decode cL_law 585 = .ok (.invokestatic 178, 3) := by decide +kernel
theorem dL_law_588 : decode cL_law 588 = .ok (.istore 22, 2) := by decide +kernel
theorem dL_law_590 : decode cL_law 590 = .ok (.iload 10, 2) := by decide +kernel
theorem dL_law_592 : decode cL_law 592 = .ok (.iconst 2, 1) := by decide +kernel
theorem dL_law_593 : decode cL_law 593 = .ok (.if_icmp .lt 34, 3) := by decide +kernel
theorem dL_law_596 : decode cL_law 596 = .ok (.aload_n 2, 1) := by decide +kernel
theorem dL_law_597 : decode cL_law 597 = .ok (.iconst 4, 1) := by decide +kernel
theorem dL_law_598 : decode cL_law 598 = .ok (.iload 21, 2) := by decide +kernel
theorem dL_law_600 : decode cL_law 600 = .ok (.imul, 1) := by decide +kernel
theorem dL_law_601 : decode cL_law 601 = .ok (.iconst 3, 1) := by decide +kernel
theorem dL_law_602 : decode cL_law 602 = .ok (.iadd, 1) := by decide +kernel
theorem dL_law_603 : decode cL_law 603 = .ok (.iaload, 1) := by decide +kernel
theorem dL_law_604 : decode cL_law 604 = .ok (.bipush 6, 2) := by decide +kernel
theorem dL_law_606 : decode cL_law 606 = .ok (.if_icmp .eq 21, 3) := by decide +kernel
theorem dL_law_609 : decode cL_law 609 = .ok (.aload_n 2, 1) := by decide +kernel
theorem dL_law_610 : decode cL_law 610 = .ok (.iconst 4, 1) := by decide +kernel
theorem dL_law_611 : decode cL_law 611 = .ok (.aload 8, 2) := by decide +kernel
theorem dL_law_613 : decode cL_law 613 = .ok (.iload 10, 2) := by decide +kernel
theorem dL_law_615 : decode cL_law 615 = .ok (.iconst 2, 1) := by decide +kernel
theorem dL_law_616 : decode cL_law 616 = .ok (.isub, 1) := by decide +kernel
theorem dL_law_617 : decode cL_law 617 = .ok (.iaload, 1) := by decide +kernel
theorem dL_law_618 : decode cL_law 618 = .ok (.imul, 1) := by decide +kernel
theorem dL_law_619 : decode cL_law 619 = .ok (.iconst 3, 1) := by decide +kernel
theorem dL_law_620 : decode cL_law 620 = .ok (.iadd, 1) := by decide +kernel
theorem dL_law_621 : decode cL_law 621 = .ok (.iaload, 1) := by decide +kernel
theorem dL_law_622 : decode cL_law 622 = .ok (.bipush 6, 2) := by decide +kernel
theorem dL_law_624 : decode cL_law 624 = .ok (.if_icmp .ne 18, 3) := by decide +kernel
theorem dL_law_627 : decode cL_law 627 = .ok (.aload_n 1, 1) := by decide +kernel
theorem dL_law_628 : decode cL_law 628 = .ok (.iconst 1, 1) := by decide +kernel
theorem dL_law_629 : decode cL_law 629 = .ok (.iload 22, 2) := by decide +kernel
theorem dL_law_631 : decode cL_law 631 = .ok (.iconst 0, 1) := by decide +kernel
theorem dL_law_632 : decode cL_law 632 = .ok (.iconst 0, 1) := by decide +kernel
theorem dL_law_633 : decode cL_law 633 = .ok (.invokestatic 151, 3) := by decide +kernel
theorem dL_law_636 : decode cL_law 636 = .ok (.iconst 3, 1) := by decide +kernel
theorem dL_law_637 : decode cL_law 637 = .ok (.if_icmp .eq 1676, 3) := by decide +kernel
theorem dL_law_640 : decode cL_law 640 = .ok (.iconst 0, 1) := by decide +kernel
theorem dL_law_641 : decode cL_law 641 = .ok (.ireturn, 1) := by decide +kernel
theorem dL_law_642 : decode cL_law 642 = .ok (.iload 9, 2) := by decide +kernel
theorem dL_law_644 : decode cL_law 644 = .ok (.bipush 15, 2) := by decide +kernel
theorem dL_law_646 : decode cL_law 646 = .ok (.if_icmp .ne 6, 3) := by decide +kernel
theorem dL_law_649 : decode cL_law 649 = .ok (.goto 1664, 3) := by decide +kernel
theorem dL_law_652 : decode cL_law 652 = .ok (.aload 8, 2) := by decide +kernel
theorem dL_law_654 : decode cL_law 654 = .ok (.iload 10, 2) := by decide +kernel
theorem dL_law_656 : decode cL_law 656 = .ok (.iconst 2, 1) := by decide +kernel
theorem dL_law_657 : decode cL_law 657 = .ok (.isub, 1) := by decide +kernel
theorem dL_law_658 : decode cL_law 658 = .ok (.iaload, 1) := by decide +kernel
theorem dL_law_659 : decode cL_law 659 = .ok (.istore 23, 2) := by decide +kernel
theorem dL_law_661 : decode cL_law 661 = .ok (.aload_n 2, 1) := by decide +kernel
theorem dL_law_662 : decode cL_law 662 = .ok (.iconst 4, 1) := by decide +kernel
theorem dL_law_663 : decode cL_law 663 = .ok (.iload 9, 2) := by decide +kernel
theorem dL_law_665 : decode cL_law 665 = .ok (.imul, 1) := by decide +kernel
theorem dL_law_666 : decode cL_law 666 = .ok (.iload 22, 2) := by decide +kernel
theorem dL_law_668 : decode cL_law 668 = .ok (.iastore, 1) := by decide +kernel
theorem dL_law_669 : decode cL_law 669 = .ok (.aload_n 2, 1) := by decide +kernel
theorem dL_law_670 : decode cL_law 670 = .ok (.iconst 4, 1) := by decide +kernel
theorem dL_law_671 : decode cL_law 671 = .ok (.iload 9, 2) := by decide +kernel
theorem dL_law_673 : decode cL_law 673 = .ok (.imul, 1) := by decide +kernel
theorem dL_law_674 : decode cL_law 674 = .ok (.iconst 1, 1) := by decide +kernel
theorem dL_law_675 : decode cL_law 675 = .ok (.iadd, 1) := by decide +kernel
theorem dL_law_676 : decode cL_law 676 = .ok (.iload 23, 2) := by decide +kernel
theorem dL_law_678 : decode cL_law 678 = .ok (.iastore, 1) := by decide +kernel
theorem dL_law_679 : decode cL_law 679 = .ok (.aload_n 2, 1) := by decide +kernel
theorem dL_law_680 : decode cL_law 680 = .ok (.iconst 4, 1) := by decide +kernel
theorem dL_law_681 : decode cL_law 681 = .ok (.iload 9, 2) := by decide +kernel
theorem dL_law_683 : decode cL_law 683 = .ok (.imul, 1) := by decide +kernel
theorem dL_law_684 : decode cL_law 684 = .ok (.iconst 2, 1) := by decide +kernel
theorem dL_law_685 : decode cL_law 685 = .ok (.iadd, 1) := by decide +kernel
theorem dL_law_686 : decode cL_law 686 = .ok (.iload 21, 2) := by decide +kernel
theorem dL_law_688 : decode cL_law 688 = .ok (.iastore, 1) := by decide +kernel
theorem dL_law_689 : decode cL_law 689 = .ok (.aload_n 2, 1) := by decide +kernel
theorem dL_law_690 : decode cL_law 690 = .ok (.iconst 4, 1) := by decide +kernel
theorem dL_law_691 : decode cL_law 691 = .ok (.iload 9, 2) := by decide +kernel
theorem dL_law_693 : decode cL_law 693 = .ok (.imul, 1) := by decide +kernel
theorem dL_law_694 : decode cL_law 694 = .ok (.iconst 3, 1) := by decide +kernel
theorem dL_law_695 : decode cL_law 695 = .ok (.iadd, 1) := by decide +kernel
theorem dL_law_696 : decode cL_law 696 = .ok (.iconst 1, 1) := by decide +kernel
theorem dL_law_697 : decode cL_law 697 = .ok (.aload_n 2, 1) := by decide +kernel
theorem dL_law_698 : decode cL_law 698 = .ok (.iconst 4, 1) := by decide +kernel
theorem dL_law_699 : decode cL_law 699 = .ok (.iload 23, 2) := by decide +kernel
theorem dL_law_701 : decode cL_law 701 = .ok (.imul, 1) := by decide +kernel
theorem dL_law_702 : decode cL_law 702 = .ok (.iconst 3, 1) := by decide +kernel
theorem dL_law_703 : decode cL_law 703 = .ok (.iadd, 1) := by decide +kernel
theorem dL_law_704 : decode cL_law 704 = .ok (.iaload, 1) := by decide +kernel
theorem dL_law_705 : decode cL_law 705 = .ok (.aload_n 2, 1) := by decide +kernel
theorem dL_law_706 : decode cL_law 706 = .ok (.iconst 4, 1) := by decide +kernel
theorem dL_law_707 : decode cL_law 707 = .ok (.iload 21, 2) := by decide +kernel
theorem dL_law_709 : decode cL_law 709 = .ok (.imul, 1) := by decide +kernel
theorem dL_law_710 : decode cL_law 710 = .ok (.iconst 3, 1) := by decide +kernel
theorem dL_law_711 : decode cL_law 711 = .ok (.iadd, 1) := by decide +kernel
theorem dL_law_712 : decode cL_law 712 = .ok (.iaload, 1) := by decide +kernel
theorem dL_law_713 : decode cL_law 713 = .ok (.if_icmp .le 14, 3) := by decide +kernel
theorem dL_law_716 : decode cL_law 716 = .ok (.aload_n 2, 1) := by decide +kernel
theorem dL_law_717 : decode cL_law 717 = .ok (.iconst 4, 1) := by decide +kernel
theorem dL_law_718 : decode cL_law 718 = .ok (.iload 23, 2) := by decide +kernel
theorem dL_law_720 : decode cL_law 720 = .ok (.imul, 1) := by decide +kernel
theorem dL_law_721 : decode cL_law 721 = .ok (.iconst 3, 1) := by decide +kernel
theorem dL_law_722 : decode cL_law 722 = .ok (.iadd, 1) := by decide +kernel
theorem dL_law_723 : decode cL_law 723 = .ok (.iaload, 1) := by decide +kernel
theorem dL_law_724 : decode cL_law 724 = .ok (.goto 11, 3) := by decide +kernel
theorem dL_law_727 : decode cL_law 727 = .ok (.aload_n 2, 1) := by decide +kernel
theorem dL_law_728 : decode cL_law 728 = .ok (.iconst 4, 1) := by decide +kernel
theorem dL_law_729 : decode cL_law 729 = .ok (.iload 21, 2) := by decide +kernel
theorem dL_law_731 : decode cL_law 731 = .ok (.imul, 1) := by decide +kernel
theorem dL_law_732 : decode cL_law 732 = .ok (.iconst 3, 1) := by decide +kernel
theorem dL_law_733 : decode cL_law 733 = .ok (.iadd, 1) := by decide +kernel
theorem dL_law_734 : decode cL_law 734 = .ok (.iaload, 1) := by decide +kernel
theorem dL_law_735 : decode cL_law 735 = .ok (.iadd, 1) := by decide +kernel
theorem dL_law_736 : decode cL_law 736 = .ok (.iastore, 1) := by decide +kernel
theorem dL_law_737 : decode cL_law 737 = .ok (.iinc 10 (-1), 3) := by decide +kernel
theorem dL_law_740 : decode cL_law 740 = .ok (.aload 8, 2) := by decide +kernel
theorem dL_law_742 : decode cL_law 742 = .ok (.iload 10, 2) := by decide +kernel
theorem dL_law_744 : decode cL_law 744 = .ok (.iconst 1, 1) := by decide +kernel
theorem dL_law_745 : decode cL_law 745 = .ok (.isub, 1) := by decide +kernel
theorem dL_law_746 : decode cL_law 746 = .ok (.iload 9, 2) := by decide +kernel
theorem dL_law_748 : decode cL_law 748 = .ok (.iastore, 1) := by decide +kernel
theorem dL_law_749 : decode cL_law 749 = .ok (.iinc 9 1, 3) := by decide +kernel
theorem dL_law_752 : decode cL_law 752 = .ok (.aload_n 1, 1) := by decide +kernel
theorem dL_law_753 : decode cL_law 753 = .ok (.iload 22, 2) := by decide +kernel
theorem dL_law_755 : decode cL_law 755 = .ok (.invokevirtual 96, 3) := by decide +kernel
theorem dL_law_758 : decode cL_law 758 = .ok (.iload 10, 2) := by decide +kernel
theorem dL_law_760 : decode cL_law 760 = .ok (.if_icmp .eq 5, 3) := by decide +kernel
theorem dL_law_763 : decode cL_law 763 = .ok (.iconst 0, 1) := by decide +kernel
theorem dL_law_764 : decode cL_law 764 = .ok (.ireturn, 1) := by decide +kernel
theorem dL_law_765 : decode cL_law 765 = .ok (.goto 1503, 3) := by decide +kernel
theorem dL_law_768 : decode cL_law 768 = .ok (.iload 17, 2) := by decide +kernel
theorem dL_law_770 : decode cL_law 770 = .ok (.bipush 10, 2) := by decide +kernel
theorem dL_law_772 : decode cL_law 772 = .ok (.if_icmp .ge 164, 3) := by decide +kernel
theorem dL_law_775 : decode cL_law 775 = .ok (.iload 10, 2) := by decide +kernel
theorem dL_law_777 : decode cL_law 777 = .ok (.ifCond .eq 16, 3) := by decide +kernel
theorem dL_law_780 : decode cL_law 780 = .ok (.aload_n 2, 1) := by decide +kernel
theorem dL_law_781 : decode cL_law 781 = .ok (.iconst 4, 1) := by decide +kernel
theorem dL_law_782 : decode cL_law 782 = .ok (.iload 21, 2) := by decide +kernel
theorem dL_law_784 : decode cL_law 784 = .ok (.imul, 1) := by decide +kernel
theorem dL_law_785 : decode cL_law 785 = .ok (.iconst 3, 1) := by decide +kernel
theorem dL_law_786 : decode cL_law 786 = .ok (.iadd, 1) := by decide +kernel
theorem dL_law_787 : decode cL_law 787 = .ok (.iaload, 1) := by decide +kernel
theorem dL_law_788 : decode cL_law 788 = .ok (.bipush 6, 2) := by decide +kernel
theorem dL_law_790 : decode cL_law 790 = .ok (.if_icmp .ne 29, 3) := by decide +kernel
theorem dL_law_793 : decode cL_law 793 = .ok (.aload_n 1, 1) := by decide +kernel
theorem dL_law_794 : decode cL_law 794 = .ok (.iload 17, 2) := by decide +kernel
theorem dL_law_796 : decode cL_law 796 = .ok (.bipush 8, 2) := by decide +kernel
theorem dL_law_798 : decode cL_law 798 = .ok (.if_icmp .ne 7, 3) := by decide +kernel
theorem dL_law_801 : decode cL_law 801 = .ok (.iconst 2, 1) := by decide +kernel
theorem dL_law_802 : decode cL_law 802 = .ok (.goto 4, 3) := by decide +kernel
theorem dL_law_805 : decode cL_law 805 = .ok (.iconst 3, 1) := by decide +kernel
theorem dL_law_806 : decode cL_law 806 = .ok (.bipush 50, 2) := by decide +kernel
theorem dL_law_808 : decode cL_law 808 = .ok (.iconst 0, 1) := by decide +kernel
theorem dL_law_809 : decode cL_law 809 = .ok (.iconst 0, 1) := by decide +kernel
theorem dL_law_810 : decode cL_law 810 = .ok (.invokestatic 151, 3) := by decide +kernel
theorem dL_law_813 : decode cL_law 813 = .ok (.iconst 3, 1) := by decide +kernel
theorem dL_law_814 : decode cL_law 814 = .ok (.if_icmp .eq 1499, 3) := by decide +kernel
theorem dL_law_817 : decode cL_law 817 = .ok (.iconst 0, 1) := by decide +kernel
theorem dL_law_818 : decode cL_law 818 = .ok (.ireturn, 1) := by decide +kernel
theorem dL_law_819 : decode cL_law 819 = .ok (.iload 9, 2) := by decide +kernel
theorem dL_law_821 : decode cL_law 821 = .ok (.bipush 15, 2) := by decide +kernel
theorem dL_law_823 : decode cL_law 823 = .ok (.if_icmp .ne 6, 3) := by decide +kernel
theorem dL_law_826 : decode cL_law 826 = .ok (.goto 1487, 3) := by decide +kernel
theorem dL_law_829 : decode cL_law 829 = .ok (.iload 15, 2) := by decide +kernel
theorem dL_law_831 : decode cL_law 831 = .ok (.iconst 5, 1) := by decide +kernel
theorem dL_law_832 : decode cL_law 832 = .ok (.ishr, 1) := by decide +kernel
theorem dL_law_833 : decode cL_law 833 = .ok (.bipush 101, 2) := by decide +kernel
theorem dL_law_835 : decode cL_law 835 = .ok (.invokestatic 178, 3) := by decide +kernel
theorem dL_law_838 : decode cL_law 838 = .ok (.istore 22, 2) := by decide +kernel
theorem dL_law_840 : decode cL_law 840 = .ok (.aload_n 2, 1) := by decide +kernel
theorem dL_law_841 : decode cL_law 841 = .ok (.iconst 4, 1) := by decide +kernel
theorem dL_law_842 : decode cL_law 842 = .ok (.iload 9, 2) := by decide +kernel
theorem dL_law_844 : decode cL_law 844 = .ok (.imul, 1) := by decide +kernel
theorem dL_law_845 : decode cL_law 845 = .ok (.iload 17, 2) := by decide +kernel
theorem dL_law_847 : decode cL_law 847 = .ok (.iconst 1, 1) := by decide +kernel
theorem dL_law_848 : decode cL_law 848 = .ok (.isub, 1) := by decide +kernel
theorem dL_law_849 : decode cL_law 849 = .ok (.iastore, 1) := by decide +kernel
theorem dL_law_850 : decode cL_law 850 = .ok (.aload_n 2, 1) := by decide +kernel
theorem dL_law_851 : decode cL_law 851 = .ok (.iconst 4, 1) := by decide +kernel
theorem dL_law_852 : decode cL_law 852 = .ok (.iload 9, 2) := by decide +kernel
theorem dL_law_854 : decode cL_law 854 = .ok (.imul, 1) := by decide +kernel
theorem dL_law_855 : decode cL_law 855 = .ok (.iconst 1, 1) := by decide +kernel
theorem dL_law_856 : decode cL_law 856 = .ok (.iadd, 1) := by decide +kernel
theorem dL_law_857 : decode cL_law 857 = .ok (.iload 21, 2) := by decide +kernel
theorem dL_law_859 : decode cL_law 859 = .ok (.iastore, 1) := by decide +kernel
theorem dL_law_860 : decode cL_law 860 = .ok (.aload_n 2, 1) := by decide +kernel
theorem dL_law_861 : decode cL_law 861 = .ok (.iconst 4, 1) := by decide +kernel
theorem dL_law_862 : decode cL_law 862 = .ok (.iload 9, 2) := by decide +kernel
theorem dL_law_864 : decode cL_law 864 = .ok (.imul, 1) := by decide +kernel
theorem dL_law_865 : decode cL_law 865 = .ok (.iconst 2, 1) := by decide +kernel
theorem dL_law_866 : decode cL_law 866 = .ok (.iadd, 1) := by decide +kernel
theorem dL_law_867 : decode cL_law 867 = .ok (.iload 22, 2) := by decide +kernel
theorem dL_law_869 : decode cL_law 869 = .ok (.iastore, 1) := by decide +kernel
theorem dL_law_870 : decode cL_law 870 = .ok (.aload_n 2, 1) := by decide +kernel
theorem dL_law_871 : decode cL_law 871 = .ok (.iconst 4, 1) := by decide +kernel
theorem dL_law_872 : decode cL_law 872 = .ok (.iload 9, 2) := by decide +kernel
theorem dL_law_874 : decode cL_law 874 = .ok (.imul, 1) := by decide +kernel
theorem dL_law_875 : decode cL_law 875 = .ok (.iconst 3, 1) := by decide +kernel
theorem dL_law_876 : decode cL_law 876 = .ok (.iadd, 1) := by decide +kernel
theorem dL_law_877 : decode cL_law 877 = .ok (.aload_n 2, 1) := by decide +kernel
theorem dL_law_878 : decode cL_law 878 = .ok (.iconst 4, 1) := by decide +kernel
theorem dL_law_879 : decode cL_law 879 = .ok (.iload 21, 2) := by decide +kernel
theorem dL_law_881 : decode cL_law 881 = .ok (.imul, 1) := by decide +kernel
theorem dL_law_882 : decode cL_law 882 = .ok (.iconst 3, 1) := by decide +kernel
theorem dL_law_883 : decode cL_law 883 = .ok (.iadd, 1) := by decide +kernel
theorem dL_law_884 : decode cL_law 884 = .ok (.iaload, 1) := by decide +kernel
theorem dL_law_885 : decode cL_law 885 = .ok (.iconst 1, 1) := by decide +kernel
theorem dL_law_886 : decode cL_law 886 = .ok (.iadd, 1) := by decide +kernel
theorem dL_law_887 : decode cL_law 887 = .ok (.iastore, 1) := by decide +kernel
theorem dL_law_888 : decode cL_law 888 = .ok (.aload 8, 2) := by decide +kernel
theorem dL_law_890 : decode cL_law 890 = .ok (.iload 10, 2) := by decide +kernel
theorem dL_law_892 : decode cL_law 892 = .ok (.iconst 1, 1) := by decide +kernel
theorem dL_law_893 : decode cL_law 893 = .ok (.isub, 1) := by decide +kernel
theorem dL_law_894 : decode cL_law 894 = .ok (.iload 9, 2) := by decide +kernel
theorem dL_law_896 : decode cL_law 896 = .ok (.iastore, 1) := by decide +kernel
theorem dL_law_897 : decode cL_law 897 = .ok (.iinc 9 1, 3) := by decide +kernel
theorem dL_law_900 : decode cL_law 900 = .ok (.iload 17, 2) := by decide +kernel
theorem dL_law_902 : decode cL_law 902 = .ok (.bipush 8, 2) := by decide +kernel
theorem dL_law_904 : decode cL_law 904 = .ok (.if_icmp .ne 12, 3) := by decide +kernel
theorem dL_law_907 : decode cL_law 907 = .ok (.aload_n 1, 1) := by decide +kernel
theorem dL_law_908 : decode cL_law 908 = .ok (.iload 22, 2) := by decide +kernel
theorem dL_law_910 : decode cL_law 910 = .ok (.invokevirtual 98, 3) := by decide +kernel
theorem dL_law_913 : decode cL_law 913 = .ok (.goto 7, 3) := by decide +kernel
theorem dL_law_916 : decode cL_law 916 = .ok (.aload_n 1, 1) := by decide +kernel
theorem dL_law_917 : decode cL_law 917 = .ok (.invokevirtual 101, 3) := by decide +kernel
theorem dL_law_920 : decode cL_law 920 = .ok (.aload_n 2, 1) := by decide +kernel
theorem dL_law_921 : decode cL_law 921 = .ok (.iconst 4, 1) := by decide +kernel
theorem dL_law_922 : decode cL_law 922 = .ok (.iload 9, 2) := by decide +kernel
theorem dL_law_924 : decode cL_law 924 = .ok (.imul, 1) := by decide +kernel
theorem dL_law_925 : decode cL_law 925 = .ok (.iconst 1, 1) := by decide +kernel
theorem dL_law_926 : decode cL_law 926 = .ok (.isub, 1) := by decide +kernel
theorem dL_law_927 : decode cL_law 927 = .ok (.iaload, 1) := by decide +kernel
theorem dL_law_928 : decode cL_law 928 = .ok (.if_icmp .eq 5, 3) := by decide +kernel
theorem dL_law_931 : decode cL_law 931 = .ok (.iconst 0, 1) := by decide +kernel
theorem dL_law_932 : decode cL_law 932 = .ok (.ireturn, 1) := by decide +kernel
theorem dL_law_933 : decode cL_law 933 = .ok (.goto 1335, 3) := by decide +kernel
theorem dL_law_936 : decode cL_law 936 = .ok (.iload 17, 2) := by decide +kernel
theorem dL_law_938 : decode cL_law 938 = .ok (.bipush 12, 2) := by decide +kernel
theorem dL_law_940 : decode cL_law 940 = .ok (.if_icmp .ge 74, 3) := by decide +kernel
theorem dL_law_943 : decode cL_law 943 = .ok (.iload 10, 2) := by decide +kernel
theorem dL_law_945 : decode cL_law 945 = .ok (.ifCond .ne 17, 3) := by decide +kernel
theorem dL_law_948 : decode cL_law 948 = .ok (.aload_n 1, 1) := by decide +kernel
theorem dL_law_949 : decode cL_law 949 = .ok (.iconst 4, 1) := by decide +kernel
theorem dL_law_950 : decode cL_law 950 = .ok (.iconst 0, 1) := by decide +kernel
theorem dL_law_951 : decode cL_law 951 = .ok (.iconst 0, 1) := by decide +kernel
theorem dL_law_952 : decode cL_law 952 = .ok (.iconst 0, 1) := by decide +kernel
theorem dL_law_953 : decode cL_law 953 = .ok (.invokestatic 151, 3) := by decide +kernel
theorem dL_law_956 : decode cL_law 956 = .ok (.iconst 3, 1) := by decide +kernel
theorem dL_law_957 : decode cL_law 957 = .ok (.if_icmp .eq 1356, 3) := by decide +kernel
theorem dL_law_960 : decode cL_law 960 = .ok (.iconst 0, 1) := by decide +kernel
theorem dL_law_961 : decode cL_law 961 = .ok (.ireturn, 1) := by decide +kernel
theorem dL_law_962 : decode cL_law 962 = .ok (.iload 11, 2) := by decide +kernel
theorem dL_law_964 : decode cL_law 964 = .ok (.bipush 6, 2) := by decide +kernel
theorem dL_law_966 : decode cL_law 966 = .ok (.if_icmp .ne 6, 3) := by decide +kernel
theorem dL_law_969 : decode cL_law 969 = .ok (.goto 1344, 3) := by decide +kernel
theorem dL_law_972 : decode cL_law 972 = .ok (.aload 4, 2) := by decide +kernel
