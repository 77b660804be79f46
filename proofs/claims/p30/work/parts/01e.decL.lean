theorem dL_cell_0 : decode cL_cell 0 = .ok (.iload_n 1, 1) := by decide +kernel
theorem dL_cell_1 : decode cL_cell 1 = .ok (.aload_n 0, 1) := by decide +kernel
theorem dL_cell_2 : decode cL_cell 2 = .ok (.arraylength, 1) := by decide +kernel
theorem dL_cell_3 : decode cL_cell 3 = .ok (.if_icmp .ge 9, 3) := by decide +kernel
theorem dL_cell_6 : decode cL_cell 6 = .ok (.aload_n 0, 1) := by decide +kernel
theorem dL_cell_7 : decode cL_cell 7 = .ok (.iload_n 1, 1) := by decide +kernel
theorem dL_cell_8 : decode cL_cell 8 = .ok (.iaload, 1) := by decide +kernel
theorem dL_cell_9 : decode cL_cell 9 = .ok (.goto 12, 3) := by decide +kernel
theorem dL_cell_12 : decode cL_cell 12 = .ok (.ldc 7, 2) := by decide +kernel
theorem dL_cell_14 : decode cL_cell 14 = .ok (.iload_n 1, 1) := by decide +kernel
theorem dL_cell_15 : decode cL_cell 15 = .ok (.iconst 1, 1) := by decide +kernel
theorem dL_cell_16 : decode cL_cell 16 = .ok (.iadd, 1) := by decide +kernel
theorem dL_cell_17 : decode cL_cell 17 = .ok (.imul, 1) := by decide +kernel
theorem dL_cell_18 : decode cL_cell 18 = .ok (.ldc 8, 2) := by decide +kernel
theorem dL_cell_20 : decode cL_cell 20 = .ok (.iadd, 1) := by decide +kernel
theorem dL_cell_21 : decode cL_cell 21 = .ok (.ireturn, 1) := by decide +kernel
theorem dL_low_0 : decode cL_low 0 = .ok (.iload_n 0, 1) := by decide +kernel
theorem dL_low_1 : decode cL_low 1 = .ok (.ldc 9, 2) := by decide +kernel
theorem dL_low_3 : decode cL_low 3 = .ok (.iand, 1) := by decide +kernel
theorem dL_low_4 : decode cL_low 4 = .ok (.iload_n 1, 1) := by decide +kernel
theorem dL_low_5 : decode cL_low 5 = .ok (.irem, 1) := by decide +kernel
theorem dL_low_6 : decode cL_low 6 = .ok (.ireturn, 1) := by decide +kernel
theorem dL_down_0 : decode cL_down 0 = .ok (.lload_n 0, 1) := by decide +kernel
theorem dL_down_1 : decode cL_down 1 = .ok (.lload_n 2, 1) := by decide +kernel
theorem dL_down_2 : decode cL_down 2 = .ok (.ldiv, 1) := by decide +kernel
theorem dL_down_3 : decode cL_down 3 = .ok (.lload_n 0, 1) := by decide +kernel
theorem dL_down_4 : decode cL_down 4 = .ok (.lload_n 2, 1) := by decide +kernel
theorem dL_down_5 : decode cL_down 5 = .ok (.lrem, 1) := by decide +kernel
theorem dL_down_6 : decode cL_down 6 = .ok (.lconst 0, 1) := by decide +kernel
theorem dL_down_7 : decode cL_down 7 = .ok (.lcmp, 1) := by decide +kernel
theorem dL_down_8 : decode cL_down 8 = .ok (.ifCond .ge 7, 3) := by decide +kernel
theorem dL_down_11 : decode cL_down 11 = .ok (.iconst 1, 1) := by decide +kernel
theorem dL_down_12 : decode cL_down 12 = .ok (.goto 4, 3) := by decide +kernel
theorem dL_down_15 : decode cL_down 15 = .ok (.iconst 0, 1) := by decide +kernel
theorem dL_down_16 : decode cL_down 16 = .ok (.i2l, 1) := by decide +kernel
theorem dL_down_17 : decode cL_down 17 = .ok (.lsub, 1) := by decide +kernel
theorem dL_down_18 : decode cL_down 18 = .ok (.lreturn, 1) := by decide +kernel
theorem dL_digits_0 : decode cL_digits 0 = .ok (.iload_n 0, 1) := by decide +kernel
theorem dL_digits_1 : decode cL_digits 1 = .ok (.bipush 10, 2) := by decide +kernel
theorem dL_digits_3 : decode cL_digits 3 = .ok (.if_icmp .ge 7, 3) := by decide +kernel
theorem dL_digits_6 : decode cL_digits 6 = .ok (.iconst 1, 1) := by decide +kernel
theorem dL_digits_7 : decode cL_digits 7 = .ok (.goto 58, 3) := by decide +kernel
theorem dL_digits_10 : decode cL_digits 10 = .ok (.iload_n 0, 1) := by decide +kernel
theorem dL_digits_11 : decode cL_digits 11 = .ok (.bipush 100, 2) := by decide +kernel
theorem dL_digits_13 : decode cL_digits 13 = .ok (.if_icmp .ge 7, 3) := by decide +kernel
theorem dL_digits_16 : decode cL_digits 16 = .ok (.iconst 2, 1) := by decide +kernel
theorem dL_digits_17 : decode cL_digits 17 = .ok (.goto 48, 3) := by decide +kernel
theorem dL_digits_20 : decode cL_digits 20 = .ok (.iload_n 0, 1) := by decide +kernel
theorem dL_digits_21 : decode cL_digits 21 = .ok (.sipush 1000, 3) := by decide +kernel
theorem dL_digits_24 : decode cL_digits 24 = .ok (.if_icmp .ge 7, 3) := by decide +kernel
theorem dL_digits_27 : decode cL_digits 27 = .ok (.iconst 3, 1) := by decide +kernel
theorem dL_digits_28 : decode cL_digits 28 = .ok (.goto 37, 3) := by decide +kernel
theorem dL_digits_31 : decode cL_digits 31 = .ok (.iload_n 0, 1) := by decide +kernel
theorem dL_digits_32 : decode cL_digits 32 = .ok (.sipush 10000, 3) := by decide +kernel
theorem dL_digits_35 : decode cL_digits 35 = .ok (.if_icmp .ge 7, 3) := by decide +kernel
theorem dL_digits_38 : decode cL_digits 38 = .ok (.iconst 4, 1) := by decide +kernel
theorem dL_digits_39 : decode cL_digits 39 = .ok (.goto 26, 3) := by decide +kernel
theorem dL_digits_42 : decode cL_digits 42 = .ok (.iload_n 0, 1) := by decide +kernel
theorem dL_digits_43 : decode cL_digits 43 = .ok (.ldc 10, 2) := by decide +kernel
theorem dL_digits_45 : decode cL_digits 45 = .ok (.if_icmp .ge 7, 3) := by decide +kernel
theorem dL_digits_48 : decode cL_digits 48 = .ok (.iconst 5, 1) := by decide +kernel
theorem dL_digits_49 : decode cL_digits 49 = .ok (.goto 16, 3) := by decide +kernel
theorem dL_digits_52 : decode cL_digits 52 = .ok (.iload_n 0, 1) := by decide +kernel
theorem dL_digits_53 : decode cL_digits 53 = .ok (.ldc 11, 2) := by decide +kernel
theorem dL_digits_55 : decode cL_digits 55 = .ok (.if_icmp .ge 8, 3) := by decide +kernel
theorem dL_digits_58 : decode cL_digits 58 = .ok (.bipush 6, 2) := by decide +kernel
theorem dL_digits_60 : decode cL_digits 60 = .ok (.goto 5, 3) := by decide +kernel
theorem dL_digits_63 : decode cL_digits 63 = .ok (.bipush 7, 2) := by decide +kernel
theorem dL_digits_65 : decode cL_digits 65 = .ok (.ireturn, 1) := by decide +kernel
theorem dL_digit_0 : decode cL_digit 0 = .ok (.iload_n 0, 1) := by decide +kernel
theorem dL_digit_1 : decode cL_digit 1 = .ok (.istore_n 2, 1) := by decide +kernel
theorem dL_digit_2 : decode cL_digit 2 = .ok (.iload_n 0, 1) := by decide +kernel
theorem dL_digit_3 : decode cL_digit 3 = .ok (.invokestatic 12, 3) := by decide +kernel
theorem dL_digit_6 : decode cL_digit 6 = .ok (.iconst 1, 1) := by decide +kernel
theorem dL_digit_7 : decode cL_digit 7 = .ok (.isub, 1) := by decide +kernel
theorem dL_digit_8 : decode cL_digit 8 = .ok (.istore_n 3, 1) := by decide +kernel
theorem dL_digit_9 : decode cL_digit 9 = .ok (.iload_n 3, 1) := by decide +kernel
theorem dL_digit_10 : decode cL_digit 10 = .ok (.iload_n 1, 1) := by decide +kernel
theorem dL_digit_11 : decode cL_digit 11 = .ok (.if_icmp .le 14, 3) := by decide +kernel
theorem dL_digit_14 : decode cL_digit 14 = .ok (.iload_n 2, 1) := by decide +kernel
theorem dL_digit_15 : decode cL_digit 15 = .ok (.bipush 10, 2) := by decide +kernel
theorem dL_digit_17 : decode cL_digit 17 = .ok (.idiv, 1) := by decide +kernel
theorem dL_digit_18 : decode cL_digit 18 = .ok (.istore_n 2, 1) := by decide +kernel
theorem dL_digit_19 : decode cL_digit 19 = .ok (.iinc 3 (-1), 3) := by decide +kernel
theorem dL_digit_22 : decode cL_digit 22 = .ok (.goto (-13), 3) := by decide +kernel
theorem dL_digit_25 : decode cL_digit 25 = .ok (.bipush 48, 2) := by decide +kernel
theorem dL_digit_27 : decode cL_digit 27 = .ok (.iload_n 2, 1) := by decide +kernel
theorem dL_digit_28 : decode cL_digit 28 = .ok (.bipush 10, 2) := by decide +kernel
theorem dL_digit_30 : decode cL_digit 30 = .ok (.irem, 1) := by decide +kernel
theorem dL_digit_31 : decode cL_digit 31 = .ok (.iadd, 1) := by decide +kernel
theorem dL_digit_32 : decode cL_digit 32 = .ok (.ireturn, 1) := by decide +kernel
theorem dL_holds_0 : decode cL_holds 0 = .ok (.bipush 10, 2) := by decide +kernel
theorem dL_holds_2 : decode cL_holds 2 = .ok (.iload_n 0, 1) := by decide +kernel
theorem dL_holds_3 : decode cL_holds 3 = .ok (.imul, 1) := by decide +kernel
theorem dL_holds_4 : decode cL_holds 4 = .ok (.iload_n 1, 1) := by decide +kernel
theorem dL_holds_5 : decode cL_holds 5 = .ok (.iadd, 1) := by decide +kernel
theorem dL_holds_6 : decode cL_holds 6 = .ok (.istore_n 3, 1) := by decide +kernel
theorem dL_holds_7 : decode cL_holds 7 = .ok (.aload_n 2, 1) := by decide +kernel
theorem dL_holds_8 : decode cL_holds 8 = .ok (.iload_n 3, 1) := by decide +kernel
theorem dL_holds_9 : decode cL_holds 9 = .ok (.iaload, 1) := by decide +kernel
theorem dL_holds_10 : decode cL_holds 10 = .ok (.ifCond .ge 9, 3) := by decide +kernel
theorem dL_holds_13 : decode cL_holds 13 = .ok (.iinc 3 (-1), 3) := by decide +kernel
theorem dL_holds_16 : decode cL_holds 16 = .ok (.goto (-9), 3) := by decide +kernel
theorem dL_holds_19 : decode cL_holds 19 = .ok (.aload_n 2, 1) := by decide +kernel
theorem dL_holds_20 : decode cL_holds 20 = .ok (.iload_n 3, 1) := by decide +kernel
theorem dL_holds_21 : decode cL_holds 21 = .ok (.iaload, 1) := by decide +kernel
theorem dL_holds_22 : decode cL_holds 22 = .ok (.ireturn, 1) := by decide +kernel
theorem dL_join_0 : decode cL_join 0 = .ok (.iload_n 0, 1) := by decide +kernel
theorem dL_join_1 : decode cL_join 1 = .ok (.ifCond .ne 9, 3) := by decide +kernel
theorem dL_join_4 : decode cL_join 4 = .ok (.lload_n 1, 1) := by decide +kernel
theorem dL_join_5 : decode cL_join 5 = .ok (.lload_n 3, 1) := by decide +kernel
theorem dL_join_6 : decode cL_join 6 = .ok (.ladd, 1) := by decide +kernel
theorem dL_join_7 : decode cL_join 7 = .ok (.goto 43, 3) := by decide +kernel
theorem dL_join_10 : decode cL_join 10 = .ok (.iload_n 0, 1) := by decide +kernel
theorem dL_join_11 : decode cL_join 11 = .ok (.iconst 1, 1) := by decide +kernel
theorem dL_join_12 : decode cL_join 12 = .ok (.if_icmp .ne 9, 3) := by decide +kernel
theorem dL_join_15 : decode cL_join 15 = .ok (.lload_n 1, 1) := by decide +kernel
theorem dL_join_16 : decode cL_join 16 = .ok (.lload_n 3, 1) := by decide +kernel
theorem dL_join_17 : decode cL_join 17 = .ok (.lsub, 1) := by decide +kernel
theorem dL_join_18 : decode cL_join 18 = .ok (.goto 32, 3) := by decide +kernel
theorem dL_join_21 : decode cL_join 21 = .ok (.iload_n 0, 1) := by decide +kernel
theorem dL_join_22 : decode cL_join 22 = .ok (.iconst 2, 1) := by decide +kernel
theorem dL_join_23 : decode cL_join 23 = .ok (.if_icmp .ne 7, 3) := by decide +kernel
theorem dL_join_26 : decode cL_join 26 = .ok (.iconst 1, 1) := by decide +kernel
theorem dL_join_27 : decode cL_join 27 = .ok (.goto 4, 3) := by decide +kernel
theorem dL_join_30 : decode cL_join 30 = .ok (.iconst 0, 1) := by decide +kernel
theorem dL_join_31 : decode cL_join 31 = .ok (.lload_n 1, 1) := by decide +kernel
theorem dL_join_32 : decode cL_join 32 = .ok (.lload_n 3, 1) := by decide +kernel
theorem dL_join_33 : decode cL_join 33 = .ok (.lcmp, 1) := by decide +kernel
theorem dL_join_34 : decode cL_join 34 = .ok (.ifCond .ge 7, 3) := by decide +kernel
theorem dL_join_37 : decode cL_join 37 = .ok (.iconst 1, 1) := by decide +kernel
theorem dL_join_38 : decode cL_join 38 = .ok (.goto 4, 3) := by decide +kernel
theorem dL_join_41 : decode cL_join 41 = .ok (.iconst 0, 1) := by decide +kernel
theorem dL_join_42 : decode cL_join 42 = .ok (.if_icmp .ne 7, 3) := by decide +kernel
theorem dL_join_45 : decode cL_join 45 = .ok (.lload_n 1, 1) := by decide +kernel
theorem dL_join_46 : decode cL_join 46 = .ok (.goto 4, 3) := by decide +kernel
theorem dL_join_49 : decode cL_join 49 = .ok (.lload_n 3, 1) := by decide +kernel
theorem dL_join_50 : decode cL_join 50 = .ok (.lreturn, 1) := by decide +kernel
theorem dL_front_0 : decode cL_front 0 = .ok (.iload_n 0, 1) := by decide +kernel
theorem dL_front_1 : decode cL_front 1 = .ok (.bipush 7, 2) := by decide +kernel
theorem dL_front_3 : decode cL_front 3 = .ok (.if_icmp .ne 54, 3) := by decide +kernel
theorem dL_front_6 : decode cL_front 6 = .ok (.iload_n 2, 1) := by decide +kernel
theorem dL_front_7 : decode cL_front 7 = .ok (.iload_n 1, 1) := by decide +kernel
theorem dL_front_8 : decode cL_front 8 = .ok (.invokestatic 12, 3) := by decide +kernel
theorem dL_front_11 : decode cL_front 11 = .ok (.isub, 1) := by decide +kernel
theorem dL_front_12 : decode cL_front 12 = .ok (.istore_n 3, 1) := by decide +kernel
theorem dL_front_13 : decode cL_front 13 = .ok (.iload_n 3, 1) := by decide +kernel
theorem dL_front_14 : decode cL_front 14 = .ok (.ifCond .ge 11, 3) := by decide +kernel
theorem dL_front_17 : decode cL_front 17 = .ok (.iload_n 1, 1) := by decide +kernel
theorem dL_front_18 : decode cL_front 18 = .ok (.iload_n 2, 1) := by decide +kernel
theorem dL_front_19 : decode cL_front 19 = .ok (.invokestatic 18, 3) := by decide +kernel
theorem dL_front_22 : decode cL_front 22 = .ok (.goto 34, 3) := by decide +kernel
theorem dL_front_25 : decode cL_front 25 = .ok (.iload_n 3, 1) := by decide +kernel
theorem dL_front_26 : decode cL_front 26 = .ok (.ifCond .ne 8, 3) := by decide +kernel
theorem dL_front_29 : decode cL_front 29 = .ok (.bipush 37, 2) := by decide +kernel
theorem dL_front_31 : decode cL_front 31 = .ok (.goto 25, 3) := by decide +kernel
theorem dL_front_34 : decode cL_front 34 = .ok (.iload_n 3, 1) := by decide +kernel
theorem dL_front_35 : decode cL_front 35 = .ok (.iconst 2, 1) := by decide +kernel
theorem dL_front_36 : decode cL_front 36 = .ok (.if_icmp .ne 8, 3) := by decide +kernel
theorem dL_front_39 : decode cL_front 39 = .ok (.bipush 111, 2) := by decide +kernel
theorem dL_front_41 : decode cL_front 41 = .ok (.goto 15, 3) := by decide +kernel
theorem dL_front_44 : decode cL_front 44 = .ok (.iload_n 3, 1) := by decide +kernel
theorem dL_front_45 : decode cL_front 45 = .ok (.iconst 3, 1) := by decide +kernel
theorem dL_front_46 : decode cL_front 46 = .ok (.if_icmp .ne 8, 3) := by decide +kernel
theorem dL_front_49 : decode cL_front 49 = .ok (.bipush 102, 2) := by decide +kernel
theorem dL_front_51 : decode cL_front 51 = .ok (.goto 5, 3) := by decide +kernel
theorem dL_front_54 : decode cL_front 54 = .ok (.bipush 32, 2) := by decide +kernel
theorem dL_front_56 : decode cL_front 56 = .ok (.ireturn, 1) := by decide +kernel
theorem dL_front_57 : decode cL_front 57 = .ok (.iload_n 0, 1) := by decide +kernel
theorem dL_front_58 : decode cL_front 58 = .ok (.bipush 8, 2) := by decide +kernel
theorem dL_front_60 : decode cL_front 60 = .ok (.if_icmp .ne 45, 3) := by decide +kernel
theorem dL_front_63 : decode cL_front 63 = .ok (.iload_n 2, 1) := by decide +kernel
theorem dL_front_64 : decode cL_front 64 = .ok (.ifCond .ne 8, 3) := by decide +kernel
theorem dL_front_67 : decode cL_front 67 = .ok (.bipush 121, 2) := by decide +kernel
theorem dL_front_69 : decode cL_front 69 = .ok (.goto 35, 3) := by decide +kernel
theorem dL_front_72 : decode cL_front 72 = .ok (.iload_n 2, 1) := by decide +kernel
theorem dL_front_73 : decode cL_front 73 = .ok (.iconst 1, 1) := by decide +kernel
theorem dL_front_74 : decode cL_front 74 = .ok (.if_icmp .ne 8, 3) := by decide +kernel
theorem dL_front_77 : decode cL_front 77 = .ok (.bipush 101, 2) := by decide +kernel
theorem dL_front_79 : decode cL_front 79 = .ok (.goto 25, 3) := by decide +kernel
theorem dL_front_82 : decode cL_front 82 = .ok (.iload_n 2, 1) := by decide +kernel
theorem dL_front_83 : decode cL_front 83 = .ok (.iconst 2, 1) := by decide +kernel
theorem dL_front_84 : decode cL_front 84 = .ok (.if_icmp .ne 8, 3) := by decide +kernel
theorem dL_front_87 : decode cL_front 87 = .ok (.bipush 97, 2) := by decide +kernel
theorem dL_front_89 : decode cL_front 89 = .ok (.goto 15, 3) := by decide +kernel
theorem dL_front_92 : decode cL_front 92 = .ok (.iload_n 2, 1) := by decide +kernel
theorem dL_front_93 : decode cL_front 93 = .ok (.iconst 3, 1) := by decide +kernel
theorem dL_front_94 : decode cL_front 94 = .ok (.if_icmp .ne 8, 3) := by decide +kernel
theorem dL_front_97 : decode cL_front 97 = .ok (.bipush 114, 2) := by decide +kernel
theorem dL_front_99 : decode cL_front 99 = .ok (.goto 5, 3) := by decide +kernel
theorem dL_front_102 : decode cL_front 102 = .ok (.bipush 40, 2) := by decide +kernel
theorem dL_front_104 : decode cL_front 104 = .ok (.ireturn, 1) := by decide +kernel
theorem dL_front_105 : decode cL_front 105 = .ok (.iload_n 0, 1) := by decide +kernel
theorem dL_front_106 : decode cL_front 106 = .ok (.iconst 2, 1) := by decide +kernel
theorem dL_front_107 : decode cL_front 107 = .ok (.if_icmp .lt 8, 3) := by decide +kernel
theorem dL_front_110 : decode cL_front 110 = .ok (.iload_n 2, 1) := by decide +kernel
theorem dL_front_111 : decode cL_front 111 = .ok (.iconst 3, 1) := by decide +kernel
theorem dL_front_112 : decode cL_front 112 = .ok (.if_icmp .ne 6, 3) := by decide +kernel
theorem dL_front_115 : decode cL_front 115 = .ok (.bipush 40, 2) := by decide +kernel
theorem dL_front_117 : decode cL_front 117 = .ok (.ireturn, 1) := by decide +kernel
theorem dL_front_118 : decode cL_front 118 = .ok (.iload_n 2, 1) := by decide +kernel
theorem dL_front_119 : decode cL_front 119 = .ok (.ifCond .ne 8, 3) := by decide +kernel
theorem dL_front_122 : decode cL_front 122 = .ok (.bipush 109, 2) := by decide +kernel
theorem dL_front_124 : decode cL_front 124 = .ok (.goto 35, 3) := by decide +kernel
theorem dL_front_127 : decode cL_front 127 = .ok (.iload_n 2, 1) := by decide +kernel
theorem dL_front_128 : decode cL_front 128 = .ok (.iconst 1, 1) := by decide +kernel
theorem dL_front_129 : decode cL_front 129 = .ok (.if_icmp .ne 18, 3) := by decide +kernel
theorem dL_front_132 : decode cL_front 132 = .ok (.iload_n 0, 1) := by decide +kernel
theorem dL_front_133 : decode cL_front 133 = .ok (.iconst 2, 1) := by decide +kernel
theorem dL_front_134 : decode cL_front 134 = .ok (.if_icmp .ne 8, 3) := by decide +kernel
theorem dL_front_137 : decode cL_front 137 = .ok (.bipush 105, 2) := by decide +kernel
theorem dL_front_139 : decode cL_front 139 = .ok (.goto 20, 3) := by decide +kernel
theorem dL_front_142 : decode cL_front 142 = .ok (.bipush 97, 2) := by decide +kernel
theorem dL_front_144 : decode cL_front 144 = .ok (.goto 15, 3) := by decide +kernel
theorem dL_front_147 : decode cL_front 147 = .ok (.iload_n 0, 1) := by decide +kernel
theorem dL_front_148 : decode cL_front 148 = .ok (.iconst 2, 1) := by decide +kernel
theorem dL_front_149 : decode cL_front 149 = .ok (.if_icmp .ne 8, 3) := by decide +kernel
theorem dL_front_152 : decode cL_front 152 = .ok (.bipush 110, 2) := by decide +kernel
theorem dL_front_154 : decode cL_front 154 = .ok (.goto 5, 3) := by decide +kernel
theorem dL_front_157 : decode cL_front 157 = .ok (.bipush 120, 2) := by decide +kernel
theorem dL_front_159 : decode cL_front 159 = .ok (.ireturn, 1) := by decide +kernel
theorem dL_at1_0 : decode cL_at1 0 = .ok (.aload_n 2, 1) := by decide +kernel
theorem dL_at1_1 : decode cL_at1 1 = .ok (.iconst 4, 1) := by decide +kernel
theorem dL_at1_2 : decode cL_at1 2 = .ok (.iload_n 0, 1) := by decide +kernel
theorem dL_at1_3 : decode cL_at1 3 = .ok (.imul, 1) := by decide +kernel
theorem dL_at1_4 : decode cL_at1 4 = .ok (.iaload, 1) := by decide +kernel
theorem dL_at1_5 : decode cL_at1 5 = .ok (.iconst 4, 1) := by decide +kernel
theorem dL_at1_6 : decode cL_at1 6 = .ok (.if_icmp .ne 21, 3) := by decide +kernel
theorem dL_at1_9 : decode cL_at1 9 = .ok (.aload_n 3, 1) := by decide +kernel
theorem dL_at1_10 : decode cL_at1 10 = .ok (.bipush 10, 2) := by decide +kernel
theorem dL_at1_12 : decode cL_at1 12 = .ok (.aload_n 2, 1) := by decide +kernel
theorem dL_at1_13 : decode cL_at1 13 = .ok (.iconst 4, 1) := by decide +kernel
theorem dL_at1_14 : decode cL_at1 14 = .ok (.iload_n 0, 1) := by decide +kernel
theorem dL_at1_15 : decode cL_at1 15 = .ok (.imul, 1) := by decide +kernel
theorem dL_at1_16 : decode cL_at1 16 = .ok (.iconst 1, 1) := by decide +kernel
theorem dL_at1_17 : decode cL_at1 17 = .ok (.iadd, 1) := by decide +kernel
theorem dL_at1_18 : decode cL_at1 18 = .ok (.iaload, 1) := by decide +kernel
theorem dL_at1_19 : decode cL_at1 19 = .ok (.imul, 1) := by decide +kernel
theorem dL_at1_20 : decode cL_at1 20 = .ok (.iload_n 1, 1) := by decide +kernel
theorem dL_at1_21 : decode cL_at1 21 = .ok (.iadd, 1) := by decide +kernel
theorem dL_at1_22 : decode cL_at1 22 = .ok (.iaload, 1) := by decide +kernel
theorem dL_at1_23 : decode cL_at1 23 = .ok (.i2l, 1) := by decide +kernel
theorem dL_at1_24 : decode cL_at1 24 = .ok (.goto 11, 3) := by decide +kernel
theorem dL_at1_27 : decode cL_at1 27 = .ok (.aload_n 2, 1) := by decide +kernel
theorem dL_at1_28 : decode cL_at1 28 = .ok (.iconst 4, 1) := by decide +kernel
theorem dL_at1_29 : decode cL_at1 29 = .ok (.iload_n 0, 1) := by decide +kernel
theorem dL_at1_30 : decode cL_at1 30 = .ok (.imul, 1) := by decide +kernel
theorem dL_at1_31 : decode cL_at1 31 = .ok (.iconst 1, 1) := by decide +kernel
theorem dL_at1_32 : decode cL_at1 32 = .ok (.iadd, 1) := by decide +kernel
theorem dL_at1_33 : decode cL_at1 33 = .ok (.iaload, 1) := by decide +kernel
theorem dL_at1_34 : decode cL_at1 34 = .ok (.i2l, 1) := by decide +kernel
theorem dL_at1_35 : decode cL_at1 35 = .ok (.lreturn, 1) := by decide +kernel
theorem dL_length1_0 : decode cL_length1 0 = .ok (.aload_n 1, 1) := by decide +kernel
theorem dL_length1_1 : decode cL_length1 1 = .ok (.iconst 4, 1) := by decide +kernel
theorem dL_length1_2 : decode cL_length1 2 = .ok (.iload_n 0, 1) := by decide +kernel
theorem dL_length1_3 : decode cL_length1 3 = .ok (.imul, 1) := by decide +kernel
theorem dL_length1_4 : decode cL_length1 4 = .ok (.iaload, 1) := by decide +kernel
theorem dL_length1_5 : decode cL_length1 5 = .ok (.iconst 4, 1) := by decide +kernel
theorem dL_length1_6 : decode cL_length1 6 = .ok (.if_icmp .ne 7, 3) := by decide +kernel
theorem dL_length1_9 : decode cL_length1 9 = .ok (.iconst 2, 1) := by decide +kernel
theorem dL_length1_10 : decode cL_length1 10 = .ok (.goto 13, 3) := by decide +kernel
theorem dL_length1_13 : decode cL_length1 13 = .ok (.aload_n 1, 1) := by decide +kernel
theorem dL_length1_14 : decode cL_length1 14 = .ok (.iconst 4, 1) := by decide +kernel
theorem dL_length1_15 : decode cL_length1 15 = .ok (.iload_n 0, 1) := by decide +kernel
theorem dL_length1_16 : decode cL_length1 16 = .ok (.imul, 1) := by decide +kernel
theorem dL_length1_17 : decode cL_length1 17 = .ok (.iconst 1, 1) := by decide +kernel
theorem dL_length1_18 : decode cL_length1 18 = .ok (.iadd, 1) := by decide +kernel
theorem dL_length1_19 : decode cL_length1 19 = .ok (.iaload, 1) := by decide +kernel
theorem dL_length1_20 : decode cL_length1 20 = .ok (.invokestatic 12, 3) := by decide +kernel
theorem dL_length1_23 : decode cL_length1 23 = .ok (.ireturn, 1) := by decide +kernel
theorem dL_sign1_0 : decode cL_sign1 0 = .ok (.aload_n 2, 1) := by decide +kernel
theorem dL_sign1_1 : decode cL_sign1 1 = .ok (.iconst 4, 1) := by decide +kernel
theorem dL_sign1_2 : decode cL_sign1 2 = .ok (.iload_n 0, 1) := by decide +kernel
theorem dL_sign1_3 : decode cL_sign1 3 = .ok (.imul, 1) := by decide +kernel
theorem dL_sign1_4 : decode cL_sign1 4 = .ok (.iaload, 1) := by decide +kernel
theorem dL_sign1_5 : decode cL_sign1 5 = .ok (.iconst 4, 1) := by decide +kernel
theorem dL_sign1_6 : decode cL_sign1 6 = .ok (.if_icmp .ne 25, 3) := by decide +kernel
theorem dL_sign1_9 : decode cL_sign1 9 = .ok (.iload_n 1, 1) := by decide +kernel
theorem dL_sign1_10 : decode cL_sign1 10 = .ok (.ifCond .ne 8, 3) := by decide +kernel
theorem dL_sign1_13 : decode cL_sign1 13 = .ok (.bipush 65, 2) := by decide +kernel
theorem dL_sign1_15 : decode cL_sign1 15 = .ok (.goto 27, 3) := by decide +kernel
theorem dL_sign1_18 : decode cL_sign1 18 = .ok (.bipush 48, 2) := by decide +kernel
theorem dL_sign1_20 : decode cL_sign1 20 = .ok (.aload_n 2, 1) := by decide +kernel
theorem dL_sign1_21 : decode cL_sign1 21 = .ok (.iconst 4, 1) := by decide +kernel
theorem dL_sign1_22 : decode cL_sign1 22 = .ok (.iload_n 0, 1) := by decide +kernel
theorem dL_sign1_23 : decode cL_sign1 23 = .ok (.imul, 1) := by decide +kernel
theorem dL_sign1_24 : decode cL_sign1 24 = .ok (.iconst 1, 1) := by decide +kernel
theorem dL_sign1_25 : decode cL_sign1 25 = .ok (.iadd, 1) := by decide +kernel
theorem dL_sign1_26 : decode cL_sign1 26 = .ok (.iaload, 1) := by decide +kernel
theorem dL_sign1_27 : decode cL_sign1 27 = .ok (.iadd, 1) := by decide +kernel
theorem dL_sign1_28 : decode cL_sign1 28 = .ok (.goto 14, 3) := by decide +kernel
theorem dL_sign1_31 : decode cL_sign1 31 = .ok (.aload_n 2, 1) := by decide +kernel
theorem dL_sign1_32 : decode cL_sign1 32 = .ok (.iconst 4, 1) := by decide +kernel
theorem dL_sign1_33 : decode cL_sign1 33 = .ok (.iload_n 0, 1) := by decide +kernel
theorem dL_sign1_34 : decode cL_sign1 34 = .ok (.imul, 1) := by decide +kernel
theorem dL_sign1_35 : decode cL_sign1 35 = .ok (.iconst 1, 1) := by decide +kernel
theorem dL_sign1_36 : decode cL_sign1 36 = .ok (.iadd, 1) := by decide +kernel
theorem dL_sign1_37 : decode cL_sign1 37 = .ok (.iaload, 1) := by decide +kernel
theorem dL_sign1_38 : decode cL_sign1 38 = .ok (.iload_n 1, 1) := by decide +kernel
theorem dL_sign1_39 : decode cL_sign1 39 = .ok (.invokestatic 18, 3) := by decide +kernel
theorem dL_sign1_42 : decode cL_sign1 42 = .ok (.ireturn, 1) := by decide +kernel
theorem dL_at2_0 : decode cL_at2 0 = .ok (.aload_n 2, 1) := by decide +kernel
theorem dL_at2_1 : decode cL_at2 1 = .ok (.iconst 4, 1) := by decide +kernel
theorem dL_at2_2 : decode cL_at2 2 = .ok (.iload_n 0, 1) := by decide +kernel
theorem dL_at2_3 : decode cL_at2 3 = .ok (.imul, 1) := by decide +kernel
theorem dL_at2_4 : decode cL_at2 4 = .ok (.iaload, 1) := by decide +kernel
theorem dL_at2_5 : decode cL_at2 5 = .ok (.istore 5, 2) := by decide +kernel
theorem dL_at2_7 : decode cL_at2 7 = .ok (.aload_n 2, 1) := by decide +kernel
theorem dL_at2_8 : decode cL_at2 8 = .ok (.iconst 4, 1) := by decide +kernel
theorem dL_at2_9 : decode cL_at2 9 = .ok (.iload_n 0, 1) := by decide +kernel
theorem dL_at2_10 : decode cL_at2 10 = .ok (.imul, 1) := by decide +kernel
theorem dL_at2_11 : decode cL_at2 11 = .ok (.iconst 1, 1) := by decide +kernel
theorem dL_at2_12 : decode cL_at2 12 = .ok (.iadd, 1) := by decide +kernel
theorem dL_at2_13 : decode cL_at2 13 = .ok (.iaload, 1) := by decide +kernel
theorem dL_at2_14 : decode cL_at2 14 = .ok (.istore 6, 2) := by decide +kernel
theorem dL_at2_16 : decode cL_at2 16 = .ok (.aload_n 2, 1) := by decide +kernel
theorem dL_at2_17 : decode cL_at2 17 = .ok (.iconst 4, 1) := by decide +kernel
theorem dL_at2_18 : decode cL_at2 18 = .ok (.iload_n 0, 1) := by decide +kernel
theorem dL_at2_19 : decode cL_at2 19 = .ok (.imul, 1) := by decide +kernel
theorem dL_at2_20 : decode cL_at2 20 = .ok (.iconst 2, 1) := by decide +kernel
theorem dL_at2_21 : decode cL_at2 21 = .ok (.iadd, 1) := by decide +kernel
theorem dL_at2_22 : decode cL_at2 22 = .ok (.iaload, 1) := by decide +kernel
theorem dL_at2_23 : decode cL_at2 23 = .ok (.istore 7, 2) := by decide +kernel
theorem dL_at2_25 : decode cL_at2 25 = .ok (.iload 5, 2) := by decide +kernel
theorem dL_at2_27 : decode cL_at2 27 = .ok (.iconst 4, 1) := by decide +kernel
theorem dL_at2_28 : decode cL_at2 28 = .ok (.if_icmp .eq 9, 3) := by decide +kernel
theorem dL_at2_31 : decode cL_at2 31 = .ok (.iload 5, 2) := by decide +kernel
theorem dL_at2_33 : decode cL_at2 33 = .ok (.iconst 5, 1) := by decide +kernel
theorem dL_at2_34 : decode cL_at2 34 = .ok (.if_icmp .ne 11, 3) := by decide +kernel
theorem dL_at2_37 : decode cL_at2 37 = .ok (.iload_n 0, 1) := by decide +kernel
theorem dL_at2_38 : decode cL_at2 38 = .ok (.iload_n 1, 1) := by decide +kernel
theorem dL_at2_39 : decode cL_at2 39 = .ok (.aload_n 2, 1) := by decide +kernel
theorem dL_at2_40 : decode cL_at2 40 = .ok (.aload_n 3, 1) := by decide +kernel
theorem dL_at2_41 : decode cL_at2 41 = .ok (.invokestatic 22, 3) := by decide +kernel
theorem dL_at2_44 : decode cL_at2 44 = .ok (.lreturn, 1) := by decide +kernel
theorem dL_at2_45 : decode cL_at2 45 = .ok (.iload 5, 2) := by decide +kernel
theorem dL_at2_47 : decode cL_at2 47 = .ok (.bipush 6, 2) := by decide +kernel
theorem dL_at2_49 : decode cL_at2 49 = .ok (.if_icmp .ne 18, 3) := by decide +kernel
theorem dL_at2_52 : decode cL_at2 52 = .ok (.iload 6, 2) := by decide +kernel
theorem dL_at2_54 : decode cL_at2 54 = .ok (.iload_n 1, 1) := by decide +kernel
theorem dL_at2_55 : decode cL_at2 55 = .ok (.aload 4, 2) := by decide +kernel
theorem dL_at2_57 : decode cL_at2 57 = .ok (.invokestatic 26, 3) := by decide +kernel
theorem dL_at2_60 : decode cL_at2 60 = .ok (.iload_n 1, 1) := by decide +kernel
theorem dL_at2_61 : decode cL_at2 61 = .ok (.aload_n 2, 1) := by decide +kernel
theorem dL_at2_62 : decode cL_at2 62 = .ok (.aload_n 3, 1) := by decide +kernel
theorem dL_at2_63 : decode cL_at2 63 = .ok (.invokestatic 22, 3) := by decide +kernel
theorem dL_at2_66 : decode cL_at2 66 = .ok (.lreturn, 1) := by decide +kernel
theorem dL_at2_67 : decode cL_at2 67 = .ok (.iload 6, 2) := by decide +kernel
theorem dL_at2_69 : decode cL_at2 69 = .ok (.iload_n 1, 1) := by decide +kernel
theorem dL_at2_70 : decode cL_at2 70 = .ok (.aload_n 2, 1) := by decide +kernel
theorem dL_at2_71 : decode cL_at2 71 = .ok (.aload_n 3, 1) := by decide +kernel
theorem dL_at2_72 : decode cL_at2 72 = .ok (.invokestatic 22, 3) := by decide +kernel
theorem dL_at2_75 : decode cL_at2 75 = .ok (.lstore 8, 2) := by decide +kernel
theorem dL_at2_77 : decode cL_at2 77 = .ok (.iload 5, 2) := by decide +kernel
theorem dL_at2_79 : decode cL_at2 79 = .ok (.bipush 7, 2) := by decide +kernel
theorem dL_at2_81 : decode cL_at2 81 = .ok (.if_icmp .ne 16, 3) := by decide +kernel
theorem dL_at2_84 : decode cL_at2 84 = .ok (.lload 8, 2) := by decide +kernel
theorem dL_at2_86 : decode cL_at2 86 = .ok (.iload 7, 2) := by decide +kernel
theorem dL_at2_88 : decode cL_at2 88 = .ok (.i2l, 1) := by decide +kernel
theorem dL_at2_89 : decode cL_at2 89 = .ok (.lmul, 1) := by decide +kernel
theorem dL_at2_90 : decode cL_at2 90 = .ok (.ldc2_w 30, 3) := by decide +kernel
theorem dL_at2_93 : decode cL_at2 93 = .ok (.invokestatic 32, 3) := by decide +kernel
theorem dL_at2_96 : decode cL_at2 96 = .ok (.lreturn, 1) := by decide +kernel
theorem dL_at2_97 : decode cL_at2 97 = .ok (.iload 5, 2) := by decide +kernel
theorem dL_at2_99 : decode cL_at2 99 = .ok (.bipush 8, 2) := by decide +kernel
theorem dL_at2_101 : decode cL_at2 101 = .ok (.if_icmp .ne 43, 3) := by decide +kernel
theorem dL_at2_104 : decode cL_at2 104 = .ok (.iconst 1, 1) := by decide +kernel
theorem dL_at2_105 : decode cL_at2 105 = .ok (.istore 10, 2) := by decide +kernel
theorem dL_at2_107 : decode cL_at2 107 = .ok (.iload 10, 2) := by decide +kernel
theorem dL_at2_109 : decode cL_at2 109 = .ok (.iconst 4, 1) := by decide +kernel
theorem dL_at2_110 : decode cL_at2 110 = .ok (.if_icmp .ge 31, 3) := by decide +kernel
theorem dL_at2_113 : decode cL_at2 113 = .ok (.iload 10, 2) := by decide +kernel
theorem dL_at2_115 : decode cL_at2 115 = .ok (.iload_n 1, 1) := by decide +kernel
theorem dL_at2_116 : decode cL_at2 116 = .ok (.if_icmp .gt 25, 3) := by decide +kernel
theorem dL_at2_119 : decode cL_at2 119 = .ok (.lload 8, 2) := by decide +kernel
theorem dL_at2_121 : decode cL_at2 121 = .ok (.iload 6, 2) := by decide +kernel
theorem dL_at2_123 : decode cL_at2 123 = .ok (.iload_n 1, 1) := by decide +kernel
theorem dL_at2_124 : decode cL_at2 124 = .ok (.iload 10, 2) := by decide +kernel
theorem dL_at2_126 : decode cL_at2 126 = .ok (.isub, 1) := by decide +kernel
theorem dL_at2_127 : decode cL_at2 127 = .ok (.aload_n 2, 1) := by decide +kernel
theorem dL_at2_128 : decode cL_at2 128 = .ok (.aload_n 3, 1) := by decide +kernel
theorem dL_at2_129 : decode cL_at2 129 = .ok (.invokestatic 22, 3) := by decide +kernel
theorem dL_at2_132 : decode cL_at2 132 = .ok (.ladd, 1) := by decide +kernel
theorem dL_at2_133 : decode cL_at2 133 = .ok (.lstore 8, 2) := by decide +kernel
theorem dL_at2_135 : decode cL_at2 135 = .ok (.iinc 10 1, 3) := by decide +kernel
theorem dL_at2_138 : decode cL_at2 138 = .ok (.goto (-31), 3) := by decide +kernel
theorem dL_at2_141 : decode cL_at2 141 = .ok (.lload 8, 2) := by decide +kernel
theorem dL_at2_143 : decode cL_at2 143 = .ok (.lreturn, 1) := by decide +kernel
theorem dL_at2_144 : decode cL_at2 144 = .ok (.iload 5, 2) := by decide +kernel
theorem dL_at2_146 : decode cL_at2 146 = .ok (.lload 8, 2) := by decide +kernel
theorem dL_at2_148 : decode cL_at2 148 = .ok (.iload 7, 2) := by decide +kernel
theorem dL_at2_150 : decode cL_at2 150 = .ok (.iload_n 1, 1) := by decide +kernel
theorem dL_at2_151 : decode cL_at2 151 = .ok (.aload_n 2, 1) := by decide +kernel
theorem dL_at2_152 : decode cL_at2 152 = .ok (.aload_n 3, 1) := by decide +kernel
theorem dL_at2_153 : decode cL_at2 153 = .ok (.invokestatic 22, 3) := by decide +kernel
theorem dL_at2_156 : decode cL_at2 156 = .ok (.invokestatic 36, 3) := by decide +kernel
theorem dL_at2_159 : decode cL_at2 159 = .ok (.lreturn, 1) := by decide +kernel
theorem dL_length2_0 : decode cL_length2 0 = .ok (.aload_n 1, 1) := by decide +kernel
theorem dL_length2_1 : decode cL_length2 1 = .ok (.iconst 4, 1) := by decide +kernel
theorem dL_length2_2 : decode cL_length2 2 = .ok (.iload_n 0, 1) := by decide +kernel
theorem dL_length2_3 : decode cL_length2 3 = .ok (.imul, 1) := by decide +kernel
theorem dL_length2_4 : decode cL_length2 4 = .ok (.iaload, 1) := by decide +kernel
theorem dL_length2_5 : decode cL_length2 5 = .ok (.istore_n 2, 1) := by decide +kernel
theorem dL_length2_6 : decode cL_length2 6 = .ok (.iload_n 2, 1) := by decide +kernel
theorem dL_length2_7 : decode cL_length2 7 = .ok (.iconst 4, 1) := by decide +kernel
theorem dL_length2_8 : decode cL_length2 8 = .ok (.if_icmp .eq 8, 3) := by decide +kernel
theorem dL_length2_11 : decode cL_length2 11 = .ok (.iload_n 2, 1) := by decide +kernel
theorem dL_length2_12 : decode cL_length2 12 = .ok (.iconst 5, 1) := by decide +kernel
theorem dL_length2_13 : decode cL_length2 13 = .ok (.if_icmp .ne 9, 3) := by decide +kernel
theorem dL_length2_16 : decode cL_length2 16 = .ok (.iload_n 0, 1) := by decide +kernel
theorem dL_length2_17 : decode cL_length2 17 = .ok (.aload_n 1, 1) := by decide +kernel
theorem dL_length2_18 : decode cL_length2 18 = .ok (.invokestatic 40, 3) := by decide +kernel
theorem dL_length2_21 : decode cL_length2 21 = .ok (.ireturn, 1) := by decide +kernel
theorem dL_length2_22 : decode cL_length2 22 = .ok (.iload_n 2, 1) := by decide +kernel
theorem dL_length2_23 : decode cL_length2 23 = .ok (.bipush 6, 2) := by decide +kernel
theorem dL_length2_25 : decode cL_length2 25 = .ok (.if_icmp .ne 5, 3) := by decide +kernel
theorem dL_length2_28 : decode cL_length2 28 = .ok (.iconst 2, 1) := by decide +kernel
theorem dL_length2_29 : decode cL_length2 29 = .ok (.ireturn, 1) := by decide +kernel
theorem dL_length2_30 : decode cL_length2 30 = .ok (.aload_n 1, 1) := by decide +kernel
theorem dL_length2_31 : decode cL_length2 31 = .ok (.iconst 4, 1) := by decide +kernel
theorem dL_length2_32 : decode cL_length2 32 = .ok (.iload_n 0, 1) := by decide +kernel
theorem dL_length2_33 : decode cL_length2 33 = .ok (.imul, 1) := by decide +kernel
theorem dL_length2_34 : decode cL_length2 34 = .ok (.iconst 1, 1) := by decide +kernel
theorem dL_length2_35 : decode cL_length2 35 = .ok (.iadd, 1) := by decide +kernel
theorem dL_length2_36 : decode cL_length2 36 = .ok (.iaload, 1) := by decide +kernel
theorem dL_length2_37 : decode cL_length2 37 = .ok (.aload_n 1, 1) := by decide +kernel
theorem dL_length2_38 : decode cL_length2 38 = .ok (.invokestatic 40, 3) := by decide +kernel
theorem dL_length2_41 : decode cL_length2 41 = .ok (.istore_n 3, 1) := by decide +kernel
theorem dL_length2_42 : decode cL_length2 42 = .ok (.iload_n 2, 1) := by decide +kernel
theorem dL_length2_43 : decode cL_length2 43 = .ok (.bipush 7, 2) := by decide +kernel
theorem dL_length2_45 : decode cL_length2 45 = .ok (.if_icmp .ne 20, 3) := by decide +kernel
theorem dL_length2_48 : decode cL_length2 48 = .ok (.iload_n 3, 1) := by decide +kernel
theorem dL_length2_49 : decode cL_length2 49 = .ok (.iconst 5, 1) := by decide +kernel
theorem dL_length2_50 : decode cL_length2 50 = .ok (.iadd, 1) := by decide +kernel
theorem dL_length2_51 : decode cL_length2 51 = .ok (.aload_n 1, 1) := by decide +kernel
theorem dL_length2_52 : decode cL_length2 52 = .ok (.iconst 4, 1) := by decide +kernel
theorem dL_length2_53 : decode cL_length2 53 = .ok (.iload_n 0, 1) := by decide +kernel
theorem dL_length2_54 : decode cL_length2 54 = .ok (.imul, 1) := by decide +kernel
theorem dL_length2_55 : decode cL_length2 55 = .ok (.iconst 2, 1) := by decide +kernel
theorem dL_length2_56 : decode cL_length2 56 = .ok (.iadd, 1) := by decide +kernel
theorem dL_length2_57 : decode cL_length2 57 = .ok (.iaload, 1) := by decide +kernel
theorem dL_length2_58 : decode cL_length2 58 = .ok (.invokestatic 12, 3) := by decide +kernel
theorem dL_length2_61 : decode cL_length2 61 = .ok (.iadd, 1) := by decide +kernel
theorem dL_length2_62 : decode cL_length2 62 = .ok (.goto 41, 3) := by decide +kernel
theorem dL_length2_65 : decode cL_length2 65 = .ok (.iload_n 2, 1) := by decide +kernel
theorem dL_length2_66 : decode cL_length2 66 = .ok (.bipush 8, 2) := by decide +kernel
theorem dL_length2_68 : decode cL_length2 68 = .ok (.if_icmp .ne 10, 3) := by decide +kernel
theorem dL_length2_71 : decode cL_length2 71 = .ok (.iload_n 3, 1) := by decide +kernel
theorem dL_length2_72 : decode cL_length2 72 = .ok (.bipush 6, 2) := by decide +kernel
theorem dL_length2_74 : decode cL_length2 74 = .ok (.iadd, 1) := by decide +kernel
theorem dL_length2_75 : decode cL_length2 75 = .ok (.goto 28, 3) := by decide +kernel
theorem dL_length2_78 : decode cL_length2 78 = .ok (.iload_n 3, 1) := by decide +kernel
theorem dL_length2_79 : decode cL_length2 79 = .ok (.aload_n 1, 1) := by decide +kernel
theorem dL_length2_80 : decode cL_length2 80 = .ok (.iconst 4, 1) := by decide +kernel
theorem dL_length2_81 : decode cL_length2 81 = .ok (.iload_n 0, 1) := by decide +kernel
theorem dL_length2_82 : decode cL_length2 82 = .ok (.imul, 1) := by decide +kernel
theorem dL_length2_83 : decode cL_length2 83 = .ok (.iconst 2, 1) := by decide +kernel
theorem dL_length2_84 : decode cL_length2 84 = .ok (.iadd, 1) := by decide +kernel
theorem dL_length2_85 : decode cL_length2 85 = .ok (.iaload, 1) := by decide +kernel
theorem dL_length2_86 : decode cL_length2 86 = .ok (.aload_n 1, 1) := by decide +kernel
theorem dL_length2_87 : decode cL_length2 87 = .ok (.invokestatic 40, 3) := by decide +kernel
theorem dL_length2_90 : decode cL_length2 90 = .ok (.iadd, 1) := by decide +kernel
theorem dL_length2_91 : decode cL_length2 91 = .ok (.iload_n 2, 1) := by decide +kernel
theorem dL_length2_92 : decode cL_length2 92 = .ok (.iconst 2, 1) := by decide +kernel
theorem dL_length2_93 : decode cL_length2 93 = .ok (.if_icmp .ge 7, 3) := by decide +kernel
theorem dL_length2_96 : decode cL_length2 96 = .ok (.iconst 5, 1) := by decide +kernel
theorem dL_length2_97 : decode cL_length2 97 = .ok (.goto 5, 3) := by decide +kernel
theorem dL_length2_100 : decode cL_length2 100 = .ok (.bipush 7, 2) := by decide +kernel
theorem dL_length2_102 : decode cL_length2 102 = .ok (.iadd, 1) := by decide +kernel
theorem dL_length2_103 : decode cL_length2 103 = .ok (.ireturn, 1) := by decide +kernel
theorem dL_sign2_0 : decode cL_sign2 0 = .ok (.aload_n 2, 1) := by decide +kernel
theorem dL_sign2_1 : decode cL_sign2 1 = .ok (.iconst 4, 1) := by decide +kernel
theorem dL_sign2_2 : decode cL_sign2 2 = .ok (.iload_n 0, 1) := by decide +kernel
theorem dL_sign2_3 : decode cL_sign2 3 = .ok (.imul, 1) := by decide +kernel
theorem dL_sign2_4 : decode cL_sign2 4 = .ok (.iaload, 1) := by decide +kernel
theorem dL_sign2_5 : decode cL_sign2 5 = .ok (.istore_n 3, 1) := by decide +kernel
theorem dL_sign2_6 : decode cL_sign2 6 = .ok (.aload_n 2, 1) := by decide +kernel
theorem dL_sign2_7 : decode cL_sign2 7 = .ok (.iconst 4, 1) := by decide +kernel
theorem dL_sign2_8 : decode cL_sign2 8 = .ok (.iload_n 0, 1) := by decide +kernel
theorem dL_sign2_9 : decode cL_sign2 9 = .ok (.imul, 1) := by decide +kernel
theorem dL_sign2_10 : decode cL_sign2 10 = .ok (.iconst 1, 1) := by decide +kernel
theorem dL_sign2_11 : decode cL_sign2 11 = .ok (.iadd, 1) := by decide +kernel
theorem dL_sign2_12 : decode cL_sign2 12 = .ok (.iaload, 1) := by decide +kernel
theorem dL_sign2_13 : decode cL_sign2 13 = .ok (.istore 4, 2) := by decide +kernel
theorem dL_sign2_15 : decode cL_sign2 15 = .ok (.aload_n 2, 1) := by decide +kernel
theorem dL_sign2_16 : decode cL_sign2 16 = .ok (.iconst 4, 1) := by decide +kernel
theorem dL_sign2_17 : decode cL_sign2 17 = .ok (.iload_n 0, 1) := by decide +kernel
theorem dL_sign2_18 : decode cL_sign2 18 = .ok (.imul, 1) := by decide +kernel
theorem dL_sign2_19 : decode cL_sign2 19 = .ok (.iconst 2, 1) := by decide +kernel
theorem dL_sign2_20 : decode cL_sign2 20 = .ok (.iadd, 1) := by decide +kernel
theorem dL_sign2_21 : decode cL_sign2 21 = .ok (.iaload, 1) := by decide +kernel
theorem dL_sign2_22 : decode cL_sign2 22 = .ok (.istore 5, 2) := by decide +kernel
theorem dL_sign2_24 : decode cL_sign2 24 = .ok (.iload_n 3, 1) := by decide +kernel
theorem dL_sign2_25 : decode cL_sign2 25 = .ok (.iconst 4, 1) := by decide +kernel
theorem dL_sign2_26 : decode cL_sign2 26 = .ok (.if_icmp .eq 8, 3) := by decide +kernel
theorem dL_sign2_29 : decode cL_sign2 29 = .ok (.iload_n 3, 1) := by decide +kernel
theorem dL_sign2_30 : decode cL_sign2 30 = .ok (.iconst 5, 1) := by decide +kernel
theorem dL_sign2_31 : decode cL_sign2 31 = .ok (.if_icmp .ne 10, 3) := by decide +kernel
theorem dL_sign2_34 : decode cL_sign2 34 = .ok (.iload_n 0, 1) := by decide +kernel
theorem dL_sign2_35 : decode cL_sign2 35 = .ok (.iload_n 1, 1) := by decide +kernel
theorem dL_sign2_36 : decode cL_sign2 36 = .ok (.aload_n 2, 1) := by decide +kernel
theorem dL_sign2_37 : decode cL_sign2 37 = .ok (.invokestatic 44, 3) := by decide +kernel
theorem dL_sign2_40 : decode cL_sign2 40 = .ok (.ireturn, 1) := by decide +kernel
theorem dL_sign2_41 : decode cL_sign2 41 = .ok (.iload_n 3, 1) := by decide +kernel
theorem dL_sign2_42 : decode cL_sign2 42 = .ok (.bipush 6, 2) := by decide +kernel
theorem dL_sign2_44 : decode cL_sign2 44 = .ok (.if_icmp .ne 18, 3) := by decide +kernel
theorem dL_sign2_47 : decode cL_sign2 47 = .ok (.iload_n 1, 1) := by decide +kernel
theorem dL_sign2_48 : decode cL_sign2 48 = .ok (.ifCond .ne 8, 3) := by decide +kernel
theorem dL_sign2_51 : decode cL_sign2 51 = .ok (.bipush 84, 2) := by decide +kernel
theorem dL_sign2_53 : decode cL_sign2 53 = .ok (.goto 8, 3) := by decide +kernel
theorem dL_sign2_56 : decode cL_sign2 56 = .ok (.bipush 48, 2) := by decide +kernel
theorem dL_sign2_58 : decode cL_sign2 58 = .ok (.iload 4, 2) := by decide +kernel
theorem dL_sign2_60 : decode cL_sign2 60 = .ok (.iadd, 1) := by decide +kernel
theorem dL_sign2_61 : decode cL_sign2 61 = .ok (.ireturn, 1) := by decide +kernel
theorem dL_sign2_62 : decode cL_sign2 62 = .ok (.iload_n 3, 1) := by decide +kernel
theorem dL_sign2_63 : decode cL_sign2 63 = .ok (.bipush 7, 2) := by decide +kernel
theorem dL_sign2_65 : decode cL_sign2 65 = .ok (.if_icmp .ne 13, 3) := by decide +kernel
theorem dL_sign2_68 : decode cL_sign2 68 = .ok (.iload 5, 2) := by decide +kernel
theorem dL_sign2_70 : decode cL_sign2 70 = .ok (.invokestatic 12, 3) := by decide +kernel
theorem dL_sign2_73 : decode cL_sign2 73 = .ok (.iconst 5, 1) := by decide +kernel
theorem dL_sign2_74 : decode cL_sign2 74 = .ok (.iadd, 1) := by decide +kernel
theorem dL_sign2_75 : decode cL_sign2 75 = .ok (.goto 23, 3) := by decide +kernel
theorem dL_sign2_78 : decode cL_sign2 78 = .ok (.iload_n 3, 1) := by decide +kernel
theorem dL_sign2_79 : decode cL_sign2 79 = .ok (.bipush 8, 2) := by decide +kernel
theorem dL_sign2_81 : decode cL_sign2 81 = .ok (.if_icmp .ne 7, 3) := by decide +kernel
theorem dL_sign2_84 : decode cL_sign2 84 = .ok (.iconst 5, 1) := by decide +kernel
theorem dL_sign2_85 : decode cL_sign2 85 = .ok (.goto 13, 3) := by decide +kernel
theorem dL_sign2_88 : decode cL_sign2 88 = .ok (.iload_n 3, 1) := by decide +kernel
theorem dL_sign2_89 : decode cL_sign2 89 = .ok (.iconst 2, 1) := by decide +kernel
theorem dL_sign2_90 : decode cL_sign2 90 = .ok (.if_icmp .ge 7, 3) := by decide +kernel
theorem dL_sign2_93 : decode cL_sign2 93 = .ok (.iconst 1, 1) := by decide +kernel
theorem dL_sign2_94 : decode cL_sign2 94 = .ok (.goto 4, 3) := by decide +kernel
theorem dL_sign2_97 : decode cL_sign2 97 = .ok (.iconst 4, 1) := by decide +kernel
theorem dL_sign2_98 : decode cL_sign2 98 = .ok (.istore 6, 2) := by decide +kernel
theorem dL_sign2_100 : decode cL_sign2 100 = .ok (.iload 4, 2) := by decide +kernel
theorem dL_sign2_102 : decode cL_sign2 102 = .ok (.aload_n 2, 1) := by decide +kernel
theorem dL_sign2_103 : decode cL_sign2 103 = .ok (.invokestatic 40, 3) := by decide +kernel
theorem dL_sign2_106 : decode cL_sign2 106 = .ok (.istore 7, 2) := by decide +kernel
theorem dL_sign2_108 : decode cL_sign2 108 = .ok (.iload_n 1, 1) := by decide +kernel
theorem dL_sign2_109 : decode cL_sign2 109 = .ok (.iload 6, 2) := by decide +kernel
theorem dL_sign2_111 : decode cL_sign2 111 = .ok (.if_icmp .ge 11, 3) := by decide +kernel
theorem dL_sign2_114 : decode cL_sign2 114 = .ok (.iload_n 3, 1) := by decide +kernel
theorem dL_sign2_115 : decode cL_sign2 115 = .ok (.iload 5, 2) := by decide +kernel
theorem dL_sign2_117 : decode cL_sign2 117 = .ok (.iload_n 1, 1) := by decide +kernel
theorem dL_sign2_118 : decode cL_sign2 118 = .ok (.invokestatic 47, 3) := by decide +kernel
theorem dL_sign2_121 : decode cL_sign2 121 = .ok (.ireturn, 1) := by decide +kernel
theorem dL_sign2_122 : decode cL_sign2 122 = .ok (.iload_n 1, 1) := by decide +kernel
theorem dL_sign2_123 : decode cL_sign2 123 = .ok (.iload 6, 2) := by decide +kernel
theorem dL_sign2_125 : decode cL_sign2 125 = .ok (.iload 7, 2) := by decide +kernel
theorem dL_sign2_127 : decode cL_sign2 127 = .ok (.iadd, 1) := by decide +kernel
theorem dL_sign2_128 : decode cL_sign2 128 = .ok (.if_icmp .ge 14, 3) := by decide +kernel
theorem dL_sign2_131 : decode cL_sign2 131 = .ok (.iload 4, 2) := by decide +kernel
theorem dL_sign2_133 : decode cL_sign2 133 = .ok (.iload_n 1, 1) := by decide +kernel
theorem dL_sign2_134 : decode cL_sign2 134 = .ok (.iload 6, 2) := by decide +kernel
theorem dL_sign2_136 : decode cL_sign2 136 = .ok (.isub, 1) := by decide +kernel
theorem dL_sign2_137 : decode cL_sign2 137 = .ok (.aload_n 2, 1) := by decide +kernel
theorem dL_sign2_138 : decode cL_sign2 138 = .ok (.invokestatic 44, 3) := by decide +kernel
theorem dL_sign2_141 : decode cL_sign2 141 = .ok (.ireturn, 1) := by decide +kernel
theorem dL_sign2_142 : decode cL_sign2 142 = .ok (.iload_n 1, 1) := by decide +kernel
theorem dL_sign2_143 : decode cL_sign2 143 = .ok (.iload 6, 2) := by decide +kernel
theorem dL_sign2_145 : decode cL_sign2 145 = .ok (.isub, 1) := by decide +kernel
theorem dL_sign2_146 : decode cL_sign2 146 = .ok (.iload 7, 2) := by decide +kernel
theorem dL_sign2_148 : decode cL_sign2 148 = .ok (.isub, 1) := by decide +kernel
theorem dL_sign2_149 : decode cL_sign2 149 = .ok (.istore 8, 2) := by decide +kernel
theorem dL_sign2_151 : decode cL_sign2 151 = .ok (.iload_n 3, 1) := by decide +kernel
theorem dL_sign2_152 : decode cL_sign2 152 = .ok (.iconst 2, 1) := by decide +kernel
theorem dL_sign2_153 : decode cL_sign2 153 = .ok (.if_icmp .ge 7, 3) := by decide +kernel
theorem dL_sign2_156 : decode cL_sign2 156 = .ok (.iconst 3, 1) := by decide +kernel
theorem dL_sign2_157 : decode cL_sign2 157 = .ok (.goto 13, 3) := by decide +kernel
theorem dL_sign2_160 : decode cL_sign2 160 = .ok (.iload_n 3, 1) := by decide +kernel
theorem dL_sign2_161 : decode cL_sign2 161 = .ok (.iconst 4, 1) := by decide +kernel
theorem dL_sign2_162 : decode cL_sign2 162 = .ok (.if_icmp .ge 7, 3) := by decide +kernel
theorem dL_sign2_165 : decode cL_sign2 165 = .ok (.iconst 2, 1) := by decide +kernel
theorem dL_sign2_166 : decode cL_sign2 166 = .ok (.goto 4, 3) := by decide +kernel
theorem dL_sign2_169 : decode cL_sign2 169 = .ok (.iconst 0, 1) := by decide +kernel
theorem dL_sign2_170 : decode cL_sign2 170 = .ok (.istore 9, 2) := by decide +kernel
theorem dL_sign2_172 : decode cL_sign2 172 = .ok (.iload 8, 2) := by decide +kernel
theorem dL_sign2_174 : decode cL_sign2 174 = .ok (.iload 9, 2) := by decide +kernel
theorem dL_sign2_176 : decode cL_sign2 176 = .ok (.if_icmp .ge 46, 3) := by decide +kernel
theorem dL_sign2_179 : decode cL_sign2 179 = .ok (.iload_n 3, 1) := by decide +kernel
theorem dL_sign2_180 : decode cL_sign2 180 = .ok (.iconst 1, 1) := by decide +kernel
theorem dL_sign2_181 : decode cL_sign2 181 = .ok (.if_icmp .le 18, 3) := by decide +kernel
theorem dL_sign2_184 : decode cL_sign2 184 = .ok (.iload 8, 2) := by decide +kernel
theorem dL_sign2_186 : decode cL_sign2 186 = .ok (.ifCond .ne 8, 3) := by decide +kernel
theorem dL_sign2_189 : decode cL_sign2 189 = .ok (.bipush 44, 2) := by decide +kernel
theorem dL_sign2_191 : decode cL_sign2 191 = .ok (.goto 30, 3) := by decide +kernel
theorem dL_sign2_194 : decode cL_sign2 194 = .ok (.bipush 32, 2) := by decide +kernel
theorem dL_sign2_196 : decode cL_sign2 196 = .ok (.goto 25, 3) := by decide +kernel
theorem dL_sign2_199 : decode cL_sign2 199 = .ok (.iload 8, 2) := by decide +kernel
theorem dL_sign2_201 : decode cL_sign2 201 = .ok (.iconst 1, 1) := by decide +kernel
theorem dL_sign2_202 : decode cL_sign2 202 = .ok (.if_icmp .eq 8, 3) := by decide +kernel
theorem dL_sign2_205 : decode cL_sign2 205 = .ok (.bipush 32, 2) := by decide +kernel
theorem dL_sign2_207 : decode cL_sign2 207 = .ok (.goto 14, 3) := by decide +kernel
theorem dL_sign2_210 : decode cL_sign2 210 = .ok (.iload_n 3, 1) := by decide +kernel
theorem dL_sign2_211 : decode cL_sign2 211 = .ok (.ifCond .ne 8, 3) := by decide +kernel
theorem dL_sign2_214 : decode cL_sign2 214 = .ok (.bipush 43, 2) := by decide +kernel
theorem dL_sign2_216 : decode cL_sign2 216 = .ok (.goto 5, 3) := by decide +kernel
theorem dL_sign2_219 : decode cL_sign2 219 = .ok (.bipush 45, 2) := by decide +kernel
theorem dL_sign2_221 : decode cL_sign2 221 = .ok (.ireturn, 1) := by decide +kernel
theorem dL_sign2_222 : decode cL_sign2 222 = .ok (.iload_n 3, 1) := by decide +kernel
theorem dL_sign2_223 : decode cL_sign2 223 = .ok (.iconst 3, 1) := by decide +kernel
theorem dL_sign2_224 : decode cL_sign2 224 = .ok (.if_icmp .gt 17, 3) := by decide +kernel
theorem dL_sign2_227 : decode cL_sign2 227 = .ok (.iload 8, 2) := by decide +kernel
theorem dL_sign2_229 : decode cL_sign2 229 = .ok (.iload 9, 2) := by decide +kernel
theorem dL_sign2_231 : decode cL_sign2 231 = .ok (.isub, 1) := by decide +kernel
theorem dL_sign2_232 : decode cL_sign2 232 = .ok (.iload 5, 2) := by decide +kernel
theorem dL_sign2_234 : decode cL_sign2 234 = .ok (.aload_n 2, 1) := by decide +kernel
theorem dL_sign2_235 : decode cL_sign2 235 = .ok (.invokestatic 40, 3) := by decide +kernel
theorem dL_sign2_238 : decode cL_sign2 238 = .ok (.if_icmp .ne 8, 3) := by decide +kernel
theorem dL_sign2_241 : decode cL_sign2 241 = .ok (.bipush 41, 2) := by decide +kernel
theorem dL_sign2_243 : decode cL_sign2 243 = .ok (.goto 14, 3) := by decide +kernel
theorem dL_sign2_246 : decode cL_sign2 246 = .ok (.iload 5, 2) := by decide +kernel
theorem dL_sign2_248 : decode cL_sign2 248 = .ok (.iload 8, 2) := by decide +kernel
theorem dL_sign2_250 : decode cL_sign2 250 = .ok (.iload 9, 2) := by decide +kernel
theorem dL_sign2_252 : decode cL_sign2 252 = .ok (.isub, 1) := by decide +kernel
theorem dL_sign2_253 : decode cL_sign2 253 = .ok (.aload_n 2, 1) := by decide +kernel
theorem dL_sign2_254 : decode cL_sign2 254 = .ok (.invokestatic 44, 3) := by decide +kernel
theorem dL_sign2_257 : decode cL_sign2 257 = .ok (.ireturn, 1) := by decide +kernel
theorem dL_at3_0 : decode cL_at3 0 = .ok (.aload_n 2, 1) := by decide +kernel
theorem dL_at3_1 : decode cL_at3 1 = .ok (.iconst 4, 1) := by decide +kernel
theorem dL_at3_2 : decode cL_at3 2 = .ok (.iload_n 0, 1) := by decide +kernel
theorem dL_at3_3 : decode cL_at3 3 = .ok (.imul, 1) := by decide +kernel
theorem dL_at3_4 : decode cL_at3 4 = .ok (.iaload, 1) := by decide +kernel
theorem dL_at3_5 : decode cL_at3 5 = .ok (.istore 5, 2) := by decide +kernel
theorem dL_at3_7 : decode cL_at3 7 = .ok (.aload_n 2, 1) := by decide +kernel
theorem dL_at3_8 : decode cL_at3 8 = .ok (.iconst 4, 1) := by decide +kernel
theorem dL_at3_9 : decode cL_at3 9 = .ok (.iload_n 0, 1) := by decide +kernel
theorem dL_at3_10 : decode cL_at3 10 = .ok (.imul, 1) := by decide +kernel
theorem dL_at3_11 : decode cL_at3 11 = .ok (.iconst 1, 1) := by decide +kernel
theorem dL_at3_12 : decode cL_at3 12 = .ok (.iadd, 1) := by decide +kernel
theorem dL_at3_13 : decode cL_at3 13 = .ok (.iaload, 1) := by decide +kernel
theorem dL_at3_14 : decode cL_at3 14 = .ok (.istore 6, 2) := by decide +kernel
theorem dL_at3_16 : decode cL_at3 16 = .ok (.aload_n 2, 1) := by decide +kernel
theorem dL_at3_17 : decode cL_at3 17 = .ok (.iconst 4, 1) := by decide +kernel
theorem dL_at3_18 : decode cL_at3 18 = .ok (.iload_n 0, 1) := by decide +kernel
theorem dL_at3_19 : decode cL_at3 19 = .ok (.imul, 1) := by decide +kernel
theorem dL_at3_20 : decode cL_at3 20 = .ok (.iconst 2, 1) := by decide +kernel
theorem dL_at3_21 : decode cL_at3 21 = .ok (.iadd, 1) := by decide +kernel
theorem dL_at3_22 : decode cL_at3 22 = .ok (.iaload, 1) := by decide +kernel
theorem dL_at3_23 : decode cL_at3 23 = .ok (.istore 7, 2) := by decide +kernel
theorem dL_at3_25 : decode cL_at3 25 = .ok (.iload 5, 2) := by decide +kernel
theorem dL_at3_27 : decode cL_at3 27 = .ok (.iconst 4, 1) := by decide +kernel
theorem dL_at3_28 : decode cL_at3 28 = .ok (.if_icmp .eq 9, 3) := by decide +kernel
theorem dL_at3_31 : decode cL_at3 31 = .ok (.iload 5, 2) := by decide +kernel
theorem dL_at3_33 : decode cL_at3 33 = .ok (.iconst 5, 1) := by decide +kernel
theorem dL_at3_34 : decode cL_at3 34 = .ok (.if_icmp .ne 11, 3) := by decide +kernel
theorem dL_at3_37 : decode cL_at3 37 = .ok (.iload_n 0, 1) := by decide +kernel
theorem dL_at3_38 : decode cL_at3 38 = .ok (.iload_n 1, 1) := by decide +kernel
theorem dL_at3_39 : decode cL_at3 39 = .ok (.aload_n 2, 1) := by decide +kernel
theorem dL_at3_40 : decode cL_at3 40 = .ok (.aload_n 3, 1) := by decide +kernel
theorem dL_at3_41 : decode cL_at3 41 = .ok (.invokestatic 22, 3) := by decide +kernel
theorem dL_at3_44 : decode cL_at3 44 = .ok (.lreturn, 1) := by decide +kernel
theorem dL_at3_45 : decode cL_at3 45 = .ok (.iload 5, 2) := by decide +kernel
theorem dL_at3_47 : decode cL_at3 47 = .ok (.bipush 6, 2) := by decide +kernel
theorem dL_at3_49 : decode cL_at3 49 = .ok (.if_icmp .ne 20, 3) := by decide +kernel
theorem dL_at3_52 : decode cL_at3 52 = .ok (.iload 6, 2) := by decide +kernel
theorem dL_at3_54 : decode cL_at3 54 = .ok (.iload_n 1, 1) := by decide +kernel
theorem dL_at3_55 : decode cL_at3 55 = .ok (.aload 4, 2) := by decide +kernel
theorem dL_at3_57 : decode cL_at3 57 = .ok (.invokestatic 26, 3) := by decide +kernel
theorem dL_at3_60 : decode cL_at3 60 = .ok (.iload_n 1, 1) := by decide +kernel
theorem dL_at3_61 : decode cL_at3 61 = .ok (.aload_n 2, 1) := by decide +kernel
theorem dL_at3_62 : decode cL_at3 62 = .ok (.aload_n 3, 1) := by decide +kernel
theorem dL_at3_63 : decode cL_at3 63 = .ok (.aload 4, 2) := by decide +kernel
theorem dL_at3_65 : decode cL_at3 65 = .ok (.invokestatic 51, 3) := by decide +kernel
theorem dL_at3_68 : decode cL_at3 68 = .ok (.lreturn, 1) := by decide +kernel
theorem dL_at3_69 : decode cL_at3 69 = .ok (.iload 6, 2) := by decide +kernel
theorem dL_at3_71 : decode cL_at3 71 = .ok (.iload_n 1, 1) := by decide +kernel
theorem dL_at3_72 : decode cL_at3 72 = .ok (.aload_n 2, 1) := by decide +kernel
theorem dL_at3_73 : decode cL_at3 73 = .ok (.aload_n 3, 1) := by decide +kernel
theorem dL_at3_74 : decode cL_at3 74 = .ok (.aload 4, 2) := by decide +kernel
theorem dL_at3_76 : decode cL_at3 76 = .ok (.invokestatic 51, 3) := by decide +kernel
theorem dL_at3_79 : decode cL_at3 79 = .ok (.lstore 8, 2) := by decide +kernel
theorem dL_at3_81 : decode cL_at3 81 = .ok (.iload 5, 2) := by decide +kernel
theorem dL_at3_83 : decode cL_at3 83 = .ok (.bipush 7, 2) := by decide +kernel
theorem dL_at3_85 : decode cL_at3 85 = .ok (.if_icmp .ne 16, 3) := by decide +kernel
theorem dL_at3_88 : decode cL_at3 88 = .ok (.lload 8, 2) := by decide +kernel
theorem dL_at3_90 : decode cL_at3 90 = .ok (.iload 7, 2) := by decide +kernel
theorem dL_at3_92 : decode cL_at3 92 = .ok (.i2l, 1) := by decide +kernel
theorem dL_at3_93 : decode cL_at3 93 = .ok (.lmul, 1) := by decide +kernel
theorem dL_at3_94 : decode cL_at3 94 = .ok (.ldc2_w 30, 3) := by decide +kernel
theorem dL_at3_97 : decode cL_at3 97 = .ok (.invokestatic 32, 3) := by decide +kernel
theorem dL_at3_100 : decode cL_at3 100 = .ok (.lreturn, 1) := by decide +kernel
theorem dL_at3_101 : decode cL_at3 101 = .ok (.iload 5, 2) := by decide +kernel
theorem dL_at3_103 : decode cL_at3 103 = .ok (.bipush 8, 2) := by decide +kernel
theorem dL_at3_105 : decode cL_at3 105 = .ok (.if_icmp .ne 45, 3) := by decide +kernel
theorem dL_at3_108 : decode cL_at3 108 = .ok (.iconst 1, 1) := by decide +kernel
theorem dL_at3_109 : decode cL_at3 109 = .ok (.istore 10, 2) := by decide +kernel
theorem dL_at3_111 : decode cL_at3 111 = .ok (.iload 10, 2) := by decide +kernel
theorem dL_at3_113 : decode cL_at3 113 = .ok (.iconst 4, 1) := by decide +kernel
theorem dL_at3_114 : decode cL_at3 114 = .ok (.if_icmp .ge 33, 3) := by decide +kernel
theorem dL_at3_117 : decode cL_at3 117 = .ok (.iload 10, 2) := by decide +kernel
theorem dL_at3_119 : decode cL_at3 119 = .ok (.iload_n 1, 1) := by decide +kernel
theorem dL_at3_120 : decode cL_at3 120 = .ok (.if_icmp .gt 27, 3) := by decide +kernel
theorem dL_at3_123 : decode cL_at3 123 = .ok (.lload 8, 2) := by decide +kernel
theorem dL_at3_125 : decode cL_at3 125 = .ok (.iload 6, 2) := by decide +kernel
theorem dL_at3_127 : decode cL_at3 127 = .ok (.iload_n 1, 1) := by decide +kernel
theorem dL_at3_128 : decode cL_at3 128 = .ok (.iload 10, 2) := by decide +kernel
theorem dL_at3_130 : decode cL_at3 130 = .ok (.isub, 1) := by decide +kernel
theorem dL_at3_131 : decode cL_at3 131 = .ok (.aload_n 2, 1) := by decide +kernel
theorem dL_at3_132 : decode cL_at3 132 = .ok (.aload_n 3, 1) := by decide +kernel
theorem dL_at3_133 : decode cL_at3 133 = .ok (.aload 4, 2) := by decide +kernel
theorem dL_at3_135 : decode cL_at3 135 = .ok (.invokestatic 51, 3) := by decide +kernel
theorem dL_at3_138 : decode cL_at3 138 = .ok (.ladd, 1) := by decide +kernel
theorem dL_at3_139 : decode cL_at3 139 = .ok (.lstore 8, 2) := by decide +kernel
theorem dL_at3_141 : decode cL_at3 141 = .ok (.iinc 10 1, 3) := by decide +kernel
theorem dL_at3_144 : decode cL_at3 144 = .ok (.goto (-33), 3) := by decide +kernel
theorem dL_at3_147 : decode cL_at3 147 = .ok (.lload 8, 2) := by decide +kernel
theorem dL_at3_149 : decode cL_at3 149 = .ok (.lreturn, 1) := by decide +kernel
theorem dL_at3_150 : decode cL_at3 150 = .ok (.iload 5, 2) := by decide +kernel
theorem dL_at3_152 : decode cL_at3 152 = .ok (.lload 8, 2) := by decide +kernel
theorem dL_at3_154 : decode cL_at3 154 = .ok (.iload 7, 2) := by decide +kernel
theorem dL_at3_156 : decode cL_at3 156 = .ok (.iload_n 1, 1) := by decide +kernel
theorem dL_at3_157 : decode cL_at3 157 = .ok (.aload_n 2, 1) := by decide +kernel
theorem dL_at3_158 : decode cL_at3 158 = .ok (.aload_n 3, 1) := by decide +kernel
theorem dL_at3_159 : decode cL_at3 159 = .ok (.aload 4, 2) := by decide +kernel
theorem dL_at3_161 : decode cL_at3 161 = .ok (.invokestatic 51, 3) := by decide +kernel
theorem dL_at3_164 : decode cL_at3 164 = .ok (.invokestatic 36, 3) := by decide +kernel
theorem dL_at3_167 : decode cL_at3 167 = .ok (.lreturn, 1) := by decide +kernel
theorem dL_length3_0 : decode cL_length3 0 = .ok (.aload_n 1, 1) := by decide +kernel
theorem dL_length3_1 : decode cL_length3 1 = .ok (.iconst 4, 1) := by decide +kernel
theorem dL_length3_2 : decode cL_length3 2 = .ok (.iload_n 0, 1) := by decide +kernel
theorem dL_length3_3 : decode cL_length3 3 = .ok (.imul, 1) := by decide +kernel
theorem dL_length3_4 : decode cL_length3 4 = .ok (.iaload, 1) := by decide +kernel
theorem dL_length3_5 : decode cL_length3 5 = .ok (.istore_n 2, 1) := by decide +kernel
theorem dL_length3_6 : decode cL_length3 6 = .ok (.iload_n 2, 1) := by decide +kernel
theorem dL_length3_7 : decode cL_length3 7 = .ok (.iconst 4, 1) := by decide +kernel
theorem dL_length3_8 : decode cL_length3 8 = .ok (.if_icmp .eq 8, 3) := by decide +kernel
theorem dL_length3_11 : decode cL_length3 11 = .ok (.iload_n 2, 1) := by decide +kernel
theorem dL_length3_12 : decode cL_length3 12 = .ok (.iconst 5, 1) := by decide +kernel
theorem dL_length3_13 : decode cL_length3 13 = .ok (.if_icmp .ne 9, 3) := by decide +kernel
theorem dL_length3_16 : decode cL_length3 16 = .ok (.iload_n 0, 1) := by decide +kernel
theorem dL_length3_17 : decode cL_length3 17 = .ok (.aload_n 1, 1) := by decide +kernel
theorem dL_length3_18 : decode cL_length3 18 = .ok (.invokestatic 40, 3) := by decide +kernel
theorem dL_length3_21 : decode cL_length3 21 = .ok (.ireturn, 1) := by decide +kernel
theorem dL_length3_22 : decode cL_length3 22 = .ok (.iload_n 2, 1) := by decide +kernel
theorem dL_length3_23 : decode cL_length3 23 = .ok (.bipush 6, 2) := by decide +kernel
theorem dL_length3_25 : decode cL_length3 25 = .ok (.if_icmp .ne 5, 3) := by decide +kernel
theorem dL_length3_28 : decode cL_length3 28 = .ok (.iconst 2, 1) := by decide +kernel
theorem dL_length3_29 : decode cL_length3 29 = .ok (.ireturn, 1) := by decide +kernel
theorem dL_length3_30 : decode cL_length3 30 = .ok (.aload_n 1, 1) := by decide +kernel
theorem dL_length3_31 : decode cL_length3 31 = .ok (.iconst 4, 1) := by decide +kernel
theorem dL_length3_32 : decode cL_length3 32 = .ok (.iload_n 0, 1) := by decide +kernel
theorem dL_length3_33 : decode cL_length3 33 = .ok (.imul, 1) := by decide +kernel
theorem dL_length3_34 : decode cL_length3 34 = .ok (.iconst 1, 1) := by decide +kernel
theorem dL_length3_35 : decode cL_length3 35 = .ok (.iadd, 1) := by decide +kernel
theorem dL_length3_36 : decode cL_length3 36 = .ok (.iaload, 1) := by decide +kernel
theorem dL_length3_37 : decode cL_length3 37 = .ok (.aload_n 1, 1) := by decide +kernel
theorem dL_length3_38 : decode cL_length3 38 = .ok (.invokestatic 55, 3) := by decide +kernel
theorem dL_length3_41 : decode cL_length3 41 = .ok (.istore_n 3, 1) := by decide +kernel
theorem dL_length3_42 : decode cL_length3 42 = .ok (.iload_n 2, 1) := by decide +kernel
theorem dL_length3_43 : decode cL_length3 43 = .ok (.bipush 7, 2) := by decide +kernel
theorem dL_length3_45 : decode cL_length3 45 = .ok (.if_icmp .ne 20, 3) := by decide +kernel
theorem dL_length3_48 : decode cL_length3 48 = .ok (.iload_n 3, 1) := by decide +kernel
theorem dL_length3_49 : decode cL_length3 49 = .ok (.iconst 5, 1) := by decide +kernel
