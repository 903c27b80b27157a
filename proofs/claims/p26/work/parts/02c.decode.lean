theorem eL_cell_0 : decode (zYb kL_cell) 0 = .ok (.iload_n 1, 1) := by decide +kernel
theorem eL_cell_1 : decode (zYb kL_cell) 1 = .ok (.aload_n 0, 1) := by decide +kernel
theorem eL_cell_2 : decode (zYb kL_cell) 2 = .ok (.arraylength, 1) := by decide +kernel
theorem eL_cell_3 : decode (zYb kL_cell) 3 = .ok (.if_icmp .ge 9, 3) := by decide +kernel
theorem eL_cell_6 : decode (zYb kL_cell) 6 = .ok (.aload_n 0, 1) := by decide +kernel
theorem eL_cell_7 : decode (zYb kL_cell) 7 = .ok (.iload_n 1, 1) := by decide +kernel
theorem eL_cell_8 : decode (zYb kL_cell) 8 = .ok (.iaload, 1) := by decide +kernel
theorem eL_cell_9 : decode (zYb kL_cell) 9 = .ok (.goto 12, 3) := by decide +kernel
theorem eL_cell_12 : decode (zYb kL_cell) 12 = .ok (.ldc 7, 2) := by decide +kernel
theorem eL_cell_14 : decode (zYb kL_cell) 14 = .ok (.iload_n 1, 1) := by decide +kernel
theorem eL_cell_15 : decode (zYb kL_cell) 15 = .ok (.iconst 1, 1) := by decide +kernel
theorem eL_cell_16 : decode (zYb kL_cell) 16 = .ok (.iadd, 1) := by decide +kernel
theorem eL_cell_17 : decode (zYb kL_cell) 17 = .ok (.imul, 1) := by decide +kernel
theorem eL_cell_18 : decode (zYb kL_cell) 18 = .ok (.ldc 8, 2) := by decide +kernel
theorem eL_cell_20 : decode (zYb kL_cell) 20 = .ok (.iadd, 1) := by decide +kernel
theorem eL_cell_21 : decode (zYb kL_cell) 21 = .ok (.ireturn, 1) := by decide +kernel
theorem eL_low_0 : decode (zYb kL_low) 0 = .ok (.iload_n 0, 1) := by decide +kernel
theorem eL_low_1 : decode (zYb kL_low) 1 = .ok (.ldc 9, 2) := by decide +kernel
theorem eL_low_3 : decode (zYb kL_low) 3 = .ok (.iand, 1) := by decide +kernel
theorem eL_low_4 : decode (zYb kL_low) 4 = .ok (.iload_n 1, 1) := by decide +kernel
theorem eL_low_5 : decode (zYb kL_low) 5 = .ok (.irem, 1) := by decide +kernel
theorem eL_low_6 : decode (zYb kL_low) 6 = .ok (.ireturn, 1) := by decide +kernel
theorem eL_size_0 : decode (zYb kL_size) 0 = .ok (.aload_n 2, 1) := by decide +kernel
theorem eL_size_1 : decode (zYb kL_size) 1 = .ok (.iload_n 0, 1) := by decide +kernel
theorem eL_size_2 : decode (zYb kL_size) 2 = .ok (.iconst 2, 1) := by decide +kernel
theorem eL_size_3 : decode (zYb kL_size) 3 = .ok (.iadd, 1) := by decide +kernel
theorem eL_size_4 : decode (zYb kL_size) 4 = .ok (.iload_n 1, 1) := by decide +kernel
theorem eL_size_5 : decode (zYb kL_size) 5 = .ok (.iadd, 1) := by decide +kernel
theorem eL_size_6 : decode (zYb kL_size) 6 = .ok (.iaload, 1) := by decide +kernel
theorem eL_size_7 : decode (zYb kL_size) 7 = .ok (.aload_n 2, 1) := by decide +kernel
theorem eL_size_8 : decode (zYb kL_size) 8 = .ok (.iload_n 0, 1) := by decide +kernel
theorem eL_size_9 : decode (zYb kL_size) 9 = .ok (.iconst 1, 1) := by decide +kernel
theorem eL_size_10 : decode (zYb kL_size) 10 = .ok (.iadd, 1) := by decide +kernel
theorem eL_size_11 : decode (zYb kL_size) 11 = .ok (.iload_n 1, 1) := by decide +kernel
theorem eL_size_12 : decode (zYb kL_size) 12 = .ok (.iadd, 1) := by decide +kernel
theorem eL_size_13 : decode (zYb kL_size) 13 = .ok (.iaload, 1) := by decide +kernel
theorem eL_size_14 : decode (zYb kL_size) 14 = .ok (.isub, 1) := by decide +kernel
theorem eL_size_15 : decode (zYb kL_size) 15 = .ok (.ireturn, 1) := by decide +kernel
theorem eL_with_0 : decode (zYb kL_with) 0 = .ok (.lload_n 0, 1) := by decide +kernel
theorem eL_with_1 : decode (zYb kL_with) 1 = .ok (.lstore 6, 2) := by decide +kernel
theorem eL_with_3 : decode (zYb kL_with) 3 = .ok (.iload_n 2, 1) := by decide +kernel
theorem eL_with_4 : decode (zYb kL_with) 4 = .ok (.iload_n 3, 1) := by decide +kernel
theorem eL_with_5 : decode (zYb kL_with) 5 = .ok (.aload 5, 2) := by decide +kernel
theorem eL_with_7 : decode (zYb kL_with) 7 = .ok (.invokestatic 10, 3) := by decide +kernel
theorem eL_with_10 : decode (zYb kL_with) 10 = .ok (.istore 8, 2) := by decide +kernel
theorem eL_with_12 : decode (zYb kL_with) 12 = .ok (.iconst 0, 1) := by decide +kernel
theorem eL_with_13 : decode (zYb kL_with) 13 = .ok (.istore 9, 2) := by decide +kernel
theorem eL_with_15 : decode (zYb kL_with) 15 = .ok (.iload 9, 2) := by decide +kernel
theorem eL_with_17 : decode (zYb kL_with) 17 = .ok (.iload 8, 2) := by decide +kernel
theorem eL_with_19 : decode (zYb kL_with) 19 = .ok (.if_icmp .ge 53, 3) := by decide +kernel
theorem eL_with_22 : decode (zYb kL_with) 22 = .ok (.ldc2_w 16, 3) := by decide +kernel
theorem eL_with_25 : decode (zYb kL_with) 25 = .ok (.lload 6, 2) := by decide +kernel
theorem eL_with_27 : decode (zYb kL_with) 27 = .ok (.lmul, 1) := by decide +kernel
theorem eL_with_28 : decode (zYb kL_with) 28 = .ok (.aload 5, 2) := by decide +kernel
theorem eL_with_30 : decode (zYb kL_with) 30 = .ok (.iload_n 2, 1) := by decide +kernel
theorem eL_with_31 : decode (zYb kL_with) 31 = .ok (.bipush 8, 2) := by decide +kernel
theorem eL_with_33 : decode (zYb kL_with) 33 = .ok (.iadd, 1) := by decide +kernel
theorem eL_with_34 : decode (zYb kL_with) 34 = .ok (.aload 5, 2) := by decide +kernel
theorem eL_with_36 : decode (zYb kL_with) 36 = .ok (.iload_n 2, 1) := by decide +kernel
theorem eL_with_37 : decode (zYb kL_with) 37 = .ok (.iconst 1, 1) := by decide +kernel
theorem eL_with_38 : decode (zYb kL_with) 38 = .ok (.iadd, 1) := by decide +kernel
theorem eL_with_39 : decode (zYb kL_with) 39 = .ok (.iload_n 3, 1) := by decide +kernel
theorem eL_with_40 : decode (zYb kL_with) 40 = .ok (.iadd, 1) := by decide +kernel
theorem eL_with_41 : decode (zYb kL_with) 41 = .ok (.iaload, 1) := by decide +kernel
theorem eL_with_42 : decode (zYb kL_with) 42 = .ok (.iadd, 1) := by decide +kernel
theorem eL_with_43 : decode (zYb kL_with) 43 = .ok (.iload 4, 2) := by decide +kernel
theorem eL_with_45 : decode (zYb kL_with) 45 = .ok (.ifCond .eq 13, 3) := by decide +kernel
theorem eL_with_48 : decode (zYb kL_with) 48 = .ok (.iload 8, 2) := by decide +kernel
theorem eL_with_50 : decode (zYb kL_with) 50 = .ok (.iconst 1, 1) := by decide +kernel
theorem eL_with_51 : decode (zYb kL_with) 51 = .ok (.isub, 1) := by decide +kernel
theorem eL_with_52 : decode (zYb kL_with) 52 = .ok (.iload 9, 2) := by decide +kernel
theorem eL_with_54 : decode (zYb kL_with) 54 = .ok (.isub, 1) := by decide +kernel
theorem eL_with_55 : decode (zYb kL_with) 55 = .ok (.goto 5, 3) := by decide +kernel
theorem eL_with_58 : decode (zYb kL_with) 58 = .ok (.iload 9, 2) := by decide +kernel
theorem eL_with_60 : decode (zYb kL_with) 60 = .ok (.iadd, 1) := by decide +kernel
theorem eL_with_61 : decode (zYb kL_with) 61 = .ok (.iaload, 1) := by decide +kernel
theorem eL_with_62 : decode (zYb kL_with) 62 = .ok (.i2l, 1) := by decide +kernel
theorem eL_with_63 : decode (zYb kL_with) 63 = .ok (.ladd, 1) := by decide +kernel
theorem eL_with_64 : decode (zYb kL_with) 64 = .ok (.lstore 6, 2) := by decide +kernel
theorem eL_with_66 : decode (zYb kL_with) 66 = .ok (.iinc 9 1, 3) := by decide +kernel
theorem eL_with_69 : decode (zYb kL_with) 69 = .ok (.goto (-54), 3) := by decide +kernel
theorem eL_with_72 : decode (zYb kL_with) 72 = .ok (.lload 6, 2) := by decide +kernel
theorem eL_with_74 : decode (zYb kL_with) 74 = .ok (.lreturn, 1) := by decide +kernel
theorem eL_readings_0 : decode (zYb kL_readings) 0 = .ok (.iconst 0, 1) := by decide +kernel
theorem eL_readings_1 : decode (zYb kL_readings) 1 = .ok (.istore 4, 2) := by decide +kernel
theorem eL_readings_3 : decode (zYb kL_readings) 3 = .ok (.aload_n 2, 1) := by decide +kernel
theorem eL_readings_4 : decode (zYb kL_readings) 4 = .ok (.iload_n 0, 1) := by decide +kernel
theorem eL_readings_5 : decode (zYb kL_readings) 5 = .ok (.iaload, 1) := by decide +kernel
theorem eL_readings_6 : decode (zYb kL_readings) 6 = .ok (.istore 5, 2) := by decide +kernel
theorem eL_readings_8 : decode (zYb kL_readings) 8 = .ok (.iconst 0, 1) := by decide +kernel
theorem eL_readings_9 : decode (zYb kL_readings) 9 = .ok (.istore 6, 2) := by decide +kernel
theorem eL_readings_11 : decode (zYb kL_readings) 11 = .ok (.iload 6, 2) := by decide +kernel
theorem eL_readings_13 : decode (zYb kL_readings) 13 = .ok (.iload_n 1, 1) := by decide +kernel
theorem eL_readings_14 : decode (zYb kL_readings) 14 = .ok (.ifCond .eq 7, 3) := by decide +kernel
theorem eL_readings_17 : decode (zYb kL_readings) 17 = .ok (.iconst 2, 1) := by decide +kernel
theorem eL_readings_18 : decode (zYb kL_readings) 18 = .ok (.goto 4, 3) := by decide +kernel
theorem eL_readings_21 : decode (zYb kL_readings) 21 = .ok (.iconst 1, 1) := by decide +kernel
theorem eL_readings_22 : decode (zYb kL_readings) 22 = .ok (.if_icmp .ge 174, 3) := by decide +kernel
theorem eL_readings_25 : decode (zYb kL_readings) 25 = .ok (.iconst 0, 1) := by decide +kernel
theorem eL_readings_26 : decode (zYb kL_readings) 26 = .ok (.istore 7, 2) := by decide +kernel
theorem eL_readings_28 : decode (zYb kL_readings) 28 = .ok (.iload 7, 2) := by decide +kernel
theorem eL_readings_30 : decode (zYb kL_readings) 30 = .ok (.iconst 1, 1) := by decide +kernel
theorem eL_readings_31 : decode (zYb kL_readings) 31 = .ok (.iload 5, 2) := by decide +kernel
theorem eL_readings_33 : decode (zYb kL_readings) 33 = .ok (.ishl, 1) := by decide +kernel
theorem eL_readings_34 : decode (zYb kL_readings) 34 = .ok (.if_icmp .ge 156, 3) := by decide +kernel
theorem eL_readings_37 : decode (zYb kL_readings) 37 = .ok (.lconst 0, 1) := by decide +kernel
theorem eL_readings_38 : decode (zYb kL_readings) 38 = .ok (.lstore 8, 2) := by decide +kernel
theorem eL_readings_40 : decode (zYb kL_readings) 40 = .ok (.iconst 0, 1) := by decide +kernel
theorem eL_readings_41 : decode (zYb kL_readings) 41 = .ok (.istore 10, 2) := by decide +kernel
theorem eL_readings_43 : decode (zYb kL_readings) 43 = .ok (.iload 10, 2) := by decide +kernel
theorem eL_readings_45 : decode (zYb kL_readings) 45 = .ok (.iload 5, 2) := by decide +kernel
theorem eL_readings_47 : decode (zYb kL_readings) 47 = .ok (.if_icmp .ge 55, 3) := by decide +kernel
theorem eL_readings_50 : decode (zYb kL_readings) 50 = .ok (.iload 6, 2) := by decide +kernel
theorem eL_readings_52 : decode (zYb kL_readings) 52 = .ok (.ifCond .ne 8, 3) := by decide +kernel
theorem eL_readings_55 : decode (zYb kL_readings) 55 = .ok (.iload 10, 2) := by decide +kernel
theorem eL_readings_57 : decode (zYb kL_readings) 57 = .ok (.goto 10, 3) := by decide +kernel
theorem eL_readings_60 : decode (zYb kL_readings) 60 = .ok (.iload 5, 2) := by decide +kernel
theorem eL_readings_62 : decode (zYb kL_readings) 62 = .ok (.iconst 1, 1) := by decide +kernel
theorem eL_readings_63 : decode (zYb kL_readings) 63 = .ok (.isub, 1) := by decide +kernel
theorem eL_readings_64 : decode (zYb kL_readings) 64 = .ok (.iload 10, 2) := by decide +kernel
theorem eL_readings_66 : decode (zYb kL_readings) 66 = .ok (.isub, 1) := by decide +kernel
theorem eL_readings_67 : decode (zYb kL_readings) 67 = .ok (.istore 11, 2) := by decide +kernel
theorem eL_readings_69 : decode (zYb kL_readings) 69 = .ok (.lload 8, 2) := by decide +kernel
theorem eL_readings_71 : decode (zYb kL_readings) 71 = .ok (.iload_n 0, 1) := by decide +kernel
theorem eL_readings_72 : decode (zYb kL_readings) 72 = .ok (.iload 11, 2) := by decide +kernel
theorem eL_readings_74 : decode (zYb kL_readings) 74 = .ok (.iload 7, 2) := by decide +kernel
theorem eL_readings_76 : decode (zYb kL_readings) 76 = .ok (.iload 11, 2) := by decide +kernel
theorem eL_readings_78 : decode (zYb kL_readings) 78 = .ok (.ishr, 1) := by decide +kernel
theorem eL_readings_79 : decode (zYb kL_readings) 79 = .ok (.iconst 1, 1) := by decide +kernel
theorem eL_readings_80 : decode (zYb kL_readings) 80 = .ok (.iand, 1) := by decide +kernel
theorem eL_readings_81 : decode (zYb kL_readings) 81 = .ok (.iconst 1, 1) := by decide +kernel
theorem eL_readings_82 : decode (zYb kL_readings) 82 = .ok (.if_icmp .ne 7, 3) := by decide +kernel
theorem eL_readings_85 : decode (zYb kL_readings) 85 = .ok (.iconst 1, 1) := by decide +kernel
theorem eL_readings_86 : decode (zYb kL_readings) 86 = .ok (.goto 4, 3) := by decide +kernel
theorem eL_readings_89 : decode (zYb kL_readings) 89 = .ok (.iconst 0, 1) := by decide +kernel
theorem eL_readings_90 : decode (zYb kL_readings) 90 = .ok (.aload_n 2, 1) := by decide +kernel
theorem eL_readings_91 : decode (zYb kL_readings) 91 = .ok (.invokestatic 18, 3) := by decide +kernel
theorem eL_readings_94 : decode (zYb kL_readings) 94 = .ok (.lstore 8, 2) := by decide +kernel
theorem eL_readings_96 : decode (zYb kL_readings) 96 = .ok (.iinc 10 1, 3) := by decide +kernel
theorem eL_readings_99 : decode (zYb kL_readings) 99 = .ok (.goto (-56), 3) := by decide +kernel
theorem eL_readings_102 : decode (zYb kL_readings) 102 = .ok (.iconst 0, 1) := by decide +kernel
theorem eL_readings_103 : decode (zYb kL_readings) 103 = .ok (.istore 10, 2) := by decide +kernel
theorem eL_readings_105 : decode (zYb kL_readings) 105 = .ok (.iload 10, 2) := by decide +kernel
theorem eL_readings_107 : decode (zYb kL_readings) 107 = .ok (.iload 4, 2) := by decide +kernel
theorem eL_readings_109 : decode (zYb kL_readings) 109 = .ok (.if_icmp .ge 19, 3) := by decide +kernel
theorem eL_readings_112 : decode (zYb kL_readings) 112 = .ok (.aload_n 3, 1) := by decide +kernel
theorem eL_readings_113 : decode (zYb kL_readings) 113 = .ok (.iload 10, 2) := by decide +kernel
theorem eL_readings_115 : decode (zYb kL_readings) 115 = .ok (.laload, 1) := by decide +kernel
theorem eL_readings_116 : decode (zYb kL_readings) 116 = .ok (.lload 8, 2) := by decide +kernel
theorem eL_readings_118 : decode (zYb kL_readings) 118 = .ok (.lcmp, 1) := by decide +kernel
theorem eL_readings_119 : decode (zYb kL_readings) 119 = .ok (.ifCond .ge 9, 3) := by decide +kernel
theorem eL_readings_122 : decode (zYb kL_readings) 122 = .ok (.iinc 10 1, 3) := by decide +kernel
theorem eL_readings_125 : decode (zYb kL_readings) 125 = .ok (.goto (-20), 3) := by decide +kernel
theorem eL_readings_128 : decode (zYb kL_readings) 128 = .ok (.iload 10, 2) := by decide +kernel
theorem eL_readings_130 : decode (zYb kL_readings) 130 = .ok (.iload 4, 2) := by decide +kernel
theorem eL_readings_132 : decode (zYb kL_readings) 132 = .ok (.if_icmp .ge 16, 3) := by decide +kernel
theorem eL_readings_135 : decode (zYb kL_readings) 135 = .ok (.aload_n 3, 1) := by decide +kernel
theorem eL_readings_136 : decode (zYb kL_readings) 136 = .ok (.iload 10, 2) := by decide +kernel
theorem eL_readings_138 : decode (zYb kL_readings) 138 = .ok (.laload, 1) := by decide +kernel
theorem eL_readings_139 : decode (zYb kL_readings) 139 = .ok (.lload 8, 2) := by decide +kernel
theorem eL_readings_141 : decode (zYb kL_readings) 141 = .ok (.lcmp, 1) := by decide +kernel
theorem eL_readings_142 : decode (zYb kL_readings) 142 = .ok (.ifCond .ne 6, 3) := by decide +kernel
theorem eL_readings_145 : decode (zYb kL_readings) 145 = .ok (.goto 39, 3) := by decide +kernel
theorem eL_readings_148 : decode (zYb kL_readings) 148 = .ok (.iload 4, 2) := by decide +kernel
theorem eL_readings_150 : decode (zYb kL_readings) 150 = .ok (.iinc 4 1, 3) := by decide +kernel
theorem eL_readings_153 : decode (zYb kL_readings) 153 = .ok (.istore 11, 2) := by decide +kernel
theorem eL_readings_155 : decode (zYb kL_readings) 155 = .ok (.iload 11, 2) := by decide +kernel
theorem eL_readings_157 : decode (zYb kL_readings) 157 = .ok (.iload 10, 2) := by decide +kernel
theorem eL_readings_159 : decode (zYb kL_readings) 159 = .ok (.if_icmp .le 19, 3) := by decide +kernel
theorem eL_readings_162 : decode (zYb kL_readings) 162 = .ok (.aload_n 3, 1) := by decide +kernel
theorem eL_readings_163 : decode (zYb kL_readings) 163 = .ok (.iload 11, 2) := by decide +kernel
theorem eL_readings_165 : decode (zYb kL_readings) 165 = .ok (.aload_n 3, 1) := by decide +kernel
theorem eL_readings_166 : decode (zYb kL_readings) 166 = .ok (.iload 11, 2) := by decide +kernel
theorem eL_readings_168 : decode (zYb kL_readings) 168 = .ok (.iconst 1, 1) := by decide +kernel
theorem eL_readings_169 : decode (zYb kL_readings) 169 = .ok (.isub, 1) := by decide +kernel
theorem eL_readings_170 : decode (zYb kL_readings) 170 = .ok (.laload, 1) := by decide +kernel
theorem eL_readings_171 : decode (zYb kL_readings) 171 = .ok (.lastore, 1) := by decide +kernel
theorem eL_readings_172 : decode (zYb kL_readings) 172 = .ok (.iinc 11 (-1), 3) := by decide +kernel
theorem eL_readings_175 : decode (zYb kL_readings) 175 = .ok (.goto (-20), 3) := by decide +kernel
theorem eL_readings_178 : decode (zYb kL_readings) 178 = .ok (.aload_n 3, 1) := by decide +kernel
theorem eL_readings_179 : decode (zYb kL_readings) 179 = .ok (.iload 10, 2) := by decide +kernel
theorem eL_readings_181 : decode (zYb kL_readings) 181 = .ok (.lload 8, 2) := by decide +kernel
theorem eL_readings_183 : decode (zYb kL_readings) 183 = .ok (.lastore, 1) := by decide +kernel
theorem eL_readings_184 : decode (zYb kL_readings) 184 = .ok (.iinc 7 1, 3) := by decide +kernel
theorem eL_readings_187 : decode (zYb kL_readings) 187 = .ok (.goto (-159), 3) := by decide +kernel
theorem eL_readings_190 : decode (zYb kL_readings) 190 = .ok (.iinc 6 1, 3) := by decide +kernel
theorem eL_readings_193 : decode (zYb kL_readings) 193 = .ok (.goto (-182), 3) := by decide +kernel
theorem eL_readings_196 : decode (zYb kL_readings) 196 = .ok (.iload 4, 2) := by decide +kernel
theorem eL_readings_198 : decode (zYb kL_readings) 198 = .ok (.ireturn, 1) := by decide +kernel
theorem eL_length_0 : decode (zYb kL_length) 0 = .ok (.aload_n 1, 1) := by decide +kernel
theorem eL_length_1 : decode (zYb kL_length) 1 = .ok (.iload_n 0, 1) := by decide +kernel
theorem eL_length_2 : decode (zYb kL_length) 2 = .ok (.iconst 1, 1) := by decide +kernel
theorem eL_length_3 : decode (zYb kL_length) 3 = .ok (.iadd, 1) := by decide +kernel
theorem eL_length_4 : decode (zYb kL_length) 4 = .ok (.aload_n 1, 1) := by decide +kernel
theorem eL_length_5 : decode (zYb kL_length) 5 = .ok (.iload_n 0, 1) := by decide +kernel
theorem eL_length_6 : decode (zYb kL_length) 6 = .ok (.iaload, 1) := by decide +kernel
theorem eL_length_7 : decode (zYb kL_length) 7 = .ok (.iadd, 1) := by decide +kernel
theorem eL_length_8 : decode (zYb kL_length) 8 = .ok (.iaload, 1) := by decide +kernel
theorem eL_length_9 : decode (zYb kL_length) 9 = .ok (.ireturn, 1) := by decide +kernel
theorem eL_digit_0 : decode (zYb kL_digit) 0 = .ok (.lload_n 0, 1) := by decide +kernel
theorem eL_digit_1 : decode (zYb kL_digit) 1 = .ok (.iconst 5, 1) := by decide +kernel
theorem eL_digit_2 : decode (zYb kL_digit) 2 = .ok (.iload_n 3, 1) := by decide +kernel
theorem eL_digit_3 : decode (zYb kL_digit) 3 = .ok (.iconst 1, 1) := by decide +kernel
theorem eL_digit_4 : decode (zYb kL_digit) 4 = .ok (.isub, 1) := by decide +kernel
theorem eL_digit_5 : decode (zYb kL_digit) 5 = .ok (.iload_n 2, 1) := by decide +kernel
theorem eL_digit_6 : decode (zYb kL_digit) 6 = .ok (.isub, 1) := by decide +kernel
theorem eL_digit_7 : decode (zYb kL_digit) 7 = .ok (.imul, 1) := by decide +kernel
theorem eL_digit_8 : decode (zYb kL_digit) 8 = .ok (.lshr, 1) := by decide +kernel
theorem eL_digit_9 : decode (zYb kL_digit) 9 = .ok (.l2i, 1) := by decide +kernel
theorem eL_digit_10 : decode (zYb kL_digit) 10 = .ok (.bipush 31, 2) := by decide +kernel
theorem eL_digit_12 : decode (zYb kL_digit) 12 = .ok (.iand, 1) := by decide +kernel
theorem eL_digit_13 : decode (zYb kL_digit) 13 = .ok (.ireturn, 1) := by decide +kernel
theorem eL_shared_0 : decode (zYb kL_shared) 0 = .ok (.iconst 0, 1) := by decide +kernel
theorem eL_shared_1 : decode (zYb kL_shared) 1 = .ok (.istore 4, 2) := by decide +kernel
theorem eL_shared_3 : decode (zYb kL_shared) 3 = .ok (.iconst 0, 1) := by decide +kernel
theorem eL_shared_4 : decode (zYb kL_shared) 4 = .ok (.istore 5, 2) := by decide +kernel
theorem eL_shared_6 : decode (zYb kL_shared) 6 = .ok (.iload 5, 2) := by decide +kernel
theorem eL_shared_8 : decode (zYb kL_shared) 8 = .ok (.iload_n 0, 1) := by decide +kernel
theorem eL_shared_9 : decode (zYb kL_shared) 9 = .ok (.if_icmp .ge 46, 3) := by decide +kernel
theorem eL_shared_12 : decode (zYb kL_shared) 12 = .ok (.iconst 0, 1) := by decide +kernel
theorem eL_shared_13 : decode (zYb kL_shared) 13 = .ok (.istore 6, 2) := by decide +kernel
theorem eL_shared_15 : decode (zYb kL_shared) 15 = .ok (.iload 6, 2) := by decide +kernel
theorem eL_shared_17 : decode (zYb kL_shared) 17 = .ok (.iload_n 2, 1) := by decide +kernel
theorem eL_shared_18 : decode (zYb kL_shared) 18 = .ok (.if_icmp .ge 31, 3) := by decide +kernel
theorem eL_shared_21 : decode (zYb kL_shared) 21 = .ok (.iload 4, 2) := by decide +kernel
theorem eL_shared_23 : decode (zYb kL_shared) 23 = .ok (.aload_n 1, 1) := by decide +kernel
theorem eL_shared_24 : decode (zYb kL_shared) 24 = .ok (.iload 5, 2) := by decide +kernel
theorem eL_shared_26 : decode (zYb kL_shared) 26 = .ok (.laload, 1) := by decide +kernel
theorem eL_shared_27 : decode (zYb kL_shared) 27 = .ok (.aload_n 3, 1) := by decide +kernel
theorem eL_shared_28 : decode (zYb kL_shared) 28 = .ok (.iload 6, 2) := by decide +kernel
theorem eL_shared_30 : decode (zYb kL_shared) 30 = .ok (.laload, 1) := by decide +kernel
theorem eL_shared_31 : decode (zYb kL_shared) 31 = .ok (.lcmp, 1) := by decide +kernel
theorem eL_shared_32 : decode (zYb kL_shared) 32 = .ok (.ifCond .ne 7, 3) := by decide +kernel
theorem eL_shared_35 : decode (zYb kL_shared) 35 = .ok (.iconst 1, 1) := by decide +kernel
theorem eL_shared_36 : decode (zYb kL_shared) 36 = .ok (.goto 4, 3) := by decide +kernel
theorem eL_shared_39 : decode (zYb kL_shared) 39 = .ok (.iconst 0, 1) := by decide +kernel
theorem eL_shared_40 : decode (zYb kL_shared) 40 = .ok (.iadd, 1) := by decide +kernel
theorem eL_shared_41 : decode (zYb kL_shared) 41 = .ok (.istore 4, 2) := by decide +kernel
theorem eL_shared_43 : decode (zYb kL_shared) 43 = .ok (.iinc 6 1, 3) := by decide +kernel
theorem eL_shared_46 : decode (zYb kL_shared) 46 = .ok (.goto (-31), 3) := by decide +kernel
theorem eL_shared_49 : decode (zYb kL_shared) 49 = .ok (.iinc 5 1, 3) := by decide +kernel
theorem eL_shared_52 : decode (zYb kL_shared) 52 = .ok (.goto (-46), 3) := by decide +kernel
theorem eL_shared_55 : decode (zYb kL_shared) 55 = .ok (.iload 4, 2) := by decide +kernel
theorem eL_shared_57 : decode (zYb kL_shared) 57 = .ok (.ireturn, 1) := by decide +kernel
theorem eL_copy_0 : decode (zYb kL_copy) 0 = .ok (.iconst 0, 1) := by decide +kernel
theorem eL_copy_1 : decode (zYb kL_copy) 1 = .ok (.istore 4, 2) := by decide +kernel
theorem eL_copy_3 : decode (zYb kL_copy) 3 = .ok (.iload 4, 2) := by decide +kernel
theorem eL_copy_5 : decode (zYb kL_copy) 5 = .ok (.bipush 20, 2) := by decide +kernel
theorem eL_copy_7 : decode (zYb kL_copy) 7 = .ok (.if_icmp .ge 21, 3) := by decide +kernel
theorem eL_copy_10 : decode (zYb kL_copy) 10 = .ok (.aload_n 3, 1) := by decide +kernel
theorem eL_copy_11 : decode (zYb kL_copy) 11 = .ok (.iload_n 2, 1) := by decide +kernel
theorem eL_copy_12 : decode (zYb kL_copy) 12 = .ok (.iload 4, 2) := by decide +kernel
theorem eL_copy_14 : decode (zYb kL_copy) 14 = .ok (.iadd, 1) := by decide +kernel
theorem eL_copy_15 : decode (zYb kL_copy) 15 = .ok (.aload_n 1, 1) := by decide +kernel
theorem eL_copy_16 : decode (zYb kL_copy) 16 = .ok (.iload_n 0, 1) := by decide +kernel
theorem eL_copy_17 : decode (zYb kL_copy) 17 = .ok (.iload 4, 2) := by decide +kernel
theorem eL_copy_19 : decode (zYb kL_copy) 19 = .ok (.iadd, 1) := by decide +kernel
theorem eL_copy_20 : decode (zYb kL_copy) 20 = .ok (.iaload, 1) := by decide +kernel
theorem eL_copy_21 : decode (zYb kL_copy) 21 = .ok (.iastore, 1) := by decide +kernel
theorem eL_copy_22 : decode (zYb kL_copy) 22 = .ok (.iinc 4 1, 3) := by decide +kernel
theorem eL_copy_25 : decode (zYb kL_copy) 25 = .ok (.goto (-22), 3) := by decide +kernel
theorem eL_copy_28 : decode (zYb kL_copy) 28 = .ok (.return_, 1) := by decide +kernel
theorem eL_seam_0 : decode (zYb kL_seam) 0 = .ok (.aload_n 3, 1) := by decide +kernel
theorem eL_seam_1 : decode (zYb kL_seam) 1 = .ok (.iload_n 0, 1) := by decide +kernel
theorem eL_seam_2 : decode (zYb kL_seam) 2 = .ok (.iaload, 1) := by decide +kernel
theorem eL_seam_3 : decode (zYb kL_seam) 3 = .ok (.istore 4, 2) := by decide +kernel
theorem eL_seam_5 : decode (zYb kL_seam) 5 = .ok (.iload 4, 2) := by decide +kernel
theorem eL_seam_7 : decode (zYb kL_seam) 7 = .ok (.iload_n 1, 1) := by decide +kernel
theorem eL_seam_8 : decode (zYb kL_seam) 8 = .ok (.if_icmp .le 25, 3) := by decide +kernel
theorem eL_seam_11 : decode (zYb kL_seam) 11 = .ok (.aload_n 3, 1) := by decide +kernel
theorem eL_seam_12 : decode (zYb kL_seam) 12 = .ok (.iload_n 0, 1) := by decide +kernel
theorem eL_seam_13 : decode (zYb kL_seam) 13 = .ok (.iconst 2, 1) := by decide +kernel
theorem eL_seam_14 : decode (zYb kL_seam) 14 = .ok (.iadd, 1) := by decide +kernel
theorem eL_seam_15 : decode (zYb kL_seam) 15 = .ok (.iload 4, 2) := by decide +kernel
theorem eL_seam_17 : decode (zYb kL_seam) 17 = .ok (.iadd, 1) := by decide +kernel
theorem eL_seam_18 : decode (zYb kL_seam) 18 = .ok (.aload_n 3, 1) := by decide +kernel
theorem eL_seam_19 : decode (zYb kL_seam) 19 = .ok (.iload_n 0, 1) := by decide +kernel
theorem eL_seam_20 : decode (zYb kL_seam) 20 = .ok (.iconst 1, 1) := by decide +kernel
theorem eL_seam_21 : decode (zYb kL_seam) 21 = .ok (.iadd, 1) := by decide +kernel
theorem eL_seam_22 : decode (zYb kL_seam) 22 = .ok (.iload 4, 2) := by decide +kernel
theorem eL_seam_24 : decode (zYb kL_seam) 24 = .ok (.iadd, 1) := by decide +kernel
theorem eL_seam_25 : decode (zYb kL_seam) 25 = .ok (.iaload, 1) := by decide +kernel
theorem eL_seam_26 : decode (zYb kL_seam) 26 = .ok (.iastore, 1) := by decide +kernel
theorem eL_seam_27 : decode (zYb kL_seam) 27 = .ok (.iinc 4 (-1), 3) := by decide +kernel
theorem eL_seam_30 : decode (zYb kL_seam) 30 = .ok (.goto (-25), 3) := by decide +kernel
theorem eL_seam_33 : decode (zYb kL_seam) 33 = .ok (.aload_n 3, 1) := by decide +kernel
theorem eL_seam_34 : decode (zYb kL_seam) 34 = .ok (.iload_n 0, 1) := by decide +kernel
theorem eL_seam_35 : decode (zYb kL_seam) 35 = .ok (.iconst 2, 1) := by decide +kernel
theorem eL_seam_36 : decode (zYb kL_seam) 36 = .ok (.iadd, 1) := by decide +kernel
theorem eL_seam_37 : decode (zYb kL_seam) 37 = .ok (.iload_n 1, 1) := by decide +kernel
theorem eL_seam_38 : decode (zYb kL_seam) 38 = .ok (.iadd, 1) := by decide +kernel
theorem eL_seam_39 : decode (zYb kL_seam) 39 = .ok (.aload_n 3, 1) := by decide +kernel
theorem eL_seam_40 : decode (zYb kL_seam) 40 = .ok (.iload_n 0, 1) := by decide +kernel
theorem eL_seam_41 : decode (zYb kL_seam) 41 = .ok (.iconst 1, 1) := by decide +kernel
theorem eL_seam_42 : decode (zYb kL_seam) 42 = .ok (.iadd, 1) := by decide +kernel
theorem eL_seam_43 : decode (zYb kL_seam) 43 = .ok (.iload_n 1, 1) := by decide +kernel
theorem eL_seam_44 : decode (zYb kL_seam) 44 = .ok (.iadd, 1) := by decide +kernel
theorem eL_seam_45 : decode (zYb kL_seam) 45 = .ok (.iaload, 1) := by decide +kernel
theorem eL_seam_46 : decode (zYb kL_seam) 46 = .ok (.iload_n 2, 1) := by decide +kernel
theorem eL_seam_47 : decode (zYb kL_seam) 47 = .ok (.iadd, 1) := by decide +kernel
theorem eL_seam_48 : decode (zYb kL_seam) 48 = .ok (.iastore, 1) := by decide +kernel
theorem eL_seam_49 : decode (zYb kL_seam) 49 = .ok (.aload_n 3, 1) := by decide +kernel
theorem eL_seam_50 : decode (zYb kL_seam) 50 = .ok (.iload_n 0, 1) := by decide +kernel
theorem eL_seam_51 : decode (zYb kL_seam) 51 = .ok (.dup2, 1) := by decide +kernel
theorem eL_seam_52 : decode (zYb kL_seam) 52 = .ok (.iaload, 1) := by decide +kernel
theorem eL_seam_53 : decode (zYb kL_seam) 53 = .ok (.iconst 1, 1) := by decide +kernel
theorem eL_seam_54 : decode (zYb kL_seam) 54 = .ok (.iadd, 1) := by decide +kernel
theorem eL_seam_55 : decode (zYb kL_seam) 55 = .ok (.iastore, 1) := by decide +kernel
theorem eL_seam_56 : decode (zYb kL_seam) 56 = .ok (.return_, 1) := by decide +kernel
theorem eL_undone_0 : decode (zYb kL_undone) 0 = .ok (.iload_n 1, 1) := by decide +kernel
theorem eL_undone_1 : decode (zYb kL_undone) 1 = .ok (.iconst 1, 1) := by decide +kernel
theorem eL_undone_2 : decode (zYb kL_undone) 2 = .ok (.iadd, 1) := by decide +kernel
theorem eL_undone_3 : decode (zYb kL_undone) 3 = .ok (.istore_n 3, 1) := by decide +kernel
theorem eL_undone_4 : decode (zYb kL_undone) 4 = .ok (.iload_n 3, 1) := by decide +kernel
theorem eL_undone_5 : decode (zYb kL_undone) 5 = .ok (.aload_n 2, 1) := by decide +kernel
theorem eL_undone_6 : decode (zYb kL_undone) 6 = .ok (.iload_n 0, 1) := by decide +kernel
theorem eL_undone_7 : decode (zYb kL_undone) 7 = .ok (.iaload, 1) := by decide +kernel
theorem eL_undone_8 : decode (zYb kL_undone) 8 = .ok (.if_icmp .ge 23, 3) := by decide +kernel
theorem eL_undone_11 : decode (zYb kL_undone) 11 = .ok (.aload_n 2, 1) := by decide +kernel
theorem eL_undone_12 : decode (zYb kL_undone) 12 = .ok (.iload_n 0, 1) := by decide +kernel
theorem eL_undone_13 : decode (zYb kL_undone) 13 = .ok (.iconst 1, 1) := by decide +kernel
theorem eL_undone_14 : decode (zYb kL_undone) 14 = .ok (.iadd, 1) := by decide +kernel
theorem eL_undone_15 : decode (zYb kL_undone) 15 = .ok (.iload_n 3, 1) := by decide +kernel
theorem eL_undone_16 : decode (zYb kL_undone) 16 = .ok (.iadd, 1) := by decide +kernel
theorem eL_undone_17 : decode (zYb kL_undone) 17 = .ok (.aload_n 2, 1) := by decide +kernel
theorem eL_undone_18 : decode (zYb kL_undone) 18 = .ok (.iload_n 0, 1) := by decide +kernel
theorem eL_undone_19 : decode (zYb kL_undone) 19 = .ok (.iconst 2, 1) := by decide +kernel
theorem eL_undone_20 : decode (zYb kL_undone) 20 = .ok (.iadd, 1) := by decide +kernel
theorem eL_undone_21 : decode (zYb kL_undone) 21 = .ok (.iload_n 3, 1) := by decide +kernel
theorem eL_undone_22 : decode (zYb kL_undone) 22 = .ok (.iadd, 1) := by decide +kernel
theorem eL_undone_23 : decode (zYb kL_undone) 23 = .ok (.iaload, 1) := by decide +kernel
theorem eL_undone_24 : decode (zYb kL_undone) 24 = .ok (.iastore, 1) := by decide +kernel
theorem eL_undone_25 : decode (zYb kL_undone) 25 = .ok (.iinc 3 1, 3) := by decide +kernel
theorem eL_undone_28 : decode (zYb kL_undone) 28 = .ok (.goto (-24), 3) := by decide +kernel
theorem eL_undone_31 : decode (zYb kL_undone) 31 = .ok (.aload_n 2, 1) := by decide +kernel
theorem eL_undone_32 : decode (zYb kL_undone) 32 = .ok (.iload_n 0, 1) := by decide +kernel
theorem eL_undone_33 : decode (zYb kL_undone) 33 = .ok (.dup2, 1) := by decide +kernel
theorem eL_undone_34 : decode (zYb kL_undone) 34 = .ok (.iaload, 1) := by decide +kernel
theorem eL_undone_35 : decode (zYb kL_undone) 35 = .ok (.iconst 1, 1) := by decide +kernel
theorem eL_undone_36 : decode (zYb kL_undone) 36 = .ok (.isub, 1) := by decide +kernel
theorem eL_undone_37 : decode (zYb kL_undone) 37 = .ok (.iastore, 1) := by decide +kernel
theorem eL_undone_38 : decode (zYb kL_undone) 38 = .ok (.return_, 1) := by decide +kernel
theorem eL_same_0 : decode (zYb kL_same) 0 = .ok (.iconst 0, 1) := by decide +kernel
theorem eL_same_1 : decode (zYb kL_same) 1 = .ok (.istore 7, 2) := by decide +kernel
theorem eL_same_3 : decode (zYb kL_same) 3 = .ok (.iconst 0, 1) := by decide +kernel
theorem eL_same_4 : decode (zYb kL_same) 4 = .ok (.istore 8, 2) := by decide +kernel
theorem eL_same_6 : decode (zYb kL_same) 6 = .ok (.iconst 0, 1) := by decide +kernel
theorem eL_same_7 : decode (zYb kL_same) 7 = .ok (.istore 9, 2) := by decide +kernel
theorem eL_same_9 : decode (zYb kL_same) 9 = .ok (.iconst 0, 1) := by decide +kernel
theorem eL_same_10 : decode (zYb kL_same) 10 = .ok (.istore 10, 2) := by decide +kernel
theorem eL_same_12 : decode (zYb kL_same) 12 = .ok (.iconst 0, 1) := by decide +kernel
theorem eL_same_13 : decode (zYb kL_same) 13 = .ok (.istore 11, 2) := by decide +kernel
theorem eL_same_15 : decode (zYb kL_same) 15 = .ok (.iload 11, 2) := by decide +kernel
theorem eL_same_17 : decode (zYb kL_same) 17 = .ok (.iload_n 2, 1) := by decide +kernel
theorem eL_same_18 : decode (zYb kL_same) 18 = .ok (.if_icmp .ge 889, 3) := by decide +kernel
theorem eL_same_21 : decode (zYb kL_same) 21 = .ok (.bipush 20, 2) := by decide +kernel
theorem eL_same_23 : decode (zYb kL_same) 23 = .ok (.iload 11, 2) := by decide +kernel
theorem eL_same_25 : decode (zYb kL_same) 25 = .ok (.imul, 1) := by decide +kernel
theorem eL_same_26 : decode (zYb kL_same) 26 = .ok (.istore 12, 2) := by decide +kernel
theorem eL_same_28 : decode (zYb kL_same) 28 = .ok (.iload 12, 2) := by decide +kernel
theorem eL_same_30 : decode (zYb kL_same) 30 = .ok (.aload_n 3, 1) := by decide +kernel
theorem eL_same_31 : decode (zYb kL_same) 31 = .ok (.invokestatic 22, 3) := by decide +kernel
theorem eL_same_34 : decode (zYb kL_same) 34 = .ok (.istore 13, 2) := by decide +kernel
theorem eL_same_36 : decode (zYb kL_same) 36 = .ok (.iconst 0, 1) := by decide +kernel
theorem eL_same_37 : decode (zYb kL_same) 37 = .ok (.istore 14, 2) := by decide +kernel
theorem eL_same_39 : decode (zYb kL_same) 39 = .ok (.iconst 0, 1) := by decide +kernel
theorem eL_same_40 : decode (zYb kL_same) 40 = .ok (.istore 15, 2) := by decide +kernel
theorem eL_same_42 : decode (zYb kL_same) 42 = .ok (.iconst 0, 1) := by decide +kernel
theorem eL_same_43 : decode (zYb kL_same) 43 = .ok (.istore 16, 2) := by decide +kernel
theorem eL_same_45 : decode (zYb kL_same) 45 = .ok (.iconst 0, 1) := by decide +kernel
theorem eL_same_46 : decode (zYb kL_same) 46 = .ok (.istore 17, 2) := by decide +kernel
theorem eL_same_48 : decode (zYb kL_same) 48 = .ok (.iload 17, 2) := by decide +kernel
theorem eL_same_50 : decode (zYb kL_same) 50 = .ok (.aload_n 3, 1) := by decide +kernel
theorem eL_same_51 : decode (zYb kL_same) 51 = .ok (.iload 12, 2) := by decide +kernel
theorem eL_same_53 : decode (zYb kL_same) 53 = .ok (.iaload, 1) := by decide +kernel
theorem eL_same_54 : decode (zYb kL_same) 54 = .ok (.if_icmp .ge 133, 3) := by decide +kernel
theorem eL_same_57 : decode (zYb kL_same) 57 = .ok (.iload 12, 2) := by decide +kernel
theorem eL_same_59 : decode (zYb kL_same) 59 = .ok (.iload 17, 2) := by decide +kernel
theorem eL_same_61 : decode (zYb kL_same) 61 = .ok (.aload_n 3, 1) := by decide +kernel
theorem eL_same_62 : decode (zYb kL_same) 62 = .ok (.invokestatic 10, 3) := by decide +kernel
theorem eL_same_65 : decode (zYb kL_same) 65 = .ok (.istore 18, 2) := by decide +kernel
theorem eL_same_67 : decode (zYb kL_same) 67 = .ok (.iload 14, 2) := by decide +kernel
theorem eL_same_69 : decode (zYb kL_same) 69 = .ok (.lconst 0, 1) := by decide +kernel
theorem eL_same_70 : decode (zYb kL_same) 70 = .ok (.iload 12, 2) := by decide +kernel
theorem eL_same_72 : decode (zYb kL_same) 72 = .ok (.iload 17, 2) := by decide +kernel
theorem eL_same_74 : decode (zYb kL_same) 74 = .ok (.iconst 1, 1) := by decide +kernel
theorem eL_same_75 : decode (zYb kL_same) 75 = .ok (.aload_n 3, 1) := by decide +kernel
theorem eL_same_76 : decode (zYb kL_same) 76 = .ok (.invokestatic 18, 3) := by decide +kernel
theorem eL_same_79 : decode (zYb kL_same) 79 = .ok (.lconst 0, 1) := by decide +kernel
theorem eL_same_80 : decode (zYb kL_same) 80 = .ok (.iload 12, 2) := by decide +kernel
theorem eL_same_82 : decode (zYb kL_same) 82 = .ok (.iload 17, 2) := by decide +kernel
theorem eL_same_84 : decode (zYb kL_same) 84 = .ok (.iconst 0, 1) := by decide +kernel
theorem eL_same_85 : decode (zYb kL_same) 85 = .ok (.aload_n 3, 1) := by decide +kernel
theorem eL_same_86 : decode (zYb kL_same) 86 = .ok (.invokestatic 18, 3) := by decide +kernel
theorem eL_same_89 : decode (zYb kL_same) 89 = .ok (.lcmp, 1) := by decide +kernel
theorem eL_same_90 : decode (zYb kL_same) 90 = .ok (.ifCond .ne 7, 3) := by decide +kernel
theorem eL_same_93 : decode (zYb kL_same) 93 = .ok (.iconst 1, 1) := by decide +kernel
theorem eL_same_94 : decode (zYb kL_same) 94 = .ok (.goto 4, 3) := by decide +kernel
theorem eL_same_97 : decode (zYb kL_same) 97 = .ok (.iconst 0, 1) := by decide +kernel
theorem eL_same_98 : decode (zYb kL_same) 98 = .ok (.iadd, 1) := by decide +kernel
theorem eL_same_99 : decode (zYb kL_same) 99 = .ok (.istore 14, 2) := by decide +kernel
theorem eL_same_101 : decode (zYb kL_same) 101 = .ok (.iconst 0, 1) := by decide +kernel
theorem eL_same_102 : decode (zYb kL_same) 102 = .ok (.istore 19, 2) := by decide +kernel
theorem eL_same_104 : decode (zYb kL_same) 104 = .ok (.iload 19, 2) := by decide +kernel
theorem eL_same_106 : decode (zYb kL_same) 106 = .ok (.iload 18, 2) := by decide +kernel
theorem eL_same_108 : decode (zYb kL_same) 108 = .ok (.if_icmp .ge 44, 3) := by decide +kernel
theorem eL_same_111 : decode (zYb kL_same) 111 = .ok (.aload_n 0, 1) := by decide +kernel
theorem eL_same_112 : decode (zYb kL_same) 112 = .ok (.iload 11, 2) := by decide +kernel
theorem eL_same_114 : decode (zYb kL_same) 114 = .ok (.iload 17, 2) := by decide +kernel
theorem eL_same_116 : decode (zYb kL_same) 116 = .ok (.iload 19, 2) := by decide +kernel
theorem eL_same_118 : decode (zYb kL_same) 118 = .ok (.invokevirtual 26, 3) := by decide +kernel
theorem eL_same_121 : decode (zYb kL_same) 121 = .ok (.aload_n 3, 1) := by decide +kernel
theorem eL_same_122 : decode (zYb kL_same) 122 = .ok (.iload 12, 2) := by decide +kernel
theorem eL_same_124 : decode (zYb kL_same) 124 = .ok (.bipush 8, 2) := by decide +kernel
theorem eL_same_126 : decode (zYb kL_same) 126 = .ok (.iadd, 1) := by decide +kernel
theorem eL_same_127 : decode (zYb kL_same) 127 = .ok (.aload_n 3, 1) := by decide +kernel
theorem eL_same_128 : decode (zYb kL_same) 128 = .ok (.iload 12, 2) := by decide +kernel
theorem eL_same_130 : decode (zYb kL_same) 130 = .ok (.iconst 1, 1) := by decide +kernel
theorem eL_same_131 : decode (zYb kL_same) 131 = .ok (.iadd, 1) := by decide +kernel
theorem eL_same_132 : decode (zYb kL_same) 132 = .ok (.iload 17, 2) := by decide +kernel
theorem eL_same_134 : decode (zYb kL_same) 134 = .ok (.iadd, 1) := by decide +kernel
theorem eL_same_135 : decode (zYb kL_same) 135 = .ok (.iaload, 1) := by decide +kernel
theorem eL_same_136 : decode (zYb kL_same) 136 = .ok (.iadd, 1) := by decide +kernel
theorem eL_same_137 : decode (zYb kL_same) 137 = .ok (.iload 19, 2) := by decide +kernel
theorem eL_same_139 : decode (zYb kL_same) 139 = .ok (.iadd, 1) := by decide +kernel
theorem eL_same_140 : decode (zYb kL_same) 140 = .ok (.iaload, 1) := by decide +kernel
theorem eL_same_141 : decode (zYb kL_same) 141 = .ok (.if_icmp .eq 5, 3) := by decide +kernel
theorem eL_same_144 : decode (zYb kL_same) 144 = .ok (.iconst 0, 1) := by decide +kernel
theorem eL_same_145 : decode (zYb kL_same) 145 = .ok (.ireturn, 1) := by decide +kernel
theorem eL_same_146 : decode (zYb kL_same) 146 = .ok (.iinc 19 1, 3) := by decide +kernel
theorem eL_same_149 : decode (zYb kL_same) 149 = .ok (.goto (-45), 3) := by decide +kernel
theorem eL_same_152 : decode (zYb kL_same) 152 = .ok (.aload_n 0, 1) := by decide +kernel
theorem eL_same_153 : decode (zYb kL_same) 153 = .ok (.iload 11, 2) := by decide +kernel
theorem eL_same_155 : decode (zYb kL_same) 155 = .ok (.iload 17, 2) := by decide +kernel
theorem eL_same_157 : decode (zYb kL_same) 157 = .ok (.invokevirtual 32, 3) := by decide +kernel
theorem eL_same_160 : decode (zYb kL_same) 160 = .ok (.iload 18, 2) := by decide +kernel
theorem eL_same_162 : decode (zYb kL_same) 162 = .ok (.if_icmp .ne 17, 3) := by decide +kernel
theorem eL_same_165 : decode (zYb kL_same) 165 = .ok (.aload_n 0, 1) := by decide +kernel
theorem eL_same_166 : decode (zYb kL_same) 166 = .ok (.iload 11, 2) := by decide +kernel
theorem eL_same_168 : decode (zYb kL_same) 168 = .ok (.iload 17, 2) := by decide +kernel
theorem eL_same_170 : decode (zYb kL_same) 170 = .ok (.iload 18, 2) := by decide +kernel
theorem eL_same_172 : decode (zYb kL_same) 172 = .ok (.invokevirtual 26, 3) := by decide +kernel
theorem eL_same_175 : decode (zYb kL_same) 175 = .ok (.iconst (-1), 1) := by decide +kernel
theorem eL_same_176 : decode (zYb kL_same) 176 = .ok (.if_icmp .eq 5, 3) := by decide +kernel
theorem eL_same_179 : decode (zYb kL_same) 179 = .ok (.iconst 0, 1) := by decide +kernel
theorem eL_same_180 : decode (zYb kL_same) 180 = .ok (.ireturn, 1) := by decide +kernel
theorem eL_same_181 : decode (zYb kL_same) 181 = .ok (.iinc 17 1, 3) := by decide +kernel
theorem eL_same_184 : decode (zYb kL_same) 184 = .ok (.goto (-136), 3) := by decide +kernel
theorem eL_same_187 : decode (zYb kL_same) 187 = .ok (.iload 12, 2) := by decide +kernel
theorem eL_same_189 : decode (zYb kL_same) 189 = .ok (.iconst 0, 1) := by decide +kernel
theorem eL_same_190 : decode (zYb kL_same) 190 = .ok (.aload_n 3, 1) := by decide +kernel
theorem eL_same_191 : decode (zYb kL_same) 191 = .ok (.aload 5, 2) := by decide +kernel
theorem eL_same_193 : decode (zYb kL_same) 193 = .ok (.invokestatic 36, 3) := by decide +kernel
theorem eL_same_196 : decode (zYb kL_same) 196 = .ok (.istore 17, 2) := by decide +kernel
theorem eL_same_198 : decode (zYb kL_same) 198 = .ok (.iload 12, 2) := by decide +kernel
theorem eL_same_200 : decode (zYb kL_same) 200 = .ok (.iconst 1, 1) := by decide +kernel
theorem eL_same_201 : decode (zYb kL_same) 201 = .ok (.aload_n 3, 1) := by decide +kernel
theorem eL_same_202 : decode (zYb kL_same) 202 = .ok (.aload 5, 2) := by decide +kernel
theorem eL_same_204 : decode (zYb kL_same) 204 = .ok (.invokestatic 36, 3) := by decide +kernel
theorem eL_same_207 : decode (zYb kL_same) 207 = .ok (.istore 18, 2) := by decide +kernel
theorem eL_same_209 : decode (zYb kL_same) 209 = .ok (.iconst 0, 1) := by decide +kernel
theorem eL_same_210 : decode (zYb kL_same) 210 = .ok (.istore 19, 2) := by decide +kernel
theorem eL_same_212 : decode (zYb kL_same) 212 = .ok (.iload 19, 2) := by decide +kernel
theorem eL_same_214 : decode (zYb kL_same) 214 = .ok (.iload 18, 2) := by decide +kernel
theorem eL_same_216 : decode (zYb kL_same) 216 = .ok (.if_icmp .ge 87, 3) := by decide +kernel
theorem eL_same_219 : decode (zYb kL_same) 219 = .ok (.iconst 1, 1) := by decide +kernel
theorem eL_same_220 : decode (zYb kL_same) 220 = .ok (.istore 20, 2) := by decide +kernel
theorem eL_same_222 : decode (zYb kL_same) 222 = .ok (.iconst 0, 1) := by decide +kernel
theorem eL_same_223 : decode (zYb kL_same) 223 = .ok (.istore 21, 2) := by decide +kernel
theorem eL_same_225 : decode (zYb kL_same) 225 = .ok (.iload 21, 2) := by decide +kernel
theorem eL_same_227 : decode (zYb kL_same) 227 = .ok (.iload 13, 2) := by decide +kernel
theorem eL_same_229 : decode (zYb kL_same) 229 = .ok (.if_icmp .ge 53, 3) := by decide +kernel
theorem eL_same_232 : decode (zYb kL_same) 232 = .ok (.iload 20, 2) := by decide +kernel
theorem eL_same_234 : decode (zYb kL_same) 234 = .ok (.ifCond .eq 39, 3) := by decide +kernel
theorem eL_same_237 : decode (zYb kL_same) 237 = .ok (.aload 5, 2) := by decide +kernel
theorem eL_same_239 : decode (zYb kL_same) 239 = .ok (.iload 19, 2) := by decide +kernel
theorem eL_same_241 : decode (zYb kL_same) 241 = .ok (.laload, 1) := by decide +kernel
theorem eL_same_242 : decode (zYb kL_same) 242 = .ok (.iload 21, 2) := by decide +kernel
theorem eL_same_244 : decode (zYb kL_same) 244 = .ok (.iload 13, 2) := by decide +kernel
theorem eL_same_246 : decode (zYb kL_same) 246 = .ok (.invokestatic 40, 3) := by decide +kernel
theorem eL_same_249 : decode (zYb kL_same) 249 = .ok (.aload 5, 2) := by decide +kernel
theorem eL_same_251 : decode (zYb kL_same) 251 = .ok (.iload 19, 2) := by decide +kernel
theorem eL_same_253 : decode (zYb kL_same) 253 = .ok (.laload, 1) := by decide +kernel
theorem eL_same_254 : decode (zYb kL_same) 254 = .ok (.iload 13, 2) := by decide +kernel
theorem eL_same_256 : decode (zYb kL_same) 256 = .ok (.iconst 1, 1) := by decide +kernel
theorem eL_same_257 : decode (zYb kL_same) 257 = .ok (.isub, 1) := by decide +kernel
theorem eL_same_258 : decode (zYb kL_same) 258 = .ok (.iload 21, 2) := by decide +kernel
theorem eL_same_260 : decode (zYb kL_same) 260 = .ok (.isub, 1) := by decide +kernel
theorem eL_same_261 : decode (zYb kL_same) 261 = .ok (.iload 13, 2) := by decide +kernel
theorem eL_same_263 : decode (zYb kL_same) 263 = .ok (.invokestatic 40, 3) := by decide +kernel
theorem eL_same_266 : decode (zYb kL_same) 266 = .ok (.if_icmp .ne 7, 3) := by decide +kernel
theorem eL_same_269 : decode (zYb kL_same) 269 = .ok (.iconst 1, 1) := by decide +kernel
theorem eL_same_270 : decode (zYb kL_same) 270 = .ok (.goto 4, 3) := by decide +kernel
theorem eL_same_273 : decode (zYb kL_same) 273 = .ok (.iconst 0, 1) := by decide +kernel
theorem eL_same_274 : decode (zYb kL_same) 274 = .ok (.istore 20, 2) := by decide +kernel
theorem eL_same_276 : decode (zYb kL_same) 276 = .ok (.iinc 21 1, 3) := by decide +kernel
theorem eL_same_279 : decode (zYb kL_same) 279 = .ok (.goto (-54), 3) := by decide +kernel
theorem eL_same_282 : decode (zYb kL_same) 282 = .ok (.iload 15, 2) := by decide +kernel
theorem eL_same_284 : decode (zYb kL_same) 284 = .ok (.iload 20, 2) := by decide +kernel
theorem eL_same_286 : decode (zYb kL_same) 286 = .ok (.ifCond .eq 7, 3) := by decide +kernel
theorem eL_same_289 : decode (zYb kL_same) 289 = .ok (.iconst 1, 1) := by decide +kernel
theorem eL_same_290 : decode (zYb kL_same) 290 = .ok (.goto 4, 3) := by decide +kernel
theorem eL_same_293 : decode (zYb kL_same) 293 = .ok (.iconst 0, 1) := by decide +kernel
theorem eL_same_294 : decode (zYb kL_same) 294 = .ok (.iadd, 1) := by decide +kernel
theorem eL_same_295 : decode (zYb kL_same) 295 = .ok (.istore 15, 2) := by decide +kernel
theorem eL_same_297 : decode (zYb kL_same) 297 = .ok (.iinc 19 1, 3) := by decide +kernel
theorem eL_same_300 : decode (zYb kL_same) 300 = .ok (.goto (-88), 3) := by decide +kernel
theorem eL_same_303 : decode (zYb kL_same) 303 = .ok (.iconst 0, 1) := by decide +kernel
theorem eL_same_304 : decode (zYb kL_same) 304 = .ok (.istore 19, 2) := by decide +kernel
theorem eL_same_306 : decode (zYb kL_same) 306 = .ok (.iload 19, 2) := by decide +kernel
theorem eL_same_308 : decode (zYb kL_same) 308 = .ok (.iconst 1, 1) := by decide +kernel
theorem eL_same_309 : decode (zYb kL_same) 309 = .ok (.iadd, 1) := by decide +kernel
theorem eL_same_310 : decode (zYb kL_same) 310 = .ok (.aload_n 3, 1) := by decide +kernel
theorem eL_same_311 : decode (zYb kL_same) 311 = .ok (.iload 12, 2) := by decide +kernel
theorem eL_same_313 : decode (zYb kL_same) 313 = .ok (.iaload, 1) := by decide +kernel
theorem eL_same_314 : decode (zYb kL_same) 314 = .ok (.if_icmp .ge 70, 3) := by decide +kernel
theorem eL_same_317 : decode (zYb kL_same) 317 = .ok (.iload 12, 2) := by decide +kernel
theorem eL_same_319 : decode (zYb kL_same) 319 = .ok (.aload_n 3, 1) := by decide +kernel
theorem eL_same_320 : decode (zYb kL_same) 320 = .ok (.iconst 0, 1) := by decide +kernel
theorem eL_same_321 : decode (zYb kL_same) 321 = .ok (.aload 4, 2) := by decide +kernel
theorem eL_same_323 : decode (zYb kL_same) 323 = .ok (.invokestatic 44, 3) := by decide +kernel
theorem eL_same_326 : decode (zYb kL_same) 326 = .ok (.iconst 0, 1) := by decide +kernel
theorem eL_same_327 : decode (zYb kL_same) 327 = .ok (.iload 19, 2) := by decide +kernel
theorem eL_same_329 : decode (zYb kL_same) 329 = .ok (.aload 4, 2) := by decide +kernel
theorem eL_same_331 : decode (zYb kL_same) 331 = .ok (.invokestatic 48, 3) := by decide +kernel
theorem eL_same_334 : decode (zYb kL_same) 334 = .ok (.iconst 0, 1) := by decide +kernel
theorem eL_same_335 : decode (zYb kL_same) 335 = .ok (.iconst 1, 1) := by decide +kernel
theorem eL_same_336 : decode (zYb kL_same) 336 = .ok (.aload 4, 2) := by decide +kernel
theorem eL_same_338 : decode (zYb kL_same) 338 = .ok (.aload 6, 2) := by decide +kernel
theorem eL_same_340 : decode (zYb kL_same) 340 = .ok (.invokestatic 36, 3) := by decide +kernel
theorem eL_same_343 : decode (zYb kL_same) 343 = .ok (.istore 20, 2) := by decide +kernel
theorem eL_same_345 : decode (zYb kL_same) 345 = .ok (.iload 16, 2) := by decide +kernel
theorem eL_same_347 : decode (zYb kL_same) 347 = .ok (.iload 20, 2) := by decide +kernel
theorem eL_same_349 : decode (zYb kL_same) 349 = .ok (.iload 18, 2) := by decide +kernel
theorem eL_same_351 : decode (zYb kL_same) 351 = .ok (.if_icmp .ne 23, 3) := by decide +kernel
theorem eL_same_354 : decode (zYb kL_same) 354 = .ok (.iload 18, 2) := by decide +kernel
theorem eL_same_356 : decode (zYb kL_same) 356 = .ok (.aload 5, 2) := by decide +kernel
theorem eL_same_358 : decode (zYb kL_same) 358 = .ok (.iload 20, 2) := by decide +kernel
theorem eL_same_360 : decode (zYb kL_same) 360 = .ok (.aload 6, 2) := by decide +kernel
theorem eL_same_362 : decode (zYb kL_same) 362 = .ok (.invokestatic 52, 3) := by decide +kernel
theorem eL_same_365 : decode (zYb kL_same) 365 = .ok (.iload 18, 2) := by decide +kernel
theorem eL_same_367 : decode (zYb kL_same) 367 = .ok (.if_icmp .ne 7, 3) := by decide +kernel
theorem eL_same_370 : decode (zYb kL_same) 370 = .ok (.iconst 1, 1) := by decide +kernel
theorem eL_same_371 : decode (zYb kL_same) 371 = .ok (.goto 4, 3) := by decide +kernel
theorem eL_same_374 : decode (zYb kL_same) 374 = .ok (.iconst 0, 1) := by decide +kernel
theorem eL_same_375 : decode (zYb kL_same) 375 = .ok (.iadd, 1) := by decide +kernel
theorem eL_same_376 : decode (zYb kL_same) 376 = .ok (.istore 16, 2) := by decide +kernel
theorem eL_same_378 : decode (zYb kL_same) 378 = .ok (.iinc 19 1, 3) := by decide +kernel
theorem eL_same_381 : decode (zYb kL_same) 381 = .ok (.goto (-75), 3) := by decide +kernel
theorem eL_same_384 : decode (zYb kL_same) 384 = .ok (.iload_n 1, 1) := by decide +kernel
theorem eL_same_385 : decode (zYb kL_same) 385 = .ok (.iload 18, 2) := by decide +kernel
theorem eL_same_387 : decode (zYb kL_same) 387 = .ok (.invokestatic 56, 3) := by decide +kernel
theorem eL_same_390 : decode (zYb kL_same) 390 = .ok (.istore 19, 2) := by decide +kernel
theorem eL_same_392 : decode (zYb kL_same) 392 = .ok (.iload_n 1, 1) := by decide +kernel
theorem eL_same_393 : decode (zYb kL_same) 393 = .ok (.iconst 4, 1) := by decide +kernel
theorem eL_same_394 : decode (zYb kL_same) 394 = .ok (.ishr, 1) := by decide +kernel
theorem eL_same_395 : decode (zYb kL_same) 395 = .ok (.iload 13, 2) := by decide +kernel
theorem eL_same_397 : decode (zYb kL_same) 397 = .ok (.invokestatic 56, 3) := by decide +kernel
theorem eL_same_400 : decode (zYb kL_same) 400 = .ok (.istore 20, 2) := by decide +kernel
theorem eL_same_402 : decode (zYb kL_same) 402 = .ok (.aload_n 0, 1) := by decide +kernel
theorem eL_same_403 : decode (zYb kL_same) 403 = .ok (.iload 11, 2) := by decide +kernel
theorem eL_same_405 : decode (zYb kL_same) 405 = .ok (.iload 19, 2) := by decide +kernel
theorem eL_same_407 : decode (zYb kL_same) 407 = .ok (.iload 20, 2) := by decide +kernel
theorem eL_same_409 : decode (zYb kL_same) 409 = .ok (.invokevirtual 59, 3) := by decide +kernel
theorem eL_same_412 : decode (zYb kL_same) 412 = .ok (.aload 5, 2) := by decide +kernel
theorem eL_same_414 : decode (zYb kL_same) 414 = .ok (.iload 19, 2) := by decide +kernel
theorem eL_same_416 : decode (zYb kL_same) 416 = .ok (.laload, 1) := by decide +kernel
theorem eL_same_417 : decode (zYb kL_same) 417 = .ok (.iload 20, 2) := by decide +kernel
theorem eL_same_419 : decode (zYb kL_same) 419 = .ok (.iload 13, 2) := by decide +kernel
theorem eL_same_421 : decode (zYb kL_same) 421 = .ok (.invokestatic 40, 3) := by decide +kernel
theorem eL_same_424 : decode (zYb kL_same) 424 = .ok (.if_icmp .ne 29, 3) := by decide +kernel
theorem eL_same_427 : decode (zYb kL_same) 427 = .ok (.aload_n 0, 1) := by decide +kernel
theorem eL_same_428 : decode (zYb kL_same) 428 = .ok (.iload 11, 2) := by decide +kernel
theorem eL_same_430 : decode (zYb kL_same) 430 = .ok (.iload 18, 2) := by decide +kernel
theorem eL_same_432 : decode (zYb kL_same) 432 = .ok (.iconst 0, 1) := by decide +kernel
theorem eL_same_433 : decode (zYb kL_same) 433 = .ok (.invokevirtual 59, 3) := by decide +kernel
theorem eL_same_436 : decode (zYb kL_same) 436 = .ok (.iconst (-1), 1) := by decide +kernel
theorem eL_same_437 : decode (zYb kL_same) 437 = .ok (.if_icmp .ne 16, 3) := by decide +kernel
theorem eL_same_440 : decode (zYb kL_same) 440 = .ok (.aload_n 0, 1) := by decide +kernel
theorem eL_same_441 : decode (zYb kL_same) 441 = .ok (.iload 11, 2) := by decide +kernel
theorem eL_same_443 : decode (zYb kL_same) 443 = .ok (.iconst 0, 1) := by decide +kernel
theorem eL_same_444 : decode (zYb kL_same) 444 = .ok (.iload 13, 2) := by decide +kernel
theorem eL_same_446 : decode (zYb kL_same) 446 = .ok (.invokevirtual 59, 3) := by decide +kernel
theorem eL_same_449 : decode (zYb kL_same) 449 = .ok (.iconst (-1), 1) := by decide +kernel
theorem eL_same_450 : decode (zYb kL_same) 450 = .ok (.if_icmp .eq 5, 3) := by decide +kernel
theorem eL_same_453 : decode (zYb kL_same) 453 = .ok (.iconst 0, 1) := by decide +kernel
theorem eL_same_454 : decode (zYb kL_same) 454 = .ok (.ireturn, 1) := by decide +kernel
theorem eL_same_455 : decode (zYb kL_same) 455 = .ok (.aload_n 0, 1) := by decide +kernel
theorem eL_same_456 : decode (zYb kL_same) 456 = .ok (.iload 11, 2) := by decide +kernel
theorem eL_same_458 : decode (zYb kL_same) 458 = .ok (.iconst 0, 1) := by decide +kernel
theorem eL_same_459 : decode (zYb kL_same) 459 = .ok (.invokevirtual 62, 3) := by decide +kernel
theorem eL_same_462 : decode (zYb kL_same) 462 = .ok (.aload_n 3, 1) := by decide +kernel
theorem eL_same_463 : decode (zYb kL_same) 463 = .ok (.iload 12, 2) := by decide +kernel
theorem eL_same_465 : decode (zYb kL_same) 465 = .ok (.iaload, 1) := by decide +kernel
theorem eL_same_466 : decode (zYb kL_same) 466 = .ok (.if_icmp .ne 90, 3) := by decide +kernel
theorem eL_same_469 : decode (zYb kL_same) 469 = .ok (.aload_n 0, 1) := by decide +kernel
theorem eL_same_470 : decode (zYb kL_same) 470 = .ok (.iload 11, 2) := by decide +kernel
theorem eL_same_472 : decode (zYb kL_same) 472 = .ok (.iconst 1, 1) := by decide +kernel
theorem eL_same_473 : decode (zYb kL_same) 473 = .ok (.invokevirtual 62, 3) := by decide +kernel
theorem eL_same_476 : decode (zYb kL_same) 476 = .ok (.iload 13, 2) := by decide +kernel
theorem eL_same_478 : decode (zYb kL_same) 478 = .ok (.if_icmp .ne 78, 3) := by decide +kernel
theorem eL_same_481 : decode (zYb kL_same) 481 = .ok (.aload_n 0, 1) := by decide +kernel
theorem eL_same_482 : decode (zYb kL_same) 482 = .ok (.iload 11, 2) := by decide +kernel
theorem eL_same_484 : decode (zYb kL_same) 484 = .ok (.iconst 2, 1) := by decide +kernel
theorem eL_same_485 : decode (zYb kL_same) 485 = .ok (.invokevirtual 62, 3) := by decide +kernel
theorem eL_same_488 : decode (zYb kL_same) 488 = .ok (.iload 18, 2) := by decide +kernel
theorem eL_same_490 : decode (zYb kL_same) 490 = .ok (.if_icmp .ne 66, 3) := by decide +kernel
theorem eL_same_493 : decode (zYb kL_same) 493 = .ok (.aload_n 0, 1) := by decide +kernel
theorem eL_same_494 : decode (zYb kL_same) 494 = .ok (.iload 11, 2) := by decide +kernel
theorem eL_same_496 : decode (zYb kL_same) 496 = .ok (.iconst 3, 1) := by decide +kernel
theorem eL_same_497 : decode (zYb kL_same) 497 = .ok (.invokevirtual 62, 3) := by decide +kernel
theorem eL_same_500 : decode (zYb kL_same) 500 = .ok (.iload 17, 2) := by decide +kernel
theorem eL_same_502 : decode (zYb kL_same) 502 = .ok (.if_icmp .ne 54, 3) := by decide +kernel
theorem eL_same_505 : decode (zYb kL_same) 505 = .ok (.aload_n 0, 1) := by decide +kernel
theorem eL_same_506 : decode (zYb kL_same) 506 = .ok (.iload 11, 2) := by decide +kernel
theorem eL_same_508 : decode (zYb kL_same) 508 = .ok (.iconst 4, 1) := by decide +kernel
theorem eL_same_509 : decode (zYb kL_same) 509 = .ok (.invokevirtual 62, 3) := by decide +kernel
theorem eL_same_512 : decode (zYb kL_same) 512 = .ok (.iload 14, 2) := by decide +kernel
theorem eL_same_514 : decode (zYb kL_same) 514 = .ok (.if_icmp .ne 42, 3) := by decide +kernel
theorem eL_same_517 : decode (zYb kL_same) 517 = .ok (.aload_n 0, 1) := by decide +kernel
theorem eL_same_518 : decode (zYb kL_same) 518 = .ok (.iload 11, 2) := by decide +kernel
theorem eL_same_520 : decode (zYb kL_same) 520 = .ok (.iconst 5, 1) := by decide +kernel
theorem eL_same_521 : decode (zYb kL_same) 521 = .ok (.invokevirtual 62, 3) := by decide +kernel
theorem eL_same_524 : decode (zYb kL_same) 524 = .ok (.iload 15, 2) := by decide +kernel
theorem eL_same_526 : decode (zYb kL_same) 526 = .ok (.if_icmp .ne 30, 3) := by decide +kernel
theorem eL_same_529 : decode (zYb kL_same) 529 = .ok (.aload_n 0, 1) := by decide +kernel
theorem eL_same_530 : decode (zYb kL_same) 530 = .ok (.iload 11, 2) := by decide +kernel
theorem eL_same_532 : decode (zYb kL_same) 532 = .ok (.bipush 6, 2) := by decide +kernel
theorem eL_same_534 : decode (zYb kL_same) 534 = .ok (.invokevirtual 62, 3) := by decide +kernel
theorem eL_same_537 : decode (zYb kL_same) 537 = .ok (.iload 16, 2) := by decide +kernel
theorem eL_same_539 : decode (zYb kL_same) 539 = .ok (.if_icmp .ne 17, 3) := by decide +kernel
theorem eL_same_542 : decode (zYb kL_same) 542 = .ok (.aload_n 0, 1) := by decide +kernel
theorem eL_same_543 : decode (zYb kL_same) 543 = .ok (.iload 11, 2) := by decide +kernel
theorem eL_same_545 : decode (zYb kL_same) 545 = .ok (.aload_n 3, 1) := by decide +kernel
theorem eL_same_546 : decode (zYb kL_same) 546 = .ok (.iload 12, 2) := by decide +kernel
theorem eL_same_548 : decode (zYb kL_same) 548 = .ok (.iaload, 1) := by decide +kernel
theorem eL_same_549 : decode (zYb kL_same) 549 = .ok (.invokevirtual 32, 3) := by decide +kernel
theorem eL_same_552 : decode (zYb kL_same) 552 = .ok (.iconst (-1), 1) := by decide +kernel
theorem eL_same_553 : decode (zYb kL_same) 553 = .ok (.if_icmp .eq 5, 3) := by decide +kernel
theorem eL_same_556 : decode (zYb kL_same) 556 = .ok (.iconst 0, 1) := by decide +kernel
theorem eL_same_557 : decode (zYb kL_same) 557 = .ok (.ireturn, 1) := by decide +kernel
theorem eL_same_558 : decode (zYb kL_same) 558 = .ok (.iload 7, 2) := by decide +kernel
theorem eL_same_560 : decode (zYb kL_same) 560 = .ok (.aload_n 3, 1) := by decide +kernel
theorem eL_same_561 : decode (zYb kL_same) 561 = .ok (.iload 12, 2) := by decide +kernel
theorem eL_same_563 : decode (zYb kL_same) 563 = .ok (.iaload, 1) := by decide +kernel
theorem eL_same_564 : decode (zYb kL_same) 564 = .ok (.iadd, 1) := by decide +kernel
theorem eL_same_565 : decode (zYb kL_same) 565 = .ok (.istore 7, 2) := by decide +kernel
theorem eL_same_567 : decode (zYb kL_same) 567 = .ok (.iload 8, 2) := by decide +kernel
theorem eL_same_569 : decode (zYb kL_same) 569 = .ok (.iload 13, 2) := by decide +kernel
theorem eL_same_571 : decode (zYb kL_same) 571 = .ok (.iadd, 1) := by decide +kernel
theorem eL_same_572 : decode (zYb kL_same) 572 = .ok (.istore 8, 2) := by decide +kernel
theorem eL_same_574 : decode (zYb kL_same) 574 = .ok (.iconst 0, 1) := by decide +kernel
theorem eL_same_575 : decode (zYb kL_same) 575 = .ok (.istore 21, 2) := by decide +kernel
theorem eL_same_577 : decode (zYb kL_same) 577 = .ok (.iload 21, 2) := by decide +kernel
theorem eL_same_579 : decode (zYb kL_same) 579 = .ok (.iload 18, 2) := by decide +kernel
theorem eL_same_581 : decode (zYb kL_same) 581 = .ok (.if_icmp .ge 117, 3) := by decide +kernel
theorem eL_same_584 : decode (zYb kL_same) 584 = .ok (.iconst 0, 1) := by decide +kernel
theorem eL_same_585 : decode (zYb kL_same) 585 = .ok (.istore 22, 2) := by decide +kernel
theorem eL_same_587 : decode (zYb kL_same) 587 = .ok (.iconst 0, 1) := by decide +kernel
theorem eL_same_588 : decode (zYb kL_same) 588 = .ok (.istore 23, 2) := by decide +kernel
theorem eL_same_590 : decode (zYb kL_same) 590 = .ok (.iload 23, 2) := by decide +kernel
theorem eL_same_592 : decode (zYb kL_same) 592 = .ok (.iload 11, 2) := by decide +kernel
theorem eL_same_594 : decode (zYb kL_same) 594 = .ok (.if_icmp .ge 83, 3) := by decide +kernel
theorem eL_same_597 : decode (zYb kL_same) 597 = .ok (.bipush 20, 2) := by decide +kernel
theorem eL_same_599 : decode (zYb kL_same) 599 = .ok (.iload 23, 2) := by decide +kernel
theorem eL_same_601 : decode (zYb kL_same) 601 = .ok (.imul, 1) := by decide +kernel
theorem eL_same_602 : decode (zYb kL_same) 602 = .ok (.aload_n 3, 1) := by decide +kernel
theorem eL_same_603 : decode (zYb kL_same) 603 = .ok (.invokestatic 22, 3) := by decide +kernel
theorem eL_same_606 : decode (zYb kL_same) 606 = .ok (.iload 13, 2) := by decide +kernel
theorem eL_same_608 : decode (zYb kL_same) 608 = .ok (.if_icmp .ne 18, 3) := by decide +kernel
theorem eL_same_611 : decode (zYb kL_same) 611 = .ok (.bipush 20, 2) := by decide +kernel
theorem eL_same_613 : decode (zYb kL_same) 613 = .ok (.iload 23, 2) := by decide +kernel
theorem eL_same_615 : decode (zYb kL_same) 615 = .ok (.imul, 1) := by decide +kernel
theorem eL_same_616 : decode (zYb kL_same) 616 = .ok (.iconst 1, 1) := by decide +kernel
theorem eL_same_617 : decode (zYb kL_same) 617 = .ok (.aload_n 3, 1) := by decide +kernel
theorem eL_same_618 : decode (zYb kL_same) 618 = .ok (.aload 6, 2) := by decide +kernel
theorem eL_same_620 : decode (zYb kL_same) 620 = .ok (.invokestatic 36, 3) := by decide +kernel
theorem eL_same_623 : decode (zYb kL_same) 623 = .ok (.goto 4, 3) := by decide +kernel
theorem eL_same_626 : decode (zYb kL_same) 626 = .ok (.iconst 0, 1) := by decide +kernel
theorem eL_same_627 : decode (zYb kL_same) 627 = .ok (.istore 24, 2) := by decide +kernel
theorem eL_same_629 : decode (zYb kL_same) 629 = .ok (.iconst 0, 1) := by decide +kernel
theorem eL_same_630 : decode (zYb kL_same) 630 = .ok (.istore 25, 2) := by decide +kernel
theorem eL_same_632 : decode (zYb kL_same) 632 = .ok (.iload 25, 2) := by decide +kernel
theorem eL_same_634 : decode (zYb kL_same) 634 = .ok (.iload 24, 2) := by decide +kernel
theorem eL_same_636 : decode (zYb kL_same) 636 = .ok (.if_icmp .ge 35, 3) := by decide +kernel
theorem eL_same_639 : decode (zYb kL_same) 639 = .ok (.iload 22, 2) := by decide +kernel
theorem eL_same_641 : decode (zYb kL_same) 641 = .ok (.ifCond .ne 17, 3) := by decide +kernel
theorem eL_same_644 : decode (zYb kL_same) 644 = .ok (.aload 6, 2) := by decide +kernel
theorem eL_same_646 : decode (zYb kL_same) 646 = .ok (.iload 25, 2) := by decide +kernel
theorem eL_same_648 : decode (zYb kL_same) 648 = .ok (.laload, 1) := by decide +kernel
theorem eL_same_649 : decode (zYb kL_same) 649 = .ok (.aload 5, 2) := by decide +kernel
theorem eL_same_651 : decode (zYb kL_same) 651 = .ok (.iload 21, 2) := by decide +kernel
theorem eL_same_653 : decode (zYb kL_same) 653 = .ok (.laload, 1) := by decide +kernel
theorem eL_same_654 : decode (zYb kL_same) 654 = .ok (.lcmp, 1) := by decide +kernel
theorem eL_same_655 : decode (zYb kL_same) 655 = .ok (.ifCond .ne 7, 3) := by decide +kernel
theorem eL_same_658 : decode (zYb kL_same) 658 = .ok (.iconst 1, 1) := by decide +kernel
theorem eL_same_659 : decode (zYb kL_same) 659 = .ok (.goto 4, 3) := by decide +kernel
theorem eL_same_662 : decode (zYb kL_same) 662 = .ok (.iconst 0, 1) := by decide +kernel
theorem eL_same_663 : decode (zYb kL_same) 663 = .ok (.istore 22, 2) := by decide +kernel
theorem eL_same_665 : decode (zYb kL_same) 665 = .ok (.iinc 25 1, 3) := by decide +kernel
theorem eL_same_668 : decode (zYb kL_same) 668 = .ok (.goto (-36), 3) := by decide +kernel
theorem eL_same_671 : decode (zYb kL_same) 671 = .ok (.iinc 23 1, 3) := by decide +kernel
theorem eL_same_674 : decode (zYb kL_same) 674 = .ok (.goto (-84), 3) := by decide +kernel
theorem eL_same_677 : decode (zYb kL_same) 677 = .ok (.iload 9, 2) := by decide +kernel
theorem eL_same_679 : decode (zYb kL_same) 679 = .ok (.iload 22, 2) := by decide +kernel
theorem eL_same_681 : decode (zYb kL_same) 681 = .ok (.ifCond .eq 7, 3) := by decide +kernel
theorem eL_same_684 : decode (zYb kL_same) 684 = .ok (.iconst 0, 1) := by decide +kernel
theorem eL_same_685 : decode (zYb kL_same) 685 = .ok (.goto 4, 3) := by decide +kernel
theorem eL_same_688 : decode (zYb kL_same) 688 = .ok (.iconst 1, 1) := by decide +kernel
theorem eL_same_689 : decode (zYb kL_same) 689 = .ok (.iadd, 1) := by decide +kernel
theorem eL_same_690 : decode (zYb kL_same) 690 = .ok (.istore 9, 2) := by decide +kernel
theorem eL_same_692 : decode (zYb kL_same) 692 = .ok (.iinc 21 1, 3) := by decide +kernel
theorem eL_same_695 : decode (zYb kL_same) 695 = .ok (.goto (-118), 3) := by decide +kernel
theorem eL_same_698 : decode (zYb kL_same) 698 = .ok (.iconst 0, 1) := by decide +kernel
theorem eL_same_699 : decode (zYb kL_same) 699 = .ok (.istore 21, 2) := by decide +kernel
theorem eL_same_701 : decode (zYb kL_same) 701 = .ok (.iload 21, 2) := by decide +kernel
theorem eL_same_703 : decode (zYb kL_same) 703 = .ok (.iload 11, 2) := by decide +kernel
theorem eL_same_705 : decode (zYb kL_same) 705 = .ok (.if_icmp .ge 196, 3) := by decide +kernel
theorem eL_same_708 : decode (zYb kL_same) 708 = .ok (.bipush 20, 2) := by decide +kernel
theorem eL_same_710 : decode (zYb kL_same) 710 = .ok (.iload 21, 2) := by decide +kernel
theorem eL_same_712 : decode (zYb kL_same) 712 = .ok (.imul, 1) := by decide +kernel
theorem eL_same_713 : decode (zYb kL_same) 713 = .ok (.iconst 1, 1) := by decide +kernel
theorem eL_same_714 : decode (zYb kL_same) 714 = .ok (.aload_n 3, 1) := by decide +kernel
theorem eL_same_715 : decode (zYb kL_same) 715 = .ok (.aload 6, 2) := by decide +kernel
theorem eL_same_717 : decode (zYb kL_same) 717 = .ok (.invokestatic 36, 3) := by decide +kernel
theorem eL_same_720 : decode (zYb kL_same) 720 = .ok (.istore 22, 2) := by decide +kernel
theorem eL_same_722 : decode (zYb kL_same) 722 = .ok (.bipush 20, 2) := by decide +kernel
theorem eL_same_724 : decode (zYb kL_same) 724 = .ok (.iload 21, 2) := by decide +kernel
theorem eL_same_726 : decode (zYb kL_same) 726 = .ok (.imul, 1) := by decide +kernel
theorem eL_same_727 : decode (zYb kL_same) 727 = .ok (.aload_n 3, 1) := by decide +kernel
theorem eL_same_728 : decode (zYb kL_same) 728 = .ok (.invokestatic 22, 3) := by decide +kernel
theorem eL_same_731 : decode (zYb kL_same) 731 = .ok (.iload 13, 2) := by decide +kernel
theorem eL_same_733 : decode (zYb kL_same) 733 = .ok (.if_icmp .ne 17, 3) := by decide +kernel
theorem eL_same_736 : decode (zYb kL_same) 736 = .ok (.iload 18, 2) := by decide +kernel
theorem eL_same_738 : decode (zYb kL_same) 738 = .ok (.aload 5, 2) := by decide +kernel
theorem eL_same_740 : decode (zYb kL_same) 740 = .ok (.iload 22, 2) := by decide +kernel
theorem eL_same_742 : decode (zYb kL_same) 742 = .ok (.aload 6, 2) := by decide +kernel
theorem eL_same_744 : decode (zYb kL_same) 744 = .ok (.invokestatic 52, 3) := by decide +kernel
theorem eL_same_747 : decode (zYb kL_same) 747 = .ok (.goto 4, 3) := by decide +kernel
theorem eL_same_750 : decode (zYb kL_same) 750 = .ok (.iconst 0, 1) := by decide +kernel
theorem eL_same_751 : decode (zYb kL_same) 751 = .ok (.istore 23, 2) := by decide +kernel
theorem eL_same_753 : decode (zYb kL_same) 753 = .ok (.iload 23, 2) := by decide +kernel
theorem eL_same_755 : decode (zYb kL_same) 755 = .ok (.ifCond .ne 7, 3) := by decide +kernel
theorem eL_same_758 : decode (zYb kL_same) 758 = .ok (.iconst 0, 1) := by decide +kernel
theorem eL_same_759 : decode (zYb kL_same) 759 = .ok (.goto 44, 3) := by decide +kernel
theorem eL_same_762 : decode (zYb kL_same) 762 = .ok (.iload 23, 2) := by decide +kernel
theorem eL_same_764 : decode (zYb kL_same) 764 = .ok (.iload 18, 2) := by decide +kernel
theorem eL_same_766 : decode (zYb kL_same) 766 = .ok (.if_icmp .ne 14, 3) := by decide +kernel
theorem eL_same_769 : decode (zYb kL_same) 769 = .ok (.iload 23, 2) := by decide +kernel
theorem eL_same_771 : decode (zYb kL_same) 771 = .ok (.iload 22, 2) := by decide +kernel
theorem eL_same_773 : decode (zYb kL_same) 773 = .ok (.if_icmp .ne 7, 3) := by decide +kernel
theorem eL_same_776 : decode (zYb kL_same) 776 = .ok (.iconst 4, 1) := by decide +kernel
theorem eL_same_777 : decode (zYb kL_same) 777 = .ok (.goto 26, 3) := by decide +kernel
theorem eL_same_780 : decode (zYb kL_same) 780 = .ok (.iload 23, 2) := by decide +kernel
theorem eL_same_782 : decode (zYb kL_same) 782 = .ok (.iload 18, 2) := by decide +kernel
theorem eL_same_784 : decode (zYb kL_same) 784 = .ok (.if_icmp .ne 7, 3) := by decide +kernel
theorem eL_same_787 : decode (zYb kL_same) 787 = .ok (.iconst 2, 1) := by decide +kernel
theorem eL_same_788 : decode (zYb kL_same) 788 = .ok (.goto 15, 3) := by decide +kernel
theorem eL_same_791 : decode (zYb kL_same) 791 = .ok (.iload 23, 2) := by decide +kernel
theorem eL_same_793 : decode (zYb kL_same) 793 = .ok (.iload 22, 2) := by decide +kernel
theorem eL_same_795 : decode (zYb kL_same) 795 = .ok (.if_icmp .ne 7, 3) := by decide +kernel
theorem eL_same_798 : decode (zYb kL_same) 798 = .ok (.iconst 3, 1) := by decide +kernel
theorem eL_same_799 : decode (zYb kL_same) 799 = .ok (.goto 4, 3) := by decide +kernel
theorem eL_same_802 : decode (zYb kL_same) 802 = .ok (.iconst 1, 1) := by decide +kernel
theorem eL_same_803 : decode (zYb kL_same) 803 = .ok (.istore 24, 2) := by decide +kernel
theorem eL_same_805 : decode (zYb kL_same) 805 = .ok (.iload 10, 2) := by decide +kernel
theorem eL_same_807 : decode (zYb kL_same) 807 = .ok (.iload 24, 2) := by decide +kernel
theorem eL_same_809 : decode (zYb kL_same) 809 = .ok (.iconst 4, 1) := by decide +kernel
theorem eL_same_810 : decode (zYb kL_same) 810 = .ok (.if_icmp .ne 7, 3) := by decide +kernel
theorem eL_same_813 : decode (zYb kL_same) 813 = .ok (.iconst 1, 1) := by decide +kernel
theorem eL_same_814 : decode (zYb kL_same) 814 = .ok (.goto 4, 3) := by decide +kernel
theorem eL_same_817 : decode (zYb kL_same) 817 = .ok (.iconst 0, 1) := by decide +kernel
theorem eL_same_818 : decode (zYb kL_same) 818 = .ok (.iadd, 1) := by decide +kernel
theorem eL_same_819 : decode (zYb kL_same) 819 = .ok (.istore 10, 2) := by decide +kernel
theorem eL_same_821 : decode (zYb kL_same) 821 = .ok (.aload_n 0, 1) := by decide +kernel
theorem eL_same_822 : decode (zYb kL_same) 822 = .ok (.iload 11, 2) := by decide +kernel
theorem eL_same_824 : decode (zYb kL_same) 824 = .ok (.iload 21, 2) := by decide +kernel
theorem eL_same_826 : decode (zYb kL_same) 826 = .ok (.invokevirtual 65, 3) := by decide +kernel
theorem eL_same_829 : decode (zYb kL_same) 829 = .ok (.iload 23, 2) := by decide +kernel
theorem eL_same_831 : decode (zYb kL_same) 831 = .ok (.if_icmp .ne 62, 3) := by decide +kernel
theorem eL_same_834 : decode (zYb kL_same) 834 = .ok (.aload_n 0, 1) := by decide +kernel
theorem eL_same_835 : decode (zYb kL_same) 835 = .ok (.iload 21, 2) := by decide +kernel
theorem eL_same_837 : decode (zYb kL_same) 837 = .ok (.iload 11, 2) := by decide +kernel
theorem eL_same_839 : decode (zYb kL_same) 839 = .ok (.invokevirtual 65, 3) := by decide +kernel
theorem eL_same_842 : decode (zYb kL_same) 842 = .ok (.iload 23, 2) := by decide +kernel
theorem eL_same_844 : decode (zYb kL_same) 844 = .ok (.if_icmp .ne 49, 3) := by decide +kernel
theorem eL_same_847 : decode (zYb kL_same) 847 = .ok (.aload_n 0, 1) := by decide +kernel
theorem eL_same_848 : decode (zYb kL_same) 848 = .ok (.iload 11, 2) := by decide +kernel
theorem eL_same_850 : decode (zYb kL_same) 850 = .ok (.iload 21, 2) := by decide +kernel
theorem eL_same_852 : decode (zYb kL_same) 852 = .ok (.invokevirtual 67, 3) := by decide +kernel
theorem eL_same_855 : decode (zYb kL_same) 855 = .ok (.iload 24, 2) := by decide +kernel
theorem eL_same_857 : decode (zYb kL_same) 857 = .ok (.if_icmp .ne 36, 3) := by decide +kernel
theorem eL_same_860 : decode (zYb kL_same) 860 = .ok (.aload_n 0, 1) := by decide +kernel
theorem eL_same_861 : decode (zYb kL_same) 861 = .ok (.iload 21, 2) := by decide +kernel
theorem eL_same_863 : decode (zYb kL_same) 863 = .ok (.iload 11, 2) := by decide +kernel
theorem eL_same_865 : decode (zYb kL_same) 865 = .ok (.invokevirtual 67, 3) := by decide +kernel
theorem eL_same_868 : decode (zYb kL_same) 868 = .ok (.iload 24, 2) := by decide +kernel
theorem eL_same_870 : decode (zYb kL_same) 870 = .ok (.iconst 2, 1) := by decide +kernel
theorem eL_same_871 : decode (zYb kL_same) 871 = .ok (.if_icmp .ne 7, 3) := by decide +kernel
theorem eL_same_874 : decode (zYb kL_same) 874 = .ok (.iconst 3, 1) := by decide +kernel
theorem eL_same_875 : decode (zYb kL_same) 875 = .ok (.goto 15, 3) := by decide +kernel
theorem eL_same_878 : decode (zYb kL_same) 878 = .ok (.iload 24, 2) := by decide +kernel
theorem eL_same_880 : decode (zYb kL_same) 880 = .ok (.iconst 3, 1) := by decide +kernel
theorem eL_same_881 : decode (zYb kL_same) 881 = .ok (.if_icmp .ne 7, 3) := by decide +kernel
theorem eL_same_884 : decode (zYb kL_same) 884 = .ok (.iconst 2, 1) := by decide +kernel
theorem eL_same_885 : decode (zYb kL_same) 885 = .ok (.goto 5, 3) := by decide +kernel
theorem eL_same_888 : decode (zYb kL_same) 888 = .ok (.iload 24, 2) := by decide +kernel
theorem eL_same_890 : decode (zYb kL_same) 890 = .ok (.if_icmp .eq 5, 3) := by decide +kernel
theorem eL_same_893 : decode (zYb kL_same) 893 = .ok (.iconst 0, 1) := by decide +kernel
theorem eL_same_894 : decode (zYb kL_same) 894 = .ok (.ireturn, 1) := by decide +kernel
theorem eL_same_895 : decode (zYb kL_same) 895 = .ok (.iinc 21 1, 3) := by decide +kernel
theorem eL_same_898 : decode (zYb kL_same) 898 = .ok (.goto (-197), 3) := by decide +kernel
theorem eL_same_901 : decode (zYb kL_same) 901 = .ok (.iinc 11 1, 3) := by decide +kernel
theorem eL_same_904 : decode (zYb kL_same) 904 = .ok (.goto (-889), 3) := by decide +kernel
theorem eL_same_907 : decode (zYb kL_same) 907 = .ok (.aload_n 0, 1) := by decide +kernel
theorem eL_same_908 : decode (zYb kL_same) 908 = .ok (.iconst 0, 1) := by decide +kernel
theorem eL_same_909 : decode (zYb kL_same) 909 = .ok (.invokevirtual 70, 3) := by decide +kernel
theorem eL_same_912 : decode (zYb kL_same) 912 = .ok (.iload_n 2, 1) := by decide +kernel
theorem eL_same_913 : decode (zYb kL_same) 913 = .ok (.if_icmp .ne 47, 3) := by decide +kernel
theorem eL_same_916 : decode (zYb kL_same) 916 = .ok (.aload_n 0, 1) := by decide +kernel
theorem eL_same_917 : decode (zYb kL_same) 917 = .ok (.iconst 1, 1) := by decide +kernel
theorem eL_same_918 : decode (zYb kL_same) 918 = .ok (.invokevirtual 70, 3) := by decide +kernel
theorem eL_same_921 : decode (zYb kL_same) 921 = .ok (.iload 7, 2) := by decide +kernel
theorem eL_same_923 : decode (zYb kL_same) 923 = .ok (.if_icmp .ne 37, 3) := by decide +kernel
theorem eL_same_926 : decode (zYb kL_same) 926 = .ok (.aload_n 0, 1) := by decide +kernel
theorem eL_same_927 : decode (zYb kL_same) 927 = .ok (.iconst 2, 1) := by decide +kernel
theorem eL_same_928 : decode (zYb kL_same) 928 = .ok (.invokevirtual 70, 3) := by decide +kernel
theorem eL_same_931 : decode (zYb kL_same) 931 = .ok (.iload 8, 2) := by decide +kernel
theorem eL_same_933 : decode (zYb kL_same) 933 = .ok (.if_icmp .ne 27, 3) := by decide +kernel
theorem eL_same_936 : decode (zYb kL_same) 936 = .ok (.aload_n 0, 1) := by decide +kernel
theorem eL_same_937 : decode (zYb kL_same) 937 = .ok (.iconst 3, 1) := by decide +kernel
theorem eL_same_938 : decode (zYb kL_same) 938 = .ok (.invokevirtual 70, 3) := by decide +kernel
theorem eL_same_941 : decode (zYb kL_same) 941 = .ok (.iload 9, 2) := by decide +kernel
theorem eL_same_943 : decode (zYb kL_same) 943 = .ok (.if_icmp .ne 17, 3) := by decide +kernel
theorem eL_same_946 : decode (zYb kL_same) 946 = .ok (.aload_n 0, 1) := by decide +kernel
theorem eL_same_947 : decode (zYb kL_same) 947 = .ok (.iconst 4, 1) := by decide +kernel
theorem eL_same_948 : decode (zYb kL_same) 948 = .ok (.invokevirtual 70, 3) := by decide +kernel
theorem eL_same_951 : decode (zYb kL_same) 951 = .ok (.iload 10, 2) := by decide +kernel
theorem eL_same_953 : decode (zYb kL_same) 953 = .ok (.if_icmp .ne 7, 3) := by decide +kernel
theorem eL_same_956 : decode (zYb kL_same) 956 = .ok (.iconst 1, 1) := by decide +kernel
theorem eL_same_957 : decode (zYb kL_same) 957 = .ok (.goto 4, 3) := by decide +kernel
theorem eL_same_960 : decode (zYb kL_same) 960 = .ok (.iconst 0, 1) := by decide +kernel
theorem eL_same_961 : decode (zYb kL_same) 961 = .ok (.ireturn, 1) := by decide +kernel
theorem eL_cuts_0 : decode (zYb kL_cuts) 0 = .ok (.bipush (-6), 2) := by decide +kernel
theorem eL_cuts_2 : decode (zYb kL_cuts) 2 = .ok (.istore 5, 2) := by decide +kernel
theorem eL_cuts_4 : decode (zYb kL_cuts) 4 = .ok (.bipush (-6), 2) := by decide +kernel
theorem eL_cuts_6 : decode (zYb kL_cuts) 6 = .ok (.istore 6, 2) := by decide +kernel
theorem eL_cuts_8 : decode (zYb kL_cuts) 8 = .ok (.bipush (-6), 2) := by decide +kernel
theorem eL_cuts_10 : decode (zYb kL_cuts) 10 = .ok (.istore 7, 2) := by decide +kernel
theorem eL_cuts_12 : decode (zYb kL_cuts) 12 = .ok (.aload_n 2, 1) := by decide +kernel
theorem eL_cuts_13 : decode (zYb kL_cuts) 13 = .ok (.bipush 20, 2) := by decide +kernel
theorem eL_cuts_15 : decode (zYb kL_cuts) 15 = .ok (.iload_n 1, 1) := by decide +kernel
theorem eL_cuts_16 : decode (zYb kL_cuts) 16 = .ok (.imul, 1) := by decide +kernel
theorem eL_cuts_17 : decode (zYb kL_cuts) 17 = .ok (.iaload, 1) := by decide +kernel
theorem eL_cuts_18 : decode (zYb kL_cuts) 18 = .ok (.iconst 1, 1) := by decide +kernel
theorem eL_cuts_19 : decode (zYb kL_cuts) 19 = .ok (.isub, 1) := by decide +kernel
theorem eL_cuts_20 : decode (zYb kL_cuts) 20 = .ok (.istore 8, 2) := by decide +kernel
theorem eL_cuts_22 : decode (zYb kL_cuts) 22 = .ok (.iload 8, 2) := by decide +kernel
theorem eL_cuts_24 : decode (zYb kL_cuts) 24 = .ok (.ifCond .lt 101, 3) := by decide +kernel
theorem eL_cuts_27 : decode (zYb kL_cuts) 27 = .ok (.bipush 20, 2) := by decide +kernel
theorem eL_cuts_29 : decode (zYb kL_cuts) 29 = .ok (.iload_n 1, 1) := by decide +kernel
theorem eL_cuts_30 : decode (zYb kL_cuts) 30 = .ok (.imul, 1) := by decide +kernel
theorem eL_cuts_31 : decode (zYb kL_cuts) 31 = .ok (.iload 8, 2) := by decide +kernel
theorem eL_cuts_33 : decode (zYb kL_cuts) 33 = .ok (.aload_n 2, 1) := by decide +kernel
theorem eL_cuts_34 : decode (zYb kL_cuts) 34 = .ok (.invokestatic 10, 3) := by decide +kernel
theorem eL_cuts_37 : decode (zYb kL_cuts) 37 = .ok (.iconst 1, 1) := by decide +kernel
theorem eL_cuts_38 : decode (zYb kL_cuts) 38 = .ok (.isub, 1) := by decide +kernel
theorem eL_cuts_39 : decode (zYb kL_cuts) 39 = .ok (.istore 9, 2) := by decide +kernel
theorem eL_cuts_41 : decode (zYb kL_cuts) 41 = .ok (.iload 9, 2) := by decide +kernel
theorem eL_cuts_43 : decode (zYb kL_cuts) 43 = .ok (.ifCond .le 76, 3) := by decide +kernel
theorem eL_cuts_46 : decode (zYb kL_cuts) 46 = .ok (.bipush 20, 2) := by decide +kernel
theorem eL_cuts_48 : decode (zYb kL_cuts) 48 = .ok (.iload_n 1, 1) := by decide +kernel
theorem eL_cuts_49 : decode (zYb kL_cuts) 49 = .ok (.imul, 1) := by decide +kernel
theorem eL_cuts_50 : decode (zYb kL_cuts) 50 = .ok (.aload_n 2, 1) := by decide +kernel
theorem eL_cuts_51 : decode (zYb kL_cuts) 51 = .ok (.iconst 0, 1) := by decide +kernel
theorem eL_cuts_52 : decode (zYb kL_cuts) 52 = .ok (.aload_n 3, 1) := by decide +kernel
theorem eL_cuts_53 : decode (zYb kL_cuts) 53 = .ok (.invokestatic 44, 3) := by decide +kernel
theorem eL_cuts_56 : decode (zYb kL_cuts) 56 = .ok (.iconst 0, 1) := by decide +kernel
theorem eL_cuts_57 : decode (zYb kL_cuts) 57 = .ok (.iload 8, 2) := by decide +kernel
theorem eL_cuts_59 : decode (zYb kL_cuts) 59 = .ok (.iload 9, 2) := by decide +kernel
theorem eL_cuts_61 : decode (zYb kL_cuts) 61 = .ok (.aload_n 3, 1) := by decide +kernel
theorem eL_cuts_62 : decode (zYb kL_cuts) 62 = .ok (.invokestatic 74, 3) := by decide +kernel
theorem eL_cuts_65 : decode (zYb kL_cuts) 65 = .ok (.iconst 0, 1) := by decide +kernel
theorem eL_cuts_66 : decode (zYb kL_cuts) 66 = .ok (.iconst 1, 1) := by decide +kernel
theorem eL_cuts_67 : decode (zYb kL_cuts) 67 = .ok (.aload_n 3, 1) := by decide +kernel
theorem eL_cuts_68 : decode (zYb kL_cuts) 68 = .ok (.aload 4, 2) := by decide +kernel
theorem eL_cuts_70 : decode (zYb kL_cuts) 70 = .ok (.invokestatic 36, 3) := by decide +kernel
theorem eL_cuts_73 : decode (zYb kL_cuts) 73 = .ok (.istore 10, 2) := by decide +kernel
theorem eL_cuts_75 : decode (zYb kL_cuts) 75 = .ok (.aload_n 0, 1) := by decide +kernel
theorem eL_cuts_76 : decode (zYb kL_cuts) 76 = .ok (.iload_n 1, 1) := by decide +kernel
theorem eL_cuts_77 : decode (zYb kL_cuts) 77 = .ok (.iload 8, 2) := by decide +kernel
theorem eL_cuts_79 : decode (zYb kL_cuts) 79 = .ok (.iload 9, 2) := by decide +kernel
theorem eL_cuts_81 : decode (zYb kL_cuts) 81 = .ok (.invokevirtual 78, 3) := by decide +kernel
theorem eL_cuts_84 : decode (zYb kL_cuts) 84 = .ok (.iload 10, 2) := by decide +kernel
theorem eL_cuts_86 : decode (zYb kL_cuts) 86 = .ok (.if_icmp .eq 5, 3) := by decide +kernel
theorem eL_cuts_89 : decode (zYb kL_cuts) 89 = .ok (.iconst 0, 1) := by decide +kernel
theorem eL_cuts_90 : decode (zYb kL_cuts) 90 = .ok (.ireturn, 1) := by decide +kernel
theorem eL_cuts_91 : decode (zYb kL_cuts) 91 = .ok (.iload 10, 2) := by decide +kernel
theorem eL_cuts_93 : decode (zYb kL_cuts) 93 = .ok (.iload 5, 2) := by decide +kernel
theorem eL_cuts_95 : decode (zYb kL_cuts) 95 = .ok (.if_icmp .ge 6, 3) := by decide +kernel
theorem eL_cuts_98 : decode (zYb kL_cuts) 98 = .ok (.goto 15, 3) := by decide +kernel
theorem eL_cuts_101 : decode (zYb kL_cuts) 101 = .ok (.iload 10, 2) := by decide +kernel
theorem eL_cuts_103 : decode (zYb kL_cuts) 103 = .ok (.istore 5, 2) := by decide +kernel
theorem eL_cuts_105 : decode (zYb kL_cuts) 105 = .ok (.iload 8, 2) := by decide +kernel
theorem eL_cuts_107 : decode (zYb kL_cuts) 107 = .ok (.istore 6, 2) := by decide +kernel
theorem eL_cuts_109 : decode (zYb kL_cuts) 109 = .ok (.iload 9, 2) := by decide +kernel
theorem eL_cuts_111 : decode (zYb kL_cuts) 111 = .ok (.istore 7, 2) := by decide +kernel
theorem eL_cuts_113 : decode (zYb kL_cuts) 113 = .ok (.iinc 9 (-1), 3) := by decide +kernel
theorem eL_cuts_116 : decode (zYb kL_cuts) 116 = .ok (.goto (-75), 3) := by decide +kernel
theorem eL_cuts_119 : decode (zYb kL_cuts) 119 = .ok (.iinc 8 (-1), 3) := by decide +kernel
theorem eL_cuts_122 : decode (zYb kL_cuts) 122 = .ok (.goto (-100), 3) := by decide +kernel
theorem eL_cuts_125 : decode (zYb kL_cuts) 125 = .ok (.aload_n 0, 1) := by decide +kernel
theorem eL_cuts_126 : decode (zYb kL_cuts) 126 = .ok (.iload_n 1, 1) := by decide +kernel
theorem eL_cuts_127 : decode (zYb kL_cuts) 127 = .ok (.iconst 0, 1) := by decide +kernel
theorem eL_cuts_128 : decode (zYb kL_cuts) 128 = .ok (.invokevirtual 81, 3) := by decide +kernel
theorem eL_cuts_131 : decode (zYb kL_cuts) 131 = .ok (.iload 6, 2) := by decide +kernel
theorem eL_cuts_133 : decode (zYb kL_cuts) 133 = .ok (.if_icmp .ne 29, 3) := by decide +kernel
theorem eL_cuts_136 : decode (zYb kL_cuts) 136 = .ok (.aload_n 0, 1) := by decide +kernel
theorem eL_cuts_137 : decode (zYb kL_cuts) 137 = .ok (.iload_n 1, 1) := by decide +kernel
theorem eL_cuts_138 : decode (zYb kL_cuts) 138 = .ok (.iconst 1, 1) := by decide +kernel
theorem eL_cuts_139 : decode (zYb kL_cuts) 139 = .ok (.invokevirtual 81, 3) := by decide +kernel
theorem eL_cuts_142 : decode (zYb kL_cuts) 142 = .ok (.iload 7, 2) := by decide +kernel
theorem eL_cuts_144 : decode (zYb kL_cuts) 144 = .ok (.if_icmp .ne 18, 3) := by decide +kernel
theorem eL_cuts_147 : decode (zYb kL_cuts) 147 = .ok (.aload_n 0, 1) := by decide +kernel
theorem eL_cuts_148 : decode (zYb kL_cuts) 148 = .ok (.iload_n 1, 1) := by decide +kernel
theorem eL_cuts_149 : decode (zYb kL_cuts) 149 = .ok (.iconst 2, 1) := by decide +kernel
theorem eL_cuts_150 : decode (zYb kL_cuts) 150 = .ok (.invokevirtual 81, 3) := by decide +kernel
theorem eL_cuts_153 : decode (zYb kL_cuts) 153 = .ok (.iload 5, 2) := by decide +kernel
theorem eL_cuts_155 : decode (zYb kL_cuts) 155 = .ok (.if_icmp .ne 7, 3) := by decide +kernel
theorem eL_cuts_158 : decode (zYb kL_cuts) 158 = .ok (.iconst 1, 1) := by decide +kernel
theorem eL_cuts_159 : decode (zYb kL_cuts) 159 = .ok (.goto 4, 3) := by decide +kernel
theorem eL_cuts_162 : decode (zYb kL_cuts) 162 = .ok (.iconst 0, 1) := by decide +kernel
theorem eL_cuts_163 : decode (zYb kL_cuts) 163 = .ok (.ireturn, 1) := by decide +kernel
theorem eL_finds_0 : decode (zYb kL_finds) 0 = .ok (.bipush 20, 2) := by decide +kernel
theorem eL_finds_2 : decode (zYb kL_finds) 2 = .ok (.iload_n 1, 1) := by decide +kernel
theorem eL_finds_3 : decode (zYb kL_finds) 3 = .ok (.imul, 1) := by decide +kernel
theorem eL_finds_4 : decode (zYb kL_finds) 4 = .ok (.aload_n 3, 1) := by decide +kernel
theorem eL_finds_5 : decode (zYb kL_finds) 5 = .ok (.invokestatic 22, 3) := by decide +kernel
theorem eL_finds_8 : decode (zYb kL_finds) 8 = .ok (.istore 5, 2) := by decide +kernel
theorem eL_finds_10 : decode (zYb kL_finds) 10 = .ok (.bipush 20, 2) := by decide +kernel
theorem eL_finds_12 : decode (zYb kL_finds) 12 = .ok (.iload_n 1, 1) := by decide +kernel
theorem eL_finds_13 : decode (zYb kL_finds) 13 = .ok (.imul, 1) := by decide +kernel
theorem eL_finds_14 : decode (zYb kL_finds) 14 = .ok (.iconst 1, 1) := by decide +kernel
theorem eL_finds_15 : decode (zYb kL_finds) 15 = .ok (.aload_n 3, 1) := by decide +kernel
theorem eL_finds_16 : decode (zYb kL_finds) 16 = .ok (.aload 4, 2) := by decide +kernel
theorem eL_finds_18 : decode (zYb kL_finds) 18 = .ok (.invokestatic 36, 3) := by decide +kernel
theorem eL_finds_21 : decode (zYb kL_finds) 21 = .ok (.istore 6, 2) := by decide +kernel
theorem eL_finds_23 : decode (zYb kL_finds) 23 = .ok (.iconst 1, 1) := by decide +kernel
theorem eL_finds_24 : decode (zYb kL_finds) 24 = .ok (.iload_n 2, 1) := by decide +kernel
theorem eL_finds_25 : decode (zYb kL_finds) 25 = .ok (.iconst 3, 1) := by decide +kernel
theorem eL_finds_26 : decode (zYb kL_finds) 26 = .ok (.invokestatic 56, 3) := by decide +kernel
theorem eL_finds_29 : decode (zYb kL_finds) 29 = .ok (.iadd, 1) := by decide +kernel
theorem eL_finds_30 : decode (zYb kL_finds) 30 = .ok (.istore 7, 2) := by decide +kernel
theorem eL_finds_32 : decode (zYb kL_finds) 32 = .ok (.iconst 0, 1) := by decide +kernel
theorem eL_finds_33 : decode (zYb kL_finds) 33 = .ok (.istore 8, 2) := by decide +kernel
theorem eL_finds_35 : decode (zYb kL_finds) 35 = .ok (.bipush (-6), 2) := by decide +kernel
theorem eL_finds_37 : decode (zYb kL_finds) 37 = .ok (.istore 9, 2) := by decide +kernel
theorem eL_finds_39 : decode (zYb kL_finds) 39 = .ok (.bipush (-6), 2) := by decide +kernel
theorem eL_finds_41 : decode (zYb kL_finds) 41 = .ok (.istore 10, 2) := by decide +kernel
theorem eL_finds_43 : decode (zYb kL_finds) 43 = .ok (.aload_n 0, 1) := by decide +kernel
theorem eL_finds_44 : decode (zYb kL_finds) 44 = .ok (.invokevirtual 84, 3) := by decide +kernel
theorem eL_finds_47 : decode (zYb kL_finds) 47 = .ok (.pop, 1) := by decide +kernel
theorem eL_finds_48 : decode (zYb kL_finds) 48 = .ok (.iconst 0, 1) := by decide +kernel
theorem eL_finds_49 : decode (zYb kL_finds) 49 = .ok (.istore 11, 2) := by decide +kernel
theorem eL_finds_51 : decode (zYb kL_finds) 51 = .ok (.iload 11, 2) := by decide +kernel
theorem eL_finds_53 : decode (zYb kL_finds) 53 = .ok (.iload 7, 2) := by decide +kernel
theorem eL_finds_55 : decode (zYb kL_finds) 55 = .ok (.if_icmp .ge 38, 3) := by decide +kernel
theorem eL_finds_58 : decode (zYb kL_finds) 58 = .ok (.aload_n 0, 1) := by decide +kernel
theorem eL_finds_59 : decode (zYb kL_finds) 59 = .ok (.bipush 97, 2) := by decide +kernel
theorem eL_finds_61 : decode (zYb kL_finds) 61 = .ok (.iload_n 2, 1) := by decide +kernel
theorem eL_finds_62 : decode (zYb kL_finds) 62 = .ok (.iconst 2, 1) := by decide +kernel
theorem eL_finds_63 : decode (zYb kL_finds) 63 = .ok (.iload 11, 2) := by decide +kernel
theorem eL_finds_65 : decode (zYb kL_finds) 65 = .ok (.imul, 1) := by decide +kernel
theorem eL_finds_66 : decode (zYb kL_finds) 66 = .ok (.iconst 2, 1) := by decide +kernel
theorem eL_finds_67 : decode (zYb kL_finds) 67 = .ok (.iadd, 1) := by decide +kernel
theorem eL_finds_68 : decode (zYb kL_finds) 68 = .ok (.ishr, 1) := by decide +kernel
theorem eL_finds_69 : decode (zYb kL_finds) 69 = .ok (.iconst 3, 1) := by decide +kernel
theorem eL_finds_70 : decode (zYb kL_finds) 70 = .ok (.invokestatic 56, 3) := by decide +kernel
theorem eL_finds_73 : decode (zYb kL_finds) 73 = .ok (.iadd, 1) := by decide +kernel
theorem eL_finds_74 : decode (zYb kL_finds) 74 = .ok (.i2l, 1) := by decide +kernel
theorem eL_finds_75 : decode (zYb kL_finds) 75 = .ok (.invokevirtual 88, 3) := by decide +kernel
theorem eL_finds_78 : decode (zYb kL_finds) 78 = .ok (.iload 11, 2) := by decide +kernel
theorem eL_finds_80 : decode (zYb kL_finds) 80 = .ok (.iconst 1, 1) := by decide +kernel
theorem eL_finds_81 : decode (zYb kL_finds) 81 = .ok (.iadd, 1) := by decide +kernel
theorem eL_finds_82 : decode (zYb kL_finds) 82 = .ok (.if_icmp .eq 5, 3) := by decide +kernel
theorem eL_finds_85 : decode (zYb kL_finds) 85 = .ok (.iconst 0, 1) := by decide +kernel
theorem eL_finds_86 : decode (zYb kL_finds) 86 = .ok (.ireturn, 1) := by decide +kernel
theorem eL_finds_87 : decode (zYb kL_finds) 87 = .ok (.iinc 11 1, 3) := by decide +kernel
theorem eL_finds_90 : decode (zYb kL_finds) 90 = .ok (.goto (-39), 3) := by decide +kernel
theorem eL_finds_93 : decode (zYb kL_finds) 93 = .ok (.iload 6, 2) := by decide +kernel
theorem eL_finds_95 : decode (zYb kL_finds) 95 = .ok (.iconst 1, 1) := by decide +kernel
theorem eL_finds_96 : decode (zYb kL_finds) 96 = .ok (.isub, 1) := by decide +kernel
theorem eL_finds_97 : decode (zYb kL_finds) 97 = .ok (.istore 11, 2) := by decide +kernel
theorem eL_finds_99 : decode (zYb kL_finds) 99 = .ok (.iload 11, 2) := by decide +kernel
theorem eL_finds_101 : decode (zYb kL_finds) 101 = .ok (.ifCond .lt 125, 3) := by decide +kernel
theorem eL_finds_104 : decode (zYb kL_finds) 104 = .ok (.bipush (-6), 2) := by decide +kernel
theorem eL_finds_106 : decode (zYb kL_finds) 106 = .ok (.istore 12, 2) := by decide +kernel
theorem eL_finds_108 : decode (zYb kL_finds) 108 = .ok (.iload 5, 2) := by decide +kernel
theorem eL_finds_110 : decode (zYb kL_finds) 110 = .ok (.iload 7, 2) := by decide +kernel
theorem eL_finds_112 : decode (zYb kL_finds) 112 = .ok (.isub, 1) := by decide +kernel
theorem eL_finds_113 : decode (zYb kL_finds) 113 = .ok (.istore 13, 2) := by decide +kernel
theorem eL_finds_115 : decode (zYb kL_finds) 115 = .ok (.iload 13, 2) := by decide +kernel
theorem eL_finds_117 : decode (zYb kL_finds) 117 = .ok (.ifCond .lt 84, 3) := by decide +kernel
theorem eL_finds_120 : decode (zYb kL_finds) 120 = .ok (.iconst 1, 1) := by decide +kernel
theorem eL_finds_121 : decode (zYb kL_finds) 121 = .ok (.istore 14, 2) := by decide +kernel
theorem eL_finds_123 : decode (zYb kL_finds) 123 = .ok (.iconst 0, 1) := by decide +kernel
theorem eL_finds_124 : decode (zYb kL_finds) 124 = .ok (.istore 15, 2) := by decide +kernel
theorem eL_finds_126 : decode (zYb kL_finds) 126 = .ok (.iload 15, 2) := by decide +kernel
theorem eL_finds_128 : decode (zYb kL_finds) 128 = .ok (.iload 7, 2) := by decide +kernel
theorem eL_finds_130 : decode (zYb kL_finds) 130 = .ok (.if_icmp .ge 51, 3) := by decide +kernel
theorem eL_finds_133 : decode (zYb kL_finds) 133 = .ok (.iload 14, 2) := by decide +kernel
theorem eL_finds_135 : decode (zYb kL_finds) 135 = .ok (.ifCond .eq 37, 3) := by decide +kernel
theorem eL_finds_138 : decode (zYb kL_finds) 138 = .ok (.aload 4, 2) := by decide +kernel
theorem eL_finds_140 : decode (zYb kL_finds) 140 = .ok (.iload 11, 2) := by decide +kernel
theorem eL_finds_142 : decode (zYb kL_finds) 142 = .ok (.laload, 1) := by decide +kernel
theorem eL_finds_143 : decode (zYb kL_finds) 143 = .ok (.iload 13, 2) := by decide +kernel
theorem eL_finds_145 : decode (zYb kL_finds) 145 = .ok (.iload 15, 2) := by decide +kernel
theorem eL_finds_147 : decode (zYb kL_finds) 147 = .ok (.iadd, 1) := by decide +kernel
theorem eL_finds_148 : decode (zYb kL_finds) 148 = .ok (.iload 5, 2) := by decide +kernel
theorem eL_finds_150 : decode (zYb kL_finds) 150 = .ok (.invokestatic 40, 3) := by decide +kernel
theorem eL_finds_153 : decode (zYb kL_finds) 153 = .ok (.iload_n 2, 1) := by decide +kernel
theorem eL_finds_154 : decode (zYb kL_finds) 154 = .ok (.iconst 2, 1) := by decide +kernel
theorem eL_finds_155 : decode (zYb kL_finds) 155 = .ok (.iload 15, 2) := by decide +kernel
theorem eL_finds_157 : decode (zYb kL_finds) 157 = .ok (.imul, 1) := by decide +kernel
theorem eL_finds_158 : decode (zYb kL_finds) 158 = .ok (.iconst 2, 1) := by decide +kernel
theorem eL_finds_159 : decode (zYb kL_finds) 159 = .ok (.iadd, 1) := by decide +kernel
theorem eL_finds_160 : decode (zYb kL_finds) 160 = .ok (.ishr, 1) := by decide +kernel
theorem eL_finds_161 : decode (zYb kL_finds) 161 = .ok (.iconst 3, 1) := by decide +kernel
theorem eL_finds_162 : decode (zYb kL_finds) 162 = .ok (.invokestatic 56, 3) := by decide +kernel
theorem eL_finds_165 : decode (zYb kL_finds) 165 = .ok (.if_icmp .ne 7, 3) := by decide +kernel
theorem eL_finds_168 : decode (zYb kL_finds) 168 = .ok (.iconst 1, 1) := by decide +kernel
theorem eL_finds_169 : decode (zYb kL_finds) 169 = .ok (.goto 4, 3) := by decide +kernel
theorem eL_finds_172 : decode (zYb kL_finds) 172 = .ok (.iconst 0, 1) := by decide +kernel
theorem eL_finds_173 : decode (zYb kL_finds) 173 = .ok (.istore 14, 2) := by decide +kernel
theorem eL_finds_175 : decode (zYb kL_finds) 175 = .ok (.iinc 15 1, 3) := by decide +kernel
theorem eL_finds_178 : decode (zYb kL_finds) 178 = .ok (.goto (-52), 3) := by decide +kernel
theorem eL_finds_181 : decode (zYb kL_finds) 181 = .ok (.iload 14, 2) := by decide +kernel
theorem eL_finds_183 : decode (zYb kL_finds) 183 = .ok (.ifCond .eq 8, 3) := by decide +kernel
theorem eL_finds_186 : decode (zYb kL_finds) 186 = .ok (.iload 13, 2) := by decide +kernel
theorem eL_finds_188 : decode (zYb kL_finds) 188 = .ok (.goto 5, 3) := by decide +kernel
theorem eL_finds_191 : decode (zYb kL_finds) 191 = .ok (.iload 12, 2) := by decide +kernel
theorem eL_finds_193 : decode (zYb kL_finds) 193 = .ok (.istore 12, 2) := by decide +kernel
theorem eL_finds_195 : decode (zYb kL_finds) 195 = .ok (.iinc 13 (-1), 3) := by decide +kernel
theorem eL_finds_198 : decode (zYb kL_finds) 198 = .ok (.goto (-83), 3) := by decide +kernel
theorem eL_finds_201 : decode (zYb kL_finds) 201 = .ok (.iload 12, 2) := by decide +kernel
theorem eL_finds_203 : decode (zYb kL_finds) 203 = .ok (.ifCond .ge 6, 3) := by decide +kernel
theorem eL_finds_206 : decode (zYb kL_finds) 206 = .ok (.goto 14, 3) := by decide +kernel
theorem eL_finds_209 : decode (zYb kL_finds) 209 = .ok (.iinc 8 1, 3) := by decide +kernel
theorem eL_finds_212 : decode (zYb kL_finds) 212 = .ok (.iload 11, 2) := by decide +kernel
theorem eL_finds_214 : decode (zYb kL_finds) 214 = .ok (.istore 9, 2) := by decide +kernel
theorem eL_finds_216 : decode (zYb kL_finds) 216 = .ok (.iload 12, 2) := by decide +kernel
theorem eL_finds_218 : decode (zYb kL_finds) 218 = .ok (.istore 10, 2) := by decide +kernel
theorem eL_finds_220 : decode (zYb kL_finds) 220 = .ok (.iinc 11 (-1), 3) := by decide +kernel
theorem eL_finds_223 : decode (zYb kL_finds) 223 = .ok (.goto (-124), 3) := by decide +kernel
theorem eL_finds_226 : decode (zYb kL_finds) 226 = .ok (.aload_n 0, 1) := by decide +kernel
theorem eL_finds_227 : decode (zYb kL_finds) 227 = .ok (.iload_n 1, 1) := by decide +kernel
theorem eL_finds_228 : decode (zYb kL_finds) 228 = .ok (.iconst 0, 1) := by decide +kernel
theorem eL_finds_229 : decode (zYb kL_finds) 229 = .ok (.invokevirtual 92, 3) := by decide +kernel
theorem eL_finds_232 : decode (zYb kL_finds) 232 = .ok (.iload 8, 2) := by decide +kernel
theorem eL_finds_234 : decode (zYb kL_finds) 234 = .ok (.if_icmp .ne 50, 3) := by decide +kernel
theorem eL_finds_237 : decode (zYb kL_finds) 237 = .ok (.aload_n 0, 1) := by decide +kernel
theorem eL_finds_238 : decode (zYb kL_finds) 238 = .ok (.iload_n 1, 1) := by decide +kernel
theorem eL_finds_239 : decode (zYb kL_finds) 239 = .ok (.iconst 1, 1) := by decide +kernel
theorem eL_finds_240 : decode (zYb kL_finds) 240 = .ok (.invokevirtual 92, 3) := by decide +kernel
theorem eL_finds_243 : decode (zYb kL_finds) 243 = .ok (.iload 9, 2) := by decide +kernel
theorem eL_finds_245 : decode (zYb kL_finds) 245 = .ok (.if_icmp .ne 39, 3) := by decide +kernel
theorem eL_finds_248 : decode (zYb kL_finds) 248 = .ok (.aload_n 0, 1) := by decide +kernel
theorem eL_finds_249 : decode (zYb kL_finds) 249 = .ok (.iload_n 1, 1) := by decide +kernel
theorem eL_finds_250 : decode (zYb kL_finds) 250 = .ok (.iconst 2, 1) := by decide +kernel
theorem eL_finds_251 : decode (zYb kL_finds) 251 = .ok (.invokevirtual 92, 3) := by decide +kernel
theorem eL_finds_254 : decode (zYb kL_finds) 254 = .ok (.iload 10, 2) := by decide +kernel
theorem eL_finds_256 : decode (zYb kL_finds) 256 = .ok (.if_icmp .ne 28, 3) := by decide +kernel
theorem eL_finds_259 : decode (zYb kL_finds) 259 = .ok (.aload_n 0, 1) := by decide +kernel
theorem eL_finds_260 : decode (zYb kL_finds) 260 = .ok (.iload_n 1, 1) := by decide +kernel
theorem eL_finds_261 : decode (zYb kL_finds) 261 = .ok (.iconst 3, 1) := by decide +kernel
theorem eL_finds_262 : decode (zYb kL_finds) 262 = .ok (.invokevirtual 92, 3) := by decide +kernel
theorem eL_finds_265 : decode (zYb kL_finds) 265 = .ok (.iload 8, 2) := by decide +kernel
theorem eL_finds_267 : decode (zYb kL_finds) 267 = .ok (.iload 6, 2) := by decide +kernel
theorem eL_finds_269 : decode (zYb kL_finds) 269 = .ok (.if_icmp .ne 7, 3) := by decide +kernel
theorem eL_finds_272 : decode (zYb kL_finds) 272 = .ok (.iconst 1, 1) := by decide +kernel
theorem eL_finds_273 : decode (zYb kL_finds) 273 = .ok (.goto 4, 3) := by decide +kernel
theorem eL_finds_276 : decode (zYb kL_finds) 276 = .ok (.iconst 0, 1) := by decide +kernel
theorem eL_finds_277 : decode (zYb kL_finds) 277 = .ok (.if_icmp .ne 7, 3) := by decide +kernel
theorem eL_finds_280 : decode (zYb kL_finds) 280 = .ok (.iconst 1, 1) := by decide +kernel
theorem eL_finds_281 : decode (zYb kL_finds) 281 = .ok (.goto 4, 3) := by decide +kernel
theorem eL_finds_284 : decode (zYb kL_finds) 284 = .ok (.iconst 0, 1) := by decide +kernel
theorem eL_finds_285 : decode (zYb kL_finds) 285 = .ok (.ireturn, 1) := by decide +kernel
theorem eL_law_0 : decode (zYb kL_law) 0 = .ok (.new 27, 3) := by decide +kernel
theorem eL_law_3 : decode (zYb kL_law) 3 = .ok (.dup, 1) := by decide +kernel
theorem eL_law_4 : decode (zYb kL_law) 4 = .ok (.invokespecial 95, 3) := by decide +kernel
theorem eL_law_7 : decode (zYb kL_law) 7 = .ok (.astore_n 1, 1) := by decide +kernel
theorem eL_law_8 : decode (zYb kL_law) 8 = .ok (.bipush 60, 2) := by decide +kernel
theorem eL_law_10 : decode (zYb kL_law) 10 = .ok (.newarray .int, 2) := by decide +kernel
theorem eL_law_12 : decode (zYb kL_law) 12 = .ok (.astore_n 2, 1) := by decide +kernel
theorem eL_law_13 : decode (zYb kL_law) 13 = .ok (.bipush 20, 2) := by decide +kernel
theorem eL_law_15 : decode (zYb kL_law) 15 = .ok (.newarray .int, 2) := by decide +kernel
theorem eL_law_17 : decode (zYb kL_law) 17 = .ok (.astore_n 3, 1) := by decide +kernel
theorem eL_law_18 : decode (zYb kL_law) 18 = .ok (.bipush 64, 2) := by decide +kernel
theorem eL_law_20 : decode (zYb kL_law) 20 = .ok (.newarray .long, 2) := by decide +kernel
theorem eL_law_22 : decode (zYb kL_law) 22 = .ok (.astore 4, 2) := by decide +kernel
theorem eL_law_24 : decode (zYb kL_law) 24 = .ok (.bipush 64, 2) := by decide +kernel
theorem eL_law_26 : decode (zYb kL_law) 26 = .ok (.newarray .long, 2) := by decide +kernel
theorem eL_law_28 : decode (zYb kL_law) 28 = .ok (.astore 5, 2) := by decide +kernel
theorem eL_law_30 : decode (zYb kL_law) 30 = .ok (.iconst 0, 1) := by decide +kernel
theorem eL_law_31 : decode (zYb kL_law) 31 = .ok (.istore 6, 2) := by decide +kernel
theorem eL_law_33 : decode (zYb kL_law) 33 = .ok (.iconst 0, 1) := by decide +kernel
theorem eL_law_34 : decode (zYb kL_law) 34 = .ok (.istore 7, 2) := by decide +kernel
theorem eL_law_36 : decode (zYb kL_law) 36 = .ok (.iload 7, 2) := by decide +kernel
theorem eL_law_38 : decode (zYb kL_law) 38 = .ok (.bipush 22, 2) := by decide +kernel
theorem eL_law_40 : decode (zYb kL_law) 40 = .ok (.if_icmp .ge 1293, 3) := by decide +kernel
theorem eL_law_43 : decode (zYb kL_law) 43 = .ok (.aload_n 0, 1) := by decide +kernel
theorem eL_law_44 : decode (zYb kL_law) 44 = .ok (.iconst 2, 1) := by decide +kernel
theorem eL_law_45 : decode (zYb kL_law) 45 = .ok (.iload 7, 2) := by decide +kernel
theorem eL_law_47 : decode (zYb kL_law) 47 = .ok (.imul, 1) := by decide +kernel
theorem eL_law_48 : decode (zYb kL_law) 48 = .ok (.invokestatic 96, 3) := by decide +kernel
theorem eL_law_51 : decode (zYb kL_law) 51 = .ok (.istore 8, 2) := by decide +kernel
theorem eL_law_53 : decode (zYb kL_law) 53 = .ok (.aload_n 0, 1) := by decide +kernel
theorem eL_law_54 : decode (zYb kL_law) 54 = .ok (.iconst 2, 1) := by decide +kernel
theorem eL_law_55 : decode (zYb kL_law) 55 = .ok (.iload 7, 2) := by decide +kernel
theorem eL_law_57 : decode (zYb kL_law) 57 = .ok (.imul, 1) := by decide +kernel
theorem eL_law_58 : decode (zYb kL_law) 58 = .ok (.iconst 1, 1) := by decide +kernel
theorem eL_law_59 : decode (zYb kL_law) 59 = .ok (.iadd, 1) := by decide +kernel
theorem eL_law_60 : decode (zYb kL_law) 60 = .ok (.invokestatic 96, 3) := by decide +kernel
theorem eL_law_63 : decode (zYb kL_law) 63 = .ok (.istore 9, 2) := by decide +kernel
theorem eL_law_65 : decode (zYb kL_law) 65 = .ok (.iload 7, 2) := by decide +kernel
theorem eL_law_67 : decode (zYb kL_law) 67 = .ok (.iconst 2, 1) := by decide +kernel
theorem eL_law_68 : decode (zYb kL_law) 68 = .ok (.if_icmp .ge 7, 3) := by decide +kernel
theorem eL_law_71 : decode (zYb kL_law) 71 = .ok (.iconst 0, 1) := by decide +kernel
theorem eL_law_72 : decode (zYb kL_law) 72 = .ok (.goto 10, 3) := by decide +kernel
theorem eL_law_75 : decode (zYb kL_law) 75 = .ok (.iload 8, 2) := by decide +kernel
theorem eL_law_77 : decode (zYb kL_law) 77 = .ok (.bipush 9, 2) := by decide +kernel
theorem eL_law_79 : decode (zYb kL_law) 79 = .ok (.invokestatic 56, 3) := by decide +kernel
theorem eL_law_82 : decode (zYb kL_law) 82 = .ok (.istore 10, 2) := by decide +kernel
theorem eL_law_84 : decode (zYb kL_law) 84 = .ok (.iload 6, 2) := by decide +kernel
theorem eL_law_86 : decode (zYb kL_law) 86 = .ok (.ifCond .ne 7, 3) := by decide +kernel
theorem eL_law_89 : decode (zYb kL_law) 89 = .ok (.iconst 0, 1) := by decide +kernel
theorem eL_law_90 : decode (zYb kL_law) 90 = .ok (.goto 12, 3) := by decide +kernel
theorem eL_law_93 : decode (zYb kL_law) 93 = .ok (.iload 8, 2) := by decide +kernel
theorem eL_law_95 : decode (zYb kL_law) 95 = .ok (.iconst 4, 1) := by decide +kernel
theorem eL_law_96 : decode (zYb kL_law) 96 = .ok (.ishr, 1) := by decide +kernel
theorem eL_law_97 : decode (zYb kL_law) 97 = .ok (.iload 6, 2) := by decide +kernel
theorem eL_law_99 : decode (zYb kL_law) 99 = .ok (.invokestatic 56, 3) := by decide +kernel
theorem eL_law_102 : decode (zYb kL_law) 102 = .ok (.istore 11, 2) := by decide +kernel
theorem eL_law_104 : decode (zYb kL_law) 104 = .ok (.bipush 20, 2) := by decide +kernel
theorem eL_law_106 : decode (zYb kL_law) 106 = .ok (.iload 11, 2) := by decide +kernel
theorem eL_law_108 : decode (zYb kL_law) 108 = .ok (.imul, 1) := by decide +kernel
theorem eL_law_109 : decode (zYb kL_law) 109 = .ok (.istore 12, 2) := by decide +kernel
theorem eL_law_111 : decode (zYb kL_law) 111 = .ok (.iload 6, 2) := by decide +kernel
theorem eL_law_113 : decode (zYb kL_law) 113 = .ok (.ifCond .ne 7, 3) := by decide +kernel
theorem eL_law_116 : decode (zYb kL_law) 116 = .ok (.iconst 0, 1) := by decide +kernel
theorem eL_law_117 : decode (zYb kL_law) 117 = .ok (.goto 15, 3) := by decide +kernel
theorem eL_law_120 : decode (zYb kL_law) 120 = .ok (.iload 8, 2) := by decide +kernel
theorem eL_law_122 : decode (zYb kL_law) 122 = .ok (.bipush 6, 2) := by decide +kernel
theorem eL_law_124 : decode (zYb kL_law) 124 = .ok (.ishr, 1) := by decide +kernel
theorem eL_law_125 : decode (zYb kL_law) 125 = .ok (.aload_n 2, 1) := by decide +kernel
theorem eL_law_126 : decode (zYb kL_law) 126 = .ok (.iload 12, 2) := by decide +kernel
theorem eL_law_128 : decode (zYb kL_law) 128 = .ok (.iaload, 1) := by decide +kernel
theorem eL_law_129 : decode (zYb kL_law) 129 = .ok (.invokestatic 56, 3) := by decide +kernel
theorem eL_law_132 : decode (zYb kL_law) 132 = .ok (.istore 13, 2) := by decide +kernel
theorem eL_law_134 : decode (zYb kL_law) 134 = .ok (.iload 10, 2) := by decide +kernel
theorem eL_law_136 : decode (zYb kL_law) 136 = .ok (.iconst 2, 1) := by decide +kernel
theorem eL_law_137 : decode (zYb kL_law) 137 = .ok (.if_icmp .ge 218, 3) := by decide +kernel
theorem eL_law_140 : decode (zYb kL_law) 140 = .ok (.iload 6, 2) := by decide +kernel
theorem eL_law_142 : decode (zYb kL_law) 142 = .ok (.iconst 3, 1) := by decide +kernel
theorem eL_law_143 : decode (zYb kL_law) 143 = .ok (.if_icmp .ge 212, 3) := by decide +kernel
theorem eL_law_146 : decode (zYb kL_law) 146 = .ok (.aload_n 1, 1) := by decide +kernel
theorem eL_law_147 : decode (zYb kL_law) 147 = .ok (.invokevirtual 84, 3) := by decide +kernel
theorem eL_law_150 : decode (zYb kL_law) 150 = .ok (.pop, 1) := by decide +kernel
theorem eL_law_151 : decode (zYb kL_law) 151 = .ok (.iconst 1, 1) := by decide +kernel
theorem eL_law_152 : decode (zYb kL_law) 152 = .ok (.iload 9, 2) := by decide +kernel
theorem eL_law_154 : decode (zYb kL_law) 154 = .ok (.iconst 3, 1) := by decide +kernel
theorem eL_law_155 : decode (zYb kL_law) 155 = .ok (.invokestatic 56, 3) := by decide +kernel
theorem eL_law_158 : decode (zYb kL_law) 158 = .ok (.iadd, 1) := by decide +kernel
theorem eL_law_159 : decode (zYb kL_law) 159 = .ok (.istore 14, 2) := by decide +kernel
theorem eL_law_161 : decode (zYb kL_law) 161 = .ok (.bipush 20, 2) := by decide +kernel
theorem eL_law_163 : decode (zYb kL_law) 163 = .ok (.iload 6, 2) := by decide +kernel
theorem eL_law_165 : decode (zYb kL_law) 165 = .ok (.iinc 6 1, 3) := by decide +kernel
theorem eL_law_168 : decode (zYb kL_law) 168 = .ok (.imul, 1) := by decide +kernel
theorem eL_law_169 : decode (zYb kL_law) 169 = .ok (.istore 15, 2) := by decide +kernel
theorem eL_law_171 : decode (zYb kL_law) 171 = .ok (.aload_n 2, 1) := by decide +kernel
theorem eL_law_172 : decode (zYb kL_law) 172 = .ok (.iload 15, 2) := by decide +kernel
theorem eL_law_174 : decode (zYb kL_law) 174 = .ok (.iload 14, 2) := by decide +kernel
theorem eL_law_176 : decode (zYb kL_law) 176 = .ok (.iastore, 1) := by decide +kernel
theorem eL_law_177 : decode (zYb kL_law) 177 = .ok (.aload_n 2, 1) := by decide +kernel
theorem eL_law_178 : decode (zYb kL_law) 178 = .ok (.iload 15, 2) := by decide +kernel
theorem eL_law_180 : decode (zYb kL_law) 180 = .ok (.iconst 1, 1) := by decide +kernel
theorem eL_law_181 : decode (zYb kL_law) 181 = .ok (.iadd, 1) := by decide +kernel
theorem eL_law_182 : decode (zYb kL_law) 182 = .ok (.iconst 0, 1) := by decide +kernel
theorem eL_law_183 : decode (zYb kL_law) 183 = .ok (.iastore, 1) := by decide +kernel
theorem eL_law_184 : decode (zYb kL_law) 184 = .ok (.iconst 0, 1) := by decide +kernel
theorem eL_law_185 : decode (zYb kL_law) 185 = .ok (.istore 16, 2) := by decide +kernel
theorem eL_law_187 : decode (zYb kL_law) 187 = .ok (.iload 16, 2) := by decide +kernel
theorem eL_law_189 : decode (zYb kL_law) 189 = .ok (.iload 14, 2) := by decide +kernel
theorem eL_law_191 : decode (zYb kL_law) 191 = .ok (.if_icmp .ge 141, 3) := by decide +kernel
theorem eL_law_194 : decode (zYb kL_law) 194 = .ok (.iconst 1, 1) := by decide +kernel
theorem eL_law_195 : decode (zYb kL_law) 195 = .ok (.iload 9, 2) := by decide +kernel
theorem eL_law_197 : decode (zYb kL_law) 197 = .ok (.iconst 2, 1) := by decide +kernel
theorem eL_law_198 : decode (zYb kL_law) 198 = .ok (.iload 16, 2) := by decide +kernel
theorem eL_law_200 : decode (zYb kL_law) 200 = .ok (.imul, 1) := by decide +kernel
theorem eL_law_201 : decode (zYb kL_law) 201 = .ok (.iconst 2, 1) := by decide +kernel
theorem eL_law_202 : decode (zYb kL_law) 202 = .ok (.iadd, 1) := by decide +kernel
theorem eL_law_203 : decode (zYb kL_law) 203 = .ok (.ishr, 1) := by decide +kernel
theorem eL_law_204 : decode (zYb kL_law) 204 = .ok (.iconst 3, 1) := by decide +kernel
theorem eL_law_205 : decode (zYb kL_law) 205 = .ok (.invokestatic 56, 3) := by decide +kernel
theorem eL_law_208 : decode (zYb kL_law) 208 = .ok (.iadd, 1) := by decide +kernel
theorem eL_law_209 : decode (zYb kL_law) 209 = .ok (.istore 17, 2) := by decide +kernel
theorem eL_law_211 : decode (zYb kL_law) 211 = .ok (.aload_n 2, 1) := by decide +kernel
theorem eL_law_212 : decode (zYb kL_law) 212 = .ok (.iload 15, 2) := by decide +kernel
theorem eL_law_214 : decode (zYb kL_law) 214 = .ok (.iconst 2, 1) := by decide +kernel
theorem eL_law_215 : decode (zYb kL_law) 215 = .ok (.iadd, 1) := by decide +kernel
theorem eL_law_216 : decode (zYb kL_law) 216 = .ok (.iload 16, 2) := by decide +kernel
theorem eL_law_218 : decode (zYb kL_law) 218 = .ok (.iadd, 1) := by decide +kernel
theorem eL_law_219 : decode (zYb kL_law) 219 = .ok (.aload_n 2, 1) := by decide +kernel
theorem eL_law_220 : decode (zYb kL_law) 220 = .ok (.iload 15, 2) := by decide +kernel
theorem eL_law_222 : decode (zYb kL_law) 222 = .ok (.iconst 1, 1) := by decide +kernel
theorem eL_law_223 : decode (zYb kL_law) 223 = .ok (.iadd, 1) := by decide +kernel
theorem eL_law_224 : decode (zYb kL_law) 224 = .ok (.iload 16, 2) := by decide +kernel
theorem eL_law_226 : decode (zYb kL_law) 226 = .ok (.iadd, 1) := by decide +kernel
theorem eL_law_227 : decode (zYb kL_law) 227 = .ok (.iaload, 1) := by decide +kernel
theorem eL_law_228 : decode (zYb kL_law) 228 = .ok (.iload 17, 2) := by decide +kernel
theorem eL_law_230 : decode (zYb kL_law) 230 = .ok (.iadd, 1) := by decide +kernel
theorem eL_law_231 : decode (zYb kL_law) 231 = .ok (.iastore, 1) := by decide +kernel
theorem eL_law_232 : decode (zYb kL_law) 232 = .ok (.iload 16, 2) := by decide +kernel
theorem eL_law_234 : decode (zYb kL_law) 234 = .ok (.ifCond .le 16, 3) := by decide +kernel
theorem eL_law_237 : decode (zYb kL_law) 237 = .ok (.aload_n 1, 1) := by decide +kernel
theorem eL_law_238 : decode (zYb kL_law) 238 = .ok (.ldc2_w 100, 3) := by decide +kernel
theorem eL_law_241 : decode (zYb kL_law) 241 = .ok (.invokevirtual 88, 3) := by decide +kernel
theorem eL_law_244 : decode (zYb kL_law) 244 = .ok (.iconst 1, 1) := by decide +kernel
theorem eL_law_245 : decode (zYb kL_law) 245 = .ok (.if_icmp .ge 5, 3) := by decide +kernel
theorem eL_law_248 : decode (zYb kL_law) 248 = .ok (.iconst 0, 1) := by decide +kernel
theorem eL_law_249 : decode (zYb kL_law) 249 = .ok (.ireturn, 1) := by decide +kernel
theorem eL_law_250 : decode (zYb kL_law) 250 = .ok (.aload_n 2, 1) := by decide +kernel
theorem eL_law_251 : decode (zYb kL_law) 251 = .ok (.iload 15, 2) := by decide +kernel
theorem eL_law_253 : decode (zYb kL_law) 253 = .ok (.iconst 1, 1) := by decide +kernel
theorem eL_law_254 : decode (zYb kL_law) 254 = .ok (.iadd, 1) := by decide +kernel
theorem eL_law_255 : decode (zYb kL_law) 255 = .ok (.iload 16, 2) := by decide +kernel
theorem eL_law_257 : decode (zYb kL_law) 257 = .ok (.iadd, 1) := by decide +kernel
theorem eL_law_258 : decode (zYb kL_law) 258 = .ok (.iaload, 1) := by decide +kernel
theorem eL_law_259 : decode (zYb kL_law) 259 = .ok (.istore 18, 2) := by decide +kernel
theorem eL_law_261 : decode (zYb kL_law) 261 = .ok (.iload 18, 2) := by decide +kernel
theorem eL_law_263 : decode (zYb kL_law) 263 = .ok (.aload_n 2, 1) := by decide +kernel
theorem eL_law_264 : decode (zYb kL_law) 264 = .ok (.iload 15, 2) := by decide +kernel
theorem eL_law_266 : decode (zYb kL_law) 266 = .ok (.iconst 2, 1) := by decide +kernel
theorem eL_law_267 : decode (zYb kL_law) 267 = .ok (.iadd, 1) := by decide +kernel
theorem eL_law_268 : decode (zYb kL_law) 268 = .ok (.iload 16, 2) := by decide +kernel
theorem eL_law_270 : decode (zYb kL_law) 270 = .ok (.iadd, 1) := by decide +kernel
theorem eL_law_271 : decode (zYb kL_law) 271 = .ok (.iaload, 1) := by decide +kernel
theorem eL_law_272 : decode (zYb kL_law) 272 = .ok (.if_icmp .ge 54, 3) := by decide +kernel
theorem eL_law_275 : decode (zYb kL_law) 275 = .ok (.aload_n 2, 1) := by decide +kernel
theorem eL_law_276 : decode (zYb kL_law) 276 = .ok (.iload 15, 2) := by decide +kernel
theorem eL_law_278 : decode (zYb kL_law) 278 = .ok (.bipush 8, 2) := by decide +kernel
theorem eL_law_280 : decode (zYb kL_law) 280 = .ok (.iadd, 1) := by decide +kernel
theorem eL_law_281 : decode (zYb kL_law) 281 = .ok (.iload 18, 2) := by decide +kernel
theorem eL_law_283 : decode (zYb kL_law) 283 = .ok (.iadd, 1) := by decide +kernel
theorem eL_law_284 : decode (zYb kL_law) 284 = .ok (.iload 8, 2) := by decide +kernel
theorem eL_law_286 : decode (zYb kL_law) 286 = .ok (.iload 18, 2) := by decide +kernel
theorem eL_law_288 : decode (zYb kL_law) 288 = .ok (.iconst 3, 1) := by decide +kernel
theorem eL_law_289 : decode (zYb kL_law) 289 = .ok (.iadd, 1) := by decide +kernel
theorem eL_law_290 : decode (zYb kL_law) 290 = .ok (.ishr, 1) := by decide +kernel
theorem eL_law_291 : decode (zYb kL_law) 291 = .ok (.iconst 3, 1) := by decide +kernel
theorem eL_law_292 : decode (zYb kL_law) 292 = .ok (.invokestatic 56, 3) := by decide +kernel
theorem eL_law_295 : decode (zYb kL_law) 295 = .ok (.iastore, 1) := by decide +kernel
theorem eL_law_296 : decode (zYb kL_law) 296 = .ok (.aload_n 1, 1) := by decide +kernel
theorem eL_law_297 : decode (zYb kL_law) 297 = .ok (.bipush 97, 2) := by decide +kernel
theorem eL_law_299 : decode (zYb kL_law) 299 = .ok (.aload_n 2, 1) := by decide +kernel
theorem eL_law_300 : decode (zYb kL_law) 300 = .ok (.iload 15, 2) := by decide +kernel
theorem eL_law_302 : decode (zYb kL_law) 302 = .ok (.bipush 8, 2) := by decide +kernel
theorem eL_law_304 : decode (zYb kL_law) 304 = .ok (.iadd, 1) := by decide +kernel
theorem eL_law_305 : decode (zYb kL_law) 305 = .ok (.iload 18, 2) := by decide +kernel
theorem eL_law_307 : decode (zYb kL_law) 307 = .ok (.iadd, 1) := by decide +kernel
theorem eL_law_308 : decode (zYb kL_law) 308 = .ok (.iaload, 1) := by decide +kernel
theorem eL_law_309 : decode (zYb kL_law) 309 = .ok (.iadd, 1) := by decide +kernel
theorem eL_law_310 : decode (zYb kL_law) 310 = .ok (.i2l, 1) := by decide +kernel
theorem eL_law_311 : decode (zYb kL_law) 311 = .ok (.invokevirtual 88, 3) := by decide +kernel
theorem eL_law_314 : decode (zYb kL_law) 314 = .ok (.iconst 1, 1) := by decide +kernel
theorem eL_law_315 : decode (zYb kL_law) 315 = .ok (.if_icmp .ge 5, 3) := by decide +kernel
theorem eL_law_318 : decode (zYb kL_law) 318 = .ok (.iconst 0, 1) := by decide +kernel
theorem eL_law_319 : decode (zYb kL_law) 319 = .ok (.ireturn, 1) := by decide +kernel
theorem eL_law_320 : decode (zYb kL_law) 320 = .ok (.iinc 18 1, 3) := by decide +kernel
theorem eL_law_323 : decode (zYb kL_law) 323 = .ok (.goto (-62), 3) := by decide +kernel
theorem eL_law_326 : decode (zYb kL_law) 326 = .ok (.iinc 16 1, 3) := by decide +kernel
theorem eL_law_329 : decode (zYb kL_law) 329 = .ok (.goto (-142), 3) := by decide +kernel
theorem eL_law_332 : decode (zYb kL_law) 332 = .ok (.aload_n 1, 1) := by decide +kernel
theorem eL_law_333 : decode (zYb kL_law) 333 = .ok (.invokevirtual 102, 3) := by decide +kernel
theorem eL_law_336 : decode (zYb kL_law) 336 = .ok (.bipush (-6), 2) := by decide +kernel
theorem eL_law_338 : decode (zYb kL_law) 338 = .ok (.if_icmp .ne 12, 3) := by decide +kernel
theorem eL_law_341 : decode (zYb kL_law) 341 = .ok (.aload_n 1, 1) := by decide +kernel
theorem eL_law_342 : decode (zYb kL_law) 342 = .ok (.invokevirtual 105, 3) := by decide +kernel
theorem eL_law_345 : decode (zYb kL_law) 345 = .ok (.iload 6, 2) := by decide +kernel
theorem eL_law_347 : decode (zYb kL_law) 347 = .ok (.if_icmp .eq 5, 3) := by decide +kernel
theorem eL_law_350 : decode (zYb kL_law) 350 = .ok (.iconst 0, 1) := by decide +kernel
theorem eL_law_351 : decode (zYb kL_law) 351 = .ok (.ireturn, 1) := by decide +kernel
theorem eL_law_352 : decode (zYb kL_law) 352 = .ok (.goto 905, 3) := by decide +kernel
theorem eL_law_355 : decode (zYb kL_law) 355 = .ok (.iload 6, 2) := by decide +kernel
theorem eL_law_357 : decode (zYb kL_law) 357 = .ok (.ifCond .ne 6, 3) := by decide +kernel
theorem eL_law_360 : decode (zYb kL_law) 360 = .ok (.goto 967, 3) := by decide +kernel
theorem eL_law_363 : decode (zYb kL_law) 363 = .ok (.iload 10, 2) := by decide +kernel
theorem eL_law_365 : decode (zYb kL_law) 365 = .ok (.iconst 4, 1) := by decide +kernel
theorem eL_law_366 : decode (zYb kL_law) 366 = .ok (.if_icmp .ge 110, 3) := by decide +kernel
theorem eL_law_369 : decode (zYb kL_law) 369 = .ok (.iload 12, 2) := by decide +kernel
theorem eL_law_371 : decode (zYb kL_law) 371 = .ok (.iload 13, 2) := by decide +kernel
theorem eL_law_373 : decode (zYb kL_law) 373 = .ok (.aload_n 2, 1) := by decide +kernel
theorem eL_law_374 : decode (zYb kL_law) 374 = .ok (.invokestatic 10, 3) := by decide +kernel
theorem eL_law_377 : decode (zYb kL_law) 377 = .ok (.istore 14, 2) := by decide +kernel
theorem eL_law_379 : decode (zYb kL_law) 379 = .ok (.iload 14, 2) := by decide +kernel
theorem eL_law_381 : decode (zYb kL_law) 381 = .ok (.iconst 1, 1) := by decide +kernel
theorem eL_law_382 : decode (zYb kL_law) 382 = .ok (.if_icmp .ne 19, 3) := by decide +kernel
theorem eL_law_385 : decode (zYb kL_law) 385 = .ok (.aload_n 1, 1) := by decide +kernel
theorem eL_law_386 : decode (zYb kL_law) 386 = .ok (.iload 11, 2) := by decide +kernel
theorem eL_law_388 : decode (zYb kL_law) 388 = .ok (.iload 13, 2) := by decide +kernel
theorem eL_law_390 : decode (zYb kL_law) 390 = .ok (.iconst 1, 1) := by decide +kernel
theorem eL_law_391 : decode (zYb kL_law) 391 = .ok (.invokevirtual 108, 3) := by decide +kernel
theorem eL_law_394 : decode (zYb kL_law) 394 = .ok (.bipush (-2), 2) := by decide +kernel
theorem eL_law_396 : decode (zYb kL_law) 396 = .ok (.if_icmp .eq 931, 3) := by decide +kernel
theorem eL_law_399 : decode (zYb kL_law) 399 = .ok (.iconst 0, 1) := by decide +kernel
theorem eL_law_400 : decode (zYb kL_law) 400 = .ok (.ireturn, 1) := by decide +kernel
theorem eL_law_401 : decode (zYb kL_law) 401 = .ok (.iconst 1, 1) := by decide +kernel
theorem eL_law_402 : decode (zYb kL_law) 402 = .ok (.iload 9, 2) := by decide +kernel
theorem eL_law_404 : decode (zYb kL_law) 404 = .ok (.iload 14, 2) := by decide +kernel
theorem eL_law_406 : decode (zYb kL_law) 406 = .ok (.iconst 1, 1) := by decide +kernel
theorem eL_law_407 : decode (zYb kL_law) 407 = .ok (.isub, 1) := by decide +kernel
theorem eL_law_408 : decode (zYb kL_law) 408 = .ok (.invokestatic 56, 3) := by decide +kernel
theorem eL_law_411 : decode (zYb kL_law) 411 = .ok (.iadd, 1) := by decide +kernel
theorem eL_law_412 : decode (zYb kL_law) 412 = .ok (.istore 15, 2) := by decide +kernel
theorem eL_law_414 : decode (zYb kL_law) 414 = .ok (.aload_n 2, 1) := by decide +kernel
theorem eL_law_415 : decode (zYb kL_law) 415 = .ok (.iload 12, 2) := by decide +kernel
theorem eL_law_417 : decode (zYb kL_law) 417 = .ok (.iaload, 1) := by decide +kernel
theorem eL_law_418 : decode (zYb kL_law) 418 = .ok (.iconst 5, 1) := by decide +kernel
theorem eL_law_419 : decode (zYb kL_law) 419 = .ok (.if_icmp .ge 7, 3) := by decide +kernel
theorem eL_law_422 : decode (zYb kL_law) 422 = .ok (.iconst 1, 1) := by decide +kernel
theorem eL_law_423 : decode (zYb kL_law) 423 = .ok (.goto 4, 3) := by decide +kernel
theorem eL_law_426 : decode (zYb kL_law) 426 = .ok (.iconst 0, 1) := by decide +kernel
theorem eL_law_427 : decode (zYb kL_law) 427 = .ok (.istore 16, 2) := by decide +kernel
theorem eL_law_429 : decode (zYb kL_law) 429 = .ok (.iload 16, 2) := by decide +kernel
theorem eL_law_431 : decode (zYb kL_law) 431 = .ok (.ifCond .eq 13, 3) := by decide +kernel
theorem eL_law_434 : decode (zYb kL_law) 434 = .ok (.iload 12, 2) := by decide +kernel
theorem eL_law_436 : decode (zYb kL_law) 436 = .ok (.iload 13, 2) := by decide +kernel
theorem eL_law_438 : decode (zYb kL_law) 438 = .ok (.iload 15, 2) := by decide +kernel
theorem eL_law_440 : decode (zYb kL_law) 440 = .ok (.aload_n 2, 1) := by decide +kernel
theorem eL_law_441 : decode (zYb kL_law) 441 = .ok (.invokestatic 74, 3) := by decide +kernel
theorem eL_law_444 : decode (zYb kL_law) 444 = .ok (.aload_n 1, 1) := by decide +kernel
theorem eL_law_445 : decode (zYb kL_law) 445 = .ok (.iload 11, 2) := by decide +kernel
theorem eL_law_447 : decode (zYb kL_law) 447 = .ok (.iload 13, 2) := by decide +kernel
theorem eL_law_449 : decode (zYb kL_law) 449 = .ok (.iload 15, 2) := by decide +kernel
theorem eL_law_451 : decode (zYb kL_law) 451 = .ok (.invokevirtual 108, 3) := by decide +kernel
theorem eL_law_454 : decode (zYb kL_law) 454 = .ok (.iload 16, 2) := by decide +kernel
theorem eL_law_456 : decode (zYb kL_law) 456 = .ok (.ifCond .eq 10, 3) := by decide +kernel
theorem eL_law_459 : decode (zYb kL_law) 459 = .ok (.aload_n 2, 1) := by decide +kernel
theorem eL_law_460 : decode (zYb kL_law) 460 = .ok (.iload 12, 2) := by decide +kernel
theorem eL_law_462 : decode (zYb kL_law) 462 = .ok (.iaload, 1) := by decide +kernel
theorem eL_law_463 : decode (zYb kL_law) 463 = .ok (.goto 5, 3) := by decide +kernel
theorem eL_law_466 : decode (zYb kL_law) 466 = .ok (.bipush (-4), 2) := by decide +kernel
theorem eL_law_468 : decode (zYb kL_law) 468 = .ok (.if_icmp .eq 5, 3) := by decide +kernel
theorem eL_law_471 : decode (zYb kL_law) 471 = .ok (.iconst 0, 1) := by decide +kernel
theorem eL_law_472 : decode (zYb kL_law) 472 = .ok (.ireturn, 1) := by decide +kernel
theorem eL_law_473 : decode (zYb kL_law) 473 = .ok (.goto 784, 3) := by decide +kernel
theorem eL_law_476 : decode (zYb kL_law) 476 = .ok (.iload 10, 2) := by decide +kernel
theorem eL_law_478 : decode (zYb kL_law) 478 = .ok (.iconst 4, 1) := by decide +kernel
theorem eL_law_479 : decode (zYb kL_law) 479 = .ok (.if_icmp .ne 63, 3) := by decide +kernel
theorem eL_law_482 : decode (zYb kL_law) 482 = .ok (.iload 13, 2) := by decide +kernel
theorem eL_law_484 : decode (zYb kL_law) 484 = .ok (.iconst 1, 1) := by decide +kernel
theorem eL_law_485 : decode (zYb kL_law) 485 = .ok (.iadd, 1) := by decide +kernel
theorem eL_law_486 : decode (zYb kL_law) 486 = .ok (.aload_n 2, 1) := by decide +kernel
theorem eL_law_487 : decode (zYb kL_law) 487 = .ok (.iload 12, 2) := by decide +kernel
theorem eL_law_489 : decode (zYb kL_law) 489 = .ok (.iaload, 1) := by decide +kernel
theorem eL_law_490 : decode (zYb kL_law) 490 = .ok (.if_icmp .ge 7, 3) := by decide +kernel
theorem eL_law_493 : decode (zYb kL_law) 493 = .ok (.iconst 1, 1) := by decide +kernel
theorem eL_law_494 : decode (zYb kL_law) 494 = .ok (.goto 4, 3) := by decide +kernel
theorem eL_law_497 : decode (zYb kL_law) 497 = .ok (.iconst 0, 1) := by decide +kernel
theorem eL_law_498 : decode (zYb kL_law) 498 = .ok (.istore 14, 2) := by decide +kernel
theorem eL_law_500 : decode (zYb kL_law) 500 = .ok (.iload 14, 2) := by decide +kernel
theorem eL_law_502 : decode (zYb kL_law) 502 = .ok (.ifCond .eq 11, 3) := by decide +kernel
theorem eL_law_505 : decode (zYb kL_law) 505 = .ok (.iload 12, 2) := by decide +kernel
theorem eL_law_507 : decode (zYb kL_law) 507 = .ok (.iload 13, 2) := by decide +kernel
theorem eL_law_509 : decode (zYb kL_law) 509 = .ok (.aload_n 2, 1) := by decide +kernel
theorem eL_law_510 : decode (zYb kL_law) 510 = .ok (.invokestatic 48, 3) := by decide +kernel
theorem eL_law_513 : decode (zYb kL_law) 513 = .ok (.aload_n 1, 1) := by decide +kernel
theorem eL_law_514 : decode (zYb kL_law) 514 = .ok (.iload 11, 2) := by decide +kernel
theorem eL_law_516 : decode (zYb kL_law) 516 = .ok (.iload 13, 2) := by decide +kernel
theorem eL_law_518 : decode (zYb kL_law) 518 = .ok (.invokevirtual 111, 3) := by decide +kernel
theorem eL_law_521 : decode (zYb kL_law) 521 = .ok (.iload 14, 2) := by decide +kernel
theorem eL_law_523 : decode (zYb kL_law) 523 = .ok (.ifCond .eq 10, 3) := by decide +kernel
theorem eL_law_526 : decode (zYb kL_law) 526 = .ok (.aload_n 2, 1) := by decide +kernel
theorem eL_law_527 : decode (zYb kL_law) 527 = .ok (.iload 12, 2) := by decide +kernel
theorem eL_law_529 : decode (zYb kL_law) 529 = .ok (.iaload, 1) := by decide +kernel
theorem eL_law_530 : decode (zYb kL_law) 530 = .ok (.goto 4, 3) := by decide +kernel
theorem eL_law_533 : decode (zYb kL_law) 533 = .ok (.iconst (-1), 1) := by decide +kernel
theorem eL_law_534 : decode (zYb kL_law) 534 = .ok (.if_icmp .eq 5, 3) := by decide +kernel
theorem eL_law_537 : decode (zYb kL_law) 537 = .ok (.iconst 0, 1) := by decide +kernel
theorem eL_law_538 : decode (zYb kL_law) 538 = .ok (.ireturn, 1) := by decide +kernel
theorem eL_law_539 : decode (zYb kL_law) 539 = .ok (.goto 718, 3) := by decide +kernel
theorem eL_law_542 : decode (zYb kL_law) 542 = .ok (.iload 10, 2) := by decide +kernel
theorem eL_law_544 : decode (zYb kL_law) 544 = .ok (.iconst 5, 1) := by decide +kernel
theorem eL_law_545 : decode (zYb kL_law) 545 = .ok (.if_icmp .ne 143, 3) := by decide +kernel
theorem eL_law_548 : decode (zYb kL_law) 548 = .ok (.iload 12, 2) := by decide +kernel
theorem eL_law_550 : decode (zYb kL_law) 550 = .ok (.iload 13, 2) := by decide +kernel
theorem eL_law_552 : decode (zYb kL_law) 552 = .ok (.aload_n 2, 1) := by decide +kernel
theorem eL_law_553 : decode (zYb kL_law) 553 = .ok (.invokestatic 10, 3) := by decide +kernel
theorem eL_law_556 : decode (zYb kL_law) 556 = .ok (.istore 14, 2) := by decide +kernel
theorem eL_law_558 : decode (zYb kL_law) 558 = .ok (.iconst 0, 1) := by decide +kernel
theorem eL_law_559 : decode (zYb kL_law) 559 = .ok (.istore 15, 2) := by decide +kernel
theorem eL_law_561 : decode (zYb kL_law) 561 = .ok (.iload 12, 2) := by decide +kernel
theorem eL_law_563 : decode (zYb kL_law) 563 = .ok (.aload_n 2, 1) := by decide +kernel
theorem eL_law_564 : decode (zYb kL_law) 564 = .ok (.iconst 0, 1) := by decide +kernel
theorem eL_law_565 : decode (zYb kL_law) 565 = .ok (.aload_n 3, 1) := by decide +kernel
theorem eL_law_566 : decode (zYb kL_law) 566 = .ok (.invokestatic 44, 3) := by decide +kernel
theorem eL_law_569 : decode (zYb kL_law) 569 = .ok (.iconst 0, 1) := by decide +kernel
theorem eL_law_570 : decode (zYb kL_law) 570 = .ok (.istore 16, 2) := by decide +kernel
theorem eL_law_572 : decode (zYb kL_law) 572 = .ok (.iload 16, 2) := by decide +kernel
theorem eL_law_574 : decode (zYb kL_law) 574 = .ok (.iload 14, 2) := by decide +kernel
theorem eL_law_576 : decode (zYb kL_law) 576 = .ok (.if_icmp .ge 94, 3) := by decide +kernel
theorem eL_law_579 : decode (zYb kL_law) 579 = .ok (.aload_n 2, 1) := by decide +kernel
theorem eL_law_580 : decode (zYb kL_law) 580 = .ok (.iload 12, 2) := by decide +kernel
theorem eL_law_582 : decode (zYb kL_law) 582 = .ok (.bipush 8, 2) := by decide +kernel
theorem eL_law_584 : decode (zYb kL_law) 584 = .ok (.iadd, 1) := by decide +kernel
theorem eL_law_585 : decode (zYb kL_law) 585 = .ok (.aload_n 2, 1) := by decide +kernel
theorem eL_law_586 : decode (zYb kL_law) 586 = .ok (.iload 12, 2) := by decide +kernel
theorem eL_law_588 : decode (zYb kL_law) 588 = .ok (.iconst 1, 1) := by decide +kernel
theorem eL_law_589 : decode (zYb kL_law) 589 = .ok (.iadd, 1) := by decide +kernel
theorem eL_law_590 : decode (zYb kL_law) 590 = .ok (.iload 13, 2) := by decide +kernel
theorem eL_law_592 : decode (zYb kL_law) 592 = .ok (.iadd, 1) := by decide +kernel
theorem eL_law_593 : decode (zYb kL_law) 593 = .ok (.iaload, 1) := by decide +kernel
theorem eL_law_594 : decode (zYb kL_law) 594 = .ok (.iadd, 1) := by decide +kernel
theorem eL_law_595 : decode (zYb kL_law) 595 = .ok (.iload 16, 2) := by decide +kernel
theorem eL_law_597 : decode (zYb kL_law) 597 = .ok (.iadd, 1) := by decide +kernel
theorem eL_law_598 : decode (zYb kL_law) 598 = .ok (.aload_n 3, 1) := by decide +kernel
theorem eL_law_599 : decode (zYb kL_law) 599 = .ok (.bipush 8, 2) := by decide +kernel
theorem eL_law_601 : decode (zYb kL_law) 601 = .ok (.aload_n 3, 1) := by decide +kernel
theorem eL_law_602 : decode (zYb kL_law) 602 = .ok (.iconst 1, 1) := by decide +kernel
theorem eL_law_603 : decode (zYb kL_law) 603 = .ok (.iload 13, 2) := by decide +kernel
theorem eL_law_605 : decode (zYb kL_law) 605 = .ok (.iadd, 1) := by decide +kernel
theorem eL_law_606 : decode (zYb kL_law) 606 = .ok (.iaload, 1) := by decide +kernel
theorem eL_law_607 : decode (zYb kL_law) 607 = .ok (.iadd, 1) := by decide +kernel
theorem eL_law_608 : decode (zYb kL_law) 608 = .ok (.iload 14, 2) := by decide +kernel
theorem eL_law_610 : decode (zYb kL_law) 610 = .ok (.iadd, 1) := by decide +kernel
theorem eL_law_611 : decode (zYb kL_law) 611 = .ok (.iconst 1, 1) := by decide +kernel
theorem eL_law_612 : decode (zYb kL_law) 612 = .ok (.isub, 1) := by decide +kernel
theorem eL_law_613 : decode (zYb kL_law) 613 = .ok (.iload 16, 2) := by decide +kernel
theorem eL_law_615 : decode (zYb kL_law) 615 = .ok (.isub, 1) := by decide +kernel
theorem eL_law_616 : decode (zYb kL_law) 616 = .ok (.iaload, 1) := by decide +kernel
theorem eL_law_617 : decode (zYb kL_law) 617 = .ok (.iastore, 1) := by decide +kernel
theorem eL_law_618 : decode (zYb kL_law) 618 = .ok (.iload 15, 2) := by decide +kernel
theorem eL_law_620 : decode (zYb kL_law) 620 = .ok (.aload_n 3, 1) := by decide +kernel
theorem eL_law_621 : decode (zYb kL_law) 621 = .ok (.bipush 8, 2) := by decide +kernel
theorem eL_law_623 : decode (zYb kL_law) 623 = .ok (.aload_n 3, 1) := by decide +kernel
theorem eL_law_624 : decode (zYb kL_law) 624 = .ok (.iconst 1, 1) := by decide +kernel
theorem eL_law_625 : decode (zYb kL_law) 625 = .ok (.iload 13, 2) := by decide +kernel
theorem eL_law_627 : decode (zYb kL_law) 627 = .ok (.iadd, 1) := by decide +kernel
theorem eL_law_628 : decode (zYb kL_law) 628 = .ok (.iaload, 1) := by decide +kernel
theorem eL_law_629 : decode (zYb kL_law) 629 = .ok (.iadd, 1) := by decide +kernel
theorem eL_law_630 : decode (zYb kL_law) 630 = .ok (.iload 14, 2) := by decide +kernel
theorem eL_law_632 : decode (zYb kL_law) 632 = .ok (.iadd, 1) := by decide +kernel
theorem eL_law_633 : decode (zYb kL_law) 633 = .ok (.iconst 1, 1) := by decide +kernel
theorem eL_law_634 : decode (zYb kL_law) 634 = .ok (.isub, 1) := by decide +kernel
theorem eL_law_635 : decode (zYb kL_law) 635 = .ok (.iload 16, 2) := by decide +kernel
theorem eL_law_637 : decode (zYb kL_law) 637 = .ok (.isub, 1) := by decide +kernel
theorem eL_law_638 : decode (zYb kL_law) 638 = .ok (.iaload, 1) := by decide +kernel
theorem eL_law_639 : decode (zYb kL_law) 639 = .ok (.aload_n 3, 1) := by decide +kernel
theorem eL_law_640 : decode (zYb kL_law) 640 = .ok (.bipush 8, 2) := by decide +kernel
theorem eL_law_642 : decode (zYb kL_law) 642 = .ok (.aload_n 3, 1) := by decide +kernel
theorem eL_law_643 : decode (zYb kL_law) 643 = .ok (.iconst 1, 1) := by decide +kernel
theorem eL_law_644 : decode (zYb kL_law) 644 = .ok (.iload 13, 2) := by decide +kernel
theorem eL_law_646 : decode (zYb kL_law) 646 = .ok (.iadd, 1) := by decide +kernel
theorem eL_law_647 : decode (zYb kL_law) 647 = .ok (.iaload, 1) := by decide +kernel
theorem eL_law_648 : decode (zYb kL_law) 648 = .ok (.iadd, 1) := by decide +kernel
theorem eL_law_649 : decode (zYb kL_law) 649 = .ok (.iload 16, 2) := by decide +kernel
theorem eL_law_651 : decode (zYb kL_law) 651 = .ok (.iadd, 1) := by decide +kernel
theorem eL_law_652 : decode (zYb kL_law) 652 = .ok (.iaload, 1) := by decide +kernel
theorem eL_law_653 : decode (zYb kL_law) 653 = .ok (.if_icmp .ne 7, 3) := by decide +kernel
theorem eL_law_656 : decode (zYb kL_law) 656 = .ok (.iconst 0, 1) := by decide +kernel
theorem eL_law_657 : decode (zYb kL_law) 657 = .ok (.goto 4, 3) := by decide +kernel
theorem eL_law_660 : decode (zYb kL_law) 660 = .ok (.iconst 1, 1) := by decide +kernel
theorem eL_law_661 : decode (zYb kL_law) 661 = .ok (.iadd, 1) := by decide +kernel
theorem eL_law_662 : decode (zYb kL_law) 662 = .ok (.istore 15, 2) := by decide +kernel
theorem eL_law_664 : decode (zYb kL_law) 664 = .ok (.iinc 16 1, 3) := by decide +kernel
theorem eL_law_667 : decode (zYb kL_law) 667 = .ok (.goto (-95), 3) := by decide +kernel
theorem eL_law_670 : decode (zYb kL_law) 670 = .ok (.aload_n 1, 1) := by decide +kernel
theorem eL_law_671 : decode (zYb kL_law) 671 = .ok (.iload 11, 2) := by decide +kernel
theorem eL_law_673 : decode (zYb kL_law) 673 = .ok (.iload 13, 2) := by decide +kernel
theorem eL_law_675 : decode (zYb kL_law) 675 = .ok (.invokevirtual 114, 3) := by decide +kernel
theorem eL_law_678 : decode (zYb kL_law) 678 = .ok (.iload 15, 2) := by decide +kernel
theorem eL_law_680 : decode (zYb kL_law) 680 = .ok (.if_icmp .eq 5, 3) := by decide +kernel
theorem eL_law_683 : decode (zYb kL_law) 683 = .ok (.iconst 0, 1) := by decide +kernel
theorem eL_law_684 : decode (zYb kL_law) 684 = .ok (.ireturn, 1) := by decide +kernel
theorem eL_law_685 : decode (zYb kL_law) 685 = .ok (.goto 572, 3) := by decide +kernel
theorem eL_law_688 : decode (zYb kL_law) 688 = .ok (.iload 10, 2) := by decide +kernel
theorem eL_law_690 : decode (zYb kL_law) 690 = .ok (.bipush 6, 2) := by decide +kernel
theorem eL_law_692 : decode (zYb kL_law) 692 = .ok (.if_icmp .ne 206, 3) := by decide +kernel
theorem eL_law_695 : decode (zYb kL_law) 695 = .ok (.iload 13, 2) := by decide +kernel
theorem eL_law_697 : decode (zYb kL_law) 697 = .ok (.iconst 1, 1) := by decide +kernel
theorem eL_law_698 : decode (zYb kL_law) 698 = .ok (.iadd, 1) := by decide +kernel
theorem eL_law_699 : decode (zYb kL_law) 699 = .ok (.aload_n 2, 1) := by decide +kernel
theorem eL_law_700 : decode (zYb kL_law) 700 = .ok (.iload 12, 2) := by decide +kernel
theorem eL_law_702 : decode (zYb kL_law) 702 = .ok (.iaload, 1) := by decide +kernel
theorem eL_law_703 : decode (zYb kL_law) 703 = .ok (.if_icmp .ge 7, 3) := by decide +kernel
theorem eL_law_706 : decode (zYb kL_law) 706 = .ok (.iconst 1, 1) := by decide +kernel
theorem eL_law_707 : decode (zYb kL_law) 707 = .ok (.goto 4, 3) := by decide +kernel
theorem eL_law_710 : decode (zYb kL_law) 710 = .ok (.iconst 0, 1) := by decide +kernel
theorem eL_law_711 : decode (zYb kL_law) 711 = .ok (.istore 14, 2) := by decide +kernel
theorem eL_law_713 : decode (zYb kL_law) 713 = .ok (.iload 14, 2) := by decide +kernel
theorem eL_law_715 : decode (zYb kL_law) 715 = .ok (.ifCond .eq 149, 3) := by decide +kernel
theorem eL_law_718 : decode (zYb kL_law) 718 = .ok (.iload 12, 2) := by decide +kernel
theorem eL_law_720 : decode (zYb kL_law) 720 = .ok (.aload_n 2, 1) := by decide +kernel
theorem eL_law_721 : decode (zYb kL_law) 721 = .ok (.iconst 0, 1) := by decide +kernel
theorem eL_law_722 : decode (zYb kL_law) 722 = .ok (.aload_n 3, 1) := by decide +kernel
theorem eL_law_723 : decode (zYb kL_law) 723 = .ok (.invokestatic 44, 3) := by decide +kernel
theorem eL_law_726 : decode (zYb kL_law) 726 = .ok (.iconst 0, 1) := by decide +kernel
theorem eL_law_727 : decode (zYb kL_law) 727 = .ok (.iload 13, 2) := by decide +kernel
theorem eL_law_729 : decode (zYb kL_law) 729 = .ok (.aload_n 3, 1) := by decide +kernel
theorem eL_law_730 : decode (zYb kL_law) 730 = .ok (.invokestatic 10, 3) := by decide +kernel
theorem eL_law_733 : decode (zYb kL_law) 733 = .ok (.istore 15, 2) := by decide +kernel
theorem eL_law_735 : decode (zYb kL_law) 735 = .ok (.iconst 0, 1) := by decide +kernel
theorem eL_law_736 : decode (zYb kL_law) 736 = .ok (.iload 13, 2) := by decide +kernel
theorem eL_law_738 : decode (zYb kL_law) 738 = .ok (.iconst 1, 1) := by decide +kernel
theorem eL_law_739 : decode (zYb kL_law) 739 = .ok (.iadd, 1) := by decide +kernel
theorem eL_law_740 : decode (zYb kL_law) 740 = .ok (.aload_n 3, 1) := by decide +kernel
theorem eL_law_741 : decode (zYb kL_law) 741 = .ok (.invokestatic 10, 3) := by decide +kernel
theorem eL_law_744 : decode (zYb kL_law) 744 = .ok (.istore 16, 2) := by decide +kernel
theorem eL_law_746 : decode (zYb kL_law) 746 = .ok (.iconst 0, 1) := by decide +kernel
theorem eL_law_747 : decode (zYb kL_law) 747 = .ok (.istore 17, 2) := by decide +kernel
theorem eL_law_749 : decode (zYb kL_law) 749 = .ok (.iload 17, 2) := by decide +kernel
theorem eL_law_751 : decode (zYb kL_law) 751 = .ok (.iload 15, 2) := by decide +kernel
theorem eL_law_753 : decode (zYb kL_law) 753 = .ok (.if_icmp .ge 43, 3) := by decide +kernel
theorem eL_law_756 : decode (zYb kL_law) 756 = .ok (.aload_n 2, 1) := by decide +kernel
theorem eL_law_757 : decode (zYb kL_law) 757 = .ok (.iload 12, 2) := by decide +kernel
theorem eL_law_759 : decode (zYb kL_law) 759 = .ok (.bipush 8, 2) := by decide +kernel
theorem eL_law_761 : decode (zYb kL_law) 761 = .ok (.iadd, 1) := by decide +kernel
theorem eL_law_762 : decode (zYb kL_law) 762 = .ok (.aload_n 3, 1) := by decide +kernel
theorem eL_law_763 : decode (zYb kL_law) 763 = .ok (.iconst 1, 1) := by decide +kernel
theorem eL_law_764 : decode (zYb kL_law) 764 = .ok (.iload 13, 2) := by decide +kernel
theorem eL_law_766 : decode (zYb kL_law) 766 = .ok (.iadd, 1) := by decide +kernel
theorem eL_law_767 : decode (zYb kL_law) 767 = .ok (.iaload, 1) := by decide +kernel
theorem eL_law_768 : decode (zYb kL_law) 768 = .ok (.iadd, 1) := by decide +kernel
theorem eL_law_769 : decode (zYb kL_law) 769 = .ok (.iload 16, 2) := by decide +kernel
theorem eL_law_771 : decode (zYb kL_law) 771 = .ok (.iadd, 1) := by decide +kernel
theorem eL_law_772 : decode (zYb kL_law) 772 = .ok (.iload 17, 2) := by decide +kernel
theorem eL_law_774 : decode (zYb kL_law) 774 = .ok (.iadd, 1) := by decide +kernel
theorem eL_law_775 : decode (zYb kL_law) 775 = .ok (.aload_n 3, 1) := by decide +kernel
theorem eL_law_776 : decode (zYb kL_law) 776 = .ok (.bipush 8, 2) := by decide +kernel
theorem eL_law_778 : decode (zYb kL_law) 778 = .ok (.aload_n 3, 1) := by decide +kernel
theorem eL_law_779 : decode (zYb kL_law) 779 = .ok (.iconst 1, 1) := by decide +kernel
theorem eL_law_780 : decode (zYb kL_law) 780 = .ok (.iload 13, 2) := by decide +kernel
theorem eL_law_782 : decode (zYb kL_law) 782 = .ok (.iadd, 1) := by decide +kernel
theorem eL_law_783 : decode (zYb kL_law) 783 = .ok (.iaload, 1) := by decide +kernel
theorem eL_law_784 : decode (zYb kL_law) 784 = .ok (.iadd, 1) := by decide +kernel
theorem eL_law_785 : decode (zYb kL_law) 785 = .ok (.iload 17, 2) := by decide +kernel
theorem eL_law_787 : decode (zYb kL_law) 787 = .ok (.iadd, 1) := by decide +kernel
theorem eL_law_788 : decode (zYb kL_law) 788 = .ok (.iaload, 1) := by decide +kernel
theorem eL_law_789 : decode (zYb kL_law) 789 = .ok (.iastore, 1) := by decide +kernel
theorem eL_law_790 : decode (zYb kL_law) 790 = .ok (.iinc 17 1, 3) := by decide +kernel
theorem eL_law_793 : decode (zYb kL_law) 793 = .ok (.goto (-44), 3) := by decide +kernel
theorem eL_law_796 : decode (zYb kL_law) 796 = .ok (.iconst 0, 1) := by decide +kernel
theorem eL_law_797 : decode (zYb kL_law) 797 = .ok (.istore 17, 2) := by decide +kernel
theorem eL_law_799 : decode (zYb kL_law) 799 = .ok (.iload 17, 2) := by decide +kernel
theorem eL_law_801 : decode (zYb kL_law) 801 = .ok (.iload 16, 2) := by decide +kernel
theorem eL_law_803 : decode (zYb kL_law) 803 = .ok (.if_icmp .ge 40, 3) := by decide +kernel
theorem eL_law_806 : decode (zYb kL_law) 806 = .ok (.aload_n 2, 1) := by decide +kernel
theorem eL_law_807 : decode (zYb kL_law) 807 = .ok (.iload 12, 2) := by decide +kernel
theorem eL_law_809 : decode (zYb kL_law) 809 = .ok (.bipush 8, 2) := by decide +kernel
theorem eL_law_811 : decode (zYb kL_law) 811 = .ok (.iadd, 1) := by decide +kernel
theorem eL_law_812 : decode (zYb kL_law) 812 = .ok (.aload_n 3, 1) := by decide +kernel
theorem eL_law_813 : decode (zYb kL_law) 813 = .ok (.iconst 1, 1) := by decide +kernel
theorem eL_law_814 : decode (zYb kL_law) 814 = .ok (.iload 13, 2) := by decide +kernel
theorem eL_law_816 : decode (zYb kL_law) 816 = .ok (.iadd, 1) := by decide +kernel
theorem eL_law_817 : decode (zYb kL_law) 817 = .ok (.iaload, 1) := by decide +kernel
theorem eL_law_818 : decode (zYb kL_law) 818 = .ok (.iadd, 1) := by decide +kernel
theorem eL_law_819 : decode (zYb kL_law) 819 = .ok (.iload 17, 2) := by decide +kernel
theorem eL_law_821 : decode (zYb kL_law) 821 = .ok (.iadd, 1) := by decide +kernel
theorem eL_law_822 : decode (zYb kL_law) 822 = .ok (.aload_n 3, 1) := by decide +kernel
theorem eL_law_823 : decode (zYb kL_law) 823 = .ok (.bipush 8, 2) := by decide +kernel
theorem eL_law_825 : decode (zYb kL_law) 825 = .ok (.aload_n 3, 1) := by decide +kernel
theorem eL_law_826 : decode (zYb kL_law) 826 = .ok (.iconst 2, 1) := by decide +kernel
theorem eL_law_827 : decode (zYb kL_law) 827 = .ok (.iload 13, 2) := by decide +kernel
theorem eL_law_829 : decode (zYb kL_law) 829 = .ok (.iadd, 1) := by decide +kernel
theorem eL_law_830 : decode (zYb kL_law) 830 = .ok (.iaload, 1) := by decide +kernel
theorem eL_law_831 : decode (zYb kL_law) 831 = .ok (.iadd, 1) := by decide +kernel
theorem eL_law_832 : decode (zYb kL_law) 832 = .ok (.iload 17, 2) := by decide +kernel
theorem eL_law_834 : decode (zYb kL_law) 834 = .ok (.iadd, 1) := by decide +kernel
theorem eL_law_835 : decode (zYb kL_law) 835 = .ok (.iaload, 1) := by decide +kernel
theorem eL_law_836 : decode (zYb kL_law) 836 = .ok (.iastore, 1) := by decide +kernel
theorem eL_law_837 : decode (zYb kL_law) 837 = .ok (.iinc 17 1, 3) := by decide +kernel
theorem eL_law_840 : decode (zYb kL_law) 840 = .ok (.goto (-41), 3) := by decide +kernel
theorem eL_law_843 : decode (zYb kL_law) 843 = .ok (.aload_n 2, 1) := by decide +kernel
theorem eL_law_844 : decode (zYb kL_law) 844 = .ok (.iload 12, 2) := by decide +kernel
theorem eL_law_846 : decode (zYb kL_law) 846 = .ok (.iconst 2, 1) := by decide +kernel
theorem eL_law_847 : decode (zYb kL_law) 847 = .ok (.iadd, 1) := by decide +kernel
theorem eL_law_848 : decode (zYb kL_law) 848 = .ok (.iload 13, 2) := by decide +kernel
theorem eL_law_850 : decode (zYb kL_law) 850 = .ok (.iadd, 1) := by decide +kernel
theorem eL_law_851 : decode (zYb kL_law) 851 = .ok (.aload_n 2, 1) := by decide +kernel
theorem eL_law_852 : decode (zYb kL_law) 852 = .ok (.iload 12, 2) := by decide +kernel
theorem eL_law_854 : decode (zYb kL_law) 854 = .ok (.iconst 1, 1) := by decide +kernel
theorem eL_law_855 : decode (zYb kL_law) 855 = .ok (.iadd, 1) := by decide +kernel
theorem eL_law_856 : decode (zYb kL_law) 856 = .ok (.iload 13, 2) := by decide +kernel
theorem eL_law_858 : decode (zYb kL_law) 858 = .ok (.iadd, 1) := by decide +kernel
theorem eL_law_859 : decode (zYb kL_law) 859 = .ok (.iaload, 1) := by decide +kernel
theorem eL_law_860 : decode (zYb kL_law) 860 = .ok (.iload 16, 2) := by decide +kernel
theorem eL_law_862 : decode (zYb kL_law) 862 = .ok (.iadd, 1) := by decide +kernel
theorem eL_law_863 : decode (zYb kL_law) 863 = .ok (.iastore, 1) := by decide +kernel
theorem eL_law_864 : decode (zYb kL_law) 864 = .ok (.aload_n 1, 1) := by decide +kernel
theorem eL_law_865 : decode (zYb kL_law) 865 = .ok (.iload 11, 2) := by decide +kernel
theorem eL_law_867 : decode (zYb kL_law) 867 = .ok (.iload 13, 2) := by decide +kernel
theorem eL_law_869 : decode (zYb kL_law) 869 = .ok (.invokevirtual 117, 3) := by decide +kernel
theorem eL_law_872 : decode (zYb kL_law) 872 = .ok (.iload 14, 2) := by decide +kernel
theorem eL_law_874 : decode (zYb kL_law) 874 = .ok (.ifCond .eq 15, 3) := by decide +kernel
theorem eL_law_877 : decode (zYb kL_law) 877 = .ok (.iload 12, 2) := by decide +kernel
theorem eL_law_879 : decode (zYb kL_law) 879 = .ok (.iconst 1, 1) := by decide +kernel
theorem eL_law_880 : decode (zYb kL_law) 880 = .ok (.aload_n 2, 1) := by decide +kernel
theorem eL_law_881 : decode (zYb kL_law) 881 = .ok (.aload 4, 2) := by decide +kernel
theorem eL_law_883 : decode (zYb kL_law) 883 = .ok (.invokestatic 36, 3) := by decide +kernel
theorem eL_law_886 : decode (zYb kL_law) 886 = .ok (.goto 4, 3) := by decide +kernel
theorem eL_law_889 : decode (zYb kL_law) 889 = .ok (.iconst (-1), 1) := by decide +kernel
theorem eL_law_890 : decode (zYb kL_law) 890 = .ok (.if_icmp .eq 5, 3) := by decide +kernel
theorem eL_law_893 : decode (zYb kL_law) 893 = .ok (.iconst 0, 1) := by decide +kernel
theorem eL_law_894 : decode (zYb kL_law) 894 = .ok (.ireturn, 1) := by decide +kernel
theorem eL_law_895 : decode (zYb kL_law) 895 = .ok (.goto 362, 3) := by decide +kernel
theorem eL_law_898 : decode (zYb kL_law) 898 = .ok (.iload 10, 2) := by decide +kernel
theorem eL_law_900 : decode (zYb kL_law) 900 = .ok (.bipush 7, 2) := by decide +kernel
theorem eL_law_902 : decode (zYb kL_law) 902 = .ok (.if_icmp .ne 285, 3) := by decide +kernel
theorem eL_law_905 : decode (zYb kL_law) 905 = .ok (.iload 9, 2) := by decide +kernel
theorem eL_law_907 : decode (zYb kL_law) 907 = .ok (.iload 6, 2) := by decide +kernel
theorem eL_law_909 : decode (zYb kL_law) 909 = .ok (.invokestatic 56, 3) := by decide +kernel
theorem eL_law_912 : decode (zYb kL_law) 912 = .ok (.istore 14, 2) := by decide +kernel
theorem eL_law_914 : decode (zYb kL_law) 914 = .ok (.bipush 20, 2) := by decide +kernel
theorem eL_law_916 : decode (zYb kL_law) 916 = .ok (.iload 14, 2) := by decide +kernel
theorem eL_law_918 : decode (zYb kL_law) 918 = .ok (.imul, 1) := by decide +kernel
theorem eL_law_919 : decode (zYb kL_law) 919 = .ok (.istore 15, 2) := by decide +kernel
theorem eL_law_921 : decode (zYb kL_law) 921 = .ok (.iload 15, 2) := by decide +kernel
theorem eL_law_923 : decode (zYb kL_law) 923 = .ok (.aload_n 2, 1) := by decide +kernel
theorem eL_law_924 : decode (zYb kL_law) 924 = .ok (.invokestatic 22, 3) := by decide +kernel
theorem eL_law_927 : decode (zYb kL_law) 927 = .ok (.istore 16, 2) := by decide +kernel
theorem eL_law_929 : decode (zYb kL_law) 929 = .ok (.iload 14, 2) := by decide +kernel
theorem eL_law_931 : decode (zYb kL_law) 931 = .ok (.iload 11, 2) := by decide +kernel
theorem eL_law_933 : decode (zYb kL_law) 933 = .ok (.if_icmp .ne 19, 3) := by decide +kernel
theorem eL_law_936 : decode (zYb kL_law) 936 = .ok (.aload_n 1, 1) := by decide +kernel
theorem eL_law_937 : decode (zYb kL_law) 937 = .ok (.iload 11, 2) := by decide +kernel
theorem eL_law_939 : decode (zYb kL_law) 939 = .ok (.iload 14, 2) := by decide +kernel
theorem eL_law_941 : decode (zYb kL_law) 941 = .ok (.invokevirtual 120, 3) := by decide +kernel
theorem eL_law_944 : decode (zYb kL_law) 944 = .ok (.bipush (-2), 2) := by decide +kernel
theorem eL_law_946 : decode (zYb kL_law) 946 = .ok (.if_icmp .eq 34, 3) := by decide +kernel
theorem eL_law_949 : decode (zYb kL_law) 949 = .ok (.goto 29, 3) := by decide +kernel
theorem eL_law_952 : decode (zYb kL_law) 952 = .ok (.aload_n 2, 1) := by decide +kernel
theorem eL_law_953 : decode (zYb kL_law) 953 = .ok (.iload 12, 2) := by decide +kernel
theorem eL_law_955 : decode (zYb kL_law) 955 = .ok (.iaload, 1) := by decide +kernel
theorem eL_law_956 : decode (zYb kL_law) 956 = .ok (.aload_n 2, 1) := by decide +kernel
theorem eL_law_957 : decode (zYb kL_law) 957 = .ok (.iload 15, 2) := by decide +kernel
theorem eL_law_959 : decode (zYb kL_law) 959 = .ok (.iaload, 1) := by decide +kernel
theorem eL_law_960 : decode (zYb kL_law) 960 = .ok (.iadd, 1) := by decide +kernel
theorem eL_law_961 : decode (zYb kL_law) 961 = .ok (.iconst 5, 1) := by decide +kernel
theorem eL_law_962 : decode (zYb kL_law) 962 = .ok (.if_icmp .le 18, 3) := by decide +kernel
theorem eL_law_965 : decode (zYb kL_law) 965 = .ok (.aload_n 1, 1) := by decide +kernel
theorem eL_law_966 : decode (zYb kL_law) 966 = .ok (.iload 11, 2) := by decide +kernel
theorem eL_law_968 : decode (zYb kL_law) 968 = .ok (.iload 14, 2) := by decide +kernel
theorem eL_law_970 : decode (zYb kL_law) 970 = .ok (.invokevirtual 120, 3) := by decide +kernel
theorem eL_law_973 : decode (zYb kL_law) 973 = .ok (.bipush (-4), 2) := by decide +kernel
theorem eL_law_975 : decode (zYb kL_law) 975 = .ok (.if_icmp .eq 5, 3) := by decide +kernel
theorem eL_law_978 : decode (zYb kL_law) 978 = .ok (.iconst 0, 1) := by decide +kernel
theorem eL_law_979 : decode (zYb kL_law) 979 = .ok (.ireturn, 1) := by decide +kernel
theorem eL_law_980 : decode (zYb kL_law) 980 = .ok (.iload 14, 2) := by decide +kernel
theorem eL_law_982 : decode (zYb kL_law) 982 = .ok (.iload 11, 2) := by decide +kernel
theorem eL_law_984 : decode (zYb kL_law) 984 = .ok (.if_icmp .eq 343, 3) := by decide +kernel
theorem eL_law_987 : decode (zYb kL_law) 987 = .ok (.aload_n 2, 1) := by decide +kernel
theorem eL_law_988 : decode (zYb kL_law) 988 = .ok (.iload 12, 2) := by decide +kernel
theorem eL_law_990 : decode (zYb kL_law) 990 = .ok (.iaload, 1) := by decide +kernel
theorem eL_law_991 : decode (zYb kL_law) 991 = .ok (.aload_n 2, 1) := by decide +kernel
theorem eL_law_992 : decode (zYb kL_law) 992 = .ok (.iload 15, 2) := by decide +kernel
theorem eL_law_994 : decode (zYb kL_law) 994 = .ok (.iaload, 1) := by decide +kernel
theorem eL_law_995 : decode (zYb kL_law) 995 = .ok (.iadd, 1) := by decide +kernel
theorem eL_law_996 : decode (zYb kL_law) 996 = .ok (.iconst 5, 1) := by decide +kernel
theorem eL_law_997 : decode (zYb kL_law) 997 = .ok (.if_icmp .gt 330, 3) := by decide +kernel
theorem eL_law_1000 : decode (zYb kL_law) 1000 = .ok (.iload 16, 2) := by decide +kernel
theorem eL_law_1002 : decode (zYb kL_law) 1002 = .ok (.iload 12, 2) := by decide +kernel
theorem eL_law_1004 : decode (zYb kL_law) 1004 = .ok (.aload_n 2, 1) := by decide +kernel
theorem eL_law_1005 : decode (zYb kL_law) 1005 = .ok (.invokestatic 22, 3) := by decide +kernel
theorem eL_law_1008 : decode (zYb kL_law) 1008 = .ok (.iadd, 1) := by decide +kernel
theorem eL_law_1009 : decode (zYb kL_law) 1009 = .ok (.bipush 10, 2) := by decide +kernel
theorem eL_law_1011 : decode (zYb kL_law) 1011 = .ok (.if_icmp .le 6, 3) := by decide +kernel
theorem eL_law_1014 : decode (zYb kL_law) 1014 = .ok (.goto 313, 3) := by decide +kernel
theorem eL_law_1017 : decode (zYb kL_law) 1017 = .ok (.iconst 0, 1) := by decide +kernel
theorem eL_law_1018 : decode (zYb kL_law) 1018 = .ok (.istore 17, 2) := by decide +kernel
theorem eL_law_1020 : decode (zYb kL_law) 1020 = .ok (.iload 17, 2) := by decide +kernel
theorem eL_law_1022 : decode (zYb kL_law) 1022 = .ok (.iload 12, 2) := by decide +kernel
theorem eL_law_1024 : decode (zYb kL_law) 1024 = .ok (.aload_n 2, 1) := by decide +kernel
theorem eL_law_1025 : decode (zYb kL_law) 1025 = .ok (.invokestatic 22, 3) := by decide +kernel
theorem eL_law_1028 : decode (zYb kL_law) 1028 = .ok (.if_icmp .ge 32, 3) := by decide +kernel
theorem eL_law_1031 : decode (zYb kL_law) 1031 = .ok (.aload_n 2, 1) := by decide +kernel
theorem eL_law_1032 : decode (zYb kL_law) 1032 = .ok (.iload 15, 2) := by decide +kernel
theorem eL_law_1034 : decode (zYb kL_law) 1034 = .ok (.bipush 8, 2) := by decide +kernel
theorem eL_law_1036 : decode (zYb kL_law) 1036 = .ok (.iadd, 1) := by decide +kernel
theorem eL_law_1037 : decode (zYb kL_law) 1037 = .ok (.iload 16, 2) := by decide +kernel
theorem eL_law_1039 : decode (zYb kL_law) 1039 = .ok (.iadd, 1) := by decide +kernel
theorem eL_law_1040 : decode (zYb kL_law) 1040 = .ok (.iload 17, 2) := by decide +kernel
theorem eL_law_1042 : decode (zYb kL_law) 1042 = .ok (.iadd, 1) := by decide +kernel
theorem eL_law_1043 : decode (zYb kL_law) 1043 = .ok (.aload_n 2, 1) := by decide +kernel
theorem eL_law_1044 : decode (zYb kL_law) 1044 = .ok (.iload 12, 2) := by decide +kernel
theorem eL_law_1046 : decode (zYb kL_law) 1046 = .ok (.bipush 8, 2) := by decide +kernel
theorem eL_law_1048 : decode (zYb kL_law) 1048 = .ok (.iadd, 1) := by decide +kernel
theorem eL_law_1049 : decode (zYb kL_law) 1049 = .ok (.iload 17, 2) := by decide +kernel
theorem eL_law_1051 : decode (zYb kL_law) 1051 = .ok (.iadd, 1) := by decide +kernel
theorem eL_law_1052 : decode (zYb kL_law) 1052 = .ok (.iaload, 1) := by decide +kernel
theorem eL_law_1053 : decode (zYb kL_law) 1053 = .ok (.iastore, 1) := by decide +kernel
theorem eL_law_1054 : decode (zYb kL_law) 1054 = .ok (.iinc 17 1, 3) := by decide +kernel
theorem eL_law_1057 : decode (zYb kL_law) 1057 = .ok (.goto (-37), 3) := by decide +kernel
theorem eL_law_1060 : decode (zYb kL_law) 1060 = .ok (.iconst 0, 1) := by decide +kernel
theorem eL_law_1061 : decode (zYb kL_law) 1061 = .ok (.istore 17, 2) := by decide +kernel
theorem eL_law_1063 : decode (zYb kL_law) 1063 = .ok (.iload 17, 2) := by decide +kernel
theorem eL_law_1065 : decode (zYb kL_law) 1065 = .ok (.aload_n 2, 1) := by decide +kernel
theorem eL_law_1066 : decode (zYb kL_law) 1066 = .ok (.iload 12, 2) := by decide +kernel
theorem eL_law_1068 : decode (zYb kL_law) 1068 = .ok (.iaload, 1) := by decide +kernel
theorem eL_law_1069 : decode (zYb kL_law) 1069 = .ok (.if_icmp .ge 35, 3) := by decide +kernel
theorem eL_law_1072 : decode (zYb kL_law) 1072 = .ok (.aload_n 2, 1) := by decide +kernel
theorem eL_law_1073 : decode (zYb kL_law) 1073 = .ok (.iload 15, 2) := by decide +kernel
theorem eL_law_1075 : decode (zYb kL_law) 1075 = .ok (.iconst 2, 1) := by decide +kernel
theorem eL_law_1076 : decode (zYb kL_law) 1076 = .ok (.iadd, 1) := by decide +kernel
theorem eL_law_1077 : decode (zYb kL_law) 1077 = .ok (.aload_n 2, 1) := by decide +kernel
theorem eL_law_1078 : decode (zYb kL_law) 1078 = .ok (.iload 15, 2) := by decide +kernel
theorem eL_law_1080 : decode (zYb kL_law) 1080 = .ok (.iaload, 1) := by decide +kernel
theorem eL_law_1081 : decode (zYb kL_law) 1081 = .ok (.iadd, 1) := by decide +kernel
theorem eL_law_1082 : decode (zYb kL_law) 1082 = .ok (.iload 17, 2) := by decide +kernel
theorem eL_law_1084 : decode (zYb kL_law) 1084 = .ok (.iadd, 1) := by decide +kernel
theorem eL_law_1085 : decode (zYb kL_law) 1085 = .ok (.iload 16, 2) := by decide +kernel
theorem eL_law_1087 : decode (zYb kL_law) 1087 = .ok (.aload_n 2, 1) := by decide +kernel
theorem eL_law_1088 : decode (zYb kL_law) 1088 = .ok (.iload 12, 2) := by decide +kernel
theorem eL_law_1090 : decode (zYb kL_law) 1090 = .ok (.iconst 2, 1) := by decide +kernel
theorem eL_law_1091 : decode (zYb kL_law) 1091 = .ok (.iadd, 1) := by decide +kernel
theorem eL_law_1092 : decode (zYb kL_law) 1092 = .ok (.iload 17, 2) := by decide +kernel
theorem eL_law_1094 : decode (zYb kL_law) 1094 = .ok (.iadd, 1) := by decide +kernel
theorem eL_law_1095 : decode (zYb kL_law) 1095 = .ok (.iaload, 1) := by decide +kernel
theorem eL_law_1096 : decode (zYb kL_law) 1096 = .ok (.iadd, 1) := by decide +kernel
theorem eL_law_1097 : decode (zYb kL_law) 1097 = .ok (.iastore, 1) := by decide +kernel
theorem eL_law_1098 : decode (zYb kL_law) 1098 = .ok (.iinc 17 1, 3) := by decide +kernel
theorem eL_law_1101 : decode (zYb kL_law) 1101 = .ok (.goto (-38), 3) := by decide +kernel
theorem eL_law_1104 : decode (zYb kL_law) 1104 = .ok (.aload_n 2, 1) := by decide +kernel
theorem eL_law_1105 : decode (zYb kL_law) 1105 = .ok (.iload 15, 2) := by decide +kernel
theorem eL_law_1107 : decode (zYb kL_law) 1107 = .ok (.dup2, 1) := by decide +kernel
theorem eL_law_1108 : decode (zYb kL_law) 1108 = .ok (.iaload, 1) := by decide +kernel
theorem eL_law_1109 : decode (zYb kL_law) 1109 = .ok (.aload_n 2, 1) := by decide +kernel
theorem eL_law_1110 : decode (zYb kL_law) 1110 = .ok (.iload 12, 2) := by decide +kernel
theorem eL_law_1112 : decode (zYb kL_law) 1112 = .ok (.iaload, 1) := by decide +kernel
theorem eL_law_1113 : decode (zYb kL_law) 1113 = .ok (.iadd, 1) := by decide +kernel
theorem eL_law_1114 : decode (zYb kL_law) 1114 = .ok (.iastore, 1) := by decide +kernel
theorem eL_law_1115 : decode (zYb kL_law) 1115 = .ok (.iload 11, 2) := by decide +kernel
theorem eL_law_1117 : decode (zYb kL_law) 1117 = .ok (.istore 17, 2) := by decide +kernel
theorem eL_law_1119 : decode (zYb kL_law) 1119 = .ok (.iload 17, 2) := by decide +kernel
theorem eL_law_1121 : decode (zYb kL_law) 1121 = .ok (.iconst 1, 1) := by decide +kernel
theorem eL_law_1122 : decode (zYb kL_law) 1122 = .ok (.iadd, 1) := by decide +kernel
theorem eL_law_1123 : decode (zYb kL_law) 1123 = .ok (.iload 6, 2) := by decide +kernel
theorem eL_law_1125 : decode (zYb kL_law) 1125 = .ok (.if_icmp .ge 27, 3) := by decide +kernel
theorem eL_law_1128 : decode (zYb kL_law) 1128 = .ok (.bipush 20, 2) := by decide +kernel
theorem eL_law_1130 : decode (zYb kL_law) 1130 = .ok (.iload 17, 2) := by decide +kernel
theorem eL_law_1132 : decode (zYb kL_law) 1132 = .ok (.imul, 1) := by decide +kernel
theorem eL_law_1133 : decode (zYb kL_law) 1133 = .ok (.bipush 20, 2) := by decide +kernel
theorem eL_law_1135 : decode (zYb kL_law) 1135 = .ok (.iadd, 1) := by decide +kernel
theorem eL_law_1136 : decode (zYb kL_law) 1136 = .ok (.aload_n 2, 1) := by decide +kernel
theorem eL_law_1137 : decode (zYb kL_law) 1137 = .ok (.bipush 20, 2) := by decide +kernel
theorem eL_law_1139 : decode (zYb kL_law) 1139 = .ok (.iload 17, 2) := by decide +kernel
theorem eL_law_1141 : decode (zYb kL_law) 1141 = .ok (.imul, 1) := by decide +kernel
theorem eL_law_1142 : decode (zYb kL_law) 1142 = .ok (.aload_n 2, 1) := by decide +kernel
theorem eL_law_1143 : decode (zYb kL_law) 1143 = .ok (.invokestatic 44, 3) := by decide +kernel
theorem eL_law_1146 : decode (zYb kL_law) 1146 = .ok (.iinc 17 1, 3) := by decide +kernel
theorem eL_law_1149 : decode (zYb kL_law) 1149 = .ok (.goto (-30), 3) := by decide +kernel
theorem eL_law_1152 : decode (zYb kL_law) 1152 = .ok (.iinc 6 (-1), 3) := by decide +kernel
theorem eL_law_1155 : decode (zYb kL_law) 1155 = .ok (.aload_n 1, 1) := by decide +kernel
theorem eL_law_1156 : decode (zYb kL_law) 1156 = .ok (.iload 11, 2) := by decide +kernel
theorem eL_law_1158 : decode (zYb kL_law) 1158 = .ok (.iload 14, 2) := by decide +kernel
theorem eL_law_1160 : decode (zYb kL_law) 1160 = .ok (.invokevirtual 120, 3) := by decide +kernel
theorem eL_law_1163 : decode (zYb kL_law) 1163 = .ok (.iload 11, 2) := by decide +kernel
theorem eL_law_1165 : decode (zYb kL_law) 1165 = .ok (.iload 14, 2) := by decide +kernel
theorem eL_law_1167 : decode (zYb kL_law) 1167 = .ok (.if_icmp .ge 10, 3) := by decide +kernel
theorem eL_law_1170 : decode (zYb kL_law) 1170 = .ok (.iload 14, 2) := by decide +kernel
theorem eL_law_1172 : decode (zYb kL_law) 1172 = .ok (.iconst 1, 1) := by decide +kernel
theorem eL_law_1173 : decode (zYb kL_law) 1173 = .ok (.isub, 1) := by decide +kernel
theorem eL_law_1174 : decode (zYb kL_law) 1174 = .ok (.goto 5, 3) := by decide +kernel
theorem eL_law_1177 : decode (zYb kL_law) 1177 = .ok (.iload 14, 2) := by decide +kernel
theorem eL_law_1179 : decode (zYb kL_law) 1179 = .ok (.if_icmp .eq 5, 3) := by decide +kernel
theorem eL_law_1182 : decode (zYb kL_law) 1182 = .ok (.iconst 0, 1) := by decide +kernel
theorem eL_law_1183 : decode (zYb kL_law) 1183 = .ok (.ireturn, 1) := by decide +kernel
theorem eL_law_1184 : decode (zYb kL_law) 1184 = .ok (.goto 73, 3) := by decide +kernel
theorem eL_law_1187 : decode (zYb kL_law) 1187 = .ok (.iload 9, 2) := by decide +kernel
theorem eL_law_1189 : decode (zYb kL_law) 1189 = .ok (.iconst 3, 1) := by decide +kernel
theorem eL_law_1190 : decode (zYb kL_law) 1190 = .ok (.invokestatic 56, 3) := by decide +kernel
theorem eL_law_1193 : decode (zYb kL_law) 1193 = .ok (.ifCond .ne 64, 3) := by decide +kernel
theorem eL_law_1196 : decode (zYb kL_law) 1196 = .ok (.iload 12, 2) := by decide +kernel
theorem eL_law_1198 : decode (zYb kL_law) 1198 = .ok (.aload_n 2, 1) := by decide +kernel
theorem eL_law_1199 : decode (zYb kL_law) 1199 = .ok (.invokestatic 22, 3) := by decide +kernel
theorem eL_law_1202 : decode (zYb kL_law) 1202 = .ok (.istore 14, 2) := by decide +kernel
theorem eL_law_1204 : decode (zYb kL_law) 1204 = .ok (.iload 11, 2) := by decide +kernel
theorem eL_law_1206 : decode (zYb kL_law) 1206 = .ok (.istore 15, 2) := by decide +kernel
theorem eL_law_1208 : decode (zYb kL_law) 1208 = .ok (.iload 15, 2) := by decide +kernel
theorem eL_law_1210 : decode (zYb kL_law) 1210 = .ok (.iconst 1, 1) := by decide +kernel
theorem eL_law_1211 : decode (zYb kL_law) 1211 = .ok (.iadd, 1) := by decide +kernel
theorem eL_law_1212 : decode (zYb kL_law) 1212 = .ok (.iload 6, 2) := by decide +kernel
theorem eL_law_1214 : decode (zYb kL_law) 1214 = .ok (.if_icmp .ge 27, 3) := by decide +kernel
theorem eL_law_1217 : decode (zYb kL_law) 1217 = .ok (.bipush 20, 2) := by decide +kernel
theorem eL_law_1219 : decode (zYb kL_law) 1219 = .ok (.iload 15, 2) := by decide +kernel
theorem eL_law_1221 : decode (zYb kL_law) 1221 = .ok (.imul, 1) := by decide +kernel
theorem eL_law_1222 : decode (zYb kL_law) 1222 = .ok (.bipush 20, 2) := by decide +kernel
theorem eL_law_1224 : decode (zYb kL_law) 1224 = .ok (.iadd, 1) := by decide +kernel
theorem eL_law_1225 : decode (zYb kL_law) 1225 = .ok (.aload_n 2, 1) := by decide +kernel
theorem eL_law_1226 : decode (zYb kL_law) 1226 = .ok (.bipush 20, 2) := by decide +kernel
theorem eL_law_1228 : decode (zYb kL_law) 1228 = .ok (.iload 15, 2) := by decide +kernel
theorem eL_law_1230 : decode (zYb kL_law) 1230 = .ok (.imul, 1) := by decide +kernel
theorem eL_law_1231 : decode (zYb kL_law) 1231 = .ok (.aload_n 2, 1) := by decide +kernel
theorem eL_law_1232 : decode (zYb kL_law) 1232 = .ok (.invokestatic 44, 3) := by decide +kernel
theorem eL_law_1235 : decode (zYb kL_law) 1235 = .ok (.iinc 15 1, 3) := by decide +kernel
theorem eL_law_1238 : decode (zYb kL_law) 1238 = .ok (.goto (-30), 3) := by decide +kernel
theorem eL_law_1241 : decode (zYb kL_law) 1241 = .ok (.iinc 6 (-1), 3) := by decide +kernel
theorem eL_law_1244 : decode (zYb kL_law) 1244 = .ok (.aload_n 1, 1) := by decide +kernel
theorem eL_law_1245 : decode (zYb kL_law) 1245 = .ok (.iload 11, 2) := by decide +kernel
theorem eL_law_1247 : decode (zYb kL_law) 1247 = .ok (.invokevirtual 123, 3) := by decide +kernel
theorem eL_law_1250 : decode (zYb kL_law) 1250 = .ok (.iload 14, 2) := by decide +kernel
theorem eL_law_1252 : decode (zYb kL_law) 1252 = .ok (.if_icmp .eq 5, 3) := by decide +kernel
theorem eL_law_1255 : decode (zYb kL_law) 1255 = .ok (.iconst 0, 1) := by decide +kernel
theorem eL_law_1256 : decode (zYb kL_law) 1256 = .ok (.ireturn, 1) := by decide +kernel
theorem eL_law_1257 : decode (zYb kL_law) 1257 = .ok (.aload_n 1, 1) := by decide +kernel
theorem eL_law_1258 : decode (zYb kL_law) 1258 = .ok (.iload 9, 2) := by decide +kernel
theorem eL_law_1260 : decode (zYb kL_law) 1260 = .ok (.iload 6, 2) := by decide +kernel
theorem eL_law_1262 : decode (zYb kL_law) 1262 = .ok (.aload_n 2, 1) := by decide +kernel
theorem eL_law_1263 : decode (zYb kL_law) 1263 = .ok (.aload_n 3, 1) := by decide +kernel
theorem eL_law_1264 : decode (zYb kL_law) 1264 = .ok (.aload 4, 2) := by decide +kernel
theorem eL_law_1266 : decode (zYb kL_law) 1266 = .ok (.aload 5, 2) := by decide +kernel
theorem eL_law_1268 : decode (zYb kL_law) 1268 = .ok (.invokestatic 126, 3) := by decide +kernel
theorem eL_law_1271 : decode (zYb kL_law) 1271 = .ok (.ifCond .ne 5, 3) := by decide +kernel
theorem eL_law_1274 : decode (zYb kL_law) 1274 = .ok (.iconst 0, 1) := by decide +kernel
theorem eL_law_1275 : decode (zYb kL_law) 1275 = .ok (.ireturn, 1) := by decide +kernel
theorem eL_law_1276 : decode (zYb kL_law) 1276 = .ok (.iload 6, 2) := by decide +kernel
theorem eL_law_1278 : decode (zYb kL_law) 1278 = .ok (.ifCond .le 49, 3) := by decide +kernel
theorem eL_law_1281 : decode (zYb kL_law) 1281 = .ok (.aload_n 1, 1) := by decide +kernel
theorem eL_law_1282 : decode (zYb kL_law) 1282 = .ok (.iload 9, 2) := by decide +kernel
theorem eL_law_1284 : decode (zYb kL_law) 1284 = .ok (.iconst 5, 1) := by decide +kernel
theorem eL_law_1285 : decode (zYb kL_law) 1285 = .ok (.ishr, 1) := by decide +kernel
theorem eL_law_1286 : decode (zYb kL_law) 1286 = .ok (.iload 6, 2) := by decide +kernel
theorem eL_law_1288 : decode (zYb kL_law) 1288 = .ok (.invokestatic 56, 3) := by decide +kernel
theorem eL_law_1291 : decode (zYb kL_law) 1291 = .ok (.aload_n 2, 1) := by decide +kernel
theorem eL_law_1292 : decode (zYb kL_law) 1292 = .ok (.aload_n 3, 1) := by decide +kernel
theorem eL_law_1293 : decode (zYb kL_law) 1293 = .ok (.aload 4, 2) := by decide +kernel
theorem eL_law_1295 : decode (zYb kL_law) 1295 = .ok (.invokestatic 130, 3) := by decide +kernel
theorem eL_law_1298 : decode (zYb kL_law) 1298 = .ok (.ifCond .eq 27, 3) := by decide +kernel
theorem eL_law_1301 : decode (zYb kL_law) 1301 = .ok (.aload_n 1, 1) := by decide +kernel
theorem eL_law_1302 : decode (zYb kL_law) 1302 = .ok (.iload 9, 2) := by decide +kernel
theorem eL_law_1304 : decode (zYb kL_law) 1304 = .ok (.bipush 6, 2) := by decide +kernel
theorem eL_law_1306 : decode (zYb kL_law) 1306 = .ok (.ishr, 1) := by decide +kernel
theorem eL_law_1307 : decode (zYb kL_law) 1307 = .ok (.iload 6, 2) := by decide +kernel
theorem eL_law_1309 : decode (zYb kL_law) 1309 = .ok (.invokestatic 56, 3) := by decide +kernel
theorem eL_law_1312 : decode (zYb kL_law) 1312 = .ok (.iload 9, 2) := by decide +kernel
theorem eL_law_1314 : decode (zYb kL_law) 1314 = .ok (.iconst 2, 1) := by decide +kernel
theorem eL_law_1315 : decode (zYb kL_law) 1315 = .ok (.ishr, 1) := by decide +kernel
theorem eL_law_1316 : decode (zYb kL_law) 1316 = .ok (.aload_n 2, 1) := by decide +kernel
theorem eL_law_1317 : decode (zYb kL_law) 1317 = .ok (.aload 4, 2) := by decide +kernel
theorem eL_law_1319 : decode (zYb kL_law) 1319 = .ok (.invokestatic 134, 3) := by decide +kernel
theorem eL_law_1322 : decode (zYb kL_law) 1322 = .ok (.ifCond .ne 5, 3) := by decide +kernel
theorem eL_law_1325 : decode (zYb kL_law) 1325 = .ok (.iconst 0, 1) := by decide +kernel
theorem eL_law_1326 : decode (zYb kL_law) 1326 = .ok (.ireturn, 1) := by decide +kernel
theorem eL_law_1327 : decode (zYb kL_law) 1327 = .ok (.iinc 7 1, 3) := by decide +kernel
theorem eL_law_1330 : decode (zYb kL_law) 1330 = .ok (.goto (-1294), 3) := by decide +kernel
theorem eL_law_1333 : decode (zYb kL_law) 1333 = .ok (.iconst 1, 1) := by decide +kernel
theorem eL_law_1334 : decode (zYb kL_law) 1334 = .ok (.ireturn, 1) := by decide +kernel
