theorem dL_cell_0 : decode cL_cell 0 = .ok (.iload_n 1, 1) := by decide +kernel
theorem dL_cell_1 : decode cL_cell 1 = .ok (.aload_n 0, 1) := by decide +kernel
theorem dL_cell_2 : decode cL_cell 2 = .ok (.arraylength, 1) := by decide +kernel
theorem dL_cell_3 : decode cL_cell 3 = .ok (.if_icmp .ge 9, 3) := by decide +kernel
theorem dL_cell_6 : decode cL_cell 6 = .ok (.aload_n 0, 1) := by decide +kernel
theorem dL_cell_7 : decode cL_cell 7 = .ok (.iload_n 1, 1) := by decide +kernel
theorem dL_cell_8 : decode cL_cell 8 = .ok (.iaload, 1) := by decide +kernel
theorem dL_cell_9 : decode cL_cell 9 = .ok (.goto 10, 3) := by decide +kernel
theorem dL_cell_12 : decode cL_cell 12 = .ok (.ldc 7, 2) := by decide +kernel
theorem dL_cell_14 : decode cL_cell 14 = .ok (.iload_n 1, 1) := by decide +kernel
theorem dL_cell_15 : decode cL_cell 15 = .ok (.imul, 1) := by decide +kernel
theorem dL_cell_16 : decode cL_cell 16 = .ok (.ldc 8, 2) := by decide +kernel
theorem dL_cell_18 : decode cL_cell 18 = .ok (.iadd, 1) := by decide +kernel
theorem dL_cell_19 : decode cL_cell 19 = .ok (.ireturn, 1) := by decide +kernel
theorem dL_low_0 : decode cL_low 0 = .ok (.iload_n 0, 1) := by decide +kernel
theorem dL_low_1 : decode cL_low 1 = .ok (.ldc 9, 2) := by decide +kernel
theorem dL_low_3 : decode cL_low 3 = .ok (.iand, 1) := by decide +kernel
theorem dL_low_4 : decode cL_low 4 = .ok (.iload_n 1, 1) := by decide +kernel
theorem dL_low_5 : decode cL_low 5 = .ok (.irem, 1) := by decide +kernel
theorem dL_low_6 : decode cL_low 6 = .ok (.ireturn, 1) := by decide +kernel
theorem dL_type_0 : decode cL_type 0 = .ok (.aload_n 0, 1) := by decide +kernel
theorem dL_type_1 : decode cL_type 1 = .ok (.bipush 18, 2) := by decide +kernel
theorem dL_type_3 : decode cL_type 3 = .ok (.invokevirtual 10, 3) := by decide +kernel
theorem dL_type_6 : decode cL_type 6 = .ok (.istore_n 2, 1) := by decide +kernel
theorem dL_type_7 : decode cL_type 7 = .ok (.aload_n 0, 1) := by decide +kernel
theorem dL_type_8 : decode cL_type 8 = .ok (.iload_n 1, 1) := by decide +kernel
theorem dL_type_9 : decode cL_type 9 = .ok (.i2l, 1) := by decide +kernel
theorem dL_type_10 : decode cL_type 10 = .ok (.invokevirtual 16, 3) := by decide +kernel
theorem dL_type_13 : decode cL_type 13 = .ok (.iload_n 2, 1) := by decide +kernel
theorem dL_type_14 : decode cL_type 14 = .ok (.iconst 1, 1) := by decide +kernel
theorem dL_type_15 : decode cL_type 15 = .ok (.iadd, 1) := by decide +kernel
theorem dL_type_16 : decode cL_type 16 = .ok (.if_icmp .ne 7, 3) := by decide +kernel
theorem dL_type_19 : decode cL_type 19 = .ok (.iconst 1, 1) := by decide +kernel
theorem dL_type_20 : decode cL_type 20 = .ok (.goto 4, 3) := by decide +kernel
theorem dL_type_23 : decode cL_type 23 = .ok (.iconst 0, 1) := by decide +kernel
theorem dL_type_24 : decode cL_type 24 = .ok (.ireturn, 1) := by decide +kernel
theorem dL_rows_0 : decode cL_rows 0 = .ok (.iconst 1, 1) := by decide +kernel
theorem dL_rows_1 : decode cL_rows 1 = .ok (.iload_n 0, 1) := by decide +kernel
theorem dL_rows_2 : decode cL_rows 2 = .ok (.iconst 3, 1) := by decide +kernel
theorem dL_rows_3 : decode cL_rows 3 = .ok (.invokestatic 20, 3) := by decide +kernel
theorem dL_rows_6 : decode cL_rows 6 = .ok (.iadd, 1) := by decide +kernel
theorem dL_rows_7 : decode cL_rows 7 = .ok (.ireturn, 1) := by decide +kernel
theorem dL_partsOf_0 : decode cL_partsOf 0 = .ok (.iconst 1, 1) := by decide +kernel
theorem dL_partsOf_1 : decode cL_partsOf 1 = .ok (.iload_n 0, 1) := by decide +kernel
theorem dL_partsOf_2 : decode cL_partsOf 2 = .ok (.iconst 2, 1) := by decide +kernel
theorem dL_partsOf_3 : decode cL_partsOf 3 = .ok (.iconst 2, 1) := by decide +kernel
theorem dL_partsOf_4 : decode cL_partsOf 4 = .ok (.iload_n 1, 1) := by decide +kernel
theorem dL_partsOf_5 : decode cL_partsOf 5 = .ok (.imul, 1) := by decide +kernel
theorem dL_partsOf_6 : decode cL_partsOf 6 = .ok (.iadd, 1) := by decide +kernel
theorem dL_partsOf_7 : decode cL_partsOf 7 = .ok (.ishr, 1) := by decide +kernel
theorem dL_partsOf_8 : decode cL_partsOf 8 = .ok (.iload_n 1, 1) := by decide +kernel
theorem dL_partsOf_9 : decode cL_partsOf 9 = .ok (.iconst 2, 1) := by decide +kernel
theorem dL_partsOf_10 : decode cL_partsOf 10 = .ok (.if_icmp .ne 7, 3) := by decide +kernel
theorem dL_partsOf_13 : decode cL_partsOf 13 = .ok (.iconst 2, 1) := by decide +kernel
theorem dL_partsOf_14 : decode cL_partsOf 14 = .ok (.goto 4, 3) := by decide +kernel
theorem dL_partsOf_17 : decode cL_partsOf 17 = .ok (.iconst 3, 1) := by decide +kernel
theorem dL_partsOf_18 : decode cL_partsOf 18 = .ok (.invokestatic 20, 3) := by decide +kernel
theorem dL_partsOf_21 : decode cL_partsOf 21 = .ok (.iadd, 1) := by decide +kernel
theorem dL_partsOf_22 : decode cL_partsOf 22 = .ok (.ireturn, 1) := by decide +kernel
theorem dL_part_0 : decode cL_part 0 = .ok (.iload_n 0, 1) := by decide +kernel
theorem dL_part_1 : decode cL_part 1 = .ok (.bipush 8, 2) := by decide +kernel
theorem dL_part_3 : decode cL_part 3 = .ok (.ishr, 1) := by decide +kernel
theorem dL_part_4 : decode cL_part 4 = .ok (.bipush 31, 2) := by decide +kernel
theorem dL_part_6 : decode cL_part 6 = .ok (.imul, 1) := by decide +kernel
theorem dL_part_7 : decode cL_part 7 = .ok (.iload_n 0, 1) := by decide +kernel
theorem dL_part_8 : decode cL_part 8 = .ok (.bipush 13, 2) := by decide +kernel
theorem dL_part_10 : decode cL_part 10 = .ok (.ishr, 1) := by decide +kernel
theorem dL_part_11 : decode cL_part 11 = .ok (.iadd, 1) := by decide +kernel
theorem dL_part_12 : decode cL_part 12 = .ok (.sipush 1021, 3) := by decide +kernel
theorem dL_part_15 : decode cL_part 15 = .ok (.iconst 3, 1) := by decide +kernel
theorem dL_part_16 : decode cL_part 16 = .ok (.iload_n 1, 1) := by decide +kernel
theorem dL_part_17 : decode cL_part 17 = .ok (.imul, 1) := by decide +kernel
theorem dL_part_18 : decode cL_part 18 = .ok (.iload_n 2, 1) := by decide +kernel
theorem dL_part_19 : decode cL_part 19 = .ok (.iadd, 1) := by decide +kernel
theorem dL_part_20 : decode cL_part 20 = .ok (.imul, 1) := by decide +kernel
theorem dL_part_21 : decode cL_part 21 = .ok (.iadd, 1) := by decide +kernel
theorem dL_part_22 : decode cL_part 22 = .ok (.iload_n 0, 1) := by decide +kernel
theorem dL_part_23 : decode cL_part 23 = .ok (.iconst 3, 1) := by decide +kernel
theorem dL_part_24 : decode cL_part 24 = .ok (.iload_n 2, 1) := by decide +kernel
theorem dL_part_25 : decode cL_part 25 = .ok (.imul, 1) := by decide +kernel
theorem dL_part_26 : decode cL_part 26 = .ok (.iload_n 1, 1) := by decide +kernel
theorem dL_part_27 : decode cL_part 27 = .ok (.iadd, 1) := by decide +kernel
theorem dL_part_28 : decode cL_part 28 = .ok (.ishr, 1) := by decide +kernel
theorem dL_part_29 : decode cL_part 29 = .ok (.ixor, 1) := by decide +kernel
theorem dL_part_30 : decode cL_part 30 = .ok (.ireturn, 1) := by decide +kernel
theorem dL_letter_0 : decode cL_letter 0 = .ok (.iload_n 0, 1) := by decide +kernel
theorem dL_letter_1 : decode cL_letter 1 = .ok (.bipush 8, 2) := by decide +kernel
theorem dL_letter_3 : decode cL_letter 3 = .ok (.invokestatic 20, 3) := by decide +kernel
theorem dL_letter_6 : decode cL_letter 6 = .ok (.istore_n 1, 1) := by decide +kernel
theorem dL_letter_7 : decode cL_letter 7 = .ok (.iload_n 1, 1) := by decide +kernel
theorem dL_letter_8 : decode cL_letter 8 = .ok (.iconst 4, 1) := by decide +kernel
theorem dL_letter_9 : decode cL_letter 9 = .ok (.if_icmp .ge 10, 3) := by decide +kernel
theorem dL_letter_12 : decode cL_letter 12 = .ok (.bipush 97, 2) := by decide +kernel
theorem dL_letter_14 : decode cL_letter 14 = .ok (.iload_n 1, 1) := by decide +kernel
theorem dL_letter_15 : decode cL_letter 15 = .ok (.iadd, 1) := by decide +kernel
theorem dL_letter_16 : decode cL_letter 16 = .ok (.goto 9, 3) := by decide +kernel
theorem dL_letter_19 : decode cL_letter 19 = .ok (.bipush 65, 2) := by decide +kernel
theorem dL_letter_21 : decode cL_letter 21 = .ok (.iload_n 1, 1) := by decide +kernel
theorem dL_letter_22 : decode cL_letter 22 = .ok (.iadd, 1) := by decide +kernel
theorem dL_letter_23 : decode cL_letter 23 = .ok (.iconst 4, 1) := by decide +kernel
theorem dL_letter_24 : decode cL_letter 24 = .ok (.isub, 1) := by decide +kernel
theorem dL_letter_25 : decode cL_letter 25 = .ok (.ireturn, 1) := by decide +kernel
theorem dL_isNot_0 : decode cL_isNot 0 = .ok (.iload_n 0, 1) := by decide +kernel
theorem dL_isNot_1 : decode cL_isNot 1 = .ok (.iconst 3, 1) := by decide +kernel
theorem dL_isNot_2 : decode cL_isNot 2 = .ok (.ishr, 1) := by decide +kernel
theorem dL_isNot_3 : decode cL_isNot 3 = .ok (.iconst 3, 1) := by decide +kernel
theorem dL_isNot_4 : decode cL_isNot 4 = .ok (.invokestatic 20, 3) := by decide +kernel
theorem dL_isNot_7 : decode cL_isNot 7 = .ok (.ifCond .ne 7, 3) := by decide +kernel
theorem dL_isNot_10 : decode cL_isNot 10 = .ok (.iconst 1, 1) := by decide +kernel
theorem dL_isNot_11 : decode cL_isNot 11 = .ok (.goto 4, 3) := by decide +kernel
theorem dL_isNot_14 : decode cL_isNot 14 = .ok (.iconst 0, 1) := by decide +kernel
theorem dL_isNot_15 : decode cL_isNot 15 = .ok (.ireturn, 1) := by decide +kernel
theorem dL_isTwo_0 : decode cL_isTwo 0 = .ok (.iload_n 0, 1) := by decide +kernel
theorem dL_isTwo_1 : decode cL_isTwo 1 = .ok (.iconst 5, 1) := by decide +kernel
theorem dL_isTwo_2 : decode cL_isTwo 2 = .ok (.ishr, 1) := by decide +kernel
theorem dL_isTwo_3 : decode cL_isTwo 3 = .ok (.iconst 3, 1) := by decide +kernel
theorem dL_isTwo_4 : decode cL_isTwo 4 = .ok (.invokestatic 20, 3) := by decide +kernel
theorem dL_isTwo_7 : decode cL_isTwo 7 = .ok (.ifCond .ne 7, 3) := by decide +kernel
theorem dL_isTwo_10 : decode cL_isTwo 10 = .ok (.iconst 1, 1) := by decide +kernel
theorem dL_isTwo_11 : decode cL_isTwo 11 = .ok (.goto 4, 3) := by decide +kernel
theorem dL_isTwo_14 : decode cL_isTwo 14 = .ok (.iconst 0, 1) := by decide +kernel
theorem dL_isTwo_15 : decode cL_isTwo 15 = .ok (.ireturn, 1) := by decide +kernel
theorem dL_write_0 : decode cL_write 0 = .ok (.iconst 1, 1) := by decide +kernel
theorem dL_write_1 : decode cL_write 1 = .ok (.istore_n 2, 1) := by decide +kernel
theorem dL_write_2 : decode cL_write 2 = .ok (.iconst 0, 1) := by decide +kernel
theorem dL_write_3 : decode cL_write 3 = .ok (.istore_n 3, 1) := by decide +kernel
theorem dL_write_4 : decode cL_write 4 = .ok (.iload_n 3, 1) := by decide +kernel
theorem dL_write_5 : decode cL_write 5 = .ok (.iload_n 1, 1) := by decide +kernel
theorem dL_write_6 : decode cL_write 6 = .ok (.invokestatic 26, 3) := by decide +kernel
theorem dL_write_9 : decode cL_write 9 = .ok (.if_icmp .ge 181, 3) := by decide +kernel
theorem dL_write_12 : decode cL_write 12 = .ok (.iload_n 2, 1) := by decide +kernel
theorem dL_write_13 : decode cL_write 13 = .ok (.ifCond .eq 20, 3) := by decide +kernel
theorem dL_write_16 : decode cL_write 16 = .ok (.iload_n 3, 1) := by decide +kernel
theorem dL_write_17 : decode cL_write 17 = .ok (.ifCond .eq 12, 3) := by decide +kernel
theorem dL_write_20 : decode cL_write 20 = .ok (.aload_n 0, 1) := by decide +kernel
theorem dL_write_21 : decode cL_write 21 = .ok (.bipush 124, 2) := by decide +kernel
theorem dL_write_23 : decode cL_write 23 = .ok (.invokestatic 29, 3) := by decide +kernel
theorem dL_write_26 : decode cL_write 26 = .ok (.ifCond .eq 7, 3) := by decide +kernel
theorem dL_write_29 : decode cL_write 29 = .ok (.iconst 1, 1) := by decide +kernel
theorem dL_write_30 : decode cL_write 30 = .ok (.goto 4, 3) := by decide +kernel
theorem dL_write_33 : decode cL_write 33 = .ok (.iconst 0, 1) := by decide +kernel
theorem dL_write_34 : decode cL_write 34 = .ok (.istore_n 2, 1) := by decide +kernel
theorem dL_write_35 : decode cL_write 35 = .ok (.iconst 0, 1) := by decide +kernel
theorem dL_write_36 : decode cL_write 36 = .ok (.istore 4, 2) := by decide +kernel
theorem dL_write_38 : decode cL_write 38 = .ok (.iload 4, 2) := by decide +kernel
theorem dL_write_40 : decode cL_write 40 = .ok (.iload_n 1, 1) := by decide +kernel
theorem dL_write_41 : decode cL_write 41 = .ok (.iload_n 3, 1) := by decide +kernel
theorem dL_write_42 : decode cL_write 42 = .ok (.invokestatic 33, 3) := by decide +kernel
theorem dL_write_45 : decode cL_write 45 = .ok (.if_icmp .ge 139, 3) := by decide +kernel
theorem dL_write_48 : decode cL_write 48 = .ok (.iload_n 1, 1) := by decide +kernel
theorem dL_write_49 : decode cL_write 49 = .ok (.iload_n 3, 1) := by decide +kernel
theorem dL_write_50 : decode cL_write 50 = .ok (.iload 4, 2) := by decide +kernel
theorem dL_write_52 : decode cL_write 52 = .ok (.invokestatic 36, 3) := by decide +kernel
theorem dL_write_55 : decode cL_write 55 = .ok (.istore 5, 2) := by decide +kernel
theorem dL_write_57 : decode cL_write 57 = .ok (.iload_n 2, 1) := by decide +kernel
theorem dL_write_58 : decode cL_write 58 = .ok (.ifCond .eq 67, 3) := by decide +kernel
theorem dL_write_61 : decode cL_write 61 = .ok (.iload 4, 2) := by decide +kernel
theorem dL_write_63 : decode cL_write 63 = .ok (.ifCond .eq 12, 3) := by decide +kernel
theorem dL_write_66 : decode cL_write 66 = .ok (.aload_n 0, 1) := by decide +kernel
theorem dL_write_67 : decode cL_write 67 = .ok (.bipush 38, 2) := by decide +kernel
theorem dL_write_69 : decode cL_write 69 = .ok (.invokestatic 29, 3) := by decide +kernel
theorem dL_write_72 : decode cL_write 72 = .ok (.ifCond .eq 53, 3) := by decide +kernel
theorem dL_write_75 : decode cL_write 75 = .ok (.iload 5, 2) := by decide +kernel
theorem dL_write_77 : decode cL_write 77 = .ok (.invokestatic 40, 3) := by decide +kernel
theorem dL_write_80 : decode cL_write 80 = .ok (.ifCond .eq 12, 3) := by decide +kernel
theorem dL_write_83 : decode cL_write 83 = .ok (.aload_n 0, 1) := by decide +kernel
theorem dL_write_84 : decode cL_write 84 = .ok (.bipush 33, 2) := by decide +kernel
theorem dL_write_86 : decode cL_write 86 = .ok (.invokestatic 29, 3) := by decide +kernel
theorem dL_write_89 : decode cL_write 89 = .ok (.ifCond .eq 36, 3) := by decide +kernel
theorem dL_write_92 : decode cL_write 92 = .ok (.iload 5, 2) := by decide +kernel
theorem dL_write_94 : decode cL_write 94 = .ok (.invokestatic 44, 3) := by decide +kernel
theorem dL_write_97 : decode cL_write 97 = .ok (.ifCond .eq 12, 3) := by decide +kernel
theorem dL_write_100 : decode cL_write 100 = .ok (.aload_n 0, 1) := by decide +kernel
theorem dL_write_101 : decode cL_write 101 = .ok (.bipush 40, 2) := by decide +kernel
theorem dL_write_103 : decode cL_write 103 = .ok (.invokestatic 29, 3) := by decide +kernel
theorem dL_write_106 : decode cL_write 106 = .ok (.ifCond .eq 19, 3) := by decide +kernel
theorem dL_write_109 : decode cL_write 109 = .ok (.aload_n 0, 1) := by decide +kernel
theorem dL_write_110 : decode cL_write 110 = .ok (.iload 5, 2) := by decide +kernel
theorem dL_write_112 : decode cL_write 112 = .ok (.invokestatic 47, 3) := by decide +kernel
theorem dL_write_115 : decode cL_write 115 = .ok (.invokestatic 29, 3) := by decide +kernel
theorem dL_write_118 : decode cL_write 118 = .ok (.ifCond .eq 7, 3) := by decide +kernel
theorem dL_write_121 : decode cL_write 121 = .ok (.iconst 1, 1) := by decide +kernel
theorem dL_write_122 : decode cL_write 122 = .ok (.goto 4, 3) := by decide +kernel
theorem dL_write_125 : decode cL_write 125 = .ok (.iconst 0, 1) := by decide +kernel
theorem dL_write_126 : decode cL_write 126 = .ok (.istore_n 2, 1) := by decide +kernel
theorem dL_write_127 : decode cL_write 127 = .ok (.iload_n 2, 1) := by decide +kernel
theorem dL_write_128 : decode cL_write 128 = .ok (.ifCond .eq 48, 3) := by decide +kernel
theorem dL_write_131 : decode cL_write 131 = .ok (.iload 5, 2) := by decide +kernel
theorem dL_write_133 : decode cL_write 133 = .ok (.invokestatic 44, 3) := by decide +kernel
theorem dL_write_136 : decode cL_write 136 = .ok (.ifCond .eq 36, 3) := by decide +kernel
theorem dL_write_139 : decode cL_write 139 = .ok (.aload_n 0, 1) := by decide +kernel
theorem dL_write_140 : decode cL_write 140 = .ok (.bipush 124, 2) := by decide +kernel
theorem dL_write_142 : decode cL_write 142 = .ok (.invokestatic 29, 3) := by decide +kernel
theorem dL_write_145 : decode cL_write 145 = .ok (.ifCond .eq 31, 3) := by decide +kernel
theorem dL_write_148 : decode cL_write 148 = .ok (.aload_n 0, 1) := by decide +kernel
theorem dL_write_149 : decode cL_write 149 = .ok (.iload 5, 2) := by decide +kernel
theorem dL_write_151 : decode cL_write 151 = .ok (.bipush 7, 2) := by decide +kernel
theorem dL_write_153 : decode cL_write 153 = .ok (.ishr, 1) := by decide +kernel
theorem dL_write_154 : decode cL_write 154 = .ok (.invokestatic 47, 3) := by decide +kernel
theorem dL_write_157 : decode cL_write 157 = .ok (.invokestatic 29, 3) := by decide +kernel
theorem dL_write_160 : decode cL_write 160 = .ok (.ifCond .eq 16, 3) := by decide +kernel
theorem dL_write_163 : decode cL_write 163 = .ok (.aload_n 0, 1) := by decide +kernel
theorem dL_write_164 : decode cL_write 164 = .ok (.bipush 41, 2) := by decide +kernel
theorem dL_write_166 : decode cL_write 166 = .ok (.invokestatic 29, 3) := by decide +kernel
theorem dL_write_169 : decode cL_write 169 = .ok (.ifCond .eq 7, 3) := by decide +kernel
theorem dL_write_172 : decode cL_write 172 = .ok (.iconst 1, 1) := by decide +kernel
theorem dL_write_173 : decode cL_write 173 = .ok (.goto 4, 3) := by decide +kernel
theorem dL_write_176 : decode cL_write 176 = .ok (.iconst 0, 1) := by decide +kernel
theorem dL_write_177 : decode cL_write 177 = .ok (.istore_n 2, 1) := by decide +kernel
theorem dL_write_178 : decode cL_write 178 = .ok (.iinc 4 1, 3) := by decide +kernel
theorem dL_write_181 : decode cL_write 181 = .ok (.goto (-143), 3) := by decide +kernel
theorem dL_write_184 : decode cL_write 184 = .ok (.iinc 3 1, 3) := by decide +kernel
theorem dL_write_187 : decode cL_write 187 = .ok (.goto (-183), 3) := by decide +kernel
theorem dL_write_190 : decode cL_write 190 = .ok (.iload_n 2, 1) := by decide +kernel
theorem dL_write_191 : decode cL_write 191 = .ok (.ireturn, 1) := by decide +kernel
theorem dL_isSo_0 : decode cL_isSo 0 = .ok (.iload_n 0, 1) := by decide +kernel
theorem dL_isSo_1 : decode cL_isSo 1 = .ok (.bipush 97, 2) := by decide +kernel
theorem dL_isSo_3 : decode cL_isSo 3 = .ok (.if_icmp .ge 7, 3) := by decide +kernel
theorem dL_isSo_6 : decode cL_isSo 6 = .ok (.iconst 1, 1) := by decide +kernel
theorem dL_isSo_7 : decode cL_isSo 7 = .ok (.goto 4, 3) := by decide +kernel
theorem dL_isSo_10 : decode cL_isSo 10 = .ok (.iconst 0, 1) := by decide +kernel
theorem dL_isSo_11 : decode cL_isSo 11 = .ok (.istore_n 2, 1) := by decide +kernel
theorem dL_isSo_12 : decode cL_isSo 12 = .ok (.iload_n 2, 1) := by decide +kernel
theorem dL_isSo_13 : decode cL_isSo 13 = .ok (.ifCond .eq 10, 3) := by decide +kernel
theorem dL_isSo_16 : decode cL_isSo 16 = .ok (.iload_n 0, 1) := by decide +kernel
theorem dL_isSo_17 : decode cL_isSo 17 = .ok (.bipush 65, 2) := by decide +kernel
theorem dL_isSo_19 : decode cL_isSo 19 = .ok (.isub, 1) := by decide +kernel
theorem dL_isSo_20 : decode cL_isSo 20 = .ok (.goto 7, 3) := by decide +kernel
theorem dL_isSo_23 : decode cL_isSo 23 = .ok (.iload_n 0, 1) := by decide +kernel
theorem dL_isSo_24 : decode cL_isSo 24 = .ok (.bipush 97, 2) := by decide +kernel
theorem dL_isSo_26 : decode cL_isSo 26 = .ok (.isub, 1) := by decide +kernel
theorem dL_isSo_27 : decode cL_isSo 27 = .ok (.istore_n 3, 1) := by decide +kernel
theorem dL_isSo_28 : decode cL_isSo 28 = .ok (.iload_n 1, 1) := by decide +kernel
theorem dL_isSo_29 : decode cL_isSo 29 = .ok (.iconst 2, 1) := by decide +kernel
theorem dL_isSo_30 : decode cL_isSo 30 = .ok (.iload_n 3, 1) := by decide +kernel
theorem dL_isSo_31 : decode cL_isSo 31 = .ok (.imul, 1) := by decide +kernel
theorem dL_isSo_32 : decode cL_isSo 32 = .ok (.ishr, 1) := by decide +kernel
theorem dL_isSo_33 : decode cL_isSo 33 = .ok (.iconst 1, 1) := by decide +kernel
theorem dL_isSo_34 : decode cL_isSo 34 = .ok (.iand, 1) := by decide +kernel
theorem dL_isSo_35 : decode cL_isSo 35 = .ok (.iconst 1, 1) := by decide +kernel
theorem dL_isSo_36 : decode cL_isSo 36 = .ok (.if_icmp .ne 7, 3) := by decide +kernel
theorem dL_isSo_39 : decode cL_isSo 39 = .ok (.iconst 1, 1) := by decide +kernel
theorem dL_isSo_40 : decode cL_isSo 40 = .ok (.goto 4, 3) := by decide +kernel
theorem dL_isSo_43 : decode cL_isSo 43 = .ok (.iconst 0, 1) := by decide +kernel
theorem dL_isSo_44 : decode cL_isSo 44 = .ok (.istore 4, 2) := by decide +kernel
theorem dL_isSo_46 : decode cL_isSo 46 = .ok (.iload_n 1, 1) := by decide +kernel
theorem dL_isSo_47 : decode cL_isSo 47 = .ok (.iconst 2, 1) := by decide +kernel
theorem dL_isSo_48 : decode cL_isSo 48 = .ok (.iload_n 3, 1) := by decide +kernel
theorem dL_isSo_49 : decode cL_isSo 49 = .ok (.imul, 1) := by decide +kernel
theorem dL_isSo_50 : decode cL_isSo 50 = .ok (.iconst 1, 1) := by decide +kernel
theorem dL_isSo_51 : decode cL_isSo 51 = .ok (.iadd, 1) := by decide +kernel
theorem dL_isSo_52 : decode cL_isSo 52 = .ok (.ishr, 1) := by decide +kernel
theorem dL_isSo_53 : decode cL_isSo 53 = .ok (.iconst 1, 1) := by decide +kernel
theorem dL_isSo_54 : decode cL_isSo 54 = .ok (.iand, 1) := by decide +kernel
theorem dL_isSo_55 : decode cL_isSo 55 = .ok (.iconst 1, 1) := by decide +kernel
theorem dL_isSo_56 : decode cL_isSo 56 = .ok (.if_icmp .ne 7, 3) := by decide +kernel
theorem dL_isSo_59 : decode cL_isSo 59 = .ok (.iconst 1, 1) := by decide +kernel
theorem dL_isSo_60 : decode cL_isSo 60 = .ok (.goto 4, 3) := by decide +kernel
theorem dL_isSo_63 : decode cL_isSo 63 = .ok (.iconst 0, 1) := by decide +kernel
theorem dL_isSo_64 : decode cL_isSo 64 = .ok (.istore 5, 2) := by decide +kernel
theorem dL_isSo_66 : decode cL_isSo 66 = .ok (.iload_n 2, 1) := by decide +kernel
theorem dL_isSo_67 : decode cL_isSo 67 = .ok (.ifCond .eq 21, 3) := by decide +kernel
theorem dL_isSo_70 : decode cL_isSo 70 = .ok (.iload 4, 2) := by decide +kernel
theorem dL_isSo_72 : decode cL_isSo 72 = .ok (.ifCond .eq 12, 3) := by decide +kernel
theorem dL_isSo_75 : decode cL_isSo 75 = .ok (.iload 5, 2) := by decide +kernel
theorem dL_isSo_77 : decode cL_isSo 77 = .ok (.ifCond .eq 7, 3) := by decide +kernel
theorem dL_isSo_80 : decode cL_isSo 80 = .ok (.iconst 1, 1) := by decide +kernel
theorem dL_isSo_81 : decode cL_isSo 81 = .ok (.goto 22, 3) := by decide +kernel
theorem dL_isSo_84 : decode cL_isSo 84 = .ok (.iconst 0, 1) := by decide +kernel
theorem dL_isSo_85 : decode cL_isSo 85 = .ok (.goto 18, 3) := by decide +kernel
theorem dL_isSo_88 : decode cL_isSo 88 = .ok (.iload 4, 2) := by decide +kernel
theorem dL_isSo_90 : decode cL_isSo 90 = .ok (.ifCond .ne 8, 3) := by decide +kernel
theorem dL_isSo_93 : decode cL_isSo 93 = .ok (.iload 5, 2) := by decide +kernel
theorem dL_isSo_95 : decode cL_isSo 95 = .ok (.ifCond .eq 7, 3) := by decide +kernel
theorem dL_isSo_98 : decode cL_isSo 98 = .ok (.iconst 1, 1) := by decide +kernel
theorem dL_isSo_99 : decode cL_isSo 99 = .ok (.goto 4, 3) := by decide +kernel
theorem dL_isSo_102 : decode cL_isSo 102 = .ok (.iconst 0, 1) := by decide +kernel
theorem dL_isSo_103 : decode cL_isSo 103 = .ok (.ireturn, 1) := by decide +kernel
theorem dL_isPart_0 : decode cL_isPart 0 = .ok (.iload_n 0, 1) := by decide +kernel
theorem dL_isPart_1 : decode cL_isPart 1 = .ok (.invokestatic 47, 3) := by decide +kernel
theorem dL_isPart_4 : decode cL_isPart 4 = .ok (.iload_n 1, 1) := by decide +kernel
theorem dL_isPart_5 : decode cL_isPart 5 = .ok (.invokestatic 50, 3) := by decide +kernel
theorem dL_isPart_8 : decode cL_isPart 8 = .ok (.ifCond .ne 24, 3) := by decide +kernel
theorem dL_isPart_11 : decode cL_isPart 11 = .ok (.iload_n 0, 1) := by decide +kernel
theorem dL_isPart_12 : decode cL_isPart 12 = .ok (.invokestatic 44, 3) := by decide +kernel
theorem dL_isPart_15 : decode cL_isPart 15 = .ok (.ifCond .eq 21, 3) := by decide +kernel
theorem dL_isPart_18 : decode cL_isPart 18 = .ok (.iload_n 0, 1) := by decide +kernel
theorem dL_isPart_19 : decode cL_isPart 19 = .ok (.bipush 7, 2) := by decide +kernel
theorem dL_isPart_21 : decode cL_isPart 21 = .ok (.ishr, 1) := by decide +kernel
theorem dL_isPart_22 : decode cL_isPart 22 = .ok (.invokestatic 47, 3) := by decide +kernel
theorem dL_isPart_25 : decode cL_isPart 25 = .ok (.iload_n 1, 1) := by decide +kernel
theorem dL_isPart_26 : decode cL_isPart 26 = .ok (.invokestatic 50, 3) := by decide +kernel
theorem dL_isPart_29 : decode cL_isPart 29 = .ok (.ifCond .eq 7, 3) := by decide +kernel
theorem dL_isPart_32 : decode cL_isPart 32 = .ok (.iconst 1, 1) := by decide +kernel
theorem dL_isPart_33 : decode cL_isPart 33 = .ok (.goto 4, 3) := by decide +kernel
theorem dL_isPart_36 : decode cL_isPart 36 = .ok (.iconst 0, 1) := by decide +kernel
theorem dL_isPart_37 : decode cL_isPart 37 = .ok (.iload_n 0, 1) := by decide +kernel
theorem dL_isPart_38 : decode cL_isPart 38 = .ok (.invokestatic 40, 3) := by decide +kernel
theorem dL_isPart_41 : decode cL_isPart 41 = .ok (.if_icmp .eq 7, 3) := by decide +kernel
theorem dL_isPart_44 : decode cL_isPart 44 = .ok (.iconst 1, 1) := by decide +kernel
theorem dL_isPart_45 : decode cL_isPart 45 = .ok (.goto 4, 3) := by decide +kernel
theorem dL_isPart_48 : decode cL_isPart 48 = .ok (.iconst 0, 1) := by decide +kernel
theorem dL_isPart_49 : decode cL_isPart 49 = .ok (.ireturn, 1) := by decide +kernel
theorem dL_holds_0 : decode cL_holds 0 = .ok (.iconst 0, 1) := by decide +kernel
theorem dL_holds_1 : decode cL_holds 1 = .ok (.istore_n 2, 1) := by decide +kernel
theorem dL_holds_2 : decode cL_holds 2 = .ok (.iconst 0, 1) := by decide +kernel
theorem dL_holds_3 : decode cL_holds 3 = .ok (.istore_n 3, 1) := by decide +kernel
theorem dL_holds_4 : decode cL_holds 4 = .ok (.iload_n 3, 1) := by decide +kernel
theorem dL_holds_5 : decode cL_holds 5 = .ok (.iload_n 0, 1) := by decide +kernel
theorem dL_holds_6 : decode cL_holds 6 = .ok (.invokestatic 26, 3) := by decide +kernel
theorem dL_holds_9 : decode cL_holds 9 = .ok (.if_icmp .ge 72, 3) := by decide +kernel
theorem dL_holds_12 : decode cL_holds 12 = .ok (.iconst 1, 1) := by decide +kernel
theorem dL_holds_13 : decode cL_holds 13 = .ok (.istore 4, 2) := by decide +kernel
theorem dL_holds_15 : decode cL_holds 15 = .ok (.iconst 0, 1) := by decide +kernel
theorem dL_holds_16 : decode cL_holds 16 = .ok (.istore 5, 2) := by decide +kernel
theorem dL_holds_18 : decode cL_holds 18 = .ok (.iload 5, 2) := by decide +kernel
theorem dL_holds_20 : decode cL_holds 20 = .ok (.iload_n 0, 1) := by decide +kernel
theorem dL_holds_21 : decode cL_holds 21 = .ok (.iload_n 3, 1) := by decide +kernel
theorem dL_holds_22 : decode cL_holds 22 = .ok (.invokestatic 33, 3) := by decide +kernel
theorem dL_holds_25 : decode cL_holds 25 = .ok (.if_icmp .ge 35, 3) := by decide +kernel
theorem dL_holds_28 : decode cL_holds 28 = .ok (.iload 4, 2) := by decide +kernel
theorem dL_holds_30 : decode cL_holds 30 = .ok (.ifCond .eq 21, 3) := by decide +kernel
theorem dL_holds_33 : decode cL_holds 33 = .ok (.iload_n 0, 1) := by decide +kernel
theorem dL_holds_34 : decode cL_holds 34 = .ok (.iload_n 3, 1) := by decide +kernel
theorem dL_holds_35 : decode cL_holds 35 = .ok (.iload 5, 2) := by decide +kernel
theorem dL_holds_37 : decode cL_holds 37 = .ok (.invokestatic 36, 3) := by decide +kernel
theorem dL_holds_40 : decode cL_holds 40 = .ok (.iload_n 1, 1) := by decide +kernel
theorem dL_holds_41 : decode cL_holds 41 = .ok (.invokestatic 54, 3) := by decide +kernel
theorem dL_holds_44 : decode cL_holds 44 = .ok (.ifCond .eq 7, 3) := by decide +kernel
theorem dL_holds_47 : decode cL_holds 47 = .ok (.iconst 1, 1) := by decide +kernel
theorem dL_holds_48 : decode cL_holds 48 = .ok (.goto 4, 3) := by decide +kernel
theorem dL_holds_51 : decode cL_holds 51 = .ok (.iconst 0, 1) := by decide +kernel
theorem dL_holds_52 : decode cL_holds 52 = .ok (.istore 4, 2) := by decide +kernel
theorem dL_holds_54 : decode cL_holds 54 = .ok (.iinc 5 1, 3) := by decide +kernel
theorem dL_holds_57 : decode cL_holds 57 = .ok (.goto (-39), 3) := by decide +kernel
theorem dL_holds_60 : decode cL_holds 60 = .ok (.iload_n 2, 1) := by decide +kernel
theorem dL_holds_61 : decode cL_holds 61 = .ok (.ifCond .ne 8, 3) := by decide +kernel
theorem dL_holds_64 : decode cL_holds 64 = .ok (.iload 4, 2) := by decide +kernel
theorem dL_holds_66 : decode cL_holds 66 = .ok (.ifCond .eq 7, 3) := by decide +kernel
theorem dL_holds_69 : decode cL_holds 69 = .ok (.iconst 1, 1) := by decide +kernel
theorem dL_holds_70 : decode cL_holds 70 = .ok (.goto 4, 3) := by decide +kernel
theorem dL_holds_73 : decode cL_holds 73 = .ok (.iconst 0, 1) := by decide +kernel
theorem dL_holds_74 : decode cL_holds 74 = .ok (.istore_n 2, 1) := by decide +kernel
theorem dL_holds_75 : decode cL_holds 75 = .ok (.iinc 3 1, 3) := by decide +kernel
theorem dL_holds_78 : decode cL_holds 78 = .ok (.goto (-74), 3) := by decide +kernel
theorem dL_holds_81 : decode cL_holds 81 = .ok (.iload_n 2, 1) := by decide +kernel
theorem dL_holds_82 : decode cL_holds 82 = .ok (.ireturn, 1) := by decide +kernel
theorem dL_bits_0 : decode cL_bits 0 = .ok (.iconst 0, 1) := by decide +kernel
theorem dL_bits_1 : decode cL_bits 1 = .ok (.istore_n 1, 1) := by decide +kernel
theorem dL_bits_2 : decode cL_bits 2 = .ok (.iconst 0, 1) := by decide +kernel
theorem dL_bits_3 : decode cL_bits 3 = .ok (.istore_n 2, 1) := by decide +kernel
theorem dL_bits_4 : decode cL_bits 4 = .ok (.iload_n 2, 1) := by decide +kernel
theorem dL_bits_5 : decode cL_bits 5 = .ok (.bipush 8, 2) := by decide +kernel
theorem dL_bits_7 : decode cL_bits 7 = .ok (.if_icmp .ge 17, 3) := by decide +kernel
theorem dL_bits_10 : decode cL_bits 10 = .ok (.iload_n 1, 1) := by decide +kernel
theorem dL_bits_11 : decode cL_bits 11 = .ok (.iload_n 0, 1) := by decide +kernel
theorem dL_bits_12 : decode cL_bits 12 = .ok (.iload_n 2, 1) := by decide +kernel
theorem dL_bits_13 : decode cL_bits 13 = .ok (.ishr, 1) := by decide +kernel
theorem dL_bits_14 : decode cL_bits 14 = .ok (.iconst 1, 1) := by decide +kernel
theorem dL_bits_15 : decode cL_bits 15 = .ok (.iand, 1) := by decide +kernel
theorem dL_bits_16 : decode cL_bits 16 = .ok (.iadd, 1) := by decide +kernel
theorem dL_bits_17 : decode cL_bits 17 = .ok (.istore_n 1, 1) := by decide +kernel
theorem dL_bits_18 : decode cL_bits 18 = .ok (.iinc 2 1, 3) := by decide +kernel
theorem dL_bits_21 : decode cL_bits 21 = .ok (.goto (-17), 3) := by decide +kernel
theorem dL_bits_24 : decode cL_bits 24 = .ok (.iload_n 1, 1) := by decide +kernel
theorem dL_bits_25 : decode cL_bits 25 = .ok (.ireturn, 1) := by decide +kernel
theorem dL_looked_0 : decode cL_looked 0 = .ok (.iconst 0, 1) := by decide +kernel
theorem dL_looked_1 : decode cL_looked 1 = .ok (.istore_n 3, 1) := by decide +kernel
theorem dL_looked_2 : decode cL_looked 2 = .ok (.iconst 0, 1) := by decide +kernel
theorem dL_looked_3 : decode cL_looked 3 = .ok (.istore 4, 2) := by decide +kernel
theorem dL_looked_5 : decode cL_looked 5 = .ok (.iconst 0, 1) := by decide +kernel
theorem dL_looked_6 : decode cL_looked 6 = .ok (.istore 5, 2) := by decide +kernel
theorem dL_looked_8 : decode cL_looked 8 = .ok (.iload 5, 2) := by decide +kernel
theorem dL_looked_10 : decode cL_looked 10 = .ok (.iload_n 0, 1) := by decide +kernel
theorem dL_looked_11 : decode cL_looked 11 = .ok (.invokestatic 26, 3) := by decide +kernel
theorem dL_looked_14 : decode cL_looked 14 = .ok (.if_icmp .ge 219, 3) := by decide +kernel
theorem dL_looked_17 : decode cL_looked 17 = .ok (.iload_n 3, 1) := by decide +kernel
theorem dL_looked_18 : decode cL_looked 18 = .ok (.iload 5, 2) := by decide +kernel
theorem dL_looked_20 : decode cL_looked 20 = .ok (.ifCond .le 7, 3) := by decide +kernel
theorem dL_looked_23 : decode cL_looked 23 = .ok (.iconst 1, 1) := by decide +kernel
theorem dL_looked_24 : decode cL_looked 24 = .ok (.goto 4, 3) := by decide +kernel
theorem dL_looked_27 : decode cL_looked 27 = .ok (.iconst 0, 1) := by decide +kernel
theorem dL_looked_28 : decode cL_looked 28 = .ok (.iadd, 1) := by decide +kernel
theorem dL_looked_29 : decode cL_looked 29 = .ok (.istore_n 3, 1) := by decide +kernel
theorem dL_looked_30 : decode cL_looked 30 = .ok (.iconst 1, 1) := by decide +kernel
theorem dL_looked_31 : decode cL_looked 31 = .ok (.istore 6, 2) := by decide +kernel
theorem dL_looked_33 : decode cL_looked 33 = .ok (.iconst 0, 1) := by decide +kernel
theorem dL_looked_34 : decode cL_looked 34 = .ok (.istore 7, 2) := by decide +kernel
theorem dL_looked_36 : decode cL_looked 36 = .ok (.iload 7, 2) := by decide +kernel
theorem dL_looked_38 : decode cL_looked 38 = .ok (.iload_n 0, 1) := by decide +kernel
theorem dL_looked_39 : decode cL_looked 39 = .ok (.iload 5, 2) := by decide +kernel
theorem dL_looked_41 : decode cL_looked 41 = .ok (.invokestatic 33, 3) := by decide +kernel
theorem dL_looked_44 : decode cL_looked 44 = .ok (.if_icmp .ge 166, 3) := by decide +kernel
theorem dL_looked_47 : decode cL_looked 47 = .ok (.iload_n 0, 1) := by decide +kernel
theorem dL_looked_48 : decode cL_looked 48 = .ok (.iload 5, 2) := by decide +kernel
theorem dL_looked_50 : decode cL_looked 50 = .ok (.iload 7, 2) := by decide +kernel
theorem dL_looked_52 : decode cL_looked 52 = .ok (.invokestatic 36, 3) := by decide +kernel
theorem dL_looked_55 : decode cL_looked 55 = .ok (.istore 8, 2) := by decide +kernel
theorem dL_looked_57 : decode cL_looked 57 = .ok (.iload_n 2, 1) := by decide +kernel
theorem dL_looked_58 : decode cL_looked 58 = .ok (.ifCond .ne 13, 3) := by decide +kernel
theorem dL_looked_61 : decode cL_looked 61 = .ok (.iload 4, 2) := by decide +kernel
theorem dL_looked_63 : decode cL_looked 63 = .ok (.ifCond .ne 12, 3) := by decide +kernel
theorem dL_looked_66 : decode cL_looked 66 = .ok (.iload 6, 2) := by decide +kernel
theorem dL_looked_68 : decode cL_looked 68 = .ok (.ifCond .eq 7, 3) := by decide +kernel
theorem dL_looked_71 : decode cL_looked 71 = .ok (.iconst 1, 1) := by decide +kernel
theorem dL_looked_72 : decode cL_looked 72 = .ok (.goto 4, 3) := by decide +kernel
theorem dL_looked_75 : decode cL_looked 75 = .ok (.iconst 0, 1) := by decide +kernel
theorem dL_looked_76 : decode cL_looked 76 = .ok (.istore 9, 2) := by decide +kernel
theorem dL_looked_78 : decode cL_looked 78 = .ok (.iload_n 3, 1) := by decide +kernel
theorem dL_looked_79 : decode cL_looked 79 = .ok (.iload 7, 2) := by decide +kernel
theorem dL_looked_81 : decode cL_looked 81 = .ok (.ifCond .le 16, 3) := by decide +kernel
theorem dL_looked_84 : decode cL_looked 84 = .ok (.iload_n 2, 1) := by decide +kernel
theorem dL_looked_85 : decode cL_looked 85 = .ok (.ifCond .ne 8, 3) := by decide +kernel
theorem dL_looked_88 : decode cL_looked 88 = .ok (.iload 4, 2) := by decide +kernel
theorem dL_looked_90 : decode cL_looked 90 = .ok (.ifCond .ne 7, 3) := by decide +kernel
theorem dL_looked_93 : decode cL_looked 93 = .ok (.iconst 1, 1) := by decide +kernel
theorem dL_looked_94 : decode cL_looked 94 = .ok (.goto 4, 3) := by decide +kernel
theorem dL_looked_97 : decode cL_looked 97 = .ok (.iconst 0, 1) := by decide +kernel
theorem dL_looked_98 : decode cL_looked 98 = .ok (.iadd, 1) := by decide +kernel
theorem dL_looked_99 : decode cL_looked 99 = .ok (.istore_n 3, 1) := by decide +kernel
theorem dL_looked_100 : decode cL_looked 100 = .ok (.iload 8, 2) := by decide +kernel
theorem dL_looked_102 : decode cL_looked 102 = .ok (.invokestatic 44, 3) := by decide +kernel
theorem dL_looked_105 : decode cL_looked 105 = .ok (.ifCond .eq 23, 3) := by decide +kernel
theorem dL_looked_108 : decode cL_looked 108 = .ok (.iload_n 2, 1) := by decide +kernel
theorem dL_looked_109 : decode cL_looked 109 = .ok (.ifCond .ne 15, 3) := by decide +kernel
theorem dL_looked_112 : decode cL_looked 112 = .ok (.iload 8, 2) := by decide +kernel
theorem dL_looked_114 : decode cL_looked 114 = .ok (.invokestatic 47, 3) := by decide +kernel
theorem dL_looked_117 : decode cL_looked 117 = .ok (.iload_n 1, 1) := by decide +kernel
theorem dL_looked_118 : decode cL_looked 118 = .ok (.invokestatic 50, 3) := by decide +kernel
theorem dL_looked_121 : decode cL_looked 121 = .ok (.ifCond .ne 7, 3) := by decide +kernel
theorem dL_looked_124 : decode cL_looked 124 = .ok (.iconst 1, 1) := by decide +kernel
theorem dL_looked_125 : decode cL_looked 125 = .ok (.goto 4, 3) := by decide +kernel
theorem dL_looked_128 : decode cL_looked 128 = .ok (.iconst 0, 1) := by decide +kernel
theorem dL_looked_129 : decode cL_looked 129 = .ok (.istore 10, 2) := by decide +kernel
theorem dL_looked_131 : decode cL_looked 131 = .ok (.iload_n 3, 1) := by decide +kernel
theorem dL_looked_132 : decode cL_looked 132 = .ok (.iload 9, 2) := by decide +kernel
theorem dL_looked_134 : decode cL_looked 134 = .ok (.ifCond .eq 46, 3) := by decide +kernel
theorem dL_looked_137 : decode cL_looked 137 = .ok (.iconst 1, 1) := by decide +kernel
theorem dL_looked_138 : decode cL_looked 138 = .ok (.iload 8, 2) := by decide +kernel
theorem dL_looked_140 : decode cL_looked 140 = .ok (.invokestatic 40, 3) := by decide +kernel
theorem dL_looked_143 : decode cL_looked 143 = .ok (.ifCond .eq 7, 3) := by decide +kernel
theorem dL_looked_146 : decode cL_looked 146 = .ok (.iconst 1, 1) := by decide +kernel
theorem dL_looked_147 : decode cL_looked 147 = .ok (.goto 4, 3) := by decide +kernel
theorem dL_looked_150 : decode cL_looked 150 = .ok (.iconst 0, 1) := by decide +kernel
theorem dL_looked_151 : decode cL_looked 151 = .ok (.iadd, 1) := by decide +kernel
theorem dL_looked_152 : decode cL_looked 152 = .ok (.iload 8, 2) := by decide +kernel
theorem dL_looked_154 : decode cL_looked 154 = .ok (.invokestatic 44, 3) := by decide +kernel
theorem dL_looked_157 : decode cL_looked 157 = .ok (.ifCond .eq 7, 3) := by decide +kernel
theorem dL_looked_160 : decode cL_looked 160 = .ok (.iconst 1, 1) := by decide +kernel
theorem dL_looked_161 : decode cL_looked 161 = .ok (.goto 4, 3) := by decide +kernel
theorem dL_looked_164 : decode cL_looked 164 = .ok (.iconst 0, 1) := by decide +kernel
theorem dL_looked_165 : decode cL_looked 165 = .ok (.iadd, 1) := by decide +kernel
theorem dL_looked_166 : decode cL_looked 166 = .ok (.iload 10, 2) := by decide +kernel
theorem dL_looked_168 : decode cL_looked 168 = .ok (.ifCond .eq 7, 3) := by decide +kernel
theorem dL_looked_171 : decode cL_looked 171 = .ok (.iconst 1, 1) := by decide +kernel
theorem dL_looked_172 : decode cL_looked 172 = .ok (.goto 4, 3) := by decide +kernel
theorem dL_looked_175 : decode cL_looked 175 = .ok (.iconst 0, 1) := by decide +kernel
theorem dL_looked_176 : decode cL_looked 176 = .ok (.iadd, 1) := by decide +kernel
theorem dL_looked_177 : decode cL_looked 177 = .ok (.goto 4, 3) := by decide +kernel
theorem dL_looked_180 : decode cL_looked 180 = .ok (.iconst 0, 1) := by decide +kernel
theorem dL_looked_181 : decode cL_looked 181 = .ok (.iadd, 1) := by decide +kernel
theorem dL_looked_182 : decode cL_looked 182 = .ok (.istore_n 3, 1) := by decide +kernel
theorem dL_looked_183 : decode cL_looked 183 = .ok (.iload 6, 2) := by decide +kernel
theorem dL_looked_185 : decode cL_looked 185 = .ok (.ifCond .eq 16, 3) := by decide +kernel
theorem dL_looked_188 : decode cL_looked 188 = .ok (.iload 8, 2) := by decide +kernel
theorem dL_looked_190 : decode cL_looked 190 = .ok (.iload_n 1, 1) := by decide +kernel
theorem dL_looked_191 : decode cL_looked 191 = .ok (.invokestatic 54, 3) := by decide +kernel
theorem dL_looked_194 : decode cL_looked 194 = .ok (.ifCond .eq 7, 3) := by decide +kernel
theorem dL_looked_197 : decode cL_looked 197 = .ok (.iconst 1, 1) := by decide +kernel
theorem dL_looked_198 : decode cL_looked 198 = .ok (.goto 4, 3) := by decide +kernel
theorem dL_looked_201 : decode cL_looked 201 = .ok (.iconst 0, 1) := by decide +kernel
theorem dL_looked_202 : decode cL_looked 202 = .ok (.istore 6, 2) := by decide +kernel
theorem dL_looked_204 : decode cL_looked 204 = .ok (.iinc 7 1, 3) := by decide +kernel
theorem dL_looked_207 : decode cL_looked 207 = .ok (.goto (-171), 3) := by decide +kernel
theorem dL_looked_210 : decode cL_looked 210 = .ok (.iload 4, 2) := by decide +kernel
theorem dL_looked_212 : decode cL_looked 212 = .ok (.ifCond .ne 8, 3) := by decide +kernel
theorem dL_looked_215 : decode cL_looked 215 = .ok (.iload 6, 2) := by decide +kernel
theorem dL_looked_217 : decode cL_looked 217 = .ok (.ifCond .eq 7, 3) := by decide +kernel
theorem dL_looked_220 : decode cL_looked 220 = .ok (.iconst 1, 1) := by decide +kernel
theorem dL_looked_221 : decode cL_looked 221 = .ok (.goto 4, 3) := by decide +kernel
theorem dL_looked_224 : decode cL_looked 224 = .ok (.iconst 0, 1) := by decide +kernel
theorem dL_looked_225 : decode cL_looked 225 = .ok (.istore 4, 2) := by decide +kernel
theorem dL_looked_227 : decode cL_looked 227 = .ok (.iinc 5 1, 3) := by decide +kernel
theorem dL_looked_230 : decode cL_looked 230 = .ok (.goto (-222), 3) := by decide +kernel
theorem dL_looked_233 : decode cL_looked 233 = .ok (.iload_n 3, 1) := by decide +kernel
theorem dL_looked_234 : decode cL_looked 234 = .ok (.ireturn, 1) := by decide +kernel
theorem dL_deep_0 : decode cL_deep 0 = .ok (.iconst 0, 1) := by decide +kernel
theorem dL_deep_1 : decode cL_deep 1 = .ok (.istore_n 1, 1) := by decide +kernel
theorem dL_deep_2 : decode cL_deep 2 = .ok (.iconst 0, 1) := by decide +kernel
theorem dL_deep_3 : decode cL_deep 3 = .ok (.istore_n 2, 1) := by decide +kernel
theorem dL_deep_4 : decode cL_deep 4 = .ok (.iload_n 2, 1) := by decide +kernel
theorem dL_deep_5 : decode cL_deep 5 = .ok (.iload_n 0, 1) := by decide +kernel
theorem dL_deep_6 : decode cL_deep 6 = .ok (.invokestatic 26, 3) := by decide +kernel
theorem dL_deep_9 : decode cL_deep 9 = .ok (.if_icmp .ge 116, 3) := by decide +kernel
theorem dL_deep_12 : decode cL_deep 12 = .ok (.iconst 0, 1) := by decide +kernel
theorem dL_deep_13 : decode cL_deep 13 = .ok (.istore_n 3, 1) := by decide +kernel
theorem dL_deep_14 : decode cL_deep 14 = .ok (.iconst 0, 1) := by decide +kernel
theorem dL_deep_15 : decode cL_deep 15 = .ok (.istore 4, 2) := by decide +kernel
theorem dL_deep_17 : decode cL_deep 17 = .ok (.iload 4, 2) := by decide +kernel
theorem dL_deep_19 : decode cL_deep 19 = .ok (.iload_n 0, 1) := by decide +kernel
theorem dL_deep_20 : decode cL_deep 20 = .ok (.iload_n 2, 1) := by decide +kernel
theorem dL_deep_21 : decode cL_deep 21 = .ok (.invokestatic 33, 3) := by decide +kernel
theorem dL_deep_24 : decode cL_deep 24 = .ok (.if_icmp .ge 74, 3) := by decide +kernel
theorem dL_deep_27 : decode cL_deep 27 = .ok (.iload_n 0, 1) := by decide +kernel
theorem dL_deep_28 : decode cL_deep 28 = .ok (.iload_n 2, 1) := by decide +kernel
theorem dL_deep_29 : decode cL_deep 29 = .ok (.iload 4, 2) := by decide +kernel
theorem dL_deep_31 : decode cL_deep 31 = .ok (.invokestatic 36, 3) := by decide +kernel
theorem dL_deep_34 : decode cL_deep 34 = .ok (.istore 5, 2) := by decide +kernel
theorem dL_deep_36 : decode cL_deep 36 = .ok (.iconst 1, 1) := by decide +kernel
theorem dL_deep_37 : decode cL_deep 37 = .ok (.iload 5, 2) := by decide +kernel
theorem dL_deep_39 : decode cL_deep 39 = .ok (.invokestatic 40, 3) := by decide +kernel
theorem dL_deep_42 : decode cL_deep 42 = .ok (.ifCond .eq 7, 3) := by decide +kernel
theorem dL_deep_45 : decode cL_deep 45 = .ok (.iconst 1, 1) := by decide +kernel
theorem dL_deep_46 : decode cL_deep 46 = .ok (.goto 4, 3) := by decide +kernel
theorem dL_deep_49 : decode cL_deep 49 = .ok (.iconst 0, 1) := by decide +kernel
theorem dL_deep_50 : decode cL_deep 50 = .ok (.iadd, 1) := by decide +kernel
theorem dL_deep_51 : decode cL_deep 51 = .ok (.iload 5, 2) := by decide +kernel
theorem dL_deep_53 : decode cL_deep 53 = .ok (.invokestatic 44, 3) := by decide +kernel
theorem dL_deep_56 : decode cL_deep 56 = .ok (.ifCond .eq 7, 3) := by decide +kernel
theorem dL_deep_59 : decode cL_deep 59 = .ok (.iconst 1, 1) := by decide +kernel
theorem dL_deep_60 : decode cL_deep 60 = .ok (.goto 4, 3) := by decide +kernel
theorem dL_deep_63 : decode cL_deep 63 = .ok (.iconst 0, 1) := by decide +kernel
theorem dL_deep_64 : decode cL_deep 64 = .ok (.iadd, 1) := by decide +kernel
theorem dL_deep_65 : decode cL_deep 65 = .ok (.istore 6, 2) := by decide +kernel
theorem dL_deep_67 : decode cL_deep 67 = .ok (.iload 4, 2) := by decide +kernel
theorem dL_deep_69 : decode cL_deep 69 = .ok (.ifCond .ne 8, 3) := by decide +kernel
theorem dL_deep_72 : decode cL_deep 72 = .ok (.iload 6, 2) := by decide +kernel
theorem dL_deep_74 : decode cL_deep 74 = .ok (.goto 17, 3) := by decide +kernel
theorem dL_deep_77 : decode cL_deep 77 = .ok (.iconst 1, 1) := by decide +kernel
theorem dL_deep_78 : decode cL_deep 78 = .ok (.iload_n 3, 1) := by decide +kernel
theorem dL_deep_79 : decode cL_deep 79 = .ok (.iload 6, 2) := by decide +kernel
theorem dL_deep_81 : decode cL_deep 81 = .ok (.if_icmp .le 7, 3) := by decide +kernel
theorem dL_deep_84 : decode cL_deep 84 = .ok (.iload_n 3, 1) := by decide +kernel
theorem dL_deep_85 : decode cL_deep 85 = .ok (.goto 5, 3) := by decide +kernel
theorem dL_deep_88 : decode cL_deep 88 = .ok (.iload 6, 2) := by decide +kernel
theorem dL_deep_90 : decode cL_deep 90 = .ok (.iadd, 1) := by decide +kernel
theorem dL_deep_91 : decode cL_deep 91 = .ok (.istore_n 3, 1) := by decide +kernel
theorem dL_deep_92 : decode cL_deep 92 = .ok (.iinc 4 1, 3) := by decide +kernel
theorem dL_deep_95 : decode cL_deep 95 = .ok (.goto (-78), 3) := by decide +kernel
theorem dL_deep_98 : decode cL_deep 98 = .ok (.iload_n 2, 1) := by decide +kernel
theorem dL_deep_99 : decode cL_deep 99 = .ok (.ifCond .ne 7, 3) := by decide +kernel
theorem dL_deep_102 : decode cL_deep 102 = .ok (.iload_n 3, 1) := by decide +kernel
theorem dL_deep_103 : decode cL_deep 103 = .ok (.goto 15, 3) := by decide +kernel
theorem dL_deep_106 : decode cL_deep 106 = .ok (.iconst 1, 1) := by decide +kernel
theorem dL_deep_107 : decode cL_deep 107 = .ok (.iload_n 1, 1) := by decide +kernel
theorem dL_deep_108 : decode cL_deep 108 = .ok (.iload_n 3, 1) := by decide +kernel
theorem dL_deep_109 : decode cL_deep 109 = .ok (.if_icmp .le 7, 3) := by decide +kernel
theorem dL_deep_112 : decode cL_deep 112 = .ok (.iload_n 1, 1) := by decide +kernel
theorem dL_deep_113 : decode cL_deep 113 = .ok (.goto 4, 3) := by decide +kernel
theorem dL_deep_116 : decode cL_deep 116 = .ok (.iload_n 3, 1) := by decide +kernel
theorem dL_deep_117 : decode cL_deep 117 = .ok (.iadd, 1) := by decide +kernel
theorem dL_deep_118 : decode cL_deep 118 = .ok (.istore_n 1, 1) := by decide +kernel
theorem dL_deep_119 : decode cL_deep 119 = .ok (.iinc 2 1, 3) := by decide +kernel
theorem dL_deep_122 : decode cL_deep 122 = .ok (.goto (-118), 3) := by decide +kernel
theorem dL_deep_125 : decode cL_deep 125 = .ok (.iload_n 1, 1) := by decide +kernel
theorem dL_deep_126 : decode cL_deep 126 = .ok (.ireturn, 1) := by decide +kernel
theorem dL_letters_0 : decode cL_letters 0 = .ok (.iconst 0, 1) := by decide +kernel
theorem dL_letters_1 : decode cL_letters 1 = .ok (.istore_n 1, 1) := by decide +kernel
theorem dL_letters_2 : decode cL_letters 2 = .ok (.iconst 0, 1) := by decide +kernel
theorem dL_letters_3 : decode cL_letters 3 = .ok (.istore_n 2, 1) := by decide +kernel
theorem dL_letters_4 : decode cL_letters 4 = .ok (.iload_n 2, 1) := by decide +kernel
theorem dL_letters_5 : decode cL_letters 5 = .ok (.iload_n 0, 1) := by decide +kernel
theorem dL_letters_6 : decode cL_letters 6 = .ok (.invokestatic 26, 3) := by decide +kernel
theorem dL_letters_9 : decode cL_letters 9 = .ok (.if_icmp .ge 109, 3) := by decide +kernel
theorem dL_letters_12 : decode cL_letters 12 = .ok (.iconst 0, 1) := by decide +kernel
theorem dL_letters_13 : decode cL_letters 13 = .ok (.istore_n 3, 1) := by decide +kernel
theorem dL_letters_14 : decode cL_letters 14 = .ok (.iload_n 3, 1) := by decide +kernel
theorem dL_letters_15 : decode cL_letters 15 = .ok (.iload_n 0, 1) := by decide +kernel
theorem dL_letters_16 : decode cL_letters 16 = .ok (.iload_n 2, 1) := by decide +kernel
theorem dL_letters_17 : decode cL_letters 17 = .ok (.invokestatic 33, 3) := by decide +kernel
theorem dL_letters_20 : decode cL_letters 20 = .ok (.if_icmp .ge 92, 3) := by decide +kernel
theorem dL_letters_23 : decode cL_letters 23 = .ok (.iload_n 0, 1) := by decide +kernel
theorem dL_letters_24 : decode cL_letters 24 = .ok (.iload_n 2, 1) := by decide +kernel
theorem dL_letters_25 : decode cL_letters 25 = .ok (.iload_n 3, 1) := by decide +kernel
theorem dL_letters_26 : decode cL_letters 26 = .ok (.invokestatic 36, 3) := by decide +kernel
theorem dL_letters_29 : decode cL_letters 29 = .ok (.istore 4, 2) := by decide +kernel
theorem dL_letters_31 : decode cL_letters 31 = .ok (.iconst 0, 1) := by decide +kernel
theorem dL_letters_32 : decode cL_letters 32 = .ok (.istore 5, 2) := by decide +kernel
theorem dL_letters_34 : decode cL_letters 34 = .ok (.iload 5, 2) := by decide +kernel
theorem dL_letters_36 : decode cL_letters 36 = .ok (.iload 4, 2) := by decide +kernel
theorem dL_letters_38 : decode cL_letters 38 = .ok (.invokestatic 44, 3) := by decide +kernel
theorem dL_letters_41 : decode cL_letters 41 = .ok (.ifCond .eq 7, 3) := by decide +kernel
theorem dL_letters_44 : decode cL_letters 44 = .ok (.iconst 2, 1) := by decide +kernel
theorem dL_letters_45 : decode cL_letters 45 = .ok (.goto 4, 3) := by decide +kernel
theorem dL_letters_48 : decode cL_letters 48 = .ok (.iconst 1, 1) := by decide +kernel
theorem dL_letters_49 : decode cL_letters 49 = .ok (.if_icmp .ge 57, 3) := by decide +kernel
theorem dL_letters_52 : decode cL_letters 52 = .ok (.iload 5, 2) := by decide +kernel
theorem dL_letters_54 : decode cL_letters 54 = .ok (.ifCond .ne 8, 3) := by decide +kernel
theorem dL_letters_57 : decode cL_letters 57 = .ok (.iload 4, 2) := by decide +kernel
theorem dL_letters_59 : decode cL_letters 59 = .ok (.goto 8, 3) := by decide +kernel
theorem dL_letters_62 : decode cL_letters 62 = .ok (.iload 4, 2) := by decide +kernel
theorem dL_letters_64 : decode cL_letters 64 = .ok (.bipush 7, 2) := by decide +kernel
theorem dL_letters_66 : decode cL_letters 66 = .ok (.ishr, 1) := by decide +kernel
theorem dL_letters_67 : decode cL_letters 67 = .ok (.invokestatic 47, 3) := by decide +kernel
theorem dL_letters_70 : decode cL_letters 70 = .ok (.istore 6, 2) := by decide +kernel
theorem dL_letters_72 : decode cL_letters 72 = .ok (.iload_n 1, 1) := by decide +kernel
theorem dL_letters_73 : decode cL_letters 73 = .ok (.iload 6, 2) := by decide +kernel
theorem dL_letters_75 : decode cL_letters 75 = .ok (.bipush 97, 2) := by decide +kernel
theorem dL_letters_77 : decode cL_letters 77 = .ok (.if_icmp .lt 13, 3) := by decide +kernel
theorem dL_letters_80 : decode cL_letters 80 = .ok (.iconst 1, 1) := by decide +kernel
theorem dL_letters_81 : decode cL_letters 81 = .ok (.iload 6, 2) := by decide +kernel
theorem dL_letters_83 : decode cL_letters 83 = .ok (.bipush 97, 2) := by decide +kernel
theorem dL_letters_85 : decode cL_letters 85 = .ok (.isub, 1) := by decide +kernel
theorem dL_letters_86 : decode cL_letters 86 = .ok (.ishl, 1) := by decide +kernel
theorem dL_letters_87 : decode cL_letters 87 = .ok (.goto 11, 3) := by decide +kernel
theorem dL_letters_90 : decode cL_letters 90 = .ok (.bipush 16, 2) := by decide +kernel
theorem dL_letters_92 : decode cL_letters 92 = .ok (.iload 6, 2) := by decide +kernel
theorem dL_letters_94 : decode cL_letters 94 = .ok (.bipush 65, 2) := by decide +kernel
theorem dL_letters_96 : decode cL_letters 96 = .ok (.isub, 1) := by decide +kernel
theorem dL_letters_97 : decode cL_letters 97 = .ok (.ishl, 1) := by decide +kernel
theorem dL_letters_98 : decode cL_letters 98 = .ok (.ior, 1) := by decide +kernel
theorem dL_letters_99 : decode cL_letters 99 = .ok (.istore_n 1, 1) := by decide +kernel
theorem dL_letters_100 : decode cL_letters 100 = .ok (.iinc 5 1, 3) := by decide +kernel
theorem dL_letters_103 : decode cL_letters 103 = .ok (.goto (-69), 3) := by decide +kernel
theorem dL_letters_106 : decode cL_letters 106 = .ok (.iinc 3 1, 3) := by decide +kernel
theorem dL_letters_109 : decode cL_letters 109 = .ok (.goto (-95), 3) := by decide +kernel
theorem dL_letters_112 : decode cL_letters 112 = .ok (.iinc 2 1, 3) := by decide +kernel
theorem dL_letters_115 : decode cL_letters 115 = .ok (.goto (-111), 3) := by decide +kernel
theorem dL_letters_118 : decode cL_letters 118 = .ok (.iload_n 1, 1) := by decide +kernel
theorem dL_letters_119 : decode cL_letters 119 = .ok (.ireturn, 1) := by decide +kernel
theorem dL_isRule_0 : decode cL_isRule 0 = .ok (.bipush (-6), 2) := by decide +kernel
theorem dL_isRule_2 : decode cL_isRule 2 = .ok (.istore_n 2, 1) := by decide +kernel
theorem dL_isRule_3 : decode cL_isRule 3 = .ok (.iconst 0, 1) := by decide +kernel
theorem dL_isRule_4 : decode cL_isRule 4 = .ok (.istore_n 3, 1) := by decide +kernel
theorem dL_isRule_5 : decode cL_isRule 5 = .ok (.iload_n 3, 1) := by decide +kernel
theorem dL_isRule_6 : decode cL_isRule 6 = .ok (.sipush 256, 3) := by decide +kernel
theorem dL_isRule_9 : decode cL_isRule 9 = .ok (.if_icmp .ge 62, 3) := by decide +kernel
theorem dL_isRule_12 : decode cL_isRule 12 = .ok (.iload_n 1, 1) := by decide +kernel
theorem dL_isRule_13 : decode cL_isRule 13 = .ok (.iload_n 3, 1) := by decide +kernel
theorem dL_isRule_14 : decode cL_isRule 14 = .ok (.invokestatic 57, 3) := by decide +kernel
theorem dL_isRule_17 : decode cL_isRule 17 = .ok (.istore 4, 2) := by decide +kernel
theorem dL_isRule_19 : decode cL_isRule 19 = .ok (.aload_n 0, 1) := by decide +kernel
theorem dL_isRule_20 : decode cL_isRule 20 = .ok (.iload_n 3, 1) := by decide +kernel
theorem dL_isRule_21 : decode cL_isRule 21 = .ok (.invokevirtual 60, 3) := by decide +kernel
theorem dL_isRule_24 : decode cL_isRule 24 = .ok (.iload 4, 2) := by decide +kernel
theorem dL_isRule_26 : decode cL_isRule 26 = .ok (.ifCond .eq 7, 3) := by decide +kernel
theorem dL_isRule_29 : decode cL_isRule 29 = .ok (.iconst 1, 1) := by decide +kernel
theorem dL_isRule_30 : decode cL_isRule 30 = .ok (.goto 4, 3) := by decide +kernel
theorem dL_isRule_33 : decode cL_isRule 33 = .ok (.iconst 0, 1) := by decide +kernel
theorem dL_isRule_34 : decode cL_isRule 34 = .ok (.if_icmp .eq 5, 3) := by decide +kernel
theorem dL_isRule_37 : decode cL_isRule 37 = .ok (.iconst 0, 1) := by decide +kernel
theorem dL_isRule_38 : decode cL_isRule 38 = .ok (.ireturn, 1) := by decide +kernel
theorem dL_isRule_39 : decode cL_isRule 39 = .ok (.iload 4, 2) := by decide +kernel
theorem dL_isRule_41 : decode cL_isRule 41 = .ok (.ifCond .eq 22, 3) := by decide +kernel
theorem dL_isRule_44 : decode cL_isRule 44 = .ok (.iload_n 2, 1) := by decide +kernel
theorem dL_isRule_45 : decode cL_isRule 45 = .ok (.ifCond .lt 14, 3) := by decide +kernel
theorem dL_isRule_48 : decode cL_isRule 48 = .ok (.iload_n 3, 1) := by decide +kernel
theorem dL_isRule_49 : decode cL_isRule 49 = .ok (.invokestatic 63, 3) := by decide +kernel
theorem dL_isRule_52 : decode cL_isRule 52 = .ok (.iload_n 2, 1) := by decide +kernel
theorem dL_isRule_53 : decode cL_isRule 53 = .ok (.invokestatic 63, 3) := by decide +kernel
theorem dL_isRule_56 : decode cL_isRule 56 = .ok (.if_icmp .ge 7, 3) := by decide +kernel
theorem dL_isRule_59 : decode cL_isRule 59 = .ok (.iload_n 3, 1) := by decide +kernel
theorem dL_isRule_60 : decode cL_isRule 60 = .ok (.goto 4, 3) := by decide +kernel
theorem dL_isRule_63 : decode cL_isRule 63 = .ok (.iload_n 2, 1) := by decide +kernel
theorem dL_isRule_64 : decode cL_isRule 64 = .ok (.istore_n 2, 1) := by decide +kernel
theorem dL_isRule_65 : decode cL_isRule 65 = .ok (.iinc 3 1, 3) := by decide +kernel
theorem dL_isRule_68 : decode cL_isRule 68 = .ok (.goto (-63), 3) := by decide +kernel
theorem dL_isRule_71 : decode cL_isRule 71 = .ok (.iconst 0, 1) := by decide +kernel
theorem dL_isRule_72 : decode cL_isRule 72 = .ok (.istore_n 3, 1) := by decide +kernel
theorem dL_isRule_73 : decode cL_isRule 73 = .ok (.iconst 0, 1) := by decide +kernel
theorem dL_isRule_74 : decode cL_isRule 74 = .ok (.istore 4, 2) := by decide +kernel
theorem dL_isRule_76 : decode cL_isRule 76 = .ok (.iload 4, 2) := by decide +kernel
theorem dL_isRule_78 : decode cL_isRule 78 = .ok (.bipush 8, 2) := by decide +kernel
theorem dL_isRule_80 : decode cL_isRule 80 = .ok (.if_icmp .ge 27, 3) := by decide +kernel
theorem dL_isRule_83 : decode cL_isRule 83 = .ok (.iload_n 3, 1) := by decide +kernel
theorem dL_isRule_84 : decode cL_isRule 84 = .ok (.aload_n 0, 1) := by decide +kernel
theorem dL_isRule_85 : decode cL_isRule 85 = .ok (.iload 4, 2) := by decide +kernel
theorem dL_isRule_87 : decode cL_isRule 87 = .ok (.iconst 2, 1) := by decide +kernel
theorem dL_isRule_88 : decode cL_isRule 88 = .ok (.idiv, 1) := by decide +kernel
theorem dL_isRule_89 : decode cL_isRule 89 = .ok (.iload 4, 2) := by decide +kernel
theorem dL_isRule_91 : decode cL_isRule 91 = .ok (.iconst 2, 1) := by decide +kernel
theorem dL_isRule_92 : decode cL_isRule 92 = .ok (.irem, 1) := by decide +kernel
theorem dL_isRule_93 : decode cL_isRule 93 = .ok (.invokevirtual 66, 3) := by decide +kernel
theorem dL_isRule_96 : decode cL_isRule 96 = .ok (.iload 4, 2) := by decide +kernel
theorem dL_isRule_98 : decode cL_isRule 98 = .ok (.ishl, 1) := by decide +kernel
theorem dL_isRule_99 : decode cL_isRule 99 = .ok (.ior, 1) := by decide +kernel
theorem dL_isRule_100 : decode cL_isRule 100 = .ok (.istore_n 3, 1) := by decide +kernel
theorem dL_isRule_101 : decode cL_isRule 101 = .ok (.iinc 4 1, 3) := by decide +kernel
theorem dL_isRule_104 : decode cL_isRule 104 = .ok (.goto (-28), 3) := by decide +kernel
theorem dL_isRule_107 : decode cL_isRule 107 = .ok (.aload_n 0, 1) := by decide +kernel
theorem dL_isRule_108 : decode cL_isRule 108 = .ok (.invokevirtual 69, 3) := by decide +kernel
theorem dL_isRule_111 : decode cL_isRule 111 = .ok (.iload_n 2, 1) := by decide +kernel
theorem dL_isRule_112 : decode cL_isRule 112 = .ok (.if_icmp .ne 80, 3) := by decide +kernel
theorem dL_isRule_115 : decode cL_isRule 115 = .ok (.aload_n 0, 1) := by decide +kernel
theorem dL_isRule_116 : decode cL_isRule 116 = .ok (.iconst 0, 1) := by decide +kernel
theorem dL_isRule_117 : decode cL_isRule 117 = .ok (.invokevirtual 73, 3) := by decide +kernel
theorem dL_isRule_120 : decode cL_isRule 120 = .ok (.iload_n 1, 1) := by decide +kernel
theorem dL_isRule_121 : decode cL_isRule 121 = .ok (.iload_n 3, 1) := by decide +kernel
theorem dL_isRule_122 : decode cL_isRule 122 = .ok (.iconst 1, 1) := by decide +kernel
theorem dL_isRule_123 : decode cL_isRule 123 = .ok (.invokestatic 76, 3) := by decide +kernel
theorem dL_isRule_126 : decode cL_isRule 126 = .ok (.if_icmp .ne 66, 3) := by decide +kernel
theorem dL_isRule_129 : decode cL_isRule 129 = .ok (.aload_n 0, 1) := by decide +kernel
theorem dL_isRule_130 : decode cL_isRule 130 = .ok (.iconst 1, 1) := by decide +kernel
theorem dL_isRule_131 : decode cL_isRule 131 = .ok (.invokevirtual 73, 3) := by decide +kernel
theorem dL_isRule_134 : decode cL_isRule 134 = .ok (.iload_n 1, 1) := by decide +kernel
theorem dL_isRule_135 : decode cL_isRule 135 = .ok (.invokestatic 80, 3) := by decide +kernel
theorem dL_isRule_138 : decode cL_isRule 138 = .ok (.if_icmp .ne 54, 3) := by decide +kernel
theorem dL_isRule_141 : decode cL_isRule 141 = .ok (.aload_n 0, 1) := by decide +kernel
theorem dL_isRule_142 : decode cL_isRule 142 = .ok (.iconst 2, 1) := by decide +kernel
theorem dL_isRule_143 : decode cL_isRule 143 = .ok (.invokevirtual 73, 3) := by decide +kernel
theorem dL_isRule_146 : decode cL_isRule 146 = .ok (.iload_n 1, 1) := by decide +kernel
theorem dL_isRule_147 : decode cL_isRule 147 = .ok (.iload_n 3, 1) := by decide +kernel
theorem dL_isRule_148 : decode cL_isRule 148 = .ok (.invokestatic 57, 3) := by decide +kernel
theorem dL_isRule_151 : decode cL_isRule 151 = .ok (.ifCond .eq 7, 3) := by decide +kernel
theorem dL_isRule_154 : decode cL_isRule 154 = .ok (.iconst 1, 1) := by decide +kernel
theorem dL_isRule_155 : decode cL_isRule 155 = .ok (.goto 4, 3) := by decide +kernel
theorem dL_isRule_158 : decode cL_isRule 158 = .ok (.iconst 0, 1) := by decide +kernel
theorem dL_isRule_159 : decode cL_isRule 159 = .ok (.if_icmp .ne 33, 3) := by decide +kernel
theorem dL_isRule_162 : decode cL_isRule 162 = .ok (.aload_n 0, 1) := by decide +kernel
theorem dL_isRule_163 : decode cL_isRule 163 = .ok (.iconst 3, 1) := by decide +kernel
theorem dL_isRule_164 : decode cL_isRule 164 = .ok (.invokevirtual 73, 3) := by decide +kernel
theorem dL_isRule_167 : decode cL_isRule 167 = .ok (.iload_n 1, 1) := by decide +kernel
theorem dL_isRule_168 : decode cL_isRule 168 = .ok (.invokestatic 83, 3) := by decide +kernel
theorem dL_isRule_171 : decode cL_isRule 171 = .ok (.if_icmp .ne 21, 3) := by decide +kernel
theorem dL_isRule_174 : decode cL_isRule 174 = .ok (.aload_n 0, 1) := by decide +kernel
theorem dL_isRule_175 : decode cL_isRule 175 = .ok (.iconst 4, 1) := by decide +kernel
theorem dL_isRule_176 : decode cL_isRule 176 = .ok (.invokevirtual 73, 3) := by decide +kernel
theorem dL_isRule_179 : decode cL_isRule 179 = .ok (.iload_n 1, 1) := by decide +kernel
theorem dL_isRule_180 : decode cL_isRule 180 = .ok (.iload_n 3, 1) := by decide +kernel
theorem dL_isRule_181 : decode cL_isRule 181 = .ok (.iconst 0, 1) := by decide +kernel
theorem dL_isRule_182 : decode cL_isRule 182 = .ok (.invokestatic 76, 3) := by decide +kernel
theorem dL_isRule_185 : decode cL_isRule 185 = .ok (.if_icmp .ne 7, 3) := by decide +kernel
theorem dL_isRule_188 : decode cL_isRule 188 = .ok (.iconst 1, 1) := by decide +kernel
theorem dL_isRule_189 : decode cL_isRule 189 = .ok (.goto 4, 3) := by decide +kernel
theorem dL_isRule_192 : decode cL_isRule 192 = .ok (.iconst 0, 1) := by decide +kernel
theorem dL_isRule_193 : decode cL_isRule 193 = .ok (.ireturn, 1) := by decide +kernel
theorem dL_people_0 : decode cL_people 0 = .ok (.iconst 0, 1) := by decide +kernel
theorem dL_people_1 : decode cL_people 1 = .ok (.istore_n 1, 1) := by decide +kernel
theorem dL_people_2 : decode cL_people 2 = .ok (.sipush 1000, 3) := by decide +kernel
theorem dL_people_5 : decode cL_people 5 = .ok (.istore_n 2, 1) := by decide +kernel
theorem dL_people_6 : decode cL_people 6 = .ok (.ldc 86, 2) := by decide +kernel
theorem dL_people_8 : decode cL_people 8 = .ok (.istore_n 3, 1) := by decide +kernel
theorem dL_people_9 : decode cL_people 9 = .ok (.iconst 0, 1) := by decide +kernel
theorem dL_people_10 : decode cL_people 10 = .ok (.istore 4, 2) := by decide +kernel
theorem dL_people_12 : decode cL_people 12 = .ok (.iload 4, 2) := by decide +kernel
theorem dL_people_14 : decode cL_people 14 = .ok (.aload_n 0, 1) := by decide +kernel
theorem dL_people_15 : decode cL_people 15 = .ok (.iconst 1, 1) := by decide +kernel
theorem dL_people_16 : decode cL_people 16 = .ok (.invokevirtual 10, 3) := by decide +kernel
theorem dL_people_19 : decode cL_people 19 = .ok (.if_icmp .ge 81, 3) := by decide +kernel
theorem dL_people_22 : decode cL_people 22 = .ok (.aload_n 0, 1) := by decide +kernel
theorem dL_people_23 : decode cL_people 23 = .ok (.iload 4, 2) := by decide +kernel
theorem dL_people_25 : decode cL_people 25 = .ok (.iconst 0, 1) := by decide +kernel
theorem dL_people_26 : decode cL_people 26 = .ok (.invokevirtual 87, 3) := by decide +kernel
theorem dL_people_29 : decode cL_people 29 = .ok (.istore 5, 2) := by decide +kernel
theorem dL_people_31 : decode cL_people 31 = .ok (.iload 5, 2) := by decide +kernel
theorem dL_people_33 : decode cL_people 33 = .ok (.ifCond .lt 38, 3) := by decide +kernel
theorem dL_people_36 : decode cL_people 36 = .ok (.iload 5, 2) := by decide +kernel
theorem dL_people_38 : decode cL_people 38 = .ok (.iload_n 2, 1) := by decide +kernel
theorem dL_people_39 : decode cL_people 39 = .ok (.if_icmp .gt 32, 3) := by decide +kernel
theorem dL_people_42 : decode cL_people 42 = .ok (.iload 5, 2) := by decide +kernel
theorem dL_people_44 : decode cL_people 44 = .ok (.sipush 999, 3) := by decide +kernel
theorem dL_people_47 : decode cL_people 47 = .ok (.if_icmp .gt 24, 3) := by decide +kernel
theorem dL_people_50 : decode cL_people 50 = .ok (.aload_n 0, 1) := by decide +kernel
theorem dL_people_51 : decode cL_people 51 = .ok (.iload 4, 2) := by decide +kernel
theorem dL_people_53 : decode cL_people 53 = .ok (.iconst 2, 1) := by decide +kernel
theorem dL_people_54 : decode cL_people 54 = .ok (.invokevirtual 87, 3) := by decide +kernel
theorem dL_people_57 : decode cL_people 57 = .ok (.iload_n 3, 1) := by decide +kernel
theorem dL_people_58 : decode cL_people 58 = .ok (.if_icmp .gt 13, 3) := by decide +kernel
theorem dL_people_61 : decode cL_people 61 = .ok (.aload_n 0, 1) := by decide +kernel
theorem dL_people_62 : decode cL_people 62 = .ok (.iload 4, 2) := by decide +kernel
theorem dL_people_64 : decode cL_people 64 = .ok (.iconst 2, 1) := by decide +kernel
theorem dL_people_65 : decode cL_people 65 = .ok (.invokevirtual 87, 3) := by decide +kernel
theorem dL_people_68 : decode cL_people 68 = .ok (.ifCond .ge 5, 3) := by decide +kernel
theorem dL_people_71 : decode cL_people 71 = .ok (.iconst 0, 1) := by decide +kernel
theorem dL_people_72 : decode cL_people 72 = .ok (.ireturn, 1) := by decide +kernel
theorem dL_people_73 : decode cL_people 73 = .ok (.iload 5, 2) := by decide +kernel
theorem dL_people_75 : decode cL_people 75 = .ok (.istore_n 2, 1) := by decide +kernel
theorem dL_people_76 : decode cL_people 76 = .ok (.aload_n 0, 1) := by decide +kernel
theorem dL_people_77 : decode cL_people 77 = .ok (.iload 4, 2) := by decide +kernel
theorem dL_people_79 : decode cL_people 79 = .ok (.iconst 2, 1) := by decide +kernel
theorem dL_people_80 : decode cL_people 80 = .ok (.invokevirtual 87, 3) := by decide +kernel
theorem dL_people_83 : decode cL_people 83 = .ok (.istore_n 3, 1) := by decide +kernel
theorem dL_people_84 : decode cL_people 84 = .ok (.iload_n 1, 1) := by decide +kernel
theorem dL_people_85 : decode cL_people 85 = .ok (.aload_n 0, 1) := by decide +kernel
theorem dL_people_86 : decode cL_people 86 = .ok (.iload 4, 2) := by decide +kernel
theorem dL_people_88 : decode cL_people 88 = .ok (.iconst 1, 1) := by decide +kernel
theorem dL_people_89 : decode cL_people 89 = .ok (.invokevirtual 87, 3) := by decide +kernel
theorem dL_people_92 : decode cL_people 92 = .ok (.iadd, 1) := by decide +kernel
theorem dL_people_93 : decode cL_people 93 = .ok (.istore_n 1, 1) := by decide +kernel
theorem dL_people_94 : decode cL_people 94 = .ok (.iinc 4 1, 3) := by decide +kernel
theorem dL_people_97 : decode cL_people 97 = .ok (.goto (-85), 3) := by decide +kernel
theorem dL_people_100 : decode cL_people 100 = .ok (.aload_n 0, 1) := by decide +kernel
theorem dL_people_101 : decode cL_people 101 = .ok (.iconst 2, 1) := by decide +kernel
theorem dL_people_102 : decode cL_people 102 = .ok (.invokevirtual 10, 3) := by decide +kernel
theorem dL_people_105 : decode cL_people 105 = .ok (.iload_n 1, 1) := by decide +kernel
theorem dL_people_106 : decode cL_people 106 = .ok (.if_icmp .ne 42, 3) := by decide +kernel
theorem dL_people_109 : decode cL_people 109 = .ok (.aload_n 0, 1) := by decide +kernel
theorem dL_people_110 : decode cL_people 110 = .ok (.aload_n 0, 1) := by decide +kernel
theorem dL_people_111 : decode cL_people 111 = .ok (.iconst 1, 1) := by decide +kernel
theorem dL_people_112 : decode cL_people 112 = .ok (.invokevirtual 10, 3) := by decide +kernel
theorem dL_people_115 : decode cL_people 115 = .ok (.iconst 0, 1) := by decide +kernel
theorem dL_people_116 : decode cL_people 116 = .ok (.invokevirtual 87, 3) := by decide +kernel
theorem dL_people_119 : decode cL_people 119 = .ok (.iconst (-1), 1) := by decide +kernel
theorem dL_people_120 : decode cL_people 120 = .ok (.if_icmp .ne 28, 3) := by decide +kernel
theorem dL_people_123 : decode cL_people 123 = .ok (.aload_n 0, 1) := by decide +kernel
theorem dL_people_124 : decode cL_people 124 = .ok (.iconst 1, 1) := by decide +kernel
theorem dL_people_125 : decode cL_people 125 = .ok (.invokevirtual 10, 3) := by decide +kernel
theorem dL_people_128 : decode cL_people 128 = .ok (.ifCond .eq 16, 3) := by decide +kernel
theorem dL_people_131 : decode cL_people 131 = .ok (.aload_n 0, 1) := by decide +kernel
theorem dL_people_132 : decode cL_people 132 = .ok (.bipush 8, 2) := by decide +kernel
theorem dL_people_134 : decode cL_people 134 = .ok (.invokevirtual 10, 3) := by decide +kernel
theorem dL_people_137 : decode cL_people 137 = .ok (.ifCond .eq 7, 3) := by decide +kernel
theorem dL_people_140 : decode cL_people 140 = .ok (.iload_n 2, 1) := by decide +kernel
theorem dL_people_141 : decode cL_people 141 = .ok (.ifCond .ne 7, 3) := by decide +kernel
theorem dL_people_144 : decode cL_people 144 = .ok (.iconst 1, 1) := by decide +kernel
theorem dL_people_145 : decode cL_people 145 = .ok (.goto 4, 3) := by decide +kernel
theorem dL_people_148 : decode cL_people 148 = .ok (.iconst 0, 1) := by decide +kernel
theorem dL_people_149 : decode cL_people 149 = .ok (.ireturn, 1) := by decide +kernel
theorem dL_stops_0 : decode cL_stops 0 = .ok (.aload_n 0, 1) := by decide +kernel
theorem dL_stops_1 : decode cL_stops 1 = .ok (.invokevirtual 90, 3) := by decide +kernel
theorem dL_stops_4 : decode cL_stops 4 = .ok (.istore_n 2, 1) := by decide +kernel
theorem dL_stops_5 : decode cL_stops 5 = .ok (.aload_n 0, 1) := by decide +kernel
theorem dL_stops_6 : decode cL_stops 6 = .ok (.iconst 3, 1) := by decide +kernel
theorem dL_stops_7 : decode cL_stops 7 = .ok (.invokevirtual 10, 3) := by decide +kernel
theorem dL_stops_10 : decode cL_stops 10 = .ok (.istore_n 3, 1) := by decide +kernel
theorem dL_stops_11 : decode cL_stops 11 = .ok (.aload_n 0, 1) := by decide +kernel
theorem dL_stops_12 : decode cL_stops 12 = .ok (.bipush 9, 2) := by decide +kernel
theorem dL_stops_14 : decode cL_stops 14 = .ok (.invokevirtual 10, 3) := by decide +kernel
theorem dL_stops_17 : decode cL_stops 17 = .ok (.istore 4, 2) := by decide +kernel
theorem dL_stops_19 : decode cL_stops 19 = .ok (.aload_n 0, 1) := by decide +kernel
theorem dL_stops_20 : decode cL_stops 20 = .ok (.iconst 4, 1) := by decide +kernel
theorem dL_stops_21 : decode cL_stops 21 = .ok (.invokevirtual 10, 3) := by decide +kernel
theorem dL_stops_24 : decode cL_stops 24 = .ok (.ifCond .ne 7, 3) := by decide +kernel
theorem dL_stops_27 : decode cL_stops 27 = .ok (.iconst 1, 1) := by decide +kernel
theorem dL_stops_28 : decode cL_stops 28 = .ok (.goto 4, 3) := by decide +kernel
theorem dL_stops_31 : decode cL_stops 31 = .ok (.iconst 0, 1) := by decide +kernel
theorem dL_stops_32 : decode cL_stops 32 = .ok (.istore 5, 2) := by decide +kernel
theorem dL_stops_34 : decode cL_stops 34 = .ok (.iconst 0, 1) := by decide +kernel
theorem dL_stops_35 : decode cL_stops 35 = .ok (.istore 6, 2) := by decide +kernel
theorem dL_stops_37 : decode cL_stops 37 = .ok (.iload 5, 2) := by decide +kernel
theorem dL_stops_39 : decode cL_stops 39 = .ok (.ifCond .eq 85, 3) := by decide +kernel
theorem dL_stops_42 : decode cL_stops 42 = .ok (.aload_n 0, 1) := by decide +kernel
theorem dL_stops_43 : decode cL_stops 43 = .ok (.bipush 7, 2) := by decide +kernel
theorem dL_stops_45 : decode cL_stops 45 = .ok (.invokevirtual 10, 3) := by decide +kernel
theorem dL_stops_48 : decode cL_stops 48 = .ok (.istore 7, 2) := by decide +kernel
theorem dL_stops_50 : decode cL_stops 50 = .ok (.aload_n 0, 1) := by decide +kernel
theorem dL_stops_51 : decode cL_stops 51 = .ok (.invokevirtual 93, 3) := by decide +kernel
theorem dL_stops_54 : decode cL_stops 54 = .ok (.iload_n 3, 1) := by decide +kernel
theorem dL_stops_55 : decode cL_stops 55 = .ok (.if_icmp .ne 64, 3) := by decide +kernel
theorem dL_stops_58 : decode cL_stops 58 = .ok (.aload_n 0, 1) := by decide +kernel
theorem dL_stops_59 : decode cL_stops 59 = .ok (.bipush 7, 2) := by decide +kernel
theorem dL_stops_61 : decode cL_stops 61 = .ok (.invokevirtual 10, 3) := by decide +kernel
theorem dL_stops_64 : decode cL_stops 64 = .ok (.iload 7, 2) := by decide +kernel
theorem dL_stops_66 : decode cL_stops 66 = .ok (.iconst 1, 1) := by decide +kernel
theorem dL_stops_67 : decode cL_stops 67 = .ok (.iadd, 1) := by decide +kernel
theorem dL_stops_68 : decode cL_stops 68 = .ok (.if_icmp .ne 51, 3) := by decide +kernel
theorem dL_stops_71 : decode cL_stops 71 = .ok (.aload_n 0, 1) := by decide +kernel
theorem dL_stops_72 : decode cL_stops 72 = .ok (.iconst 0, 1) := by decide +kernel
theorem dL_stops_73 : decode cL_stops 73 = .ok (.iconst 0, 1) := by decide +kernel
theorem dL_stops_74 : decode cL_stops 74 = .ok (.invokevirtual 96, 3) := by decide +kernel
theorem dL_stops_77 : decode cL_stops 77 = .ok (.aload_n 0, 1) := by decide +kernel
theorem dL_stops_78 : decode cL_stops 78 = .ok (.iconst 0, 1) := by decide +kernel
theorem dL_stops_79 : decode cL_stops 79 = .ok (.invokevirtual 10, 3) := by decide +kernel
theorem dL_stops_82 : decode cL_stops 82 = .ok (.if_icmp .ne 37, 3) := by decide +kernel
theorem dL_stops_85 : decode cL_stops 85 = .ok (.aload_n 0, 1) := by decide +kernel
theorem dL_stops_86 : decode cL_stops 86 = .ok (.iconst 0, 1) := by decide +kernel
theorem dL_stops_87 : decode cL_stops 87 = .ok (.iconst 1, 1) := by decide +kernel
theorem dL_stops_88 : decode cL_stops 88 = .ok (.invokevirtual 96, 3) := by decide +kernel
theorem dL_stops_91 : decode cL_stops 91 = .ok (.iload_n 3, 1) := by decide +kernel
theorem dL_stops_92 : decode cL_stops 92 = .ok (.if_icmp .ne 27, 3) := by decide +kernel
theorem dL_stops_95 : decode cL_stops 95 = .ok (.aload_n 0, 1) := by decide +kernel
theorem dL_stops_96 : decode cL_stops 96 = .ok (.iconst 0, 1) := by decide +kernel
theorem dL_stops_97 : decode cL_stops 97 = .ok (.iconst 2, 1) := by decide +kernel
theorem dL_stops_98 : decode cL_stops 98 = .ok (.invokevirtual 96, 3) := by decide +kernel
theorem dL_stops_101 : decode cL_stops 101 = .ok (.aload_n 0, 1) := by decide +kernel
theorem dL_stops_102 : decode cL_stops 102 = .ok (.iconst 2, 1) := by decide +kernel
theorem dL_stops_103 : decode cL_stops 103 = .ok (.invokevirtual 10, 3) := by decide +kernel
theorem dL_stops_106 : decode cL_stops 106 = .ok (.if_icmp .ne 13, 3) := by decide +kernel
theorem dL_stops_109 : decode cL_stops 109 = .ok (.aload_n 0, 1) := by decide +kernel
theorem dL_stops_110 : decode cL_stops 110 = .ok (.iconst 0, 1) := by decide +kernel
theorem dL_stops_111 : decode cL_stops 111 = .ok (.iconst 4, 1) := by decide +kernel
theorem dL_stops_112 : decode cL_stops 112 = .ok (.invokevirtual 96, 3) := by decide +kernel
theorem dL_stops_115 : decode cL_stops 115 = .ok (.iconst 1, 1) := by decide +kernel
theorem dL_stops_116 : decode cL_stops 116 = .ok (.if_icmp .eq 5, 3) := by decide +kernel
theorem dL_stops_119 : decode cL_stops 119 = .ok (.iconst 0, 1) := by decide +kernel
theorem dL_stops_120 : decode cL_stops 120 = .ok (.ireturn, 1) := by decide +kernel
theorem dL_stops_121 : decode cL_stops 121 = .ok (.iinc 6 1, 3) := by decide +kernel
theorem dL_stops_124 : decode cL_stops 124 = .ok (.aload_n 0, 1) := by decide +kernel
theorem dL_stops_125 : decode cL_stops 125 = .ok (.iconst 4, 1) := by decide +kernel
theorem dL_stops_126 : decode cL_stops 126 = .ok (.invokevirtual 10, 3) := by decide +kernel
theorem dL_stops_129 : decode cL_stops 129 = .ok (.iconst 2, 1) := by decide +kernel
theorem dL_stops_130 : decode cL_stops 130 = .ok (.if_icmp .eq 18, 3) := by decide +kernel
theorem dL_stops_133 : decode cL_stops 133 = .ok (.aload_n 0, 1) := by decide +kernel
theorem dL_stops_134 : decode cL_stops 134 = .ok (.iconst 1, 1) := by decide +kernel
theorem dL_stops_135 : decode cL_stops 135 = .ok (.iload_n 3, 1) := by decide +kernel
theorem dL_stops_136 : decode cL_stops 136 = .ok (.iadd, 1) := by decide +kernel
theorem dL_stops_137 : decode cL_stops 137 = .ok (.invokevirtual 99, 3) := by decide +kernel
theorem dL_stops_140 : decode cL_stops 140 = .ok (.ifCond .ge 5, 3) := by decide +kernel
theorem dL_stops_143 : decode cL_stops 143 = .ok (.iconst 0, 1) := by decide +kernel
theorem dL_stops_144 : decode cL_stops 144 = .ok (.ireturn, 1) := by decide +kernel
theorem dL_stops_145 : decode cL_stops 145 = .ok (.iinc 6 1, 3) := by decide +kernel
theorem dL_stops_148 : decode cL_stops 148 = .ok (.aload_n 0, 1) := by decide +kernel
theorem dL_stops_149 : decode cL_stops 149 = .ok (.iconst 4, 1) := by decide +kernel
theorem dL_stops_150 : decode cL_stops 150 = .ok (.invokevirtual 10, 3) := by decide +kernel
theorem dL_stops_153 : decode cL_stops 153 = .ok (.iconst 2, 1) := by decide +kernel
theorem dL_stops_154 : decode cL_stops 154 = .ok (.if_icmp .ne 28, 3) := by decide +kernel
theorem dL_stops_157 : decode cL_stops 157 = .ok (.aload_n 0, 1) := by decide +kernel
theorem dL_stops_158 : decode cL_stops 158 = .ok (.iconst 3, 1) := by decide +kernel
theorem dL_stops_159 : decode cL_stops 159 = .ok (.invokevirtual 10, 3) := by decide +kernel
theorem dL_stops_162 : decode cL_stops 162 = .ok (.ifCond .ne 20, 3) := by decide +kernel
theorem dL_stops_165 : decode cL_stops 165 = .ok (.aload_n 0, 1) := by decide +kernel
theorem dL_stops_166 : decode cL_stops 166 = .ok (.bipush 9, 2) := by decide +kernel
theorem dL_stops_168 : decode cL_stops 168 = .ok (.invokevirtual 10, 3) := by decide +kernel
theorem dL_stops_171 : decode cL_stops 171 = .ok (.iload 4, 2) := by decide +kernel
theorem dL_stops_173 : decode cL_stops 173 = .ok (.iload_n 2, 1) := by decide +kernel
theorem dL_stops_174 : decode cL_stops 174 = .ok (.iadd, 1) := by decide +kernel
theorem dL_stops_175 : decode cL_stops 175 = .ok (.if_icmp .ne 7, 3) := by decide +kernel
theorem dL_stops_178 : decode cL_stops 178 = .ok (.iconst 1, 1) := by decide +kernel
theorem dL_stops_179 : decode cL_stops 179 = .ok (.goto 4, 3) := by decide +kernel
theorem dL_stops_182 : decode cL_stops 182 = .ok (.iconst 0, 1) := by decide +kernel
theorem dL_stops_183 : decode cL_stops 183 = .ok (.istore 7, 2) := by decide +kernel
theorem dL_stops_185 : decode cL_stops 185 = .ok (.iconst 0, 1) := by decide +kernel
theorem dL_stops_186 : decode cL_stops 186 = .ok (.istore 8, 2) := by decide +kernel
theorem dL_stops_188 : decode cL_stops 188 = .ok (.iload 8, 2) := by decide +kernel
theorem dL_stops_190 : decode cL_stops 190 = .ok (.iload 6, 2) := by decide +kernel
theorem dL_stops_192 : decode cL_stops 192 = .ok (.if_icmp .ge 28, 3) := by decide +kernel
theorem dL_stops_195 : decode cL_stops 195 = .ok (.iload 7, 2) := by decide +kernel
theorem dL_stops_197 : decode cL_stops 197 = .ok (.ifCond .eq 14, 3) := by decide +kernel
theorem dL_stops_200 : decode cL_stops 200 = .ok (.aload_n 0, 1) := by decide +kernel
theorem dL_stops_201 : decode cL_stops 201 = .ok (.invokevirtual 102, 3) := by decide +kernel
theorem dL_stops_204 : decode cL_stops 204 = .ok (.ifCond .lt 7, 3) := by decide +kernel
theorem dL_stops_207 : decode cL_stops 207 = .ok (.iconst 1, 1) := by decide +kernel
theorem dL_stops_208 : decode cL_stops 208 = .ok (.goto 4, 3) := by decide +kernel
theorem dL_stops_211 : decode cL_stops 211 = .ok (.iconst 0, 1) := by decide +kernel
theorem dL_stops_212 : decode cL_stops 212 = .ok (.istore 7, 2) := by decide +kernel
theorem dL_stops_214 : decode cL_stops 214 = .ok (.iinc 8 1, 3) := by decide +kernel
theorem dL_stops_217 : decode cL_stops 217 = .ok (.goto (-29), 3) := by decide +kernel
theorem dL_stops_220 : decode cL_stops 220 = .ok (.aload_n 0, 1) := by decide +kernel
theorem dL_stops_221 : decode cL_stops 221 = .ok (.iload_n 2, 1) := by decide +kernel
theorem dL_stops_222 : decode cL_stops 222 = .ok (.invokevirtual 105, 3) := by decide +kernel
theorem dL_stops_225 : decode cL_stops 225 = .ok (.istore 8, 2) := by decide +kernel
theorem dL_stops_227 : decode cL_stops 227 = .ok (.iconst 1, 1) := by decide +kernel
theorem dL_stops_228 : decode cL_stops 228 = .ok (.iload_n 1, 1) := by decide +kernel
theorem dL_stops_229 : decode cL_stops 229 = .ok (.bipush 30, 2) := by decide +kernel
theorem dL_stops_231 : decode cL_stops 231 = .ok (.invokestatic 20, 3) := by decide +kernel
theorem dL_stops_234 : decode cL_stops 234 = .ok (.iadd, 1) := by decide +kernel
theorem dL_stops_235 : decode cL_stops 235 = .ok (.istore 9, 2) := by decide +kernel
theorem dL_stops_237 : decode cL_stops 237 = .ok (.aload_n 0, 1) := by decide +kernel
theorem dL_stops_238 : decode cL_stops 238 = .ok (.iconst 2, 1) := by decide +kernel
theorem dL_stops_239 : decode cL_stops 239 = .ok (.iload 9, 2) := by decide +kernel
theorem dL_stops_241 : decode cL_stops 241 = .ok (.invokevirtual 108, 3) := by decide +kernel
theorem dL_stops_244 : decode cL_stops 244 = .ok (.istore 10, 2) := by decide +kernel
theorem dL_stops_246 : decode cL_stops 246 = .ok (.iload 7, 2) := by decide +kernel
theorem dL_stops_248 : decode cL_stops 248 = .ok (.ifCond .eq 51, 3) := by decide +kernel
theorem dL_stops_251 : decode cL_stops 251 = .ok (.iload 10, 2) := by decide +kernel
theorem dL_stops_253 : decode cL_stops 253 = .ok (.iconst 1, 1) := by decide +kernel
theorem dL_stops_254 : decode cL_stops 254 = .ok (.if_icmp .lt 45, 3) := by decide +kernel
theorem dL_stops_257 : decode cL_stops 257 = .ok (.iload 8, 2) := by decide +kernel
theorem dL_stops_259 : decode cL_stops 259 = .ok (.iconst 1, 1) := by decide +kernel
theorem dL_stops_260 : decode cL_stops 260 = .ok (.if_icmp .lt 39, 3) := by decide +kernel
theorem dL_stops_263 : decode cL_stops 263 = .ok (.iload 8, 2) := by decide +kernel
theorem dL_stops_265 : decode cL_stops 265 = .ok (.iload 10, 2) := by decide +kernel
theorem dL_stops_267 : decode cL_stops 267 = .ok (.if_icmp .gt 32, 3) := by decide +kernel
theorem dL_stops_270 : decode cL_stops 270 = .ok (.aload_n 0, 1) := by decide +kernel
theorem dL_stops_271 : decode cL_stops 271 = .ok (.invokevirtual 90, 3) := by decide +kernel
theorem dL_stops_274 : decode cL_stops 274 = .ok (.iload_n 2, 1) := by decide +kernel
theorem dL_stops_275 : decode cL_stops 275 = .ok (.if_icmp .gt 13, 3) := by decide +kernel
theorem dL_stops_278 : decode cL_stops 278 = .ok (.iload 9, 2) := by decide +kernel
theorem dL_stops_280 : decode cL_stops 280 = .ok (.iload 8, 2) := by decide +kernel
theorem dL_stops_282 : decode cL_stops 282 = .ok (.if_icmp .lt 17, 3) := by decide +kernel
theorem dL_stops_285 : decode cL_stops 285 = .ok (.goto 10, 3) := by decide +kernel
theorem dL_stops_288 : decode cL_stops 288 = .ok (.iload 9, 2) := by decide +kernel
theorem dL_stops_290 : decode cL_stops 290 = .ok (.iload 8, 2) := by decide +kernel
theorem dL_stops_292 : decode cL_stops 292 = .ok (.if_icmp .eq 7, 3) := by decide +kernel
theorem dL_stops_295 : decode cL_stops 295 = .ok (.iconst 1, 1) := by decide +kernel
theorem dL_stops_296 : decode cL_stops 296 = .ok (.goto 4, 3) := by decide +kernel
theorem dL_stops_299 : decode cL_stops 299 = .ok (.iconst 0, 1) := by decide +kernel
theorem dL_stops_300 : decode cL_stops 300 = .ok (.istore 7, 2) := by decide +kernel
theorem dL_stops_302 : decode cL_stops 302 = .ok (.iload 7, 2) := by decide +kernel
theorem dL_stops_304 : decode cL_stops 304 = .ok (.ifCond .eq 22, 3) := by decide +kernel
theorem dL_stops_307 : decode cL_stops 307 = .ok (.aload_n 0, 1) := by decide +kernel
theorem dL_stops_308 : decode cL_stops 308 = .ok (.invokevirtual 102, 3) := by decide +kernel
theorem dL_stops_311 : decode cL_stops 311 = .ok (.ifCond .lt 15, 3) := by decide +kernel
theorem dL_stops_314 : decode cL_stops 314 = .ok (.aload_n 0, 1) := by decide +kernel
theorem dL_stops_315 : decode cL_stops 315 = .ok (.invokevirtual 90, 3) := by decide +kernel
theorem dL_stops_318 : decode cL_stops 318 = .ok (.iload_n 2, 1) := by decide +kernel
theorem dL_stops_319 : decode cL_stops 319 = .ok (.if_icmp .ne 7, 3) := by decide +kernel
theorem dL_stops_322 : decode cL_stops 322 = .ok (.iconst 1, 1) := by decide +kernel
theorem dL_stops_323 : decode cL_stops 323 = .ok (.goto 4, 3) := by decide +kernel
theorem dL_stops_326 : decode cL_stops 326 = .ok (.iconst 0, 1) := by decide +kernel
theorem dL_stops_327 : decode cL_stops 327 = .ok (.ireturn, 1) := by decide +kernel
theorem dL_empties_0 : decode cL_empties 0 = .ok (.aload_n 0, 1) := by decide +kernel
theorem dL_empties_1 : decode cL_empties 1 = .ok (.invokevirtual 111, 3) := by decide +kernel
theorem dL_empties_4 : decode cL_empties 4 = .ok (.istore_n 1, 1) := by decide +kernel
theorem dL_empties_5 : decode cL_empties 5 = .ok (.aload_n 0, 1) := by decide +kernel
theorem dL_empties_6 : decode cL_empties 6 = .ok (.iconst 1, 1) := by decide +kernel
theorem dL_empties_7 : decode cL_empties 7 = .ok (.invokevirtual 10, 3) := by decide +kernel
theorem dL_empties_10 : decode cL_empties 10 = .ok (.istore_n 2, 1) := by decide +kernel
theorem dL_empties_11 : decode cL_empties 11 = .ok (.iload_n 1, 1) := by decide +kernel
theorem dL_empties_12 : decode cL_empties 12 = .ok (.ifCond .eq 16, 3) := by decide +kernel
theorem dL_empties_15 : decode cL_empties 15 = .ok (.iload_n 1, 1) := by decide +kernel
theorem dL_empties_16 : decode cL_empties 16 = .ok (.bipush (-6), 2) := by decide +kernel
theorem dL_empties_18 : decode cL_empties 18 = .ok (.if_icmp .eq 10, 3) := by decide +kernel
theorem dL_empties_21 : decode cL_empties 21 = .ok (.iload_n 1, 1) := by decide +kernel
theorem dL_empties_22 : decode cL_empties 22 = .ok (.sipush 900, 3) := by decide +kernel
theorem dL_empties_25 : decode cL_empties 25 = .ok (.if_icmp .le 30, 3) := by decide +kernel
theorem dL_empties_28 : decode cL_empties 28 = .ok (.iload_n 1, 1) := by decide +kernel
theorem dL_empties_29 : decode cL_empties 29 = .ok (.ifCond .ne 7, 3) := by decide +kernel
theorem dL_empties_32 : decode cL_empties 32 = .ok (.iconst 1, 1) := by decide +kernel
theorem dL_empties_33 : decode cL_empties 33 = .ok (.goto 4, 3) := by decide +kernel
theorem dL_empties_36 : decode cL_empties 36 = .ok (.iconst 0, 1) := by decide +kernel
theorem dL_empties_37 : decode cL_empties 37 = .ok (.iload_n 2, 1) := by decide +kernel
theorem dL_empties_38 : decode cL_empties 38 = .ok (.ifCond .ne 7, 3) := by decide +kernel
theorem dL_empties_41 : decode cL_empties 41 = .ok (.iconst 1, 1) := by decide +kernel
theorem dL_empties_42 : decode cL_empties 42 = .ok (.goto 4, 3) := by decide +kernel
theorem dL_empties_45 : decode cL_empties 45 = .ok (.iconst 0, 1) := by decide +kernel
theorem dL_empties_46 : decode cL_empties 46 = .ok (.if_icmp .ne 7, 3) := by decide +kernel
theorem dL_empties_49 : decode cL_empties 49 = .ok (.iconst 1, 1) := by decide +kernel
theorem dL_empties_50 : decode cL_empties 50 = .ok (.goto 4, 3) := by decide +kernel
theorem dL_empties_53 : decode cL_empties 53 = .ok (.iconst 0, 1) := by decide +kernel
theorem dL_empties_54 : decode cL_empties 54 = .ok (.ireturn, 1) := by decide +kernel
theorem dL_empties_55 : decode cL_empties 55 = .ok (.aload_n 0, 1) := by decide +kernel
theorem dL_empties_56 : decode cL_empties 56 = .ok (.iconst 5, 1) := by decide +kernel
theorem dL_empties_57 : decode cL_empties 57 = .ok (.invokevirtual 10, 3) := by decide +kernel
theorem dL_empties_60 : decode cL_empties 60 = .ok (.istore_n 3, 1) := by decide +kernel
theorem dL_empties_61 : decode cL_empties 61 = .ok (.iload_n 1, 1) := by decide +kernel
theorem dL_empties_62 : decode cL_empties 62 = .ok (.iconst 1, 1) := by decide +kernel
theorem dL_empties_63 : decode cL_empties 63 = .ok (.if_icmp .eq 21, 3) := by decide +kernel
theorem dL_empties_66 : decode cL_empties 66 = .ok (.aload_n 0, 1) := by decide +kernel
theorem dL_empties_67 : decode cL_empties 67 = .ok (.iload_n 1, 1) := by decide +kernel
theorem dL_empties_68 : decode cL_empties 68 = .ok (.iconst 1, 1) := by decide +kernel
theorem dL_empties_69 : decode cL_empties 69 = .ok (.isub, 1) := by decide +kernel
theorem dL_empties_70 : decode cL_empties 70 = .ok (.invokevirtual 99, 3) := by decide +kernel
theorem dL_empties_73 : decode cL_empties 73 = .ok (.ifCond .le 49, 3) := by decide +kernel
theorem dL_empties_76 : decode cL_empties 76 = .ok (.aload_n 0, 1) := by decide +kernel
theorem dL_empties_77 : decode cL_empties 77 = .ok (.iconst 1, 1) := by decide +kernel
theorem dL_empties_78 : decode cL_empties 78 = .ok (.invokevirtual 10, 3) := by decide +kernel
theorem dL_empties_81 : decode cL_empties 81 = .ok (.ifCond .le 41, 3) := by decide +kernel
theorem dL_empties_84 : decode cL_empties 84 = .ok (.aload_n 0, 1) := by decide +kernel
theorem dL_empties_85 : decode cL_empties 85 = .ok (.iconst 1, 1) := by decide +kernel
theorem dL_empties_86 : decode cL_empties 86 = .ok (.invokevirtual 99, 3) := by decide +kernel
theorem dL_empties_89 : decode cL_empties 89 = .ok (.ifCond .le 33, 3) := by decide +kernel
theorem dL_empties_92 : decode cL_empties 92 = .ok (.aload_n 0, 1) := by decide +kernel
theorem dL_empties_93 : decode cL_empties 93 = .ok (.iconst 1, 1) := by decide +kernel
theorem dL_empties_94 : decode cL_empties 94 = .ok (.invokevirtual 10, 3) := by decide +kernel
theorem dL_empties_97 : decode cL_empties 97 = .ok (.ifCond .ne 25, 3) := by decide +kernel
theorem dL_empties_100 : decode cL_empties 100 = .ok (.aload_n 0, 1) := by decide +kernel
theorem dL_empties_101 : decode cL_empties 101 = .ok (.iconst 5, 1) := by decide +kernel
theorem dL_empties_102 : decode cL_empties 102 = .ok (.invokevirtual 10, 3) := by decide +kernel
theorem dL_empties_105 : decode cL_empties 105 = .ok (.iload_n 3, 1) := by decide +kernel
theorem dL_empties_106 : decode cL_empties 106 = .ok (.iload_n 2, 1) := by decide +kernel
theorem dL_empties_107 : decode cL_empties 107 = .ok (.iadd, 1) := by decide +kernel
theorem dL_empties_108 : decode cL_empties 108 = .ok (.if_icmp .ne 14, 3) := by decide +kernel
theorem dL_empties_111 : decode cL_empties 111 = .ok (.aload_n 0, 1) := by decide +kernel
theorem dL_empties_112 : decode cL_empties 112 = .ok (.invokevirtual 111, 3) := by decide +kernel
theorem dL_empties_115 : decode cL_empties 115 = .ok (.ifCond .ne 7, 3) := by decide +kernel
theorem dL_empties_118 : decode cL_empties 118 = .ok (.iconst 1, 1) := by decide +kernel
theorem dL_empties_119 : decode cL_empties 119 = .ok (.goto 4, 3) := by decide +kernel
theorem dL_empties_122 : decode cL_empties 122 = .ok (.iconst 0, 1) := by decide +kernel
theorem dL_empties_123 : decode cL_empties 123 = .ok (.istore 4, 2) := by decide +kernel
theorem dL_empties_125 : decode cL_empties 125 = .ok (.iload 4, 2) := by decide +kernel
theorem dL_empties_127 : decode cL_empties 127 = .ok (.ifCond .eq 35, 3) := by decide +kernel
theorem dL_empties_130 : decode cL_empties 130 = .ok (.iload_n 1, 1) := by decide +kernel
theorem dL_empties_131 : decode cL_empties 131 = .ok (.iconst 1, 1) := by decide +kernel
theorem dL_empties_132 : decode cL_empties 132 = .ok (.if_icmp .eq 10, 3) := by decide +kernel
theorem dL_empties_135 : decode cL_empties 135 = .ok (.aload_n 0, 1) := by decide +kernel
theorem dL_empties_136 : decode cL_empties 136 = .ok (.invokevirtual 102, 3) := by decide +kernel
theorem dL_empties_139 : decode cL_empties 139 = .ok (.ifCond .lt 23, 3) := by decide +kernel
theorem dL_empties_142 : decode cL_empties 142 = .ok (.aload_n 0, 1) := by decide +kernel
theorem dL_empties_143 : decode cL_empties 143 = .ok (.invokevirtual 102, 3) := by decide +kernel
theorem dL_empties_146 : decode cL_empties 146 = .ok (.ifCond .lt 16, 3) := by decide +kernel
theorem dL_empties_149 : decode cL_empties 149 = .ok (.aload_n 0, 1) := by decide +kernel
theorem dL_empties_150 : decode cL_empties 150 = .ok (.iconst 1, 1) := by decide +kernel
theorem dL_empties_151 : decode cL_empties 151 = .ok (.invokevirtual 10, 3) := by decide +kernel
theorem dL_empties_154 : decode cL_empties 154 = .ok (.iload_n 2, 1) := by decide +kernel
theorem dL_empties_155 : decode cL_empties 155 = .ok (.if_icmp .ne 7, 3) := by decide +kernel
theorem dL_empties_158 : decode cL_empties 158 = .ok (.iconst 1, 1) := by decide +kernel
theorem dL_empties_159 : decode cL_empties 159 = .ok (.goto 4, 3) := by decide +kernel
theorem dL_empties_162 : decode cL_empties 162 = .ok (.iconst 0, 1) := by decide +kernel
theorem dL_empties_163 : decode cL_empties 163 = .ok (.ireturn, 1) := by decide +kernel
theorem dL_law_0 : decode cL_law 0 = .ok (.new 11, 3) := by decide +kernel
theorem dL_law_3 : decode cL_law 3 = .ok (.dup, 1) := by decide +kernel
theorem dL_law_4 : decode cL_law 4 = .ok (.invokespecial 114, 3) := by decide +kernel
theorem dL_law_7 : decode cL_law 7 = .ok (.astore_n 1, 1) := by decide +kernel
theorem dL_law_8 : decode cL_law 8 = .ok (.aload_n 1, 1) := by decide +kernel
theorem dL_law_9 : decode cL_law 9 = .ok (.iconst 0, 1) := by decide +kernel
theorem dL_law_10 : decode cL_law 10 = .ok (.invokevirtual 73, 3) := by decide +kernel
theorem dL_law_13 : decode cL_law 13 = .ok (.bipush 7, 2) := by decide +kernel
theorem dL_law_15 : decode cL_law 15 = .ok (.if_icmp .ne 56, 3) := by decide +kernel
theorem dL_law_18 : decode cL_law 18 = .ok (.aload_n 1, 1) := by decide +kernel
theorem dL_law_19 : decode cL_law 19 = .ok (.iconst 1, 1) := by decide +kernel
theorem dL_law_20 : decode cL_law 20 = .ok (.invokevirtual 73, 3) := by decide +kernel
theorem dL_law_23 : decode cL_law 23 = .ok (.iconst 4, 1) := by decide +kernel
theorem dL_law_24 : decode cL_law 24 = .ok (.if_icmp .ne 47, 3) := by decide +kernel
theorem dL_law_27 : decode cL_law 27 = .ok (.aload_n 1, 1) := by decide +kernel
theorem dL_law_28 : decode cL_law 28 = .ok (.iconst 2, 1) := by decide +kernel
theorem dL_law_29 : decode cL_law 29 = .ok (.invokevirtual 73, 3) := by decide +kernel
theorem dL_law_32 : decode cL_law 32 = .ok (.ifCond .ne 39, 3) := by decide +kernel
theorem dL_law_35 : decode cL_law 35 = .ok (.aload_n 1, 1) := by decide +kernel
theorem dL_law_36 : decode cL_law 36 = .ok (.iconst 3, 1) := by decide +kernel
theorem dL_law_37 : decode cL_law 37 = .ok (.invokevirtual 73, 3) := by decide +kernel
theorem dL_law_40 : decode cL_law 40 = .ok (.sipush 240, 3) := by decide +kernel
theorem dL_law_43 : decode cL_law 43 = .ok (.if_icmp .ne 28, 3) := by decide +kernel
theorem dL_law_46 : decode cL_law 46 = .ok (.aload_n 1, 1) := by decide +kernel
theorem dL_law_47 : decode cL_law 47 = .ok (.iconst 4, 1) := by decide +kernel
theorem dL_law_48 : decode cL_law 48 = .ok (.invokevirtual 73, 3) := by decide +kernel
theorem dL_law_51 : decode cL_law 51 = .ok (.bipush 7, 2) := by decide +kernel
theorem dL_law_53 : decode cL_law 53 = .ok (.if_icmp .ne 18, 3) := by decide +kernel
theorem dL_law_56 : decode cL_law 56 = .ok (.aload_n 1, 1) := by decide +kernel
theorem dL_law_57 : decode cL_law 57 = .ok (.invokevirtual 69, 3) := by decide +kernel
theorem dL_law_60 : decode cL_law 60 = .ok (.iconst 3, 1) := by decide +kernel
theorem dL_law_61 : decode cL_law 61 = .ok (.if_icmp .ne 10, 3) := by decide +kernel
theorem dL_law_64 : decode cL_law 64 = .ok (.aload_n 1, 1) := by decide +kernel
theorem dL_law_65 : decode cL_law 65 = .ok (.invokevirtual 90, 3) := by decide +kernel
theorem dL_law_68 : decode cL_law 68 = .ok (.ifCond .eq 5, 3) := by decide +kernel
theorem dL_law_71 : decode cL_law 71 = .ok (.iconst 0, 1) := by decide +kernel
theorem dL_law_72 : decode cL_law 72 = .ok (.ireturn, 1) := by decide +kernel
theorem dL_law_73 : decode cL_law 73 = .ok (.aload_n 0, 1) := by decide +kernel
theorem dL_law_74 : decode cL_law 74 = .ok (.iconst 0, 1) := by decide +kernel
theorem dL_law_75 : decode cL_law 75 = .ok (.invokestatic 115, 3) := by decide +kernel
theorem dL_law_78 : decode cL_law 78 = .ok (.istore_n 2, 1) := by decide +kernel
theorem dL_law_79 : decode cL_law 79 = .ok (.aload_n 1, 1) := by decide +kernel
theorem dL_law_80 : decode cL_law 80 = .ok (.iconst 0, 1) := by decide +kernel
theorem dL_law_81 : decode cL_law 81 = .ok (.bipush 30, 2) := by decide +kernel
theorem dL_law_83 : decode cL_law 83 = .ok (.iload_n 2, 1) := by decide +kernel
theorem dL_law_84 : decode cL_law 84 = .ok (.bipush 61, 2) := by decide +kernel
theorem dL_law_86 : decode cL_law 86 = .ok (.invokestatic 20, 3) := by decide +kernel
theorem dL_law_89 : decode cL_law 89 = .ok (.iadd, 1) := by decide +kernel
theorem dL_law_90 : decode cL_law 90 = .ok (.invokevirtual 108, 3) := by decide +kernel
theorem dL_law_93 : decode cL_law 93 = .ok (.bipush 50, 2) := by decide +kernel
theorem dL_law_95 : decode cL_law 95 = .ok (.if_icmp .ne 70, 3) := by decide +kernel
theorem dL_law_98 : decode cL_law 98 = .ok (.aload_n 1, 1) := by decide +kernel
theorem dL_law_99 : decode cL_law 99 = .ok (.iconst 1, 1) := by decide +kernel
theorem dL_law_100 : decode cL_law 100 = .ok (.iconst 1, 1) := by decide +kernel
theorem dL_law_101 : decode cL_law 101 = .ok (.iload_n 2, 1) := by decide +kernel
theorem dL_law_102 : decode cL_law 102 = .ok (.bipush 6, 2) := by decide +kernel
theorem dL_law_104 : decode cL_law 104 = .ok (.ishr, 1) := by decide +kernel
theorem dL_law_105 : decode cL_law 105 = .ok (.bipush 40, 2) := by decide +kernel
theorem dL_law_107 : decode cL_law 107 = .ok (.invokestatic 20, 3) := by decide +kernel
theorem dL_law_110 : decode cL_law 110 = .ok (.iadd, 1) := by decide +kernel
theorem dL_law_111 : decode cL_law 111 = .ok (.invokevirtual 108, 3) := by decide +kernel
theorem dL_law_114 : decode cL_law 114 = .ok (.bipush 10, 2) := by decide +kernel
theorem dL_law_116 : decode cL_law 116 = .ok (.if_icmp .ne 49, 3) := by decide +kernel
theorem dL_law_119 : decode cL_law 119 = .ok (.aload_n 1, 1) := by decide +kernel
theorem dL_law_120 : decode cL_law 120 = .ok (.iconst 2, 1) := by decide +kernel
theorem dL_law_121 : decode cL_law 121 = .ok (.iconst 1, 1) := by decide +kernel
theorem dL_law_122 : decode cL_law 122 = .ok (.iload_n 2, 1) := by decide +kernel
theorem dL_law_123 : decode cL_law 123 = .ok (.bipush 12, 2) := by decide +kernel
theorem dL_law_125 : decode cL_law 125 = .ok (.ishr, 1) := by decide +kernel
theorem dL_law_126 : decode cL_law 126 = .ok (.bipush 30, 2) := by decide +kernel
theorem dL_law_128 : decode cL_law 128 = .ok (.invokestatic 20, 3) := by decide +kernel
theorem dL_law_131 : decode cL_law 131 = .ok (.iadd, 1) := by decide +kernel
theorem dL_law_132 : decode cL_law 132 = .ok (.invokevirtual 108, 3) := by decide +kernel
theorem dL_law_135 : decode cL_law 135 = .ok (.bipush 6, 2) := by decide +kernel
theorem dL_law_137 : decode cL_law 137 = .ok (.if_icmp .ne 28, 3) := by decide +kernel
theorem dL_law_140 : decode cL_law 140 = .ok (.aload_n 1, 1) := by decide +kernel
theorem dL_law_141 : decode cL_law 141 = .ok (.iconst 3, 1) := by decide +kernel
theorem dL_law_142 : decode cL_law 142 = .ok (.iconst 1, 1) := by decide +kernel
theorem dL_law_143 : decode cL_law 143 = .ok (.iload_n 2, 1) := by decide +kernel
theorem dL_law_144 : decode cL_law 144 = .ok (.bipush 17, 2) := by decide +kernel
theorem dL_law_146 : decode cL_law 146 = .ok (.ishr, 1) := by decide +kernel
theorem dL_law_147 : decode cL_law 147 = .ok (.bipush 20, 2) := by decide +kernel
theorem dL_law_149 : decode cL_law 149 = .ok (.invokestatic 20, 3) := by decide +kernel
theorem dL_law_152 : decode cL_law 152 = .ok (.iadd, 1) := by decide +kernel
theorem dL_law_153 : decode cL_law 153 = .ok (.invokevirtual 108, 3) := by decide +kernel
theorem dL_law_156 : decode cL_law 156 = .ok (.bipush 20, 2) := by decide +kernel
theorem dL_law_158 : decode cL_law 158 = .ok (.if_icmp .ne 7, 3) := by decide +kernel
theorem dL_law_161 : decode cL_law 161 = .ok (.iconst 1, 1) := by decide +kernel
theorem dL_law_162 : decode cL_law 162 = .ok (.goto 4, 3) := by decide +kernel
theorem dL_law_165 : decode cL_law 165 = .ok (.iconst 0, 1) := by decide +kernel
theorem dL_law_166 : decode cL_law 166 = .ok (.istore_n 3, 1) := by decide +kernel
theorem dL_law_167 : decode cL_law 167 = .ok (.iload_n 3, 1) := by decide +kernel
theorem dL_law_168 : decode cL_law 168 = .ok (.ifCond .eq 75, 3) := by decide +kernel
theorem dL_law_171 : decode cL_law 171 = .ok (.aload_n 1, 1) := by decide +kernel
theorem dL_law_172 : decode cL_law 172 = .ok (.iconst 4, 1) := by decide +kernel
theorem dL_law_173 : decode cL_law 173 = .ok (.iconst 1, 1) := by decide +kernel
theorem dL_law_174 : decode cL_law 174 = .ok (.iload_n 2, 1) := by decide +kernel
theorem dL_law_175 : decode cL_law 175 = .ok (.bipush 22, 2) := by decide +kernel
theorem dL_law_177 : decode cL_law 177 = .ok (.ishr, 1) := by decide +kernel
theorem dL_law_178 : decode cL_law 178 = .ok (.bipush 9, 2) := by decide +kernel
theorem dL_law_180 : decode cL_law 180 = .ok (.invokestatic 20, 3) := by decide +kernel
theorem dL_law_183 : decode cL_law 183 = .ok (.iadd, 1) := by decide +kernel
theorem dL_law_184 : decode cL_law 184 = .ok (.invokevirtual 108, 3) := by decide +kernel
theorem dL_law_187 : decode cL_law 187 = .ok (.iconst 5, 1) := by decide +kernel
theorem dL_law_188 : decode cL_law 188 = .ok (.if_icmp .ne 55, 3) := by decide +kernel
theorem dL_law_191 : decode cL_law 191 = .ok (.aload_n 1, 1) := by decide +kernel
theorem dL_law_192 : decode cL_law 192 = .ok (.iconst 5, 1) := by decide +kernel
theorem dL_law_193 : decode cL_law 193 = .ok (.iconst 1, 1) := by decide +kernel
theorem dL_law_194 : decode cL_law 194 = .ok (.aload_n 0, 1) := by decide +kernel
theorem dL_law_195 : decode cL_law 195 = .ok (.iconst 1, 1) := by decide +kernel
theorem dL_law_196 : decode cL_law 196 = .ok (.invokestatic 115, 3) := by decide +kernel
theorem dL_law_199 : decode cL_law 199 = .ok (.sipush 300, 3) := by decide +kernel
theorem dL_law_202 : decode cL_law 202 = .ok (.invokestatic 20, 3) := by decide +kernel
theorem dL_law_205 : decode cL_law 205 = .ok (.iadd, 1) := by decide +kernel
theorem dL_law_206 : decode cL_law 206 = .ok (.invokevirtual 108, 3) := by decide +kernel
theorem dL_law_209 : decode cL_law 209 = .ok (.bipush 100, 2) := by decide +kernel
theorem dL_law_211 : decode cL_law 211 = .ok (.if_icmp .ne 32, 3) := by decide +kernel
theorem dL_law_214 : decode cL_law 214 = .ok (.aload_n 1, 1) := by decide +kernel
theorem dL_law_215 : decode cL_law 215 = .ok (.bipush 6, 2) := by decide +kernel
theorem dL_law_217 : decode cL_law 217 = .ok (.iconst 1, 1) := by decide +kernel
theorem dL_law_218 : decode cL_law 218 = .ok (.aload_n 0, 1) := by decide +kernel
theorem dL_law_219 : decode cL_law 219 = .ok (.iconst 2, 1) := by decide +kernel
theorem dL_law_220 : decode cL_law 220 = .ok (.invokestatic 115, 3) := by decide +kernel
theorem dL_law_223 : decode cL_law 223 = .ok (.sipush 1500, 3) := by decide +kernel
theorem dL_law_226 : decode cL_law 226 = .ok (.invokestatic 20, 3) := by decide +kernel
theorem dL_law_229 : decode cL_law 229 = .ok (.iadd, 1) := by decide +kernel
theorem dL_law_230 : decode cL_law 230 = .ok (.invokevirtual 108, 3) := by decide +kernel
theorem dL_law_233 : decode cL_law 233 = .ok (.sipush 800, 3) := by decide +kernel
theorem dL_law_236 : decode cL_law 236 = .ok (.if_icmp .ne 7, 3) := by decide +kernel
theorem dL_law_239 : decode cL_law 239 = .ok (.iconst 1, 1) := by decide +kernel
theorem dL_law_240 : decode cL_law 240 = .ok (.goto 4, 3) := by decide +kernel
theorem dL_law_243 : decode cL_law 243 = .ok (.iconst 0, 1) := by decide +kernel
theorem dL_law_244 : decode cL_law 244 = .ok (.istore_n 3, 1) := by decide +kernel
theorem dL_law_245 : decode cL_law 245 = .ok (.iconst 0, 1) := by decide +kernel
theorem dL_law_246 : decode cL_law 246 = .ok (.istore 4, 2) := by decide +kernel
theorem dL_law_248 : decode cL_law 248 = .ok (.iload 4, 2) := by decide +kernel
theorem dL_law_250 : decode cL_law 250 = .ok (.bipush 7, 2) := by decide +kernel
theorem dL_law_252 : decode cL_law 252 = .ok (.if_icmp .ge 507, 3) := by decide +kernel
theorem dL_law_255 : decode cL_law 255 = .ok (.iload_n 3, 1) := by decide +kernel
theorem dL_law_256 : decode cL_law 256 = .ok (.ifCond .eq 503, 3) := by decide +kernel
theorem dL_law_259 : decode cL_law 259 = .ok (.aload_n 0, 1) := by decide +kernel
theorem dL_law_260 : decode cL_law 260 = .ok (.iconst 3, 1) := by decide +kernel
theorem dL_law_261 : decode cL_law 261 = .ok (.iload 4, 2) := by decide +kernel
theorem dL_law_263 : decode cL_law 263 = .ok (.iadd, 1) := by decide +kernel
theorem dL_law_264 : decode cL_law 264 = .ok (.invokestatic 115, 3) := by decide +kernel
theorem dL_law_267 : decode cL_law 267 = .ok (.istore 5, 2) := by decide +kernel
theorem dL_law_269 : decode cL_law 269 = .ok (.aload_n 0, 1) := by decide +kernel
theorem dL_law_270 : decode cL_law 270 = .ok (.bipush 12, 2) := by decide +kernel
theorem dL_law_272 : decode cL_law 272 = .ok (.iload 4, 2) := by decide +kernel
theorem dL_law_274 : decode cL_law 274 = .ok (.iadd, 1) := by decide +kernel
theorem dL_law_275 : decode cL_law 275 = .ok (.invokestatic 115, 3) := by decide +kernel
theorem dL_law_278 : decode cL_law 278 = .ok (.istore 6, 2) := by decide +kernel
theorem dL_law_280 : decode cL_law 280 = .ok (.iload 4, 2) := by decide +kernel
theorem dL_law_282 : decode cL_law 282 = .ok (.iconst 3, 1) := by decide +kernel
theorem dL_law_283 : decode cL_law 283 = .ok (.irem, 1) := by decide +kernel
theorem dL_law_284 : decode cL_law 284 = .ok (.ifCond .ne 71, 3) := by decide +kernel
theorem dL_law_287 : decode cL_law 287 = .ok (.aload_n 1, 1) := by decide +kernel
theorem dL_law_288 : decode cL_law 288 = .ok (.iload 5, 2) := by decide +kernel
theorem dL_law_290 : decode cL_law 290 = .ok (.invokestatic 119, 3) := by decide +kernel
theorem dL_law_293 : decode cL_law 293 = .ok (.ifCond .eq 16, 3) := by decide +kernel
theorem dL_law_296 : decode cL_law 296 = .ok (.aload_n 1, 1) := by decide +kernel
theorem dL_law_297 : decode cL_law 297 = .ok (.invokevirtual 122, 3) := by decide +kernel
theorem dL_law_300 : decode cL_law 300 = .ok (.bipush (-6), 2) := by decide +kernel
theorem dL_law_302 : decode cL_law 302 = .ok (.if_icmp .ne 7, 3) := by decide +kernel
theorem dL_law_305 : decode cL_law 305 = .ok (.iconst 1, 1) := by decide +kernel
theorem dL_law_306 : decode cL_law 306 = .ok (.goto 4, 3) := by decide +kernel
theorem dL_law_309 : decode cL_law 309 = .ok (.iconst 0, 1) := by decide +kernel
theorem dL_law_310 : decode cL_law 310 = .ok (.istore_n 3, 1) := by decide +kernel
theorem dL_law_311 : decode cL_law 311 = .ok (.aload_n 1, 1) := by decide +kernel
theorem dL_law_312 : decode cL_law 312 = .ok (.invokevirtual 125, 3) := by decide +kernel
theorem dL_law_315 : decode cL_law 315 = .ok (.istore 7, 2) := by decide +kernel
theorem dL_law_317 : decode cL_law 317 = .ok (.iload_n 3, 1) := by decide +kernel
theorem dL_law_318 : decode cL_law 318 = .ok (.ifCond .eq 35, 3) := by decide +kernel
theorem dL_law_321 : decode cL_law 321 = .ok (.iload 7, 2) := by decide +kernel
theorem dL_law_323 : decode cL_law 323 = .ok (.aload_n 1, 1) := by decide +kernel
theorem dL_law_324 : decode cL_law 324 = .ok (.iconst 0, 1) := by decide +kernel
theorem dL_law_325 : decode cL_law 325 = .ok (.invokevirtual 73, 3) := by decide +kernel
theorem dL_law_328 : decode cL_law 328 = .ok (.if_icmp .ne 25, 3) := by decide +kernel
theorem dL_law_331 : decode cL_law 331 = .ok (.aload_n 1, 1) := by decide +kernel
theorem dL_law_332 : decode cL_law 332 = .ok (.bipush 18, 2) := by decide +kernel
theorem dL_law_334 : decode cL_law 334 = .ok (.invokevirtual 10, 3) := by decide +kernel
theorem dL_law_337 : decode cL_law 337 = .ok (.ifCond .ne 16, 3) := by decide +kernel
theorem dL_law_340 : decode cL_law 340 = .ok (.aload_n 1, 1) := by decide +kernel
theorem dL_law_341 : decode cL_law 341 = .ok (.iload 5, 2) := by decide +kernel
theorem dL_law_343 : decode cL_law 343 = .ok (.invokestatic 128, 3) := by decide +kernel
theorem dL_law_346 : decode cL_law 346 = .ok (.ifCond .eq 7, 3) := by decide +kernel
theorem dL_law_349 : decode cL_law 349 = .ok (.iconst 1, 1) := by decide +kernel
theorem dL_law_350 : decode cL_law 350 = .ok (.goto 4, 3) := by decide +kernel
theorem dL_law_353 : decode cL_law 353 = .ok (.iconst 0, 1) := by decide +kernel
theorem dL_law_354 : decode cL_law 354 = .ok (.istore_n 3, 1) := by decide +kernel
theorem dL_law_355 : decode cL_law 355 = .ok (.iconst 0, 1) := by decide +kernel
theorem dL_law_356 : decode cL_law 356 = .ok (.istore 7, 2) := by decide +kernel
theorem dL_law_358 : decode cL_law 358 = .ok (.iload 7, 2) := by decide +kernel
theorem dL_law_360 : decode cL_law 360 = .ok (.iconst 3, 1) := by decide +kernel
theorem dL_law_361 : decode cL_law 361 = .ok (.if_icmp .ge 88, 3) := by decide +kernel
theorem dL_law_364 : decode cL_law 364 = .ok (.iload_n 3, 1) := by decide +kernel
theorem dL_law_365 : decode cL_law 365 = .ok (.ifCond .eq 84, 3) := by decide +kernel
theorem dL_law_368 : decode cL_law 368 = .ok (.iload 6, 2) := by decide +kernel
theorem dL_law_370 : decode cL_law 370 = .ok (.iconst 4, 1) := by decide +kernel
theorem dL_law_371 : decode cL_law 371 = .ok (.iload 7, 2) := by decide +kernel
theorem dL_law_373 : decode cL_law 373 = .ok (.imul, 1) := by decide +kernel
theorem dL_law_374 : decode cL_law 374 = .ok (.ishr, 1) := by decide +kernel
theorem dL_law_375 : decode cL_law 375 = .ok (.iconst 4, 1) := by decide +kernel
theorem dL_law_376 : decode cL_law 376 = .ok (.invokestatic 20, 3) := by decide +kernel
theorem dL_law_379 : decode cL_law 379 = .ok (.istore 8, 2) := by decide +kernel
theorem dL_law_381 : decode cL_law 381 = .ok (.iload 6, 2) := by decide +kernel
theorem dL_law_383 : decode cL_law 383 = .ok (.iconst 2, 1) := by decide +kernel
theorem dL_law_384 : decode cL_law 384 = .ok (.iconst 4, 1) := by decide +kernel
theorem dL_law_385 : decode cL_law 385 = .ok (.iload 7, 2) := by decide +kernel
theorem dL_law_387 : decode cL_law 387 = .ok (.imul, 1) := by decide +kernel
theorem dL_law_388 : decode cL_law 388 = .ok (.iadd, 1) := by decide +kernel
theorem dL_law_389 : decode cL_law 389 = .ok (.ishr, 1) := by decide +kernel
theorem dL_law_390 : decode cL_law 390 = .ok (.iconst 2, 1) := by decide +kernel
theorem dL_law_391 : decode cL_law 391 = .ok (.invokestatic 20, 3) := by decide +kernel
theorem dL_law_394 : decode cL_law 394 = .ok (.istore 9, 2) := by decide +kernel
theorem dL_law_396 : decode cL_law 396 = .ok (.iload 6, 2) := by decide +kernel
theorem dL_law_398 : decode cL_law 398 = .ok (.iconst 3, 1) := by decide +kernel
theorem dL_law_399 : decode cL_law 399 = .ok (.iconst 4, 1) := by decide +kernel
theorem dL_law_400 : decode cL_law 400 = .ok (.iload 7, 2) := by decide +kernel
theorem dL_law_402 : decode cL_law 402 = .ok (.imul, 1) := by decide +kernel
theorem dL_law_403 : decode cL_law 403 = .ok (.iadd, 1) := by decide +kernel
theorem dL_law_404 : decode cL_law 404 = .ok (.ishr, 1) := by decide +kernel
theorem dL_law_405 : decode cL_law 405 = .ok (.iconst 2, 1) := by decide +kernel
theorem dL_law_406 : decode cL_law 406 = .ok (.invokestatic 20, 3) := by decide +kernel
theorem dL_law_409 : decode cL_law 409 = .ok (.istore 10, 2) := by decide +kernel
theorem dL_law_411 : decode cL_law 411 = .ok (.aload_n 1, 1) := by decide +kernel
theorem dL_law_412 : decode cL_law 412 = .ok (.iload 8, 2) := by decide +kernel
theorem dL_law_414 : decode cL_law 414 = .ok (.iload 9, 2) := by decide +kernel
theorem dL_law_416 : decode cL_law 416 = .ok (.iload 10, 2) := by decide +kernel
theorem dL_law_418 : decode cL_law 418 = .ok (.invokevirtual 131, 3) := by decide +kernel
theorem dL_law_421 : decode cL_law 421 = .ok (.ifCond .lt 20, 3) := by decide +kernel
theorem dL_law_424 : decode cL_law 424 = .ok (.aload_n 1, 1) := by decide +kernel
theorem dL_law_425 : decode cL_law 425 = .ok (.iload 8, 2) := by decide +kernel
theorem dL_law_427 : decode cL_law 427 = .ok (.iload 9, 2) := by decide +kernel
theorem dL_law_429 : decode cL_law 429 = .ok (.invokevirtual 66, 3) := by decide +kernel
theorem dL_law_432 : decode cL_law 432 = .ok (.iload 10, 2) := by decide +kernel
theorem dL_law_434 : decode cL_law 434 = .ok (.if_icmp .ne 7, 3) := by decide +kernel
theorem dL_law_437 : decode cL_law 437 = .ok (.iconst 1, 1) := by decide +kernel
theorem dL_law_438 : decode cL_law 438 = .ok (.goto 4, 3) := by decide +kernel
theorem dL_law_441 : decode cL_law 441 = .ok (.iconst 0, 1) := by decide +kernel
theorem dL_law_442 : decode cL_law 442 = .ok (.istore_n 3, 1) := by decide +kernel
theorem dL_law_443 : decode cL_law 443 = .ok (.iinc 7 1, 3) := by decide +kernel
theorem dL_law_446 : decode cL_law 446 = .ok (.goto (-88), 3) := by decide +kernel
theorem dL_law_449 : decode cL_law 449 = .ok (.iconst 0, 1) := by decide +kernel
theorem dL_law_450 : decode cL_law 450 = .ok (.istore 7, 2) := by decide +kernel
theorem dL_law_452 : decode cL_law 452 = .ok (.iload 7, 2) := by decide +kernel
theorem dL_law_454 : decode cL_law 454 = .ok (.iconst 3, 1) := by decide +kernel
theorem dL_law_455 : decode cL_law 455 = .ok (.if_icmp .ge 93, 3) := by decide +kernel
theorem dL_law_458 : decode cL_law 458 = .ok (.iload_n 3, 1) := by decide +kernel
theorem dL_law_459 : decode cL_law 459 = .ok (.ifCond .eq 89, 3) := by decide +kernel
theorem dL_law_462 : decode cL_law 462 = .ok (.aload_n 1, 1) := by decide +kernel
theorem dL_law_463 : decode cL_law 463 = .ok (.iconst 4, 1) := by decide +kernel
theorem dL_law_464 : decode cL_law 464 = .ok (.invokevirtual 10, 3) := by decide +kernel
theorem dL_law_467 : decode cL_law 467 = .ok (.ifCond .ne 81, 3) := by decide +kernel
theorem dL_law_470 : decode cL_law 470 = .ok (.aload_n 1, 1) := by decide +kernel
theorem dL_law_471 : decode cL_law 471 = .ok (.iconst 1, 1) := by decide +kernel
theorem dL_law_472 : decode cL_law 472 = .ok (.invokevirtual 10, 3) := by decide +kernel
theorem dL_law_475 : decode cL_law 475 = .ok (.bipush 20, 2) := by decide +kernel
theorem dL_law_477 : decode cL_law 477 = .ok (.if_icmp .ge 71, 3) := by decide +kernel
theorem dL_law_480 : decode cL_law 480 = .ok (.aload_n 1, 1) := by decide +kernel
theorem dL_law_481 : decode cL_law 481 = .ok (.iconst 1, 1) := by decide +kernel
theorem dL_law_482 : decode cL_law 482 = .ok (.invokevirtual 10, 3) := by decide +kernel
theorem dL_law_485 : decode cL_law 485 = .ok (.istore 8, 2) := by decide +kernel
theorem dL_law_487 : decode cL_law 487 = .ok (.aload_n 1, 1) := by decide +kernel
theorem dL_law_488 : decode cL_law 488 = .ok (.iconst 1, 1) := by decide +kernel
theorem dL_law_489 : decode cL_law 489 = .ok (.iload 6, 2) := by decide +kernel
theorem dL_law_491 : decode cL_law 491 = .ok (.bipush 12, 2) := by decide +kernel
theorem dL_law_493 : decode cL_law 493 = .ok (.iconst 3, 1) := by decide +kernel
theorem dL_law_494 : decode cL_law 494 = .ok (.iload 7, 2) := by decide +kernel
theorem dL_law_496 : decode cL_law 496 = .ok (.imul, 1) := by decide +kernel
theorem dL_law_497 : decode cL_law 497 = .ok (.iadd, 1) := by decide +kernel
theorem dL_law_498 : decode cL_law 498 = .ok (.ishr, 1) := by decide +kernel
theorem dL_law_499 : decode cL_law 499 = .ok (.sipush 200, 3) := by decide +kernel
theorem dL_law_502 : decode cL_law 502 = .ok (.invokestatic 20, 3) := by decide +kernel
theorem dL_law_505 : decode cL_law 505 = .ok (.iadd, 1) := by decide +kernel
theorem dL_law_506 : decode cL_law 506 = .ok (.invokevirtual 134, 3) := by decide +kernel
theorem dL_law_509 : decode cL_law 509 = .ok (.iload 8, 2) := by decide +kernel
theorem dL_law_511 : decode cL_law 511 = .ok (.iconst 1, 1) := by decide +kernel
theorem dL_law_512 : decode cL_law 512 = .ok (.iadd, 1) := by decide +kernel
theorem dL_law_513 : decode cL_law 513 = .ok (.if_icmp .ne 27, 3) := by decide +kernel
theorem dL_law_516 : decode cL_law 516 = .ok (.aload_n 1, 1) := by decide +kernel
theorem dL_law_517 : decode cL_law 517 = .ok (.iload 8, 2) := by decide +kernel
theorem dL_law_519 : decode cL_law 519 = .ok (.iconst 0, 1) := by decide +kernel
theorem dL_law_520 : decode cL_law 520 = .ok (.invokevirtual 87, 3) := by decide +kernel
theorem dL_law_523 : decode cL_law 523 = .ok (.ifCond .ne 17, 3) := by decide +kernel
theorem dL_law_526 : decode cL_law 526 = .ok (.aload_n 1, 1) := by decide +kernel
theorem dL_law_527 : decode cL_law 527 = .ok (.iload 8, 2) := by decide +kernel
theorem dL_law_529 : decode cL_law 529 = .ok (.iconst 2, 1) := by decide +kernel
theorem dL_law_530 : decode cL_law 530 = .ok (.invokevirtual 87, 3) := by decide +kernel
theorem dL_law_533 : decode cL_law 533 = .ok (.ifCond .ne 7, 3) := by decide +kernel
theorem dL_law_536 : decode cL_law 536 = .ok (.iconst 1, 1) := by decide +kernel
theorem dL_law_537 : decode cL_law 537 = .ok (.goto 4, 3) := by decide +kernel
theorem dL_law_540 : decode cL_law 540 = .ok (.iconst 0, 1) := by decide +kernel
theorem dL_law_541 : decode cL_law 541 = .ok (.istore_n 3, 1) := by decide +kernel
theorem dL_law_542 : decode cL_law 542 = .ok (.iinc 7 1, 3) := by decide +kernel
theorem dL_law_545 : decode cL_law 545 = .ok (.goto (-93), 3) := by decide +kernel
theorem dL_law_548 : decode cL_law 548 = .ok (.aload_n 1, 1) := by decide +kernel
theorem dL_law_549 : decode cL_law 549 = .ok (.iconst 0, 1) := by decide +kernel
theorem dL_law_550 : decode cL_law 550 = .ok (.invokevirtual 10, 3) := by decide +kernel
theorem dL_law_553 : decode cL_law 553 = .ok (.istore 7, 2) := by decide +kernel
theorem dL_law_555 : decode cL_law 555 = .ok (.iconst 1, 1) := by decide +kernel
theorem dL_law_556 : decode cL_law 556 = .ok (.iload 6, 2) := by decide +kernel
theorem dL_law_558 : decode cL_law 558 = .ok (.bipush 21, 2) := by decide +kernel
theorem dL_law_560 : decode cL_law 560 = .ok (.ishr, 1) := by decide +kernel
theorem dL_law_561 : decode cL_law 561 = .ok (.bipush 25, 2) := by decide +kernel
theorem dL_law_563 : decode cL_law 563 = .ok (.invokestatic 20, 3) := by decide +kernel
theorem dL_law_566 : decode cL_law 566 = .ok (.iadd, 1) := by decide +kernel
theorem dL_law_567 : decode cL_law 567 = .ok (.istore 8, 2) := by decide +kernel
theorem dL_law_569 : decode cL_law 569 = .ok (.iload_n 3, 1) := by decide +kernel
theorem dL_law_570 : decode cL_law 570 = .ok (.ifCond .eq 53, 3) := by decide +kernel
theorem dL_law_573 : decode cL_law 573 = .ok (.aload_n 1, 1) := by decide +kernel
theorem dL_law_574 : decode cL_law 574 = .ok (.invokestatic 137, 3) := by decide +kernel
theorem dL_law_577 : decode cL_law 577 = .ok (.ifCond .eq 46, 3) := by decide +kernel
theorem dL_law_580 : decode cL_law 580 = .ok (.aload_n 1, 1) := by decide +kernel
theorem dL_law_581 : decode cL_law 581 = .ok (.iload 6, 2) := by decide +kernel
theorem dL_law_583 : decode cL_law 583 = .ok (.iconst 5, 1) := by decide +kernel
theorem dL_law_584 : decode cL_law 584 = .ok (.ishr, 1) := by decide +kernel
theorem dL_law_585 : decode cL_law 585 = .ok (.invokestatic 141, 3) := by decide +kernel
theorem dL_law_588 : decode cL_law 588 = .ok (.ifCond .eq 35, 3) := by decide +kernel
theorem dL_law_591 : decode cL_law 591 = .ok (.aload_n 1, 1) := by decide +kernel
theorem dL_law_592 : decode cL_law 592 = .ok (.invokestatic 144, 3) := by decide +kernel
theorem dL_law_595 : decode cL_law 595 = .ok (.ifCond .eq 28, 3) := by decide +kernel
theorem dL_law_598 : decode cL_law 598 = .ok (.aload_n 1, 1) := by decide +kernel
theorem dL_law_599 : decode cL_law 599 = .ok (.iload 8, 2) := by decide +kernel
theorem dL_law_601 : decode cL_law 601 = .ok (.invokevirtual 99, 3) := by decide +kernel
theorem dL_law_604 : decode cL_law 604 = .ok (.iload 7, 2) := by decide +kernel
theorem dL_law_606 : decode cL_law 606 = .ok (.iload 8, 2) := by decide +kernel
theorem dL_law_608 : decode cL_law 608 = .ok (.iadd, 1) := by decide +kernel
theorem dL_law_609 : decode cL_law 609 = .ok (.if_icmp .ne 14, 3) := by decide +kernel
theorem dL_law_612 : decode cL_law 612 = .ok (.aload_n 1, 1) := by decide +kernel
theorem dL_law_613 : decode cL_law 613 = .ok (.invokestatic 137, 3) := by decide +kernel
theorem dL_law_616 : decode cL_law 616 = .ok (.ifCond .eq 7, 3) := by decide +kernel
theorem dL_law_619 : decode cL_law 619 = .ok (.iconst 1, 1) := by decide +kernel
theorem dL_law_620 : decode cL_law 620 = .ok (.goto 4, 3) := by decide +kernel
theorem dL_law_623 : decode cL_law 623 = .ok (.iconst 0, 1) := by decide +kernel
theorem dL_law_624 : decode cL_law 624 = .ok (.istore_n 3, 1) := by decide +kernel
theorem dL_law_625 : decode cL_law 625 = .ok (.iload_n 3, 1) := by decide +kernel
theorem dL_law_626 : decode cL_law 626 = .ok (.ifCond .eq 53, 3) := by decide +kernel
theorem dL_law_629 : decode cL_law 629 = .ok (.aload_n 1, 1) := by decide +kernel
theorem dL_law_630 : decode cL_law 630 = .ok (.bipush 10, 2) := by decide +kernel
theorem dL_law_632 : decode cL_law 632 = .ok (.invokevirtual 10, 3) := by decide +kernel
theorem dL_law_635 : decode cL_law 635 = .ok (.bipush 90, 2) := by decide +kernel
theorem dL_law_637 : decode cL_law 637 = .ok (.if_icmp .gt 42, 3) := by decide +kernel
theorem dL_law_640 : decode cL_law 640 = .ok (.aload_n 1, 1) := by decide +kernel
theorem dL_law_641 : decode cL_law 641 = .ok (.iconst 3, 1) := by decide +kernel
theorem dL_law_642 : decode cL_law 642 = .ok (.invokevirtual 10, 3) := by decide +kernel
theorem dL_law_645 : decode cL_law 645 = .ok (.ifCond .lt 34, 3) := by decide +kernel
theorem dL_law_648 : decode cL_law 648 = .ok (.aload_n 1, 1) := by decide +kernel
theorem dL_law_649 : decode cL_law 649 = .ok (.iconst 4, 1) := by decide +kernel
theorem dL_law_650 : decode cL_law 650 = .ok (.invokevirtual 10, 3) := by decide +kernel
theorem dL_law_653 : decode cL_law 653 = .ok (.iconst 2, 1) := by decide +kernel
theorem dL_law_654 : decode cL_law 654 = .ok (.if_icmp .ne 11, 3) := by decide +kernel
theorem dL_law_657 : decode cL_law 657 = .ok (.aload_n 1, 1) := by decide +kernel
theorem dL_law_658 : decode cL_law 658 = .ok (.iconst 3, 1) := by decide +kernel
theorem dL_law_659 : decode cL_law 659 = .ok (.invokevirtual 10, 3) := by decide +kernel
theorem dL_law_662 : decode cL_law 662 = .ok (.ifCond .ne 17, 3) := by decide +kernel
theorem dL_law_665 : decode cL_law 665 = .ok (.aload_n 1, 1) := by decide +kernel
theorem dL_law_666 : decode cL_law 666 = .ok (.iconst 0, 1) := by decide +kernel
theorem dL_law_667 : decode cL_law 667 = .ok (.invokevirtual 134, 3) := by decide +kernel
theorem dL_law_670 : decode cL_law 670 = .ok (.bipush (-2), 2) := by decide +kernel
theorem dL_law_672 : decode cL_law 672 = .ok (.if_icmp .ne 7, 3) := by decide +kernel
theorem dL_law_675 : decode cL_law 675 = .ok (.iconst 1, 1) := by decide +kernel
theorem dL_law_676 : decode cL_law 676 = .ok (.goto 4, 3) := by decide +kernel
theorem dL_law_679 : decode cL_law 679 = .ok (.iconst 0, 1) := by decide +kernel
theorem dL_law_680 : decode cL_law 680 = .ok (.istore_n 3, 1) := by decide +kernel
theorem dL_law_681 : decode cL_law 681 = .ok (.iload_n 3, 1) := by decide +kernel
theorem dL_law_682 : decode cL_law 682 = .ok (.ifCond .eq 71, 3) := by decide +kernel
theorem dL_law_685 : decode cL_law 685 = .ok (.aload_n 1, 1) := by decide +kernel
theorem dL_law_686 : decode cL_law 686 = .ok (.iconst 4, 1) := by decide +kernel
theorem dL_law_687 : decode cL_law 687 = .ok (.invokevirtual 10, 3) := by decide +kernel
theorem dL_law_690 : decode cL_law 690 = .ok (.iconst 2, 1) := by decide +kernel
theorem dL_law_691 : decode cL_law 691 = .ok (.if_icmp .ne 62, 3) := by decide +kernel
theorem dL_law_694 : decode cL_law 694 = .ok (.aload_n 1, 1) := by decide +kernel
theorem dL_law_695 : decode cL_law 695 = .ok (.iconst 2, 1) := by decide +kernel
theorem dL_law_696 : decode cL_law 696 = .ok (.invokevirtual 73, 3) := by decide +kernel
theorem dL_law_699 : decode cL_law 699 = .ok (.istore 9, 2) := by decide +kernel
theorem dL_law_701 : decode cL_law 701 = .ok (.aload_n 1, 1) := by decide +kernel
theorem dL_law_702 : decode cL_law 702 = .ok (.iconst 1, 1) := by decide +kernel
theorem dL_law_703 : decode cL_law 703 = .ok (.invokevirtual 10, 3) := by decide +kernel
theorem dL_law_706 : decode cL_law 706 = .ok (.istore 10, 2) := by decide +kernel
theorem dL_law_708 : decode cL_law 708 = .ok (.aload_n 1, 1) := by decide +kernel
theorem dL_law_709 : decode cL_law 709 = .ok (.invokevirtual 147, 3) := by decide +kernel
theorem dL_law_712 : decode cL_law 712 = .ok (.iload 9, 2) := by decide +kernel
theorem dL_law_714 : decode cL_law 714 = .ok (.iconst 1, 1) := by decide +kernel
theorem dL_law_715 : decode cL_law 715 = .ok (.if_icmp .ne 8, 3) := by decide +kernel
theorem dL_law_718 : decode cL_law 718 = .ok (.bipush (-5), 2) := by decide +kernel
theorem dL_law_720 : decode cL_law 720 = .ok (.goto 5, 3) := by decide +kernel
theorem dL_law_723 : decode cL_law 723 = .ok (.iload 10, 2) := by decide +kernel
theorem dL_law_725 : decode cL_law 725 = .ok (.if_icmp .ne 26, 3) := by decide +kernel
theorem dL_law_728 : decode cL_law 728 = .ok (.aload_n 1, 1) := by decide +kernel
theorem dL_law_729 : decode cL_law 729 = .ok (.iconst 4, 1) := by decide +kernel
theorem dL_law_730 : decode cL_law 730 = .ok (.invokevirtual 10, 3) := by decide +kernel
theorem dL_law_733 : decode cL_law 733 = .ok (.iload 9, 2) := by decide +kernel
theorem dL_law_735 : decode cL_law 735 = .ok (.iconst 1, 1) := by decide +kernel
theorem dL_law_736 : decode cL_law 736 = .ok (.if_icmp .ne 7, 3) := by decide +kernel
theorem dL_law_739 : decode cL_law 739 = .ok (.iconst 2, 1) := by decide +kernel
theorem dL_law_740 : decode cL_law 740 = .ok (.goto 4, 3) := by decide +kernel
theorem dL_law_743 : decode cL_law 743 = .ok (.iconst 0, 1) := by decide +kernel
theorem dL_law_744 : decode cL_law 744 = .ok (.if_icmp .ne 7, 3) := by decide +kernel
theorem dL_law_747 : decode cL_law 747 = .ok (.iconst 1, 1) := by decide +kernel
theorem dL_law_748 : decode cL_law 748 = .ok (.goto 4, 3) := by decide +kernel
theorem dL_law_751 : decode cL_law 751 = .ok (.iconst 0, 1) := by decide +kernel
theorem dL_law_752 : decode cL_law 752 = .ok (.istore_n 3, 1) := by decide +kernel
theorem dL_law_753 : decode cL_law 753 = .ok (.iinc 4 1, 3) := by decide +kernel
theorem dL_law_756 : decode cL_law 756 = .ok (.goto (-508), 3) := by decide +kernel
theorem dL_law_759 : decode cL_law 759 = .ok (.iload_n 3, 1) := by decide +kernel
theorem dL_law_760 : decode cL_law 760 = .ok (.ireturn, 1) := by decide +kernel
