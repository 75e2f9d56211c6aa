theorem dX6_init_0 : decode cX6_init 0 = .ok (.aload_n 0, 1) := by decide +kernel
theorem dX6_init_1 : decode cX6_init 1 = .ok (.invokespecial 1, 3) := by decide +kernel
theorem dX6_init_4 : decode cX6_init 4 = .ok (.aload_n 0, 1) := by decide +kernel
theorem dX6_init_5 : decode cX6_init 5 = .ok (.sipush 173, 3) := by decide +kernel
theorem dX6_init_8 : decode cX6_init 8 = .ok (.newarray .int, 2) := by decide +kernel
theorem dX6_init_10 : decode cX6_init 10 = .ok (.putfield 7, 3) := by decide +kernel
theorem dX6_init_13 : decode cX6_init 13 = .ok (.aload_n 0, 1) := by decide +kernel
theorem dX6_init_14 : decode cX6_init 14 = .ok (.sipush 1038, 3) := by decide +kernel
theorem dX6_init_17 : decode cX6_init 17 = .ok (.newarray .int, 2) := by decide +kernel
theorem dX6_init_19 : decode cX6_init 19 = .ok (.putfield 13, 3) := by decide +kernel
theorem dX6_init_22 : decode cX6_init 22 = .ok (.aload_n 0, 1) := by decide +kernel
theorem dX6_init_23 : decode cX6_init 23 = .ok (.sipush 346, 3) := by decide +kernel
theorem dX6_init_26 : decode cX6_init 26 = .ok (.newarray .int, 2) := by decide +kernel
theorem dX6_init_28 : decode cX6_init 28 = .ok (.putfield 16, 3) := by decide +kernel
theorem dX6_init_31 : decode cX6_init 31 = .ok (.aload_n 0, 1) := by decide +kernel
theorem dX6_init_32 : decode cX6_init 32 = .ok (.iconst 2, 1) := by decide +kernel
theorem dX6_init_33 : decode cX6_init 33 = .ok (.newarray .boolean, 2) := by decide +kernel
theorem dX6_init_35 : decode cX6_init 35 = .ok (.putfield 19, 3) := by decide +kernel
theorem dX6_init_38 : decode cX6_init 38 = .ok (.aload_n 0, 1) := by decide +kernel
theorem dX6_init_39 : decode cX6_init 39 = .ok (.sipush 173, 3) := by decide +kernel
theorem dX6_init_42 : decode cX6_init 42 = .ok (.newarray .int, 2) := by decide +kernel
theorem dX6_init_44 : decode cX6_init 44 = .ok (.putfield 23, 3) := by decide +kernel
theorem dX6_init_47 : decode cX6_init 47 = .ok (.aload_n 0, 1) := by decide +kernel
theorem dX6_init_48 : decode cX6_init 48 = .ok (.bipush 60, 2) := by decide +kernel
theorem dX6_init_50 : decode cX6_init 50 = .ok (.newarray .char, 2) := by decide +kernel
theorem dX6_init_52 : decode cX6_init 52 = .ok (.putfield 26, 3) := by decide +kernel
theorem dX6_init_55 : decode cX6_init 55 = .ok (.aload_n 0, 1) := by decide +kernel
theorem dX6_init_56 : decode cX6_init 56 = .ok (.bipush 64, 2) := by decide +kernel
theorem dX6_init_58 : decode cX6_init 58 = .ok (.newarray .boolean, 2) := by decide +kernel
theorem dX6_init_60 : decode cX6_init 60 = .ok (.putfield 30, 3) := by decide +kernel
theorem dX6_init_63 : decode cX6_init 63 = .ok (.aload_n 0, 1) := by decide +kernel
theorem dX6_init_64 : decode cX6_init 64 = .ok (.bipush 64, 2) := by decide +kernel
theorem dX6_init_66 : decode cX6_init 66 = .ok (.newarray .int, 2) := by decide +kernel
theorem dX6_init_68 : decode cX6_init 68 = .ok (.putfield 33, 3) := by decide +kernel
theorem dX6_init_71 : decode cX6_init 71 = .ok (.aload_n 0, 1) := by decide +kernel
theorem dX6_init_72 : decode cX6_init 72 = .ok (.bipush 64, 2) := by decide +kernel
theorem dX6_init_74 : decode cX6_init 74 = .ok (.newarray .int, 2) := by decide +kernel
theorem dX6_init_76 : decode cX6_init 76 = .ok (.putfield 36, 3) := by decide +kernel
theorem dX6_init_79 : decode cX6_init 79 = .ok (.aload_n 0, 1) := by decide +kernel
theorem dX6_init_80 : decode cX6_init 80 = .ok (.bipush 64, 2) := by decide +kernel
theorem dX6_init_82 : decode cX6_init 82 = .ok (.newarray .int, 2) := by decide +kernel
theorem dX6_init_84 : decode cX6_init 84 = .ok (.putfield 39, 3) := by decide +kernel
theorem dX6_init_87 : decode cX6_init 87 = .ok (.aload_n 0, 1) := by decide +kernel
theorem dX6_init_88 : decode cX6_init 88 = .ok (.getfield 7, 3) := by decide +kernel
theorem dX6_init_91 : decode cX6_init 91 = .ok (.iconst 0, 1) := by decide +kernel
theorem dX6_init_92 : decode cX6_init 92 = .ok (.bipush 50, 2) := by decide +kernel
theorem dX6_init_94 : decode cX6_init 94 = .ok (.iastore, 1) := by decide +kernel
theorem dX6_init_95 : decode cX6_init 95 = .ok (.aload_n 0, 1) := by decide +kernel
theorem dX6_init_96 : decode cX6_init 96 = .ok (.getfield 7, 3) := by decide +kernel
theorem dX6_init_99 : decode cX6_init 99 = .ok (.iconst 1, 1) := by decide +kernel
theorem dX6_init_100 : decode cX6_init 100 = .ok (.bipush 10, 2) := by decide +kernel
theorem dX6_init_102 : decode cX6_init 102 = .ok (.iastore, 1) := by decide +kernel
theorem dX6_init_103 : decode cX6_init 103 = .ok (.aload_n 0, 1) := by decide +kernel
theorem dX6_init_104 : decode cX6_init 104 = .ok (.getfield 7, 3) := by decide +kernel
theorem dX6_init_107 : decode cX6_init 107 = .ok (.iconst 2, 1) := by decide +kernel
theorem dX6_init_108 : decode cX6_init 108 = .ok (.bipush 6, 2) := by decide +kernel
theorem dX6_init_110 : decode cX6_init 110 = .ok (.iastore, 1) := by decide +kernel
theorem dX6_init_111 : decode cX6_init 111 = .ok (.aload_n 0, 1) := by decide +kernel
theorem dX6_init_112 : decode cX6_init 112 = .ok (.getfield 7, 3) := by decide +kernel
theorem dX6_init_115 : decode cX6_init 115 = .ok (.iconst 3, 1) := by decide +kernel
theorem dX6_init_116 : decode cX6_init 116 = .ok (.bipush 20, 2) := by decide +kernel
theorem dX6_init_118 : decode cX6_init 118 = .ok (.iastore, 1) := by decide +kernel
theorem dX6_init_119 : decode cX6_init 119 = .ok (.aload_n 0, 1) := by decide +kernel
theorem dX6_init_120 : decode cX6_init 120 = .ok (.getfield 7, 3) := by decide +kernel
theorem dX6_init_123 : decode cX6_init 123 = .ok (.iconst 4, 1) := by decide +kernel
theorem dX6_init_124 : decode cX6_init 124 = .ok (.iconst 5, 1) := by decide +kernel
theorem dX6_init_125 : decode cX6_init 125 = .ok (.iastore, 1) := by decide +kernel
theorem dX6_init_126 : decode cX6_init 126 = .ok (.aload_n 0, 1) := by decide +kernel
theorem dX6_init_127 : decode cX6_init 127 = .ok (.getfield 7, 3) := by decide +kernel
theorem dX6_init_130 : decode cX6_init 130 = .ok (.iconst 5, 1) := by decide +kernel
theorem dX6_init_131 : decode cX6_init 131 = .ok (.bipush 100, 2) := by decide +kernel
theorem dX6_init_133 : decode cX6_init 133 = .ok (.iastore, 1) := by decide +kernel
theorem dX6_init_134 : decode cX6_init 134 = .ok (.aload_n 0, 1) := by decide +kernel
theorem dX6_init_135 : decode cX6_init 135 = .ok (.getfield 7, 3) := by decide +kernel
theorem dX6_init_138 : decode cX6_init 138 = .ok (.bipush 6, 2) := by decide +kernel
theorem dX6_init_140 : decode cX6_init 140 = .ok (.sipush 800, 3) := by decide +kernel
theorem dX6_init_143 : decode cX6_init 143 = .ok (.iastore, 1) := by decide +kernel
theorem dX6_init_144 : decode cX6_init 144 = .ok (.aload_n 0, 1) := by decide +kernel
theorem dX6_init_145 : decode cX6_init 145 = .ok (.getfield 7, 3) := by decide +kernel
theorem dX6_init_148 : decode cX6_init 148 = .ok (.bipush 22, 2) := by decide +kernel
theorem dX6_init_150 : decode cX6_init 150 = .ok (.bipush 7, 2) := by decide +kernel
theorem dX6_init_152 : decode cX6_init 152 = .ok (.iastore, 1) := by decide +kernel
theorem dX6_init_153 : decode cX6_init 153 = .ok (.iconst 0, 1) := by decide +kernel
theorem dX6_init_154 : decode cX6_init 154 = .ok (.istore_n 1, 1) := by decide +kernel
theorem dX6_init_155 : decode cX6_init 155 = .ok (.iload_n 1, 1) := by decide +kernel
theorem dX6_init_156 : decode cX6_init 156 = .ok (.bipush 7, 2) := by decide +kernel
theorem dX6_init_158 : decode cX6_init 158 = .ok (.if_icmp .ge 36, 3) := by decide +kernel
theorem dX6_init_161 : decode cX6_init 161 = .ok (.aload_n 0, 1) := by decide +kernel
theorem dX6_init_162 : decode cX6_init 162 = .ok (.getfield 7, 3) := by decide +kernel
theorem dX6_init_165 : decode cX6_init 165 = .ok (.bipush 23, 2) := by decide +kernel
theorem dX6_init_167 : decode cX6_init 167 = .ok (.iload_n 1, 1) := by decide +kernel
theorem dX6_init_168 : decode cX6_init 168 = .ok (.iadd, 1) := by decide +kernel
theorem dX6_init_169 : decode cX6_init 169 = .ok (.iload_n 1, 1) := by decide +kernel
theorem dX6_init_170 : decode cX6_init 170 = .ok (.iconst 2, 1) := by decide +kernel
theorem dX6_init_171 : decode cX6_init 171 = .ok (.irem, 1) := by decide +kernel
theorem dX6_init_172 : decode cX6_init 172 = .ok (.iconst 1, 1) := by decide +kernel
theorem dX6_init_173 : decode cX6_init 173 = .ok (.if_icmp .ne 8, 3) := by decide +kernel
theorem dX6_init_176 : decode cX6_init 176 = .ok (.bipush 124, 2) := by decide +kernel
theorem dX6_init_178 : decode cX6_init 178 = .ok (.goto 9, 3) := by decide +kernel
theorem dX6_init_181 : decode cX6_init 181 = .ok (.bipush 65, 2) := by decide +kernel
theorem dX6_init_183 : decode cX6_init 183 = .ok (.iload_n 1, 1) := by decide +kernel
theorem dX6_init_184 : decode cX6_init 184 = .ok (.iconst 2, 1) := by decide +kernel
theorem dX6_init_185 : decode cX6_init 185 = .ok (.idiv, 1) := by decide +kernel
theorem dX6_init_186 : decode cX6_init 186 = .ok (.iadd, 1) := by decide +kernel
theorem dX6_init_187 : decode cX6_init 187 = .ok (.iastore, 1) := by decide +kernel
theorem dX6_init_188 : decode cX6_init 188 = .ok (.iinc 1 1, 3) := by decide +kernel
theorem dX6_init_191 : decode cX6_init 191 = .ok (.goto (-36), 3) := by decide +kernel
theorem dX6_init_194 : decode cX6_init 194 = .ok (.return_, 1) := by decide +kernel
theorem dX6_in_0 : decode cX6_in 0 = .ok (.iload_n 0, 1) := by decide +kernel
theorem dX6_in_1 : decode cX6_in 1 = .ok (.iload_n 1, 1) := by decide +kernel
theorem dX6_in_2 : decode cX6_in 2 = .ok (.if_icmp .lt 12, 3) := by decide +kernel
theorem dX6_in_5 : decode cX6_in 5 = .ok (.iload_n 0, 1) := by decide +kernel
theorem dX6_in_6 : decode cX6_in 6 = .ok (.iload_n 2, 1) := by decide +kernel
theorem dX6_in_7 : decode cX6_in 7 = .ok (.if_icmp .gt 7, 3) := by decide +kernel
theorem dX6_in_10 : decode cX6_in 10 = .ok (.iconst 1, 1) := by decide +kernel
theorem dX6_in_11 : decode cX6_in 11 = .ok (.goto 4, 3) := by decide +kernel
theorem dX6_in_14 : decode cX6_in 14 = .ok (.iconst 0, 1) := by decide +kernel
theorem dX6_in_15 : decode cX6_in 15 = .ok (.ireturn, 1) := by decide +kernel
theorem dX6_record_0 : decode cX6_record 0 = .ok (.aload_n 0, 1) := by decide +kernel
theorem dX6_record_1 : decode cX6_record 1 = .ok (.getfield 42, 3) := by decide +kernel
theorem dX6_record_4 : decode cX6_record 4 = .ok (.bipush 6, 2) := by decide +kernel
theorem dX6_record_6 : decode cX6_record 6 = .ok (.if_icmp .ne 44, 3) := by decide +kernel
theorem dX6_record_9 : decode cX6_record 9 = .ok (.iconst 0, 1) := by decide +kernel
theorem dX6_record_10 : decode cX6_record 10 = .ok (.istore_n 1, 1) := by decide +kernel
theorem dX6_record_11 : decode cX6_record 11 = .ok (.iload_n 1, 1) := by decide +kernel
theorem dX6_record_12 : decode cX6_record 12 = .ok (.sipush 865, 3) := by decide +kernel
theorem dX6_record_15 : decode cX6_record 15 = .ok (.if_icmp .ge 25, 3) := by decide +kernel
theorem dX6_record_18 : decode cX6_record 18 = .ok (.aload_n 0, 1) := by decide +kernel
theorem dX6_record_19 : decode cX6_record 19 = .ok (.getfield 13, 3) := by decide +kernel
theorem dX6_record_22 : decode cX6_record 22 = .ok (.iload_n 1, 1) := by decide +kernel
theorem dX6_record_23 : decode cX6_record 23 = .ok (.aload_n 0, 1) := by decide +kernel
theorem dX6_record_24 : decode cX6_record 24 = .ok (.getfield 13, 3) := by decide +kernel
theorem dX6_record_27 : decode cX6_record 27 = .ok (.iload_n 1, 1) := by decide +kernel
theorem dX6_record_28 : decode cX6_record 28 = .ok (.sipush 173, 3) := by decide +kernel
theorem dX6_record_31 : decode cX6_record 31 = .ok (.iadd, 1) := by decide +kernel
theorem dX6_record_32 : decode cX6_record 32 = .ok (.iaload, 1) := by decide +kernel
theorem dX6_record_33 : decode cX6_record 33 = .ok (.iastore, 1) := by decide +kernel
theorem dX6_record_34 : decode cX6_record 34 = .ok (.iinc 1 1, 3) := by decide +kernel
theorem dX6_record_37 : decode cX6_record 37 = .ok (.goto (-26), 3) := by decide +kernel
theorem dX6_record_40 : decode cX6_record 40 = .ok (.aload_n 0, 1) := by decide +kernel
theorem dX6_record_41 : decode cX6_record 41 = .ok (.dup, 1) := by decide +kernel
theorem dX6_record_42 : decode cX6_record 42 = .ok (.getfield 42, 3) := by decide +kernel
theorem dX6_record_45 : decode cX6_record 45 = .ok (.iconst 1, 1) := by decide +kernel
theorem dX6_record_46 : decode cX6_record 46 = .ok (.isub, 1) := by decide +kernel
theorem dX6_record_47 : decode cX6_record 47 = .ok (.putfield 42, 3) := by decide +kernel
theorem dX6_record_50 : decode cX6_record 50 = .ok (.iconst 0, 1) := by decide +kernel
theorem dX6_record_51 : decode cX6_record 51 = .ok (.istore_n 1, 1) := by decide +kernel
theorem dX6_record_52 : decode cX6_record 52 = .ok (.iload_n 1, 1) := by decide +kernel
theorem dX6_record_53 : decode cX6_record 53 = .ok (.sipush 173, 3) := by decide +kernel
theorem dX6_record_56 : decode cX6_record 56 = .ok (.if_icmp .ge 30, 3) := by decide +kernel
theorem dX6_record_59 : decode cX6_record 59 = .ok (.aload_n 0, 1) := by decide +kernel
theorem dX6_record_60 : decode cX6_record 60 = .ok (.getfield 13, 3) := by decide +kernel
theorem dX6_record_63 : decode cX6_record 63 = .ok (.aload_n 0, 1) := by decide +kernel
theorem dX6_record_64 : decode cX6_record 64 = .ok (.getfield 42, 3) := by decide +kernel
theorem dX6_record_67 : decode cX6_record 67 = .ok (.sipush 173, 3) := by decide +kernel
theorem dX6_record_70 : decode cX6_record 70 = .ok (.imul, 1) := by decide +kernel
theorem dX6_record_71 : decode cX6_record 71 = .ok (.iload_n 1, 1) := by decide +kernel
theorem dX6_record_72 : decode cX6_record 72 = .ok (.iadd, 1) := by decide +kernel
theorem dX6_record_73 : decode cX6_record 73 = .ok (.aload_n 0, 1) := by decide +kernel
theorem dX6_record_74 : decode cX6_record 74 = .ok (.getfield 7, 3) := by decide +kernel
theorem dX6_record_77 : decode cX6_record 77 = .ok (.iload_n 1, 1) := by decide +kernel
theorem dX6_record_78 : decode cX6_record 78 = .ok (.iaload, 1) := by decide +kernel
theorem dX6_record_79 : decode cX6_record 79 = .ok (.iastore, 1) := by decide +kernel
theorem dX6_record_80 : decode cX6_record 80 = .ok (.iinc 1 1, 3) := by decide +kernel
theorem dX6_record_83 : decode cX6_record 83 = .ok (.goto (-31), 3) := by decide +kernel
theorem dX6_record_86 : decode cX6_record 86 = .ok (.aload_n 0, 1) := by decide +kernel
theorem dX6_record_87 : decode cX6_record 87 = .ok (.dup, 1) := by decide +kernel
theorem dX6_record_88 : decode cX6_record 88 = .ok (.getfield 42, 3) := by decide +kernel
theorem dX6_record_91 : decode cX6_record 91 = .ok (.iconst 1, 1) := by decide +kernel
theorem dX6_record_92 : decode cX6_record 92 = .ok (.iadd, 1) := by decide +kernel
theorem dX6_record_93 : decode cX6_record 93 = .ok (.putfield 42, 3) := by decide +kernel
theorem dX6_record_96 : decode cX6_record 96 = .ok (.return_, 1) := by decide +kernel
theorem dX6_undo_0 : decode cX6_undo 0 = .ok (.aload_n 0, 1) := by decide +kernel
theorem dX6_undo_1 : decode cX6_undo 1 = .ok (.getfield 42, 3) := by decide +kernel
theorem dX6_undo_4 : decode cX6_undo 4 = .ok (.ifCond .ne 6, 3) := by decide +kernel
theorem dX6_undo_7 : decode cX6_undo 7 = .ok (.bipush (-5), 2) := by decide +kernel
theorem dX6_undo_9 : decode cX6_undo 9 = .ok (.ireturn, 1) := by decide +kernel
theorem dX6_undo_10 : decode cX6_undo 10 = .ok (.aload_n 0, 1) := by decide +kernel
theorem dX6_undo_11 : decode cX6_undo 11 = .ok (.dup, 1) := by decide +kernel
theorem dX6_undo_12 : decode cX6_undo 12 = .ok (.getfield 42, 3) := by decide +kernel
theorem dX6_undo_15 : decode cX6_undo 15 = .ok (.iconst 1, 1) := by decide +kernel
theorem dX6_undo_16 : decode cX6_undo 16 = .ok (.isub, 1) := by decide +kernel
theorem dX6_undo_17 : decode cX6_undo 17 = .ok (.putfield 42, 3) := by decide +kernel
theorem dX6_undo_20 : decode cX6_undo 20 = .ok (.iconst 0, 1) := by decide +kernel
theorem dX6_undo_21 : decode cX6_undo 21 = .ok (.istore_n 1, 1) := by decide +kernel
theorem dX6_undo_22 : decode cX6_undo 22 = .ok (.iload_n 1, 1) := by decide +kernel
theorem dX6_undo_23 : decode cX6_undo 23 = .ok (.sipush 173, 3) := by decide +kernel
theorem dX6_undo_26 : decode cX6_undo 26 = .ok (.if_icmp .ge 30, 3) := by decide +kernel
theorem dX6_undo_29 : decode cX6_undo 29 = .ok (.aload_n 0, 1) := by decide +kernel
theorem dX6_undo_30 : decode cX6_undo 30 = .ok (.getfield 7, 3) := by decide +kernel
theorem dX6_undo_33 : decode cX6_undo 33 = .ok (.iload_n 1, 1) := by decide +kernel
theorem dX6_undo_34 : decode cX6_undo 34 = .ok (.aload_n 0, 1) := by decide +kernel
theorem dX6_undo_35 : decode cX6_undo 35 = .ok (.getfield 13, 3) := by decide +kernel
theorem dX6_undo_38 : decode cX6_undo 38 = .ok (.aload_n 0, 1) := by decide +kernel
theorem dX6_undo_39 : decode cX6_undo 39 = .ok (.getfield 42, 3) := by decide +kernel
theorem dX6_undo_42 : decode cX6_undo 42 = .ok (.sipush 173, 3) := by decide +kernel
theorem dX6_undo_45 : decode cX6_undo 45 = .ok (.imul, 1) := by decide +kernel
theorem dX6_undo_46 : decode cX6_undo 46 = .ok (.iload_n 1, 1) := by decide +kernel
theorem dX6_undo_47 : decode cX6_undo 47 = .ok (.iadd, 1) := by decide +kernel
theorem dX6_undo_48 : decode cX6_undo 48 = .ok (.iaload, 1) := by decide +kernel
theorem dX6_undo_49 : decode cX6_undo 49 = .ok (.iastore, 1) := by decide +kernel
theorem dX6_undo_50 : decode cX6_undo 50 = .ok (.iinc 1 1, 3) := by decide +kernel
theorem dX6_undo_53 : decode cX6_undo 53 = .ok (.goto (-31), 3) := by decide +kernel
theorem dX6_undo_56 : decode cX6_undo 56 = .ok (.aload_n 0, 1) := by decide +kernel
theorem dX6_undo_57 : decode cX6_undo 57 = .ok (.getfield 42, 3) := by decide +kernel
theorem dX6_undo_60 : decode cX6_undo 60 = .ok (.ireturn, 1) := by decide +kernel
theorem dX6_save_0 : decode cX6_save 0 = .ok (.iload_n 1, 1) := by decide +kernel
theorem dX6_save_1 : decode cX6_save 1 = .ok (.iconst 0, 1) := by decide +kernel
theorem dX6_save_2 : decode cX6_save 2 = .ok (.iconst 1, 1) := by decide +kernel
theorem dX6_save_3 : decode cX6_save 3 = .ok (.invokestatic 46, 3) := by decide +kernel
theorem dX6_save_6 : decode cX6_save 6 = .ok (.ifCond .ne 6, 3) := by decide +kernel
theorem dX6_save_9 : decode cX6_save 9 = .ok (.bipush (-2), 2) := by decide +kernel
theorem dX6_save_11 : decode cX6_save 11 = .ok (.ireturn, 1) := by decide +kernel
theorem dX6_save_12 : decode cX6_save 12 = .ok (.aload_n 0, 1) := by decide +kernel
theorem dX6_save_13 : decode cX6_save 13 = .ok (.getfield 19, 3) := by decide +kernel
theorem dX6_save_16 : decode cX6_save 16 = .ok (.iload_n 1, 1) := by decide +kernel
theorem dX6_save_17 : decode cX6_save 17 = .ok (.iconst 1, 1) := by decide +kernel
theorem dX6_save_18 : decode cX6_save 18 = .ok (.bastore, 1) := by decide +kernel
theorem dX6_save_19 : decode cX6_save 19 = .ok (.iconst 0, 1) := by decide +kernel
theorem dX6_save_20 : decode cX6_save 20 = .ok (.istore_n 2, 1) := by decide +kernel
theorem dX6_save_21 : decode cX6_save 21 = .ok (.iload_n 2, 1) := by decide +kernel
theorem dX6_save_22 : decode cX6_save 22 = .ok (.sipush 173, 3) := by decide +kernel
theorem dX6_save_25 : decode cX6_save 25 = .ok (.if_icmp .ge 27, 3) := by decide +kernel
theorem dX6_save_28 : decode cX6_save 28 = .ok (.aload_n 0, 1) := by decide +kernel
theorem dX6_save_29 : decode cX6_save 29 = .ok (.getfield 16, 3) := by decide +kernel
theorem dX6_save_32 : decode cX6_save 32 = .ok (.iload_n 1, 1) := by decide +kernel
theorem dX6_save_33 : decode cX6_save 33 = .ok (.sipush 173, 3) := by decide +kernel
theorem dX6_save_36 : decode cX6_save 36 = .ok (.imul, 1) := by decide +kernel
theorem dX6_save_37 : decode cX6_save 37 = .ok (.iload_n 2, 1) := by decide +kernel
theorem dX6_save_38 : decode cX6_save 38 = .ok (.iadd, 1) := by decide +kernel
theorem dX6_save_39 : decode cX6_save 39 = .ok (.aload_n 0, 1) := by decide +kernel
theorem dX6_save_40 : decode cX6_save 40 = .ok (.getfield 7, 3) := by decide +kernel
theorem dX6_save_43 : decode cX6_save 43 = .ok (.iload_n 2, 1) := by decide +kernel
theorem dX6_save_44 : decode cX6_save 44 = .ok (.iaload, 1) := by decide +kernel
theorem dX6_save_45 : decode cX6_save 45 = .ok (.iastore, 1) := by decide +kernel
theorem dX6_save_46 : decode cX6_save 46 = .ok (.iinc 2 1, 3) := by decide +kernel
theorem dX6_save_49 : decode cX6_save 49 = .ok (.goto (-28), 3) := by decide +kernel
theorem dX6_save_52 : decode cX6_save 52 = .ok (.aload_n 0, 1) := by decide +kernel
theorem dX6_save_53 : decode cX6_save 53 = .ok (.getfield 7, 3) := by decide +kernel
theorem dX6_save_56 : decode cX6_save 56 = .ok (.bipush 10, 2) := by decide +kernel
theorem dX6_save_58 : decode cX6_save 58 = .ok (.iaload, 1) := by decide +kernel
theorem dX6_save_59 : decode cX6_save 59 = .ok (.ireturn, 1) := by decide +kernel
theorem dX6_restore_0 : decode cX6_restore 0 = .ok (.iload_n 1, 1) := by decide +kernel
theorem dX6_restore_1 : decode cX6_restore 1 = .ok (.iconst 0, 1) := by decide +kernel
theorem dX6_restore_2 : decode cX6_restore 2 = .ok (.iconst 1, 1) := by decide +kernel
theorem dX6_restore_3 : decode cX6_restore 3 = .ok (.invokestatic 46, 3) := by decide +kernel
theorem dX6_restore_6 : decode cX6_restore 6 = .ok (.ifCond .ne 6, 3) := by decide +kernel
theorem dX6_restore_9 : decode cX6_restore 9 = .ok (.bipush (-2), 2) := by decide +kernel
theorem dX6_restore_11 : decode cX6_restore 11 = .ok (.ireturn, 1) := by decide +kernel
theorem dX6_restore_12 : decode cX6_restore 12 = .ok (.aload_n 0, 1) := by decide +kernel
theorem dX6_restore_13 : decode cX6_restore 13 = .ok (.getfield 19, 3) := by decide +kernel
theorem dX6_restore_16 : decode cX6_restore 16 = .ok (.iload_n 1, 1) := by decide +kernel
theorem dX6_restore_17 : decode cX6_restore 17 = .ok (.baload, 1) := by decide +kernel
theorem dX6_restore_18 : decode cX6_restore 18 = .ok (.ifCond .ne 6, 3) := by decide +kernel
theorem dX6_restore_21 : decode cX6_restore 21 = .ok (.bipush (-5), 2) := by decide +kernel
theorem dX6_restore_23 : decode cX6_restore 23 = .ok (.ireturn, 1) := by decide +kernel
theorem dX6_restore_24 : decode cX6_restore 24 = .ok (.aload_n 0, 1) := by decide +kernel
theorem dX6_restore_25 : decode cX6_restore 25 = .ok (.invokevirtual 50, 3) := by decide +kernel
theorem dX6_restore_28 : decode cX6_restore 28 = .ok (.iconst 0, 1) := by decide +kernel
theorem dX6_restore_29 : decode cX6_restore 29 = .ok (.istore_n 2, 1) := by decide +kernel
theorem dX6_restore_30 : decode cX6_restore 30 = .ok (.iload_n 2, 1) := by decide +kernel
theorem dX6_restore_31 : decode cX6_restore 31 = .ok (.sipush 173, 3) := by decide +kernel
theorem dX6_restore_34 : decode cX6_restore 34 = .ok (.if_icmp .ge 27, 3) := by decide +kernel
theorem dX6_restore_37 : decode cX6_restore 37 = .ok (.aload_n 0, 1) := by decide +kernel
theorem dX6_restore_38 : decode cX6_restore 38 = .ok (.getfield 7, 3) := by decide +kernel
theorem dX6_restore_41 : decode cX6_restore 41 = .ok (.iload_n 2, 1) := by decide +kernel
theorem dX6_restore_42 : decode cX6_restore 42 = .ok (.aload_n 0, 1) := by decide +kernel
theorem dX6_restore_43 : decode cX6_restore 43 = .ok (.getfield 16, 3) := by decide +kernel
theorem dX6_restore_46 : decode cX6_restore 46 = .ok (.iload_n 1, 1) := by decide +kernel
theorem dX6_restore_47 : decode cX6_restore 47 = .ok (.sipush 173, 3) := by decide +kernel
theorem dX6_restore_50 : decode cX6_restore 50 = .ok (.imul, 1) := by decide +kernel
theorem dX6_restore_51 : decode cX6_restore 51 = .ok (.iload_n 2, 1) := by decide +kernel
theorem dX6_restore_52 : decode cX6_restore 52 = .ok (.iadd, 1) := by decide +kernel
theorem dX6_restore_53 : decode cX6_restore 53 = .ok (.iaload, 1) := by decide +kernel
theorem dX6_restore_54 : decode cX6_restore 54 = .ok (.iastore, 1) := by decide +kernel
theorem dX6_restore_55 : decode cX6_restore 55 = .ok (.iinc 2 1, 3) := by decide +kernel
theorem dX6_restore_58 : decode cX6_restore 58 = .ok (.goto (-28), 3) := by decide +kernel
theorem dX6_restore_61 : decode cX6_restore 61 = .ok (.aload_n 0, 1) := by decide +kernel
theorem dX6_restore_62 : decode cX6_restore 62 = .ok (.getfield 7, 3) := by decide +kernel
theorem dX6_restore_65 : decode cX6_restore 65 = .ok (.bipush 10, 2) := by decide +kernel
theorem dX6_restore_67 : decode cX6_restore 67 = .ok (.iaload, 1) := by decide +kernel
theorem dX6_restore_68 : decode cX6_restore 68 = .ok (.ireturn, 1) := by decide +kernel
theorem dX6_putAside_0 : decode cX6_putAside 0 = .ok (.iconst 0, 1) := by decide +kernel
theorem dX6_putAside_1 : decode cX6_putAside 1 = .ok (.istore_n 1, 1) := by decide +kernel
theorem dX6_putAside_2 : decode cX6_putAside 2 = .ok (.iload_n 1, 1) := by decide +kernel
theorem dX6_putAside_3 : decode cX6_putAside 3 = .ok (.sipush 173, 3) := by decide +kernel
theorem dX6_putAside_6 : decode cX6_putAside 6 = .ok (.if_icmp .ge 21, 3) := by decide +kernel
theorem dX6_putAside_9 : decode cX6_putAside 9 = .ok (.aload_n 0, 1) := by decide +kernel
theorem dX6_putAside_10 : decode cX6_putAside 10 = .ok (.getfield 23, 3) := by decide +kernel
theorem dX6_putAside_13 : decode cX6_putAside 13 = .ok (.iload_n 1, 1) := by decide +kernel
theorem dX6_putAside_14 : decode cX6_putAside 14 = .ok (.aload_n 0, 1) := by decide +kernel
theorem dX6_putAside_15 : decode cX6_putAside 15 = .ok (.getfield 7, 3) := by decide +kernel
theorem dX6_putAside_18 : decode cX6_putAside 18 = .ok (.iload_n 1, 1) := by decide +kernel
theorem dX6_putAside_19 : decode cX6_putAside 19 = .ok (.iaload, 1) := by decide +kernel
theorem dX6_putAside_20 : decode cX6_putAside 20 = .ok (.iastore, 1) := by decide +kernel
theorem dX6_putAside_21 : decode cX6_putAside 21 = .ok (.iinc 1 1, 3) := by decide +kernel
theorem dX6_putAside_24 : decode cX6_putAside 24 = .ok (.goto (-22), 3) := by decide +kernel
theorem dX6_putAside_27 : decode cX6_putAside 27 = .ok (.return_, 1) := by decide +kernel
theorem dX6_bringBack_0 : decode cX6_bringBack 0 = .ok (.iconst 0, 1) := by decide +kernel
theorem dX6_bringBack_1 : decode cX6_bringBack 1 = .ok (.istore_n 1, 1) := by decide +kernel
theorem dX6_bringBack_2 : decode cX6_bringBack 2 = .ok (.iload_n 1, 1) := by decide +kernel
theorem dX6_bringBack_3 : decode cX6_bringBack 3 = .ok (.sipush 173, 3) := by decide +kernel
theorem dX6_bringBack_6 : decode cX6_bringBack 6 = .ok (.if_icmp .ge 21, 3) := by decide +kernel
theorem dX6_bringBack_9 : decode cX6_bringBack 9 = .ok (.aload_n 0, 1) := by decide +kernel
theorem dX6_bringBack_10 : decode cX6_bringBack 10 = .ok (.getfield 7, 3) := by decide +kernel
theorem dX6_bringBack_13 : decode cX6_bringBack 13 = .ok (.iload_n 1, 1) := by decide +kernel
theorem dX6_bringBack_14 : decode cX6_bringBack 14 = .ok (.aload_n 0, 1) := by decide +kernel
theorem dX6_bringBack_15 : decode cX6_bringBack 15 = .ok (.getfield 23, 3) := by decide +kernel
theorem dX6_bringBack_18 : decode cX6_bringBack 18 = .ok (.iload_n 1, 1) := by decide +kernel
theorem dX6_bringBack_19 : decode cX6_bringBack 19 = .ok (.iaload, 1) := by decide +kernel
theorem dX6_bringBack_20 : decode cX6_bringBack 20 = .ok (.iastore, 1) := by decide +kernel
theorem dX6_bringBack_21 : decode cX6_bringBack 21 = .ok (.iinc 1 1, 3) := by decide +kernel
theorem dX6_bringBack_24 : decode cX6_bringBack 24 = .ok (.goto (-22), 3) := by decide +kernel
theorem dX6_bringBack_27 : decode cX6_bringBack 27 = .ok (.return_, 1) := by decide +kernel
theorem dX6_isSo_0 : decode cX6_isSo 0 = .ok (.iload_n 0, 1) := by decide +kernel
theorem dX6_isSo_1 : decode cX6_isSo 1 = .ok (.bipush 65, 2) := by decide +kernel
theorem dX6_isSo_3 : decode cX6_isSo 3 = .ok (.if_icmp .lt 13, 3) := by decide +kernel
theorem dX6_isSo_6 : decode cX6_isSo 6 = .ok (.iload_n 0, 1) := by decide +kernel
theorem dX6_isSo_7 : decode cX6_isSo 7 = .ok (.bipush 68, 2) := by decide +kernel
theorem dX6_isSo_9 : decode cX6_isSo 9 = .ok (.if_icmp .gt 7, 3) := by decide +kernel
theorem dX6_isSo_12 : decode cX6_isSo 12 = .ok (.iconst 1, 1) := by decide +kernel
theorem dX6_isSo_13 : decode cX6_isSo 13 = .ok (.goto 4, 3) := by decide +kernel
theorem dX6_isSo_16 : decode cX6_isSo 16 = .ok (.iconst 0, 1) := by decide +kernel
theorem dX6_isSo_17 : decode cX6_isSo 17 = .ok (.istore_n 2, 1) := by decide +kernel
theorem dX6_isSo_18 : decode cX6_isSo 18 = .ok (.iload_n 1, 1) := by decide +kernel
theorem dX6_isSo_19 : decode cX6_isSo 19 = .ok (.iconst 2, 1) := by decide +kernel
theorem dX6_isSo_20 : decode cX6_isSo 20 = .ok (.iload_n 2, 1) := by decide +kernel
theorem dX6_isSo_21 : decode cX6_isSo 21 = .ok (.ifCond .eq 10, 3) := by decide +kernel
theorem dX6_isSo_24 : decode cX6_isSo 24 = .ok (.iload_n 0, 1) := by decide +kernel
theorem dX6_isSo_25 : decode cX6_isSo 25 = .ok (.bipush 65, 2) := by decide +kernel
theorem dX6_isSo_27 : decode cX6_isSo 27 = .ok (.isub, 1) := by decide +kernel
theorem dX6_isSo_28 : decode cX6_isSo 28 = .ok (.goto 7, 3) := by decide +kernel
theorem dX6_isSo_31 : decode cX6_isSo 31 = .ok (.iload_n 0, 1) := by decide +kernel
theorem dX6_isSo_32 : decode cX6_isSo 32 = .ok (.bipush 97, 2) := by decide +kernel
theorem dX6_isSo_34 : decode cX6_isSo 34 = .ok (.isub, 1) := by decide +kernel
theorem dX6_isSo_35 : decode cX6_isSo 35 = .ok (.imul, 1) := by decide +kernel
theorem dX6_isSo_36 : decode cX6_isSo 36 = .ok (.ishr, 1) := by decide +kernel
theorem dX6_isSo_37 : decode cX6_isSo 37 = .ok (.iconst 3, 1) := by decide +kernel
theorem dX6_isSo_38 : decode cX6_isSo 38 = .ok (.iand, 1) := by decide +kernel
theorem dX6_isSo_39 : decode cX6_isSo 39 = .ok (.istore_n 3, 1) := by decide +kernel
theorem dX6_isSo_40 : decode cX6_isSo 40 = .ok (.iload_n 2, 1) := by decide +kernel
theorem dX6_isSo_41 : decode cX6_isSo 41 = .ok (.ifCond .eq 16, 3) := by decide +kernel
theorem dX6_isSo_44 : decode cX6_isSo 44 = .ok (.iload_n 3, 1) := by decide +kernel
theorem dX6_isSo_45 : decode cX6_isSo 45 = .ok (.iconst 3, 1) := by decide +kernel
theorem dX6_isSo_46 : decode cX6_isSo 46 = .ok (.if_icmp .ne 7, 3) := by decide +kernel
theorem dX6_isSo_49 : decode cX6_isSo 49 = .ok (.iconst 1, 1) := by decide +kernel
theorem dX6_isSo_50 : decode cX6_isSo 50 = .ok (.goto 16, 3) := by decide +kernel
theorem dX6_isSo_53 : decode cX6_isSo 53 = .ok (.iconst 0, 1) := by decide +kernel
theorem dX6_isSo_54 : decode cX6_isSo 54 = .ok (.goto 12, 3) := by decide +kernel
theorem dX6_isSo_57 : decode cX6_isSo 57 = .ok (.iload_n 3, 1) := by decide +kernel
theorem dX6_isSo_58 : decode cX6_isSo 58 = .ok (.ifCond .le 7, 3) := by decide +kernel
theorem dX6_isSo_61 : decode cX6_isSo 61 = .ok (.iconst 1, 1) := by decide +kernel
theorem dX6_isSo_62 : decode cX6_isSo 62 = .ok (.goto 4, 3) := by decide +kernel
theorem dX6_isSo_65 : decode cX6_isSo 65 = .ok (.iconst 0, 1) := by decide +kernel
theorem dX6_isSo_66 : decode cX6_isSo 66 = .ok (.ireturn, 1) := by decide +kernel
theorem dX6_join_0 : decode cX6_join 0 = .ok (.aload_n 0, 1) := by decide +kernel
theorem dX6_join_1 : decode cX6_join 1 = .ok (.dup, 1) := by decide +kernel
theorem dX6_join_2 : decode cX6_join 2 = .ok (.getfield 53, 3) := by decide +kernel
theorem dX6_join_5 : decode cX6_join 5 = .ok (.iconst 1, 1) := by decide +kernel
theorem dX6_join_6 : decode cX6_join 6 = .ok (.isub, 1) := by decide +kernel
theorem dX6_join_7 : decode cX6_join 7 = .ok (.putfield 53, 3) := by decide +kernel
theorem dX6_join_10 : decode cX6_join 10 = .ok (.aload_n 0, 1) := by decide +kernel
theorem dX6_join_11 : decode cX6_join 11 = .ok (.getfield 39, 3) := by decide +kernel
theorem dX6_join_14 : decode cX6_join 14 = .ok (.aload_n 0, 1) := by decide +kernel
theorem dX6_join_15 : decode cX6_join 15 = .ok (.getfield 53, 3) := by decide +kernel
theorem dX6_join_18 : decode cX6_join 18 = .ok (.iaload, 1) := by decide +kernel
theorem dX6_join_19 : decode cX6_join 19 = .ok (.istore_n 1, 1) := by decide +kernel
theorem dX6_join_20 : decode cX6_join 20 = .ok (.aload_n 0, 1) := by decide +kernel
theorem dX6_join_21 : decode cX6_join 21 = .ok (.getfield 56, 3) := by decide +kernel
theorem dX6_join_24 : decode cX6_join 24 = .ok (.iconst 1, 1) := by decide +kernel
theorem dX6_join_25 : decode cX6_join 25 = .ok (.isub, 1) := by decide +kernel
theorem dX6_join_26 : decode cX6_join 26 = .ok (.istore_n 2, 1) := by decide +kernel
theorem dX6_join_27 : decode cX6_join 27 = .ok (.iload_n 1, 1) := by decide +kernel
theorem dX6_join_28 : decode cX6_join 28 = .ok (.bipush 33, 2) := by decide +kernel
theorem dX6_join_30 : decode cX6_join 30 = .ok (.if_icmp .ne 44, 3) := by decide +kernel
theorem dX6_join_33 : decode cX6_join 33 = .ok (.aload_n 0, 1) := by decide +kernel
theorem dX6_join_34 : decode cX6_join 34 = .ok (.getfield 30, 3) := by decide +kernel
theorem dX6_join_37 : decode cX6_join 37 = .ok (.iload_n 2, 1) := by decide +kernel
theorem dX6_join_38 : decode cX6_join 38 = .ok (.aload_n 0, 1) := by decide +kernel
theorem dX6_join_39 : decode cX6_join 39 = .ok (.getfield 30, 3) := by decide +kernel
theorem dX6_join_42 : decode cX6_join 42 = .ok (.iload_n 2, 1) := by decide +kernel
theorem dX6_join_43 : decode cX6_join 43 = .ok (.baload, 1) := by decide +kernel
theorem dX6_join_44 : decode cX6_join 44 = .ok (.ifCond .ne 7, 3) := by decide +kernel
theorem dX6_join_47 : decode cX6_join 47 = .ok (.iconst 1, 1) := by decide +kernel
theorem dX6_join_48 : decode cX6_join 48 = .ok (.goto 4, 3) := by decide +kernel
theorem dX6_join_51 : decode cX6_join 51 = .ok (.iconst 0, 1) := by decide +kernel
theorem dX6_join_52 : decode cX6_join 52 = .ok (.bastore, 1) := by decide +kernel
theorem dX6_join_53 : decode cX6_join 53 = .ok (.aload_n 0, 1) := by decide +kernel
theorem dX6_join_54 : decode cX6_join 54 = .ok (.getfield 33, 3) := by decide +kernel
theorem dX6_join_57 : decode cX6_join 57 = .ok (.iload_n 2, 1) := by decide +kernel
theorem dX6_join_58 : decode cX6_join 58 = .ok (.dup2, 1) := by decide +kernel
theorem dX6_join_59 : decode cX6_join 59 = .ok (.iaload, 1) := by decide +kernel
theorem dX6_join_60 : decode cX6_join 60 = .ok (.iconst 1, 1) := by decide +kernel
theorem dX6_join_61 : decode cX6_join 61 = .ok (.iadd, 1) := by decide +kernel
theorem dX6_join_62 : decode cX6_join 62 = .ok (.iastore, 1) := by decide +kernel
theorem dX6_join_63 : decode cX6_join 63 = .ok (.aload_n 0, 1) := by decide +kernel
theorem dX6_join_64 : decode cX6_join 64 = .ok (.getfield 36, 3) := by decide +kernel
theorem dX6_join_67 : decode cX6_join 67 = .ok (.iload_n 2, 1) := by decide +kernel
theorem dX6_join_68 : decode cX6_join 68 = .ok (.dup2, 1) := by decide +kernel
theorem dX6_join_69 : decode cX6_join 69 = .ok (.iaload, 1) := by decide +kernel
theorem dX6_join_70 : decode cX6_join 70 = .ok (.iconst 1, 1) := by decide +kernel
theorem dX6_join_71 : decode cX6_join 71 = .ok (.iadd, 1) := by decide +kernel
theorem dX6_join_72 : decode cX6_join 72 = .ok (.iastore, 1) := by decide +kernel
theorem dX6_join_73 : decode cX6_join 73 = .ok (.return_, 1) := by decide +kernel
theorem dX6_join_74 : decode cX6_join 74 = .ok (.iload_n 2, 1) := by decide +kernel
theorem dX6_join_75 : decode cX6_join 75 = .ok (.iconst 1, 1) := by decide +kernel
theorem dX6_join_76 : decode cX6_join 76 = .ok (.isub, 1) := by decide +kernel
theorem dX6_join_77 : decode cX6_join 77 = .ok (.istore_n 3, 1) := by decide +kernel
theorem dX6_join_78 : decode cX6_join 78 = .ok (.aload_n 0, 1) := by decide +kernel
theorem dX6_join_79 : decode cX6_join 79 = .ok (.getfield 30, 3) := by decide +kernel
theorem dX6_join_82 : decode cX6_join 82 = .ok (.iload_n 3, 1) := by decide +kernel
theorem dX6_join_83 : decode cX6_join 83 = .ok (.baload, 1) := by decide +kernel
theorem dX6_join_84 : decode cX6_join 84 = .ok (.iload_n 1, 1) := by decide +kernel
theorem dX6_join_85 : decode cX6_join 85 = .ok (.bipush 38, 2) := by decide +kernel
theorem dX6_join_87 : decode cX6_join 87 = .ok (.if_icmp .ne 7, 3) := by decide +kernel
theorem dX6_join_90 : decode cX6_join 90 = .ok (.iconst 1, 1) := by decide +kernel
theorem dX6_join_91 : decode cX6_join 91 = .ok (.goto 4, 3) := by decide +kernel
theorem dX6_join_94 : decode cX6_join 94 = .ok (.iconst 0, 1) := by decide +kernel
theorem dX6_join_95 : decode cX6_join 95 = .ok (.if_icmp .ne 7, 3) := by decide +kernel
theorem dX6_join_98 : decode cX6_join 98 = .ok (.iconst 1, 1) := by decide +kernel
theorem dX6_join_99 : decode cX6_join 99 = .ok (.goto 4, 3) := by decide +kernel
theorem dX6_join_102 : decode cX6_join 102 = .ok (.iconst 0, 1) := by decide +kernel
theorem dX6_join_103 : decode cX6_join 103 = .ok (.istore 4, 2) := by decide +kernel
theorem dX6_join_105 : decode cX6_join 105 = .ok (.aload_n 0, 1) := by decide +kernel
theorem dX6_join_106 : decode cX6_join 106 = .ok (.getfield 36, 3) := by decide +kernel
theorem dX6_join_109 : decode cX6_join 109 = .ok (.iload_n 3, 1) := by decide +kernel
theorem dX6_join_110 : decode cX6_join 110 = .ok (.dup2, 1) := by decide +kernel
theorem dX6_join_111 : decode cX6_join 111 = .ok (.iaload, 1) := by decide +kernel
theorem dX6_join_112 : decode cX6_join 112 = .ok (.iconst 1, 1) := by decide +kernel
theorem dX6_join_113 : decode cX6_join 113 = .ok (.iload 4, 2) := by decide +kernel
theorem dX6_join_115 : decode cX6_join 115 = .ok (.ifCond .eq 12, 3) := by decide +kernel
theorem dX6_join_118 : decode cX6_join 118 = .ok (.aload_n 0, 1) := by decide +kernel
theorem dX6_join_119 : decode cX6_join 119 = .ok (.getfield 36, 3) := by decide +kernel
theorem dX6_join_122 : decode cX6_join 122 = .ok (.iload_n 2, 1) := by decide +kernel
theorem dX6_join_123 : decode cX6_join 123 = .ok (.iaload, 1) := by decide +kernel
theorem dX6_join_124 : decode cX6_join 124 = .ok (.goto 4, 3) := by decide +kernel
theorem dX6_join_127 : decode cX6_join 127 = .ok (.iconst 0, 1) := by decide +kernel
theorem dX6_join_128 : decode cX6_join 128 = .ok (.iadd, 1) := by decide +kernel
theorem dX6_join_129 : decode cX6_join 129 = .ok (.iadd, 1) := by decide +kernel
theorem dX6_join_130 : decode cX6_join 130 = .ok (.iastore, 1) := by decide +kernel
theorem dX6_join_131 : decode cX6_join 131 = .ok (.aload_n 0, 1) := by decide +kernel
theorem dX6_join_132 : decode cX6_join 132 = .ok (.getfield 30, 3) := by decide +kernel
theorem dX6_join_135 : decode cX6_join 135 = .ok (.iload_n 3, 1) := by decide +kernel
theorem dX6_join_136 : decode cX6_join 136 = .ok (.iload 4, 2) := by decide +kernel
theorem dX6_join_138 : decode cX6_join 138 = .ok (.ifCond .eq 12, 3) := by decide +kernel
theorem dX6_join_141 : decode cX6_join 141 = .ok (.aload_n 0, 1) := by decide +kernel
theorem dX6_join_142 : decode cX6_join 142 = .ok (.getfield 30, 3) := by decide +kernel
theorem dX6_join_145 : decode cX6_join 145 = .ok (.iload_n 2, 1) := by decide +kernel
theorem dX6_join_146 : decode cX6_join 146 = .ok (.baload, 1) := by decide +kernel
theorem dX6_join_147 : decode cX6_join 147 = .ok (.goto 9, 3) := by decide +kernel
theorem dX6_join_150 : decode cX6_join 150 = .ok (.aload_n 0, 1) := by decide +kernel
theorem dX6_join_151 : decode cX6_join 151 = .ok (.getfield 30, 3) := by decide +kernel
theorem dX6_join_154 : decode cX6_join 154 = .ok (.iload_n 3, 1) := by decide +kernel
theorem dX6_join_155 : decode cX6_join 155 = .ok (.baload, 1) := by decide +kernel
theorem dX6_join_156 : decode cX6_join 156 = .ok (.bastore, 1) := by decide +kernel
theorem dX6_join_157 : decode cX6_join 157 = .ok (.aload_n 0, 1) := by decide +kernel
theorem dX6_join_158 : decode cX6_join 158 = .ok (.getfield 33, 3) := by decide +kernel
theorem dX6_join_161 : decode cX6_join 161 = .ok (.iload_n 3, 1) := by decide +kernel
theorem dX6_join_162 : decode cX6_join 162 = .ok (.iconst 1, 1) := by decide +kernel
theorem dX6_join_163 : decode cX6_join 163 = .ok (.aload_n 0, 1) := by decide +kernel
theorem dX6_join_164 : decode cX6_join 164 = .ok (.getfield 33, 3) := by decide +kernel
theorem dX6_join_167 : decode cX6_join 167 = .ok (.iload_n 3, 1) := by decide +kernel
theorem dX6_join_168 : decode cX6_join 168 = .ok (.iaload, 1) := by decide +kernel
theorem dX6_join_169 : decode cX6_join 169 = .ok (.aload_n 0, 1) := by decide +kernel
theorem dX6_join_170 : decode cX6_join 170 = .ok (.getfield 33, 3) := by decide +kernel
theorem dX6_join_173 : decode cX6_join 173 = .ok (.iload_n 2, 1) := by decide +kernel
theorem dX6_join_174 : decode cX6_join 174 = .ok (.iaload, 1) := by decide +kernel
theorem dX6_join_175 : decode cX6_join 175 = .ok (.if_icmp .le 12, 3) := by decide +kernel
theorem dX6_join_178 : decode cX6_join 178 = .ok (.aload_n 0, 1) := by decide +kernel
theorem dX6_join_179 : decode cX6_join 179 = .ok (.getfield 33, 3) := by decide +kernel
theorem dX6_join_182 : decode cX6_join 182 = .ok (.iload_n 3, 1) := by decide +kernel
theorem dX6_join_183 : decode cX6_join 183 = .ok (.iaload, 1) := by decide +kernel
theorem dX6_join_184 : decode cX6_join 184 = .ok (.goto 9, 3) := by decide +kernel
theorem dX6_join_187 : decode cX6_join 187 = .ok (.aload_n 0, 1) := by decide +kernel
theorem dX6_join_188 : decode cX6_join 188 = .ok (.getfield 33, 3) := by decide +kernel
theorem dX6_join_191 : decode cX6_join 191 = .ok (.iload_n 2, 1) := by decide +kernel
theorem dX6_join_192 : decode cX6_join 192 = .ok (.iaload, 1) := by decide +kernel
theorem dX6_join_193 : decode cX6_join 193 = .ok (.iadd, 1) := by decide +kernel
theorem dX6_join_194 : decode cX6_join 194 = .ok (.iastore, 1) := by decide +kernel
theorem dX6_join_195 : decode cX6_join 195 = .ok (.aload_n 0, 1) := by decide +kernel
theorem dX6_join_196 : decode cX6_join 196 = .ok (.dup, 1) := by decide +kernel
theorem dX6_join_197 : decode cX6_join 197 = .ok (.getfield 56, 3) := by decide +kernel
theorem dX6_join_200 : decode cX6_join 200 = .ok (.iconst 1, 1) := by decide +kernel
theorem dX6_join_201 : decode cX6_join 201 = .ok (.isub, 1) := by decide +kernel
theorem dX6_join_202 : decode cX6_join 202 = .ok (.putfield 56, 3) := by decide +kernel
theorem dX6_join_205 : decode cX6_join 205 = .ok (.return_, 1) := by decide +kernel
theorem dX6_strength_0 : decode cX6_strength 0 = .ok (.iload_n 0, 1) := by decide +kernel
theorem dX6_strength_1 : decode cX6_strength 1 = .ok (.bipush 33, 2) := by decide +kernel
theorem dX6_strength_3 : decode cX6_strength 3 = .ok (.if_icmp .ne 7, 3) := by decide +kernel
theorem dX6_strength_6 : decode cX6_strength 6 = .ok (.iconst 3, 1) := by decide +kernel
theorem dX6_strength_7 : decode cX6_strength 7 = .ok (.goto 24, 3) := by decide +kernel
theorem dX6_strength_10 : decode cX6_strength 10 = .ok (.iload_n 0, 1) := by decide +kernel
theorem dX6_strength_11 : decode cX6_strength 11 = .ok (.bipush 38, 2) := by decide +kernel
theorem dX6_strength_13 : decode cX6_strength 13 = .ok (.if_icmp .ne 7, 3) := by decide +kernel
theorem dX6_strength_16 : decode cX6_strength 16 = .ok (.iconst 2, 1) := by decide +kernel
theorem dX6_strength_17 : decode cX6_strength 17 = .ok (.goto 14, 3) := by decide +kernel
theorem dX6_strength_20 : decode cX6_strength 20 = .ok (.iload_n 0, 1) := by decide +kernel
theorem dX6_strength_21 : decode cX6_strength 21 = .ok (.bipush 124, 2) := by decide +kernel
theorem dX6_strength_23 : decode cX6_strength 23 = .ok (.if_icmp .ne 7, 3) := by decide +kernel
theorem dX6_strength_26 : decode cX6_strength 26 = .ok (.iconst 1, 1) := by decide +kernel
theorem dX6_strength_27 : decode cX6_strength 27 = .ok (.goto 4, 3) := by decide +kernel
theorem dX6_strength_30 : decode cX6_strength 30 = .ok (.iconst 0, 1) := by decide +kernel
theorem dX6_strength_31 : decode cX6_strength 31 = .ok (.ireturn, 1) := by decide +kernel
theorem dX6_joinAll_0 : decode cX6_joinAll 0 = .ok (.aload_n 0, 1) := by decide +kernel
theorem dX6_joinAll_1 : decode cX6_joinAll 1 = .ok (.getfield 53, 3) := by decide +kernel
theorem dX6_joinAll_4 : decode cX6_joinAll 4 = .ok (.ifCond .le 28, 3) := by decide +kernel
theorem dX6_joinAll_7 : decode cX6_joinAll 7 = .ok (.aload_n 0, 1) := by decide +kernel
theorem dX6_joinAll_8 : decode cX6_joinAll 8 = .ok (.getfield 39, 3) := by decide +kernel
theorem dX6_joinAll_11 : decode cX6_joinAll 11 = .ok (.aload_n 0, 1) := by decide +kernel
theorem dX6_joinAll_12 : decode cX6_joinAll 12 = .ok (.getfield 53, 3) := by decide +kernel
theorem dX6_joinAll_15 : decode cX6_joinAll 15 = .ok (.iconst 1, 1) := by decide +kernel
theorem dX6_joinAll_16 : decode cX6_joinAll 16 = .ok (.isub, 1) := by decide +kernel
theorem dX6_joinAll_17 : decode cX6_joinAll 17 = .ok (.iaload, 1) := by decide +kernel
theorem dX6_joinAll_18 : decode cX6_joinAll 18 = .ok (.invokestatic 59, 3) := by decide +kernel
theorem dX6_joinAll_21 : decode cX6_joinAll 21 = .ok (.iload_n 1, 1) := by decide +kernel
theorem dX6_joinAll_22 : decode cX6_joinAll 22 = .ok (.if_icmp .lt 10, 3) := by decide +kernel
theorem dX6_joinAll_25 : decode cX6_joinAll 25 = .ok (.aload_n 0, 1) := by decide +kernel
theorem dX6_joinAll_26 : decode cX6_joinAll 26 = .ok (.invokevirtual 63, 3) := by decide +kernel
theorem dX6_joinAll_29 : decode cX6_joinAll 29 = .ok (.goto (-29), 3) := by decide +kernel
theorem dX6_joinAll_32 : decode cX6_joinAll 32 = .ok (.return_, 1) := by decide +kernel
theorem dX6_push_0 : decode cX6_push 0 = .ok (.aload_n 0, 1) := by decide +kernel
theorem dX6_push_1 : decode cX6_push 1 = .ok (.getfield 39, 3) := by decide +kernel
theorem dX6_push_4 : decode cX6_push 4 = .ok (.aload_n 0, 1) := by decide +kernel
theorem dX6_push_5 : decode cX6_push 5 = .ok (.getfield 53, 3) := by decide +kernel
theorem dX6_push_8 : decode cX6_push 8 = .ok (.iload_n 1, 1) := by decide +kernel
theorem dX6_push_9 : decode cX6_push 9 = .ok (.iastore, 1) := by decide +kernel
theorem dX6_push_10 : decode cX6_push 10 = .ok (.aload_n 0, 1) := by decide +kernel
theorem dX6_push_11 : decode cX6_push 11 = .ok (.dup, 1) := by decide +kernel
theorem dX6_push_12 : decode cX6_push 12 = .ok (.getfield 53, 3) := by decide +kernel
theorem dX6_push_15 : decode cX6_push 15 = .ok (.iconst 1, 1) := by decide +kernel
theorem dX6_push_16 : decode cX6_push 16 = .ok (.iadd, 1) := by decide +kernel
theorem dX6_push_17 : decode cX6_push 17 = .ok (.putfield 53, 3) := by decide +kernel
theorem dX6_push_20 : decode cX6_push 20 = .ok (.return_, 1) := by decide +kernel
theorem dX6_workOut_0 : decode cX6_workOut 0 = .ok (.aload_n 0, 1) := by decide +kernel
theorem dX6_workOut_1 : decode cX6_workOut 1 = .ok (.iconst 0, 1) := by decide +kernel
theorem dX6_workOut_2 : decode cX6_workOut 2 = .ok (.putfield 56, 3) := by decide +kernel
theorem dX6_workOut_5 : decode cX6_workOut 5 = .ok (.aload_n 0, 1) := by decide +kernel
theorem dX6_workOut_6 : decode cX6_workOut 6 = .ok (.iconst 0, 1) := by decide +kernel
theorem dX6_workOut_7 : decode cX6_workOut 7 = .ok (.putfield 53, 3) := by decide +kernel
theorem dX6_workOut_10 : decode cX6_workOut 10 = .ok (.iconst 0, 1) := by decide +kernel
theorem dX6_workOut_11 : decode cX6_workOut 11 = .ok (.istore_n 2, 1) := by decide +kernel
theorem dX6_workOut_12 : decode cX6_workOut 12 = .ok (.iload_n 2, 1) := by decide +kernel
theorem dX6_workOut_13 : decode cX6_workOut 13 = .ok (.aload_n 0, 1) := by decide +kernel
theorem dX6_workOut_14 : decode cX6_workOut 14 = .ok (.getfield 7, 3) := by decide +kernel
theorem dX6_workOut_17 : decode cX6_workOut 17 = .ok (.bipush 22, 2) := by decide +kernel
theorem dX6_workOut_19 : decode cX6_workOut 19 = .ok (.iaload, 1) := by decide +kernel
theorem dX6_workOut_20 : decode cX6_workOut 20 = .ok (.if_icmp .ge 145, 3) := by decide +kernel
theorem dX6_workOut_23 : decode cX6_workOut 23 = .ok (.aload_n 0, 1) := by decide +kernel
theorem dX6_workOut_24 : decode cX6_workOut 24 = .ok (.getfield 7, 3) := by decide +kernel
theorem dX6_workOut_27 : decode cX6_workOut 27 = .ok (.bipush 23, 2) := by decide +kernel
theorem dX6_workOut_29 : decode cX6_workOut 29 = .ok (.iload_n 2, 1) := by decide +kernel
theorem dX6_workOut_30 : decode cX6_workOut 30 = .ok (.iadd, 1) := by decide +kernel
theorem dX6_workOut_31 : decode cX6_workOut 31 = .ok (.iaload, 1) := by decide +kernel
theorem dX6_workOut_32 : decode cX6_workOut 32 = .ok (.istore_n 3, 1) := by decide +kernel
theorem dX6_workOut_33 : decode cX6_workOut 33 = .ok (.iload_n 3, 1) := by decide +kernel
theorem dX6_workOut_34 : decode cX6_workOut 34 = .ok (.bipush 33, 2) := by decide +kernel
theorem dX6_workOut_36 : decode cX6_workOut 36 = .ok (.if_icmp .eq 9, 3) := by decide +kernel
theorem dX6_workOut_39 : decode cX6_workOut 39 = .ok (.iload_n 3, 1) := by decide +kernel
theorem dX6_workOut_40 : decode cX6_workOut 40 = .ok (.bipush 40, 2) := by decide +kernel
theorem dX6_workOut_42 : decode cX6_workOut 42 = .ok (.if_icmp .ne 11, 3) := by decide +kernel
theorem dX6_workOut_45 : decode cX6_workOut 45 = .ok (.aload_n 0, 1) := by decide +kernel
theorem dX6_workOut_46 : decode cX6_workOut 46 = .ok (.iload_n 3, 1) := by decide +kernel
theorem dX6_workOut_47 : decode cX6_workOut 47 = .ok (.invokevirtual 66, 3) := by decide +kernel
theorem dX6_workOut_50 : decode cX6_workOut 50 = .ok (.goto 109, 3) := by decide +kernel
theorem dX6_workOut_53 : decode cX6_workOut 53 = .ok (.iload_n 3, 1) := by decide +kernel
theorem dX6_workOut_54 : decode cX6_workOut 54 = .ok (.bipush 41, 2) := by decide +kernel
theorem dX6_workOut_56 : decode cX6_workOut 56 = .ok (.if_icmp .ne 26, 3) := by decide +kernel
theorem dX6_workOut_59 : decode cX6_workOut 59 = .ok (.aload_n 0, 1) := by decide +kernel
theorem dX6_workOut_60 : decode cX6_workOut 60 = .ok (.iconst 1, 1) := by decide +kernel
theorem dX6_workOut_61 : decode cX6_workOut 61 = .ok (.invokevirtual 70, 3) := by decide +kernel
theorem dX6_workOut_64 : decode cX6_workOut 64 = .ok (.aload_n 0, 1) := by decide +kernel
theorem dX6_workOut_65 : decode cX6_workOut 65 = .ok (.dup, 1) := by decide +kernel
theorem dX6_workOut_66 : decode cX6_workOut 66 = .ok (.getfield 53, 3) := by decide +kernel
theorem dX6_workOut_69 : decode cX6_workOut 69 = .ok (.iconst 1, 1) := by decide +kernel
theorem dX6_workOut_70 : decode cX6_workOut 70 = .ok (.isub, 1) := by decide +kernel
theorem dX6_workOut_71 : decode cX6_workOut 71 = .ok (.putfield 53, 3) := by decide +kernel
theorem dX6_workOut_74 : decode cX6_workOut 74 = .ok (.aload_n 0, 1) := by decide +kernel
theorem dX6_workOut_75 : decode cX6_workOut 75 = .ok (.iconst 3, 1) := by decide +kernel
theorem dX6_workOut_76 : decode cX6_workOut 76 = .ok (.invokevirtual 70, 3) := by decide +kernel
theorem dX6_workOut_79 : decode cX6_workOut 79 = .ok (.goto 80, 3) := by decide +kernel
theorem dX6_workOut_82 : decode cX6_workOut 82 = .ok (.iload_n 3, 1) := by decide +kernel
theorem dX6_workOut_83 : decode cX6_workOut 83 = .ok (.bipush 38, 2) := by decide +kernel
theorem dX6_workOut_85 : decode cX6_workOut 85 = .ok (.if_icmp .eq 9, 3) := by decide +kernel
theorem dX6_workOut_88 : decode cX6_workOut 88 = .ok (.iload_n 3, 1) := by decide +kernel
theorem dX6_workOut_89 : decode cX6_workOut 89 = .ok (.bipush 124, 2) := by decide +kernel
theorem dX6_workOut_91 : decode cX6_workOut 91 = .ok (.if_icmp .ne 19, 3) := by decide +kernel
theorem dX6_workOut_94 : decode cX6_workOut 94 = .ok (.aload_n 0, 1) := by decide +kernel
theorem dX6_workOut_95 : decode cX6_workOut 95 = .ok (.iload_n 3, 1) := by decide +kernel
theorem dX6_workOut_96 : decode cX6_workOut 96 = .ok (.invokestatic 59, 3) := by decide +kernel
theorem dX6_workOut_99 : decode cX6_workOut 99 = .ok (.invokevirtual 70, 3) := by decide +kernel
theorem dX6_workOut_102 : decode cX6_workOut 102 = .ok (.aload_n 0, 1) := by decide +kernel
theorem dX6_workOut_103 : decode cX6_workOut 103 = .ok (.iload_n 3, 1) := by decide +kernel
theorem dX6_workOut_104 : decode cX6_workOut 104 = .ok (.invokevirtual 66, 3) := by decide +kernel
theorem dX6_workOut_107 : decode cX6_workOut 107 = .ok (.goto 52, 3) := by decide +kernel
theorem dX6_workOut_110 : decode cX6_workOut 110 = .ok (.aload_n 0, 1) := by decide +kernel
theorem dX6_workOut_111 : decode cX6_workOut 111 = .ok (.getfield 30, 3) := by decide +kernel
theorem dX6_workOut_114 : decode cX6_workOut 114 = .ok (.aload_n 0, 1) := by decide +kernel
theorem dX6_workOut_115 : decode cX6_workOut 115 = .ok (.getfield 56, 3) := by decide +kernel
theorem dX6_workOut_118 : decode cX6_workOut 118 = .ok (.iload_n 3, 1) := by decide +kernel
theorem dX6_workOut_119 : decode cX6_workOut 119 = .ok (.iload_n 1, 1) := by decide +kernel
theorem dX6_workOut_120 : decode cX6_workOut 120 = .ok (.invokestatic 73, 3) := by decide +kernel
theorem dX6_workOut_123 : decode cX6_workOut 123 = .ok (.bastore, 1) := by decide +kernel
theorem dX6_workOut_124 : decode cX6_workOut 124 = .ok (.aload_n 0, 1) := by decide +kernel
theorem dX6_workOut_125 : decode cX6_workOut 125 = .ok (.getfield 33, 3) := by decide +kernel
theorem dX6_workOut_128 : decode cX6_workOut 128 = .ok (.aload_n 0, 1) := by decide +kernel
theorem dX6_workOut_129 : decode cX6_workOut 129 = .ok (.getfield 56, 3) := by decide +kernel
theorem dX6_workOut_132 : decode cX6_workOut 132 = .ok (.iconst 1, 1) := by decide +kernel
theorem dX6_workOut_133 : decode cX6_workOut 133 = .ok (.iastore, 1) := by decide +kernel
theorem dX6_workOut_134 : decode cX6_workOut 134 = .ok (.aload_n 0, 1) := by decide +kernel
theorem dX6_workOut_135 : decode cX6_workOut 135 = .ok (.getfield 36, 3) := by decide +kernel
theorem dX6_workOut_138 : decode cX6_workOut 138 = .ok (.aload_n 0, 1) := by decide +kernel
theorem dX6_workOut_139 : decode cX6_workOut 139 = .ok (.getfield 56, 3) := by decide +kernel
theorem dX6_workOut_142 : decode cX6_workOut 142 = .ok (.iconst 1, 1) := by decide +kernel
theorem dX6_workOut_143 : decode cX6_workOut 143 = .ok (.iastore, 1) := by decide +kernel
theorem dX6_workOut_144 : decode cX6_workOut 144 = .ok (.aload_n 0, 1) := by decide +kernel
theorem dX6_workOut_145 : decode cX6_workOut 145 = .ok (.dup, 1) := by decide +kernel
theorem dX6_workOut_146 : decode cX6_workOut 146 = .ok (.getfield 56, 3) := by decide +kernel
theorem dX6_workOut_149 : decode cX6_workOut 149 = .ok (.iconst 1, 1) := by decide +kernel
theorem dX6_workOut_150 : decode cX6_workOut 150 = .ok (.iadd, 1) := by decide +kernel
theorem dX6_workOut_151 : decode cX6_workOut 151 = .ok (.putfield 56, 3) := by decide +kernel
theorem dX6_workOut_154 : decode cX6_workOut 154 = .ok (.aload_n 0, 1) := by decide +kernel
theorem dX6_workOut_155 : decode cX6_workOut 155 = .ok (.iconst 3, 1) := by decide +kernel
theorem dX6_workOut_156 : decode cX6_workOut 156 = .ok (.invokevirtual 70, 3) := by decide +kernel
theorem dX6_workOut_159 : decode cX6_workOut 159 = .ok (.iinc 2 1, 3) := by decide +kernel
theorem dX6_workOut_162 : decode cX6_workOut 162 = .ok (.goto (-150), 3) := by decide +kernel
theorem dX6_workOut_165 : decode cX6_workOut 165 = .ok (.aload_n 0, 1) := by decide +kernel
theorem dX6_workOut_166 : decode cX6_workOut 166 = .ok (.iconst 1, 1) := by decide +kernel
theorem dX6_workOut_167 : decode cX6_workOut 167 = .ok (.invokevirtual 70, 3) := by decide +kernel
theorem dX6_workOut_170 : decode cX6_workOut 170 = .ok (.return_, 1) := by decide +kernel
theorem dX6_holdsWith_0 : decode cX6_holdsWith 0 = .ok (.aload_n 0, 1) := by decide +kernel
theorem dX6_holdsWith_1 : decode cX6_holdsWith 1 = .ok (.iload_n 1, 1) := by decide +kernel
theorem dX6_holdsWith_2 : decode cX6_holdsWith 2 = .ok (.invokevirtual 77, 3) := by decide +kernel
theorem dX6_holdsWith_5 : decode cX6_holdsWith 5 = .ok (.aload_n 0, 1) := by decide +kernel
theorem dX6_holdsWith_6 : decode cX6_holdsWith 6 = .ok (.getfield 30, 3) := by decide +kernel
theorem dX6_holdsWith_9 : decode cX6_holdsWith 9 = .ok (.iconst 0, 1) := by decide +kernel
theorem dX6_holdsWith_10 : decode cX6_holdsWith 10 = .ok (.baload, 1) := by decide +kernel
theorem dX6_holdsWith_11 : decode cX6_holdsWith 11 = .ok (.ireturn, 1) := by decide +kernel
theorem dX6_holdsNow_0 : decode cX6_holdsNow 0 = .ok (.aload_n 0, 1) := by decide +kernel
theorem dX6_holdsNow_1 : decode cX6_holdsNow 1 = .ok (.aload_n 0, 1) := by decide +kernel
theorem dX6_holdsNow_2 : decode cX6_holdsNow 2 = .ok (.getfield 7, 3) := by decide +kernel
theorem dX6_holdsNow_5 : decode cX6_holdsNow 5 = .ok (.bipush 11, 2) := by decide +kernel
theorem dX6_holdsNow_7 : decode cX6_holdsNow 7 = .ok (.iaload, 1) := by decide +kernel
theorem dX6_holdsNow_8 : decode cX6_holdsNow 8 = .ok (.invokevirtual 80, 3) := by decide +kernel
theorem dX6_holdsNow_11 : decode cX6_holdsNow 11 = .ok (.ireturn, 1) := by decide +kernel
theorem dX6_isLetter_0 : decode cX6_isLetter 0 = .ok (.iload_n 0, 1) := by decide +kernel
theorem dX6_isLetter_1 : decode cX6_isLetter 1 = .ok (.bipush 97, 2) := by decide +kernel
theorem dX6_isLetter_3 : decode cX6_isLetter 3 = .ok (.if_icmp .lt 9, 3) := by decide +kernel
theorem dX6_isLetter_6 : decode cX6_isLetter 6 = .ok (.iload_n 0, 1) := by decide +kernel
theorem dX6_isLetter_7 : decode cX6_isLetter 7 = .ok (.bipush 100, 2) := by decide +kernel
theorem dX6_isLetter_9 : decode cX6_isLetter 9 = .ok (.if_icmp .le 15, 3) := by decide +kernel
theorem dX6_isLetter_12 : decode cX6_isLetter 12 = .ok (.iload_n 0, 1) := by decide +kernel
theorem dX6_isLetter_13 : decode cX6_isLetter 13 = .ok (.bipush 65, 2) := by decide +kernel
theorem dX6_isLetter_15 : decode cX6_isLetter 15 = .ok (.if_icmp .lt 13, 3) := by decide +kernel
theorem dX6_isLetter_18 : decode cX6_isLetter 18 = .ok (.iload_n 0, 1) := by decide +kernel
theorem dX6_isLetter_19 : decode cX6_isLetter 19 = .ok (.bipush 68, 2) := by decide +kernel
theorem dX6_isLetter_21 : decode cX6_isLetter 21 = .ok (.if_icmp .gt 7, 3) := by decide +kernel
theorem dX6_isLetter_24 : decode cX6_isLetter 24 = .ok (.iconst 1, 1) := by decide +kernel
theorem dX6_isLetter_25 : decode cX6_isLetter 25 = .ok (.goto 4, 3) := by decide +kernel
theorem dX6_isLetter_28 : decode cX6_isLetter 28 = .ok (.iconst 0, 1) := by decide +kernel
theorem dX6_isLetter_29 : decode cX6_isLetter 29 = .ok (.ireturn, 1) := by decide +kernel
theorem dX6_parts_0 : decode cX6_parts 0 = .ok (.iconst 0, 1) := by decide +kernel
theorem dX6_parts_1 : decode cX6_parts 1 = .ok (.istore_n 1, 1) := by decide +kernel
theorem dX6_parts_2 : decode cX6_parts 2 = .ok (.iconst 0, 1) := by decide +kernel
theorem dX6_parts_3 : decode cX6_parts 3 = .ok (.istore_n 2, 1) := by decide +kernel
theorem dX6_parts_4 : decode cX6_parts 4 = .ok (.iload_n 2, 1) := by decide +kernel
theorem dX6_parts_5 : decode cX6_parts 5 = .ok (.aload_n 0, 1) := by decide +kernel
theorem dX6_parts_6 : decode cX6_parts 6 = .ok (.getfield 7, 3) := by decide +kernel
theorem dX6_parts_9 : decode cX6_parts 9 = .ok (.bipush 22, 2) := by decide +kernel
theorem dX6_parts_11 : decode cX6_parts 11 = .ok (.iaload, 1) := by decide +kernel
theorem dX6_parts_12 : decode cX6_parts 12 = .ok (.if_icmp .ge 39, 3) := by decide +kernel
theorem dX6_parts_15 : decode cX6_parts 15 = .ok (.aload_n 0, 1) := by decide +kernel
theorem dX6_parts_16 : decode cX6_parts 16 = .ok (.getfield 7, 3) := by decide +kernel
theorem dX6_parts_19 : decode cX6_parts 19 = .ok (.bipush 23, 2) := by decide +kernel
theorem dX6_parts_21 : decode cX6_parts 21 = .ok (.iload_n 2, 1) := by decide +kernel
theorem dX6_parts_22 : decode cX6_parts 22 = .ok (.iadd, 1) := by decide +kernel
theorem dX6_parts_23 : decode cX6_parts 23 = .ok (.iaload, 1) := by decide +kernel
theorem dX6_parts_24 : decode cX6_parts 24 = .ok (.istore_n 3, 1) := by decide +kernel
theorem dX6_parts_25 : decode cX6_parts 25 = .ok (.iload_n 1, 1) := by decide +kernel
theorem dX6_parts_26 : decode cX6_parts 26 = .ok (.iload_n 3, 1) := by decide +kernel
theorem dX6_parts_27 : decode cX6_parts 27 = .ok (.bipush 40, 2) := by decide +kernel
theorem dX6_parts_29 : decode cX6_parts 29 = .ok (.if_icmp .eq 9, 3) := by decide +kernel
theorem dX6_parts_32 : decode cX6_parts 32 = .ok (.iload_n 3, 1) := by decide +kernel
theorem dX6_parts_33 : decode cX6_parts 33 = .ok (.bipush 41, 2) := by decide +kernel
theorem dX6_parts_35 : decode cX6_parts 35 = .ok (.if_icmp .ne 7, 3) := by decide +kernel
theorem dX6_parts_38 : decode cX6_parts 38 = .ok (.iconst 0, 1) := by decide +kernel
theorem dX6_parts_39 : decode cX6_parts 39 = .ok (.goto 4, 3) := by decide +kernel
theorem dX6_parts_42 : decode cX6_parts 42 = .ok (.iconst 1, 1) := by decide +kernel
theorem dX6_parts_43 : decode cX6_parts 43 = .ok (.iadd, 1) := by decide +kernel
theorem dX6_parts_44 : decode cX6_parts 44 = .ok (.istore_n 1, 1) := by decide +kernel
theorem dX6_parts_45 : decode cX6_parts 45 = .ok (.iinc 2 1, 3) := by decide +kernel
theorem dX6_parts_48 : decode cX6_parts 48 = .ok (.goto (-44), 3) := by decide +kernel
theorem dX6_parts_51 : decode cX6_parts 51 = .ok (.iload_n 1, 1) := by decide +kernel
theorem dX6_parts_52 : decode cX6_parts 52 = .ok (.ireturn, 1) := by decide +kernel
theorem dX6_letters_0 : decode cX6_letters 0 = .ok (.iconst 0, 1) := by decide +kernel
theorem dX6_letters_1 : decode cX6_letters 1 = .ok (.istore_n 1, 1) := by decide +kernel
theorem dX6_letters_2 : decode cX6_letters 2 = .ok (.iconst 0, 1) := by decide +kernel
theorem dX6_letters_3 : decode cX6_letters 3 = .ok (.istore_n 2, 1) := by decide +kernel
theorem dX6_letters_4 : decode cX6_letters 4 = .ok (.iload_n 2, 1) := by decide +kernel
theorem dX6_letters_5 : decode cX6_letters 5 = .ok (.aload_n 0, 1) := by decide +kernel
theorem dX6_letters_6 : decode cX6_letters 6 = .ok (.getfield 7, 3) := by decide +kernel
theorem dX6_letters_9 : decode cX6_letters 9 = .ok (.bipush 22, 2) := by decide +kernel
theorem dX6_letters_11 : decode cX6_letters 11 = .ok (.iaload, 1) := by decide +kernel
theorem dX6_letters_12 : decode cX6_letters 12 = .ok (.if_icmp .ge 55, 3) := by decide +kernel
theorem dX6_letters_15 : decode cX6_letters 15 = .ok (.aload_n 0, 1) := by decide +kernel
theorem dX6_letters_16 : decode cX6_letters 16 = .ok (.getfield 7, 3) := by decide +kernel
theorem dX6_letters_19 : decode cX6_letters 19 = .ok (.bipush 23, 2) := by decide +kernel
theorem dX6_letters_21 : decode cX6_letters 21 = .ok (.iload_n 2, 1) := by decide +kernel
theorem dX6_letters_22 : decode cX6_letters 22 = .ok (.iadd, 1) := by decide +kernel
theorem dX6_letters_23 : decode cX6_letters 23 = .ok (.iaload, 1) := by decide +kernel
theorem dX6_letters_24 : decode cX6_letters 24 = .ok (.istore_n 3, 1) := by decide +kernel
theorem dX6_letters_25 : decode cX6_letters 25 = .ok (.iload_n 1, 1) := by decide +kernel
theorem dX6_letters_26 : decode cX6_letters 26 = .ok (.iload_n 3, 1) := by decide +kernel
theorem dX6_letters_27 : decode cX6_letters 27 = .ok (.invokestatic 84, 3) := by decide +kernel
theorem dX6_letters_30 : decode cX6_letters 30 = .ok (.ifCond .ne 7, 3) := by decide +kernel
theorem dX6_letters_33 : decode cX6_letters 33 = .ok (.iconst 0, 1) := by decide +kernel
theorem dX6_letters_34 : decode cX6_letters 34 = .ok (.goto 25, 3) := by decide +kernel
theorem dX6_letters_37 : decode cX6_letters 37 = .ok (.iload_n 3, 1) := by decide +kernel
theorem dX6_letters_38 : decode cX6_letters 38 = .ok (.bipush 97, 2) := by decide +kernel
theorem dX6_letters_40 : decode cX6_letters 40 = .ok (.if_icmp .lt 12, 3) := by decide +kernel
theorem dX6_letters_43 : decode cX6_letters 43 = .ok (.iconst 1, 1) := by decide +kernel
theorem dX6_letters_44 : decode cX6_letters 44 = .ok (.iload_n 3, 1) := by decide +kernel
theorem dX6_letters_45 : decode cX6_letters 45 = .ok (.bipush 97, 2) := by decide +kernel
theorem dX6_letters_47 : decode cX6_letters 47 = .ok (.isub, 1) := by decide +kernel
theorem dX6_letters_48 : decode cX6_letters 48 = .ok (.ishl, 1) := by decide +kernel
theorem dX6_letters_49 : decode cX6_letters 49 = .ok (.goto 10, 3) := by decide +kernel
theorem dX6_letters_52 : decode cX6_letters 52 = .ok (.bipush 16, 2) := by decide +kernel
theorem dX6_letters_54 : decode cX6_letters 54 = .ok (.iload_n 3, 1) := by decide +kernel
theorem dX6_letters_55 : decode cX6_letters 55 = .ok (.bipush 65, 2) := by decide +kernel
theorem dX6_letters_57 : decode cX6_letters 57 = .ok (.isub, 1) := by decide +kernel
theorem dX6_letters_58 : decode cX6_letters 58 = .ok (.ishl, 1) := by decide +kernel
theorem dX6_letters_59 : decode cX6_letters 59 = .ok (.ior, 1) := by decide +kernel
theorem dX6_letters_60 : decode cX6_letters 60 = .ok (.istore_n 1, 1) := by decide +kernel
theorem dX6_letters_61 : decode cX6_letters 61 = .ok (.iinc 2 1, 3) := by decide +kernel
theorem dX6_letters_64 : decode cX6_letters 64 = .ok (.goto (-60), 3) := by decide +kernel
theorem dX6_letters_67 : decode cX6_letters 67 = .ok (.iload_n 1, 1) := by decide +kernel
theorem dX6_letters_68 : decode cX6_letters 68 = .ok (.ireturn, 1) := by decide +kernel
theorem dX6_rule_0 : decode cX6_rule 0 = .ok (.aload_n 0, 1) := by decide +kernel
theorem dX6_rule_1 : decode cX6_rule 1 = .ok (.aload_n 0, 1) := by decide +kernel
theorem dX6_rule_2 : decode cX6_rule 2 = .ok (.getfield 7, 3) := by decide +kernel
theorem dX6_rule_5 : decode cX6_rule 5 = .ok (.bipush 11, 2) := by decide +kernel
theorem dX6_rule_7 : decode cX6_rule 7 = .ok (.iaload, 1) := by decide +kernel
theorem dX6_rule_8 : decode cX6_rule 8 = .ok (.invokevirtual 77, 3) := by decide +kernel
theorem dX6_rule_11 : decode cX6_rule 11 = .ok (.iload_n 1, 1) := by decide +kernel
theorem dX6_rule_12 : decode cX6_rule 12 = .ok (.tableswitch 75 0 4 #[36, 41, 48, 63, 68], 36) := by decide +kernel
theorem dX6_rule_48 : decode cX6_rule 48 = .ok (.aload_n 0, 1) := by decide +kernel
theorem dX6_rule_49 : decode cX6_rule 49 = .ok (.invokevirtual 87, 3) := by decide +kernel
theorem dX6_rule_52 : decode cX6_rule 52 = .ok (.ireturn, 1) := by decide +kernel
theorem dX6_rule_53 : decode cX6_rule 53 = .ok (.aload_n 0, 1) := by decide +kernel
theorem dX6_rule_54 : decode cX6_rule 54 = .ok (.getfield 33, 3) := by decide +kernel
theorem dX6_rule_57 : decode cX6_rule 57 = .ok (.iconst 0, 1) := by decide +kernel
theorem dX6_rule_58 : decode cX6_rule 58 = .ok (.iaload, 1) := by decide +kernel
theorem dX6_rule_59 : decode cX6_rule 59 = .ok (.ireturn, 1) := by decide +kernel
theorem dX6_rule_60 : decode cX6_rule 60 = .ok (.aload_n 0, 1) := by decide +kernel
theorem dX6_rule_61 : decode cX6_rule 61 = .ok (.getfield 30, 3) := by decide +kernel
theorem dX6_rule_64 : decode cX6_rule 64 = .ok (.iconst 0, 1) := by decide +kernel
theorem dX6_rule_65 : decode cX6_rule 65 = .ok (.baload, 1) := by decide +kernel
theorem dX6_rule_66 : decode cX6_rule 66 = .ok (.ifCond .eq 7, 3) := by decide +kernel
theorem dX6_rule_69 : decode cX6_rule 69 = .ok (.iconst 1, 1) := by decide +kernel
theorem dX6_rule_70 : decode cX6_rule 70 = .ok (.goto 4, 3) := by decide +kernel
theorem dX6_rule_73 : decode cX6_rule 73 = .ok (.iconst 0, 1) := by decide +kernel
theorem dX6_rule_74 : decode cX6_rule 74 = .ok (.ireturn, 1) := by decide +kernel
theorem dX6_rule_75 : decode cX6_rule 75 = .ok (.aload_n 0, 1) := by decide +kernel
theorem dX6_rule_76 : decode cX6_rule 76 = .ok (.invokevirtual 91, 3) := by decide +kernel
theorem dX6_rule_79 : decode cX6_rule 79 = .ok (.ireturn, 1) := by decide +kernel
theorem dX6_rule_80 : decode cX6_rule 80 = .ok (.aload_n 0, 1) := by decide +kernel
theorem dX6_rule_81 : decode cX6_rule 81 = .ok (.getfield 36, 3) := by decide +kernel
theorem dX6_rule_84 : decode cX6_rule 84 = .ok (.iconst 0, 1) := by decide +kernel
theorem dX6_rule_85 : decode cX6_rule 85 = .ok (.iaload, 1) := by decide +kernel
theorem dX6_rule_86 : decode cX6_rule 86 = .ok (.ireturn, 1) := by decide +kernel
theorem dX6_rule_87 : decode cX6_rule 87 = .ok (.bipush (-2), 2) := by decide +kernel
theorem dX6_rule_89 : decode cX6_rule 89 = .ok (.ireturn, 1) := by decide +kernel
theorem dX6_weight_0 : decode cX6_weight 0 = .ok (.aload_n 0, 1) := by decide +kernel
theorem dX6_weight_1 : decode cX6_weight 1 = .ok (.getfield 7, 3) := by decide +kernel
theorem dX6_weight_4 : decode cX6_weight 4 = .ok (.bipush 83, 2) := by decide +kernel
theorem dX6_weight_6 : decode cX6_weight 6 = .ok (.iconst 3, 1) := by decide +kernel
theorem dX6_weight_7 : decode cX6_weight 7 = .ok (.iload_n 1, 1) := by decide +kernel
theorem dX6_weight_8 : decode cX6_weight 8 = .ok (.imul, 1) := by decide +kernel
theorem dX6_weight_9 : decode cX6_weight 9 = .ok (.iadd, 1) := by decide +kernel
theorem dX6_weight_10 : decode cX6_weight 10 = .ok (.iaload, 1) := by decide +kernel
theorem dX6_weight_11 : decode cX6_weight 11 = .ok (.ireturn, 1) := by decide +kernel
theorem dX6_placeOf_0 : decode cX6_placeOf 0 = .ok (.aload_n 0, 1) := by decide +kernel
theorem dX6_placeOf_1 : decode cX6_placeOf 1 = .ok (.getfield 7, 3) := by decide +kernel
theorem dX6_placeOf_4 : decode cX6_placeOf 4 = .ok (.bipush 83, 2) := by decide +kernel
theorem dX6_placeOf_6 : decode cX6_placeOf 6 = .ok (.iconst 3, 1) := by decide +kernel
theorem dX6_placeOf_7 : decode cX6_placeOf 7 = .ok (.iload_n 1, 1) := by decide +kernel
theorem dX6_placeOf_8 : decode cX6_placeOf 8 = .ok (.imul, 1) := by decide +kernel
theorem dX6_placeOf_9 : decode cX6_placeOf 9 = .ok (.iadd, 1) := by decide +kernel
theorem dX6_placeOf_10 : decode cX6_placeOf 10 = .ok (.iconst 1, 1) := by decide +kernel
theorem dX6_placeOf_11 : decode cX6_placeOf 11 = .ok (.iadd, 1) := by decide +kernel
theorem dX6_placeOf_12 : decode cX6_placeOf 12 = .ok (.iaload, 1) := by decide +kernel
theorem dX6_placeOf_13 : decode cX6_placeOf 13 = .ok (.ireturn, 1) := by decide +kernel
theorem dX6_loadNow_0 : decode cX6_loadNow 0 = .ok (.iconst 0, 1) := by decide +kernel
theorem dX6_loadNow_1 : decode cX6_loadNow 1 = .ok (.istore_n 1, 1) := by decide +kernel
theorem dX6_loadNow_2 : decode cX6_loadNow 2 = .ok (.iconst 0, 1) := by decide +kernel
theorem dX6_loadNow_3 : decode cX6_loadNow 3 = .ok (.istore_n 2, 1) := by decide +kernel
theorem dX6_loadNow_4 : decode cX6_loadNow 4 = .ok (.iload_n 2, 1) := by decide +kernel
theorem dX6_loadNow_5 : decode cX6_loadNow 5 = .ok (.aload_n 0, 1) := by decide +kernel
theorem dX6_loadNow_6 : decode cX6_loadNow 6 = .ok (.getfield 7, 3) := by decide +kernel
theorem dX6_loadNow_9 : decode cX6_loadNow 9 = .ok (.bipush 10, 2) := by decide +kernel
theorem dX6_loadNow_11 : decode cX6_loadNow 11 = .ok (.iaload, 1) := by decide +kernel
theorem dX6_loadNow_12 : decode cX6_loadNow 12 = .ok (.if_icmp .ge 17, 3) := by decide +kernel
theorem dX6_loadNow_15 : decode cX6_loadNow 15 = .ok (.iload_n 1, 1) := by decide +kernel
theorem dX6_loadNow_16 : decode cX6_loadNow 16 = .ok (.aload_n 0, 1) := by decide +kernel
theorem dX6_loadNow_17 : decode cX6_loadNow 17 = .ok (.iload_n 2, 1) := by decide +kernel
theorem dX6_loadNow_18 : decode cX6_loadNow 18 = .ok (.invokevirtual 94, 3) := by decide +kernel
theorem dX6_loadNow_21 : decode cX6_loadNow 21 = .ok (.iadd, 1) := by decide +kernel
theorem dX6_loadNow_22 : decode cX6_loadNow 22 = .ok (.istore_n 1, 1) := by decide +kernel
theorem dX6_loadNow_23 : decode cX6_loadNow 23 = .ok (.iinc 2 1, 3) := by decide +kernel
theorem dX6_loadNow_26 : decode cX6_loadNow 26 = .ok (.goto (-22), 3) := by decide +kernel
theorem dX6_loadNow_29 : decode cX6_loadNow 29 = .ok (.iload_n 1, 1) := by decide +kernel
theorem dX6_loadNow_30 : decode cX6_loadNow 30 = .ok (.ireturn, 1) := by decide +kernel
theorem dX6_carry_0 : decode cX6_carry 0 = .ok (.iconst 0, 1) := by decide +kernel
theorem dX6_carry_1 : decode cX6_carry 1 = .ok (.istore_n 1, 1) := by decide +kernel
theorem dX6_carry_2 : decode cX6_carry 2 = .ok (.iconst 0, 1) := by decide +kernel
theorem dX6_carry_3 : decode cX6_carry 3 = .ok (.istore_n 2, 1) := by decide +kernel
theorem dX6_carry_4 : decode cX6_carry 4 = .ok (.iload_n 2, 1) := by decide +kernel
theorem dX6_carry_5 : decode cX6_carry 5 = .ok (.aload_n 0, 1) := by decide +kernel
theorem dX6_carry_6 : decode cX6_carry 6 = .ok (.getfield 7, 3) := by decide +kernel
theorem dX6_carry_9 : decode cX6_carry 9 = .ok (.bipush 10, 2) := by decide +kernel
theorem dX6_carry_11 : decode cX6_carry 11 = .ok (.iaload, 1) := by decide +kernel
theorem dX6_carry_12 : decode cX6_carry 12 = .ok (.if_icmp .ge 118, 3) := by decide +kernel
theorem dX6_carry_15 : decode cX6_carry 15 = .ok (.aload_n 0, 1) := by decide +kernel
theorem dX6_carry_16 : decode cX6_carry 16 = .ok (.iload_n 2, 1) := by decide +kernel
theorem dX6_carry_17 : decode cX6_carry 17 = .ok (.invokevirtual 97, 3) := by decide +kernel
theorem dX6_carry_20 : decode cX6_carry 20 = .ok (.aload_n 0, 1) := by decide +kernel
theorem dX6_carry_21 : decode cX6_carry 21 = .ok (.getfield 7, 3) := by decide +kernel
theorem dX6_carry_24 : decode cX6_carry 24 = .ok (.bipush 8, 2) := by decide +kernel
theorem dX6_carry_26 : decode cX6_carry 26 = .ok (.iaload, 1) := by decide +kernel
theorem dX6_carry_27 : decode cX6_carry 27 = .ok (.iadd, 1) := by decide +kernel
theorem dX6_carry_28 : decode cX6_carry 28 = .ok (.istore_n 3, 1) := by decide +kernel
theorem dX6_carry_29 : decode cX6_carry 29 = .ok (.iload_n 3, 1) := by decide +kernel
theorem dX6_carry_30 : decode cX6_carry 30 = .ok (.sipush 1000, 3) := by decide +kernel
theorem dX6_carry_33 : decode cX6_carry 33 = .ok (.if_icmp .lt 32, 3) := by decide +kernel
theorem dX6_carry_36 : decode cX6_carry 36 = .ok (.aload_n 0, 1) := by decide +kernel
theorem dX6_carry_37 : decode cX6_carry 37 = .ok (.getfield 7, 3) := by decide +kernel
theorem dX6_carry_40 : decode cX6_carry 40 = .ok (.bipush 17, 2) := by decide +kernel
theorem dX6_carry_42 : decode cX6_carry 42 = .ok (.dup2, 1) := by decide +kernel
theorem dX6_carry_43 : decode cX6_carry 43 = .ok (.iaload, 1) := by decide +kernel
theorem dX6_carry_44 : decode cX6_carry 44 = .ok (.iconst 1, 1) := by decide +kernel
theorem dX6_carry_45 : decode cX6_carry 45 = .ok (.iadd, 1) := by decide +kernel
theorem dX6_carry_46 : decode cX6_carry 46 = .ok (.iastore, 1) := by decide +kernel
theorem dX6_carry_47 : decode cX6_carry 47 = .ok (.aload_n 0, 1) := by decide +kernel
theorem dX6_carry_48 : decode cX6_carry 48 = .ok (.getfield 7, 3) := by decide +kernel
theorem dX6_carry_51 : decode cX6_carry 51 = .ok (.bipush 18, 2) := by decide +kernel
theorem dX6_carry_53 : decode cX6_carry 53 = .ok (.dup2, 1) := by decide +kernel
theorem dX6_carry_54 : decode cX6_carry 54 = .ok (.iaload, 1) := by decide +kernel
theorem dX6_carry_55 : decode cX6_carry 55 = .ok (.aload_n 0, 1) := by decide +kernel
theorem dX6_carry_56 : decode cX6_carry 56 = .ok (.iload_n 2, 1) := by decide +kernel
theorem dX6_carry_57 : decode cX6_carry 57 = .ok (.invokevirtual 94, 3) := by decide +kernel
theorem dX6_carry_60 : decode cX6_carry 60 = .ok (.iadd, 1) := by decide +kernel
theorem dX6_carry_61 : decode cX6_carry 61 = .ok (.iastore, 1) := by decide +kernel
theorem dX6_carry_62 : decode cX6_carry 62 = .ok (.goto 62, 3) := by decide +kernel
theorem dX6_carry_65 : decode cX6_carry 65 = .ok (.aload_n 0, 1) := by decide +kernel
theorem dX6_carry_66 : decode cX6_carry 66 = .ok (.getfield 7, 3) := by decide +kernel
theorem dX6_carry_69 : decode cX6_carry 69 = .ok (.bipush 83, 2) := by decide +kernel
theorem dX6_carry_71 : decode cX6_carry 71 = .ok (.iconst 3, 1) := by decide +kernel
theorem dX6_carry_72 : decode cX6_carry 72 = .ok (.iload_n 1, 1) := by decide +kernel
theorem dX6_carry_73 : decode cX6_carry 73 = .ok (.imul, 1) := by decide +kernel
theorem dX6_carry_74 : decode cX6_carry 74 = .ok (.iadd, 1) := by decide +kernel
theorem dX6_carry_75 : decode cX6_carry 75 = .ok (.aload_n 0, 1) := by decide +kernel
theorem dX6_carry_76 : decode cX6_carry 76 = .ok (.iload_n 2, 1) := by decide +kernel
theorem dX6_carry_77 : decode cX6_carry 77 = .ok (.invokevirtual 94, 3) := by decide +kernel
theorem dX6_carry_80 : decode cX6_carry 80 = .ok (.iastore, 1) := by decide +kernel
theorem dX6_carry_81 : decode cX6_carry 81 = .ok (.aload_n 0, 1) := by decide +kernel
theorem dX6_carry_82 : decode cX6_carry 82 = .ok (.getfield 7, 3) := by decide +kernel
theorem dX6_carry_85 : decode cX6_carry 85 = .ok (.bipush 83, 2) := by decide +kernel
theorem dX6_carry_87 : decode cX6_carry 87 = .ok (.iconst 3, 1) := by decide +kernel
theorem dX6_carry_88 : decode cX6_carry 88 = .ok (.iload_n 1, 1) := by decide +kernel
theorem dX6_carry_89 : decode cX6_carry 89 = .ok (.imul, 1) := by decide +kernel
theorem dX6_carry_90 : decode cX6_carry 90 = .ok (.iadd, 1) := by decide +kernel
theorem dX6_carry_91 : decode cX6_carry 91 = .ok (.iconst 2, 1) := by decide +kernel
theorem dX6_carry_92 : decode cX6_carry 92 = .ok (.iadd, 1) := by decide +kernel
theorem dX6_carry_93 : decode cX6_carry 93 = .ok (.aload_n 0, 1) := by decide +kernel
theorem dX6_carry_94 : decode cX6_carry 94 = .ok (.getfield 7, 3) := by decide +kernel
theorem dX6_carry_97 : decode cX6_carry 97 = .ok (.bipush 83, 2) := by decide +kernel
theorem dX6_carry_99 : decode cX6_carry 99 = .ok (.iconst 3, 1) := by decide +kernel
theorem dX6_carry_100 : decode cX6_carry 100 = .ok (.iload_n 2, 1) := by decide +kernel
theorem dX6_carry_101 : decode cX6_carry 101 = .ok (.imul, 1) := by decide +kernel
theorem dX6_carry_102 : decode cX6_carry 102 = .ok (.iadd, 1) := by decide +kernel
theorem dX6_carry_103 : decode cX6_carry 103 = .ok (.iconst 2, 1) := by decide +kernel
theorem dX6_carry_104 : decode cX6_carry 104 = .ok (.iadd, 1) := by decide +kernel
theorem dX6_carry_105 : decode cX6_carry 105 = .ok (.iaload, 1) := by decide +kernel
theorem dX6_carry_106 : decode cX6_carry 106 = .ok (.iastore, 1) := by decide +kernel
theorem dX6_carry_107 : decode cX6_carry 107 = .ok (.aload_n 0, 1) := by decide +kernel
theorem dX6_carry_108 : decode cX6_carry 108 = .ok (.getfield 7, 3) := by decide +kernel
theorem dX6_carry_111 : decode cX6_carry 111 = .ok (.bipush 83, 2) := by decide +kernel
theorem dX6_carry_113 : decode cX6_carry 113 = .ok (.iconst 3, 1) := by decide +kernel
theorem dX6_carry_114 : decode cX6_carry 114 = .ok (.iload_n 1, 1) := by decide +kernel
theorem dX6_carry_115 : decode cX6_carry 115 = .ok (.imul, 1) := by decide +kernel
theorem dX6_carry_116 : decode cX6_carry 116 = .ok (.iadd, 1) := by decide +kernel
theorem dX6_carry_117 : decode cX6_carry 117 = .ok (.iconst 1, 1) := by decide +kernel
theorem dX6_carry_118 : decode cX6_carry 118 = .ok (.iadd, 1) := by decide +kernel
theorem dX6_carry_119 : decode cX6_carry 119 = .ok (.iload_n 3, 1) := by decide +kernel
theorem dX6_carry_120 : decode cX6_carry 120 = .ok (.iastore, 1) := by decide +kernel
theorem dX6_carry_121 : decode cX6_carry 121 = .ok (.iinc 1 1, 3) := by decide +kernel
theorem dX6_carry_124 : decode cX6_carry 124 = .ok (.iinc 2 1, 3) := by decide +kernel
theorem dX6_carry_127 : decode cX6_carry 127 = .ok (.goto (-123), 3) := by decide +kernel
theorem dX6_carry_130 : decode cX6_carry 130 = .ok (.bipush 83, 2) := by decide +kernel
theorem dX6_carry_132 : decode cX6_carry 132 = .ok (.iconst 3, 1) := by decide +kernel
theorem dX6_carry_133 : decode cX6_carry 133 = .ok (.iload_n 1, 1) := by decide +kernel
theorem dX6_carry_134 : decode cX6_carry 134 = .ok (.imul, 1) := by decide +kernel
theorem dX6_carry_135 : decode cX6_carry 135 = .ok (.iadd, 1) := by decide +kernel
theorem dX6_carry_136 : decode cX6_carry 136 = .ok (.istore_n 2, 1) := by decide +kernel
theorem dX6_carry_137 : decode cX6_carry 137 = .ok (.iload_n 2, 1) := by decide +kernel
theorem dX6_carry_138 : decode cX6_carry 138 = .ok (.bipush 83, 2) := by decide +kernel
theorem dX6_carry_140 : decode cX6_carry 140 = .ok (.iconst 3, 1) := by decide +kernel
theorem dX6_carry_141 : decode cX6_carry 141 = .ok (.aload_n 0, 1) := by decide +kernel
theorem dX6_carry_142 : decode cX6_carry 142 = .ok (.getfield 7, 3) := by decide +kernel
theorem dX6_carry_145 : decode cX6_carry 145 = .ok (.bipush 10, 2) := by decide +kernel
theorem dX6_carry_147 : decode cX6_carry 147 = .ok (.iaload, 1) := by decide +kernel
theorem dX6_carry_148 : decode cX6_carry 148 = .ok (.imul, 1) := by decide +kernel
theorem dX6_carry_149 : decode cX6_carry 149 = .ok (.iadd, 1) := by decide +kernel
theorem dX6_carry_150 : decode cX6_carry 150 = .ok (.if_icmp .ge 16, 3) := by decide +kernel
theorem dX6_carry_153 : decode cX6_carry 153 = .ok (.aload_n 0, 1) := by decide +kernel
theorem dX6_carry_154 : decode cX6_carry 154 = .ok (.getfield 7, 3) := by decide +kernel
theorem dX6_carry_157 : decode cX6_carry 157 = .ok (.iload_n 2, 1) := by decide +kernel
theorem dX6_carry_158 : decode cX6_carry 158 = .ok (.iconst 0, 1) := by decide +kernel
theorem dX6_carry_159 : decode cX6_carry 159 = .ok (.iastore, 1) := by decide +kernel
theorem dX6_carry_160 : decode cX6_carry 160 = .ok (.iinc 2 1, 3) := by decide +kernel
theorem dX6_carry_163 : decode cX6_carry 163 = .ok (.goto (-26), 3) := by decide +kernel
theorem dX6_carry_166 : decode cX6_carry 166 = .ok (.aload_n 0, 1) := by decide +kernel
theorem dX6_carry_167 : decode cX6_carry 167 = .ok (.getfield 7, 3) := by decide +kernel
theorem dX6_carry_170 : decode cX6_carry 170 = .ok (.bipush 10, 2) := by decide +kernel
theorem dX6_carry_172 : decode cX6_carry 172 = .ok (.iload_n 1, 1) := by decide +kernel
theorem dX6_carry_173 : decode cX6_carry 173 = .ok (.iastore, 1) := by decide +kernel
theorem dX6_carry_174 : decode cX6_carry 174 = .ok (.return_, 1) := by decide +kernel
theorem dX6_halt_0 : decode cX6_halt 0 = .ok (.bipush 29, 2) := by decide +kernel
theorem dX6_halt_2 : decode cX6_halt 2 = .ok (.istore_n 2, 1) := by decide +kernel
theorem dX6_halt_3 : decode cX6_halt 3 = .ok (.iload_n 2, 1) := by decide +kernel
theorem dX6_halt_4 : decode cX6_halt 4 = .ok (.iconst 5, 1) := by decide +kernel
theorem dX6_halt_5 : decode cX6_halt 5 = .ok (.if_icmp .lt 31, 3) := by decide +kernel
theorem dX6_halt_8 : decode cX6_halt 8 = .ok (.aload_n 0, 1) := by decide +kernel
theorem dX6_halt_9 : decode cX6_halt 9 = .ok (.getfield 7, 3) := by decide +kernel
theorem dX6_halt_12 : decode cX6_halt 12 = .ok (.sipush 143, 3) := by decide +kernel
theorem dX6_halt_15 : decode cX6_halt 15 = .ok (.iload_n 2, 1) := by decide +kernel
theorem dX6_halt_16 : decode cX6_halt 16 = .ok (.iadd, 1) := by decide +kernel
theorem dX6_halt_17 : decode cX6_halt 17 = .ok (.aload_n 0, 1) := by decide +kernel
theorem dX6_halt_18 : decode cX6_halt 18 = .ok (.getfield 7, 3) := by decide +kernel
theorem dX6_halt_21 : decode cX6_halt 21 = .ok (.sipush 143, 3) := by decide +kernel
theorem dX6_halt_24 : decode cX6_halt 24 = .ok (.iload_n 2, 1) := by decide +kernel
theorem dX6_halt_25 : decode cX6_halt 25 = .ok (.iadd, 1) := by decide +kernel
theorem dX6_halt_26 : decode cX6_halt 26 = .ok (.iconst 5, 1) := by decide +kernel
theorem dX6_halt_27 : decode cX6_halt 27 = .ok (.isub, 1) := by decide +kernel
theorem dX6_halt_28 : decode cX6_halt 28 = .ok (.iaload, 1) := by decide +kernel
theorem dX6_halt_29 : decode cX6_halt 29 = .ok (.iastore, 1) := by decide +kernel
theorem dX6_halt_30 : decode cX6_halt 30 = .ok (.iinc 2 (-1), 3) := by decide +kernel
theorem dX6_halt_33 : decode cX6_halt 33 = .ok (.goto (-30), 3) := by decide +kernel
theorem dX6_halt_36 : decode cX6_halt 36 = .ok (.aload_n 0, 1) := by decide +kernel
theorem dX6_halt_37 : decode cX6_halt 37 = .ok (.getfield 7, 3) := by decide +kernel
theorem dX6_halt_40 : decode cX6_halt 40 = .ok (.sipush 143, 3) := by decide +kernel
theorem dX6_halt_43 : decode cX6_halt 43 = .ok (.aload_n 0, 1) := by decide +kernel
theorem dX6_halt_44 : decode cX6_halt 44 = .ok (.getfield 7, 3) := by decide +kernel
theorem dX6_halt_47 : decode cX6_halt 47 = .ok (.bipush 7, 2) := by decide +kernel
theorem dX6_halt_49 : decode cX6_halt 49 = .ok (.iaload, 1) := by decide +kernel
theorem dX6_halt_50 : decode cX6_halt 50 = .ok (.iastore, 1) := by decide +kernel
theorem dX6_halt_51 : decode cX6_halt 51 = .ok (.aload_n 0, 1) := by decide +kernel
theorem dX6_halt_52 : decode cX6_halt 52 = .ok (.getfield 7, 3) := by decide +kernel
theorem dX6_halt_55 : decode cX6_halt 55 = .ok (.sipush 144, 3) := by decide +kernel
theorem dX6_halt_58 : decode cX6_halt 58 = .ok (.aload_n 0, 1) := by decide +kernel
theorem dX6_halt_59 : decode cX6_halt 59 = .ok (.getfield 7, 3) := by decide +kernel
theorem dX6_halt_62 : decode cX6_halt 62 = .ok (.bipush 8, 2) := by decide +kernel
theorem dX6_halt_64 : decode cX6_halt 64 = .ok (.iaload, 1) := by decide +kernel
theorem dX6_halt_65 : decode cX6_halt 65 = .ok (.iastore, 1) := by decide +kernel
theorem dX6_halt_66 : decode cX6_halt 66 = .ok (.aload_n 0, 1) := by decide +kernel
theorem dX6_halt_67 : decode cX6_halt 67 = .ok (.getfield 7, 3) := by decide +kernel
theorem dX6_halt_70 : decode cX6_halt 70 = .ok (.sipush 145, 3) := by decide +kernel
theorem dX6_halt_73 : decode cX6_halt 73 = .ok (.aload_n 0, 1) := by decide +kernel
theorem dX6_halt_74 : decode cX6_halt 74 = .ok (.invokevirtual 100, 3) := by decide +kernel
theorem dX6_halt_77 : decode cX6_halt 77 = .ok (.iastore, 1) := by decide +kernel
theorem dX6_halt_78 : decode cX6_halt 78 = .ok (.aload_n 0, 1) := by decide +kernel
theorem dX6_halt_79 : decode cX6_halt 79 = .ok (.getfield 7, 3) := by decide +kernel
theorem dX6_halt_82 : decode cX6_halt 82 = .ok (.sipush 146, 3) := by decide +kernel
theorem dX6_halt_85 : decode cX6_halt 85 = .ok (.aload_n 0, 1) := by decide +kernel
theorem dX6_halt_86 : decode cX6_halt 86 = .ok (.getfield 7, 3) := by decide +kernel
theorem dX6_halt_89 : decode cX6_halt 89 = .ok (.bipush 11, 2) := by decide +kernel
theorem dX6_halt_91 : decode cX6_halt 91 = .ok (.iaload, 1) := by decide +kernel
theorem dX6_halt_92 : decode cX6_halt 92 = .ok (.iastore, 1) := by decide +kernel
theorem dX6_halt_93 : decode cX6_halt 93 = .ok (.aload_n 0, 1) := by decide +kernel
theorem dX6_halt_94 : decode cX6_halt 94 = .ok (.getfield 7, 3) := by decide +kernel
theorem dX6_halt_97 : decode cX6_halt 97 = .ok (.sipush 147, 3) := by decide +kernel
theorem dX6_halt_100 : decode cX6_halt 100 = .ok (.iload_n 1, 1) := by decide +kernel
theorem dX6_halt_101 : decode cX6_halt 101 = .ok (.iastore, 1) := by decide +kernel
theorem dX6_halt_102 : decode cX6_halt 102 = .ok (.aload_n 0, 1) := by decide +kernel
theorem dX6_halt_103 : decode cX6_halt 103 = .ok (.getfield 7, 3) := by decide +kernel
theorem dX6_halt_106 : decode cX6_halt 106 = .ok (.bipush 19, 2) := by decide +kernel
theorem dX6_halt_108 : decode cX6_halt 108 = .ok (.dup2, 1) := by decide +kernel
theorem dX6_halt_109 : decode cX6_halt 109 = .ok (.iaload, 1) := by decide +kernel
theorem dX6_halt_110 : decode cX6_halt 110 = .ok (.iconst 1, 1) := by decide +kernel
theorem dX6_halt_111 : decode cX6_halt 111 = .ok (.iadd, 1) := by decide +kernel
theorem dX6_halt_112 : decode cX6_halt 112 = .ok (.iastore, 1) := by decide +kernel
theorem dX6_halt_113 : decode cX6_halt 113 = .ok (.aload_n 0, 1) := by decide +kernel
theorem dX6_halt_114 : decode cX6_halt 114 = .ok (.getfield 7, 3) := by decide +kernel
theorem dX6_halt_117 : decode cX6_halt 117 = .ok (.bipush 9, 2) := by decide +kernel
theorem dX6_halt_119 : decode cX6_halt 119 = .ok (.iconst 1, 1) := by decide +kernel
theorem dX6_halt_120 : decode cX6_halt 120 = .ok (.iastore, 1) := by decide +kernel
theorem dX6_halt_121 : decode cX6_halt 121 = .ok (.return_, 1) := by decide +kernel
theorem dX6_disagrees_0 : decode cX6_disagrees 0 = .ok (.aload_n 0, 1) := by decide +kernel
theorem dX6_disagrees_1 : decode cX6_disagrees 1 = .ok (.getfield 7, 3) := by decide +kernel
theorem dX6_disagrees_4 : decode cX6_disagrees 4 = .ok (.bipush 11, 2) := by decide +kernel
theorem dX6_disagrees_6 : decode cX6_disagrees 6 = .ok (.iaload, 1) := by decide +kernel
theorem dX6_disagrees_7 : decode cX6_disagrees 7 = .ok (.iconst 2, 1) := by decide +kernel
theorem dX6_disagrees_8 : decode cX6_disagrees 8 = .ok (.iload_n 1, 1) := by decide +kernel
theorem dX6_disagrees_9 : decode cX6_disagrees 9 = .ok (.imul, 1) := by decide +kernel
theorem dX6_disagrees_10 : decode cX6_disagrees 10 = .ok (.ishr, 1) := by decide +kernel
theorem dX6_disagrees_11 : decode cX6_disagrees 11 = .ok (.iconst 3, 1) := by decide +kernel
theorem dX6_disagrees_12 : decode cX6_disagrees 12 = .ok (.iand, 1) := by decide +kernel
theorem dX6_disagrees_13 : decode cX6_disagrees 13 = .ok (.istore_n 2, 1) := by decide +kernel
theorem dX6_disagrees_14 : decode cX6_disagrees 14 = .ok (.iload_n 2, 1) := by decide +kernel
theorem dX6_disagrees_15 : decode cX6_disagrees 15 = .ok (.iconst 1, 1) := by decide +kernel
theorem dX6_disagrees_16 : decode cX6_disagrees 16 = .ok (.if_icmp .eq 8, 3) := by decide +kernel
theorem dX6_disagrees_19 : decode cX6_disagrees 19 = .ok (.iload_n 2, 1) := by decide +kernel
theorem dX6_disagrees_20 : decode cX6_disagrees 20 = .ok (.iconst 2, 1) := by decide +kernel
theorem dX6_disagrees_21 : decode cX6_disagrees 21 = .ok (.if_icmp .ne 7, 3) := by decide +kernel
theorem dX6_disagrees_24 : decode cX6_disagrees 24 = .ok (.iconst 1, 1) := by decide +kernel
theorem dX6_disagrees_25 : decode cX6_disagrees 25 = .ok (.goto 4, 3) := by decide +kernel
theorem dX6_disagrees_28 : decode cX6_disagrees 28 = .ok (.iconst 0, 1) := by decide +kernel
theorem dX6_disagrees_29 : decode cX6_disagrees 29 = .ok (.ireturn, 1) := by decide +kernel
theorem dX6_isSlow_0 : decode cX6_isSlow 0 = .ok (.aload_n 0, 1) := by decide +kernel
theorem dX6_isSlow_1 : decode cX6_isSlow 1 = .ok (.getfield 7, 3) := by decide +kernel
theorem dX6_isSlow_4 : decode cX6_isSlow 4 = .ok (.bipush 10, 2) := by decide +kernel
theorem dX6_isSlow_6 : decode cX6_isSlow 6 = .ok (.iaload, 1) := by decide +kernel
theorem dX6_isSlow_7 : decode cX6_isSlow 7 = .ok (.ifCond .ne 25, 3) := by decide +kernel
theorem dX6_isSlow_10 : decode cX6_isSlow 10 = .ok (.aload_n 0, 1) := by decide +kernel
theorem dX6_isSlow_11 : decode cX6_isSlow 11 = .ok (.getfield 7, 3) := by decide +kernel
theorem dX6_isSlow_14 : decode cX6_isSlow 14 = .ok (.bipush 16, 2) := by decide +kernel
theorem dX6_isSlow_16 : decode cX6_isSlow 16 = .ok (.iaload, 1) := by decide +kernel
theorem dX6_isSlow_17 : decode cX6_isSlow 17 = .ok (.iconst 1, 1) := by decide +kernel
theorem dX6_isSlow_18 : decode cX6_isSlow 18 = .ok (.iadd, 1) := by decide +kernel
theorem dX6_isSlow_19 : decode cX6_isSlow 19 = .ok (.aload_n 0, 1) := by decide +kernel
theorem dX6_isSlow_20 : decode cX6_isSlow 20 = .ok (.getfield 7, 3) := by decide +kernel
theorem dX6_isSlow_23 : decode cX6_isSlow 23 = .ok (.iconst 3, 1) := by decide +kernel
theorem dX6_isSlow_24 : decode cX6_isSlow 24 = .ok (.iaload, 1) := by decide +kernel
theorem dX6_isSlow_25 : decode cX6_isSlow 25 = .ok (.if_icmp .le 7, 3) := by decide +kernel
theorem dX6_isSlow_28 : decode cX6_isSlow 28 = .ok (.iconst 1, 1) := by decide +kernel
theorem dX6_isSlow_29 : decode cX6_isSlow 29 = .ok (.goto 4, 3) := by decide +kernel
theorem dX6_isSlow_32 : decode cX6_isSlow 32 = .ok (.iconst 0, 1) := by decide +kernel
theorem dX6_isSlow_33 : decode cX6_isSlow 33 = .ok (.istore_n 1, 1) := by decide +kernel
theorem dX6_isSlow_34 : decode cX6_isSlow 34 = .ok (.iconst 0, 1) := by decide +kernel
theorem dX6_isSlow_35 : decode cX6_isSlow 35 = .ok (.istore_n 2, 1) := by decide +kernel
theorem dX6_isSlow_36 : decode cX6_isSlow 36 = .ok (.iload_n 2, 1) := by decide +kernel
theorem dX6_isSlow_37 : decode cX6_isSlow 37 = .ok (.iconst 4, 1) := by decide +kernel
theorem dX6_isSlow_38 : decode cX6_isSlow 38 = .ok (.if_icmp .ge 37, 3) := by decide +kernel
theorem dX6_isSlow_41 : decode cX6_isSlow 41 = .ok (.iload_n 1, 1) := by decide +kernel
theorem dX6_isSlow_42 : decode cX6_isSlow 42 = .ok (.ifCond .ne 21, 3) := by decide +kernel
theorem dX6_isSlow_45 : decode cX6_isSlow 45 = .ok (.aload_n 0, 1) := by decide +kernel
theorem dX6_isSlow_46 : decode cX6_isSlow 46 = .ok (.getfield 7, 3) := by decide +kernel
theorem dX6_isSlow_49 : decode cX6_isSlow 49 = .ok (.bipush 12, 2) := by decide +kernel
theorem dX6_isSlow_51 : decode cX6_isSlow 51 = .ok (.iload_n 2, 1) := by decide +kernel
theorem dX6_isSlow_52 : decode cX6_isSlow 52 = .ok (.iadd, 1) := by decide +kernel
theorem dX6_isSlow_53 : decode cX6_isSlow 53 = .ok (.iaload, 1) := by decide +kernel
theorem dX6_isSlow_54 : decode cX6_isSlow 54 = .ok (.aload_n 0, 1) := by decide +kernel
theorem dX6_isSlow_55 : decode cX6_isSlow 55 = .ok (.getfield 7, 3) := by decide +kernel
theorem dX6_isSlow_58 : decode cX6_isSlow 58 = .ok (.iconst 4, 1) := by decide +kernel
theorem dX6_isSlow_59 : decode cX6_isSlow 59 = .ok (.iaload, 1) := by decide +kernel
theorem dX6_isSlow_60 : decode cX6_isSlow 60 = .ok (.if_icmp .le 7, 3) := by decide +kernel
theorem dX6_isSlow_63 : decode cX6_isSlow 63 = .ok (.iconst 1, 1) := by decide +kernel
theorem dX6_isSlow_64 : decode cX6_isSlow 64 = .ok (.goto 4, 3) := by decide +kernel
theorem dX6_isSlow_67 : decode cX6_isSlow 67 = .ok (.iconst 0, 1) := by decide +kernel
theorem dX6_isSlow_68 : decode cX6_isSlow 68 = .ok (.istore_n 1, 1) := by decide +kernel
theorem dX6_isSlow_69 : decode cX6_isSlow 69 = .ok (.iinc 2 1, 3) := by decide +kernel
theorem dX6_isSlow_72 : decode cX6_isSlow 72 = .ok (.goto (-36), 3) := by decide +kernel
theorem dX6_isSlow_75 : decode cX6_isSlow 75 = .ok (.iload_n 1, 1) := by decide +kernel
theorem dX6_isSlow_76 : decode cX6_isSlow 76 = .ok (.ireturn, 1) := by decide +kernel
theorem dX6_wanted_0 : decode cX6_wanted 0 = .ok (.aload_n 0, 1) := by decide +kernel
theorem dX6_wanted_1 : decode cX6_wanted 1 = .ok (.getfield 7, 3) := by decide +kernel
theorem dX6_wanted_4 : decode cX6_wanted 4 = .ok (.bipush 9, 2) := by decide +kernel
theorem dX6_wanted_6 : decode cX6_wanted 6 = .ok (.iaload, 1) := by decide +kernel
theorem dX6_wanted_7 : decode cX6_wanted 7 = .ok (.ifCond .eq 5, 3) := by decide +kernel
theorem dX6_wanted_10 : decode cX6_wanted 10 = .ok (.iconst 0, 1) := by decide +kernel
theorem dX6_wanted_11 : decode cX6_wanted 11 = .ok (.ireturn, 1) := by decide +kernel
theorem dX6_wanted_12 : decode cX6_wanted 12 = .ok (.aload_n 0, 1) := by decide +kernel
theorem dX6_wanted_13 : decode cX6_wanted 13 = .ok (.getfield 7, 3) := by decide +kernel
theorem dX6_wanted_16 : decode cX6_wanted 16 = .ok (.iconst 0, 1) := by decide +kernel
theorem dX6_wanted_17 : decode cX6_wanted 17 = .ok (.iaload, 1) := by decide +kernel
theorem dX6_wanted_18 : decode cX6_wanted 18 = .ok (.aload_n 0, 1) := by decide +kernel
theorem dX6_wanted_19 : decode cX6_wanted 19 = .ok (.invokevirtual 100, 3) := by decide +kernel
theorem dX6_wanted_22 : decode cX6_wanted 22 = .ok (.aload_n 0, 1) := by decide +kernel
theorem dX6_wanted_23 : decode cX6_wanted 23 = .ok (.getfield 7, 3) := by decide +kernel
theorem dX6_wanted_26 : decode cX6_wanted 26 = .ok (.iconst 5, 1) := by decide +kernel
theorem dX6_wanted_27 : decode cX6_wanted 27 = .ok (.iaload, 1) := by decide +kernel
theorem dX6_wanted_28 : decode cX6_wanted 28 = .ok (.idiv, 1) := by decide +kernel
theorem dX6_wanted_29 : decode cX6_wanted 29 = .ok (.isub, 1) := by decide +kernel
theorem dX6_wanted_30 : decode cX6_wanted 30 = .ok (.istore_n 1, 1) := by decide +kernel
theorem dX6_wanted_31 : decode cX6_wanted 31 = .ok (.aload_n 0, 1) := by decide +kernel
theorem dX6_wanted_32 : decode cX6_wanted 32 = .ok (.invokevirtual 103, 3) := by decide +kernel
theorem dX6_wanted_35 : decode cX6_wanted 35 = .ok (.ifCond .ne 13, 3) := by decide +kernel
theorem dX6_wanted_38 : decode cX6_wanted 38 = .ok (.iload_n 1, 1) := by decide +kernel
theorem dX6_wanted_39 : decode cX6_wanted 39 = .ok (.aload_n 0, 1) := by decide +kernel
theorem dX6_wanted_40 : decode cX6_wanted 40 = .ok (.getfield 7, 3) := by decide +kernel
theorem dX6_wanted_43 : decode cX6_wanted 43 = .ok (.iconst 1, 1) := by decide +kernel
theorem dX6_wanted_44 : decode cX6_wanted 44 = .ok (.iaload, 1) := by decide +kernel
theorem dX6_wanted_45 : decode cX6_wanted 45 = .ok (.if_icmp .ge 12, 3) := by decide +kernel
theorem dX6_wanted_48 : decode cX6_wanted 48 = .ok (.aload_n 0, 1) := by decide +kernel
theorem dX6_wanted_49 : decode cX6_wanted 49 = .ok (.getfield 7, 3) := by decide +kernel
theorem dX6_wanted_52 : decode cX6_wanted 52 = .ok (.iconst 1, 1) := by decide +kernel
theorem dX6_wanted_53 : decode cX6_wanted 53 = .ok (.iaload, 1) := by decide +kernel
theorem dX6_wanted_54 : decode cX6_wanted 54 = .ok (.goto 4, 3) := by decide +kernel
theorem dX6_wanted_57 : decode cX6_wanted 57 = .ok (.iload_n 1, 1) := by decide +kernel
theorem dX6_wanted_58 : decode cX6_wanted 58 = .ok (.ireturn, 1) := by decide +kernel
theorem dX6_goTick_0 : decode cX6_goTick 0 = .ok (.aload_n 0, 1) := by decide +kernel
theorem dX6_goTick_1 : decode cX6_goTick 1 = .ok (.getfield 7, 3) := by decide +kernel
theorem dX6_goTick_4 : decode cX6_goTick 4 = .ok (.bipush 9, 2) := by decide +kernel
theorem dX6_goTick_6 : decode cX6_goTick 6 = .ok (.iaload, 1) := by decide +kernel
theorem dX6_goTick_7 : decode cX6_goTick 7 = .ok (.ifCond .ne 15, 3) := by decide +kernel
theorem dX6_goTick_10 : decode cX6_goTick 10 = .ok (.aload_n 0, 1) := by decide +kernel
theorem dX6_goTick_11 : decode cX6_goTick 11 = .ok (.invokevirtual 107, 3) := by decide +kernel
theorem dX6_goTick_14 : decode cX6_goTick 14 = .ok (.ifCond .eq 8, 3) := by decide +kernel
theorem dX6_goTick_17 : decode cX6_goTick 17 = .ok (.aload_n 0, 1) := by decide +kernel
theorem dX6_goTick_18 : decode cX6_goTick 18 = .ok (.iconst 0, 1) := by decide +kernel
theorem dX6_goTick_19 : decode cX6_goTick 19 = .ok (.invokevirtual 110, 3) := by decide +kernel
theorem dX6_goTick_22 : decode cX6_goTick 22 = .ok (.iconst 0, 1) := by decide +kernel
theorem dX6_goTick_23 : decode cX6_goTick 23 = .ok (.istore_n 1, 1) := by decide +kernel
theorem dX6_goTick_24 : decode cX6_goTick 24 = .ok (.iload_n 1, 1) := by decide +kernel
theorem dX6_goTick_25 : decode cX6_goTick 25 = .ok (.iconst 4, 1) := by decide +kernel
theorem dX6_goTick_26 : decode cX6_goTick 26 = .ok (.if_icmp .ge 41, 3) := by decide +kernel
theorem dX6_goTick_29 : decode cX6_goTick 29 = .ok (.aload_n 0, 1) := by decide +kernel
theorem dX6_goTick_30 : decode cX6_goTick 30 = .ok (.getfield 7, 3) := by decide +kernel
theorem dX6_goTick_33 : decode cX6_goTick 33 = .ok (.bipush 12, 2) := by decide +kernel
theorem dX6_goTick_35 : decode cX6_goTick 35 = .ok (.iload_n 1, 1) := by decide +kernel
theorem dX6_goTick_36 : decode cX6_goTick 36 = .ok (.iadd, 1) := by decide +kernel
theorem dX6_goTick_37 : decode cX6_goTick 37 = .ok (.aload_n 0, 1) := by decide +kernel
theorem dX6_goTick_38 : decode cX6_goTick 38 = .ok (.iload_n 1, 1) := by decide +kernel
theorem dX6_goTick_39 : decode cX6_goTick 39 = .ok (.invokevirtual 113, 3) := by decide +kernel
theorem dX6_goTick_42 : decode cX6_goTick 42 = .ok (.ifCond .eq 17, 3) := by decide +kernel
theorem dX6_goTick_45 : decode cX6_goTick 45 = .ok (.aload_n 0, 1) := by decide +kernel
theorem dX6_goTick_46 : decode cX6_goTick 46 = .ok (.getfield 7, 3) := by decide +kernel
theorem dX6_goTick_49 : decode cX6_goTick 49 = .ok (.bipush 12, 2) := by decide +kernel
theorem dX6_goTick_51 : decode cX6_goTick 51 = .ok (.iload_n 1, 1) := by decide +kernel
theorem dX6_goTick_52 : decode cX6_goTick 52 = .ok (.iadd, 1) := by decide +kernel
theorem dX6_goTick_53 : decode cX6_goTick 53 = .ok (.iaload, 1) := by decide +kernel
theorem dX6_goTick_54 : decode cX6_goTick 54 = .ok (.iconst 1, 1) := by decide +kernel
theorem dX6_goTick_55 : decode cX6_goTick 55 = .ok (.iadd, 1) := by decide +kernel
theorem dX6_goTick_56 : decode cX6_goTick 56 = .ok (.goto 4, 3) := by decide +kernel
theorem dX6_goTick_59 : decode cX6_goTick 59 = .ok (.iconst 0, 1) := by decide +kernel
theorem dX6_goTick_60 : decode cX6_goTick 60 = .ok (.iastore, 1) := by decide +kernel
theorem dX6_goTick_61 : decode cX6_goTick 61 = .ok (.iinc 1 1, 3) := by decide +kernel
theorem dX6_goTick_64 : decode cX6_goTick 64 = .ok (.goto (-40), 3) := by decide +kernel
theorem dX6_goTick_67 : decode cX6_goTick 67 = .ok (.aload_n 0, 1) := by decide +kernel
theorem dX6_goTick_68 : decode cX6_goTick 68 = .ok (.invokevirtual 100, 3) := by decide +kernel
theorem dX6_goTick_71 : decode cX6_goTick 71 = .ok (.aload_n 0, 1) := by decide +kernel
theorem dX6_goTick_72 : decode cX6_goTick 72 = .ok (.getfield 7, 3) := by decide +kernel
theorem dX6_goTick_75 : decode cX6_goTick 75 = .ok (.bipush 6, 2) := by decide +kernel
theorem dX6_goTick_77 : decode cX6_goTick 77 = .ok (.iaload, 1) := by decide +kernel
theorem dX6_goTick_78 : decode cX6_goTick 78 = .ok (.if_icmp .le 16, 3) := by decide +kernel
theorem dX6_goTick_81 : decode cX6_goTick 81 = .ok (.aload_n 0, 1) := by decide +kernel
theorem dX6_goTick_82 : decode cX6_goTick 82 = .ok (.getfield 7, 3) := by decide +kernel
theorem dX6_goTick_85 : decode cX6_goTick 85 = .ok (.iconst 2, 1) := by decide +kernel
theorem dX6_goTick_86 : decode cX6_goTick 86 = .ok (.iaload, 1) := by decide +kernel
theorem dX6_goTick_87 : decode cX6_goTick 87 = .ok (.iconst 1, 1) := by decide +kernel
theorem dX6_goTick_88 : decode cX6_goTick 88 = .ok (.iadd, 1) := by decide +kernel
theorem dX6_goTick_89 : decode cX6_goTick 89 = .ok (.iconst 2, 1) := by decide +kernel
theorem dX6_goTick_90 : decode cX6_goTick 90 = .ok (.idiv, 1) := by decide +kernel
theorem dX6_goTick_91 : decode cX6_goTick 91 = .ok (.goto 9, 3) := by decide +kernel
theorem dX6_goTick_94 : decode cX6_goTick 94 = .ok (.aload_n 0, 1) := by decide +kernel
theorem dX6_goTick_95 : decode cX6_goTick 95 = .ok (.getfield 7, 3) := by decide +kernel
theorem dX6_goTick_98 : decode cX6_goTick 98 = .ok (.iconst 2, 1) := by decide +kernel
theorem dX6_goTick_99 : decode cX6_goTick 99 = .ok (.iaload, 1) := by decide +kernel
theorem dX6_goTick_100 : decode cX6_goTick 100 = .ok (.istore_n 1, 1) := by decide +kernel
theorem dX6_goTick_101 : decode cX6_goTick 101 = .ok (.aload_n 0, 1) := by decide +kernel
theorem dX6_goTick_102 : decode cX6_goTick 102 = .ok (.invokevirtual 116, 3) := by decide +kernel
theorem dX6_goTick_105 : decode cX6_goTick 105 = .ok (.aload_n 0, 1) := by decide +kernel
theorem dX6_goTick_106 : decode cX6_goTick 106 = .ok (.getfield 7, 3) := by decide +kernel
theorem dX6_goTick_109 : decode cX6_goTick 109 = .ok (.bipush 8, 2) := by decide +kernel
theorem dX6_goTick_111 : decode cX6_goTick 111 = .ok (.iaload, 1) := by decide +kernel
theorem dX6_goTick_112 : decode cX6_goTick 112 = .ok (.isub, 1) := by decide +kernel
theorem dX6_goTick_113 : decode cX6_goTick 113 = .ok (.istore_n 2, 1) := by decide +kernel
theorem dX6_goTick_114 : decode cX6_goTick 114 = .ok (.iload_n 2, 1) := by decide +kernel
theorem dX6_goTick_115 : decode cX6_goTick 115 = .ok (.iload_n 1, 1) := by decide +kernel
theorem dX6_goTick_116 : decode cX6_goTick 116 = .ok (.if_icmp .le 7, 3) := by decide +kernel
theorem dX6_goTick_119 : decode cX6_goTick 119 = .ok (.iload_n 1, 1) := by decide +kernel
theorem dX6_goTick_120 : decode cX6_goTick 120 = .ok (.goto 15, 3) := by decide +kernel
theorem dX6_goTick_123 : decode cX6_goTick 123 = .ok (.iload_n 2, 1) := by decide +kernel
theorem dX6_goTick_124 : decode cX6_goTick 124 = .ok (.iload_n 1, 1) := by decide +kernel
theorem dX6_goTick_125 : decode cX6_goTick 125 = .ok (.ineg, 1) := by decide +kernel
theorem dX6_goTick_126 : decode cX6_goTick 126 = .ok (.if_icmp .ge 8, 3) := by decide +kernel
theorem dX6_goTick_129 : decode cX6_goTick 129 = .ok (.iload_n 1, 1) := by decide +kernel
theorem dX6_goTick_130 : decode cX6_goTick 130 = .ok (.ineg, 1) := by decide +kernel
theorem dX6_goTick_131 : decode cX6_goTick 131 = .ok (.goto 4, 3) := by decide +kernel
theorem dX6_goTick_134 : decode cX6_goTick 134 = .ok (.iload_n 2, 1) := by decide +kernel
theorem dX6_goTick_135 : decode cX6_goTick 135 = .ok (.istore_n 2, 1) := by decide +kernel
theorem dX6_goTick_136 : decode cX6_goTick 136 = .ok (.aload_n 0, 1) := by decide +kernel
theorem dX6_goTick_137 : decode cX6_goTick 137 = .ok (.getfield 7, 3) := by decide +kernel
theorem dX6_goTick_140 : decode cX6_goTick 140 = .ok (.bipush 8, 2) := by decide +kernel
theorem dX6_goTick_142 : decode cX6_goTick 142 = .ok (.dup2, 1) := by decide +kernel
theorem dX6_goTick_143 : decode cX6_goTick 143 = .ok (.iaload, 1) := by decide +kernel
theorem dX6_goTick_144 : decode cX6_goTick 144 = .ok (.iload_n 2, 1) := by decide +kernel
theorem dX6_goTick_145 : decode cX6_goTick 145 = .ok (.iadd, 1) := by decide +kernel
theorem dX6_goTick_146 : decode cX6_goTick 146 = .ok (.iastore, 1) := by decide +kernel
theorem dX6_goTick_147 : decode cX6_goTick 147 = .ok (.iload_n 2, 1) := by decide +kernel
theorem dX6_goTick_148 : decode cX6_goTick 148 = .ok (.ifCond .ge 8, 3) := by decide +kernel
theorem dX6_goTick_151 : decode cX6_goTick 151 = .ok (.iload_n 2, 1) := by decide +kernel
theorem dX6_goTick_152 : decode cX6_goTick 152 = .ok (.ineg, 1) := by decide +kernel
theorem dX6_goTick_153 : decode cX6_goTick 153 = .ok (.goto 4, 3) := by decide +kernel
theorem dX6_goTick_156 : decode cX6_goTick 156 = .ok (.iload_n 2, 1) := by decide +kernel
theorem dX6_goTick_157 : decode cX6_goTick 157 = .ok (.istore_n 3, 1) := by decide +kernel
theorem dX6_goTick_158 : decode cX6_goTick 158 = .ok (.aload_n 0, 1) := by decide +kernel
theorem dX6_goTick_159 : decode cX6_goTick 159 = .ok (.getfield 7, 3) := by decide +kernel
theorem dX6_goTick_162 : decode cX6_goTick 162 = .ok (.bipush 21, 2) := by decide +kernel
theorem dX6_goTick_164 : decode cX6_goTick 164 = .ok (.iload_n 3, 1) := by decide +kernel
theorem dX6_goTick_165 : decode cX6_goTick 165 = .ok (.aload_n 0, 1) := by decide +kernel
theorem dX6_goTick_166 : decode cX6_goTick 166 = .ok (.getfield 7, 3) := by decide +kernel
theorem dX6_goTick_169 : decode cX6_goTick 169 = .ok (.bipush 21, 2) := by decide +kernel
theorem dX6_goTick_171 : decode cX6_goTick 171 = .ok (.iaload, 1) := by decide +kernel
theorem dX6_goTick_172 : decode cX6_goTick 172 = .ok (.if_icmp .le 7, 3) := by decide +kernel
theorem dX6_goTick_175 : decode cX6_goTick 175 = .ok (.iload_n 3, 1) := by decide +kernel
theorem dX6_goTick_176 : decode cX6_goTick 176 = .ok (.goto 10, 3) := by decide +kernel
theorem dX6_goTick_179 : decode cX6_goTick 179 = .ok (.aload_n 0, 1) := by decide +kernel
theorem dX6_goTick_180 : decode cX6_goTick 180 = .ok (.getfield 7, 3) := by decide +kernel
theorem dX6_goTick_183 : decode cX6_goTick 183 = .ok (.bipush 21, 2) := by decide +kernel
theorem dX6_goTick_185 : decode cX6_goTick 185 = .ok (.iaload, 1) := by decide +kernel
theorem dX6_goTick_186 : decode cX6_goTick 186 = .ok (.iastore, 1) := by decide +kernel
theorem dX6_goTick_187 : decode cX6_goTick 187 = .ok (.aload_n 0, 1) := by decide +kernel
theorem dX6_goTick_188 : decode cX6_goTick 188 = .ok (.invokevirtual 119, 3) := by decide +kernel
theorem dX6_goTick_191 : decode cX6_goTick 191 = .ok (.aload_n 0, 1) := by decide +kernel
theorem dX6_goTick_192 : decode cX6_goTick 192 = .ok (.getfield 7, 3) := by decide +kernel
theorem dX6_goTick_195 : decode cX6_goTick 195 = .ok (.bipush 20, 2) := by decide +kernel
theorem dX6_goTick_197 : decode cX6_goTick 197 = .ok (.dup2, 1) := by decide +kernel
theorem dX6_goTick_198 : decode cX6_goTick 198 = .ok (.iaload, 1) := by decide +kernel
theorem dX6_goTick_199 : decode cX6_goTick 199 = .ok (.aload_n 0, 1) := by decide +kernel
theorem dX6_goTick_200 : decode cX6_goTick 200 = .ok (.getfield 7, 3) := by decide +kernel
theorem dX6_goTick_203 : decode cX6_goTick 203 = .ok (.bipush 8, 2) := by decide +kernel
theorem dX6_goTick_205 : decode cX6_goTick 205 = .ok (.iaload, 1) := by decide +kernel
theorem dX6_goTick_206 : decode cX6_goTick 206 = .ok (.iadd, 1) := by decide +kernel
theorem dX6_goTick_207 : decode cX6_goTick 207 = .ok (.iastore, 1) := by decide +kernel
theorem dX6_goTick_208 : decode cX6_goTick 208 = .ok (.aload_n 0, 1) := by decide +kernel
theorem dX6_goTick_209 : decode cX6_goTick 209 = .ok (.getfield 7, 3) := by decide +kernel
theorem dX6_goTick_212 : decode cX6_goTick 212 = .ok (.bipush 9, 2) := by decide +kernel
theorem dX6_goTick_214 : decode cX6_goTick 214 = .ok (.iaload, 1) := by decide +kernel
theorem dX6_goTick_215 : decode cX6_goTick 215 = .ok (.iconst 1, 1) := by decide +kernel
theorem dX6_goTick_216 : decode cX6_goTick 216 = .ok (.if_icmp .ne 21, 3) := by decide +kernel
theorem dX6_goTick_219 : decode cX6_goTick 219 = .ok (.aload_n 0, 1) := by decide +kernel
theorem dX6_goTick_220 : decode cX6_goTick 220 = .ok (.getfield 7, 3) := by decide +kernel
theorem dX6_goTick_223 : decode cX6_goTick 223 = .ok (.bipush 8, 2) := by decide +kernel
theorem dX6_goTick_225 : decode cX6_goTick 225 = .ok (.iaload, 1) := by decide +kernel
theorem dX6_goTick_226 : decode cX6_goTick 226 = .ok (.ifCond .ne 11, 3) := by decide +kernel
theorem dX6_goTick_229 : decode cX6_goTick 229 = .ok (.aload_n 0, 1) := by decide +kernel
theorem dX6_goTick_230 : decode cX6_goTick 230 = .ok (.getfield 7, 3) := by decide +kernel
theorem dX6_goTick_233 : decode cX6_goTick 233 = .ok (.bipush 9, 2) := by decide +kernel
theorem dX6_goTick_235 : decode cX6_goTick 235 = .ok (.iconst 2, 1) := by decide +kernel
theorem dX6_goTick_236 : decode cX6_goTick 236 = .ok (.iastore, 1) := by decide +kernel
theorem dX6_goTick_237 : decode cX6_goTick 237 = .ok (.aload_n 0, 1) := by decide +kernel
theorem dX6_goTick_238 : decode cX6_goTick 238 = .ok (.getfield 7, 3) := by decide +kernel
theorem dX6_goTick_241 : decode cX6_goTick 241 = .ok (.bipush 16, 2) := by decide +kernel
theorem dX6_goTick_243 : decode cX6_goTick 243 = .ok (.aload_n 0, 1) := by decide +kernel
theorem dX6_goTick_244 : decode cX6_goTick 244 = .ok (.getfield 7, 3) := by decide +kernel
theorem dX6_goTick_247 : decode cX6_goTick 247 = .ok (.bipush 10, 2) := by decide +kernel
theorem dX6_goTick_249 : decode cX6_goTick 249 = .ok (.iaload, 1) := by decide +kernel
theorem dX6_goTick_250 : decode cX6_goTick 250 = .ok (.ifCond .ne 15, 3) := by decide +kernel
theorem dX6_goTick_253 : decode cX6_goTick 253 = .ok (.aload_n 0, 1) := by decide +kernel
theorem dX6_goTick_254 : decode cX6_goTick 254 = .ok (.getfield 7, 3) := by decide +kernel
theorem dX6_goTick_257 : decode cX6_goTick 257 = .ok (.bipush 16, 2) := by decide +kernel
theorem dX6_goTick_259 : decode cX6_goTick 259 = .ok (.iaload, 1) := by decide +kernel
theorem dX6_goTick_260 : decode cX6_goTick 260 = .ok (.iconst 1, 1) := by decide +kernel
theorem dX6_goTick_261 : decode cX6_goTick 261 = .ok (.iadd, 1) := by decide +kernel
theorem dX6_goTick_262 : decode cX6_goTick 262 = .ok (.goto 4, 3) := by decide +kernel
theorem dX6_goTick_265 : decode cX6_goTick 265 = .ok (.iconst 0, 1) := by decide +kernel
theorem dX6_goTick_266 : decode cX6_goTick 266 = .ok (.iastore, 1) := by decide +kernel
theorem dX6_goTick_267 : decode cX6_goTick 267 = .ok (.aload_n 0, 1) := by decide +kernel
theorem dX6_goTick_268 : decode cX6_goTick 268 = .ok (.getfield 7, 3) := by decide +kernel
theorem dX6_goTick_271 : decode cX6_goTick 271 = .ok (.bipush 7, 2) := by decide +kernel
theorem dX6_goTick_273 : decode cX6_goTick 273 = .ok (.dup2, 1) := by decide +kernel
theorem dX6_goTick_274 : decode cX6_goTick 274 = .ok (.iaload, 1) := by decide +kernel
theorem dX6_goTick_275 : decode cX6_goTick 275 = .ok (.iconst 1, 1) := by decide +kernel
theorem dX6_goTick_276 : decode cX6_goTick 276 = .ok (.iadd, 1) := by decide +kernel
theorem dX6_goTick_277 : decode cX6_goTick 277 = .ok (.iastore, 1) := by decide +kernel
theorem dX6_goTick_278 : decode cX6_goTick 278 = .ok (.return_, 1) := by decide +kernel
theorem dX6_leastOf_0 : decode cX6_leastOf 0 = .ok (.iload_n 0, 1) := by decide +kernel
theorem dX6_leastOf_1 : decode cX6_leastOf 1 = .ok (.ifCond .ne 8, 3) := by decide +kernel
theorem dX6_leastOf_4 : decode cX6_leastOf 4 = .ok (.bipush 10, 2) := by decide +kernel
theorem dX6_leastOf_6 : decode cX6_leastOf 6 = .ok (.goto 4, 3) := by decide +kernel
theorem dX6_leastOf_9 : decode cX6_leastOf 9 = .ok (.iconst 1, 1) := by decide +kernel
theorem dX6_leastOf_10 : decode cX6_leastOf 10 = .ok (.ireturn, 1) := by decide +kernel
theorem dX6_mostOf_0 : decode cX6_mostOf 0 = .ok (.iload_n 0, 1) := by decide +kernel
theorem dX6_mostOf_1 : decode cX6_mostOf 1 = .ok (.tableswitch 60 0 6 #[43, 46, 49, 60, 60, 52, 56], 43) := by decide +kernel
theorem dX6_mostOf_44 : decode cX6_mostOf 44 = .ok (.bipush 90, 2) := by decide +kernel
theorem dX6_mostOf_46 : decode cX6_mostOf 46 = .ok (.ireturn, 1) := by decide +kernel
theorem dX6_mostOf_47 : decode cX6_mostOf 47 = .ok (.bipush 40, 2) := by decide +kernel
theorem dX6_mostOf_49 : decode cX6_mostOf 49 = .ok (.ireturn, 1) := by decide +kernel
theorem dX6_mostOf_50 : decode cX6_mostOf 50 = .ok (.bipush 30, 2) := by decide +kernel
theorem dX6_mostOf_52 : decode cX6_mostOf 52 = .ok (.ireturn, 1) := by decide +kernel
theorem dX6_mostOf_53 : decode cX6_mostOf 53 = .ok (.sipush 999, 3) := by decide +kernel
theorem dX6_mostOf_56 : decode cX6_mostOf 56 = .ok (.ireturn, 1) := by decide +kernel
theorem dX6_mostOf_57 : decode cX6_mostOf 57 = .ok (.sipush 9999, 3) := by decide +kernel
theorem dX6_mostOf_60 : decode cX6_mostOf 60 = .ok (.ireturn, 1) := by decide +kernel
theorem dX6_mostOf_61 : decode cX6_mostOf 61 = .ok (.bipush 99, 2) := by decide +kernel
theorem dX6_mostOf_63 : decode cX6_mostOf 63 = .ok (.ireturn, 1) := by decide +kernel
theorem dX6_set_0 : decode cX6_set 0 = .ok (.iload_n 1, 1) := by decide +kernel
theorem dX6_set_1 : decode cX6_set 1 = .ok (.iconst 0, 1) := by decide +kernel
theorem dX6_set_2 : decode cX6_set 2 = .ok (.bipush 6, 2) := by decide +kernel
theorem dX6_set_4 : decode cX6_set 4 = .ok (.invokestatic 46, 3) := by decide +kernel
theorem dX6_set_7 : decode cX6_set 7 = .ok (.ifCond .eq 18, 3) := by decide +kernel
theorem dX6_set_10 : decode cX6_set 10 = .ok (.iload_n 2, 1) := by decide +kernel
theorem dX6_set_11 : decode cX6_set 11 = .ok (.iload_n 1, 1) := by decide +kernel
theorem dX6_set_12 : decode cX6_set 12 = .ok (.invokestatic 122, 3) := by decide +kernel
theorem dX6_set_15 : decode cX6_set 15 = .ok (.iload_n 1, 1) := by decide +kernel
theorem dX6_set_16 : decode cX6_set 16 = .ok (.invokestatic 125, 3) := by decide +kernel
theorem dX6_set_19 : decode cX6_set 19 = .ok (.invokestatic 46, 3) := by decide +kernel
theorem dX6_set_22 : decode cX6_set 22 = .ok (.ifCond .ne 6, 3) := by decide +kernel
theorem dX6_set_25 : decode cX6_set 25 = .ok (.bipush (-2), 2) := by decide +kernel
theorem dX6_set_27 : decode cX6_set 27 = .ok (.ireturn, 1) := by decide +kernel
theorem dX6_set_28 : decode cX6_set 28 = .ok (.aload_n 0, 1) := by decide +kernel
theorem dX6_set_29 : decode cX6_set 29 = .ok (.invokevirtual 50, 3) := by decide +kernel
theorem dX6_set_32 : decode cX6_set 32 = .ok (.aload_n 0, 1) := by decide +kernel
theorem dX6_set_33 : decode cX6_set 33 = .ok (.getfield 7, 3) := by decide +kernel
theorem dX6_set_36 : decode cX6_set 36 = .ok (.iload_n 1, 1) := by decide +kernel
theorem dX6_set_37 : decode cX6_set 37 = .ok (.iaload, 1) := by decide +kernel
theorem dX6_set_38 : decode cX6_set 38 = .ok (.istore_n 3, 1) := by decide +kernel
theorem dX6_set_39 : decode cX6_set 39 = .ok (.aload_n 0, 1) := by decide +kernel
theorem dX6_set_40 : decode cX6_set 40 = .ok (.getfield 7, 3) := by decide +kernel
theorem dX6_set_43 : decode cX6_set 43 = .ok (.iload_n 1, 1) := by decide +kernel
theorem dX6_set_44 : decode cX6_set 44 = .ok (.iload_n 2, 1) := by decide +kernel
theorem dX6_set_45 : decode cX6_set 45 = .ok (.iastore, 1) := by decide +kernel
theorem dX6_set_46 : decode cX6_set 46 = .ok (.iload_n 3, 1) := by decide +kernel
theorem dX6_set_47 : decode cX6_set 47 = .ok (.ireturn, 1) := by decide +kernel
theorem dX6_come_0 : decode cX6_come 0 = .ok (.iload_n 1, 1) := by decide +kernel
theorem dX6_come_1 : decode cX6_come 1 = .ok (.iconst 1, 1) := by decide +kernel
theorem dX6_come_2 : decode cX6_come 2 = .ok (.sipush 200, 3) := by decide +kernel
theorem dX6_come_5 : decode cX6_come 5 = .ok (.invokestatic 46, 3) := by decide +kernel
theorem dX6_come_8 : decode cX6_come 8 = .ok (.ifCond .ne 6, 3) := by decide +kernel
theorem dX6_come_11 : decode cX6_come 11 = .ok (.bipush (-2), 2) := by decide +kernel
theorem dX6_come_13 : decode cX6_come 13 = .ok (.ireturn, 1) := by decide +kernel
theorem dX6_come_14 : decode cX6_come 14 = .ok (.aload_n 0, 1) := by decide +kernel
theorem dX6_come_15 : decode cX6_come 15 = .ok (.getfield 7, 3) := by decide +kernel
theorem dX6_come_18 : decode cX6_come 18 = .ok (.bipush 10, 2) := by decide +kernel
theorem dX6_come_20 : decode cX6_come 20 = .ok (.iaload, 1) := by decide +kernel
theorem dX6_come_21 : decode cX6_come 21 = .ok (.bipush 20, 2) := by decide +kernel
theorem dX6_come_23 : decode cX6_come 23 = .ok (.if_icmp .ne 6, 3) := by decide +kernel
theorem dX6_come_26 : decode cX6_come 26 = .ok (.bipush (-4), 2) := by decide +kernel
theorem dX6_come_28 : decode cX6_come 28 = .ok (.ireturn, 1) := by decide +kernel
theorem dX6_come_29 : decode cX6_come 29 = .ok (.aload_n 0, 1) := by decide +kernel
theorem dX6_come_30 : decode cX6_come 30 = .ok (.getfield 7, 3) := by decide +kernel
theorem dX6_come_33 : decode cX6_come 33 = .ok (.bipush 9, 2) := by decide +kernel
theorem dX6_come_35 : decode cX6_come 35 = .ok (.iaload, 1) := by decide +kernel
theorem dX6_come_36 : decode cX6_come 36 = .ok (.ifCond .eq 6, 3) := by decide +kernel
theorem dX6_come_39 : decode cX6_come 39 = .ok (.bipush (-5), 2) := by decide +kernel
theorem dX6_come_41 : decode cX6_come 41 = .ok (.ireturn, 1) := by decide +kernel
theorem dX6_come_42 : decode cX6_come 42 = .ok (.aload_n 0, 1) := by decide +kernel
theorem dX6_come_43 : decode cX6_come 43 = .ok (.invokevirtual 50, 3) := by decide +kernel
theorem dX6_come_46 : decode cX6_come 46 = .ok (.bipush 83, 2) := by decide +kernel
theorem dX6_come_48 : decode cX6_come 48 = .ok (.iconst 3, 1) := by decide +kernel
theorem dX6_come_49 : decode cX6_come 49 = .ok (.aload_n 0, 1) := by decide +kernel
theorem dX6_come_50 : decode cX6_come 50 = .ok (.getfield 7, 3) := by decide +kernel
theorem dX6_come_53 : decode cX6_come 53 = .ok (.bipush 10, 2) := by decide +kernel
theorem dX6_come_55 : decode cX6_come 55 = .ok (.iaload, 1) := by decide +kernel
theorem dX6_come_56 : decode cX6_come 56 = .ok (.imul, 1) := by decide +kernel
theorem dX6_come_57 : decode cX6_come 57 = .ok (.iadd, 1) := by decide +kernel
theorem dX6_come_58 : decode cX6_come 58 = .ok (.istore_n 2, 1) := by decide +kernel
theorem dX6_come_59 : decode cX6_come 59 = .ok (.aload_n 0, 1) := by decide +kernel
theorem dX6_come_60 : decode cX6_come 60 = .ok (.getfield 7, 3) := by decide +kernel
theorem dX6_come_63 : decode cX6_come 63 = .ok (.iload_n 2, 1) := by decide +kernel
theorem dX6_come_64 : decode cX6_come 64 = .ok (.iload_n 1, 1) := by decide +kernel
theorem dX6_come_65 : decode cX6_come 65 = .ok (.iastore, 1) := by decide +kernel
theorem dX6_come_66 : decode cX6_come 66 = .ok (.aload_n 0, 1) := by decide +kernel
theorem dX6_come_67 : decode cX6_come 67 = .ok (.getfield 7, 3) := by decide +kernel
theorem dX6_come_70 : decode cX6_come 70 = .ok (.iload_n 2, 1) := by decide +kernel
theorem dX6_come_71 : decode cX6_come 71 = .ok (.iconst 1, 1) := by decide +kernel
theorem dX6_come_72 : decode cX6_come 72 = .ok (.iadd, 1) := by decide +kernel
theorem dX6_come_73 : decode cX6_come 73 = .ok (.iconst 0, 1) := by decide +kernel
theorem dX6_come_74 : decode cX6_come 74 = .ok (.iastore, 1) := by decide +kernel
theorem dX6_come_75 : decode cX6_come 75 = .ok (.aload_n 0, 1) := by decide +kernel
theorem dX6_come_76 : decode cX6_come 76 = .ok (.getfield 7, 3) := by decide +kernel
theorem dX6_come_79 : decode cX6_come 79 = .ok (.iload_n 2, 1) := by decide +kernel
theorem dX6_come_80 : decode cX6_come 80 = .ok (.iconst 2, 1) := by decide +kernel
theorem dX6_come_81 : decode cX6_come 81 = .ok (.iadd, 1) := by decide +kernel
theorem dX6_come_82 : decode cX6_come 82 = .ok (.aload_n 0, 1) := by decide +kernel
theorem dX6_come_83 : decode cX6_come 83 = .ok (.getfield 7, 3) := by decide +kernel
theorem dX6_come_86 : decode cX6_come 86 = .ok (.bipush 7, 2) := by decide +kernel
theorem dX6_come_88 : decode cX6_come 88 = .ok (.iaload, 1) := by decide +kernel
theorem dX6_come_89 : decode cX6_come 89 = .ok (.iastore, 1) := by decide +kernel
theorem dX6_come_90 : decode cX6_come 90 = .ok (.aload_n 0, 1) := by decide +kernel
theorem dX6_come_91 : decode cX6_come 91 = .ok (.getfield 7, 3) := by decide +kernel
theorem dX6_come_94 : decode cX6_come 94 = .ok (.bipush 10, 2) := by decide +kernel
theorem dX6_come_96 : decode cX6_come 96 = .ok (.dup2, 1) := by decide +kernel
theorem dX6_come_97 : decode cX6_come 97 = .ok (.iaload, 1) := by decide +kernel
theorem dX6_come_98 : decode cX6_come 98 = .ok (.iconst 1, 1) := by decide +kernel
theorem dX6_come_99 : decode cX6_come 99 = .ok (.iadd, 1) := by decide +kernel
theorem dX6_come_100 : decode cX6_come 100 = .ok (.iastore, 1) := by decide +kernel
theorem dX6_come_101 : decode cX6_come 101 = .ok (.aload_n 0, 1) := by decide +kernel
theorem dX6_come_102 : decode cX6_come 102 = .ok (.getfield 7, 3) := by decide +kernel
theorem dX6_come_105 : decode cX6_come 105 = .ok (.bipush 10, 2) := by decide +kernel
theorem dX6_come_107 : decode cX6_come 107 = .ok (.iaload, 1) := by decide +kernel
theorem dX6_come_108 : decode cX6_come 108 = .ok (.ireturn, 1) := by decide +kernel
theorem dX6_isSpot_0 : decode cX6_isSpot 0 = .ok (.iload_n 0, 1) := by decide +kernel
theorem dX6_isSpot_1 : decode cX6_isSpot 1 = .ok (.iconst 0, 1) := by decide +kernel
theorem dX6_isSpot_2 : decode cX6_isSpot 2 = .ok (.iconst 3, 1) := by decide +kernel
theorem dX6_isSpot_3 : decode cX6_isSpot 3 = .ok (.invokestatic 46, 3) := by decide +kernel
theorem dX6_isSpot_6 : decode cX6_isSpot 6 = .ok (.ireturn, 1) := by decide +kernel
theorem dX6_sense_0 : decode cX6_sense 0 = .ok (.iload_n 1, 1) := by decide +kernel
theorem dX6_sense_1 : decode cX6_sense 1 = .ok (.invokestatic 128, 3) := by decide +kernel
theorem dX6_sense_4 : decode cX6_sense 4 = .ok (.ifCond .eq 12, 3) := by decide +kernel
theorem dX6_sense_7 : decode cX6_sense 7 = .ok (.iload_n 2, 1) := by decide +kernel
theorem dX6_sense_8 : decode cX6_sense 8 = .ok (.iconst 0, 1) := by decide +kernel
theorem dX6_sense_9 : decode cX6_sense 9 = .ok (.iconst 1, 1) := by decide +kernel
theorem dX6_sense_10 : decode cX6_sense 10 = .ok (.invokestatic 46, 3) := by decide +kernel
theorem dX6_sense_13 : decode cX6_sense 13 = .ok (.ifCond .ne 5, 3) := by decide +kernel
theorem dX6_sense_16 : decode cX6_sense 16 = .ok (.iconst (-1), 1) := by decide +kernel
theorem dX6_sense_17 : decode cX6_sense 17 = .ok (.ireturn, 1) := by decide +kernel
theorem dX6_sense_18 : decode cX6_sense 18 = .ok (.iload_n 3, 1) := by decide +kernel
theorem dX6_sense_19 : decode cX6_sense 19 = .ok (.iconst 0, 1) := by decide +kernel
theorem dX6_sense_20 : decode cX6_sense 20 = .ok (.iconst 1, 1) := by decide +kernel
theorem dX6_sense_21 : decode cX6_sense 21 = .ok (.invokestatic 46, 3) := by decide +kernel
theorem dX6_sense_24 : decode cX6_sense 24 = .ok (.ifCond .ne 6, 3) := by decide +kernel
theorem dX6_sense_27 : decode cX6_sense 27 = .ok (.bipush (-2), 2) := by decide +kernel
theorem dX6_sense_29 : decode cX6_sense 29 = .ok (.ireturn, 1) := by decide +kernel
theorem dX6_sense_30 : decode cX6_sense 30 = .ok (.aload_n 0, 1) := by decide +kernel
theorem dX6_sense_31 : decode cX6_sense 31 = .ok (.invokevirtual 50, 3) := by decide +kernel
theorem dX6_sense_34 : decode cX6_sense 34 = .ok (.iconst 2, 1) := by decide +kernel
theorem dX6_sense_35 : decode cX6_sense 35 = .ok (.iload_n 1, 1) := by decide +kernel
theorem dX6_sense_36 : decode cX6_sense 36 = .ok (.imul, 1) := by decide +kernel
theorem dX6_sense_37 : decode cX6_sense 37 = .ok (.iload_n 2, 1) := by decide +kernel
theorem dX6_sense_38 : decode cX6_sense 38 = .ok (.iadd, 1) := by decide +kernel
theorem dX6_sense_39 : decode cX6_sense 39 = .ok (.istore 4, 2) := by decide +kernel
theorem dX6_sense_41 : decode cX6_sense 41 = .ok (.aload_n 0, 1) := by decide +kernel
theorem dX6_sense_42 : decode cX6_sense 42 = .ok (.getfield 7, 3) := by decide +kernel
theorem dX6_sense_45 : decode cX6_sense 45 = .ok (.bipush 11, 2) := by decide +kernel
theorem dX6_sense_47 : decode cX6_sense 47 = .ok (.iaload, 1) := by decide +kernel
theorem dX6_sense_48 : decode cX6_sense 48 = .ok (.iload 4, 2) := by decide +kernel
theorem dX6_sense_50 : decode cX6_sense 50 = .ok (.ishr, 1) := by decide +kernel
theorem dX6_sense_51 : decode cX6_sense 51 = .ok (.iconst 1, 1) := by decide +kernel
theorem dX6_sense_52 : decode cX6_sense 52 = .ok (.iand, 1) := by decide +kernel
theorem dX6_sense_53 : decode cX6_sense 53 = .ok (.istore 5, 2) := by decide +kernel
theorem dX6_sense_55 : decode cX6_sense 55 = .ok (.aload_n 0, 1) := by decide +kernel
theorem dX6_sense_56 : decode cX6_sense 56 = .ok (.getfield 7, 3) := by decide +kernel
theorem dX6_sense_59 : decode cX6_sense 59 = .ok (.bipush 11, 2) := by decide +kernel
theorem dX6_sense_61 : decode cX6_sense 61 = .ok (.dup2, 1) := by decide +kernel
theorem dX6_sense_62 : decode cX6_sense 62 = .ok (.iaload, 1) := by decide +kernel
theorem dX6_sense_63 : decode cX6_sense 63 = .ok (.iload_n 3, 1) := by decide +kernel
theorem dX6_sense_64 : decode cX6_sense 64 = .ok (.iload 5, 2) := by decide +kernel
theorem dX6_sense_66 : decode cX6_sense 66 = .ok (.isub, 1) := by decide +kernel
theorem dX6_sense_67 : decode cX6_sense 67 = .ok (.iload 4, 2) := by decide +kernel
theorem dX6_sense_69 : decode cX6_sense 69 = .ok (.ishl, 1) := by decide +kernel
theorem dX6_sense_70 : decode cX6_sense 70 = .ok (.iadd, 1) := by decide +kernel
theorem dX6_sense_71 : decode cX6_sense 71 = .ok (.iastore, 1) := by decide +kernel
theorem dX6_sense_72 : decode cX6_sense 72 = .ok (.iload 5, 2) := by decide +kernel
theorem dX6_sense_74 : decode cX6_sense 74 = .ok (.ireturn, 1) := by decide +kernel
theorem dX6_stop_0 : decode cX6_stop 0 = .ok (.aload_n 0, 1) := by decide +kernel
theorem dX6_stop_1 : decode cX6_stop 1 = .ok (.getfield 7, 3) := by decide +kernel
theorem dX6_stop_4 : decode cX6_stop 4 = .ok (.bipush 9, 2) := by decide +kernel
theorem dX6_stop_6 : decode cX6_stop 6 = .ok (.iaload, 1) := by decide +kernel
theorem dX6_stop_7 : decode cX6_stop 7 = .ok (.ifCond .eq 6, 3) := by decide +kernel
theorem dX6_stop_10 : decode cX6_stop 10 = .ok (.bipush (-5), 2) := by decide +kernel
theorem dX6_stop_12 : decode cX6_stop 12 = .ok (.ireturn, 1) := by decide +kernel
theorem dX6_stop_13 : decode cX6_stop 13 = .ok (.aload_n 0, 1) := by decide +kernel
theorem dX6_stop_14 : decode cX6_stop 14 = .ok (.invokevirtual 50, 3) := by decide +kernel
theorem dX6_stop_17 : decode cX6_stop 17 = .ok (.aload_n 0, 1) := by decide +kernel
theorem dX6_stop_18 : decode cX6_stop 18 = .ok (.iconst 1, 1) := by decide +kernel
theorem dX6_stop_19 : decode cX6_stop 19 = .ok (.invokevirtual 110, 3) := by decide +kernel
theorem dX6_stop_22 : decode cX6_stop 22 = .ok (.aload_n 0, 1) := by decide +kernel
theorem dX6_stop_23 : decode cX6_stop 23 = .ok (.getfield 7, 3) := by decide +kernel
theorem dX6_stop_26 : decode cX6_stop 26 = .ok (.bipush 8, 2) := by decide +kernel
theorem dX6_stop_28 : decode cX6_stop 28 = .ok (.iaload, 1) := by decide +kernel
theorem dX6_stop_29 : decode cX6_stop 29 = .ok (.ireturn, 1) := by decide +kernel
theorem dX6_restart_0 : decode cX6_restart 0 = .ok (.aload_n 0, 1) := by decide +kernel
theorem dX6_restart_1 : decode cX6_restart 1 = .ok (.getfield 7, 3) := by decide +kernel
theorem dX6_restart_4 : decode cX6_restart 4 = .ok (.bipush 9, 2) := by decide +kernel
theorem dX6_restart_6 : decode cX6_restart 6 = .ok (.iaload, 1) := by decide +kernel
theorem dX6_restart_7 : decode cX6_restart 7 = .ok (.iconst 2, 1) := by decide +kernel
theorem dX6_restart_8 : decode cX6_restart 8 = .ok (.if_icmp .ne 10, 3) := by decide +kernel
theorem dX6_restart_11 : decode cX6_restart 11 = .ok (.aload_n 0, 1) := by decide +kernel
theorem dX6_restart_12 : decode cX6_restart 12 = .ok (.invokevirtual 107, 3) := by decide +kernel
theorem dX6_restart_15 : decode cX6_restart 15 = .ok (.ifCond .eq 6, 3) := by decide +kernel
theorem dX6_restart_18 : decode cX6_restart 18 = .ok (.bipush (-5), 2) := by decide +kernel
theorem dX6_restart_20 : decode cX6_restart 20 = .ok (.ireturn, 1) := by decide +kernel
theorem dX6_restart_21 : decode cX6_restart 21 = .ok (.aload_n 0, 1) := by decide +kernel
theorem dX6_restart_22 : decode cX6_restart 22 = .ok (.invokevirtual 50, 3) := by decide +kernel
theorem dX6_restart_25 : decode cX6_restart 25 = .ok (.aload_n 0, 1) := by decide +kernel
theorem dX6_restart_26 : decode cX6_restart 26 = .ok (.getfield 7, 3) := by decide +kernel
theorem dX6_restart_29 : decode cX6_restart 29 = .ok (.bipush 9, 2) := by decide +kernel
theorem dX6_restart_31 : decode cX6_restart 31 = .ok (.iconst 0, 1) := by decide +kernel
theorem dX6_restart_32 : decode cX6_restart 32 = .ok (.iastore, 1) := by decide +kernel
theorem dX6_restart_33 : decode cX6_restart 33 = .ok (.aload_n 0, 1) := by decide +kernel
theorem dX6_restart_34 : decode cX6_restart 34 = .ok (.getfield 7, 3) := by decide +kernel
theorem dX6_restart_37 : decode cX6_restart 37 = .ok (.bipush 10, 2) := by decide +kernel
theorem dX6_restart_39 : decode cX6_restart 39 = .ok (.iaload, 1) := by decide +kernel
theorem dX6_restart_40 : decode cX6_restart 40 = .ok (.ireturn, 1) := by decide +kernel
theorem dX6_pass_0 : decode cX6_pass 0 = .ok (.iload_n 1, 1) := by decide +kernel
theorem dX6_pass_1 : decode cX6_pass 1 = .ok (.iconst 1, 1) := by decide +kernel
theorem dX6_pass_2 : decode cX6_pass 2 = .ok (.sipush 999, 3) := by decide +kernel
theorem dX6_pass_5 : decode cX6_pass 5 = .ok (.invokestatic 46, 3) := by decide +kernel
theorem dX6_pass_8 : decode cX6_pass 8 = .ok (.ifCond .ne 6, 3) := by decide +kernel
theorem dX6_pass_11 : decode cX6_pass 11 = .ok (.bipush (-2), 2) := by decide +kernel
theorem dX6_pass_13 : decode cX6_pass 13 = .ok (.ireturn, 1) := by decide +kernel
theorem dX6_pass_14 : decode cX6_pass 14 = .ok (.aload_n 0, 1) := by decide +kernel
theorem dX6_pass_15 : decode cX6_pass 15 = .ok (.getfield 7, 3) := by decide +kernel
theorem dX6_pass_18 : decode cX6_pass 18 = .ok (.bipush 7, 2) := by decide +kernel
theorem dX6_pass_20 : decode cX6_pass 20 = .ok (.iaload, 1) := by decide +kernel
theorem dX6_pass_21 : decode cX6_pass 21 = .ok (.iload_n 1, 1) := by decide +kernel
theorem dX6_pass_22 : decode cX6_pass 22 = .ok (.iadd, 1) := by decide +kernel
theorem dX6_pass_23 : decode cX6_pass 23 = .ok (.ldc 131, 2) := by decide +kernel
theorem dX6_pass_25 : decode cX6_pass 25 = .ok (.if_icmp .le 6, 3) := by decide +kernel
theorem dX6_pass_28 : decode cX6_pass 28 = .ok (.bipush (-4), 2) := by decide +kernel
theorem dX6_pass_30 : decode cX6_pass 30 = .ok (.ireturn, 1) := by decide +kernel
theorem dX6_pass_31 : decode cX6_pass 31 = .ok (.aload_n 0, 1) := by decide +kernel
theorem dX6_pass_32 : decode cX6_pass 32 = .ok (.invokevirtual 50, 3) := by decide +kernel
theorem dX6_pass_35 : decode cX6_pass 35 = .ok (.iconst 0, 1) := by decide +kernel
theorem dX6_pass_36 : decode cX6_pass 36 = .ok (.istore_n 2, 1) := by decide +kernel
theorem dX6_pass_37 : decode cX6_pass 37 = .ok (.iload_n 2, 1) := by decide +kernel
theorem dX6_pass_38 : decode cX6_pass 38 = .ok (.iload_n 1, 1) := by decide +kernel
theorem dX6_pass_39 : decode cX6_pass 39 = .ok (.if_icmp .ge 13, 3) := by decide +kernel
theorem dX6_pass_42 : decode cX6_pass 42 = .ok (.aload_n 0, 1) := by decide +kernel
theorem dX6_pass_43 : decode cX6_pass 43 = .ok (.invokevirtual 132, 3) := by decide +kernel
theorem dX6_pass_46 : decode cX6_pass 46 = .ok (.iinc 2 1, 3) := by decide +kernel
theorem dX6_pass_49 : decode cX6_pass 49 = .ok (.goto (-12), 3) := by decide +kernel
theorem dX6_pass_52 : decode cX6_pass 52 = .ok (.aload_n 0, 1) := by decide +kernel
theorem dX6_pass_53 : decode cX6_pass 53 = .ok (.getfield 7, 3) := by decide +kernel
theorem dX6_pass_56 : decode cX6_pass 56 = .ok (.bipush 7, 2) := by decide +kernel
theorem dX6_pass_58 : decode cX6_pass 58 = .ok (.iaload, 1) := by decide +kernel
theorem dX6_pass_59 : decode cX6_pass 59 = .ok (.ireturn, 1) := by decide +kernel
theorem dX6_of_0 : decode cX6_of 0 = .ok (.iload_n 1, 1) := by decide +kernel
theorem dX6_of_1 : decode cX6_of 1 = .ok (.ifCond .lt 14, 3) := by decide +kernel
theorem dX6_of_4 : decode cX6_of 4 = .ok (.iload_n 1, 1) := by decide +kernel
theorem dX6_of_5 : decode cX6_of 5 = .ok (.aload_n 0, 1) := by decide +kernel
theorem dX6_of_6 : decode cX6_of 6 = .ok (.getfield 7, 3) := by decide +kernel
theorem dX6_of_9 : decode cX6_of 9 = .ok (.bipush 10, 2) := by decide +kernel
theorem dX6_of_11 : decode cX6_of 11 = .ok (.iaload, 1) := by decide +kernel
theorem dX6_of_12 : decode cX6_of 12 = .ok (.if_icmp .lt 5, 3) := by decide +kernel
theorem dX6_of_15 : decode cX6_of 15 = .ok (.iconst (-1), 1) := by decide +kernel
theorem dX6_of_16 : decode cX6_of 16 = .ok (.ireturn, 1) := by decide +kernel
theorem dX6_of_17 : decode cX6_of 17 = .ok (.iload_n 2, 1) := by decide +kernel
theorem dX6_of_18 : decode cX6_of 18 = .ok (.tableswitch 60 0 2 #[26, 32, 38], 26) := by decide +kernel
theorem dX6_of_44 : decode cX6_of 44 = .ok (.aload_n 0, 1) := by decide +kernel
theorem dX6_of_45 : decode cX6_of 45 = .ok (.iload_n 1, 1) := by decide +kernel
theorem dX6_of_46 : decode cX6_of 46 = .ok (.invokevirtual 97, 3) := by decide +kernel
theorem dX6_of_49 : decode cX6_of 49 = .ok (.ireturn, 1) := by decide +kernel
theorem dX6_of_50 : decode cX6_of 50 = .ok (.aload_n 0, 1) := by decide +kernel
theorem dX6_of_51 : decode cX6_of 51 = .ok (.iload_n 1, 1) := by decide +kernel
theorem dX6_of_52 : decode cX6_of 52 = .ok (.invokevirtual 94, 3) := by decide +kernel
theorem dX6_of_55 : decode cX6_of 55 = .ok (.ireturn, 1) := by decide +kernel
theorem dX6_of_56 : decode cX6_of 56 = .ok (.aload_n 0, 1) := by decide +kernel
theorem dX6_of_57 : decode cX6_of 57 = .ok (.getfield 7, 3) := by decide +kernel
theorem dX6_of_60 : decode cX6_of 60 = .ok (.bipush 7, 2) := by decide +kernel
theorem dX6_of_62 : decode cX6_of 62 = .ok (.iaload, 1) := by decide +kernel
theorem dX6_of_63 : decode cX6_of 63 = .ok (.aload_n 0, 1) := by decide +kernel
theorem dX6_of_64 : decode cX6_of 64 = .ok (.getfield 7, 3) := by decide +kernel
theorem dX6_of_67 : decode cX6_of 67 = .ok (.bipush 83, 2) := by decide +kernel
theorem dX6_of_69 : decode cX6_of 69 = .ok (.iconst 3, 1) := by decide +kernel
theorem dX6_of_70 : decode cX6_of 70 = .ok (.iload_n 1, 1) := by decide +kernel
theorem dX6_of_71 : decode cX6_of 71 = .ok (.imul, 1) := by decide +kernel
theorem dX6_of_72 : decode cX6_of 72 = .ok (.iadd, 1) := by decide +kernel
theorem dX6_of_73 : decode cX6_of 73 = .ok (.iconst 2, 1) := by decide +kernel
theorem dX6_of_74 : decode cX6_of 74 = .ok (.iadd, 1) := by decide +kernel
theorem dX6_of_75 : decode cX6_of 75 = .ok (.iaload, 1) := by decide +kernel
theorem dX6_of_76 : decode cX6_of 76 = .ok (.isub, 1) := by decide +kernel
theorem dX6_of_77 : decode cX6_of 77 = .ok (.ireturn, 1) := by decide +kernel
theorem dX6_of_78 : decode cX6_of 78 = .ok (.bipush (-2), 2) := by decide +kernel
theorem dX6_of_80 : decode cX6_of 80 = .ok (.ireturn, 1) := by decide +kernel
theorem dX6_ofSpot_0 : decode cX6_ofSpot 0 = .ok (.iload_n 1, 1) := by decide +kernel
theorem dX6_ofSpot_1 : decode cX6_ofSpot 1 = .ok (.invokestatic 128, 3) := by decide +kernel
theorem dX6_ofSpot_4 : decode cX6_ofSpot 4 = .ok (.ifCond .ne 5, 3) := by decide +kernel
theorem dX6_ofSpot_7 : decode cX6_ofSpot 7 = .ok (.iconst (-1), 1) := by decide +kernel
theorem dX6_ofSpot_8 : decode cX6_ofSpot 8 = .ok (.ireturn, 1) := by decide +kernel
theorem dX6_ofSpot_9 : decode cX6_ofSpot 9 = .ok (.iload_n 2, 1) := by decide +kernel
theorem dX6_ofSpot_10 : decode cX6_ofSpot 10 = .ok (.iconst 0, 1) := by decide +kernel
theorem dX6_ofSpot_11 : decode cX6_ofSpot 11 = .ok (.iconst 2, 1) := by decide +kernel
theorem dX6_ofSpot_12 : decode cX6_ofSpot 12 = .ok (.invokestatic 46, 3) := by decide +kernel
theorem dX6_ofSpot_15 : decode cX6_ofSpot 15 = .ok (.ifCond .ne 6, 3) := by decide +kernel
theorem dX6_ofSpot_18 : decode cX6_ofSpot 18 = .ok (.bipush (-2), 2) := by decide +kernel
theorem dX6_ofSpot_20 : decode cX6_ofSpot 20 = .ok (.ireturn, 1) := by decide +kernel
theorem dX6_ofSpot_21 : decode cX6_ofSpot 21 = .ok (.iload_n 2, 1) := by decide +kernel
theorem dX6_ofSpot_22 : decode cX6_ofSpot 22 = .ok (.iconst 2, 1) := by decide +kernel
theorem dX6_ofSpot_23 : decode cX6_ofSpot 23 = .ok (.if_icmp .ne 15, 3) := by decide +kernel
theorem dX6_ofSpot_26 : decode cX6_ofSpot 26 = .ok (.aload_n 0, 1) := by decide +kernel
theorem dX6_ofSpot_27 : decode cX6_ofSpot 27 = .ok (.getfield 7, 3) := by decide +kernel
theorem dX6_ofSpot_30 : decode cX6_ofSpot 30 = .ok (.bipush 12, 2) := by decide +kernel
theorem dX6_ofSpot_32 : decode cX6_ofSpot 32 = .ok (.iload_n 1, 1) := by decide +kernel
theorem dX6_ofSpot_33 : decode cX6_ofSpot 33 = .ok (.iadd, 1) := by decide +kernel
theorem dX6_ofSpot_34 : decode cX6_ofSpot 34 = .ok (.iaload, 1) := by decide +kernel
theorem dX6_ofSpot_35 : decode cX6_ofSpot 35 = .ok (.goto 18, 3) := by decide +kernel
theorem dX6_ofSpot_38 : decode cX6_ofSpot 38 = .ok (.aload_n 0, 1) := by decide +kernel
theorem dX6_ofSpot_39 : decode cX6_ofSpot 39 = .ok (.getfield 7, 3) := by decide +kernel
theorem dX6_ofSpot_42 : decode cX6_ofSpot 42 = .ok (.bipush 11, 2) := by decide +kernel
theorem dX6_ofSpot_44 : decode cX6_ofSpot 44 = .ok (.iaload, 1) := by decide +kernel
theorem dX6_ofSpot_45 : decode cX6_ofSpot 45 = .ok (.iconst 2, 1) := by decide +kernel
theorem dX6_ofSpot_46 : decode cX6_ofSpot 46 = .ok (.iload_n 1, 1) := by decide +kernel
theorem dX6_ofSpot_47 : decode cX6_ofSpot 47 = .ok (.imul, 1) := by decide +kernel
theorem dX6_ofSpot_48 : decode cX6_ofSpot 48 = .ok (.iload_n 2, 1) := by decide +kernel
theorem dX6_ofSpot_49 : decode cX6_ofSpot 49 = .ok (.iadd, 1) := by decide +kernel
theorem dX6_ofSpot_50 : decode cX6_ofSpot 50 = .ok (.ishr, 1) := by decide +kernel
theorem dX6_ofSpot_51 : decode cX6_ofSpot 51 = .ok (.iconst 1, 1) := by decide +kernel
theorem dX6_ofSpot_52 : decode cX6_ofSpot 52 = .ok (.iand, 1) := by decide +kernel
theorem dX6_ofSpot_53 : decode cX6_ofSpot 53 = .ok (.ireturn, 1) := by decide +kernel
theorem dX6_ofStop_0 : decode cX6_ofStop 0 = .ok (.aload_n 0, 1) := by decide +kernel
theorem dX6_ofStop_1 : decode cX6_ofStop 1 = .ok (.getfield 7, 3) := by decide +kernel
theorem dX6_ofStop_4 : decode cX6_ofStop 4 = .ok (.bipush 19, 2) := by decide +kernel
theorem dX6_ofStop_6 : decode cX6_ofStop 6 = .ok (.iaload, 1) := by decide +kernel
theorem dX6_ofStop_7 : decode cX6_ofStop 7 = .ok (.bipush 6, 2) := by decide +kernel
theorem dX6_ofStop_9 : decode cX6_ofStop 9 = .ok (.if_icmp .ge 13, 3) := by decide +kernel
theorem dX6_ofStop_12 : decode cX6_ofStop 12 = .ok (.aload_n 0, 1) := by decide +kernel
theorem dX6_ofStop_13 : decode cX6_ofStop 13 = .ok (.getfield 7, 3) := by decide +kernel
theorem dX6_ofStop_16 : decode cX6_ofStop 16 = .ok (.bipush 19, 2) := by decide +kernel
theorem dX6_ofStop_18 : decode cX6_ofStop 18 = .ok (.iaload, 1) := by decide +kernel
theorem dX6_ofStop_19 : decode cX6_ofStop 19 = .ok (.goto 5, 3) := by decide +kernel
theorem dX6_ofStop_22 : decode cX6_ofStop 22 = .ok (.bipush 6, 2) := by decide +kernel
theorem dX6_ofStop_24 : decode cX6_ofStop 24 = .ok (.istore_n 3, 1) := by decide +kernel
theorem dX6_ofStop_25 : decode cX6_ofStop 25 = .ok (.iload_n 1, 1) := by decide +kernel
theorem dX6_ofStop_26 : decode cX6_ofStop 26 = .ok (.ifCond .lt 8, 3) := by decide +kernel
theorem dX6_ofStop_29 : decode cX6_ofStop 29 = .ok (.iload_n 1, 1) := by decide +kernel
theorem dX6_ofStop_30 : decode cX6_ofStop 30 = .ok (.iload_n 3, 1) := by decide +kernel
theorem dX6_ofStop_31 : decode cX6_ofStop 31 = .ok (.if_icmp .lt 5, 3) := by decide +kernel
theorem dX6_ofStop_34 : decode cX6_ofStop 34 = .ok (.iconst (-1), 1) := by decide +kernel
theorem dX6_ofStop_35 : decode cX6_ofStop 35 = .ok (.ireturn, 1) := by decide +kernel
theorem dX6_ofStop_36 : decode cX6_ofStop 36 = .ok (.iload_n 2, 1) := by decide +kernel
theorem dX6_ofStop_37 : decode cX6_ofStop 37 = .ok (.iconst 0, 1) := by decide +kernel
theorem dX6_ofStop_38 : decode cX6_ofStop 38 = .ok (.iconst 4, 1) := by decide +kernel
theorem dX6_ofStop_39 : decode cX6_ofStop 39 = .ok (.invokestatic 46, 3) := by decide +kernel
theorem dX6_ofStop_42 : decode cX6_ofStop 42 = .ok (.ifCond .eq 20, 3) := by decide +kernel
theorem dX6_ofStop_45 : decode cX6_ofStop 45 = .ok (.aload_n 0, 1) := by decide +kernel
theorem dX6_ofStop_46 : decode cX6_ofStop 46 = .ok (.getfield 7, 3) := by decide +kernel
theorem dX6_ofStop_49 : decode cX6_ofStop 49 = .ok (.sipush 143, 3) := by decide +kernel
theorem dX6_ofStop_52 : decode cX6_ofStop 52 = .ok (.iconst 5, 1) := by decide +kernel
theorem dX6_ofStop_53 : decode cX6_ofStop 53 = .ok (.iload_n 1, 1) := by decide +kernel
theorem dX6_ofStop_54 : decode cX6_ofStop 54 = .ok (.imul, 1) := by decide +kernel
theorem dX6_ofStop_55 : decode cX6_ofStop 55 = .ok (.iadd, 1) := by decide +kernel
theorem dX6_ofStop_56 : decode cX6_ofStop 56 = .ok (.iload_n 2, 1) := by decide +kernel
theorem dX6_ofStop_57 : decode cX6_ofStop 57 = .ok (.iadd, 1) := by decide +kernel
theorem dX6_ofStop_58 : decode cX6_ofStop 58 = .ok (.iaload, 1) := by decide +kernel
theorem dX6_ofStop_59 : decode cX6_ofStop 59 = .ok (.goto 5, 3) := by decide +kernel
theorem dX6_ofStop_62 : decode cX6_ofStop 62 = .ok (.bipush (-2), 2) := by decide +kernel
theorem dX6_ofStop_64 : decode cX6_ofStop 64 = .ok (.ireturn, 1) := by decide +kernel
theorem dX6_count_0 : decode cX6_count 0 = .ok (.iload_n 1, 1) := by decide +kernel
theorem dX6_count_1 : decode cX6_count 1 = .ok (.bipush 11, 2) := by decide +kernel
theorem dX6_count_3 : decode cX6_count 3 = .ok (.bipush 17, 2) := by decide +kernel
theorem dX6_count_5 : decode cX6_count 5 = .ok (.invokestatic 46, 3) := by decide +kernel
theorem dX6_count_8 : decode cX6_count 8 = .ok (.ifCond .eq 13, 3) := by decide +kernel
theorem dX6_count_11 : decode cX6_count 11 = .ok (.aload_n 0, 1) := by decide +kernel
theorem dX6_count_12 : decode cX6_count 12 = .ok (.getfield 7, 3) := by decide +kernel
theorem dX6_count_15 : decode cX6_count 15 = .ok (.iload_n 1, 1) := by decide +kernel
theorem dX6_count_16 : decode cX6_count 16 = .ok (.bipush 11, 2) := by decide +kernel
theorem dX6_count_18 : decode cX6_count 18 = .ok (.isub, 1) := by decide +kernel
theorem dX6_count_19 : decode cX6_count 19 = .ok (.iaload, 1) := by decide +kernel
theorem dX6_count_20 : decode cX6_count 20 = .ok (.ireturn, 1) := by decide +kernel
theorem dX6_count_21 : decode cX6_count 21 = .ok (.iload_n 1, 1) := by decide +kernel
theorem dX6_count_22 : decode cX6_count 22 = .ok (.tableswitch 189 0 19 #[94, 102, 110, 115, 123, 131, 139, 147, 155, 163, 171, 189, 189, 189, 189, 189, 189, 189, 179, 184], 94) := by decide +kernel
theorem dX6_count_116 : decode cX6_count 116 = .ok (.aload_n 0, 1) := by decide +kernel
theorem dX6_count_117 : decode cX6_count 117 = .ok (.getfield 7, 3) := by decide +kernel
theorem dX6_count_120 : decode cX6_count 120 = .ok (.bipush 7, 2) := by decide +kernel
theorem dX6_count_122 : decode cX6_count 122 = .ok (.iaload, 1) := by decide +kernel
theorem dX6_count_123 : decode cX6_count 123 = .ok (.ireturn, 1) := by decide +kernel
theorem dX6_count_124 : decode cX6_count 124 = .ok (.aload_n 0, 1) := by decide +kernel
theorem dX6_count_125 : decode cX6_count 125 = .ok (.getfield 7, 3) := by decide +kernel
theorem dX6_count_128 : decode cX6_count 128 = .ok (.bipush 10, 2) := by decide +kernel
theorem dX6_count_130 : decode cX6_count 130 = .ok (.iaload, 1) := by decide +kernel
theorem dX6_count_131 : decode cX6_count 131 = .ok (.ireturn, 1) := by decide +kernel
theorem dX6_count_132 : decode cX6_count 132 = .ok (.aload_n 0, 1) := by decide +kernel
theorem dX6_count_133 : decode cX6_count 133 = .ok (.invokevirtual 100, 3) := by decide +kernel
theorem dX6_count_136 : decode cX6_count 136 = .ok (.ireturn, 1) := by decide +kernel
theorem dX6_count_137 : decode cX6_count 137 = .ok (.aload_n 0, 1) := by decide +kernel
theorem dX6_count_138 : decode cX6_count 138 = .ok (.getfield 7, 3) := by decide +kernel
theorem dX6_count_141 : decode cX6_count 141 = .ok (.bipush 8, 2) := by decide +kernel
theorem dX6_count_143 : decode cX6_count 143 = .ok (.iaload, 1) := by decide +kernel
theorem dX6_count_144 : decode cX6_count 144 = .ok (.ireturn, 1) := by decide +kernel
theorem dX6_count_145 : decode cX6_count 145 = .ok (.aload_n 0, 1) := by decide +kernel
theorem dX6_count_146 : decode cX6_count 146 = .ok (.getfield 7, 3) := by decide +kernel
theorem dX6_count_149 : decode cX6_count 149 = .ok (.bipush 9, 2) := by decide +kernel
theorem dX6_count_151 : decode cX6_count 151 = .ok (.iaload, 1) := by decide +kernel
theorem dX6_count_152 : decode cX6_count 152 = .ok (.ireturn, 1) := by decide +kernel
theorem dX6_count_153 : decode cX6_count 153 = .ok (.aload_n 0, 1) := by decide +kernel
theorem dX6_count_154 : decode cX6_count 154 = .ok (.getfield 7, 3) := by decide +kernel
theorem dX6_count_157 : decode cX6_count 157 = .ok (.bipush 17, 2) := by decide +kernel
theorem dX6_count_159 : decode cX6_count 159 = .ok (.iaload, 1) := by decide +kernel
theorem dX6_count_160 : decode cX6_count 160 = .ok (.ireturn, 1) := by decide +kernel
theorem dX6_count_161 : decode cX6_count 161 = .ok (.aload_n 0, 1) := by decide +kernel
theorem dX6_count_162 : decode cX6_count 162 = .ok (.getfield 7, 3) := by decide +kernel
theorem dX6_count_165 : decode cX6_count 165 = .ok (.bipush 18, 2) := by decide +kernel
theorem dX6_count_167 : decode cX6_count 167 = .ok (.iaload, 1) := by decide +kernel
theorem dX6_count_168 : decode cX6_count 168 = .ok (.ireturn, 1) := by decide +kernel
theorem dX6_count_169 : decode cX6_count 169 = .ok (.aload_n 0, 1) := by decide +kernel
theorem dX6_count_170 : decode cX6_count 170 = .ok (.getfield 7, 3) := by decide +kernel
theorem dX6_count_173 : decode cX6_count 173 = .ok (.bipush 19, 2) := by decide +kernel
theorem dX6_count_175 : decode cX6_count 175 = .ok (.iaload, 1) := by decide +kernel
theorem dX6_count_176 : decode cX6_count 176 = .ok (.ireturn, 1) := by decide +kernel
theorem dX6_count_177 : decode cX6_count 177 = .ok (.aload_n 0, 1) := by decide +kernel
theorem dX6_count_178 : decode cX6_count 178 = .ok (.getfield 7, 3) := by decide +kernel
theorem dX6_count_181 : decode cX6_count 181 = .ok (.bipush 16, 2) := by decide +kernel
theorem dX6_count_183 : decode cX6_count 183 = .ok (.iaload, 1) := by decide +kernel
theorem dX6_count_184 : decode cX6_count 184 = .ok (.ireturn, 1) := by decide +kernel
theorem dX6_count_185 : decode cX6_count 185 = .ok (.aload_n 0, 1) := by decide +kernel
theorem dX6_count_186 : decode cX6_count 186 = .ok (.getfield 7, 3) := by decide +kernel
theorem dX6_count_189 : decode cX6_count 189 = .ok (.bipush 20, 2) := by decide +kernel
theorem dX6_count_191 : decode cX6_count 191 = .ok (.iaload, 1) := by decide +kernel
theorem dX6_count_192 : decode cX6_count 192 = .ok (.ireturn, 1) := by decide +kernel
theorem dX6_count_193 : decode cX6_count 193 = .ok (.aload_n 0, 1) := by decide +kernel
theorem dX6_count_194 : decode cX6_count 194 = .ok (.getfield 7, 3) := by decide +kernel
theorem dX6_count_197 : decode cX6_count 197 = .ok (.bipush 21, 2) := by decide +kernel
theorem dX6_count_199 : decode cX6_count 199 = .ok (.iaload, 1) := by decide +kernel
theorem dX6_count_200 : decode cX6_count 200 = .ok (.ireturn, 1) := by decide +kernel
theorem dX6_count_201 : decode cX6_count 201 = .ok (.aload_n 0, 1) := by decide +kernel
theorem dX6_count_202 : decode cX6_count 202 = .ok (.getfield 135, 3) := by decide +kernel
theorem dX6_count_205 : decode cX6_count 205 = .ok (.ireturn, 1) := by decide +kernel
theorem dX6_count_206 : decode cX6_count 206 = .ok (.aload_n 0, 1) := by decide +kernel
theorem dX6_count_207 : decode cX6_count 207 = .ok (.getfield 42, 3) := by decide +kernel
theorem dX6_count_210 : decode cX6_count 210 = .ok (.ireturn, 1) := by decide +kernel
theorem dX6_count_211 : decode cX6_count 211 = .ok (.bipush (-2), 2) := by decide +kernel
theorem dX6_count_213 : decode cX6_count 213 = .ok (.ireturn, 1) := by decide +kernel
theorem dX6_wayWith_0 : decode cX6_wayWith 0 = .ok (.aload_n 0, 1) := by decide +kernel
theorem dX6_wayWith_1 : decode cX6_wayWith 1 = .ok (.invokevirtual 138, 3) := by decide +kernel
theorem dX6_wayWith_4 : decode cX6_wayWith 4 = .ok (.aload_n 0, 1) := by decide +kernel
theorem dX6_wayWith_5 : decode cX6_wayWith 5 = .ok (.getfield 7, 3) := by decide +kernel
theorem dX6_wayWith_8 : decode cX6_wayWith 8 = .ok (.iconst 2, 1) := by decide +kernel
theorem dX6_wayWith_9 : decode cX6_wayWith 9 = .ok (.iload_n 1, 1) := by decide +kernel
theorem dX6_wayWith_10 : decode cX6_wayWith 10 = .ok (.iastore, 1) := by decide +kernel
theorem dX6_wayWith_11 : decode cX6_wayWith 11 = .ok (.aload_n 0, 1) := by decide +kernel
theorem dX6_wayWith_12 : decode cX6_wayWith 12 = .ok (.getfield 7, 3) := by decide +kernel
theorem dX6_wayWith_15 : decode cX6_wayWith 15 = .ok (.bipush 9, 2) := by decide +kernel
theorem dX6_wayWith_17 : decode cX6_wayWith 17 = .ok (.aload_n 0, 1) := by decide +kernel
theorem dX6_wayWith_18 : decode cX6_wayWith 18 = .ok (.getfield 7, 3) := by decide +kernel
theorem dX6_wayWith_21 : decode cX6_wayWith 21 = .ok (.bipush 9, 2) := by decide +kernel
theorem dX6_wayWith_23 : decode cX6_wayWith 23 = .ok (.iaload, 1) := by decide +kernel
theorem dX6_wayWith_24 : decode cX6_wayWith 24 = .ok (.ifCond .ne 7, 3) := by decide +kernel
theorem dX6_wayWith_27 : decode cX6_wayWith 27 = .ok (.iconst 1, 1) := by decide +kernel
theorem dX6_wayWith_28 : decode cX6_wayWith 28 = .ok (.goto 10, 3) := by decide +kernel
theorem dX6_wayWith_31 : decode cX6_wayWith 31 = .ok (.aload_n 0, 1) := by decide +kernel
theorem dX6_wayWith_32 : decode cX6_wayWith 32 = .ok (.getfield 7, 3) := by decide +kernel
theorem dX6_wayWith_35 : decode cX6_wayWith 35 = .ok (.bipush 9, 2) := by decide +kernel
theorem dX6_wayWith_37 : decode cX6_wayWith 37 = .ok (.iaload, 1) := by decide +kernel
theorem dX6_wayWith_38 : decode cX6_wayWith 38 = .ok (.iastore, 1) := by decide +kernel
theorem dX6_wayWith_39 : decode cX6_wayWith 39 = .ok (.aload_n 0, 1) := by decide +kernel
theorem dX6_wayWith_40 : decode cX6_wayWith 40 = .ok (.getfield 7, 3) := by decide +kernel
theorem dX6_wayWith_43 : decode cX6_wayWith 43 = .ok (.bipush 20, 2) := by decide +kernel
theorem dX6_wayWith_45 : decode cX6_wayWith 45 = .ok (.iaload, 1) := by decide +kernel
theorem dX6_wayWith_46 : decode cX6_wayWith 46 = .ok (.istore_n 2, 1) := by decide +kernel
theorem dX6_wayWith_47 : decode cX6_wayWith 47 = .ok (.aload_n 0, 1) := by decide +kernel
theorem dX6_wayWith_48 : decode cX6_wayWith 48 = .ok (.getfield 7, 3) := by decide +kernel
theorem dX6_wayWith_51 : decode cX6_wayWith 51 = .ok (.bipush 9, 2) := by decide +kernel
theorem dX6_wayWith_53 : decode cX6_wayWith 53 = .ok (.iaload, 1) := by decide +kernel
theorem dX6_wayWith_54 : decode cX6_wayWith 54 = .ok (.iconst 1, 1) := by decide +kernel
theorem dX6_wayWith_55 : decode cX6_wayWith 55 = .ok (.if_icmp .ne 10, 3) := by decide +kernel
theorem dX6_wayWith_58 : decode cX6_wayWith 58 = .ok (.aload_n 0, 1) := by decide +kernel
theorem dX6_wayWith_59 : decode cX6_wayWith 59 = .ok (.invokevirtual 132, 3) := by decide +kernel
theorem dX6_wayWith_62 : decode cX6_wayWith 62 = .ok (.goto (-15), 3) := by decide +kernel
theorem dX6_wayWith_65 : decode cX6_wayWith 65 = .ok (.aload_n 0, 1) := by decide +kernel
theorem dX6_wayWith_66 : decode cX6_wayWith 66 = .ok (.getfield 7, 3) := by decide +kernel
theorem dX6_wayWith_69 : decode cX6_wayWith 69 = .ok (.bipush 20, 2) := by decide +kernel
theorem dX6_wayWith_71 : decode cX6_wayWith 71 = .ok (.iaload, 1) := by decide +kernel
theorem dX6_wayWith_72 : decode cX6_wayWith 72 = .ok (.iload_n 2, 1) := by decide +kernel
theorem dX6_wayWith_73 : decode cX6_wayWith 73 = .ok (.isub, 1) := by decide +kernel
theorem dX6_wayWith_74 : decode cX6_wayWith 74 = .ok (.istore_n 3, 1) := by decide +kernel
theorem dX6_wayWith_75 : decode cX6_wayWith 75 = .ok (.aload_n 0, 1) := by decide +kernel
theorem dX6_wayWith_76 : decode cX6_wayWith 76 = .ok (.invokevirtual 141, 3) := by decide +kernel
theorem dX6_wayWith_79 : decode cX6_wayWith 79 = .ok (.iload_n 3, 1) := by decide +kernel
theorem dX6_wayWith_80 : decode cX6_wayWith 80 = .ok (.ireturn, 1) := by decide +kernel
theorem dX6_way_0 : decode cX6_way 0 = .ok (.aload_n 0, 1) := by decide +kernel
theorem dX6_way_1 : decode cX6_way 1 = .ok (.aload_n 0, 1) := by decide +kernel
theorem dX6_way_2 : decode cX6_way 2 = .ok (.getfield 7, 3) := by decide +kernel
theorem dX6_way_5 : decode cX6_way 5 = .ok (.iconst 2, 1) := by decide +kernel
theorem dX6_way_6 : decode cX6_way 6 = .ok (.iaload, 1) := by decide +kernel
theorem dX6_way_7 : decode cX6_way 7 = .ok (.invokevirtual 144, 3) := by decide +kernel
theorem dX6_way_10 : decode cX6_way 10 = .ok (.ireturn, 1) := by decide +kernel
theorem dX6_emptyIn_0 : decode cX6_emptyIn 0 = .ok (.aload_n 0, 1) := by decide +kernel
theorem dX6_emptyIn_1 : decode cX6_emptyIn 1 = .ok (.invokevirtual 138, 3) := by decide +kernel
theorem dX6_emptyIn_4 : decode cX6_emptyIn 4 = .ok (.iconst 0, 1) := by decide +kernel
theorem dX6_emptyIn_5 : decode cX6_emptyIn 5 = .ok (.istore_n 1, 1) := by decide +kernel
theorem dX6_emptyIn_6 : decode cX6_emptyIn 6 = .ok (.aload_n 0, 1) := by decide +kernel
theorem dX6_emptyIn_7 : decode cX6_emptyIn 7 = .ok (.getfield 7, 3) := by decide +kernel
theorem dX6_emptyIn_10 : decode cX6_emptyIn 10 = .ok (.bipush 10, 2) := by decide +kernel
theorem dX6_emptyIn_12 : decode cX6_emptyIn 12 = .ok (.iaload, 1) := by decide +kernel
theorem dX6_emptyIn_13 : decode cX6_emptyIn 13 = .ok (.ifCond .le 20, 3) := by decide +kernel
theorem dX6_emptyIn_16 : decode cX6_emptyIn 16 = .ok (.iload_n 1, 1) := by decide +kernel
theorem dX6_emptyIn_17 : decode cX6_emptyIn 17 = .ok (.sipush 3000, 3) := by decide +kernel
theorem dX6_emptyIn_20 : decode cX6_emptyIn 20 = .ok (.if_icmp .gt 13, 3) := by decide +kernel
theorem dX6_emptyIn_23 : decode cX6_emptyIn 23 = .ok (.aload_n 0, 1) := by decide +kernel
theorem dX6_emptyIn_24 : decode cX6_emptyIn 24 = .ok (.invokevirtual 132, 3) := by decide +kernel
theorem dX6_emptyIn_27 : decode cX6_emptyIn 27 = .ok (.iinc 1 1, 3) := by decide +kernel
theorem dX6_emptyIn_30 : decode cX6_emptyIn 30 = .ok (.goto (-24), 3) := by decide +kernel
theorem dX6_emptyIn_33 : decode cX6_emptyIn 33 = .ok (.aload_n 0, 1) := by decide +kernel
theorem dX6_emptyIn_34 : decode cX6_emptyIn 34 = .ok (.invokevirtual 141, 3) := by decide +kernel
theorem dX6_emptyIn_37 : decode cX6_emptyIn 37 = .ok (.iload_n 1, 1) := by decide +kernel
theorem dX6_emptyIn_38 : decode cX6_emptyIn 38 = .ok (.sipush 3000, 3) := by decide +kernel
theorem dX6_emptyIn_41 : decode cX6_emptyIn 41 = .ok (.if_icmp .le 8, 3) := by decide +kernel
theorem dX6_emptyIn_44 : decode cX6_emptyIn 44 = .ok (.bipush (-6), 2) := by decide +kernel
theorem dX6_emptyIn_46 : decode cX6_emptyIn 46 = .ok (.goto 4, 3) := by decide +kernel
theorem dX6_emptyIn_49 : decode cX6_emptyIn 49 = .ok (.iload_n 1, 1) := by decide +kernel
theorem dX6_emptyIn_50 : decode cX6_emptyIn 50 = .ok (.ireturn, 1) := by decide +kernel
theorem dX6_leastRamp_0 : decode cX6_leastRamp 0 = .ok (.iload_n 1, 1) := by decide +kernel
theorem dX6_leastRamp_1 : decode cX6_leastRamp 1 = .ok (.iconst 0, 1) := by decide +kernel
theorem dX6_leastRamp_2 : decode cX6_leastRamp 2 = .ok (.sipush 9999, 3) := by decide +kernel
theorem dX6_leastRamp_5 : decode cX6_leastRamp 5 = .ok (.invokestatic 46, 3) := by decide +kernel
theorem dX6_leastRamp_8 : decode cX6_leastRamp 8 = .ok (.ifCond .ne 6, 3) := by decide +kernel
theorem dX6_leastRamp_11 : decode cX6_leastRamp 11 = .ok (.bipush (-2), 2) := by decide +kernel
theorem dX6_leastRamp_13 : decode cX6_leastRamp 13 = .ok (.ireturn, 1) := by decide +kernel
theorem dX6_leastRamp_14 : decode cX6_leastRamp 14 = .ok (.bipush (-6), 2) := by decide +kernel
theorem dX6_leastRamp_16 : decode cX6_leastRamp 16 = .ok (.istore_n 2, 1) := by decide +kernel
theorem dX6_leastRamp_17 : decode cX6_leastRamp 17 = .ok (.bipush 30, 2) := by decide +kernel
theorem dX6_leastRamp_19 : decode cX6_leastRamp 19 = .ok (.istore_n 3, 1) := by decide +kernel
theorem dX6_leastRamp_20 : decode cX6_leastRamp 20 = .ok (.iload_n 3, 1) := by decide +kernel
theorem dX6_leastRamp_21 : decode cX6_leastRamp 21 = .ok (.iconst 1, 1) := by decide +kernel
theorem dX6_leastRamp_22 : decode cX6_leastRamp 22 = .ok (.if_icmp .lt 24, 3) := by decide +kernel
theorem dX6_leastRamp_25 : decode cX6_leastRamp 25 = .ok (.aload_n 0, 1) := by decide +kernel
theorem dX6_leastRamp_26 : decode cX6_leastRamp 26 = .ok (.iload_n 3, 1) := by decide +kernel
theorem dX6_leastRamp_27 : decode cX6_leastRamp 27 = .ok (.invokevirtual 144, 3) := by decide +kernel
theorem dX6_leastRamp_30 : decode cX6_leastRamp 30 = .ok (.iload_n 1, 1) := by decide +kernel
theorem dX6_leastRamp_31 : decode cX6_leastRamp 31 = .ok (.if_icmp .gt 7, 3) := by decide +kernel
theorem dX6_leastRamp_34 : decode cX6_leastRamp 34 = .ok (.iload_n 3, 1) := by decide +kernel
theorem dX6_leastRamp_35 : decode cX6_leastRamp 35 = .ok (.goto 4, 3) := by decide +kernel
theorem dX6_leastRamp_38 : decode cX6_leastRamp 38 = .ok (.iload_n 2, 1) := by decide +kernel
theorem dX6_leastRamp_39 : decode cX6_leastRamp 39 = .ok (.istore_n 2, 1) := by decide +kernel
theorem dX6_leastRamp_40 : decode cX6_leastRamp 40 = .ok (.iinc 3 (-1), 3) := by decide +kernel
theorem dX6_leastRamp_43 : decode cX6_leastRamp 43 = .ok (.goto (-23), 3) := by decide +kernel
theorem dX6_leastRamp_46 : decode cX6_leastRamp 46 = .ok (.iload_n 2, 1) := by decide +kernel
theorem dX6_leastRamp_47 : decode cX6_leastRamp 47 = .ok (.ireturn, 1) := by decide +kernel
theorem dX6_wouldHold_0 : decode cX6_wouldHold 0 = .ok (.iload_n 1, 1) := by decide +kernel
theorem dX6_wouldHold_1 : decode cX6_wouldHold 1 = .ok (.iconst 0, 1) := by decide +kernel
theorem dX6_wouldHold_2 : decode cX6_wouldHold 2 = .ok (.sipush 255, 3) := by decide +kernel
theorem dX6_wouldHold_5 : decode cX6_wouldHold 5 = .ok (.invokestatic 46, 3) := by decide +kernel
theorem dX6_wouldHold_8 : decode cX6_wouldHold 8 = .ok (.ifCond .ne 6, 3) := by decide +kernel
theorem dX6_wouldHold_11 : decode cX6_wouldHold 11 = .ok (.bipush (-2), 2) := by decide +kernel
theorem dX6_wouldHold_13 : decode cX6_wouldHold 13 = .ok (.ireturn, 1) := by decide +kernel
theorem dX6_wouldHold_14 : decode cX6_wouldHold 14 = .ok (.aload_n 0, 1) := by decide +kernel
theorem dX6_wouldHold_15 : decode cX6_wouldHold 15 = .ok (.iload_n 1, 1) := by decide +kernel
theorem dX6_wouldHold_16 : decode cX6_wouldHold 16 = .ok (.invokevirtual 80, 3) := by decide +kernel
theorem dX6_wouldHold_19 : decode cX6_wouldHold 19 = .ok (.ifCond .eq 7, 3) := by decide +kernel
theorem dX6_wouldHold_22 : decode cX6_wouldHold 22 = .ok (.iconst 1, 1) := by decide +kernel
theorem dX6_wouldHold_23 : decode cX6_wouldHold 23 = .ok (.goto 4, 3) := by decide +kernel
theorem dX6_wouldHold_26 : decode cX6_wouldHold 26 = .ok (.iconst 0, 1) := by decide +kernel
theorem dX6_wouldHold_27 : decode cX6_wouldHold 27 = .ok (.ireturn, 1) := by decide +kernel
theorem dX6_bits_0 : decode cX6_bits 0 = .ok (.iconst 0, 1) := by decide +kernel
theorem dX6_bits_1 : decode cX6_bits 1 = .ok (.istore_n 1, 1) := by decide +kernel
theorem dX6_bits_2 : decode cX6_bits 2 = .ok (.iload_n 0, 1) := by decide +kernel
theorem dX6_bits_3 : decode cX6_bits 3 = .ok (.istore_n 2, 1) := by decide +kernel
theorem dX6_bits_4 : decode cX6_bits 4 = .ok (.iload_n 2, 1) := by decide +kernel
theorem dX6_bits_5 : decode cX6_bits 5 = .ok (.ifCond .eq 15, 3) := by decide +kernel
theorem dX6_bits_8 : decode cX6_bits 8 = .ok (.iinc 1 1, 3) := by decide +kernel
theorem dX6_bits_11 : decode cX6_bits 11 = .ok (.iload_n 2, 1) := by decide +kernel
theorem dX6_bits_12 : decode cX6_bits 12 = .ok (.iload_n 2, 1) := by decide +kernel
theorem dX6_bits_13 : decode cX6_bits 13 = .ok (.iconst 1, 1) := by decide +kernel
theorem dX6_bits_14 : decode cX6_bits 14 = .ok (.isub, 1) := by decide +kernel
theorem dX6_bits_15 : decode cX6_bits 15 = .ok (.iand, 1) := by decide +kernel
theorem dX6_bits_16 : decode cX6_bits 16 = .ok (.istore_n 2, 1) := by decide +kernel
theorem dX6_bits_17 : decode cX6_bits 17 = .ok (.goto (-13), 3) := by decide +kernel
theorem dX6_bits_20 : decode cX6_bits 20 = .ok (.iload_n 1, 1) := by decide +kernel
theorem dX6_bits_21 : decode cX6_bits 21 = .ok (.ireturn, 1) := by decide +kernel
theorem dX6_fewest_0 : decode cX6_fewest 0 = .ok (.bipush (-6), 2) := by decide +kernel
theorem dX6_fewest_2 : decode cX6_fewest 2 = .ok (.istore_n 1, 1) := by decide +kernel
theorem dX6_fewest_3 : decode cX6_fewest 3 = .ok (.iconst 0, 1) := by decide +kernel
theorem dX6_fewest_4 : decode cX6_fewest 4 = .ok (.istore_n 2, 1) := by decide +kernel
theorem dX6_fewest_5 : decode cX6_fewest 5 = .ok (.iload_n 2, 1) := by decide +kernel
theorem dX6_fewest_6 : decode cX6_fewest 6 = .ok (.sipush 256, 3) := by decide +kernel
theorem dX6_fewest_9 : decode cX6_fewest 9 = .ok (.if_icmp .ge 36, 3) := by decide +kernel
theorem dX6_fewest_12 : decode cX6_fewest 12 = .ok (.aload_n 0, 1) := by decide +kernel
theorem dX6_fewest_13 : decode cX6_fewest 13 = .ok (.iload_n 2, 1) := by decide +kernel
theorem dX6_fewest_14 : decode cX6_fewest 14 = .ok (.invokevirtual 80, 3) := by decide +kernel
theorem dX6_fewest_17 : decode cX6_fewest 17 = .ok (.ifCond .eq 22, 3) := by decide +kernel
theorem dX6_fewest_20 : decode cX6_fewest 20 = .ok (.iload_n 1, 1) := by decide +kernel
theorem dX6_fewest_21 : decode cX6_fewest 21 = .ok (.bipush (-6), 2) := by decide +kernel
theorem dX6_fewest_23 : decode cX6_fewest 23 = .ok (.if_icmp .eq 14, 3) := by decide +kernel
theorem dX6_fewest_26 : decode cX6_fewest 26 = .ok (.iload_n 2, 1) := by decide +kernel
theorem dX6_fewest_27 : decode cX6_fewest 27 = .ok (.invokestatic 147, 3) := by decide +kernel
theorem dX6_fewest_30 : decode cX6_fewest 30 = .ok (.iload_n 1, 1) := by decide +kernel
theorem dX6_fewest_31 : decode cX6_fewest 31 = .ok (.invokestatic 147, 3) := by decide +kernel
theorem dX6_fewest_34 : decode cX6_fewest 34 = .ok (.if_icmp .ge 5, 3) := by decide +kernel
theorem dX6_fewest_37 : decode cX6_fewest 37 = .ok (.iload_n 2, 1) := by decide +kernel
theorem dX6_fewest_38 : decode cX6_fewest 38 = .ok (.istore_n 1, 1) := by decide +kernel
theorem dX6_fewest_39 : decode cX6_fewest 39 = .ok (.iinc 2 1, 3) := by decide +kernel
theorem dX6_fewest_42 : decode cX6_fewest 42 = .ok (.goto (-37), 3) := by decide +kernel
theorem dX6_fewest_45 : decode cX6_fewest 45 = .ok (.iload_n 1, 1) := by decide +kernel
theorem dX6_fewest_46 : decode cX6_fewest 46 = .ok (.ireturn, 1) := by decide +kernel
theorem dX6_put_0 : decode cX6_put 0 = .ok (.iconst 0, 1) := by decide +kernel
theorem dX6_put_1 : decode cX6_put 1 = .ok (.istore_n 3, 1) := by decide +kernel
theorem dX6_put_2 : decode cX6_put 2 = .ok (.lload_n 1, 1) := by decide +kernel
theorem dX6_put_3 : decode cX6_put 3 = .ok (.lstore 4, 2) := by decide +kernel
theorem dX6_put_5 : decode cX6_put 5 = .ok (.iconst 1, 1) := by decide +kernel
theorem dX6_put_6 : decode cX6_put 6 = .ok (.istore 6, 2) := by decide +kernel
theorem dX6_put_8 : decode cX6_put 8 = .ok (.lload 4, 2) := by decide +kernel
theorem dX6_put_10 : decode cX6_put 10 = .ok (.lconst 0, 1) := by decide +kernel
theorem dX6_put_11 : decode cX6_put 11 = .ok (.lcmp, 1) := by decide +kernel
theorem dX6_put_12 : decode cX6_put 12 = .ok (.ifCond .eq 37, 3) := by decide +kernel
theorem dX6_put_15 : decode cX6_put 15 = .ok (.iload 6, 2) := by decide +kernel
theorem dX6_put_17 : decode cX6_put 17 = .ok (.ifCond .eq 32, 3) := by decide +kernel
theorem dX6_put_20 : decode cX6_put 20 = .ok (.lload 4, 2) := by decide +kernel
theorem dX6_put_22 : decode cX6_put 22 = .ok (.ldc2_w 150, 3) := by decide +kernel
theorem dX6_put_25 : decode cX6_put 25 = .ok (.land, 1) := by decide +kernel
theorem dX6_put_26 : decode cX6_put 26 = .ok (.l2i, 1) := by decide +kernel
theorem dX6_put_27 : decode cX6_put 27 = .ok (.bipush 33, 2) := by decide +kernel
theorem dX6_put_29 : decode cX6_put 29 = .ok (.bipush 126, 2) := by decide +kernel
theorem dX6_put_31 : decode cX6_put 31 = .ok (.invokestatic 46, 3) := by decide +kernel
theorem dX6_put_34 : decode cX6_put 34 = .ok (.istore 6, 2) := by decide +kernel
theorem dX6_put_36 : decode cX6_put 36 = .ok (.lload 4, 2) := by decide +kernel
theorem dX6_put_38 : decode cX6_put 38 = .ok (.bipush 8, 2) := by decide +kernel
theorem dX6_put_40 : decode cX6_put 40 = .ok (.lushr, 1) := by decide +kernel
theorem dX6_put_41 : decode cX6_put 41 = .ok (.lstore 4, 2) := by decide +kernel
theorem dX6_put_43 : decode cX6_put 43 = .ok (.iinc 3 1, 3) := by decide +kernel
theorem dX6_put_46 : decode cX6_put 46 = .ok (.goto (-38), 3) := by decide +kernel
theorem dX6_put_49 : decode cX6_put 49 = .ok (.iload_n 3, 1) := by decide +kernel
theorem dX6_put_50 : decode cX6_put 50 = .ok (.ifCond .eq 8, 3) := by decide +kernel
theorem dX6_put_53 : decode cX6_put 53 = .ok (.iload 6, 2) := by decide +kernel
theorem dX6_put_55 : decode cX6_put 55 = .ok (.ifCond .ne 6, 3) := by decide +kernel
theorem dX6_put_58 : decode cX6_put 58 = .ok (.bipush (-2), 2) := by decide +kernel
theorem dX6_put_60 : decode cX6_put 60 = .ok (.ireturn, 1) := by decide +kernel
theorem dX6_put_61 : decode cX6_put 61 = .ok (.aload_n 0, 1) := by decide +kernel
theorem dX6_put_62 : decode cX6_put 62 = .ok (.getfield 135, 3) := by decide +kernel
theorem dX6_put_65 : decode cX6_put 65 = .ok (.iload_n 3, 1) := by decide +kernel
theorem dX6_put_66 : decode cX6_put 66 = .ok (.iadd, 1) := by decide +kernel
theorem dX6_put_67 : decode cX6_put 67 = .ok (.bipush 60, 2) := by decide +kernel
theorem dX6_put_69 : decode cX6_put 69 = .ok (.if_icmp .le 6, 3) := by decide +kernel
theorem dX6_put_72 : decode cX6_put 72 = .ok (.bipush (-4), 2) := by decide +kernel
theorem dX6_put_74 : decode cX6_put 74 = .ok (.ireturn, 1) := by decide +kernel
theorem dX6_put_75 : decode cX6_put 75 = .ok (.iload_n 3, 1) := by decide +kernel
theorem dX6_put_76 : decode cX6_put 76 = .ok (.iconst 1, 1) := by decide +kernel
theorem dX6_put_77 : decode cX6_put 77 = .ok (.isub, 1) := by decide +kernel
theorem dX6_put_78 : decode cX6_put 78 = .ok (.istore 7, 2) := by decide +kernel
theorem dX6_put_80 : decode cX6_put 80 = .ok (.iload 7, 2) := by decide +kernel
theorem dX6_put_82 : decode cX6_put 82 = .ok (.ifCond .lt 41, 3) := by decide +kernel
theorem dX6_put_85 : decode cX6_put 85 = .ok (.aload_n 0, 1) := by decide +kernel
theorem dX6_put_86 : decode cX6_put 86 = .ok (.getfield 26, 3) := by decide +kernel
theorem dX6_put_89 : decode cX6_put 89 = .ok (.aload_n 0, 1) := by decide +kernel
theorem dX6_put_90 : decode cX6_put 90 = .ok (.getfield 135, 3) := by decide +kernel
theorem dX6_put_93 : decode cX6_put 93 = .ok (.lload_n 1, 1) := by decide +kernel
theorem dX6_put_94 : decode cX6_put 94 = .ok (.bipush 8, 2) := by decide +kernel
theorem dX6_put_96 : decode cX6_put 96 = .ok (.iload 7, 2) := by decide +kernel
theorem dX6_put_98 : decode cX6_put 98 = .ok (.imul, 1) := by decide +kernel
theorem dX6_put_99 : decode cX6_put 99 = .ok (.lushr, 1) := by decide +kernel
theorem dX6_put_100 : decode cX6_put 100 = .ok (.ldc2_w 150, 3) := by decide +kernel
theorem dX6_put_103 : decode cX6_put 103 = .ok (.land, 1) := by decide +kernel
theorem dX6_put_104 : decode cX6_put 104 = .ok (.l2i, 1) := by decide +kernel
theorem dX6_put_105 : decode cX6_put 105 = .ok (.i2c, 1) := by decide +kernel
theorem dX6_put_106 : decode cX6_put 106 = .ok (.castore, 1) := by decide +kernel
theorem dX6_put_107 : decode cX6_put 107 = .ok (.aload_n 0, 1) := by decide +kernel
theorem dX6_put_108 : decode cX6_put 108 = .ok (.dup, 1) := by decide +kernel
theorem dX6_put_109 : decode cX6_put 109 = .ok (.getfield 135, 3) := by decide +kernel
theorem dX6_put_112 : decode cX6_put 112 = .ok (.iconst 1, 1) := by decide +kernel
theorem dX6_put_113 : decode cX6_put 113 = .ok (.iadd, 1) := by decide +kernel
theorem dX6_put_114 : decode cX6_put 114 = .ok (.putfield 135, 3) := by decide +kernel
theorem dX6_put_117 : decode cX6_put 117 = .ok (.iinc 7 (-1), 3) := by decide +kernel
theorem dX6_put_120 : decode cX6_put 120 = .ok (.goto (-40), 3) := by decide +kernel
theorem dX6_put_123 : decode cX6_put 123 = .ok (.aload_n 0, 1) := by decide +kernel
theorem dX6_put_124 : decode cX6_put 124 = .ok (.getfield 135, 3) := by decide +kernel
theorem dX6_put_127 : decode cX6_put 127 = .ok (.ireturn, 1) := by decide +kernel
theorem dX6_wipe_0 : decode cX6_wipe 0 = .ok (.aload_n 0, 1) := by decide +kernel
theorem dX6_wipe_1 : decode cX6_wipe 1 = .ok (.getfield 135, 3) := by decide +kernel
theorem dX6_wipe_4 : decode cX6_wipe 4 = .ok (.istore_n 1, 1) := by decide +kernel
theorem dX6_wipe_5 : decode cX6_wipe 5 = .ok (.aload_n 0, 1) := by decide +kernel
theorem dX6_wipe_6 : decode cX6_wipe 6 = .ok (.iconst 0, 1) := by decide +kernel
theorem dX6_wipe_7 : decode cX6_wipe 7 = .ok (.putfield 135, 3) := by decide +kernel
theorem dX6_wipe_10 : decode cX6_wipe 10 = .ok (.iload_n 1, 1) := by decide +kernel
theorem dX6_wipe_11 : decode cX6_wipe 11 = .ok (.ireturn, 1) := by decide +kernel
theorem dX6_fault_0 : decode cX6_fault 0 = .ok (.iconst 1, 1) := by decide +kernel
theorem dX6_fault_1 : decode cX6_fault 1 = .ok (.istore_n 1, 1) := by decide +kernel
theorem dX6_fault_2 : decode cX6_fault 2 = .ok (.iconst 0, 1) := by decide +kernel
theorem dX6_fault_3 : decode cX6_fault 3 = .ok (.istore_n 2, 1) := by decide +kernel
theorem dX6_fault_4 : decode cX6_fault 4 = .ok (.iconst 0, 1) := by decide +kernel
theorem dX6_fault_5 : decode cX6_fault 5 = .ok (.istore_n 3, 1) := by decide +kernel
theorem dX6_fault_6 : decode cX6_fault 6 = .ok (.iload_n 3, 1) := by decide +kernel
theorem dX6_fault_7 : decode cX6_fault 7 = .ok (.aload_n 0, 1) := by decide +kernel
theorem dX6_fault_8 : decode cX6_fault 8 = .ok (.getfield 135, 3) := by decide +kernel
theorem dX6_fault_11 : decode cX6_fault 11 = .ok (.if_icmp .ge 156, 3) := by decide +kernel
theorem dX6_fault_14 : decode cX6_fault 14 = .ok (.aload_n 0, 1) := by decide +kernel
theorem dX6_fault_15 : decode cX6_fault 15 = .ok (.getfield 26, 3) := by decide +kernel
theorem dX6_fault_18 : decode cX6_fault 18 = .ok (.iload_n 3, 1) := by decide +kernel
theorem dX6_fault_19 : decode cX6_fault 19 = .ok (.caload, 1) := by decide +kernel
theorem dX6_fault_20 : decode cX6_fault 20 = .ok (.istore 4, 2) := by decide +kernel
theorem dX6_fault_22 : decode cX6_fault 22 = .ok (.iload 4, 2) := by decide +kernel
theorem dX6_fault_24 : decode cX6_fault 24 = .ok (.bipush 33, 2) := by decide +kernel
theorem dX6_fault_26 : decode cX6_fault 26 = .ok (.if_icmp .eq 10, 3) := by decide +kernel
theorem dX6_fault_29 : decode cX6_fault 29 = .ok (.iload 4, 2) := by decide +kernel
theorem dX6_fault_31 : decode cX6_fault 31 = .ok (.bipush 40, 2) := by decide +kernel
theorem dX6_fault_33 : decode cX6_fault 33 = .ok (.if_icmp .ne 7, 3) := by decide +kernel
theorem dX6_fault_36 : decode cX6_fault 36 = .ok (.iconst 1, 1) := by decide +kernel
theorem dX6_fault_37 : decode cX6_fault 37 = .ok (.goto 4, 3) := by decide +kernel
theorem dX6_fault_40 : decode cX6_fault 40 = .ok (.iconst 0, 1) := by decide +kernel
theorem dX6_fault_41 : decode cX6_fault 41 = .ok (.istore 5, 2) := by decide +kernel
theorem dX6_fault_43 : decode cX6_fault 43 = .ok (.iload 4, 2) := by decide +kernel
theorem dX6_fault_45 : decode cX6_fault 45 = .ok (.bipush 38, 2) := by decide +kernel
theorem dX6_fault_47 : decode cX6_fault 47 = .ok (.if_icmp .eq 10, 3) := by decide +kernel
theorem dX6_fault_50 : decode cX6_fault 50 = .ok (.iload 4, 2) := by decide +kernel
theorem dX6_fault_52 : decode cX6_fault 52 = .ok (.bipush 124, 2) := by decide +kernel
theorem dX6_fault_54 : decode cX6_fault 54 = .ok (.if_icmp .ne 7, 3) := by decide +kernel
theorem dX6_fault_57 : decode cX6_fault 57 = .ok (.iconst 1, 1) := by decide +kernel
theorem dX6_fault_58 : decode cX6_fault 58 = .ok (.goto 4, 3) := by decide +kernel
theorem dX6_fault_61 : decode cX6_fault 61 = .ok (.iconst 0, 1) := by decide +kernel
theorem dX6_fault_62 : decode cX6_fault 62 = .ok (.istore 6, 2) := by decide +kernel
theorem dX6_fault_64 : decode cX6_fault 64 = .ok (.iload_n 1, 1) := by decide +kernel
theorem dX6_fault_65 : decode cX6_fault 65 = .ok (.ifCond .eq 24, 3) := by decide +kernel
theorem dX6_fault_68 : decode cX6_fault 68 = .ok (.iload 5, 2) := by decide +kernel
theorem dX6_fault_70 : decode cX6_fault 70 = .ok (.ifCond .ne 11, 3) := by decide +kernel
theorem dX6_fault_73 : decode cX6_fault 73 = .ok (.iload 4, 2) := by decide +kernel
theorem dX6_fault_75 : decode cX6_fault 75 = .ok (.invokestatic 84, 3) := by decide +kernel
theorem dX6_fault_78 : decode cX6_fault 78 = .ok (.ifCond .eq 7, 3) := by decide +kernel
theorem dX6_fault_81 : decode cX6_fault 81 = .ok (.iconst 1, 1) := by decide +kernel
theorem dX6_fault_82 : decode cX6_fault 82 = .ok (.goto 28, 3) := by decide +kernel
theorem dX6_fault_85 : decode cX6_fault 85 = .ok (.iconst 0, 1) := by decide +kernel
theorem dX6_fault_86 : decode cX6_fault 86 = .ok (.goto 24, 3) := by decide +kernel
theorem dX6_fault_89 : decode cX6_fault 89 = .ok (.iload 6, 2) := by decide +kernel
theorem dX6_fault_91 : decode cX6_fault 91 = .ok (.ifCond .ne 14, 3) := by decide +kernel
theorem dX6_fault_94 : decode cX6_fault 94 = .ok (.iload 4, 2) := by decide +kernel
theorem dX6_fault_96 : decode cX6_fault 96 = .ok (.bipush 41, 2) := by decide +kernel
theorem dX6_fault_98 : decode cX6_fault 98 = .ok (.if_icmp .ne 11, 3) := by decide +kernel
theorem dX6_fault_101 : decode cX6_fault 101 = .ok (.iload_n 2, 1) := by decide +kernel
theorem dX6_fault_102 : decode cX6_fault 102 = .ok (.ifCond .le 7, 3) := by decide +kernel
theorem dX6_fault_105 : decode cX6_fault 105 = .ok (.iconst 1, 1) := by decide +kernel
theorem dX6_fault_106 : decode cX6_fault 106 = .ok (.goto 4, 3) := by decide +kernel
theorem dX6_fault_109 : decode cX6_fault 109 = .ok (.iconst 0, 1) := by decide +kernel
theorem dX6_fault_110 : decode cX6_fault 110 = .ok (.istore 7, 2) := by decide +kernel
theorem dX6_fault_112 : decode cX6_fault 112 = .ok (.iload 7, 2) := by decide +kernel
theorem dX6_fault_114 : decode cX6_fault 114 = .ok (.ifCond .ne 5, 3) := by decide +kernel
theorem dX6_fault_117 : decode cX6_fault 117 = .ok (.iload_n 3, 1) := by decide +kernel
theorem dX6_fault_118 : decode cX6_fault 118 = .ok (.ireturn, 1) := by decide +kernel
theorem dX6_fault_119 : decode cX6_fault 119 = .ok (.iload_n 2, 1) := by decide +kernel
theorem dX6_fault_120 : decode cX6_fault 120 = .ok (.iload 4, 2) := by decide +kernel
theorem dX6_fault_122 : decode cX6_fault 122 = .ok (.bipush 40, 2) := by decide +kernel
theorem dX6_fault_124 : decode cX6_fault 124 = .ok (.if_icmp .ne 7, 3) := by decide +kernel
theorem dX6_fault_127 : decode cX6_fault 127 = .ok (.iconst 1, 1) := by decide +kernel
theorem dX6_fault_128 : decode cX6_fault 128 = .ok (.goto 15, 3) := by decide +kernel
theorem dX6_fault_131 : decode cX6_fault 131 = .ok (.iload 4, 2) := by decide +kernel
theorem dX6_fault_133 : decode cX6_fault 133 = .ok (.bipush 41, 2) := by decide +kernel
theorem dX6_fault_135 : decode cX6_fault 135 = .ok (.if_icmp .ne 7, 3) := by decide +kernel
theorem dX6_fault_138 : decode cX6_fault 138 = .ok (.iconst (-1), 1) := by decide +kernel
theorem dX6_fault_139 : decode cX6_fault 139 = .ok (.goto 4, 3) := by decide +kernel
theorem dX6_fault_142 : decode cX6_fault 142 = .ok (.iconst 0, 1) := by decide +kernel
theorem dX6_fault_143 : decode cX6_fault 143 = .ok (.iadd, 1) := by decide +kernel
theorem dX6_fault_144 : decode cX6_fault 144 = .ok (.istore_n 2, 1) := by decide +kernel
theorem dX6_fault_145 : decode cX6_fault 145 = .ok (.iload 5, 2) := by decide +kernel
theorem dX6_fault_147 : decode cX6_fault 147 = .ok (.ifCond .ne 8, 3) := by decide +kernel
theorem dX6_fault_150 : decode cX6_fault 150 = .ok (.iload 6, 2) := by decide +kernel
theorem dX6_fault_152 : decode cX6_fault 152 = .ok (.ifCond .eq 7, 3) := by decide +kernel
theorem dX6_fault_155 : decode cX6_fault 155 = .ok (.iconst 1, 1) := by decide +kernel
theorem dX6_fault_156 : decode cX6_fault 156 = .ok (.goto 4, 3) := by decide +kernel
theorem dX6_fault_159 : decode cX6_fault 159 = .ok (.iconst 0, 1) := by decide +kernel
theorem dX6_fault_160 : decode cX6_fault 160 = .ok (.istore_n 1, 1) := by decide +kernel
theorem dX6_fault_161 : decode cX6_fault 161 = .ok (.iinc 3 1, 3) := by decide +kernel
theorem dX6_fault_164 : decode cX6_fault 164 = .ok (.goto (-158), 3) := by decide +kernel
theorem dX6_fault_167 : decode cX6_fault 167 = .ok (.iload_n 1, 1) := by decide +kernel
theorem dX6_fault_168 : decode cX6_fault 168 = .ok (.ifCond .ne 7, 3) := by decide +kernel
theorem dX6_fault_171 : decode cX6_fault 171 = .ok (.iload_n 2, 1) := by decide +kernel
theorem dX6_fault_172 : decode cX6_fault 172 = .ok (.ifCond .le 10, 3) := by decide +kernel
theorem dX6_fault_175 : decode cX6_fault 175 = .ok (.aload_n 0, 1) := by decide +kernel
theorem dX6_fault_176 : decode cX6_fault 176 = .ok (.getfield 135, 3) := by decide +kernel
theorem dX6_fault_179 : decode cX6_fault 179 = .ok (.goto 5, 3) := by decide +kernel
theorem dX6_fault_182 : decode cX6_fault 182 = .ok (.bipush (-6), 2) := by decide +kernel
theorem dX6_fault_184 : decode cX6_fault 184 = .ok (.ireturn, 1) := by decide +kernel
theorem dX6_load_0 : decode cX6_load 0 = .ok (.aload_n 0, 1) := by decide +kernel
theorem dX6_load_1 : decode cX6_load 1 = .ok (.invokevirtual 152, 3) := by decide +kernel
theorem dX6_load_4 : decode cX6_load 4 = .ok (.bipush (-6), 2) := by decide +kernel
theorem dX6_load_6 : decode cX6_load 6 = .ok (.if_icmp .eq 6, 3) := by decide +kernel
theorem dX6_load_9 : decode cX6_load 9 = .ok (.bipush (-3), 2) := by decide +kernel
theorem dX6_load_11 : decode cX6_load 11 = .ok (.ireturn, 1) := by decide +kernel
theorem dX6_load_12 : decode cX6_load 12 = .ok (.aload_n 0, 1) := by decide +kernel
theorem dX6_load_13 : decode cX6_load 13 = .ok (.invokevirtual 50, 3) := by decide +kernel
theorem dX6_load_16 : decode cX6_load 16 = .ok (.iconst 0, 1) := by decide +kernel
theorem dX6_load_17 : decode cX6_load 17 = .ok (.istore_n 1, 1) := by decide +kernel
theorem dX6_load_18 : decode cX6_load 18 = .ok (.iload_n 1, 1) := by decide +kernel
theorem dX6_load_19 : decode cX6_load 19 = .ok (.bipush 60, 2) := by decide +kernel
theorem dX6_load_21 : decode cX6_load 21 = .ok (.if_icmp .ge 36, 3) := by decide +kernel
theorem dX6_load_24 : decode cX6_load 24 = .ok (.aload_n 0, 1) := by decide +kernel
theorem dX6_load_25 : decode cX6_load 25 = .ok (.getfield 7, 3) := by decide +kernel
theorem dX6_load_28 : decode cX6_load 28 = .ok (.bipush 23, 2) := by decide +kernel
theorem dX6_load_30 : decode cX6_load 30 = .ok (.iload_n 1, 1) := by decide +kernel
theorem dX6_load_31 : decode cX6_load 31 = .ok (.iadd, 1) := by decide +kernel
theorem dX6_load_32 : decode cX6_load 32 = .ok (.iload_n 1, 1) := by decide +kernel
theorem dX6_load_33 : decode cX6_load 33 = .ok (.aload_n 0, 1) := by decide +kernel
theorem dX6_load_34 : decode cX6_load 34 = .ok (.getfield 135, 3) := by decide +kernel
theorem dX6_load_37 : decode cX6_load 37 = .ok (.if_icmp .ge 12, 3) := by decide +kernel
theorem dX6_load_40 : decode cX6_load 40 = .ok (.aload_n 0, 1) := by decide +kernel
theorem dX6_load_41 : decode cX6_load 41 = .ok (.getfield 26, 3) := by decide +kernel
theorem dX6_load_44 : decode cX6_load 44 = .ok (.iload_n 1, 1) := by decide +kernel
theorem dX6_load_45 : decode cX6_load 45 = .ok (.caload, 1) := by decide +kernel
theorem dX6_load_46 : decode cX6_load 46 = .ok (.goto 4, 3) := by decide +kernel
theorem dX6_load_49 : decode cX6_load 49 = .ok (.iconst 0, 1) := by decide +kernel
theorem dX6_load_50 : decode cX6_load 50 = .ok (.iastore, 1) := by decide +kernel
theorem dX6_load_51 : decode cX6_load 51 = .ok (.iinc 1 1, 3) := by decide +kernel
theorem dX6_load_54 : decode cX6_load 54 = .ok (.goto (-36), 3) := by decide +kernel
theorem dX6_load_57 : decode cX6_load 57 = .ok (.aload_n 0, 1) := by decide +kernel
theorem dX6_load_58 : decode cX6_load 58 = .ok (.getfield 7, 3) := by decide +kernel
theorem dX6_load_61 : decode cX6_load 61 = .ok (.bipush 22, 2) := by decide +kernel
theorem dX6_load_63 : decode cX6_load 63 = .ok (.aload_n 0, 1) := by decide +kernel
theorem dX6_load_64 : decode cX6_load 64 = .ok (.getfield 135, 3) := by decide +kernel
theorem dX6_load_67 : decode cX6_load 67 = .ok (.iastore, 1) := by decide +kernel
theorem dX6_load_68 : decode cX6_load 68 = .ok (.aload_n 0, 1) := by decide +kernel
theorem dX6_load_69 : decode cX6_load 69 = .ok (.iconst 0, 1) := by decide +kernel
theorem dX6_load_70 : decode cX6_load 70 = .ok (.putfield 135, 3) := by decide +kernel
theorem dX6_load_73 : decode cX6_load 73 = .ok (.aload_n 0, 1) := by decide +kernel
theorem dX6_load_74 : decode cX6_load 74 = .ok (.invokevirtual 87, 3) := by decide +kernel
theorem dX6_load_77 : decode cX6_load 77 = .ok (.ireturn, 1) := by decide +kernel
