theorem dX4_init_0 : decode cX4_init 0 = .ok (.aload_n 0, 1) := by decide +kernel
theorem dX4_init_1 : decode cX4_init 1 = .ok (.invokespecial 3, 3) := by decide +kernel
theorem dX4_init_4 : decode cX4_init 4 = .ok (.aload_n 0, 1) := by decide +kernel
theorem dX4_init_5 : decode cX4_init 5 = .ok (.bipush 7, 2) := by decide +kernel
theorem dX4_init_7 : decode cX4_init 7 = .ok (.newarray .int, 2) := by decide +kernel
theorem dX4_init_9 : decode cX4_init 9 = .ok (.putfield 9, 3) := by decide +kernel
theorem dX4_init_12 : decode cX4_init 12 = .ok (.aload_n 0, 1) := by decide +kernel
theorem dX4_init_13 : decode cX4_init 13 = .ok (.bipush 20, 2) := by decide +kernel
theorem dX4_init_15 : decode cX4_init 15 = .ok (.newarray .int, 2) := by decide +kernel
theorem dX4_init_17 : decode cX4_init 17 = .ok (.putfield 15, 3) := by decide +kernel
theorem dX4_init_20 : decode cX4_init 20 = .ok (.aload_n 0, 1) := by decide +kernel
theorem dX4_init_21 : decode cX4_init 21 = .ok (.bipush 20, 2) := by decide +kernel
theorem dX4_init_23 : decode cX4_init 23 = .ok (.newarray .int, 2) := by decide +kernel
theorem dX4_init_25 : decode cX4_init 25 = .ok (.putfield 18, 3) := by decide +kernel
theorem dX4_init_28 : decode cX4_init 28 = .ok (.aload_n 0, 1) := by decide +kernel
theorem dX4_init_29 : decode cX4_init 29 = .ok (.bipush 20, 2) := by decide +kernel
theorem dX4_init_31 : decode cX4_init 31 = .ok (.newarray .int, 2) := by decide +kernel
theorem dX4_init_33 : decode cX4_init 33 = .ok (.putfield 21, 3) := by decide +kernel
theorem dX4_init_36 : decode cX4_init 36 = .ok (.aload_n 0, 1) := by decide +kernel
theorem dX4_init_37 : decode cX4_init 37 = .ok (.iconst 4, 1) := by decide +kernel
theorem dX4_init_38 : decode cX4_init 38 = .ok (.newarray .int, 2) := by decide +kernel
theorem dX4_init_40 : decode cX4_init 40 = .ok (.putfield 24, 3) := by decide +kernel
theorem dX4_init_43 : decode cX4_init 43 = .ok (.aload_n 0, 1) := by decide +kernel
theorem dX4_init_44 : decode cX4_init 44 = .ok (.bipush 30, 2) := by decide +kernel
theorem dX4_init_46 : decode cX4_init 46 = .ok (.newarray .int, 2) := by decide +kernel
theorem dX4_init_48 : decode cX4_init 48 = .ok (.putfield 27, 3) := by decide +kernel
theorem dX4_init_51 : decode cX4_init 51 = .ok (.aload_n 0, 1) := by decide +kernel
theorem dX4_init_52 : decode cX4_init 52 = .ok (.iconst 0, 1) := by decide +kernel
theorem dX4_init_53 : decode cX4_init 53 = .ok (.putfield 30, 3) := by decide +kernel
theorem dX4_init_56 : decode cX4_init 56 = .ok (.aload_n 0, 1) := by decide +kernel
theorem dX4_init_57 : decode cX4_init 57 = .ok (.aload_n 1, 1) := by decide +kernel
theorem dX4_init_58 : decode cX4_init 58 = .ok (.putfield 34, 3) := by decide +kernel
theorem dX4_init_61 : decode cX4_init 61 = .ok (.getstatic 38, 3) := by decide +kernel
theorem dX4_init_64 : decode cX4_init 64 = .ok (.iconst 0, 1) := by decide +kernel
theorem dX4_init_65 : decode cX4_init 65 = .ok (.aload_n 0, 1) := by decide +kernel
theorem dX4_init_66 : decode cX4_init 66 = .ok (.getfield 9, 3) := by decide +kernel
theorem dX4_init_69 : decode cX4_init 69 = .ok (.iconst 0, 1) := by decide +kernel
theorem dX4_init_70 : decode cX4_init 70 = .ok (.bipush 7, 2) := by decide +kernel
theorem dX4_init_72 : decode cX4_init 72 = .ok (.invokestatic 41, 3) := by decide +kernel
theorem dX4_init_75 : decode cX4_init 75 = .ok (.return_, 1) := by decide +kernel
theorem dX4_copy_0 : decode cX4_copy 0 = .ok (.aload_n 1, 1) := by decide +kernel
theorem dX4_copy_1 : decode cX4_copy 1 = .ok (.getfield 9, 3) := by decide +kernel
theorem dX4_copy_4 : decode cX4_copy 4 = .ok (.iconst 0, 1) := by decide +kernel
theorem dX4_copy_5 : decode cX4_copy 5 = .ok (.aload_n 0, 1) := by decide +kernel
theorem dX4_copy_6 : decode cX4_copy 6 = .ok (.getfield 9, 3) := by decide +kernel
theorem dX4_copy_9 : decode cX4_copy 9 = .ok (.iconst 0, 1) := by decide +kernel
theorem dX4_copy_10 : decode cX4_copy 10 = .ok (.bipush 7, 2) := by decide +kernel
theorem dX4_copy_12 : decode cX4_copy 12 = .ok (.invokestatic 41, 3) := by decide +kernel
theorem dX4_copy_15 : decode cX4_copy 15 = .ok (.aload_n 1, 1) := by decide +kernel
theorem dX4_copy_16 : decode cX4_copy 16 = .ok (.getfield 15, 3) := by decide +kernel
theorem dX4_copy_19 : decode cX4_copy 19 = .ok (.iconst 0, 1) := by decide +kernel
theorem dX4_copy_20 : decode cX4_copy 20 = .ok (.aload_n 0, 1) := by decide +kernel
theorem dX4_copy_21 : decode cX4_copy 21 = .ok (.getfield 15, 3) := by decide +kernel
theorem dX4_copy_24 : decode cX4_copy 24 = .ok (.iconst 0, 1) := by decide +kernel
theorem dX4_copy_25 : decode cX4_copy 25 = .ok (.bipush 20, 2) := by decide +kernel
theorem dX4_copy_27 : decode cX4_copy 27 = .ok (.invokestatic 41, 3) := by decide +kernel
theorem dX4_copy_30 : decode cX4_copy 30 = .ok (.aload_n 1, 1) := by decide +kernel
theorem dX4_copy_31 : decode cX4_copy 31 = .ok (.getfield 18, 3) := by decide +kernel
theorem dX4_copy_34 : decode cX4_copy 34 = .ok (.iconst 0, 1) := by decide +kernel
theorem dX4_copy_35 : decode cX4_copy 35 = .ok (.aload_n 0, 1) := by decide +kernel
theorem dX4_copy_36 : decode cX4_copy 36 = .ok (.getfield 18, 3) := by decide +kernel
theorem dX4_copy_39 : decode cX4_copy 39 = .ok (.iconst 0, 1) := by decide +kernel
theorem dX4_copy_40 : decode cX4_copy 40 = .ok (.bipush 20, 2) := by decide +kernel
theorem dX4_copy_42 : decode cX4_copy 42 = .ok (.invokestatic 41, 3) := by decide +kernel
theorem dX4_copy_45 : decode cX4_copy 45 = .ok (.aload_n 1, 1) := by decide +kernel
theorem dX4_copy_46 : decode cX4_copy 46 = .ok (.getfield 21, 3) := by decide +kernel
theorem dX4_copy_49 : decode cX4_copy 49 = .ok (.iconst 0, 1) := by decide +kernel
theorem dX4_copy_50 : decode cX4_copy 50 = .ok (.aload_n 0, 1) := by decide +kernel
theorem dX4_copy_51 : decode cX4_copy 51 = .ok (.getfield 21, 3) := by decide +kernel
theorem dX4_copy_54 : decode cX4_copy 54 = .ok (.iconst 0, 1) := by decide +kernel
theorem dX4_copy_55 : decode cX4_copy 55 = .ok (.bipush 20, 2) := by decide +kernel
theorem dX4_copy_57 : decode cX4_copy 57 = .ok (.invokestatic 41, 3) := by decide +kernel
theorem dX4_copy_60 : decode cX4_copy 60 = .ok (.aload_n 1, 1) := by decide +kernel
theorem dX4_copy_61 : decode cX4_copy 61 = .ok (.getfield 24, 3) := by decide +kernel
theorem dX4_copy_64 : decode cX4_copy 64 = .ok (.iconst 0, 1) := by decide +kernel
theorem dX4_copy_65 : decode cX4_copy 65 = .ok (.aload_n 0, 1) := by decide +kernel
theorem dX4_copy_66 : decode cX4_copy 66 = .ok (.getfield 24, 3) := by decide +kernel
theorem dX4_copy_69 : decode cX4_copy 69 = .ok (.iconst 0, 1) := by decide +kernel
theorem dX4_copy_70 : decode cX4_copy 70 = .ok (.iconst 4, 1) := by decide +kernel
theorem dX4_copy_71 : decode cX4_copy 71 = .ok (.invokestatic 41, 3) := by decide +kernel
theorem dX4_copy_74 : decode cX4_copy 74 = .ok (.aload_n 1, 1) := by decide +kernel
theorem dX4_copy_75 : decode cX4_copy 75 = .ok (.getfield 27, 3) := by decide +kernel
theorem dX4_copy_78 : decode cX4_copy 78 = .ok (.iconst 0, 1) := by decide +kernel
theorem dX4_copy_79 : decode cX4_copy 79 = .ok (.aload_n 0, 1) := by decide +kernel
theorem dX4_copy_80 : decode cX4_copy 80 = .ok (.getfield 27, 3) := by decide +kernel
theorem dX4_copy_83 : decode cX4_copy 83 = .ok (.iconst 0, 1) := by decide +kernel
theorem dX4_copy_84 : decode cX4_copy 84 = .ok (.bipush 30, 2) := by decide +kernel
theorem dX4_copy_86 : decode cX4_copy 86 = .ok (.invokestatic 41, 3) := by decide +kernel
theorem dX4_copy_89 : decode cX4_copy 89 = .ok (.aload_n 0, 1) := by decide +kernel
theorem dX4_copy_90 : decode cX4_copy 90 = .ok (.aload_n 1, 1) := by decide +kernel
theorem dX4_copy_91 : decode cX4_copy 91 = .ok (.getfield 34, 3) := by decide +kernel
theorem dX4_copy_94 : decode cX4_copy 94 = .ok (.putfield 34, 3) := by decide +kernel
theorem dX4_copy_97 : decode cX4_copy 97 = .ok (.aload_n 0, 1) := by decide +kernel
theorem dX4_copy_98 : decode cX4_copy 98 = .ok (.aload_n 1, 1) := by decide +kernel
theorem dX4_copy_99 : decode cX4_copy 99 = .ok (.getfield 47, 3) := by decide +kernel
theorem dX4_copy_102 : decode cX4_copy 102 = .ok (.putfield 47, 3) := by decide +kernel
theorem dX4_copy_105 : decode cX4_copy 105 = .ok (.aload_n 0, 1) := by decide +kernel
theorem dX4_copy_106 : decode cX4_copy 106 = .ok (.aload_n 1, 1) := by decide +kernel
theorem dX4_copy_107 : decode cX4_copy 107 = .ok (.getfield 50, 3) := by decide +kernel
theorem dX4_copy_110 : decode cX4_copy 110 = .ok (.putfield 50, 3) := by decide +kernel
theorem dX4_copy_113 : decode cX4_copy 113 = .ok (.aload_n 0, 1) := by decide +kernel
theorem dX4_copy_114 : decode cX4_copy 114 = .ok (.aload_n 1, 1) := by decide +kernel
theorem dX4_copy_115 : decode cX4_copy 115 = .ok (.getfield 30, 3) := by decide +kernel
theorem dX4_copy_118 : decode cX4_copy 118 = .ok (.putfield 30, 3) := by decide +kernel
theorem dX4_copy_121 : decode cX4_copy 121 = .ok (.aload_n 0, 1) := by decide +kernel
theorem dX4_copy_122 : decode cX4_copy 122 = .ok (.aload_n 1, 1) := by decide +kernel
theorem dX4_copy_123 : decode cX4_copy 123 = .ok (.getfield 53, 3) := by decide +kernel
theorem dX4_copy_126 : decode cX4_copy 126 = .ok (.putfield 53, 3) := by decide +kernel
theorem dX4_copy_129 : decode cX4_copy 129 = .ok (.aload_n 0, 1) := by decide +kernel
theorem dX4_copy_130 : decode cX4_copy 130 = .ok (.aload_n 1, 1) := by decide +kernel
theorem dX4_copy_131 : decode cX4_copy 131 = .ok (.getfield 56, 3) := by decide +kernel
theorem dX4_copy_134 : decode cX4_copy 134 = .ok (.putfield 56, 3) := by decide +kernel
theorem dX4_copy_137 : decode cX4_copy 137 = .ok (.aload_n 0, 1) := by decide +kernel
theorem dX4_copy_138 : decode cX4_copy 138 = .ok (.aload_n 1, 1) := by decide +kernel
theorem dX4_copy_139 : decode cX4_copy 139 = .ok (.getfield 59, 3) := by decide +kernel
theorem dX4_copy_142 : decode cX4_copy 142 = .ok (.putfield 59, 3) := by decide +kernel
theorem dX4_copy_145 : decode cX4_copy 145 = .ok (.aload_n 0, 1) := by decide +kernel
theorem dX4_copy_146 : decode cX4_copy 146 = .ok (.aload_n 1, 1) := by decide +kernel
theorem dX4_copy_147 : decode cX4_copy 147 = .ok (.getfield 62, 3) := by decide +kernel
theorem dX4_copy_150 : decode cX4_copy 150 = .ok (.putfield 62, 3) := by decide +kernel
theorem dX4_copy_153 : decode cX4_copy 153 = .ok (.aload_n 0, 1) := by decide +kernel
theorem dX4_copy_154 : decode cX4_copy 154 = .ok (.aload_n 1, 1) := by decide +kernel
theorem dX4_copy_155 : decode cX4_copy 155 = .ok (.getfield 65, 3) := by decide +kernel
theorem dX4_copy_158 : decode cX4_copy 158 = .ok (.putfield 65, 3) := by decide +kernel
theorem dX4_copy_161 : decode cX4_copy 161 = .ok (.aload_n 0, 1) := by decide +kernel
theorem dX4_copy_162 : decode cX4_copy 162 = .ok (.aload_n 1, 1) := by decide +kernel
theorem dX4_copy_163 : decode cX4_copy 163 = .ok (.getfield 68, 3) := by decide +kernel
theorem dX4_copy_166 : decode cX4_copy 166 = .ok (.putfield 68, 3) := by decide +kernel
theorem dX4_copy_169 : decode cX4_copy 169 = .ok (.aload_n 0, 1) := by decide +kernel
theorem dX4_copy_170 : decode cX4_copy 170 = .ok (.aload_n 1, 1) := by decide +kernel
theorem dX4_copy_171 : decode cX4_copy 171 = .ok (.getfield 71, 3) := by decide +kernel
theorem dX4_copy_174 : decode cX4_copy 174 = .ok (.putfield 71, 3) := by decide +kernel
theorem dX4_copy_177 : decode cX4_copy 177 = .ok (.aload_n 0, 1) := by decide +kernel
theorem dX4_copy_178 : decode cX4_copy 178 = .ok (.aload_n 1, 1) := by decide +kernel
theorem dX4_copy_179 : decode cX4_copy 179 = .ok (.getfield 74, 3) := by decide +kernel
theorem dX4_copy_182 : decode cX4_copy 182 = .ok (.putfield 74, 3) := by decide +kernel
theorem dX4_copy_185 : decode cX4_copy 185 = .ok (.return_, 1) := by decide +kernel
theorem dX4_number_0 : decode cX4_number 0 = .ok (.iload_n 1, 1) := by decide +kernel
theorem dX4_number_1 : decode cX4_number 1 = .ok (.tableswitch 114 0 10 #[59, 64, 69, 74, 79, 84, 89, 94, 99, 104, 109], 59) := by decide +kernel
theorem dX4_number_60 : decode cX4_number 60 = .ok (.aload_n 0, 1) := by decide +kernel
theorem dX4_number_61 : decode cX4_number 61 = .ok (.getfield 53, 3) := by decide +kernel
theorem dX4_number_64 : decode cX4_number 64 = .ok (.ireturn, 1) := by decide +kernel
theorem dX4_number_65 : decode cX4_number 65 = .ok (.aload_n 0, 1) := by decide +kernel
theorem dX4_number_66 : decode cX4_number 66 = .ok (.getfield 47, 3) := by decide +kernel
theorem dX4_number_69 : decode cX4_number 69 = .ok (.ireturn, 1) := by decide +kernel
theorem dX4_number_70 : decode cX4_number 70 = .ok (.aload_n 0, 1) := by decide +kernel
theorem dX4_number_71 : decode cX4_number 71 = .ok (.invokevirtual 77, 3) := by decide +kernel
theorem dX4_number_74 : decode cX4_number 74 = .ok (.ireturn, 1) := by decide +kernel
theorem dX4_number_75 : decode cX4_number 75 = .ok (.aload_n 0, 1) := by decide +kernel
theorem dX4_number_76 : decode cX4_number 76 = .ok (.getfield 56, 3) := by decide +kernel
theorem dX4_number_79 : decode cX4_number 79 = .ok (.ireturn, 1) := by decide +kernel
theorem dX4_number_80 : decode cX4_number 80 = .ok (.aload_n 0, 1) := by decide +kernel
theorem dX4_number_81 : decode cX4_number 81 = .ok (.getfield 30, 3) := by decide +kernel
theorem dX4_number_84 : decode cX4_number 84 = .ok (.ireturn, 1) := by decide +kernel
theorem dX4_number_85 : decode cX4_number 85 = .ok (.aload_n 0, 1) := by decide +kernel
theorem dX4_number_86 : decode cX4_number 86 = .ok (.getfield 59, 3) := by decide +kernel
theorem dX4_number_89 : decode cX4_number 89 = .ok (.ireturn, 1) := by decide +kernel
theorem dX4_number_90 : decode cX4_number 90 = .ok (.aload_n 0, 1) := by decide +kernel
theorem dX4_number_91 : decode cX4_number 91 = .ok (.getfield 62, 3) := by decide +kernel
theorem dX4_number_94 : decode cX4_number 94 = .ok (.ireturn, 1) := by decide +kernel
theorem dX4_number_95 : decode cX4_number 95 = .ok (.aload_n 0, 1) := by decide +kernel
theorem dX4_number_96 : decode cX4_number 96 = .ok (.getfield 65, 3) := by decide +kernel
theorem dX4_number_99 : decode cX4_number 99 = .ok (.ireturn, 1) := by decide +kernel
theorem dX4_number_100 : decode cX4_number 100 = .ok (.aload_n 0, 1) := by decide +kernel
theorem dX4_number_101 : decode cX4_number 101 = .ok (.getfield 68, 3) := by decide +kernel
theorem dX4_number_104 : decode cX4_number 104 = .ok (.ireturn, 1) := by decide +kernel
theorem dX4_number_105 : decode cX4_number 105 = .ok (.aload_n 0, 1) := by decide +kernel
theorem dX4_number_106 : decode cX4_number 106 = .ok (.getfield 71, 3) := by decide +kernel
theorem dX4_number_109 : decode cX4_number 109 = .ok (.ireturn, 1) := by decide +kernel
theorem dX4_number_110 : decode cX4_number 110 = .ok (.aload_n 0, 1) := by decide +kernel
theorem dX4_number_111 : decode cX4_number 111 = .ok (.getfield 74, 3) := by decide +kernel
theorem dX4_number_114 : decode cX4_number 114 = .ok (.ireturn, 1) := by decide +kernel
theorem dX4_number_115 : decode cX4_number 115 = .ok (.aload_n 0, 1) := by decide +kernel
theorem dX4_number_116 : decode cX4_number 116 = .ok (.iload_n 1, 1) := by decide +kernel
theorem dX4_number_117 : decode cX4_number 117 = .ok (.bipush 11, 2) := by decide +kernel
theorem dX4_number_119 : decode cX4_number 119 = .ok (.isub, 1) := by decide +kernel
theorem dX4_number_120 : decode cX4_number 120 = .ok (.invokevirtual 81, 3) := by decide +kernel
theorem dX4_number_123 : decode cX4_number 123 = .ok (.ireturn, 1) := by decide +kernel
theorem dX4_settingCounted_0 : decode cX4_settingCounted 0 = .ok (.iload_n 1, 1) := by decide +kernel
theorem dX4_settingCounted_1 : decode cX4_settingCounted 1 = .ok (.ifCond .lt 18, 3) := by decide +kernel
theorem dX4_settingCounted_4 : decode cX4_settingCounted 4 = .ok (.iload_n 1, 1) := by decide +kernel
theorem dX4_settingCounted_5 : decode cX4_settingCounted 5 = .ok (.bipush 7, 2) := by decide +kernel
theorem dX4_settingCounted_7 : decode cX4_settingCounted 7 = .ok (.if_icmp .ge 12, 3) := by decide +kernel
theorem dX4_settingCounted_10 : decode cX4_settingCounted 10 = .ok (.aload_n 0, 1) := by decide +kernel
theorem dX4_settingCounted_11 : decode cX4_settingCounted 11 = .ok (.getfield 9, 3) := by decide +kernel
theorem dX4_settingCounted_14 : decode cX4_settingCounted 14 = .ok (.iload_n 1, 1) := by decide +kernel
theorem dX4_settingCounted_15 : decode cX4_settingCounted 15 = .ok (.iaload, 1) := by decide +kernel
theorem dX4_settingCounted_16 : decode cX4_settingCounted 16 = .ok (.goto 5, 3) := by decide +kernel
theorem dX4_settingCounted_19 : decode cX4_settingCounted 19 = .ok (.bipush (-2), 2) := by decide +kernel
theorem dX4_settingCounted_21 : decode cX4_settingCounted 21 = .ok (.ireturn, 1) := by decide +kernel
theorem dX4_totalWeight_0 : decode cX4_totalWeight 0 = .ok (.iconst 0, 1) := by decide +kernel
theorem dX4_totalWeight_1 : decode cX4_totalWeight 1 = .ok (.istore_n 1, 1) := by decide +kernel
theorem dX4_totalWeight_2 : decode cX4_totalWeight 2 = .ok (.iconst 0, 1) := by decide +kernel
theorem dX4_totalWeight_3 : decode cX4_totalWeight 3 = .ok (.istore_n 2, 1) := by decide +kernel
theorem dX4_totalWeight_4 : decode cX4_totalWeight 4 = .ok (.iload_n 2, 1) := by decide +kernel
theorem dX4_totalWeight_5 : decode cX4_totalWeight 5 = .ok (.aload_n 0, 1) := by decide +kernel
theorem dX4_totalWeight_6 : decode cX4_totalWeight 6 = .ok (.getfield 47, 3) := by decide +kernel
theorem dX4_totalWeight_9 : decode cX4_totalWeight 9 = .ok (.if_icmp .ge 24, 3) := by decide +kernel
theorem dX4_totalWeight_12 : decode cX4_totalWeight 12 = .ok (.iload_n 2, 1) := by decide +kernel
theorem dX4_totalWeight_13 : decode cX4_totalWeight 13 = .ok (.bipush 20, 2) := by decide +kernel
theorem dX4_totalWeight_15 : decode cX4_totalWeight 15 = .ok (.if_icmp .ge 18, 3) := by decide +kernel
theorem dX4_totalWeight_18 : decode cX4_totalWeight 18 = .ok (.iload_n 1, 1) := by decide +kernel
theorem dX4_totalWeight_19 : decode cX4_totalWeight 19 = .ok (.aload_n 0, 1) := by decide +kernel
theorem dX4_totalWeight_20 : decode cX4_totalWeight 20 = .ok (.getfield 18, 3) := by decide +kernel
theorem dX4_totalWeight_23 : decode cX4_totalWeight 23 = .ok (.iload_n 2, 1) := by decide +kernel
theorem dX4_totalWeight_24 : decode cX4_totalWeight 24 = .ok (.iaload, 1) := by decide +kernel
theorem dX4_totalWeight_25 : decode cX4_totalWeight 25 = .ok (.iadd, 1) := by decide +kernel
theorem dX4_totalWeight_26 : decode cX4_totalWeight 26 = .ok (.istore_n 1, 1) := by decide +kernel
theorem dX4_totalWeight_27 : decode cX4_totalWeight 27 = .ok (.iinc 2 1, 3) := by decide +kernel
theorem dX4_totalWeight_30 : decode cX4_totalWeight 30 = .ok (.goto (-26), 3) := by decide +kernel
theorem dX4_totalWeight_33 : decode cX4_totalWeight 33 = .ok (.iload_n 1, 1) := by decide +kernel
theorem dX4_totalWeight_34 : decode cX4_totalWeight 34 = .ok (.ireturn, 1) := by decide +kernel
theorem dX4_stepOn_0 : decode cX4_stepOn 0 = .ok (.aload_n 0, 1) := by decide +kernel
theorem dX4_stepOn_1 : decode cX4_stepOn 1 = .ok (.getfield 47, 3) := by decide +kernel
theorem dX4_stepOn_4 : decode cX4_stepOn 4 = .ok (.bipush 20, 2) := by decide +kernel
theorem dX4_stepOn_6 : decode cX4_stepOn 6 = .ok (.if_icmp .lt 4, 3) := by decide +kernel
theorem dX4_stepOn_9 : decode cX4_stepOn 9 = .ok (.return_, 1) := by decide +kernel
theorem dX4_stepOn_10 : decode cX4_stepOn 10 = .ok (.aload_n 0, 1) := by decide +kernel
theorem dX4_stepOn_11 : decode cX4_stepOn 11 = .ok (.getfield 15, 3) := by decide +kernel
theorem dX4_stepOn_14 : decode cX4_stepOn 14 = .ok (.aload_n 0, 1) := by decide +kernel
theorem dX4_stepOn_15 : decode cX4_stepOn 15 = .ok (.getfield 47, 3) := by decide +kernel
theorem dX4_stepOn_18 : decode cX4_stepOn 18 = .ok (.iconst 0, 1) := by decide +kernel
theorem dX4_stepOn_19 : decode cX4_stepOn 19 = .ok (.iastore, 1) := by decide +kernel
theorem dX4_stepOn_20 : decode cX4_stepOn 20 = .ok (.aload_n 0, 1) := by decide +kernel
theorem dX4_stepOn_21 : decode cX4_stepOn 21 = .ok (.getfield 18, 3) := by decide +kernel
theorem dX4_stepOn_24 : decode cX4_stepOn 24 = .ok (.aload_n 0, 1) := by decide +kernel
theorem dX4_stepOn_25 : decode cX4_stepOn 25 = .ok (.getfield 47, 3) := by decide +kernel
theorem dX4_stepOn_28 : decode cX4_stepOn 28 = .ok (.iload_n 1, 1) := by decide +kernel
theorem dX4_stepOn_29 : decode cX4_stepOn 29 = .ok (.iastore, 1) := by decide +kernel
theorem dX4_stepOn_30 : decode cX4_stepOn 30 = .ok (.aload_n 0, 1) := by decide +kernel
theorem dX4_stepOn_31 : decode cX4_stepOn 31 = .ok (.getfield 21, 3) := by decide +kernel
theorem dX4_stepOn_34 : decode cX4_stepOn 34 = .ok (.aload_n 0, 1) := by decide +kernel
theorem dX4_stepOn_35 : decode cX4_stepOn 35 = .ok (.getfield 47, 3) := by decide +kernel
theorem dX4_stepOn_38 : decode cX4_stepOn 38 = .ok (.aload_n 0, 1) := by decide +kernel
theorem dX4_stepOn_39 : decode cX4_stepOn 39 = .ok (.getfield 53, 3) := by decide +kernel
theorem dX4_stepOn_42 : decode cX4_stepOn 42 = .ok (.iastore, 1) := by decide +kernel
theorem dX4_stepOn_43 : decode cX4_stepOn 43 = .ok (.aload_n 0, 1) := by decide +kernel
theorem dX4_stepOn_44 : decode cX4_stepOn 44 = .ok (.dup, 1) := by decide +kernel
theorem dX4_stepOn_45 : decode cX4_stepOn 45 = .ok (.getfield 47, 3) := by decide +kernel
theorem dX4_stepOn_48 : decode cX4_stepOn 48 = .ok (.iconst 1, 1) := by decide +kernel
theorem dX4_stepOn_49 : decode cX4_stepOn 49 = .ok (.iadd, 1) := by decide +kernel
theorem dX4_stepOn_50 : decode cX4_stepOn 50 = .ok (.putfield 47, 3) := by decide +kernel
theorem dX4_stepOn_53 : decode cX4_stepOn 53 = .ok (.return_, 1) := by decide +kernel
theorem dX4_complains_0 : decode cX4_complains 0 = .ok (.aload_n 0, 1) := by decide +kernel
theorem dX4_complains_1 : decode cX4_complains 1 = .ok (.getfield 50, 3) := by decide +kernel
theorem dX4_complains_4 : decode cX4_complains 4 = .ok (.iconst 2, 1) := by decide +kernel
theorem dX4_complains_5 : decode cX4_complains 5 = .ok (.iload_n 1, 1) := by decide +kernel
theorem dX4_complains_6 : decode cX4_complains 6 = .ok (.imul, 1) := by decide +kernel
theorem dX4_complains_7 : decode cX4_complains 7 = .ok (.iload_n 2, 1) := by decide +kernel
theorem dX4_complains_8 : decode cX4_complains 8 = .ok (.iadd, 1) := by decide +kernel
theorem dX4_complains_9 : decode cX4_complains 9 = .ok (.ishr, 1) := by decide +kernel
theorem dX4_complains_10 : decode cX4_complains 10 = .ok (.iconst 1, 1) := by decide +kernel
theorem dX4_complains_11 : decode cX4_complains 11 = .ok (.iand, 1) := by decide +kernel
theorem dX4_complains_12 : decode cX4_complains 12 = .ok (.ireturn, 1) := by decide +kernel
theorem dX4_setComplaint_0 : decode cX4_setComplaint 0 = .ok (.iconst 2, 1) := by decide +kernel
theorem dX4_setComplaint_1 : decode cX4_setComplaint 1 = .ok (.iload_n 1, 1) := by decide +kernel
theorem dX4_setComplaint_2 : decode cX4_setComplaint 2 = .ok (.imul, 1) := by decide +kernel
theorem dX4_setComplaint_3 : decode cX4_setComplaint 3 = .ok (.iload_n 2, 1) := by decide +kernel
theorem dX4_setComplaint_4 : decode cX4_setComplaint 4 = .ok (.iadd, 1) := by decide +kernel
theorem dX4_setComplaint_5 : decode cX4_setComplaint 5 = .ok (.istore 4, 2) := by decide +kernel
theorem dX4_setComplaint_7 : decode cX4_setComplaint 7 = .ok (.aload_n 0, 1) := by decide +kernel
theorem dX4_setComplaint_8 : decode cX4_setComplaint 8 = .ok (.aload_n 0, 1) := by decide +kernel
theorem dX4_setComplaint_9 : decode cX4_setComplaint 9 = .ok (.getfield 50, 3) := by decide +kernel
theorem dX4_setComplaint_12 : decode cX4_setComplaint 12 = .ok (.iconst 1, 1) := by decide +kernel
theorem dX4_setComplaint_13 : decode cX4_setComplaint 13 = .ok (.iload 4, 2) := by decide +kernel
theorem dX4_setComplaint_15 : decode cX4_setComplaint 15 = .ok (.ishl, 1) := by decide +kernel
theorem dX4_setComplaint_16 : decode cX4_setComplaint 16 = .ok (.iconst (-1), 1) := by decide +kernel
theorem dX4_setComplaint_17 : decode cX4_setComplaint 17 = .ok (.ixor, 1) := by decide +kernel
theorem dX4_setComplaint_18 : decode cX4_setComplaint 18 = .ok (.iand, 1) := by decide +kernel
theorem dX4_setComplaint_19 : decode cX4_setComplaint 19 = .ok (.iload_n 3, 1) := by decide +kernel
theorem dX4_setComplaint_20 : decode cX4_setComplaint 20 = .ok (.iload 4, 2) := by decide +kernel
theorem dX4_setComplaint_22 : decode cX4_setComplaint 22 = .ok (.ishl, 1) := by decide +kernel
theorem dX4_setComplaint_23 : decode cX4_setComplaint 23 = .ok (.ior, 1) := by decide +kernel
theorem dX4_setComplaint_24 : decode cX4_setComplaint 24 = .ok (.putfield 50, 3) := by decide +kernel
theorem dX4_setComplaint_27 : decode cX4_setComplaint 27 = .ok (.return_, 1) := by decide +kernel
theorem dX4_ruleHolds_0 : decode cX4_ruleHolds 0 = .ok (.aload_n 0, 1) := by decide +kernel
theorem dX4_ruleHolds_1 : decode cX4_ruleHolds 1 = .ok (.getfield 34, 3) := by decide +kernel
theorem dX4_ruleHolds_4 : decode cX4_ruleHolds 4 = .ok (.aload_n 0, 1) := by decide +kernel
theorem dX4_ruleHolds_5 : decode cX4_ruleHolds 5 = .ok (.getfield 50, 3) := by decide +kernel
theorem dX4_ruleHolds_8 : decode cX4_ruleHolds 8 = .ok (.invokevirtual 85, 3) := by decide +kernel
theorem dX4_ruleHolds_11 : decode cX4_ruleHolds 11 = .ok (.ireturn, 1) := by decide +kernel
theorem dX4_beginStop_0 : decode cX4_beginStop 0 = .ok (.aload_n 0, 1) := by decide +kernel
theorem dX4_beginStop_1 : decode cX4_beginStop 1 = .ok (.iconst 1, 1) := by decide +kernel
theorem dX4_beginStop_2 : decode cX4_beginStop 2 = .ok (.putfield 30, 3) := by decide +kernel
theorem dX4_beginStop_5 : decode cX4_beginStop 5 = .ok (.aload_n 0, 1) := by decide +kernel
theorem dX4_beginStop_6 : decode cX4_beginStop 6 = .ok (.dup, 1) := by decide +kernel
theorem dX4_beginStop_7 : decode cX4_beginStop 7 = .ok (.getfield 65, 3) := by decide +kernel
theorem dX4_beginStop_10 : decode cX4_beginStop 10 = .ok (.iconst 1, 1) := by decide +kernel
theorem dX4_beginStop_11 : decode cX4_beginStop 11 = .ok (.iadd, 1) := by decide +kernel
theorem dX4_beginStop_12 : decode cX4_beginStop 12 = .ok (.putfield 65, 3) := by decide +kernel
theorem dX4_beginStop_15 : decode cX4_beginStop 15 = .ok (.aload_n 0, 1) := by decide +kernel
theorem dX4_beginStop_16 : decode cX4_beginStop 16 = .ok (.getfield 27, 3) := by decide +kernel
theorem dX4_beginStop_19 : decode cX4_beginStop 19 = .ok (.iconst 0, 1) := by decide +kernel
theorem dX4_beginStop_20 : decode cX4_beginStop 20 = .ok (.aload_n 0, 1) := by decide +kernel
theorem dX4_beginStop_21 : decode cX4_beginStop 21 = .ok (.getfield 27, 3) := by decide +kernel
theorem dX4_beginStop_24 : decode cX4_beginStop 24 = .ok (.iconst 5, 1) := by decide +kernel
theorem dX4_beginStop_25 : decode cX4_beginStop 25 = .ok (.bipush 25, 2) := by decide +kernel
theorem dX4_beginStop_27 : decode cX4_beginStop 27 = .ok (.invokestatic 41, 3) := by decide +kernel
theorem dX4_beginStop_30 : decode cX4_beginStop 30 = .ok (.aload_n 0, 1) := by decide +kernel
theorem dX4_beginStop_31 : decode cX4_beginStop 31 = .ok (.getfield 27, 3) := by decide +kernel
theorem dX4_beginStop_34 : decode cX4_beginStop 34 = .ok (.iconst 0, 1) := by decide +kernel
theorem dX4_beginStop_35 : decode cX4_beginStop 35 = .ok (.aload_n 0, 1) := by decide +kernel
theorem dX4_beginStop_36 : decode cX4_beginStop 36 = .ok (.getfield 53, 3) := by decide +kernel
theorem dX4_beginStop_39 : decode cX4_beginStop 39 = .ok (.iastore, 1) := by decide +kernel
theorem dX4_beginStop_40 : decode cX4_beginStop 40 = .ok (.aload_n 0, 1) := by decide +kernel
theorem dX4_beginStop_41 : decode cX4_beginStop 41 = .ok (.getfield 27, 3) := by decide +kernel
theorem dX4_beginStop_44 : decode cX4_beginStop 44 = .ok (.iconst 1, 1) := by decide +kernel
theorem dX4_beginStop_45 : decode cX4_beginStop 45 = .ok (.aload_n 0, 1) := by decide +kernel
theorem dX4_beginStop_46 : decode cX4_beginStop 46 = .ok (.getfield 56, 3) := by decide +kernel
theorem dX4_beginStop_49 : decode cX4_beginStop 49 = .ok (.iastore, 1) := by decide +kernel
theorem dX4_beginStop_50 : decode cX4_beginStop 50 = .ok (.aload_n 0, 1) := by decide +kernel
theorem dX4_beginStop_51 : decode cX4_beginStop 51 = .ok (.getfield 27, 3) := by decide +kernel
theorem dX4_beginStop_54 : decode cX4_beginStop 54 = .ok (.iconst 2, 1) := by decide +kernel
theorem dX4_beginStop_55 : decode cX4_beginStop 55 = .ok (.aload_n 0, 1) := by decide +kernel
theorem dX4_beginStop_56 : decode cX4_beginStop 56 = .ok (.invokevirtual 77, 3) := by decide +kernel
theorem dX4_beginStop_59 : decode cX4_beginStop 59 = .ok (.iastore, 1) := by decide +kernel
theorem dX4_beginStop_60 : decode cX4_beginStop 60 = .ok (.aload_n 0, 1) := by decide +kernel
theorem dX4_beginStop_61 : decode cX4_beginStop 61 = .ok (.getfield 27, 3) := by decide +kernel
theorem dX4_beginStop_64 : decode cX4_beginStop 64 = .ok (.iconst 3, 1) := by decide +kernel
theorem dX4_beginStop_65 : decode cX4_beginStop 65 = .ok (.aload_n 0, 1) := by decide +kernel
theorem dX4_beginStop_66 : decode cX4_beginStop 66 = .ok (.getfield 50, 3) := by decide +kernel
theorem dX4_beginStop_69 : decode cX4_beginStop 69 = .ok (.iastore, 1) := by decide +kernel
theorem dX4_beginStop_70 : decode cX4_beginStop 70 = .ok (.aload_n 0, 1) := by decide +kernel
theorem dX4_beginStop_71 : decode cX4_beginStop 71 = .ok (.getfield 27, 3) := by decide +kernel
theorem dX4_beginStop_74 : decode cX4_beginStop 74 = .ok (.iconst 4, 1) := by decide +kernel
theorem dX4_beginStop_75 : decode cX4_beginStop 75 = .ok (.iload_n 1, 1) := by decide +kernel
theorem dX4_beginStop_76 : decode cX4_beginStop 76 = .ok (.iastore, 1) := by decide +kernel
theorem dX4_beginStop_77 : decode cX4_beginStop 77 = .ok (.return_, 1) := by decide +kernel
theorem dX4_passTick_0 : decode cX4_passTick 0 = .ok (.aload_n 0, 1) := by decide +kernel
theorem dX4_passTick_1 : decode cX4_passTick 1 = .ok (.getfield 30, 3) := by decide +kernel
theorem dX4_passTick_4 : decode cX4_passTick 4 = .ok (.ifCond .ne 12, 3) := by decide +kernel
theorem dX4_passTick_7 : decode cX4_passTick 7 = .ok (.iload_n 1, 1) := by decide +kernel
theorem dX4_passTick_8 : decode cX4_passTick 8 = .ok (.ifCond .eq 8, 3) := by decide +kernel
theorem dX4_passTick_11 : decode cX4_passTick 11 = .ok (.aload_n 0, 1) := by decide +kernel
theorem dX4_passTick_12 : decode cX4_passTick 12 = .ok (.iconst 0, 1) := by decide +kernel
theorem dX4_passTick_13 : decode cX4_passTick 13 = .ok (.invokevirtual 91, 3) := by decide +kernel
theorem dX4_passTick_16 : decode cX4_passTick 16 = .ok (.aload_n 0, 1) := by decide +kernel
theorem dX4_passTick_17 : decode cX4_passTick 17 = .ok (.invokevirtual 95, 3) := by decide +kernel
theorem dX4_passTick_20 : decode cX4_passTick 20 = .ok (.aload_n 0, 1) := by decide +kernel
theorem dX4_passTick_21 : decode cX4_passTick 21 = .ok (.invokevirtual 77, 3) := by decide +kernel
theorem dX4_passTick_24 : decode cX4_passTick 24 = .ok (.istore_n 2, 1) := by decide +kernel
theorem dX4_passTick_25 : decode cX4_passTick 25 = .ok (.aload_n 0, 1) := by decide +kernel
theorem dX4_passTick_26 : decode cX4_passTick 26 = .ok (.aload_n 0, 1) := by decide +kernel
theorem dX4_passTick_27 : decode cX4_passTick 27 = .ok (.iload_n 2, 1) := by decide +kernel
theorem dX4_passTick_28 : decode cX4_passTick 28 = .ok (.invokevirtual 98, 3) := by decide +kernel
theorem dX4_passTick_31 : decode cX4_passTick 31 = .ok (.iload_n 2, 1) := by decide +kernel
theorem dX4_passTick_32 : decode cX4_passTick 32 = .ok (.invokevirtual 101, 3) := by decide +kernel
theorem dX4_passTick_35 : decode cX4_passTick 35 = .ok (.aload_n 0, 1) := by decide +kernel
theorem dX4_passTick_36 : decode cX4_passTick 36 = .ok (.invokevirtual 105, 3) := by decide +kernel
theorem dX4_passTick_39 : decode cX4_passTick 39 = .ok (.aload_n 0, 1) := by decide +kernel
theorem dX4_passTick_40 : decode cX4_passTick 40 = .ok (.getfield 30, 3) := by decide +kernel
theorem dX4_passTick_43 : decode cX4_passTick 43 = .ok (.iconst 1, 1) := by decide +kernel
theorem dX4_passTick_44 : decode cX4_passTick 44 = .ok (.if_icmp .ne 15, 3) := by decide +kernel
theorem dX4_passTick_47 : decode cX4_passTick 47 = .ok (.aload_n 0, 1) := by decide +kernel
theorem dX4_passTick_48 : decode cX4_passTick 48 = .ok (.getfield 56, 3) := by decide +kernel
theorem dX4_passTick_51 : decode cX4_passTick 51 = .ok (.ifCond .ne 8, 3) := by decide +kernel
theorem dX4_passTick_54 : decode cX4_passTick 54 = .ok (.aload_n 0, 1) := by decide +kernel
theorem dX4_passTick_55 : decode cX4_passTick 55 = .ok (.iconst 2, 1) := by decide +kernel
theorem dX4_passTick_56 : decode cX4_passTick 56 = .ok (.putfield 30, 3) := by decide +kernel
theorem dX4_passTick_59 : decode cX4_passTick 59 = .ok (.aload_n 0, 1) := by decide +kernel
theorem dX4_passTick_60 : decode cX4_passTick 60 = .ok (.aload_n 0, 1) := by decide +kernel
theorem dX4_passTick_61 : decode cX4_passTick 61 = .ok (.getfield 47, 3) := by decide +kernel
theorem dX4_passTick_64 : decode cX4_passTick 64 = .ok (.ifCond .ne 12, 3) := by decide +kernel
theorem dX4_passTick_67 : decode cX4_passTick 67 = .ok (.aload_n 0, 1) := by decide +kernel
theorem dX4_passTick_68 : decode cX4_passTick 68 = .ok (.getfield 68, 3) := by decide +kernel
theorem dX4_passTick_71 : decode cX4_passTick 71 = .ok (.iconst 1, 1) := by decide +kernel
theorem dX4_passTick_72 : decode cX4_passTick 72 = .ok (.iadd, 1) := by decide +kernel
theorem dX4_passTick_73 : decode cX4_passTick 73 = .ok (.goto 4, 3) := by decide +kernel
theorem dX4_passTick_76 : decode cX4_passTick 76 = .ok (.iconst 0, 1) := by decide +kernel
theorem dX4_passTick_77 : decode cX4_passTick 77 = .ok (.putfield 68, 3) := by decide +kernel
theorem dX4_passTick_80 : decode cX4_passTick 80 = .ok (.aload_n 0, 1) := by decide +kernel
theorem dX4_passTick_81 : decode cX4_passTick 81 = .ok (.dup, 1) := by decide +kernel
theorem dX4_passTick_82 : decode cX4_passTick 82 = .ok (.getfield 53, 3) := by decide +kernel
theorem dX4_passTick_85 : decode cX4_passTick 85 = .ok (.iconst 1, 1) := by decide +kernel
theorem dX4_passTick_86 : decode cX4_passTick 86 = .ok (.iadd, 1) := by decide +kernel
theorem dX4_passTick_87 : decode cX4_passTick 87 = .ok (.putfield 53, 3) := by decide +kernel
theorem dX4_passTick_90 : decode cX4_passTick 90 = .ok (.return_, 1) := by decide +kernel
theorem dX4_countDisagreements_0 : decode cX4_countDisagreements 0 = .ok (.iconst 0, 1) := by decide +kernel
theorem dX4_countDisagreements_1 : decode cX4_countDisagreements 1 = .ok (.istore_n 1, 1) := by decide +kernel
theorem dX4_countDisagreements_2 : decode cX4_countDisagreements 2 = .ok (.iload_n 1, 1) := by decide +kernel
theorem dX4_countDisagreements_3 : decode cX4_countDisagreements 3 = .ok (.iconst 4, 1) := by decide +kernel
theorem dX4_countDisagreements_4 : decode cX4_countDisagreements 4 = .ok (.if_icmp .ge 52, 3) := by decide +kernel
theorem dX4_countDisagreements_7 : decode cX4_countDisagreements 7 = .ok (.aload_n 0, 1) := by decide +kernel
theorem dX4_countDisagreements_8 : decode cX4_countDisagreements 8 = .ok (.iload_n 1, 1) := by decide +kernel
theorem dX4_countDisagreements_9 : decode cX4_countDisagreements 9 = .ok (.iconst 0, 1) := by decide +kernel
theorem dX4_countDisagreements_10 : decode cX4_countDisagreements 10 = .ok (.invokevirtual 108, 3) := by decide +kernel
theorem dX4_countDisagreements_13 : decode cX4_countDisagreements 13 = .ok (.aload_n 0, 1) := by decide +kernel
theorem dX4_countDisagreements_14 : decode cX4_countDisagreements 14 = .ok (.iload_n 1, 1) := by decide +kernel
theorem dX4_countDisagreements_15 : decode cX4_countDisagreements 15 = .ok (.iconst 1, 1) := by decide +kernel
theorem dX4_countDisagreements_16 : decode cX4_countDisagreements 16 = .ok (.invokevirtual 108, 3) := by decide +kernel
theorem dX4_countDisagreements_19 : decode cX4_countDisagreements 19 = .ok (.if_icmp .eq 7, 3) := by decide +kernel
theorem dX4_countDisagreements_22 : decode cX4_countDisagreements 22 = .ok (.iconst 1, 1) := by decide +kernel
theorem dX4_countDisagreements_23 : decode cX4_countDisagreements 23 = .ok (.goto 4, 3) := by decide +kernel
theorem dX4_countDisagreements_26 : decode cX4_countDisagreements 26 = .ok (.iconst 0, 1) := by decide +kernel
theorem dX4_countDisagreements_27 : decode cX4_countDisagreements 27 = .ok (.istore_n 2, 1) := by decide +kernel
theorem dX4_countDisagreements_28 : decode cX4_countDisagreements 28 = .ok (.aload_n 0, 1) := by decide +kernel
theorem dX4_countDisagreements_29 : decode cX4_countDisagreements 29 = .ok (.getfield 24, 3) := by decide +kernel
theorem dX4_countDisagreements_32 : decode cX4_countDisagreements 32 = .ok (.iload_n 1, 1) := by decide +kernel
theorem dX4_countDisagreements_33 : decode cX4_countDisagreements 33 = .ok (.iload_n 2, 1) := by decide +kernel
theorem dX4_countDisagreements_34 : decode cX4_countDisagreements 34 = .ok (.ifCond .eq 14, 3) := by decide +kernel
theorem dX4_countDisagreements_37 : decode cX4_countDisagreements 37 = .ok (.aload_n 0, 1) := by decide +kernel
theorem dX4_countDisagreements_38 : decode cX4_countDisagreements 38 = .ok (.getfield 24, 3) := by decide +kernel
theorem dX4_countDisagreements_41 : decode cX4_countDisagreements 41 = .ok (.iload_n 1, 1) := by decide +kernel
theorem dX4_countDisagreements_42 : decode cX4_countDisagreements 42 = .ok (.iaload, 1) := by decide +kernel
theorem dX4_countDisagreements_43 : decode cX4_countDisagreements 43 = .ok (.iconst 1, 1) := by decide +kernel
theorem dX4_countDisagreements_44 : decode cX4_countDisagreements 44 = .ok (.iadd, 1) := by decide +kernel
theorem dX4_countDisagreements_45 : decode cX4_countDisagreements 45 = .ok (.goto 4, 3) := by decide +kernel
theorem dX4_countDisagreements_48 : decode cX4_countDisagreements 48 = .ok (.iconst 0, 1) := by decide +kernel
theorem dX4_countDisagreements_49 : decode cX4_countDisagreements 49 = .ok (.iastore, 1) := by decide +kernel
theorem dX4_countDisagreements_50 : decode cX4_countDisagreements 50 = .ok (.iinc 1 1, 3) := by decide +kernel
theorem dX4_countDisagreements_53 : decode cX4_countDisagreements 53 = .ok (.goto (-51), 3) := by decide +kernel
theorem dX4_countDisagreements_56 : decode cX4_countDisagreements 56 = .ok (.return_, 1) := by decide +kernel
theorem dX4_wantedSpeed_0 : decode cX4_wantedSpeed 0 = .ok (.aload_n 0, 1) := by decide +kernel
theorem dX4_wantedSpeed_1 : decode cX4_wantedSpeed 1 = .ok (.getfield 30, 3) := by decide +kernel
theorem dX4_wantedSpeed_4 : decode cX4_wantedSpeed 4 = .ok (.ifCond .eq 5, 3) := by decide +kernel
theorem dX4_wantedSpeed_7 : decode cX4_wantedSpeed 7 = .ok (.iconst 0, 1) := by decide +kernel
theorem dX4_wantedSpeed_8 : decode cX4_wantedSpeed 8 = .ok (.ireturn, 1) := by decide +kernel
theorem dX4_wantedSpeed_9 : decode cX4_wantedSpeed 9 = .ok (.aload_n 0, 1) := by decide +kernel
theorem dX4_wantedSpeed_10 : decode cX4_wantedSpeed 10 = .ok (.getfield 47, 3) := by decide +kernel
theorem dX4_wantedSpeed_13 : decode cX4_wantedSpeed 13 = .ok (.ifCond .ne 22, 3) := by decide +kernel
theorem dX4_wantedSpeed_16 : decode cX4_wantedSpeed 16 = .ok (.aload_n 0, 1) := by decide +kernel
theorem dX4_wantedSpeed_17 : decode cX4_wantedSpeed 17 = .ok (.getfield 68, 3) := by decide +kernel
theorem dX4_wantedSpeed_20 : decode cX4_wantedSpeed 20 = .ok (.iconst 1, 1) := by decide +kernel
theorem dX4_wantedSpeed_21 : decode cX4_wantedSpeed 21 = .ok (.iadd, 1) := by decide +kernel
theorem dX4_wantedSpeed_22 : decode cX4_wantedSpeed 22 = .ok (.aload_n 0, 1) := by decide +kernel
theorem dX4_wantedSpeed_23 : decode cX4_wantedSpeed 23 = .ok (.getfield 9, 3) := by decide +kernel
theorem dX4_wantedSpeed_26 : decode cX4_wantedSpeed 26 = .ok (.iconst 3, 1) := by decide +kernel
theorem dX4_wantedSpeed_27 : decode cX4_wantedSpeed 27 = .ok (.iaload, 1) := by decide +kernel
theorem dX4_wantedSpeed_28 : decode cX4_wantedSpeed 28 = .ok (.if_icmp .le 7, 3) := by decide +kernel
theorem dX4_wantedSpeed_31 : decode cX4_wantedSpeed 31 = .ok (.iconst 1, 1) := by decide +kernel
theorem dX4_wantedSpeed_32 : decode cX4_wantedSpeed 32 = .ok (.goto 4, 3) := by decide +kernel
theorem dX4_wantedSpeed_35 : decode cX4_wantedSpeed 35 = .ok (.iconst 0, 1) := by decide +kernel
theorem dX4_wantedSpeed_36 : decode cX4_wantedSpeed 36 = .ok (.istore_n 2, 1) := by decide +kernel
theorem dX4_wantedSpeed_37 : decode cX4_wantedSpeed 37 = .ok (.iload_n 2, 1) := by decide +kernel
theorem dX4_wantedSpeed_38 : decode cX4_wantedSpeed 38 = .ok (.ifCond .ne 10, 3) := by decide +kernel
theorem dX4_wantedSpeed_41 : decode cX4_wantedSpeed 41 = .ok (.aload_n 0, 1) := by decide +kernel
theorem dX4_wantedSpeed_42 : decode cX4_wantedSpeed 42 = .ok (.invokevirtual 112, 3) := by decide +kernel
theorem dX4_wantedSpeed_45 : decode cX4_wantedSpeed 45 = .ok (.ifCond .eq 10, 3) := by decide +kernel
theorem dX4_wantedSpeed_48 : decode cX4_wantedSpeed 48 = .ok (.aload_n 0, 1) := by decide +kernel
theorem dX4_wantedSpeed_49 : decode cX4_wantedSpeed 49 = .ok (.getfield 9, 3) := by decide +kernel
theorem dX4_wantedSpeed_52 : decode cX4_wantedSpeed 52 = .ok (.iconst 1, 1) := by decide +kernel
theorem dX4_wantedSpeed_53 : decode cX4_wantedSpeed 53 = .ok (.iaload, 1) := by decide +kernel
theorem dX4_wantedSpeed_54 : decode cX4_wantedSpeed 54 = .ok (.ireturn, 1) := by decide +kernel
theorem dX4_wantedSpeed_55 : decode cX4_wantedSpeed 55 = .ok (.iconst 1, 1) := by decide +kernel
theorem dX4_wantedSpeed_56 : decode cX4_wantedSpeed 56 = .ok (.aload_n 0, 1) := by decide +kernel
theorem dX4_wantedSpeed_57 : decode cX4_wantedSpeed 57 = .ok (.getfield 9, 3) := by decide +kernel
theorem dX4_wantedSpeed_60 : decode cX4_wantedSpeed 60 = .ok (.iconst 5, 1) := by decide +kernel
theorem dX4_wantedSpeed_61 : decode cX4_wantedSpeed 61 = .ok (.iaload, 1) := by decide +kernel
theorem dX4_wantedSpeed_62 : decode cX4_wantedSpeed 62 = .ok (.invokestatic 116, 3) := by decide +kernel
theorem dX4_wantedSpeed_65 : decode cX4_wantedSpeed 65 = .ok (.istore_n 3, 1) := by decide +kernel
theorem dX4_wantedSpeed_66 : decode cX4_wantedSpeed 66 = .ok (.aload_n 0, 1) := by decide +kernel
theorem dX4_wantedSpeed_67 : decode cX4_wantedSpeed 67 = .ok (.getfield 9, 3) := by decide +kernel
theorem dX4_wantedSpeed_70 : decode cX4_wantedSpeed 70 = .ok (.iconst 1, 1) := by decide +kernel
theorem dX4_wantedSpeed_71 : decode cX4_wantedSpeed 71 = .ok (.iaload, 1) := by decide +kernel
theorem dX4_wantedSpeed_72 : decode cX4_wantedSpeed 72 = .ok (.aload_n 0, 1) := by decide +kernel
theorem dX4_wantedSpeed_73 : decode cX4_wantedSpeed 73 = .ok (.getfield 9, 3) := by decide +kernel
theorem dX4_wantedSpeed_76 : decode cX4_wantedSpeed 76 = .ok (.iconst 0, 1) := by decide +kernel
theorem dX4_wantedSpeed_77 : decode cX4_wantedSpeed 77 = .ok (.iaload, 1) := by decide +kernel
theorem dX4_wantedSpeed_78 : decode cX4_wantedSpeed 78 = .ok (.iload_n 1, 1) := by decide +kernel
theorem dX4_wantedSpeed_79 : decode cX4_wantedSpeed 79 = .ok (.iload_n 3, 1) := by decide +kernel
theorem dX4_wantedSpeed_80 : decode cX4_wantedSpeed 80 = .ok (.idiv, 1) := by decide +kernel
theorem dX4_wantedSpeed_81 : decode cX4_wantedSpeed 81 = .ok (.isub, 1) := by decide +kernel
theorem dX4_wantedSpeed_82 : decode cX4_wantedSpeed 82 = .ok (.invokestatic 116, 3) := by decide +kernel
theorem dX4_wantedSpeed_85 : decode cX4_wantedSpeed 85 = .ok (.ireturn, 1) := by decide +kernel
theorem dX4_isInDoubt_0 : decode cX4_isInDoubt 0 = .ok (.iconst 0, 1) := by decide +kernel
theorem dX4_isInDoubt_1 : decode cX4_isInDoubt 1 = .ok (.istore_n 1, 1) := by decide +kernel
theorem dX4_isInDoubt_2 : decode cX4_isInDoubt 2 = .ok (.iload_n 1, 1) := by decide +kernel
theorem dX4_isInDoubt_3 : decode cX4_isInDoubt 3 = .ok (.iconst 4, 1) := by decide +kernel
theorem dX4_isInDoubt_4 : decode cX4_isInDoubt 4 = .ok (.if_icmp .ge 26, 3) := by decide +kernel
theorem dX4_isInDoubt_7 : decode cX4_isInDoubt 7 = .ok (.aload_n 0, 1) := by decide +kernel
theorem dX4_isInDoubt_8 : decode cX4_isInDoubt 8 = .ok (.getfield 24, 3) := by decide +kernel
theorem dX4_isInDoubt_11 : decode cX4_isInDoubt 11 = .ok (.iload_n 1, 1) := by decide +kernel
theorem dX4_isInDoubt_12 : decode cX4_isInDoubt 12 = .ok (.iaload, 1) := by decide +kernel
theorem dX4_isInDoubt_13 : decode cX4_isInDoubt 13 = .ok (.aload_n 0, 1) := by decide +kernel
theorem dX4_isInDoubt_14 : decode cX4_isInDoubt 14 = .ok (.getfield 9, 3) := by decide +kernel
theorem dX4_isInDoubt_17 : decode cX4_isInDoubt 17 = .ok (.iconst 4, 1) := by decide +kernel
theorem dX4_isInDoubt_18 : decode cX4_isInDoubt 18 = .ok (.iaload, 1) := by decide +kernel
theorem dX4_isInDoubt_19 : decode cX4_isInDoubt 19 = .ok (.if_icmp .le 5, 3) := by decide +kernel
theorem dX4_isInDoubt_22 : decode cX4_isInDoubt 22 = .ok (.iconst 1, 1) := by decide +kernel
theorem dX4_isInDoubt_23 : decode cX4_isInDoubt 23 = .ok (.ireturn, 1) := by decide +kernel
theorem dX4_isInDoubt_24 : decode cX4_isInDoubt 24 = .ok (.iinc 1 1, 3) := by decide +kernel
theorem dX4_isInDoubt_27 : decode cX4_isInDoubt 27 = .ok (.goto (-25), 3) := by decide +kernel
theorem dX4_isInDoubt_30 : decode cX4_isInDoubt 30 = .ok (.iconst 0, 1) := by decide +kernel
theorem dX4_isInDoubt_31 : decode cX4_isInDoubt 31 = .ok (.ireturn, 1) := by decide +kernel
theorem dX4_changeSpeed_0 : decode cX4_changeSpeed 0 = .ok (.aload_n 0, 1) := by decide +kernel
theorem dX4_changeSpeed_1 : decode cX4_changeSpeed 1 = .ok (.getfield 9, 3) := by decide +kernel
theorem dX4_changeSpeed_4 : decode cX4_changeSpeed 4 = .ok (.iconst 2, 1) := by decide +kernel
theorem dX4_changeSpeed_5 : decode cX4_changeSpeed 5 = .ok (.iaload, 1) := by decide +kernel
theorem dX4_changeSpeed_6 : decode cX4_changeSpeed 6 = .ok (.istore_n 3, 1) := by decide +kernel
theorem dX4_changeSpeed_7 : decode cX4_changeSpeed 7 = .ok (.iload_n 2, 1) := by decide +kernel
theorem dX4_changeSpeed_8 : decode cX4_changeSpeed 8 = .ok (.aload_n 0, 1) := by decide +kernel
theorem dX4_changeSpeed_9 : decode cX4_changeSpeed 9 = .ok (.getfield 9, 3) := by decide +kernel
theorem dX4_changeSpeed_12 : decode cX4_changeSpeed 12 = .ok (.bipush 6, 2) := by decide +kernel
theorem dX4_changeSpeed_14 : decode cX4_changeSpeed 14 = .ok (.iaload, 1) := by decide +kernel
theorem dX4_changeSpeed_15 : decode cX4_changeSpeed 15 = .ok (.if_icmp .le 11, 3) := by decide +kernel
theorem dX4_changeSpeed_18 : decode cX4_changeSpeed 18 = .ok (.iload_n 3, 1) := by decide +kernel
theorem dX4_changeSpeed_19 : decode cX4_changeSpeed 19 = .ok (.iconst 1, 1) := by decide +kernel
theorem dX4_changeSpeed_20 : decode cX4_changeSpeed 20 = .ok (.iadd, 1) := by decide +kernel
theorem dX4_changeSpeed_21 : decode cX4_changeSpeed 21 = .ok (.iconst 2, 1) := by decide +kernel
theorem dX4_changeSpeed_22 : decode cX4_changeSpeed 22 = .ok (.idiv, 1) := by decide +kernel
theorem dX4_changeSpeed_23 : decode cX4_changeSpeed 23 = .ok (.goto 4, 3) := by decide +kernel
theorem dX4_changeSpeed_26 : decode cX4_changeSpeed 26 = .ok (.iload_n 3, 1) := by decide +kernel
theorem dX4_changeSpeed_27 : decode cX4_changeSpeed 27 = .ok (.istore 4, 2) := by decide +kernel
theorem dX4_changeSpeed_29 : decode cX4_changeSpeed 29 = .ok (.iload 4, 2) := by decide +kernel
theorem dX4_changeSpeed_31 : decode cX4_changeSpeed 31 = .ok (.ineg, 1) := by decide +kernel
theorem dX4_changeSpeed_32 : decode cX4_changeSpeed 32 = .ok (.iload 4, 2) := by decide +kernel
theorem dX4_changeSpeed_34 : decode cX4_changeSpeed 34 = .ok (.iload_n 1, 1) := by decide +kernel
theorem dX4_changeSpeed_35 : decode cX4_changeSpeed 35 = .ok (.aload_n 0, 1) := by decide +kernel
theorem dX4_changeSpeed_36 : decode cX4_changeSpeed 36 = .ok (.getfield 56, 3) := by decide +kernel
theorem dX4_changeSpeed_39 : decode cX4_changeSpeed 39 = .ok (.isub, 1) := by decide +kernel
theorem dX4_changeSpeed_40 : decode cX4_changeSpeed 40 = .ok (.invokestatic 121, 3) := by decide +kernel
theorem dX4_changeSpeed_43 : decode cX4_changeSpeed 43 = .ok (.invokestatic 116, 3) := by decide +kernel
theorem dX4_changeSpeed_46 : decode cX4_changeSpeed 46 = .ok (.istore 5, 2) := by decide +kernel
theorem dX4_changeSpeed_48 : decode cX4_changeSpeed 48 = .ok (.aload_n 0, 1) := by decide +kernel
theorem dX4_changeSpeed_49 : decode cX4_changeSpeed 49 = .ok (.dup, 1) := by decide +kernel
theorem dX4_changeSpeed_50 : decode cX4_changeSpeed 50 = .ok (.getfield 56, 3) := by decide +kernel
theorem dX4_changeSpeed_53 : decode cX4_changeSpeed 53 = .ok (.iload 5, 2) := by decide +kernel
theorem dX4_changeSpeed_55 : decode cX4_changeSpeed 55 = .ok (.iadd, 1) := by decide +kernel
theorem dX4_changeSpeed_56 : decode cX4_changeSpeed 56 = .ok (.putfield 56, 3) := by decide +kernel
theorem dX4_changeSpeed_59 : decode cX4_changeSpeed 59 = .ok (.aload_n 0, 1) := by decide +kernel
theorem dX4_changeSpeed_60 : decode cX4_changeSpeed 60 = .ok (.aload_n 0, 1) := by decide +kernel
theorem dX4_changeSpeed_61 : decode cX4_changeSpeed 61 = .ok (.getfield 74, 3) := by decide +kernel
theorem dX4_changeSpeed_64 : decode cX4_changeSpeed 64 = .ok (.iload 5, 2) := by decide +kernel
theorem dX4_changeSpeed_66 : decode cX4_changeSpeed 66 = .ok (.invokestatic 124, 3) := by decide +kernel
theorem dX4_changeSpeed_69 : decode cX4_changeSpeed 69 = .ok (.invokestatic 116, 3) := by decide +kernel
theorem dX4_changeSpeed_72 : decode cX4_changeSpeed 72 = .ok (.putfield 74, 3) := by decide +kernel
theorem dX4_changeSpeed_75 : decode cX4_changeSpeed 75 = .ok (.return_, 1) := by decide +kernel
theorem dX4_carryPeople_0 : decode cX4_carryPeople 0 = .ok (.iconst 0, 1) := by decide +kernel
theorem dX4_carryPeople_1 : decode cX4_carryPeople 1 = .ok (.istore_n 1, 1) := by decide +kernel
theorem dX4_carryPeople_2 : decode cX4_carryPeople 2 = .ok (.iconst 0, 1) := by decide +kernel
theorem dX4_carryPeople_3 : decode cX4_carryPeople 3 = .ok (.istore_n 2, 1) := by decide +kernel
theorem dX4_carryPeople_4 : decode cX4_carryPeople 4 = .ok (.iload_n 2, 1) := by decide +kernel
theorem dX4_carryPeople_5 : decode cX4_carryPeople 5 = .ok (.aload_n 0, 1) := by decide +kernel
theorem dX4_carryPeople_6 : decode cX4_carryPeople 6 = .ok (.getfield 47, 3) := by decide +kernel
theorem dX4_carryPeople_9 : decode cX4_carryPeople 9 = .ok (.if_icmp .ge 96, 3) := by decide +kernel
theorem dX4_carryPeople_12 : decode cX4_carryPeople 12 = .ok (.iload_n 2, 1) := by decide +kernel
theorem dX4_carryPeople_13 : decode cX4_carryPeople 13 = .ok (.bipush 20, 2) := by decide +kernel
theorem dX4_carryPeople_15 : decode cX4_carryPeople 15 = .ok (.if_icmp .ge 90, 3) := by decide +kernel
theorem dX4_carryPeople_18 : decode cX4_carryPeople 18 = .ok (.aload_n 0, 1) := by decide +kernel
theorem dX4_carryPeople_19 : decode cX4_carryPeople 19 = .ok (.getfield 15, 3) := by decide +kernel
theorem dX4_carryPeople_22 : decode cX4_carryPeople 22 = .ok (.iload_n 2, 1) := by decide +kernel
theorem dX4_carryPeople_23 : decode cX4_carryPeople 23 = .ok (.iaload, 1) := by decide +kernel
theorem dX4_carryPeople_24 : decode cX4_carryPeople 24 = .ok (.aload_n 0, 1) := by decide +kernel
theorem dX4_carryPeople_25 : decode cX4_carryPeople 25 = .ok (.getfield 56, 3) := by decide +kernel
theorem dX4_carryPeople_28 : decode cX4_carryPeople 28 = .ok (.iadd, 1) := by decide +kernel
theorem dX4_carryPeople_29 : decode cX4_carryPeople 29 = .ok (.istore_n 3, 1) := by decide +kernel
theorem dX4_carryPeople_30 : decode cX4_carryPeople 30 = .ok (.iload_n 3, 1) := by decide +kernel
theorem dX4_carryPeople_31 : decode cX4_carryPeople 31 = .ok (.sipush 1000, 3) := by decide +kernel
theorem dX4_carryPeople_34 : decode cX4_carryPeople 34 = .ok (.if_icmp .lt 31, 3) := by decide +kernel
theorem dX4_carryPeople_37 : decode cX4_carryPeople 37 = .ok (.aload_n 0, 1) := by decide +kernel
theorem dX4_carryPeople_38 : decode cX4_carryPeople 38 = .ok (.dup, 1) := by decide +kernel
theorem dX4_carryPeople_39 : decode cX4_carryPeople 39 = .ok (.getfield 59, 3) := by decide +kernel
theorem dX4_carryPeople_42 : decode cX4_carryPeople 42 = .ok (.iconst 1, 1) := by decide +kernel
theorem dX4_carryPeople_43 : decode cX4_carryPeople 43 = .ok (.iadd, 1) := by decide +kernel
theorem dX4_carryPeople_44 : decode cX4_carryPeople 44 = .ok (.putfield 59, 3) := by decide +kernel
theorem dX4_carryPeople_47 : decode cX4_carryPeople 47 = .ok (.aload_n 0, 1) := by decide +kernel
theorem dX4_carryPeople_48 : decode cX4_carryPeople 48 = .ok (.dup, 1) := by decide +kernel
theorem dX4_carryPeople_49 : decode cX4_carryPeople 49 = .ok (.getfield 62, 3) := by decide +kernel
theorem dX4_carryPeople_52 : decode cX4_carryPeople 52 = .ok (.aload_n 0, 1) := by decide +kernel
theorem dX4_carryPeople_53 : decode cX4_carryPeople 53 = .ok (.getfield 18, 3) := by decide +kernel
theorem dX4_carryPeople_56 : decode cX4_carryPeople 56 = .ok (.iload_n 2, 1) := by decide +kernel
theorem dX4_carryPeople_57 : decode cX4_carryPeople 57 = .ok (.iaload, 1) := by decide +kernel
theorem dX4_carryPeople_58 : decode cX4_carryPeople 58 = .ok (.iadd, 1) := by decide +kernel
theorem dX4_carryPeople_59 : decode cX4_carryPeople 59 = .ok (.putfield 62, 3) := by decide +kernel
theorem dX4_carryPeople_62 : decode cX4_carryPeople 62 = .ok (.goto 37, 3) := by decide +kernel
theorem dX4_carryPeople_65 : decode cX4_carryPeople 65 = .ok (.aload_n 0, 1) := by decide +kernel
theorem dX4_carryPeople_66 : decode cX4_carryPeople 66 = .ok (.getfield 15, 3) := by decide +kernel
theorem dX4_carryPeople_69 : decode cX4_carryPeople 69 = .ok (.iload_n 1, 1) := by decide +kernel
theorem dX4_carryPeople_70 : decode cX4_carryPeople 70 = .ok (.iload_n 3, 1) := by decide +kernel
theorem dX4_carryPeople_71 : decode cX4_carryPeople 71 = .ok (.iastore, 1) := by decide +kernel
theorem dX4_carryPeople_72 : decode cX4_carryPeople 72 = .ok (.aload_n 0, 1) := by decide +kernel
theorem dX4_carryPeople_73 : decode cX4_carryPeople 73 = .ok (.getfield 18, 3) := by decide +kernel
theorem dX4_carryPeople_76 : decode cX4_carryPeople 76 = .ok (.iload_n 1, 1) := by decide +kernel
theorem dX4_carryPeople_77 : decode cX4_carryPeople 77 = .ok (.aload_n 0, 1) := by decide +kernel
theorem dX4_carryPeople_78 : decode cX4_carryPeople 78 = .ok (.getfield 18, 3) := by decide +kernel
theorem dX4_carryPeople_81 : decode cX4_carryPeople 81 = .ok (.iload_n 2, 1) := by decide +kernel
theorem dX4_carryPeople_82 : decode cX4_carryPeople 82 = .ok (.iaload, 1) := by decide +kernel
theorem dX4_carryPeople_83 : decode cX4_carryPeople 83 = .ok (.iastore, 1) := by decide +kernel
theorem dX4_carryPeople_84 : decode cX4_carryPeople 84 = .ok (.aload_n 0, 1) := by decide +kernel
theorem dX4_carryPeople_85 : decode cX4_carryPeople 85 = .ok (.getfield 21, 3) := by decide +kernel
theorem dX4_carryPeople_88 : decode cX4_carryPeople 88 = .ok (.iload_n 1, 1) := by decide +kernel
theorem dX4_carryPeople_89 : decode cX4_carryPeople 89 = .ok (.aload_n 0, 1) := by decide +kernel
theorem dX4_carryPeople_90 : decode cX4_carryPeople 90 = .ok (.getfield 21, 3) := by decide +kernel
theorem dX4_carryPeople_93 : decode cX4_carryPeople 93 = .ok (.iload_n 2, 1) := by decide +kernel
theorem dX4_carryPeople_94 : decode cX4_carryPeople 94 = .ok (.iaload, 1) := by decide +kernel
theorem dX4_carryPeople_95 : decode cX4_carryPeople 95 = .ok (.iastore, 1) := by decide +kernel
theorem dX4_carryPeople_96 : decode cX4_carryPeople 96 = .ok (.iinc 1 1, 3) := by decide +kernel
theorem dX4_carryPeople_99 : decode cX4_carryPeople 99 = .ok (.iinc 2 1, 3) := by decide +kernel
theorem dX4_carryPeople_102 : decode cX4_carryPeople 102 = .ok (.goto (-98), 3) := by decide +kernel
theorem dX4_carryPeople_105 : decode cX4_carryPeople 105 = .ok (.aload_n 0, 1) := by decide +kernel
theorem dX4_carryPeople_106 : decode cX4_carryPeople 106 = .ok (.iload_n 1, 1) := by decide +kernel
theorem dX4_carryPeople_107 : decode cX4_carryPeople 107 = .ok (.putfield 47, 3) := by decide +kernel
theorem dX4_carryPeople_110 : decode cX4_carryPeople 110 = .ok (.aload_n 0, 1) := by decide +kernel
theorem dX4_carryPeople_111 : decode cX4_carryPeople 111 = .ok (.dup, 1) := by decide +kernel
theorem dX4_carryPeople_112 : decode cX4_carryPeople 112 = .ok (.getfield 71, 3) := by decide +kernel
theorem dX4_carryPeople_115 : decode cX4_carryPeople 115 = .ok (.aload_n 0, 1) := by decide +kernel
theorem dX4_carryPeople_116 : decode cX4_carryPeople 116 = .ok (.getfield 56, 3) := by decide +kernel
theorem dX4_carryPeople_119 : decode cX4_carryPeople 119 = .ok (.iadd, 1) := by decide +kernel
theorem dX4_carryPeople_120 : decode cX4_carryPeople 120 = .ok (.putfield 71, 3) := by decide +kernel
theorem dX4_carryPeople_123 : decode cX4_carryPeople 123 = .ok (.return_, 1) := by decide +kernel
theorem dX4_unitsUntilStopped_0 : decode cX4_unitsUntilStopped 0 = .ok (.aload_n 0, 1) := by decide +kernel
theorem dX4_unitsUntilStopped_1 : decode cX4_unitsUntilStopped 1 = .ok (.getfield 71, 3) := by decide +kernel
theorem dX4_unitsUntilStopped_4 : decode cX4_unitsUntilStopped 4 = .ok (.istore_n 1, 1) := by decide +kernel
theorem dX4_unitsUntilStopped_5 : decode cX4_unitsUntilStopped 5 = .ok (.aload_n 0, 1) := by decide +kernel
theorem dX4_unitsUntilStopped_6 : decode cX4_unitsUntilStopped 6 = .ok (.getfield 30, 3) := by decide +kernel
theorem dX4_unitsUntilStopped_9 : decode cX4_unitsUntilStopped 9 = .ok (.ifCond .ne 8, 3) := by decide +kernel
theorem dX4_unitsUntilStopped_12 : decode cX4_unitsUntilStopped 12 = .ok (.aload_n 0, 1) := by decide +kernel
theorem dX4_unitsUntilStopped_13 : decode cX4_unitsUntilStopped 13 = .ok (.iconst 1, 1) := by decide +kernel
theorem dX4_unitsUntilStopped_14 : decode cX4_unitsUntilStopped 14 = .ok (.putfield 30, 3) := by decide +kernel
theorem dX4_unitsUntilStopped_17 : decode cX4_unitsUntilStopped 17 = .ok (.iconst 0, 1) := by decide +kernel
theorem dX4_unitsUntilStopped_18 : decode cX4_unitsUntilStopped 18 = .ok (.istore_n 2, 1) := by decide +kernel
theorem dX4_unitsUntilStopped_19 : decode cX4_unitsUntilStopped 19 = .ok (.iload_n 2, 1) := by decide +kernel
theorem dX4_unitsUntilStopped_20 : decode cX4_unitsUntilStopped 20 = .ok (.sipush 3000, 3) := by decide +kernel
theorem dX4_unitsUntilStopped_23 : decode cX4_unitsUntilStopped 23 = .ok (.if_icmp .ge 22, 3) := by decide +kernel
theorem dX4_unitsUntilStopped_26 : decode cX4_unitsUntilStopped 26 = .ok (.aload_n 0, 1) := by decide +kernel
theorem dX4_unitsUntilStopped_27 : decode cX4_unitsUntilStopped 27 = .ok (.getfield 30, 3) := by decide +kernel
theorem dX4_unitsUntilStopped_30 : decode cX4_unitsUntilStopped 30 = .ok (.iconst 1, 1) := by decide +kernel
theorem dX4_unitsUntilStopped_31 : decode cX4_unitsUntilStopped 31 = .ok (.if_icmp .ne 14, 3) := by decide +kernel
theorem dX4_unitsUntilStopped_34 : decode cX4_unitsUntilStopped 34 = .ok (.aload_n 0, 1) := by decide +kernel
theorem dX4_unitsUntilStopped_35 : decode cX4_unitsUntilStopped 35 = .ok (.iconst 0, 1) := by decide +kernel
theorem dX4_unitsUntilStopped_36 : decode cX4_unitsUntilStopped 36 = .ok (.invokevirtual 127, 3) := by decide +kernel
theorem dX4_unitsUntilStopped_39 : decode cX4_unitsUntilStopped 39 = .ok (.iinc 2 1, 3) := by decide +kernel
theorem dX4_unitsUntilStopped_42 : decode cX4_unitsUntilStopped 42 = .ok (.goto (-23), 3) := by decide +kernel
theorem dX4_unitsUntilStopped_45 : decode cX4_unitsUntilStopped 45 = .ok (.aload_n 0, 1) := by decide +kernel
theorem dX4_unitsUntilStopped_46 : decode cX4_unitsUntilStopped 46 = .ok (.getfield 71, 3) := by decide +kernel
theorem dX4_unitsUntilStopped_49 : decode cX4_unitsUntilStopped 49 = .ok (.iload_n 1, 1) := by decide +kernel
theorem dX4_unitsUntilStopped_50 : decode cX4_unitsUntilStopped 50 = .ok (.isub, 1) := by decide +kernel
theorem dX4_unitsUntilStopped_51 : decode cX4_unitsUntilStopped 51 = .ok (.ireturn, 1) := by decide +kernel
theorem dX4_ticksUntilEmpty_0 : decode cX4_ticksUntilEmpty 0 = .ok (.aload_n 0, 1) := by decide +kernel
theorem dX4_ticksUntilEmpty_1 : decode cX4_ticksUntilEmpty 1 = .ok (.invokevirtual 131, 3) := by decide +kernel
theorem dX4_ticksUntilEmpty_4 : decode cX4_ticksUntilEmpty 4 = .ok (.istore_n 1, 1) := by decide +kernel
theorem dX4_ticksUntilEmpty_5 : decode cX4_ticksUntilEmpty 5 = .ok (.iconst 0, 1) := by decide +kernel
theorem dX4_ticksUntilEmpty_6 : decode cX4_ticksUntilEmpty 6 = .ok (.istore_n 2, 1) := by decide +kernel
theorem dX4_ticksUntilEmpty_7 : decode cX4_ticksUntilEmpty 7 = .ok (.iload_n 2, 1) := by decide +kernel
theorem dX4_ticksUntilEmpty_8 : decode cX4_ticksUntilEmpty 8 = .ok (.sipush 3000, 3) := by decide +kernel
theorem dX4_ticksUntilEmpty_11 : decode cX4_ticksUntilEmpty 11 = .ok (.if_icmp .ge 29, 3) := by decide +kernel
theorem dX4_ticksUntilEmpty_14 : decode cX4_ticksUntilEmpty 14 = .ok (.aload_n 0, 1) := by decide +kernel
theorem dX4_ticksUntilEmpty_15 : decode cX4_ticksUntilEmpty 15 = .ok (.getfield 47, 3) := by decide +kernel
theorem dX4_ticksUntilEmpty_18 : decode cX4_ticksUntilEmpty 18 = .ok (.ifCond .le 22, 3) := by decide +kernel
theorem dX4_ticksUntilEmpty_21 : decode cX4_ticksUntilEmpty 21 = .ok (.aload_n 0, 1) := by decide +kernel
theorem dX4_ticksUntilEmpty_22 : decode cX4_ticksUntilEmpty 22 = .ok (.getfield 30, 3) := by decide +kernel
theorem dX4_ticksUntilEmpty_25 : decode cX4_ticksUntilEmpty 25 = .ok (.iconst 2, 1) := by decide +kernel
theorem dX4_ticksUntilEmpty_26 : decode cX4_ticksUntilEmpty 26 = .ok (.if_icmp .eq 14, 3) := by decide +kernel
theorem dX4_ticksUntilEmpty_29 : decode cX4_ticksUntilEmpty 29 = .ok (.aload_n 0, 1) := by decide +kernel
theorem dX4_ticksUntilEmpty_30 : decode cX4_ticksUntilEmpty 30 = .ok (.iload_n 1, 1) := by decide +kernel
theorem dX4_ticksUntilEmpty_31 : decode cX4_ticksUntilEmpty 31 = .ok (.invokevirtual 127, 3) := by decide +kernel
theorem dX4_ticksUntilEmpty_34 : decode cX4_ticksUntilEmpty 34 = .ok (.iinc 2 1, 3) := by decide +kernel
theorem dX4_ticksUntilEmpty_37 : decode cX4_ticksUntilEmpty 37 = .ok (.goto (-30), 3) := by decide +kernel
theorem dX4_ticksUntilEmpty_40 : decode cX4_ticksUntilEmpty 40 = .ok (.aload_n 0, 1) := by decide +kernel
theorem dX4_ticksUntilEmpty_41 : decode cX4_ticksUntilEmpty 41 = .ok (.getfield 47, 3) := by decide +kernel
theorem dX4_ticksUntilEmpty_44 : decode cX4_ticksUntilEmpty 44 = .ok (.ifCond .ne 7, 3) := by decide +kernel
theorem dX4_ticksUntilEmpty_47 : decode cX4_ticksUntilEmpty 47 = .ok (.iload_n 2, 1) := by decide +kernel
theorem dX4_ticksUntilEmpty_48 : decode cX4_ticksUntilEmpty 48 = .ok (.goto 5, 3) := by decide +kernel
theorem dX4_ticksUntilEmpty_51 : decode cX4_ticksUntilEmpty 51 = .ok (.bipush (-6), 2) := by decide +kernel
theorem dX4_ticksUntilEmpty_53 : decode cX4_ticksUntilEmpty 53 = .ok (.ireturn, 1) := by decide +kernel
theorem dX5_init_0 : decode cX5_init 0 = .ok (.aload_n 0, 1) := by decide +kernel
theorem dX5_init_1 : decode cX5_init 1 = .ok (.invokespecial 1, 3) := by decide +kernel
theorem dX5_init_4 : decode cX5_init 4 = .ok (.aload_n 0, 1) := by decide +kernel
theorem dX5_init_5 : decode cX5_init 5 = .ok (.new 7, 3) := by decide +kernel
theorem dX5_init_8 : decode cX5_init 8 = .ok (.dup, 1) := by decide +kernel
theorem dX5_init_9 : decode cX5_init 9 = .ok (.invokespecial 9, 3) := by decide +kernel
theorem dX5_init_12 : decode cX5_init 12 = .ok (.putfield 10, 3) := by decide +kernel
theorem dX5_init_15 : decode cX5_init 15 = .ok (.aload_n 0, 1) := by decide +kernel
theorem dX5_init_16 : decode cX5_init 16 = .ok (.new 16, 3) := by decide +kernel
theorem dX5_init_19 : decode cX5_init 19 = .ok (.dup, 1) := by decide +kernel
theorem dX5_init_20 : decode cX5_init 20 = .ok (.invokespecial 18, 3) := by decide +kernel
theorem dX5_init_23 : decode cX5_init 23 = .ok (.putfield 19, 3) := by decide +kernel
theorem dX5_init_26 : decode cX5_init 26 = .ok (.aload_n 0, 1) := by decide +kernel
theorem dX5_init_27 : decode cX5_init 27 = .ok (.iconst 2, 1) := by decide +kernel
theorem dX5_init_28 : decode cX5_init 28 = .ok (.anewarray 23, 3) := by decide +kernel
theorem dX5_init_31 : decode cX5_init 31 = .ok (.putfield 25, 3) := by decide +kernel
theorem dX5_init_34 : decode cX5_init 34 = .ok (.aload_n 0, 1) := by decide +kernel
theorem dX5_init_35 : decode cX5_init 35 = .ok (.iconst 2, 1) := by decide +kernel
theorem dX5_init_36 : decode cX5_init 36 = .ok (.newarray .boolean, 2) := by decide +kernel
theorem dX5_init_38 : decode cX5_init 38 = .ok (.putfield 29, 3) := by decide +kernel
theorem dX5_init_41 : decode cX5_init 41 = .ok (.aload_n 0, 1) := by decide +kernel
theorem dX5_init_42 : decode cX5_init 42 = .ok (.getfield 19, 3) := by decide +kernel
theorem dX5_init_45 : decode cX5_init 45 = .ok (.ldc 33, 2) := by decide +kernel
theorem dX5_init_47 : decode cX5_init 47 = .ok (.invokevirtual 35, 3) := by decide +kernel
theorem dX5_init_50 : decode cX5_init 50 = .ok (.ldc 33, 2) := by decide +kernel
theorem dX5_init_52 : decode cX5_init 52 = .ok (.invokevirtual 41, 3) := by decide +kernel
theorem dX5_init_55 : decode cX5_init 55 = .ok (.invokevirtual 45, 3) := by decide +kernel
theorem dX5_init_58 : decode cX5_init 58 = .ok (.astore_n 1, 1) := by decide +kernel
theorem dX5_init_59 : decode cX5_init 59 = .ok (.aload_n 0, 1) := by decide +kernel
theorem dX5_init_60 : decode cX5_init 60 = .ok (.new 23, 3) := by decide +kernel
theorem dX5_init_63 : decode cX5_init 63 = .ok (.dup, 1) := by decide +kernel
theorem dX5_init_64 : decode cX5_init 64 = .ok (.aload_n 1, 1) := by decide +kernel
theorem dX5_init_65 : decode cX5_init 65 = .ok (.invokespecial 49, 3) := by decide +kernel
theorem dX5_init_68 : decode cX5_init 68 = .ok (.putfield 52, 3) := by decide +kernel
theorem dX5_init_71 : decode cX5_init 71 = .ok (.aload_n 0, 1) := by decide +kernel
theorem dX5_init_72 : decode cX5_init 72 = .ok (.new 23, 3) := by decide +kernel
theorem dX5_init_75 : decode cX5_init 75 = .ok (.dup, 1) := by decide +kernel
theorem dX5_init_76 : decode cX5_init 76 = .ok (.aload_n 1, 1) := by decide +kernel
theorem dX5_init_77 : decode cX5_init 77 = .ok (.invokespecial 49, 3) := by decide +kernel
theorem dX5_init_80 : decode cX5_init 80 = .ok (.putfield 56, 3) := by decide +kernel
theorem dX5_init_83 : decode cX5_init 83 = .ok (.aload_n 0, 1) := by decide +kernel
theorem dX5_init_84 : decode cX5_init 84 = .ok (.new 59, 3) := by decide +kernel
theorem dX5_init_87 : decode cX5_init 87 = .ok (.dup, 1) := by decide +kernel
theorem dX5_init_88 : decode cX5_init 88 = .ok (.aload_n 1, 1) := by decide +kernel
theorem dX5_init_89 : decode cX5_init 89 = .ok (.invokespecial 61, 3) := by decide +kernel
theorem dX5_init_92 : decode cX5_init 92 = .ok (.putfield 62, 3) := by decide +kernel
theorem dX5_init_95 : decode cX5_init 95 = .ok (.iconst 0, 1) := by decide +kernel
theorem dX5_init_96 : decode cX5_init 96 = .ok (.istore_n 2, 1) := by decide +kernel
theorem dX5_init_97 : decode cX5_init 97 = .ok (.iload_n 2, 1) := by decide +kernel
theorem dX5_init_98 : decode cX5_init 98 = .ok (.iconst 2, 1) := by decide +kernel
theorem dX5_init_99 : decode cX5_init 99 = .ok (.if_icmp .ge 23, 3) := by decide +kernel
theorem dX5_init_102 : decode cX5_init 102 = .ok (.aload_n 0, 1) := by decide +kernel
theorem dX5_init_103 : decode cX5_init 103 = .ok (.getfield 25, 3) := by decide +kernel
theorem dX5_init_106 : decode cX5_init 106 = .ok (.iload_n 2, 1) := by decide +kernel
theorem dX5_init_107 : decode cX5_init 107 = .ok (.new 23, 3) := by decide +kernel
theorem dX5_init_110 : decode cX5_init 110 = .ok (.dup, 1) := by decide +kernel
theorem dX5_init_111 : decode cX5_init 111 = .ok (.aload_n 1, 1) := by decide +kernel
theorem dX5_init_112 : decode cX5_init 112 = .ok (.invokespecial 49, 3) := by decide +kernel
theorem dX5_init_115 : decode cX5_init 115 = .ok (.aastore, 1) := by decide +kernel
theorem dX5_init_116 : decode cX5_init 116 = .ok (.iinc 2 1, 3) := by decide +kernel
theorem dX5_init_119 : decode cX5_init 119 = .ok (.goto (-22), 3) := by decide +kernel
theorem dX5_init_122 : decode cX5_init 122 = .ok (.return_, 1) := by decide +kernel
theorem dX5_set_0 : decode cX5_set 0 = .ok (.iload_n 1, 1) := by decide +kernel
theorem dX5_set_1 : decode cX5_set 1 = .ok (.ifCond .lt 9, 3) := by decide +kernel
theorem dX5_set_4 : decode cX5_set 4 = .ok (.iload_n 1, 1) := by decide +kernel
theorem dX5_set_5 : decode cX5_set 5 = .ok (.bipush 7, 2) := by decide +kernel
theorem dX5_set_7 : decode cX5_set 7 = .ok (.if_icmp .lt 6, 3) := by decide +kernel
theorem dX5_set_10 : decode cX5_set 10 = .ok (.bipush (-2), 2) := by decide +kernel
theorem dX5_set_12 : decode cX5_set 12 = .ok (.ireturn, 1) := by decide +kernel
theorem dX5_set_13 : decode cX5_set 13 = .ok (.iload_n 2, 1) := by decide +kernel
theorem dX5_set_14 : decode cX5_set 14 = .ok (.getstatic 66, 3) := by decide +kernel
theorem dX5_set_17 : decode cX5_set 17 = .ok (.iload_n 1, 1) := by decide +kernel
theorem dX5_set_18 : decode cX5_set 18 = .ok (.iaload, 1) := by decide +kernel
theorem dX5_set_19 : decode cX5_set 19 = .ok (.if_icmp .lt 12, 3) := by decide +kernel
theorem dX5_set_22 : decode cX5_set 22 = .ok (.iload_n 2, 1) := by decide +kernel
theorem dX5_set_23 : decode cX5_set 23 = .ok (.getstatic 70, 3) := by decide +kernel
theorem dX5_set_26 : decode cX5_set 26 = .ok (.iload_n 1, 1) := by decide +kernel
theorem dX5_set_27 : decode cX5_set 27 = .ok (.iaload, 1) := by decide +kernel
theorem dX5_set_28 : decode cX5_set 28 = .ok (.if_icmp .le 6, 3) := by decide +kernel
theorem dX5_set_31 : decode cX5_set 31 = .ok (.bipush (-2), 2) := by decide +kernel
theorem dX5_set_33 : decode cX5_set 33 = .ok (.ireturn, 1) := by decide +kernel
theorem dX5_set_34 : decode cX5_set 34 = .ok (.aload_n 0, 1) := by decide +kernel
theorem dX5_set_35 : decode cX5_set 35 = .ok (.getfield 62, 3) := by decide +kernel
theorem dX5_set_38 : decode cX5_set 38 = .ok (.aload_n 0, 1) := by decide +kernel
theorem dX5_set_39 : decode cX5_set 39 = .ok (.getfield 52, 3) := by decide +kernel
theorem dX5_set_42 : decode cX5_set 42 = .ok (.invokevirtual 73, 3) := by decide +kernel
theorem dX5_set_45 : decode cX5_set 45 = .ok (.aload_n 0, 1) := by decide +kernel
theorem dX5_set_46 : decode cX5_set 46 = .ok (.getfield 52, 3) := by decide +kernel
theorem dX5_set_49 : decode cX5_set 49 = .ok (.getfield 77, 3) := by decide +kernel
theorem dX5_set_52 : decode cX5_set 52 = .ok (.iload_n 1, 1) := by decide +kernel
theorem dX5_set_53 : decode cX5_set 53 = .ok (.iaload, 1) := by decide +kernel
theorem dX5_set_54 : decode cX5_set 54 = .ok (.istore_n 3, 1) := by decide +kernel
theorem dX5_set_55 : decode cX5_set 55 = .ok (.aload_n 0, 1) := by decide +kernel
theorem dX5_set_56 : decode cX5_set 56 = .ok (.getfield 52, 3) := by decide +kernel
theorem dX5_set_59 : decode cX5_set 59 = .ok (.getfield 77, 3) := by decide +kernel
theorem dX5_set_62 : decode cX5_set 62 = .ok (.iload_n 1, 1) := by decide +kernel
theorem dX5_set_63 : decode cX5_set 63 = .ok (.iload_n 2, 1) := by decide +kernel
theorem dX5_set_64 : decode cX5_set 64 = .ok (.iastore, 1) := by decide +kernel
theorem dX5_set_65 : decode cX5_set 65 = .ok (.iload_n 3, 1) := by decide +kernel
theorem dX5_set_66 : decode cX5_set 66 = .ok (.ireturn, 1) := by decide +kernel
theorem dX5_come_0 : decode cX5_come 0 = .ok (.iload_n 1, 1) := by decide +kernel
theorem dX5_come_1 : decode cX5_come 1 = .ok (.iconst 1, 1) := by decide +kernel
theorem dX5_come_2 : decode cX5_come 2 = .ok (.if_icmp .lt 10, 3) := by decide +kernel
theorem dX5_come_5 : decode cX5_come 5 = .ok (.iload_n 1, 1) := by decide +kernel
theorem dX5_come_6 : decode cX5_come 6 = .ok (.sipush 200, 3) := by decide +kernel
theorem dX5_come_9 : decode cX5_come 9 = .ok (.if_icmp .le 6, 3) := by decide +kernel
theorem dX5_come_12 : decode cX5_come 12 = .ok (.bipush (-2), 2) := by decide +kernel
theorem dX5_come_14 : decode cX5_come 14 = .ok (.ireturn, 1) := by decide +kernel
theorem dX5_come_15 : decode cX5_come 15 = .ok (.aload_n 0, 1) := by decide +kernel
theorem dX5_come_16 : decode cX5_come 16 = .ok (.getfield 52, 3) := by decide +kernel
theorem dX5_come_19 : decode cX5_come 19 = .ok (.getfield 80, 3) := by decide +kernel
theorem dX5_come_22 : decode cX5_come 22 = .ok (.bipush 20, 2) := by decide +kernel
theorem dX5_come_24 : decode cX5_come 24 = .ok (.if_icmp .lt 6, 3) := by decide +kernel
theorem dX5_come_27 : decode cX5_come 27 = .ok (.bipush (-4), 2) := by decide +kernel
theorem dX5_come_29 : decode cX5_come 29 = .ok (.ireturn, 1) := by decide +kernel
theorem dX5_come_30 : decode cX5_come 30 = .ok (.aload_n 0, 1) := by decide +kernel
theorem dX5_come_31 : decode cX5_come 31 = .ok (.getfield 52, 3) := by decide +kernel
theorem dX5_come_34 : decode cX5_come 34 = .ok (.getfield 84, 3) := by decide +kernel
theorem dX5_come_37 : decode cX5_come 37 = .ok (.ifCond .eq 6, 3) := by decide +kernel
theorem dX5_come_40 : decode cX5_come 40 = .ok (.bipush (-5), 2) := by decide +kernel
theorem dX5_come_42 : decode cX5_come 42 = .ok (.ireturn, 1) := by decide +kernel
theorem dX5_come_43 : decode cX5_come 43 = .ok (.aload_n 0, 1) := by decide +kernel
theorem dX5_come_44 : decode cX5_come 44 = .ok (.getfield 62, 3) := by decide +kernel
theorem dX5_come_47 : decode cX5_come 47 = .ok (.aload_n 0, 1) := by decide +kernel
theorem dX5_come_48 : decode cX5_come 48 = .ok (.getfield 52, 3) := by decide +kernel
theorem dX5_come_51 : decode cX5_come 51 = .ok (.invokevirtual 73, 3) := by decide +kernel
theorem dX5_come_54 : decode cX5_come 54 = .ok (.aload_n 0, 1) := by decide +kernel
theorem dX5_come_55 : decode cX5_come 55 = .ok (.getfield 52, 3) := by decide +kernel
theorem dX5_come_58 : decode cX5_come 58 = .ok (.iload_n 1, 1) := by decide +kernel
theorem dX5_come_59 : decode cX5_come 59 = .ok (.invokevirtual 87, 3) := by decide +kernel
theorem dX5_come_62 : decode cX5_come 62 = .ok (.aload_n 0, 1) := by decide +kernel
theorem dX5_come_63 : decode cX5_come 63 = .ok (.getfield 52, 3) := by decide +kernel
theorem dX5_come_66 : decode cX5_come 66 = .ok (.getfield 80, 3) := by decide +kernel
theorem dX5_come_69 : decode cX5_come 69 = .ok (.ireturn, 1) := by decide +kernel
theorem dX5_sense_0 : decode cX5_sense 0 = .ok (.iload_n 1, 1) := by decide +kernel
theorem dX5_sense_1 : decode cX5_sense 1 = .ok (.ifCond .lt 17, 3) := by decide +kernel
theorem dX5_sense_4 : decode cX5_sense 4 = .ok (.iload_n 1, 1) := by decide +kernel
theorem dX5_sense_5 : decode cX5_sense 5 = .ok (.iconst 4, 1) := by decide +kernel
theorem dX5_sense_6 : decode cX5_sense 6 = .ok (.if_icmp .ge 12, 3) := by decide +kernel
theorem dX5_sense_9 : decode cX5_sense 9 = .ok (.iload_n 2, 1) := by decide +kernel
theorem dX5_sense_10 : decode cX5_sense 10 = .ok (.ifCond .lt 8, 3) := by decide +kernel
theorem dX5_sense_13 : decode cX5_sense 13 = .ok (.iload_n 2, 1) := by decide +kernel
theorem dX5_sense_14 : decode cX5_sense 14 = .ok (.iconst 2, 1) := by decide +kernel
theorem dX5_sense_15 : decode cX5_sense 15 = .ok (.if_icmp .lt 5, 3) := by decide +kernel
theorem dX5_sense_18 : decode cX5_sense 18 = .ok (.iconst (-1), 1) := by decide +kernel
theorem dX5_sense_19 : decode cX5_sense 19 = .ok (.ireturn, 1) := by decide +kernel
theorem dX5_sense_20 : decode cX5_sense 20 = .ok (.iload_n 3, 1) := by decide +kernel
theorem dX5_sense_21 : decode cX5_sense 21 = .ok (.ifCond .eq 11, 3) := by decide +kernel
theorem dX5_sense_24 : decode cX5_sense 24 = .ok (.iload_n 3, 1) := by decide +kernel
theorem dX5_sense_25 : decode cX5_sense 25 = .ok (.iconst 1, 1) := by decide +kernel
theorem dX5_sense_26 : decode cX5_sense 26 = .ok (.if_icmp .eq 6, 3) := by decide +kernel
theorem dX5_sense_29 : decode cX5_sense 29 = .ok (.bipush (-2), 2) := by decide +kernel
theorem dX5_sense_31 : decode cX5_sense 31 = .ok (.ireturn, 1) := by decide +kernel
theorem dX5_sense_32 : decode cX5_sense 32 = .ok (.aload_n 0, 1) := by decide +kernel
theorem dX5_sense_33 : decode cX5_sense 33 = .ok (.getfield 62, 3) := by decide +kernel
theorem dX5_sense_36 : decode cX5_sense 36 = .ok (.aload_n 0, 1) := by decide +kernel
theorem dX5_sense_37 : decode cX5_sense 37 = .ok (.getfield 52, 3) := by decide +kernel
theorem dX5_sense_40 : decode cX5_sense 40 = .ok (.invokevirtual 73, 3) := by decide +kernel
theorem dX5_sense_43 : decode cX5_sense 43 = .ok (.aload_n 0, 1) := by decide +kernel
theorem dX5_sense_44 : decode cX5_sense 44 = .ok (.getfield 52, 3) := by decide +kernel
theorem dX5_sense_47 : decode cX5_sense 47 = .ok (.iload_n 1, 1) := by decide +kernel
theorem dX5_sense_48 : decode cX5_sense 48 = .ok (.iload_n 2, 1) := by decide +kernel
theorem dX5_sense_49 : decode cX5_sense 49 = .ok (.invokevirtual 91, 3) := by decide +kernel
theorem dX5_sense_52 : decode cX5_sense 52 = .ok (.istore 4, 2) := by decide +kernel
theorem dX5_sense_54 : decode cX5_sense 54 = .ok (.aload_n 0, 1) := by decide +kernel
theorem dX5_sense_55 : decode cX5_sense 55 = .ok (.getfield 52, 3) := by decide +kernel
theorem dX5_sense_58 : decode cX5_sense 58 = .ok (.iload_n 1, 1) := by decide +kernel
theorem dX5_sense_59 : decode cX5_sense 59 = .ok (.iload_n 2, 1) := by decide +kernel
theorem dX5_sense_60 : decode cX5_sense 60 = .ok (.iload_n 3, 1) := by decide +kernel
theorem dX5_sense_61 : decode cX5_sense 61 = .ok (.invokevirtual 95, 3) := by decide +kernel
theorem dX5_sense_64 : decode cX5_sense 64 = .ok (.iload 4, 2) := by decide +kernel
theorem dX5_sense_66 : decode cX5_sense 66 = .ok (.ireturn, 1) := by decide +kernel
theorem dX5_stop_0 : decode cX5_stop 0 = .ok (.aload_n 0, 1) := by decide +kernel
theorem dX5_stop_1 : decode cX5_stop 1 = .ok (.getfield 52, 3) := by decide +kernel
theorem dX5_stop_4 : decode cX5_stop 4 = .ok (.getfield 84, 3) := by decide +kernel
theorem dX5_stop_7 : decode cX5_stop 7 = .ok (.ifCond .eq 6, 3) := by decide +kernel
theorem dX5_stop_10 : decode cX5_stop 10 = .ok (.bipush (-5), 2) := by decide +kernel
theorem dX5_stop_12 : decode cX5_stop 12 = .ok (.ireturn, 1) := by decide +kernel
theorem dX5_stop_13 : decode cX5_stop 13 = .ok (.aload_n 0, 1) := by decide +kernel
theorem dX5_stop_14 : decode cX5_stop 14 = .ok (.getfield 62, 3) := by decide +kernel
theorem dX5_stop_17 : decode cX5_stop 17 = .ok (.aload_n 0, 1) := by decide +kernel
theorem dX5_stop_18 : decode cX5_stop 18 = .ok (.getfield 52, 3) := by decide +kernel
theorem dX5_stop_21 : decode cX5_stop 21 = .ok (.invokevirtual 73, 3) := by decide +kernel
theorem dX5_stop_24 : decode cX5_stop 24 = .ok (.aload_n 0, 1) := by decide +kernel
theorem dX5_stop_25 : decode cX5_stop 25 = .ok (.getfield 52, 3) := by decide +kernel
theorem dX5_stop_28 : decode cX5_stop 28 = .ok (.iconst 1, 1) := by decide +kernel
theorem dX5_stop_29 : decode cX5_stop 29 = .ok (.invokevirtual 99, 3) := by decide +kernel
theorem dX5_stop_32 : decode cX5_stop 32 = .ok (.aload_n 0, 1) := by decide +kernel
theorem dX5_stop_33 : decode cX5_stop 33 = .ok (.getfield 52, 3) := by decide +kernel
theorem dX5_stop_36 : decode cX5_stop 36 = .ok (.getfield 102, 3) := by decide +kernel
theorem dX5_stop_39 : decode cX5_stop 39 = .ok (.ireturn, 1) := by decide +kernel
theorem dX5_restart_0 : decode cX5_restart 0 = .ok (.aload_n 0, 1) := by decide +kernel
theorem dX5_restart_1 : decode cX5_restart 1 = .ok (.getfield 52, 3) := by decide +kernel
theorem dX5_restart_4 : decode cX5_restart 4 = .ok (.getfield 84, 3) := by decide +kernel
theorem dX5_restart_7 : decode cX5_restart 7 = .ok (.iconst 2, 1) := by decide +kernel
theorem dX5_restart_8 : decode cX5_restart 8 = .ok (.if_icmp .ne 13, 3) := by decide +kernel
theorem dX5_restart_11 : decode cX5_restart 11 = .ok (.aload_n 0, 1) := by decide +kernel
theorem dX5_restart_12 : decode cX5_restart 12 = .ok (.getfield 52, 3) := by decide +kernel
theorem dX5_restart_15 : decode cX5_restart 15 = .ok (.invokevirtual 105, 3) := by decide +kernel
theorem dX5_restart_18 : decode cX5_restart 18 = .ok (.ifCond .eq 6, 3) := by decide +kernel
theorem dX5_restart_21 : decode cX5_restart 21 = .ok (.bipush (-5), 2) := by decide +kernel
theorem dX5_restart_23 : decode cX5_restart 23 = .ok (.ireturn, 1) := by decide +kernel
theorem dX5_restart_24 : decode cX5_restart 24 = .ok (.aload_n 0, 1) := by decide +kernel
theorem dX5_restart_25 : decode cX5_restart 25 = .ok (.getfield 62, 3) := by decide +kernel
theorem dX5_restart_28 : decode cX5_restart 28 = .ok (.aload_n 0, 1) := by decide +kernel
theorem dX5_restart_29 : decode cX5_restart 29 = .ok (.getfield 52, 3) := by decide +kernel
theorem dX5_restart_32 : decode cX5_restart 32 = .ok (.invokevirtual 73, 3) := by decide +kernel
theorem dX5_restart_35 : decode cX5_restart 35 = .ok (.aload_n 0, 1) := by decide +kernel
theorem dX5_restart_36 : decode cX5_restart 36 = .ok (.getfield 52, 3) := by decide +kernel
theorem dX5_restart_39 : decode cX5_restart 39 = .ok (.iconst 0, 1) := by decide +kernel
theorem dX5_restart_40 : decode cX5_restart 40 = .ok (.putfield 84, 3) := by decide +kernel
theorem dX5_restart_43 : decode cX5_restart 43 = .ok (.aload_n 0, 1) := by decide +kernel
theorem dX5_restart_44 : decode cX5_restart 44 = .ok (.getfield 52, 3) := by decide +kernel
theorem dX5_restart_47 : decode cX5_restart 47 = .ok (.getfield 80, 3) := by decide +kernel
theorem dX5_restart_50 : decode cX5_restart 50 = .ok (.ireturn, 1) := by decide +kernel
theorem dX5_pass_0 : decode cX5_pass 0 = .ok (.iload_n 1, 1) := by decide +kernel
theorem dX5_pass_1 : decode cX5_pass 1 = .ok (.iconst 1, 1) := by decide +kernel
theorem dX5_pass_2 : decode cX5_pass 2 = .ok (.if_icmp .lt 10, 3) := by decide +kernel
theorem dX5_pass_5 : decode cX5_pass 5 = .ok (.iload_n 1, 1) := by decide +kernel
theorem dX5_pass_6 : decode cX5_pass 6 = .ok (.sipush 999, 3) := by decide +kernel
theorem dX5_pass_9 : decode cX5_pass 9 = .ok (.if_icmp .le 6, 3) := by decide +kernel
theorem dX5_pass_12 : decode cX5_pass 12 = .ok (.bipush (-2), 2) := by decide +kernel
theorem dX5_pass_14 : decode cX5_pass 14 = .ok (.ireturn, 1) := by decide +kernel
theorem dX5_pass_15 : decode cX5_pass 15 = .ok (.aload_n 0, 1) := by decide +kernel
theorem dX5_pass_16 : decode cX5_pass 16 = .ok (.getfield 52, 3) := by decide +kernel
theorem dX5_pass_19 : decode cX5_pass 19 = .ok (.getfield 109, 3) := by decide +kernel
theorem dX5_pass_22 : decode cX5_pass 22 = .ok (.ldc 112, 2) := by decide +kernel
theorem dX5_pass_24 : decode cX5_pass 24 = .ok (.iload_n 1, 1) := by decide +kernel
theorem dX5_pass_25 : decode cX5_pass 25 = .ok (.isub, 1) := by decide +kernel
theorem dX5_pass_26 : decode cX5_pass 26 = .ok (.if_icmp .le 6, 3) := by decide +kernel
theorem dX5_pass_29 : decode cX5_pass 29 = .ok (.bipush (-4), 2) := by decide +kernel
theorem dX5_pass_31 : decode cX5_pass 31 = .ok (.ireturn, 1) := by decide +kernel
theorem dX5_pass_32 : decode cX5_pass 32 = .ok (.aload_n 0, 1) := by decide +kernel
theorem dX5_pass_33 : decode cX5_pass 33 = .ok (.getfield 62, 3) := by decide +kernel
theorem dX5_pass_36 : decode cX5_pass 36 = .ok (.aload_n 0, 1) := by decide +kernel
theorem dX5_pass_37 : decode cX5_pass 37 = .ok (.getfield 52, 3) := by decide +kernel
theorem dX5_pass_40 : decode cX5_pass 40 = .ok (.invokevirtual 73, 3) := by decide +kernel
theorem dX5_pass_43 : decode cX5_pass 43 = .ok (.aload_n 0, 1) := by decide +kernel
theorem dX5_pass_44 : decode cX5_pass 44 = .ok (.getfield 52, 3) := by decide +kernel
theorem dX5_pass_47 : decode cX5_pass 47 = .ok (.invokevirtual 105, 3) := by decide +kernel
theorem dX5_pass_50 : decode cX5_pass 50 = .ok (.istore_n 2, 1) := by decide +kernel
theorem dX5_pass_51 : decode cX5_pass 51 = .ok (.iconst 0, 1) := by decide +kernel
theorem dX5_pass_52 : decode cX5_pass 52 = .ok (.istore_n 3, 1) := by decide +kernel
theorem dX5_pass_53 : decode cX5_pass 53 = .ok (.iload_n 3, 1) := by decide +kernel
theorem dX5_pass_54 : decode cX5_pass 54 = .ok (.iload_n 1, 1) := by decide +kernel
theorem dX5_pass_55 : decode cX5_pass 55 = .ok (.if_icmp .ge 17, 3) := by decide +kernel
theorem dX5_pass_58 : decode cX5_pass 58 = .ok (.aload_n 0, 1) := by decide +kernel
theorem dX5_pass_59 : decode cX5_pass 59 = .ok (.getfield 52, 3) := by decide +kernel
theorem dX5_pass_62 : decode cX5_pass 62 = .ok (.iload_n 2, 1) := by decide +kernel
theorem dX5_pass_63 : decode cX5_pass 63 = .ok (.invokevirtual 113, 3) := by decide +kernel
theorem dX5_pass_66 : decode cX5_pass 66 = .ok (.iinc 3 1, 3) := by decide +kernel
theorem dX5_pass_69 : decode cX5_pass 69 = .ok (.goto (-16), 3) := by decide +kernel
theorem dX5_pass_72 : decode cX5_pass 72 = .ok (.aload_n 0, 1) := by decide +kernel
theorem dX5_pass_73 : decode cX5_pass 73 = .ok (.getfield 52, 3) := by decide +kernel
theorem dX5_pass_76 : decode cX5_pass 76 = .ok (.getfield 109, 3) := by decide +kernel
theorem dX5_pass_79 : decode cX5_pass 79 = .ok (.ireturn, 1) := by decide +kernel
theorem dX5_of_0 : decode cX5_of 0 = .ok (.iload_n 1, 1) := by decide +kernel
theorem dX5_of_1 : decode cX5_of 1 = .ok (.ifCond .lt 20, 3) := by decide +kernel
theorem dX5_of_4 : decode cX5_of 4 = .ok (.iload_n 1, 1) := by decide +kernel
theorem dX5_of_5 : decode cX5_of 5 = .ok (.aload_n 0, 1) := by decide +kernel
theorem dX5_of_6 : decode cX5_of 6 = .ok (.getfield 52, 3) := by decide +kernel
theorem dX5_of_9 : decode cX5_of 9 = .ok (.getfield 80, 3) := by decide +kernel
theorem dX5_of_12 : decode cX5_of 12 = .ok (.if_icmp .ge 9, 3) := by decide +kernel
theorem dX5_of_15 : decode cX5_of 15 = .ok (.iload_n 1, 1) := by decide +kernel
theorem dX5_of_16 : decode cX5_of 16 = .ok (.bipush 20, 2) := by decide +kernel
theorem dX5_of_18 : decode cX5_of 18 = .ok (.if_icmp .lt 5, 3) := by decide +kernel
theorem dX5_of_21 : decode cX5_of 21 = .ok (.iconst (-1), 1) := by decide +kernel
theorem dX5_of_22 : decode cX5_of 22 = .ok (.ireturn, 1) := by decide +kernel
theorem dX5_of_23 : decode cX5_of 23 = .ok (.iload_n 2, 1) := by decide +kernel
theorem dX5_of_24 : decode cX5_of 24 = .ok (.tableswitch 66 0 2 #[28, 38, 48], 28) := by decide +kernel
theorem dX5_of_52 : decode cX5_of 52 = .ok (.aload_n 0, 1) := by decide +kernel
theorem dX5_of_53 : decode cX5_of 53 = .ok (.getfield 52, 3) := by decide +kernel
theorem dX5_of_56 : decode cX5_of 56 = .ok (.getfield 117, 3) := by decide +kernel
theorem dX5_of_59 : decode cX5_of 59 = .ok (.iload_n 1, 1) := by decide +kernel
theorem dX5_of_60 : decode cX5_of 60 = .ok (.iaload, 1) := by decide +kernel
theorem dX5_of_61 : decode cX5_of 61 = .ok (.ireturn, 1) := by decide +kernel
theorem dX5_of_62 : decode cX5_of 62 = .ok (.aload_n 0, 1) := by decide +kernel
theorem dX5_of_63 : decode cX5_of 63 = .ok (.getfield 52, 3) := by decide +kernel
theorem dX5_of_66 : decode cX5_of 66 = .ok (.getfield 120, 3) := by decide +kernel
theorem dX5_of_69 : decode cX5_of 69 = .ok (.iload_n 1, 1) := by decide +kernel
theorem dX5_of_70 : decode cX5_of 70 = .ok (.iaload, 1) := by decide +kernel
theorem dX5_of_71 : decode cX5_of 71 = .ok (.ireturn, 1) := by decide +kernel
theorem dX5_of_72 : decode cX5_of 72 = .ok (.aload_n 0, 1) := by decide +kernel
theorem dX5_of_73 : decode cX5_of 73 = .ok (.getfield 52, 3) := by decide +kernel
theorem dX5_of_76 : decode cX5_of 76 = .ok (.getfield 109, 3) := by decide +kernel
theorem dX5_of_79 : decode cX5_of 79 = .ok (.aload_n 0, 1) := by decide +kernel
theorem dX5_of_80 : decode cX5_of 80 = .ok (.getfield 52, 3) := by decide +kernel
theorem dX5_of_83 : decode cX5_of 83 = .ok (.getfield 123, 3) := by decide +kernel
theorem dX5_of_86 : decode cX5_of 86 = .ok (.iload_n 1, 1) := by decide +kernel
theorem dX5_of_87 : decode cX5_of 87 = .ok (.iaload, 1) := by decide +kernel
theorem dX5_of_88 : decode cX5_of 88 = .ok (.isub, 1) := by decide +kernel
theorem dX5_of_89 : decode cX5_of 89 = .ok (.ireturn, 1) := by decide +kernel
theorem dX5_of_90 : decode cX5_of 90 = .ok (.bipush (-2), 2) := by decide +kernel
theorem dX5_of_92 : decode cX5_of 92 = .ok (.ireturn, 1) := by decide +kernel
theorem dX5_ofSpot_0 : decode cX5_ofSpot 0 = .ok (.iload_n 1, 1) := by decide +kernel
theorem dX5_ofSpot_1 : decode cX5_ofSpot 1 = .ok (.ifCond .lt 8, 3) := by decide +kernel
theorem dX5_ofSpot_4 : decode cX5_ofSpot 4 = .ok (.iload_n 1, 1) := by decide +kernel
theorem dX5_ofSpot_5 : decode cX5_ofSpot 5 = .ok (.iconst 4, 1) := by decide +kernel
theorem dX5_ofSpot_6 : decode cX5_ofSpot 6 = .ok (.if_icmp .lt 5, 3) := by decide +kernel
theorem dX5_ofSpot_9 : decode cX5_ofSpot 9 = .ok (.iconst (-1), 1) := by decide +kernel
theorem dX5_ofSpot_10 : decode cX5_ofSpot 10 = .ok (.ireturn, 1) := by decide +kernel
theorem dX5_ofSpot_11 : decode cX5_ofSpot 11 = .ok (.iload_n 2, 1) := by decide +kernel
theorem dX5_ofSpot_12 : decode cX5_ofSpot 12 = .ok (.tableswitch 58 0 2 #[28, 38, 48], 28) := by decide +kernel
theorem dX5_ofSpot_40 : decode cX5_ofSpot 40 = .ok (.aload_n 0, 1) := by decide +kernel
theorem dX5_ofSpot_41 : decode cX5_ofSpot 41 = .ok (.getfield 52, 3) := by decide +kernel
theorem dX5_ofSpot_44 : decode cX5_ofSpot 44 = .ok (.iload_n 1, 1) := by decide +kernel
theorem dX5_ofSpot_45 : decode cX5_ofSpot 45 = .ok (.iconst 0, 1) := by decide +kernel
theorem dX5_ofSpot_46 : decode cX5_ofSpot 46 = .ok (.invokevirtual 91, 3) := by decide +kernel
theorem dX5_ofSpot_49 : decode cX5_ofSpot 49 = .ok (.ireturn, 1) := by decide +kernel
theorem dX5_ofSpot_50 : decode cX5_ofSpot 50 = .ok (.aload_n 0, 1) := by decide +kernel
theorem dX5_ofSpot_51 : decode cX5_ofSpot 51 = .ok (.getfield 52, 3) := by decide +kernel
theorem dX5_ofSpot_54 : decode cX5_ofSpot 54 = .ok (.iload_n 1, 1) := by decide +kernel
theorem dX5_ofSpot_55 : decode cX5_ofSpot 55 = .ok (.iconst 1, 1) := by decide +kernel
theorem dX5_ofSpot_56 : decode cX5_ofSpot 56 = .ok (.invokevirtual 91, 3) := by decide +kernel
theorem dX5_ofSpot_59 : decode cX5_ofSpot 59 = .ok (.ireturn, 1) := by decide +kernel
theorem dX5_ofSpot_60 : decode cX5_ofSpot 60 = .ok (.aload_n 0, 1) := by decide +kernel
theorem dX5_ofSpot_61 : decode cX5_ofSpot 61 = .ok (.getfield 52, 3) := by decide +kernel
theorem dX5_ofSpot_64 : decode cX5_ofSpot 64 = .ok (.getfield 126, 3) := by decide +kernel
theorem dX5_ofSpot_67 : decode cX5_ofSpot 67 = .ok (.iload_n 1, 1) := by decide +kernel
theorem dX5_ofSpot_68 : decode cX5_ofSpot 68 = .ok (.iaload, 1) := by decide +kernel
theorem dX5_ofSpot_69 : decode cX5_ofSpot 69 = .ok (.ireturn, 1) := by decide +kernel
theorem dX5_ofSpot_70 : decode cX5_ofSpot 70 = .ok (.bipush (-2), 2) := by decide +kernel
theorem dX5_ofSpot_72 : decode cX5_ofSpot 72 = .ok (.ireturn, 1) := by decide +kernel
theorem dX5_ofStop_0 : decode cX5_ofStop 0 = .ok (.iload_n 1, 1) := by decide +kernel
theorem dX5_ofStop_1 : decode cX5_ofStop 1 = .ok (.ifCond .lt 20, 3) := by decide +kernel
theorem dX5_ofStop_4 : decode cX5_ofStop 4 = .ok (.iload_n 1, 1) := by decide +kernel
theorem dX5_ofStop_5 : decode cX5_ofStop 5 = .ok (.aload_n 0, 1) := by decide +kernel
theorem dX5_ofStop_6 : decode cX5_ofStop 6 = .ok (.getfield 52, 3) := by decide +kernel
theorem dX5_ofStop_9 : decode cX5_ofStop 9 = .ok (.getfield 129, 3) := by decide +kernel
theorem dX5_ofStop_12 : decode cX5_ofStop 12 = .ok (.if_icmp .ge 9, 3) := by decide +kernel
theorem dX5_ofStop_15 : decode cX5_ofStop 15 = .ok (.iload_n 1, 1) := by decide +kernel
theorem dX5_ofStop_16 : decode cX5_ofStop 16 = .ok (.bipush 6, 2) := by decide +kernel
theorem dX5_ofStop_18 : decode cX5_ofStop 18 = .ok (.if_icmp .lt 5, 3) := by decide +kernel
theorem dX5_ofStop_21 : decode cX5_ofStop 21 = .ok (.iconst (-1), 1) := by decide +kernel
theorem dX5_ofStop_22 : decode cX5_ofStop 22 = .ok (.ireturn, 1) := by decide +kernel
theorem dX5_ofStop_23 : decode cX5_ofStop 23 = .ok (.iload_n 2, 1) := by decide +kernel
theorem dX5_ofStop_24 : decode cX5_ofStop 24 = .ok (.ifCond .lt 8, 3) := by decide +kernel
theorem dX5_ofStop_27 : decode cX5_ofStop 27 = .ok (.iload_n 2, 1) := by decide +kernel
theorem dX5_ofStop_28 : decode cX5_ofStop 28 = .ok (.iconst 5, 1) := by decide +kernel
theorem dX5_ofStop_29 : decode cX5_ofStop 29 = .ok (.if_icmp .lt 6, 3) := by decide +kernel
theorem dX5_ofStop_32 : decode cX5_ofStop 32 = .ok (.bipush (-2), 2) := by decide +kernel
theorem dX5_ofStop_34 : decode cX5_ofStop 34 = .ok (.ireturn, 1) := by decide +kernel
theorem dX5_ofStop_35 : decode cX5_ofStop 35 = .ok (.aload_n 0, 1) := by decide +kernel
theorem dX5_ofStop_36 : decode cX5_ofStop 36 = .ok (.getfield 52, 3) := by decide +kernel
theorem dX5_ofStop_39 : decode cX5_ofStop 39 = .ok (.getfield 132, 3) := by decide +kernel
theorem dX5_ofStop_42 : decode cX5_ofStop 42 = .ok (.iload_n 1, 1) := by decide +kernel
theorem dX5_ofStop_43 : decode cX5_ofStop 43 = .ok (.iconst 5, 1) := by decide +kernel
theorem dX5_ofStop_44 : decode cX5_ofStop 44 = .ok (.imul, 1) := by decide +kernel
theorem dX5_ofStop_45 : decode cX5_ofStop 45 = .ok (.iload_n 2, 1) := by decide +kernel
theorem dX5_ofStop_46 : decode cX5_ofStop 46 = .ok (.iadd, 1) := by decide +kernel
theorem dX5_ofStop_47 : decode cX5_ofStop 47 = .ok (.iaload, 1) := by decide +kernel
theorem dX5_ofStop_48 : decode cX5_ofStop 48 = .ok (.ireturn, 1) := by decide +kernel
theorem dX5_rule_0 : decode cX5_rule 0 = .ok (.iload_n 1, 1) := by decide +kernel
theorem dX5_rule_1 : decode cX5_rule 1 = .ok (.tableswitch 102 0 4 #[35, 46, 57, 73, 84], 35) := by decide +kernel
theorem dX5_rule_36 : decode cX5_rule 36 = .ok (.aload_n 0, 1) := by decide +kernel
theorem dX5_rule_37 : decode cX5_rule 37 = .ok (.getfield 52, 3) := by decide +kernel
theorem dX5_rule_40 : decode cX5_rule 40 = .ok (.getfield 135, 3) := by decide +kernel
theorem dX5_rule_43 : decode cX5_rule 43 = .ok (.getfield 139, 3) := by decide +kernel
theorem dX5_rule_46 : decode cX5_rule 46 = .ok (.ireturn, 1) := by decide +kernel
theorem dX5_rule_47 : decode cX5_rule 47 = .ok (.aload_n 0, 1) := by decide +kernel
theorem dX5_rule_48 : decode cX5_rule 48 = .ok (.getfield 52, 3) := by decide +kernel
theorem dX5_rule_51 : decode cX5_rule 51 = .ok (.getfield 135, 3) := by decide +kernel
theorem dX5_rule_54 : decode cX5_rule 54 = .ok (.invokevirtual 144, 3) := by decide +kernel
theorem dX5_rule_57 : decode cX5_rule 57 = .ok (.ireturn, 1) := by decide +kernel
theorem dX5_rule_58 : decode cX5_rule 58 = .ok (.aload_n 0, 1) := by decide +kernel
theorem dX5_rule_59 : decode cX5_rule 59 = .ok (.getfield 52, 3) := by decide +kernel
theorem dX5_rule_62 : decode cX5_rule 62 = .ok (.invokevirtual 105, 3) := by decide +kernel
theorem dX5_rule_65 : decode cX5_rule 65 = .ok (.ifCond .eq 7, 3) := by decide +kernel
theorem dX5_rule_68 : decode cX5_rule 68 = .ok (.iconst 1, 1) := by decide +kernel
theorem dX5_rule_69 : decode cX5_rule 69 = .ok (.goto 4, 3) := by decide +kernel
theorem dX5_rule_72 : decode cX5_rule 72 = .ok (.iconst 0, 1) := by decide +kernel
theorem dX5_rule_73 : decode cX5_rule 73 = .ok (.ireturn, 1) := by decide +kernel
theorem dX5_rule_74 : decode cX5_rule 74 = .ok (.aload_n 0, 1) := by decide +kernel
theorem dX5_rule_75 : decode cX5_rule 75 = .ok (.getfield 52, 3) := by decide +kernel
theorem dX5_rule_78 : decode cX5_rule 78 = .ok (.getfield 135, 3) := by decide +kernel
theorem dX5_rule_81 : decode cX5_rule 81 = .ok (.getfield 147, 3) := by decide +kernel
theorem dX5_rule_84 : decode cX5_rule 84 = .ok (.ireturn, 1) := by decide +kernel
theorem dX5_rule_85 : decode cX5_rule 85 = .ok (.aload_n 0, 1) := by decide +kernel
theorem dX5_rule_86 : decode cX5_rule 86 = .ok (.getfield 52, 3) := by decide +kernel
theorem dX5_rule_89 : decode cX5_rule 89 = .ok (.getfield 135, 3) := by decide +kernel
theorem dX5_rule_92 : decode cX5_rule 92 = .ok (.aload_n 0, 1) := by decide +kernel
theorem dX5_rule_93 : decode cX5_rule 93 = .ok (.getfield 52, 3) := by decide +kernel
theorem dX5_rule_96 : decode cX5_rule 96 = .ok (.getfield 150, 3) := by decide +kernel
theorem dX5_rule_99 : decode cX5_rule 99 = .ok (.invokevirtual 153, 3) := by decide +kernel
theorem dX5_rule_102 : decode cX5_rule 102 = .ok (.ireturn, 1) := by decide +kernel
theorem dX5_rule_103 : decode cX5_rule 103 = .ok (.bipush (-2), 2) := by decide +kernel
theorem dX5_rule_105 : decode cX5_rule 105 = .ok (.ireturn, 1) := by decide +kernel
theorem dX5_count_0 : decode cX5_count 0 = .ok (.iload_n 1, 1) := by decide +kernel
theorem dX5_count_1 : decode cX5_count 1 = .ok (.lookupswitch 43 #[(18, 27), (19, 35)], 27) := by decide +kernel
theorem dX5_count_28 : decode cX5_count 28 = .ok (.aload_n 0, 1) := by decide +kernel
theorem dX5_count_29 : decode cX5_count 29 = .ok (.getfield 10, 3) := by decide +kernel
theorem dX5_count_32 : decode cX5_count 32 = .ok (.getfield 157, 3) := by decide +kernel
theorem dX5_count_35 : decode cX5_count 35 = .ok (.ireturn, 1) := by decide +kernel
theorem dX5_count_36 : decode cX5_count 36 = .ok (.aload_n 0, 1) := by decide +kernel
theorem dX5_count_37 : decode cX5_count 37 = .ok (.getfield 62, 3) := by decide +kernel
theorem dX5_count_40 : decode cX5_count 40 = .ok (.getfield 159, 3) := by decide +kernel
theorem dX5_count_43 : decode cX5_count 43 = .ok (.ireturn, 1) := by decide +kernel
theorem dX5_count_44 : decode cX5_count 44 = .ok (.aload_n 0, 1) := by decide +kernel
theorem dX5_count_45 : decode cX5_count 45 = .ok (.getfield 52, 3) := by decide +kernel
theorem dX5_count_48 : decode cX5_count 48 = .ok (.iload_n 1, 1) := by decide +kernel
theorem dX5_count_49 : decode cX5_count 49 = .ok (.invokevirtual 160, 3) := by decide +kernel
theorem dX5_count_52 : decode cX5_count 52 = .ok (.ireturn, 1) := by decide +kernel
theorem dX5_way_0 : decode cX5_way 0 = .ok (.aload_n 0, 1) := by decide +kernel
theorem dX5_way_1 : decode cX5_way 1 = .ok (.aload_n 0, 1) := by decide +kernel
theorem dX5_way_2 : decode cX5_way 2 = .ok (.getfield 52, 3) := by decide +kernel
theorem dX5_way_5 : decode cX5_way 5 = .ok (.getfield 77, 3) := by decide +kernel
theorem dX5_way_8 : decode cX5_way 8 = .ok (.iconst 2, 1) := by decide +kernel
theorem dX5_way_9 : decode cX5_way 9 = .ok (.iaload, 1) := by decide +kernel
theorem dX5_way_10 : decode cX5_way 10 = .ok (.invokevirtual 163, 3) := by decide +kernel
theorem dX5_way_13 : decode cX5_way 13 = .ok (.ireturn, 1) := by decide +kernel
theorem dX5_emptyIn_0 : decode cX5_emptyIn 0 = .ok (.aload_n 0, 1) := by decide +kernel
theorem dX5_emptyIn_1 : decode cX5_emptyIn 1 = .ok (.getfield 56, 3) := by decide +kernel
theorem dX5_emptyIn_4 : decode cX5_emptyIn 4 = .ok (.aload_n 0, 1) := by decide +kernel
theorem dX5_emptyIn_5 : decode cX5_emptyIn 5 = .ok (.getfield 52, 3) := by decide +kernel
theorem dX5_emptyIn_8 : decode cX5_emptyIn 8 = .ok (.invokevirtual 166, 3) := by decide +kernel
theorem dX5_emptyIn_11 : decode cX5_emptyIn 11 = .ok (.aload_n 0, 1) := by decide +kernel
theorem dX5_emptyIn_12 : decode cX5_emptyIn 12 = .ok (.getfield 56, 3) := by decide +kernel
theorem dX5_emptyIn_15 : decode cX5_emptyIn 15 = .ok (.invokevirtual 169, 3) := by decide +kernel
theorem dX5_emptyIn_18 : decode cX5_emptyIn 18 = .ok (.ireturn, 1) := by decide +kernel
theorem dX5_leastRamp_0 : decode cX5_leastRamp 0 = .ok (.iload_n 1, 1) := by decide +kernel
theorem dX5_leastRamp_1 : decode cX5_leastRamp 1 = .ok (.ifCond .lt 10, 3) := by decide +kernel
theorem dX5_leastRamp_4 : decode cX5_leastRamp 4 = .ok (.iload_n 1, 1) := by decide +kernel
theorem dX5_leastRamp_5 : decode cX5_leastRamp 5 = .ok (.sipush 9999, 3) := by decide +kernel
theorem dX5_leastRamp_8 : decode cX5_leastRamp 8 = .ok (.if_icmp .le 6, 3) := by decide +kernel
theorem dX5_leastRamp_11 : decode cX5_leastRamp 11 = .ok (.bipush (-2), 2) := by decide +kernel
theorem dX5_leastRamp_13 : decode cX5_leastRamp 13 = .ok (.ireturn, 1) := by decide +kernel
theorem dX5_leastRamp_14 : decode cX5_leastRamp 14 = .ok (.getstatic 66, 3) := by decide +kernel
theorem dX5_leastRamp_17 : decode cX5_leastRamp 17 = .ok (.iconst 2, 1) := by decide +kernel
theorem dX5_leastRamp_18 : decode cX5_leastRamp 18 = .ok (.iaload, 1) := by decide +kernel
theorem dX5_leastRamp_19 : decode cX5_leastRamp 19 = .ok (.istore_n 2, 1) := by decide +kernel
theorem dX5_leastRamp_20 : decode cX5_leastRamp 20 = .ok (.iload_n 2, 1) := by decide +kernel
theorem dX5_leastRamp_21 : decode cX5_leastRamp 21 = .ok (.getstatic 70, 3) := by decide +kernel
theorem dX5_leastRamp_24 : decode cX5_leastRamp 24 = .ok (.iconst 2, 1) := by decide +kernel
theorem dX5_leastRamp_25 : decode cX5_leastRamp 25 = .ok (.iaload, 1) := by decide +kernel
theorem dX5_leastRamp_26 : decode cX5_leastRamp 26 = .ok (.if_icmp .gt 20, 3) := by decide +kernel
theorem dX5_leastRamp_29 : decode cX5_leastRamp 29 = .ok (.aload_n 0, 1) := by decide +kernel
theorem dX5_leastRamp_30 : decode cX5_leastRamp 30 = .ok (.iload_n 2, 1) := by decide +kernel
theorem dX5_leastRamp_31 : decode cX5_leastRamp 31 = .ok (.invokevirtual 163, 3) := by decide +kernel
theorem dX5_leastRamp_34 : decode cX5_leastRamp 34 = .ok (.iload_n 1, 1) := by decide +kernel
theorem dX5_leastRamp_35 : decode cX5_leastRamp 35 = .ok (.if_icmp .gt 5, 3) := by decide +kernel
theorem dX5_leastRamp_38 : decode cX5_leastRamp 38 = .ok (.iload_n 2, 1) := by decide +kernel
theorem dX5_leastRamp_39 : decode cX5_leastRamp 39 = .ok (.ireturn, 1) := by decide +kernel
theorem dX5_leastRamp_40 : decode cX5_leastRamp 40 = .ok (.iinc 2 1, 3) := by decide +kernel
theorem dX5_leastRamp_43 : decode cX5_leastRamp 43 = .ok (.goto (-23), 3) := by decide +kernel
theorem dX5_leastRamp_46 : decode cX5_leastRamp 46 = .ok (.bipush (-6), 2) := by decide +kernel
theorem dX5_leastRamp_48 : decode cX5_leastRamp 48 = .ok (.ireturn, 1) := by decide +kernel
theorem dX5_wouldHold_0 : decode cX5_wouldHold 0 = .ok (.iload_n 1, 1) := by decide +kernel
theorem dX5_wouldHold_1 : decode cX5_wouldHold 1 = .ok (.ifCond .lt 10, 3) := by decide +kernel
theorem dX5_wouldHold_4 : decode cX5_wouldHold 4 = .ok (.iload_n 1, 1) := by decide +kernel
theorem dX5_wouldHold_5 : decode cX5_wouldHold 5 = .ok (.sipush 256, 3) := by decide +kernel
theorem dX5_wouldHold_8 : decode cX5_wouldHold 8 = .ok (.if_icmp .lt 6, 3) := by decide +kernel
theorem dX5_wouldHold_11 : decode cX5_wouldHold 11 = .ok (.bipush (-2), 2) := by decide +kernel
theorem dX5_wouldHold_13 : decode cX5_wouldHold 13 = .ok (.ireturn, 1) := by decide +kernel
theorem dX5_wouldHold_14 : decode cX5_wouldHold 14 = .ok (.aload_n 0, 1) := by decide +kernel
theorem dX5_wouldHold_15 : decode cX5_wouldHold 15 = .ok (.getfield 52, 3) := by decide +kernel
theorem dX5_wouldHold_18 : decode cX5_wouldHold 18 = .ok (.getfield 135, 3) := by decide +kernel
theorem dX5_wouldHold_21 : decode cX5_wouldHold 21 = .ok (.iload_n 1, 1) := by decide +kernel
theorem dX5_wouldHold_22 : decode cX5_wouldHold 22 = .ok (.invokevirtual 172, 3) := by decide +kernel
theorem dX5_wouldHold_25 : decode cX5_wouldHold 25 = .ok (.ifCond .eq 7, 3) := by decide +kernel
theorem dX5_wouldHold_28 : decode cX5_wouldHold 28 = .ok (.iconst 1, 1) := by decide +kernel
theorem dX5_wouldHold_29 : decode cX5_wouldHold 29 = .ok (.goto 4, 3) := by decide +kernel
theorem dX5_wouldHold_32 : decode cX5_wouldHold 32 = .ok (.iconst 0, 1) := by decide +kernel
theorem dX5_wouldHold_33 : decode cX5_wouldHold 33 = .ok (.ireturn, 1) := by decide +kernel
theorem dX5_fewest_0 : decode cX5_fewest 0 = .ok (.bipush (-6), 2) := by decide +kernel
theorem dX5_fewest_2 : decode cX5_fewest 2 = .ok (.istore_n 1, 1) := by decide +kernel
theorem dX5_fewest_3 : decode cX5_fewest 3 = .ok (.iconst 0, 1) := by decide +kernel
theorem dX5_fewest_4 : decode cX5_fewest 4 = .ok (.istore_n 2, 1) := by decide +kernel
theorem dX5_fewest_5 : decode cX5_fewest 5 = .ok (.iload_n 2, 1) := by decide +kernel
theorem dX5_fewest_6 : decode cX5_fewest 6 = .ok (.sipush 256, 3) := by decide +kernel
theorem dX5_fewest_9 : decode cX5_fewest 9 = .ok (.if_icmp .ge 52, 3) := by decide +kernel
theorem dX5_fewest_12 : decode cX5_fewest 12 = .ok (.iload_n 1, 1) := by decide +kernel
theorem dX5_fewest_13 : decode cX5_fewest 13 = .ok (.bipush (-6), 2) := by decide +kernel
theorem dX5_fewest_15 : decode cX5_fewest 15 = .ok (.if_icmp .eq 14, 3) := by decide +kernel
theorem dX5_fewest_18 : decode cX5_fewest 18 = .ok (.iload_n 2, 1) := by decide +kernel
theorem dX5_fewest_19 : decode cX5_fewest 19 = .ok (.invokestatic 176, 3) := by decide +kernel
theorem dX5_fewest_22 : decode cX5_fewest 22 = .ok (.iload_n 1, 1) := by decide +kernel
theorem dX5_fewest_23 : decode cX5_fewest 23 = .ok (.invokestatic 176, 3) := by decide +kernel
theorem dX5_fewest_26 : decode cX5_fewest 26 = .ok (.if_icmp .ge 7, 3) := by decide +kernel
theorem dX5_fewest_29 : decode cX5_fewest 29 = .ok (.iconst 1, 1) := by decide +kernel
theorem dX5_fewest_30 : decode cX5_fewest 30 = .ok (.goto 4, 3) := by decide +kernel
theorem dX5_fewest_33 : decode cX5_fewest 33 = .ok (.iconst 0, 1) := by decide +kernel
theorem dX5_fewest_34 : decode cX5_fewest 34 = .ok (.istore_n 3, 1) := by decide +kernel
theorem dX5_fewest_35 : decode cX5_fewest 35 = .ok (.iload_n 3, 1) := by decide +kernel
theorem dX5_fewest_36 : decode cX5_fewest 36 = .ok (.ifCond .eq 19, 3) := by decide +kernel
theorem dX5_fewest_39 : decode cX5_fewest 39 = .ok (.aload_n 0, 1) := by decide +kernel
theorem dX5_fewest_40 : decode cX5_fewest 40 = .ok (.getfield 52, 3) := by decide +kernel
theorem dX5_fewest_43 : decode cX5_fewest 43 = .ok (.getfield 135, 3) := by decide +kernel
theorem dX5_fewest_46 : decode cX5_fewest 46 = .ok (.iload_n 2, 1) := by decide +kernel
theorem dX5_fewest_47 : decode cX5_fewest 47 = .ok (.invokevirtual 172, 3) := by decide +kernel
theorem dX5_fewest_50 : decode cX5_fewest 50 = .ok (.ifCond .eq 5, 3) := by decide +kernel
theorem dX5_fewest_53 : decode cX5_fewest 53 = .ok (.iload_n 2, 1) := by decide +kernel
theorem dX5_fewest_54 : decode cX5_fewest 54 = .ok (.istore_n 1, 1) := by decide +kernel
theorem dX5_fewest_55 : decode cX5_fewest 55 = .ok (.iinc 2 1, 3) := by decide +kernel
theorem dX5_fewest_58 : decode cX5_fewest 58 = .ok (.goto (-53), 3) := by decide +kernel
theorem dX5_fewest_61 : decode cX5_fewest 61 = .ok (.iload_n 1, 1) := by decide +kernel
theorem dX5_fewest_62 : decode cX5_fewest 62 = .ok (.ireturn, 1) := by decide +kernel
theorem dX5_wayWith_0 : decode cX5_wayWith 0 = .ok (.aload_n 0, 1) := by decide +kernel
theorem dX5_wayWith_1 : decode cX5_wayWith 1 = .ok (.getfield 56, 3) := by decide +kernel
theorem dX5_wayWith_4 : decode cX5_wayWith 4 = .ok (.aload_n 0, 1) := by decide +kernel
theorem dX5_wayWith_5 : decode cX5_wayWith 5 = .ok (.getfield 52, 3) := by decide +kernel
theorem dX5_wayWith_8 : decode cX5_wayWith 8 = .ok (.invokevirtual 166, 3) := by decide +kernel
theorem dX5_wayWith_11 : decode cX5_wayWith 11 = .ok (.aload_n 0, 1) := by decide +kernel
theorem dX5_wayWith_12 : decode cX5_wayWith 12 = .ok (.getfield 56, 3) := by decide +kernel
theorem dX5_wayWith_15 : decode cX5_wayWith 15 = .ok (.getfield 77, 3) := by decide +kernel
theorem dX5_wayWith_18 : decode cX5_wayWith 18 = .ok (.iconst 2, 1) := by decide +kernel
theorem dX5_wayWith_19 : decode cX5_wayWith 19 = .ok (.iload_n 1, 1) := by decide +kernel
theorem dX5_wayWith_20 : decode cX5_wayWith 20 = .ok (.iastore, 1) := by decide +kernel
theorem dX5_wayWith_21 : decode cX5_wayWith 21 = .ok (.aload_n 0, 1) := by decide +kernel
theorem dX5_wayWith_22 : decode cX5_wayWith 22 = .ok (.getfield 56, 3) := by decide +kernel
theorem dX5_wayWith_25 : decode cX5_wayWith 25 = .ok (.invokevirtual 181, 3) := by decide +kernel
theorem dX5_wayWith_28 : decode cX5_wayWith 28 = .ok (.ireturn, 1) := by decide +kernel
theorem dX5_put_0 : decode cX5_put 0 = .ok (.aload_n 0, 1) := by decide +kernel
theorem dX5_put_1 : decode cX5_put 1 = .ok (.getfield 10, 3) := by decide +kernel
theorem dX5_put_4 : decode cX5_put 4 = .ok (.lload_n 1, 1) := by decide +kernel
theorem dX5_put_5 : decode cX5_put 5 = .ok (.invokevirtual 184, 3) := by decide +kernel
theorem dX5_put_8 : decode cX5_put 8 = .ok (.istore_n 3, 1) := by decide +kernel
theorem dX5_put_9 : decode cX5_put 9 = .ok (.iload_n 3, 1) := by decide +kernel
theorem dX5_put_10 : decode cX5_put 10 = .ok (.ifCond .ne 6, 3) := by decide +kernel
theorem dX5_put_13 : decode cX5_put 13 = .ok (.bipush (-2), 2) := by decide +kernel
theorem dX5_put_15 : decode cX5_put 15 = .ok (.ireturn, 1) := by decide +kernel
theorem dX5_put_16 : decode cX5_put 16 = .ok (.iload_n 3, 1) := by decide +kernel
theorem dX5_put_17 : decode cX5_put 17 = .ok (.bipush 60, 2) := by decide +kernel
theorem dX5_put_19 : decode cX5_put 19 = .ok (.aload_n 0, 1) := by decide +kernel
theorem dX5_put_20 : decode cX5_put 20 = .ok (.getfield 10, 3) := by decide +kernel
theorem dX5_put_23 : decode cX5_put 23 = .ok (.getfield 157, 3) := by decide +kernel
theorem dX5_put_26 : decode cX5_put 26 = .ok (.isub, 1) := by decide +kernel
theorem dX5_put_27 : decode cX5_put 27 = .ok (.if_icmp .le 6, 3) := by decide +kernel
theorem dX5_put_30 : decode cX5_put 30 = .ok (.bipush (-4), 2) := by decide +kernel
theorem dX5_put_32 : decode cX5_put 32 = .ok (.ireturn, 1) := by decide +kernel
theorem dX5_put_33 : decode cX5_put 33 = .ok (.aload_n 0, 1) := by decide +kernel
theorem dX5_put_34 : decode cX5_put 34 = .ok (.getfield 10, 3) := by decide +kernel
theorem dX5_put_37 : decode cX5_put 37 = .ok (.lload_n 1, 1) := by decide +kernel
theorem dX5_put_38 : decode cX5_put 38 = .ok (.iload_n 3, 1) := by decide +kernel
theorem dX5_put_39 : decode cX5_put 39 = .ok (.invokevirtual 188, 3) := by decide +kernel
theorem dX5_put_42 : decode cX5_put 42 = .ok (.aload_n 0, 1) := by decide +kernel
theorem dX5_put_43 : decode cX5_put 43 = .ok (.getfield 10, 3) := by decide +kernel
theorem dX5_put_46 : decode cX5_put 46 = .ok (.getfield 157, 3) := by decide +kernel
theorem dX5_put_49 : decode cX5_put 49 = .ok (.ireturn, 1) := by decide +kernel
theorem dX5_fault_0 : decode cX5_fault 0 = .ok (.aload_n 0, 1) := by decide +kernel
theorem dX5_fault_1 : decode cX5_fault 1 = .ok (.getfield 10, 3) := by decide +kernel
theorem dX5_fault_4 : decode cX5_fault 4 = .ok (.invokevirtual 192, 3) := by decide +kernel
theorem dX5_fault_7 : decode cX5_fault 7 = .ok (.ireturn, 1) := by decide +kernel
theorem dX5_load_0 : decode cX5_load 0 = .ok (.aload_n 0, 1) := by decide +kernel
theorem dX5_load_1 : decode cX5_load 1 = .ok (.getfield 10, 3) := by decide +kernel
theorem dX5_load_4 : decode cX5_load 4 = .ok (.invokevirtual 192, 3) := by decide +kernel
theorem dX5_load_7 : decode cX5_load 7 = .ok (.bipush (-6), 2) := by decide +kernel
theorem dX5_load_9 : decode cX5_load 9 = .ok (.if_icmp .eq 6, 3) := by decide +kernel
theorem dX5_load_12 : decode cX5_load 12 = .ok (.bipush (-3), 2) := by decide +kernel
theorem dX5_load_14 : decode cX5_load 14 = .ok (.ireturn, 1) := by decide +kernel
theorem dX5_load_15 : decode cX5_load 15 = .ok (.aload_n 0, 1) := by decide +kernel
theorem dX5_load_16 : decode cX5_load 16 = .ok (.getfield 62, 3) := by decide +kernel
theorem dX5_load_19 : decode cX5_load 19 = .ok (.aload_n 0, 1) := by decide +kernel
theorem dX5_load_20 : decode cX5_load 20 = .ok (.getfield 52, 3) := by decide +kernel
theorem dX5_load_23 : decode cX5_load 23 = .ok (.invokevirtual 73, 3) := by decide +kernel
theorem dX5_load_26 : decode cX5_load 26 = .ok (.aload_n 0, 1) := by decide +kernel
theorem dX5_load_27 : decode cX5_load 27 = .ok (.getfield 52, 3) := by decide +kernel
theorem dX5_load_30 : decode cX5_load 30 = .ok (.aload_n 0, 1) := by decide +kernel
theorem dX5_load_31 : decode cX5_load 31 = .ok (.getfield 19, 3) := by decide +kernel
theorem dX5_load_34 : decode cX5_load 34 = .ok (.aload_n 0, 1) := by decide +kernel
theorem dX5_load_35 : decode cX5_load 35 = .ok (.getfield 10, 3) := by decide +kernel
theorem dX5_load_38 : decode cX5_load 38 = .ok (.getfield 195, 3) := by decide +kernel
theorem dX5_load_41 : decode cX5_load 41 = .ok (.aload_n 0, 1) := by decide +kernel
theorem dX5_load_42 : decode cX5_load 42 = .ok (.getfield 10, 3) := by decide +kernel
theorem dX5_load_45 : decode cX5_load 45 = .ok (.getfield 157, 3) := by decide +kernel
theorem dX5_load_48 : decode cX5_load 48 = .ok (.invokevirtual 45, 3) := by decide +kernel
theorem dX5_load_51 : decode cX5_load 51 = .ok (.putfield 135, 3) := by decide +kernel
theorem dX5_load_54 : decode cX5_load 54 = .ok (.aload_n 0, 1) := by decide +kernel
theorem dX5_load_55 : decode cX5_load 55 = .ok (.getfield 10, 3) := by decide +kernel
theorem dX5_load_58 : decode cX5_load 58 = .ok (.iconst 0, 1) := by decide +kernel
theorem dX5_load_59 : decode cX5_load 59 = .ok (.putfield 157, 3) := by decide +kernel
theorem dX5_load_62 : decode cX5_load 62 = .ok (.aload_n 0, 1) := by decide +kernel
theorem dX5_load_63 : decode cX5_load 63 = .ok (.getfield 52, 3) := by decide +kernel
theorem dX5_load_66 : decode cX5_load 66 = .ok (.getfield 135, 3) := by decide +kernel
theorem dX5_load_69 : decode cX5_load 69 = .ok (.getfield 139, 3) := by decide +kernel
theorem dX5_load_72 : decode cX5_load 72 = .ok (.ireturn, 1) := by decide +kernel
theorem dX5_undo_0 : decode cX5_undo 0 = .ok (.aload_n 0, 1) := by decide +kernel
theorem dX5_undo_1 : decode cX5_undo 1 = .ok (.getfield 62, 3) := by decide +kernel
theorem dX5_undo_4 : decode cX5_undo 4 = .ok (.getfield 159, 3) := by decide +kernel
theorem dX5_undo_7 : decode cX5_undo 7 = .ok (.ifCond .ne 6, 3) := by decide +kernel
theorem dX5_undo_10 : decode cX5_undo 10 = .ok (.bipush (-5), 2) := by decide +kernel
theorem dX5_undo_12 : decode cX5_undo 12 = .ok (.ireturn, 1) := by decide +kernel
theorem dX5_undo_13 : decode cX5_undo 13 = .ok (.aload_n 0, 1) := by decide +kernel
theorem dX5_undo_14 : decode cX5_undo 14 = .ok (.getfield 62, 3) := by decide +kernel
theorem dX5_undo_17 : decode cX5_undo 17 = .ok (.aload_n 0, 1) := by decide +kernel
theorem dX5_undo_18 : decode cX5_undo 18 = .ok (.getfield 52, 3) := by decide +kernel
theorem dX5_undo_21 : decode cX5_undo 21 = .ok (.invokevirtual 199, 3) := by decide +kernel
theorem dX5_undo_24 : decode cX5_undo 24 = .ok (.aload_n 0, 1) := by decide +kernel
theorem dX5_undo_25 : decode cX5_undo 25 = .ok (.getfield 62, 3) := by decide +kernel
theorem dX5_undo_28 : decode cX5_undo 28 = .ok (.getfield 159, 3) := by decide +kernel
theorem dX5_undo_31 : decode cX5_undo 31 = .ok (.ireturn, 1) := by decide +kernel
