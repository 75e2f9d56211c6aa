theorem dX0_init_0 : decode cX0_init 0 = .ok (.aload_n 0, 1) := by decide +kernel
theorem dX0_init_1 : decode cX0_init 1 = .ok (.invokespecial 3, 3) := by decide +kernel
theorem dX0_init_4 : decode cX0_init 4 = .ok (.aload_n 0, 1) := by decide +kernel
theorem dX0_init_5 : decode cX0_init 5 = .ok (.bipush 6, 2) := by decide +kernel
theorem dX0_init_7 : decode cX0_init 7 = .ok (.anewarray 9, 3) := by decide +kernel
theorem dX0_init_10 : decode cX0_init 10 = .ok (.putfield 11, 3) := by decide +kernel
theorem dX0_init_13 : decode cX0_init 13 = .ok (.iconst 0, 1) := by decide +kernel
theorem dX0_init_14 : decode cX0_init 14 = .ok (.istore_n 2, 1) := by decide +kernel
theorem dX0_init_15 : decode cX0_init 15 = .ok (.iload_n 2, 1) := by decide +kernel
theorem dX0_init_16 : decode cX0_init 16 = .ok (.bipush 6, 2) := by decide +kernel
theorem dX0_init_18 : decode cX0_init 18 = .ok (.if_icmp .ge 23, 3) := by decide +kernel
theorem dX0_init_21 : decode cX0_init 21 = .ok (.aload_n 0, 1) := by decide +kernel
theorem dX0_init_22 : decode cX0_init 22 = .ok (.getfield 11, 3) := by decide +kernel
theorem dX0_init_25 : decode cX0_init 25 = .ok (.iload_n 2, 1) := by decide +kernel
theorem dX0_init_26 : decode cX0_init 26 = .ok (.new 9, 3) := by decide +kernel
theorem dX0_init_29 : decode cX0_init 29 = .ok (.dup, 1) := by decide +kernel
theorem dX0_init_30 : decode cX0_init 30 = .ok (.aload_n 1, 1) := by decide +kernel
theorem dX0_init_31 : decode cX0_init 31 = .ok (.invokespecial 17, 3) := by decide +kernel
theorem dX0_init_34 : decode cX0_init 34 = .ok (.aastore, 1) := by decide +kernel
theorem dX0_init_35 : decode cX0_init 35 = .ok (.iinc 2 1, 3) := by decide +kernel
theorem dX0_init_38 : decode cX0_init 38 = .ok (.goto (-23), 3) := by decide +kernel
theorem dX0_init_41 : decode cX0_init 41 = .ok (.return_, 1) := by decide +kernel
theorem dX0_record_0 : decode cX0_record 0 = .ok (.aload_n 0, 1) := by decide +kernel
theorem dX0_record_1 : decode cX0_record 1 = .ok (.aload_n 0, 1) := by decide +kernel
theorem dX0_record_2 : decode cX0_record 2 = .ok (.getfield 20, 3) := by decide +kernel
theorem dX0_record_5 : decode cX0_record 5 = .ok (.iconst 1, 1) := by decide +kernel
theorem dX0_record_6 : decode cX0_record 6 = .ok (.iadd, 1) := by decide +kernel
theorem dX0_record_7 : decode cX0_record 7 = .ok (.bipush 6, 2) := by decide +kernel
theorem dX0_record_9 : decode cX0_record 9 = .ok (.if_icmp .ge 12, 3) := by decide +kernel
theorem dX0_record_12 : decode cX0_record 12 = .ok (.aload_n 0, 1) := by decide +kernel
theorem dX0_record_13 : decode cX0_record 13 = .ok (.getfield 20, 3) := by decide +kernel
theorem dX0_record_16 : decode cX0_record 16 = .ok (.iconst 1, 1) := by decide +kernel
theorem dX0_record_17 : decode cX0_record 17 = .ok (.iadd, 1) := by decide +kernel
theorem dX0_record_18 : decode cX0_record 18 = .ok (.goto 4, 3) := by decide +kernel
theorem dX0_record_21 : decode cX0_record 21 = .ok (.iconst 0, 1) := by decide +kernel
theorem dX0_record_22 : decode cX0_record 22 = .ok (.putfield 20, 3) := by decide +kernel
theorem dX0_record_25 : decode cX0_record 25 = .ok (.aload_n 0, 1) := by decide +kernel
theorem dX0_record_26 : decode cX0_record 26 = .ok (.getfield 11, 3) := by decide +kernel
theorem dX0_record_29 : decode cX0_record 29 = .ok (.aload_n 0, 1) := by decide +kernel
theorem dX0_record_30 : decode cX0_record 30 = .ok (.getfield 20, 3) := by decide +kernel
theorem dX0_record_33 : decode cX0_record 33 = .ok (.aaload, 1) := by decide +kernel
theorem dX0_record_34 : decode cX0_record 34 = .ok (.aload_n 1, 1) := by decide +kernel
theorem dX0_record_35 : decode cX0_record 35 = .ok (.invokevirtual 24, 3) := by decide +kernel
theorem dX0_record_38 : decode cX0_record 38 = .ok (.aload_n 0, 1) := by decide +kernel
theorem dX0_record_39 : decode cX0_record 39 = .ok (.bipush 6, 2) := by decide +kernel
theorem dX0_record_41 : decode cX0_record 41 = .ok (.aload_n 0, 1) := by decide +kernel
theorem dX0_record_42 : decode cX0_record 42 = .ok (.getfield 28, 3) := by decide +kernel
theorem dX0_record_45 : decode cX0_record 45 = .ok (.iconst 1, 1) := by decide +kernel
theorem dX0_record_46 : decode cX0_record 46 = .ok (.iadd, 1) := by decide +kernel
theorem dX0_record_47 : decode cX0_record 47 = .ok (.invokestatic 31, 3) := by decide +kernel
theorem dX0_record_50 : decode cX0_record 50 = .ok (.putfield 28, 3) := by decide +kernel
theorem dX0_record_53 : decode cX0_record 53 = .ok (.return_, 1) := by decide +kernel
theorem dX0_takeBack_0 : decode cX0_takeBack 0 = .ok (.aload_n 1, 1) := by decide +kernel
theorem dX0_takeBack_1 : decode cX0_takeBack 1 = .ok (.aload_n 0, 1) := by decide +kernel
theorem dX0_takeBack_2 : decode cX0_takeBack 2 = .ok (.getfield 11, 3) := by decide +kernel
theorem dX0_takeBack_5 : decode cX0_takeBack 5 = .ok (.aload_n 0, 1) := by decide +kernel
theorem dX0_takeBack_6 : decode cX0_takeBack 6 = .ok (.getfield 20, 3) := by decide +kernel
theorem dX0_takeBack_9 : decode cX0_takeBack 9 = .ok (.aaload, 1) := by decide +kernel
theorem dX0_takeBack_10 : decode cX0_takeBack 10 = .ok (.invokevirtual 24, 3) := by decide +kernel
theorem dX0_takeBack_13 : decode cX0_takeBack 13 = .ok (.aload_n 0, 1) := by decide +kernel
theorem dX0_takeBack_14 : decode cX0_takeBack 14 = .ok (.aload_n 0, 1) := by decide +kernel
theorem dX0_takeBack_15 : decode cX0_takeBack 15 = .ok (.getfield 20, 3) := by decide +kernel
theorem dX0_takeBack_18 : decode cX0_takeBack 18 = .ok (.ifCond .le 12, 3) := by decide +kernel
theorem dX0_takeBack_21 : decode cX0_takeBack 21 = .ok (.aload_n 0, 1) := by decide +kernel
theorem dX0_takeBack_22 : decode cX0_takeBack 22 = .ok (.getfield 20, 3) := by decide +kernel
theorem dX0_takeBack_25 : decode cX0_takeBack 25 = .ok (.iconst 1, 1) := by decide +kernel
theorem dX0_takeBack_26 : decode cX0_takeBack 26 = .ok (.isub, 1) := by decide +kernel
theorem dX0_takeBack_27 : decode cX0_takeBack 27 = .ok (.goto 4, 3) := by decide +kernel
theorem dX0_takeBack_30 : decode cX0_takeBack 30 = .ok (.iconst 5, 1) := by decide +kernel
theorem dX0_takeBack_31 : decode cX0_takeBack 31 = .ok (.putfield 20, 3) := by decide +kernel
theorem dX0_takeBack_34 : decode cX0_takeBack 34 = .ok (.aload_n 0, 1) := by decide +kernel
theorem dX0_takeBack_35 : decode cX0_takeBack 35 = .ok (.dup, 1) := by decide +kernel
theorem dX0_takeBack_36 : decode cX0_takeBack 36 = .ok (.getfield 28, 3) := by decide +kernel
theorem dX0_takeBack_39 : decode cX0_takeBack 39 = .ok (.iconst 1, 1) := by decide +kernel
theorem dX0_takeBack_40 : decode cX0_takeBack 40 = .ok (.isub, 1) := by decide +kernel
theorem dX0_takeBack_41 : decode cX0_takeBack 41 = .ok (.putfield 28, 3) := by decide +kernel
theorem dX0_takeBack_44 : decode cX0_takeBack 44 = .ok (.return_, 1) := by decide +kernel
theorem dX1_init_0 : decode cX1_init 0 = .ok (.aload_n 0, 1) := by decide +kernel
theorem dX1_init_1 : decode cX1_init 1 = .ok (.invokespecial 3, 3) := by decide +kernel
theorem dX1_init_4 : decode cX1_init 4 = .ok (.aload_n 0, 1) := by decide +kernel
theorem dX1_init_5 : decode cX1_init 5 = .ok (.bipush 60, 2) := by decide +kernel
theorem dX1_init_7 : decode cX1_init 7 = .ok (.newarray .char, 2) := by decide +kernel
theorem dX1_init_9 : decode cX1_init 9 = .ok (.putfield 9, 3) := by decide +kernel
theorem dX1_init_12 : decode cX1_init 12 = .ok (.return_, 1) := by decide +kernel
theorem dX1_charactersIn_0 : decode cX1_charactersIn 0 = .ok (.lload_n 1, 1) := by decide +kernel
theorem dX1_charactersIn_1 : decode cX1_charactersIn 1 = .ok (.lstore_n 3, 1) := by decide +kernel
theorem dX1_charactersIn_2 : decode cX1_charactersIn 2 = .ok (.iconst 0, 1) := by decide +kernel
theorem dX1_charactersIn_3 : decode cX1_charactersIn 3 = .ok (.istore 5, 2) := by decide +kernel
theorem dX1_charactersIn_5 : decode cX1_charactersIn 5 = .ok (.iload 5, 2) := by decide +kernel
theorem dX1_charactersIn_7 : decode cX1_charactersIn 7 = .ok (.bipush 8, 2) := by decide +kernel
theorem dX1_charactersIn_9 : decode cX1_charactersIn 9 = .ok (.if_icmp .ge 47, 3) := by decide +kernel
theorem dX1_charactersIn_12 : decode cX1_charactersIn 12 = .ok (.lload_n 3, 1) := by decide +kernel
theorem dX1_charactersIn_13 : decode cX1_charactersIn 13 = .ok (.lconst 0, 1) := by decide +kernel
theorem dX1_charactersIn_14 : decode cX1_charactersIn 14 = .ok (.lcmp, 1) := by decide +kernel
theorem dX1_charactersIn_15 : decode cX1_charactersIn 15 = .ok (.ifCond .eq 41, 3) := by decide +kernel
theorem dX1_charactersIn_18 : decode cX1_charactersIn 18 = .ok (.lload_n 3, 1) := by decide +kernel
theorem dX1_charactersIn_19 : decode cX1_charactersIn 19 = .ok (.ldc2_w 15, 3) := by decide +kernel
theorem dX1_charactersIn_22 : decode cX1_charactersIn 22 = .ok (.land, 1) := by decide +kernel
theorem dX1_charactersIn_23 : decode cX1_charactersIn 23 = .ok (.lstore 6, 2) := by decide +kernel
theorem dX1_charactersIn_25 : decode cX1_charactersIn 25 = .ok (.lload 6, 2) := by decide +kernel
theorem dX1_charactersIn_27 : decode cX1_charactersIn 27 = .ok (.ldc2_w 17, 3) := by decide +kernel
theorem dX1_charactersIn_30 : decode cX1_charactersIn 30 = .ok (.lcmp, 1) := by decide +kernel
theorem dX1_charactersIn_31 : decode cX1_charactersIn 31 = .ok (.ifCond .lt 12, 3) := by decide +kernel
theorem dX1_charactersIn_34 : decode cX1_charactersIn 34 = .ok (.lload 6, 2) := by decide +kernel
theorem dX1_charactersIn_36 : decode cX1_charactersIn 36 = .ok (.ldc2_w 19, 3) := by decide +kernel
theorem dX1_charactersIn_39 : decode cX1_charactersIn 39 = .ok (.lcmp, 1) := by decide +kernel
theorem dX1_charactersIn_40 : decode cX1_charactersIn 40 = .ok (.ifCond .le 5, 3) := by decide +kernel
theorem dX1_charactersIn_43 : decode cX1_charactersIn 43 = .ok (.iconst 0, 1) := by decide +kernel
theorem dX1_charactersIn_44 : decode cX1_charactersIn 44 = .ok (.ireturn, 1) := by decide +kernel
theorem dX1_charactersIn_45 : decode cX1_charactersIn 45 = .ok (.lload_n 3, 1) := by decide +kernel
theorem dX1_charactersIn_46 : decode cX1_charactersIn 46 = .ok (.bipush 8, 2) := by decide +kernel
theorem dX1_charactersIn_48 : decode cX1_charactersIn 48 = .ok (.lushr, 1) := by decide +kernel
theorem dX1_charactersIn_49 : decode cX1_charactersIn 49 = .ok (.lstore_n 3, 1) := by decide +kernel
theorem dX1_charactersIn_50 : decode cX1_charactersIn 50 = .ok (.iinc 5 1, 3) := by decide +kernel
theorem dX1_charactersIn_53 : decode cX1_charactersIn 53 = .ok (.goto (-48), 3) := by decide +kernel
theorem dX1_charactersIn_56 : decode cX1_charactersIn 56 = .ok (.iload 5, 2) := by decide +kernel
theorem dX1_charactersIn_58 : decode cX1_charactersIn 58 = .ok (.ireturn, 1) := by decide +kernel
theorem dX1_append_0 : decode cX1_append 0 = .ok (.iload_n 3, 1) := by decide +kernel
theorem dX1_append_1 : decode cX1_append 1 = .ok (.iconst 1, 1) := by decide +kernel
theorem dX1_append_2 : decode cX1_append 2 = .ok (.isub, 1) := by decide +kernel
theorem dX1_append_3 : decode cX1_append 3 = .ok (.istore 4, 2) := by decide +kernel
theorem dX1_append_5 : decode cX1_append 5 = .ok (.iload 4, 2) := by decide +kernel
theorem dX1_append_7 : decode cX1_append 7 = .ok (.ifCond .lt 50, 3) := by decide +kernel
theorem dX1_append_10 : decode cX1_append 10 = .ok (.aload_n 0, 1) := by decide +kernel
theorem dX1_append_11 : decode cX1_append 11 = .ok (.getfield 21, 3) := by decide +kernel
theorem dX1_append_14 : decode cX1_append 14 = .ok (.bipush 60, 2) := by decide +kernel
theorem dX1_append_16 : decode cX1_append 16 = .ok (.if_icmp .ge 41, 3) := by decide +kernel
theorem dX1_append_19 : decode cX1_append 19 = .ok (.aload_n 0, 1) := by decide +kernel
theorem dX1_append_20 : decode cX1_append 20 = .ok (.getfield 9, 3) := by decide +kernel
theorem dX1_append_23 : decode cX1_append 23 = .ok (.aload_n 0, 1) := by decide +kernel
theorem dX1_append_24 : decode cX1_append 24 = .ok (.getfield 21, 3) := by decide +kernel
theorem dX1_append_27 : decode cX1_append 27 = .ok (.lload_n 1, 1) := by decide +kernel
theorem dX1_append_28 : decode cX1_append 28 = .ok (.bipush 8, 2) := by decide +kernel
theorem dX1_append_30 : decode cX1_append 30 = .ok (.iload 4, 2) := by decide +kernel
theorem dX1_append_32 : decode cX1_append 32 = .ok (.imul, 1) := by decide +kernel
theorem dX1_append_33 : decode cX1_append 33 = .ok (.lushr, 1) := by decide +kernel
theorem dX1_append_34 : decode cX1_append 34 = .ok (.ldc2_w 15, 3) := by decide +kernel
theorem dX1_append_37 : decode cX1_append 37 = .ok (.land, 1) := by decide +kernel
theorem dX1_append_38 : decode cX1_append 38 = .ok (.l2i, 1) := by decide +kernel
theorem dX1_append_39 : decode cX1_append 39 = .ok (.i2c, 1) := by decide +kernel
theorem dX1_append_40 : decode cX1_append 40 = .ok (.castore, 1) := by decide +kernel
theorem dX1_append_41 : decode cX1_append 41 = .ok (.aload_n 0, 1) := by decide +kernel
theorem dX1_append_42 : decode cX1_append 42 = .ok (.dup, 1) := by decide +kernel
theorem dX1_append_43 : decode cX1_append 43 = .ok (.getfield 21, 3) := by decide +kernel
theorem dX1_append_46 : decode cX1_append 46 = .ok (.iconst 1, 1) := by decide +kernel
theorem dX1_append_47 : decode cX1_append 47 = .ok (.iadd, 1) := by decide +kernel
theorem dX1_append_48 : decode cX1_append 48 = .ok (.putfield 21, 3) := by decide +kernel
theorem dX1_append_51 : decode cX1_append 51 = .ok (.iinc 4 (-1), 3) := by decide +kernel
theorem dX1_append_54 : decode cX1_append 54 = .ok (.goto (-49), 3) := by decide +kernel
theorem dX1_append_57 : decode cX1_append 57 = .ok (.return_, 1) := by decide +kernel
theorem dX1_findFault_0 : decode cX1_findFault 0 = .ok (.iconst 1, 1) := by decide +kernel
theorem dX1_findFault_1 : decode cX1_findFault 1 = .ok (.istore_n 1, 1) := by decide +kernel
theorem dX1_findFault_2 : decode cX1_findFault 2 = .ok (.iconst 0, 1) := by decide +kernel
theorem dX1_findFault_3 : decode cX1_findFault 3 = .ok (.istore_n 2, 1) := by decide +kernel
theorem dX1_findFault_4 : decode cX1_findFault 4 = .ok (.iconst 0, 1) := by decide +kernel
theorem dX1_findFault_5 : decode cX1_findFault 5 = .ok (.istore_n 3, 1) := by decide +kernel
theorem dX1_findFault_6 : decode cX1_findFault 6 = .ok (.iload_n 3, 1) := by decide +kernel
theorem dX1_findFault_7 : decode cX1_findFault 7 = .ok (.aload_n 0, 1) := by decide +kernel
theorem dX1_findFault_8 : decode cX1_findFault 8 = .ok (.getfield 21, 3) := by decide +kernel
theorem dX1_findFault_11 : decode cX1_findFault 11 = .ok (.if_icmp .ge 94, 3) := by decide +kernel
theorem dX1_findFault_14 : decode cX1_findFault 14 = .ok (.iload_n 3, 1) := by decide +kernel
theorem dX1_findFault_15 : decode cX1_findFault 15 = .ok (.bipush 60, 2) := by decide +kernel
theorem dX1_findFault_17 : decode cX1_findFault 17 = .ok (.if_icmp .ge 88, 3) := by decide +kernel
theorem dX1_findFault_20 : decode cX1_findFault 20 = .ok (.aload_n 0, 1) := by decide +kernel
theorem dX1_findFault_21 : decode cX1_findFault 21 = .ok (.getfield 9, 3) := by decide +kernel
theorem dX1_findFault_24 : decode cX1_findFault 24 = .ok (.iload_n 3, 1) := by decide +kernel
theorem dX1_findFault_25 : decode cX1_findFault 25 = .ok (.caload, 1) := by decide +kernel
theorem dX1_findFault_26 : decode cX1_findFault 26 = .ok (.istore 4, 2) := by decide +kernel
theorem dX1_findFault_28 : decode cX1_findFault 28 = .ok (.iload_n 1, 1) := by decide +kernel
theorem dX1_findFault_29 : decode cX1_findFault 29 = .ok (.ifCond .eq 15, 3) := by decide +kernel
theorem dX1_findFault_32 : decode cX1_findFault 32 = .ok (.aload_n 0, 1) := by decide +kernel
theorem dX1_findFault_33 : decode cX1_findFault 33 = .ok (.iload 4, 2) := by decide +kernel
theorem dX1_findFault_35 : decode cX1_findFault 35 = .ok (.invokevirtual 25, 3) := by decide +kernel
theorem dX1_findFault_38 : decode cX1_findFault 38 = .ok (.ifCond .ne 18, 3) := by decide +kernel
theorem dX1_findFault_41 : decode cX1_findFault 41 = .ok (.goto 13, 3) := by decide +kernel
theorem dX1_findFault_44 : decode cX1_findFault 44 = .ok (.aload_n 0, 1) := by decide +kernel
theorem dX1_findFault_45 : decode cX1_findFault 45 = .ok (.iload 4, 2) := by decide +kernel
theorem dX1_findFault_47 : decode cX1_findFault 47 = .ok (.iload_n 2, 1) := by decide +kernel
theorem dX1_findFault_48 : decode cX1_findFault 48 = .ok (.invokevirtual 29, 3) := by decide +kernel
theorem dX1_findFault_51 : decode cX1_findFault 51 = .ok (.ifCond .ne 5, 3) := by decide +kernel
theorem dX1_findFault_54 : decode cX1_findFault 54 = .ok (.iload_n 3, 1) := by decide +kernel
theorem dX1_findFault_55 : decode cX1_findFault 55 = .ok (.ireturn, 1) := by decide +kernel
theorem dX1_findFault_56 : decode cX1_findFault 56 = .ok (.iload 4, 2) := by decide +kernel
theorem dX1_findFault_58 : decode cX1_findFault 58 = .ok (.bipush 40, 2) := by decide +kernel
theorem dX1_findFault_60 : decode cX1_findFault 60 = .ok (.if_icmp .ne 9, 3) := by decide +kernel
theorem dX1_findFault_63 : decode cX1_findFault 63 = .ok (.iinc 2 1, 3) := by decide +kernel
theorem dX1_findFault_66 : decode cX1_findFault 66 = .ok (.goto 33, 3) := by decide +kernel
theorem dX1_findFault_69 : decode cX1_findFault 69 = .ok (.iload 4, 2) := by decide +kernel
theorem dX1_findFault_71 : decode cX1_findFault 71 = .ok (.bipush 41, 2) := by decide +kernel
theorem dX1_findFault_73 : decode cX1_findFault 73 = .ok (.if_icmp .ne 9, 3) := by decide +kernel
theorem dX1_findFault_76 : decode cX1_findFault 76 = .ok (.iinc 2 (-1), 3) := by decide +kernel
theorem dX1_findFault_79 : decode cX1_findFault 79 = .ok (.goto 20, 3) := by decide +kernel
theorem dX1_findFault_82 : decode cX1_findFault 82 = .ok (.iload 4, 2) := by decide +kernel
theorem dX1_findFault_84 : decode cX1_findFault 84 = .ok (.bipush 33, 2) := by decide +kernel
theorem dX1_findFault_86 : decode cX1_findFault 86 = .ok (.if_icmp .eq 13, 3) := by decide +kernel
theorem dX1_findFault_89 : decode cX1_findFault 89 = .ok (.iload_n 1, 1) := by decide +kernel
theorem dX1_findFault_90 : decode cX1_findFault 90 = .ok (.ifCond .ne 7, 3) := by decide +kernel
theorem dX1_findFault_93 : decode cX1_findFault 93 = .ok (.iconst 1, 1) := by decide +kernel
theorem dX1_findFault_94 : decode cX1_findFault 94 = .ok (.goto 4, 3) := by decide +kernel
theorem dX1_findFault_97 : decode cX1_findFault 97 = .ok (.iconst 0, 1) := by decide +kernel
theorem dX1_findFault_98 : decode cX1_findFault 98 = .ok (.istore_n 1, 1) := by decide +kernel
theorem dX1_findFault_99 : decode cX1_findFault 99 = .ok (.iinc 3 1, 3) := by decide +kernel
theorem dX1_findFault_102 : decode cX1_findFault 102 = .ok (.goto (-96), 3) := by decide +kernel
theorem dX1_findFault_105 : decode cX1_findFault 105 = .ok (.iload_n 1, 1) := by decide +kernel
theorem dX1_findFault_106 : decode cX1_findFault 106 = .ok (.ifCond .ne 7, 3) := by decide +kernel
theorem dX1_findFault_109 : decode cX1_findFault 109 = .ok (.iload_n 2, 1) := by decide +kernel
theorem dX1_findFault_110 : decode cX1_findFault 110 = .ok (.ifCond .le 10, 3) := by decide +kernel
theorem dX1_findFault_113 : decode cX1_findFault 113 = .ok (.aload_n 0, 1) := by decide +kernel
theorem dX1_findFault_114 : decode cX1_findFault 114 = .ok (.getfield 21, 3) := by decide +kernel
theorem dX1_findFault_117 : decode cX1_findFault 117 = .ok (.goto 5, 3) := by decide +kernel
theorem dX1_findFault_120 : decode cX1_findFault 120 = .ok (.bipush (-6), 2) := by decide +kernel
theorem dX1_findFault_122 : decode cX1_findFault 122 = .ok (.ireturn, 1) := by decide +kernel
theorem dX1_beginsPart_0 : decode cX1_beginsPart 0 = .ok (.iload_n 1, 1) := by decide +kernel
theorem dX1_beginsPart_1 : decode cX1_beginsPart 1 = .ok (.bipush 40, 2) := by decide +kernel
theorem dX1_beginsPart_3 : decode cX1_beginsPart 3 = .ok (.if_icmp .eq 17, 3) := by decide +kernel
theorem dX1_beginsPart_6 : decode cX1_beginsPart 6 = .ok (.iload_n 1, 1) := by decide +kernel
theorem dX1_beginsPart_7 : decode cX1_beginsPart 7 = .ok (.bipush 33, 2) := by decide +kernel
theorem dX1_beginsPart_9 : decode cX1_beginsPart 9 = .ok (.if_icmp .eq 11, 3) := by decide +kernel
theorem dX1_beginsPart_12 : decode cX1_beginsPart 12 = .ok (.aload_n 0, 1) := by decide +kernel
theorem dX1_beginsPart_13 : decode cX1_beginsPart 13 = .ok (.iload_n 1, 1) := by decide +kernel
theorem dX1_beginsPart_14 : decode cX1_beginsPart 14 = .ok (.invokevirtual 33, 3) := by decide +kernel
theorem dX1_beginsPart_17 : decode cX1_beginsPart 17 = .ok (.ifCond .eq 7, 3) := by decide +kernel
theorem dX1_beginsPart_20 : decode cX1_beginsPart 20 = .ok (.iconst 1, 1) := by decide +kernel
theorem dX1_beginsPart_21 : decode cX1_beginsPart 21 = .ok (.goto 4, 3) := by decide +kernel
theorem dX1_beginsPart_24 : decode cX1_beginsPart 24 = .ok (.iconst 0, 1) := by decide +kernel
theorem dX1_beginsPart_25 : decode cX1_beginsPart 25 = .ok (.ireturn, 1) := by decide +kernel
theorem dX1_followsPart_0 : decode cX1_followsPart 0 = .ok (.iload_n 1, 1) := by decide +kernel
theorem dX1_followsPart_1 : decode cX1_followsPart 1 = .ok (.bipush 38, 2) := by decide +kernel
theorem dX1_followsPart_3 : decode cX1_followsPart 3 = .ok (.if_icmp .eq 19, 3) := by decide +kernel
theorem dX1_followsPart_6 : decode cX1_followsPart 6 = .ok (.iload_n 1, 1) := by decide +kernel
theorem dX1_followsPart_7 : decode cX1_followsPart 7 = .ok (.bipush 124, 2) := by decide +kernel
theorem dX1_followsPart_9 : decode cX1_followsPart 9 = .ok (.if_icmp .eq 13, 3) := by decide +kernel
theorem dX1_followsPart_12 : decode cX1_followsPart 12 = .ok (.iload_n 1, 1) := by decide +kernel
theorem dX1_followsPart_13 : decode cX1_followsPart 13 = .ok (.bipush 41, 2) := by decide +kernel
theorem dX1_followsPart_15 : decode cX1_followsPart 15 = .ok (.if_icmp .ne 11, 3) := by decide +kernel
theorem dX1_followsPart_18 : decode cX1_followsPart 18 = .ok (.iload_n 2, 1) := by decide +kernel
theorem dX1_followsPart_19 : decode cX1_followsPart 19 = .ok (.ifCond .le 7, 3) := by decide +kernel
theorem dX1_followsPart_22 : decode cX1_followsPart 22 = .ok (.iconst 1, 1) := by decide +kernel
theorem dX1_followsPart_23 : decode cX1_followsPart 23 = .ok (.goto 4, 3) := by decide +kernel
theorem dX1_followsPart_26 : decode cX1_followsPart 26 = .ok (.iconst 0, 1) := by decide +kernel
theorem dX1_followsPart_27 : decode cX1_followsPart 27 = .ok (.ireturn, 1) := by decide +kernel
theorem dX1_isLetter_0 : decode cX1_isLetter 0 = .ok (.iload_n 1, 1) := by decide +kernel
theorem dX1_isLetter_1 : decode cX1_isLetter 1 = .ok (.bipush 97, 2) := by decide +kernel
theorem dX1_isLetter_3 : decode cX1_isLetter 3 = .ok (.if_icmp .lt 9, 3) := by decide +kernel
theorem dX1_isLetter_6 : decode cX1_isLetter 6 = .ok (.iload_n 1, 1) := by decide +kernel
theorem dX1_isLetter_7 : decode cX1_isLetter 7 = .ok (.bipush 100, 2) := by decide +kernel
theorem dX1_isLetter_9 : decode cX1_isLetter 9 = .ok (.if_icmp .le 15, 3) := by decide +kernel
theorem dX1_isLetter_12 : decode cX1_isLetter 12 = .ok (.iload_n 1, 1) := by decide +kernel
theorem dX1_isLetter_13 : decode cX1_isLetter 13 = .ok (.bipush 65, 2) := by decide +kernel
theorem dX1_isLetter_15 : decode cX1_isLetter 15 = .ok (.if_icmp .lt 13, 3) := by decide +kernel
theorem dX1_isLetter_18 : decode cX1_isLetter 18 = .ok (.iload_n 1, 1) := by decide +kernel
theorem dX1_isLetter_19 : decode cX1_isLetter 19 = .ok (.bipush 68, 2) := by decide +kernel
theorem dX1_isLetter_21 : decode cX1_isLetter 21 = .ok (.if_icmp .gt 7, 3) := by decide +kernel
theorem dX1_isLetter_24 : decode cX1_isLetter 24 = .ok (.iconst 1, 1) := by decide +kernel
theorem dX1_isLetter_25 : decode cX1_isLetter 25 = .ok (.goto 4, 3) := by decide +kernel
theorem dX1_isLetter_28 : decode cX1_isLetter 28 = .ok (.iconst 0, 1) := by decide +kernel
theorem dX1_isLetter_29 : decode cX1_isLetter 29 = .ok (.ireturn, 1) := by decide +kernel
theorem dX2_init_0 : decode cX2_init 0 = .ok (.aload_n 0, 1) := by decide +kernel
theorem dX2_init_1 : decode cX2_init 1 = .ok (.invokespecial 3, 3) := by decide +kernel
theorem dX2_init_4 : decode cX2_init 4 = .ok (.aload_n 0, 1) := by decide +kernel
theorem dX2_init_5 : decode cX2_init 5 = .ok (.bipush 60, 2) := by decide +kernel
theorem dX2_init_7 : decode cX2_init 7 = .ok (.newarray .char, 2) := by decide +kernel
theorem dX2_init_9 : decode cX2_init 9 = .ok (.putfield 9, 3) := by decide +kernel
theorem dX2_init_12 : decode cX2_init 12 = .ok (.aload_n 0, 1) := by decide +kernel
theorem dX2_init_13 : decode cX2_init 13 = .ok (.bipush 60, 2) := by decide +kernel
theorem dX2_init_15 : decode cX2_init 15 = .ok (.newarray .int, 2) := by decide +kernel
theorem dX2_init_17 : decode cX2_init 17 = .ok (.putfield 15, 3) := by decide +kernel
theorem dX2_init_20 : decode cX2_init 20 = .ok (.return_, 1) := by decide +kernel
theorem dX2_read_0 : decode cX2_read 0 = .ok (.new 19, 3) := by decide +kernel
theorem dX2_read_3 : decode cX2_read 3 = .ok (.dup, 1) := by decide +kernel
theorem dX2_read_4 : decode cX2_read 4 = .ok (.invokespecial 21, 3) := by decide +kernel
theorem dX2_read_7 : decode cX2_read 7 = .ok (.astore_n 3, 1) := by decide +kernel
theorem dX2_read_8 : decode cX2_read 8 = .ok (.aload_n 0, 1) := by decide +kernel
theorem dX2_read_9 : decode cX2_read 9 = .ok (.iconst 0, 1) := by decide +kernel
theorem dX2_read_10 : decode cX2_read 10 = .ok (.putfield 22, 3) := by decide +kernel
theorem dX2_read_13 : decode cX2_read 13 = .ok (.aload_n 0, 1) := by decide +kernel
theorem dX2_read_14 : decode cX2_read 14 = .ok (.iconst 0, 1) := by decide +kernel
theorem dX2_read_15 : decode cX2_read 15 = .ok (.putfield 26, 3) := by decide +kernel
theorem dX2_read_18 : decode cX2_read 18 = .ok (.iconst 0, 1) := by decide +kernel
theorem dX2_read_19 : decode cX2_read 19 = .ok (.istore 4, 2) := by decide +kernel
theorem dX2_read_21 : decode cX2_read 21 = .ok (.iload 4, 2) := by decide +kernel
theorem dX2_read_23 : decode cX2_read 23 = .ok (.iload_n 2, 1) := by decide +kernel
theorem dX2_read_24 : decode cX2_read 24 = .ok (.if_icmp .ge 25, 3) := by decide +kernel
theorem dX2_read_27 : decode cX2_read 27 = .ok (.iload 4, 2) := by decide +kernel
theorem dX2_read_29 : decode cX2_read 29 = .ok (.aload_n 1, 1) := by decide +kernel
theorem dX2_read_30 : decode cX2_read 30 = .ok (.arraylength, 1) := by decide +kernel
theorem dX2_read_31 : decode cX2_read 31 = .ok (.if_icmp .ge 18, 3) := by decide +kernel
theorem dX2_read_34 : decode cX2_read 34 = .ok (.aload_n 0, 1) := by decide +kernel
theorem dX2_read_35 : decode cX2_read 35 = .ok (.aload_n 1, 1) := by decide +kernel
theorem dX2_read_36 : decode cX2_read 36 = .ok (.iload 4, 2) := by decide +kernel
theorem dX2_read_38 : decode cX2_read 38 = .ok (.caload, 1) := by decide +kernel
theorem dX2_read_39 : decode cX2_read 39 = .ok (.aload_n 3, 1) := by decide +kernel
theorem dX2_read_40 : decode cX2_read 40 = .ok (.invokevirtual 29, 3) := by decide +kernel
theorem dX2_read_43 : decode cX2_read 43 = .ok (.iinc 4 1, 3) := by decide +kernel
theorem dX2_read_46 : decode cX2_read 46 = .ok (.goto (-25), 3) := by decide +kernel
theorem dX2_read_49 : decode cX2_read 49 = .ok (.aload_n 0, 1) := by decide +kernel
theorem dX2_read_50 : decode cX2_read 50 = .ok (.iconst 1, 1) := by decide +kernel
theorem dX2_read_51 : decode cX2_read 51 = .ok (.aload_n 3, 1) := by decide +kernel
theorem dX2_read_52 : decode cX2_read 52 = .ok (.invokevirtual 33, 3) := by decide +kernel
theorem dX2_read_55 : decode cX2_read 55 = .ok (.aload_n 3, 1) := by decide +kernel
theorem dX2_read_56 : decode cX2_read 56 = .ok (.areturn, 1) := by decide +kernel
theorem dX2_take_0 : decode cX2_take 0 = .ok (.iload_n 1, 1) := by decide +kernel
theorem dX2_take_1 : decode cX2_take 1 = .ok (.lookupswitch 100 #[(33, 51), (38, 82), (40, 51), (41, 59), (124, 82)], 51) := by decide +kernel
theorem dX2_take_52 : decode cX2_take 52 = .ok (.aload_n 0, 1) := by decide +kernel
theorem dX2_take_53 : decode cX2_take 53 = .ok (.iload_n 1, 1) := by decide +kernel
theorem dX2_take_54 : decode cX2_take 54 = .ok (.invokevirtual 37, 3) := by decide +kernel
theorem dX2_take_57 : decode cX2_take 57 = .ok (.goto 53, 3) := by decide +kernel
theorem dX2_take_60 : decode cX2_take 60 = .ok (.aload_n 0, 1) := by decide +kernel
theorem dX2_take_61 : decode cX2_take 61 = .ok (.iconst 1, 1) := by decide +kernel
theorem dX2_take_62 : decode cX2_take 62 = .ok (.aload_n 2, 1) := by decide +kernel
theorem dX2_take_63 : decode cX2_take 63 = .ok (.invokevirtual 33, 3) := by decide +kernel
theorem dX2_take_66 : decode cX2_take 66 = .ok (.aload_n 0, 1) := by decide +kernel
theorem dX2_take_67 : decode cX2_take 67 = .ok (.iconst 0, 1) := by decide +kernel
theorem dX2_take_68 : decode cX2_take 68 = .ok (.aload_n 0, 1) := by decide +kernel
theorem dX2_take_69 : decode cX2_take 69 = .ok (.getfield 22, 3) := by decide +kernel
theorem dX2_take_72 : decode cX2_take 72 = .ok (.iconst 1, 1) := by decide +kernel
theorem dX2_take_73 : decode cX2_take 73 = .ok (.isub, 1) := by decide +kernel
theorem dX2_take_74 : decode cX2_take 74 = .ok (.invokestatic 41, 3) := by decide +kernel
theorem dX2_take_77 : decode cX2_take 77 = .ok (.putfield 22, 3) := by decide +kernel
theorem dX2_take_80 : decode cX2_take 80 = .ok (.goto 30, 3) := by decide +kernel
theorem dX2_take_83 : decode cX2_take 83 = .ok (.aload_n 0, 1) := by decide +kernel
theorem dX2_take_84 : decode cX2_take 84 = .ok (.aload_n 0, 1) := by decide +kernel
theorem dX2_take_85 : decode cX2_take 85 = .ok (.iload_n 1, 1) := by decide +kernel
theorem dX2_take_86 : decode cX2_take 86 = .ok (.invokevirtual 47, 3) := by decide +kernel
theorem dX2_take_89 : decode cX2_take 89 = .ok (.aload_n 2, 1) := by decide +kernel
theorem dX2_take_90 : decode cX2_take 90 = .ok (.invokevirtual 33, 3) := by decide +kernel
theorem dX2_take_93 : decode cX2_take 93 = .ok (.aload_n 0, 1) := by decide +kernel
theorem dX2_take_94 : decode cX2_take 94 = .ok (.iload_n 1, 1) := by decide +kernel
theorem dX2_take_95 : decode cX2_take 95 = .ok (.invokevirtual 37, 3) := by decide +kernel
theorem dX2_take_98 : decode cX2_take 98 = .ok (.goto 12, 3) := by decide +kernel
theorem dX2_take_101 : decode cX2_take 101 = .ok (.aload_n 0, 1) := by decide +kernel
theorem dX2_take_102 : decode cX2_take 102 = .ok (.aload_n 2, 1) := by decide +kernel
theorem dX2_take_103 : decode cX2_take 103 = .ok (.iload_n 1, 1) := by decide +kernel
theorem dX2_take_104 : decode cX2_take 104 = .ok (.invokevirtual 51, 3) := by decide +kernel
theorem dX2_take_107 : decode cX2_take 107 = .ok (.invokevirtual 54, 3) := by decide +kernel
theorem dX2_take_110 : decode cX2_take 110 = .ok (.return_, 1) := by decide +kernel
theorem dX2_strength_0 : decode cX2_strength 0 = .ok (.iload_n 1, 1) := by decide +kernel
theorem dX2_strength_1 : decode cX2_strength 1 = .ok (.lookupswitch 41 #[(33, 35), (38, 37), (124, 39)], 35) := by decide +kernel
theorem dX2_strength_36 : decode cX2_strength 36 = .ok (.iconst 3, 1) := by decide +kernel
theorem dX2_strength_37 : decode cX2_strength 37 = .ok (.ireturn, 1) := by decide +kernel
theorem dX2_strength_38 : decode cX2_strength 38 = .ok (.iconst 2, 1) := by decide +kernel
theorem dX2_strength_39 : decode cX2_strength 39 = .ok (.ireturn, 1) := by decide +kernel
theorem dX2_strength_40 : decode cX2_strength 40 = .ok (.iconst 1, 1) := by decide +kernel
theorem dX2_strength_41 : decode cX2_strength 41 = .ok (.ireturn, 1) := by decide +kernel
theorem dX2_strength_42 : decode cX2_strength 42 = .ok (.iconst 0, 1) := by decide +kernel
theorem dX2_strength_43 : decode cX2_strength 43 = .ok (.ireturn, 1) := by decide +kernel
theorem dX2_joinWaiting_0 : decode cX2_joinWaiting 0 = .ok (.aload_n 0, 1) := by decide +kernel
theorem dX2_joinWaiting_1 : decode cX2_joinWaiting 1 = .ok (.getfield 22, 3) := by decide +kernel
theorem dX2_joinWaiting_4 : decode cX2_joinWaiting 4 = .ok (.ifCond .le 51, 3) := by decide +kernel
theorem dX2_joinWaiting_7 : decode cX2_joinWaiting 7 = .ok (.aload_n 0, 1) := by decide +kernel
theorem dX2_joinWaiting_8 : decode cX2_joinWaiting 8 = .ok (.aload_n 0, 1) := by decide +kernel
theorem dX2_joinWaiting_9 : decode cX2_joinWaiting 9 = .ok (.getfield 9, 3) := by decide +kernel
theorem dX2_joinWaiting_12 : decode cX2_joinWaiting 12 = .ok (.aload_n 0, 1) := by decide +kernel
theorem dX2_joinWaiting_13 : decode cX2_joinWaiting 13 = .ok (.getfield 22, 3) := by decide +kernel
theorem dX2_joinWaiting_16 : decode cX2_joinWaiting 16 = .ok (.iconst 1, 1) := by decide +kernel
theorem dX2_joinWaiting_17 : decode cX2_joinWaiting 17 = .ok (.isub, 1) := by decide +kernel
theorem dX2_joinWaiting_18 : decode cX2_joinWaiting 18 = .ok (.caload, 1) := by decide +kernel
theorem dX2_joinWaiting_19 : decode cX2_joinWaiting 19 = .ok (.invokevirtual 47, 3) := by decide +kernel
theorem dX2_joinWaiting_22 : decode cX2_joinWaiting 22 = .ok (.iload_n 1, 1) := by decide +kernel
theorem dX2_joinWaiting_23 : decode cX2_joinWaiting 23 = .ok (.if_icmp .lt 32, 3) := by decide +kernel
theorem dX2_joinWaiting_26 : decode cX2_joinWaiting 26 = .ok (.aload_n 0, 1) := by decide +kernel
theorem dX2_joinWaiting_27 : decode cX2_joinWaiting 27 = .ok (.aload_n 0, 1) := by decide +kernel
theorem dX2_joinWaiting_28 : decode cX2_joinWaiting 28 = .ok (.getfield 9, 3) := by decide +kernel
theorem dX2_joinWaiting_31 : decode cX2_joinWaiting 31 = .ok (.aload_n 0, 1) := by decide +kernel
theorem dX2_joinWaiting_32 : decode cX2_joinWaiting 32 = .ok (.getfield 22, 3) := by decide +kernel
theorem dX2_joinWaiting_35 : decode cX2_joinWaiting 35 = .ok (.iconst 1, 1) := by decide +kernel
theorem dX2_joinWaiting_36 : decode cX2_joinWaiting 36 = .ok (.isub, 1) := by decide +kernel
theorem dX2_joinWaiting_37 : decode cX2_joinWaiting 37 = .ok (.caload, 1) := by decide +kernel
theorem dX2_joinWaiting_38 : decode cX2_joinWaiting 38 = .ok (.aload_n 2, 1) := by decide +kernel
theorem dX2_joinWaiting_39 : decode cX2_joinWaiting 39 = .ok (.invokevirtual 58, 3) := by decide +kernel
theorem dX2_joinWaiting_42 : decode cX2_joinWaiting 42 = .ok (.aload_n 0, 1) := by decide +kernel
theorem dX2_joinWaiting_43 : decode cX2_joinWaiting 43 = .ok (.dup, 1) := by decide +kernel
theorem dX2_joinWaiting_44 : decode cX2_joinWaiting 44 = .ok (.getfield 22, 3) := by decide +kernel
theorem dX2_joinWaiting_47 : decode cX2_joinWaiting 47 = .ok (.iconst 1, 1) := by decide +kernel
theorem dX2_joinWaiting_48 : decode cX2_joinWaiting 48 = .ok (.isub, 1) := by decide +kernel
theorem dX2_joinWaiting_49 : decode cX2_joinWaiting 49 = .ok (.putfield 22, 3) := by decide +kernel
theorem dX2_joinWaiting_52 : decode cX2_joinWaiting 52 = .ok (.goto (-52), 3) := by decide +kernel
theorem dX2_joinWaiting_55 : decode cX2_joinWaiting 55 = .ok (.return_, 1) := by decide +kernel
theorem dX2_joinFree_0 : decode cX2_joinFree 0 = .ok (.aload_n 0, 1) := by decide +kernel
theorem dX2_joinFree_1 : decode cX2_joinFree 1 = .ok (.invokevirtual 61, 3) := by decide +kernel
theorem dX2_joinFree_4 : decode cX2_joinFree 4 = .ok (.istore_n 3, 1) := by decide +kernel
theorem dX2_joinFree_5 : decode cX2_joinFree 5 = .ok (.iload_n 1, 1) := by decide +kernel
theorem dX2_joinFree_6 : decode cX2_joinFree 6 = .ok (.bipush 33, 2) := by decide +kernel
theorem dX2_joinFree_8 : decode cX2_joinFree 8 = .ok (.if_icmp .ne 7, 3) := by decide +kernel
theorem dX2_joinFree_11 : decode cX2_joinFree 11 = .ok (.iload_n 3, 1) := by decide +kernel
theorem dX2_joinFree_12 : decode cX2_joinFree 12 = .ok (.goto 7, 3) := by decide +kernel
theorem dX2_joinFree_15 : decode cX2_joinFree 15 = .ok (.aload_n 0, 1) := by decide +kernel
theorem dX2_joinFree_16 : decode cX2_joinFree 16 = .ok (.invokevirtual 61, 3) := by decide +kernel
theorem dX2_joinFree_19 : decode cX2_joinFree 19 = .ok (.istore 4, 2) := by decide +kernel
theorem dX2_joinFree_21 : decode cX2_joinFree 21 = .ok (.aload_n 0, 1) := by decide +kernel
theorem dX2_joinFree_22 : decode cX2_joinFree 22 = .ok (.aload_n 2, 1) := by decide +kernel
theorem dX2_joinFree_23 : decode cX2_joinFree 23 = .ok (.iload_n 1, 1) := by decide +kernel
theorem dX2_joinFree_24 : decode cX2_joinFree 24 = .ok (.iload 4, 2) := by decide +kernel
theorem dX2_joinFree_26 : decode cX2_joinFree 26 = .ok (.iload_n 3, 1) := by decide +kernel
theorem dX2_joinFree_27 : decode cX2_joinFree 27 = .ok (.invokevirtual 65, 3) := by decide +kernel
theorem dX2_joinFree_30 : decode cX2_joinFree 30 = .ok (.invokevirtual 54, 3) := by decide +kernel
theorem dX2_joinFree_33 : decode cX2_joinFree 33 = .ok (.return_, 1) := by decide +kernel
theorem dX2_keepWaiting_0 : decode cX2_keepWaiting 0 = .ok (.aload_n 0, 1) := by decide +kernel
theorem dX2_keepWaiting_1 : decode cX2_keepWaiting 1 = .ok (.getfield 22, 3) := by decide +kernel
theorem dX2_keepWaiting_4 : decode cX2_keepWaiting 4 = .ok (.bipush 60, 2) := by decide +kernel
theorem dX2_keepWaiting_6 : decode cX2_keepWaiting 6 = .ok (.if_icmp .ge 23, 3) := by decide +kernel
theorem dX2_keepWaiting_9 : decode cX2_keepWaiting 9 = .ok (.aload_n 0, 1) := by decide +kernel
theorem dX2_keepWaiting_10 : decode cX2_keepWaiting 10 = .ok (.getfield 9, 3) := by decide +kernel
theorem dX2_keepWaiting_13 : decode cX2_keepWaiting 13 = .ok (.aload_n 0, 1) := by decide +kernel
theorem dX2_keepWaiting_14 : decode cX2_keepWaiting 14 = .ok (.getfield 22, 3) := by decide +kernel
theorem dX2_keepWaiting_17 : decode cX2_keepWaiting 17 = .ok (.iload_n 1, 1) := by decide +kernel
theorem dX2_keepWaiting_18 : decode cX2_keepWaiting 18 = .ok (.castore, 1) := by decide +kernel
theorem dX2_keepWaiting_19 : decode cX2_keepWaiting 19 = .ok (.aload_n 0, 1) := by decide +kernel
theorem dX2_keepWaiting_20 : decode cX2_keepWaiting 20 = .ok (.dup, 1) := by decide +kernel
theorem dX2_keepWaiting_21 : decode cX2_keepWaiting 21 = .ok (.getfield 22, 3) := by decide +kernel
theorem dX2_keepWaiting_24 : decode cX2_keepWaiting 24 = .ok (.iconst 1, 1) := by decide +kernel
theorem dX2_keepWaiting_25 : decode cX2_keepWaiting 25 = .ok (.iadd, 1) := by decide +kernel
theorem dX2_keepWaiting_26 : decode cX2_keepWaiting 26 = .ok (.putfield 22, 3) := by decide +kernel
theorem dX2_keepWaiting_29 : decode cX2_keepWaiting 29 = .ok (.return_, 1) := by decide +kernel
theorem dX2_keepFree_0 : decode cX2_keepFree 0 = .ok (.aload_n 0, 1) := by decide +kernel
theorem dX2_keepFree_1 : decode cX2_keepFree 1 = .ok (.getfield 26, 3) := by decide +kernel
theorem dX2_keepFree_4 : decode cX2_keepFree 4 = .ok (.bipush 60, 2) := by decide +kernel
theorem dX2_keepFree_6 : decode cX2_keepFree 6 = .ok (.if_icmp .ge 23, 3) := by decide +kernel
theorem dX2_keepFree_9 : decode cX2_keepFree 9 = .ok (.aload_n 0, 1) := by decide +kernel
theorem dX2_keepFree_10 : decode cX2_keepFree 10 = .ok (.getfield 15, 3) := by decide +kernel
theorem dX2_keepFree_13 : decode cX2_keepFree 13 = .ok (.aload_n 0, 1) := by decide +kernel
theorem dX2_keepFree_14 : decode cX2_keepFree 14 = .ok (.getfield 26, 3) := by decide +kernel
theorem dX2_keepFree_17 : decode cX2_keepFree 17 = .ok (.iload_n 1, 1) := by decide +kernel
theorem dX2_keepFree_18 : decode cX2_keepFree 18 = .ok (.iastore, 1) := by decide +kernel
theorem dX2_keepFree_19 : decode cX2_keepFree 19 = .ok (.aload_n 0, 1) := by decide +kernel
theorem dX2_keepFree_20 : decode cX2_keepFree 20 = .ok (.dup, 1) := by decide +kernel
theorem dX2_keepFree_21 : decode cX2_keepFree 21 = .ok (.getfield 26, 3) := by decide +kernel
theorem dX2_keepFree_24 : decode cX2_keepFree 24 = .ok (.iconst 1, 1) := by decide +kernel
theorem dX2_keepFree_25 : decode cX2_keepFree 25 = .ok (.iadd, 1) := by decide +kernel
theorem dX2_keepFree_26 : decode cX2_keepFree 26 = .ok (.putfield 26, 3) := by decide +kernel
theorem dX2_keepFree_29 : decode cX2_keepFree 29 = .ok (.return_, 1) := by decide +kernel
theorem dX2_takeFree_0 : decode cX2_takeFree 0 = .ok (.aload_n 0, 1) := by decide +kernel
theorem dX2_takeFree_1 : decode cX2_takeFree 1 = .ok (.getfield 26, 3) := by decide +kernel
theorem dX2_takeFree_4 : decode cX2_takeFree 4 = .ok (.ifCond .ne 5, 3) := by decide +kernel
theorem dX2_takeFree_7 : decode cX2_takeFree 7 = .ok (.iconst 0, 1) := by decide +kernel
theorem dX2_takeFree_8 : decode cX2_takeFree 8 = .ok (.ireturn, 1) := by decide +kernel
theorem dX2_takeFree_9 : decode cX2_takeFree 9 = .ok (.aload_n 0, 1) := by decide +kernel
theorem dX2_takeFree_10 : decode cX2_takeFree 10 = .ok (.dup, 1) := by decide +kernel
theorem dX2_takeFree_11 : decode cX2_takeFree 11 = .ok (.getfield 26, 3) := by decide +kernel
theorem dX2_takeFree_14 : decode cX2_takeFree 14 = .ok (.iconst 1, 1) := by decide +kernel
theorem dX2_takeFree_15 : decode cX2_takeFree 15 = .ok (.isub, 1) := by decide +kernel
theorem dX2_takeFree_16 : decode cX2_takeFree 16 = .ok (.putfield 26, 3) := by decide +kernel
theorem dX2_takeFree_19 : decode cX2_takeFree 19 = .ok (.aload_n 0, 1) := by decide +kernel
theorem dX2_takeFree_20 : decode cX2_takeFree 20 = .ok (.getfield 15, 3) := by decide +kernel
theorem dX2_takeFree_23 : decode cX2_takeFree 23 = .ok (.aload_n 0, 1) := by decide +kernel
theorem dX2_takeFree_24 : decode cX2_takeFree 24 = .ok (.getfield 26, 3) := by decide +kernel
theorem dX2_takeFree_27 : decode cX2_takeFree 27 = .ok (.iaload, 1) := by decide +kernel
theorem dX2_takeFree_28 : decode cX2_takeFree 28 = .ok (.ireturn, 1) := by decide +kernel
theorem dX3_init_0 : decode cX3_init 0 = .ok (.aload_n 0, 1) := by decide +kernel
theorem dX3_init_1 : decode cX3_init 1 = .ok (.invokespecial 3, 3) := by decide +kernel
theorem dX3_init_4 : decode cX3_init 4 = .ok (.aload_n 0, 1) := by decide +kernel
theorem dX3_init_5 : decode cX3_init 5 = .ok (.bipush 60, 2) := by decide +kernel
theorem dX3_init_7 : decode cX3_init 7 = .ok (.newarray .char, 2) := by decide +kernel
theorem dX3_init_9 : decode cX3_init 9 = .ok (.putfield 9, 3) := by decide +kernel
theorem dX3_init_12 : decode cX3_init 12 = .ok (.aload_n 0, 1) := by decide +kernel
theorem dX3_init_13 : decode cX3_init 13 = .ok (.bipush 60, 2) := by decide +kernel
theorem dX3_init_15 : decode cX3_init 15 = .ok (.newarray .int, 2) := by decide +kernel
theorem dX3_init_17 : decode cX3_init 17 = .ok (.putfield 15, 3) := by decide +kernel
theorem dX3_init_20 : decode cX3_init 20 = .ok (.aload_n 0, 1) := by decide +kernel
theorem dX3_init_21 : decode cX3_init 21 = .ok (.bipush 60, 2) := by decide +kernel
theorem dX3_init_23 : decode cX3_init 23 = .ok (.newarray .int, 2) := by decide +kernel
theorem dX3_init_25 : decode cX3_init 25 = .ok (.putfield 19, 3) := by decide +kernel
theorem dX3_init_28 : decode cX3_init 28 = .ok (.aload_n 0, 1) := by decide +kernel
theorem dX3_init_29 : decode cX3_init 29 = .ok (.bipush 60, 2) := by decide +kernel
theorem dX3_init_31 : decode cX3_init 31 = .ok (.newarray .int, 2) := by decide +kernel
theorem dX3_init_33 : decode cX3_init 33 = .ok (.putfield 22, 3) := by decide +kernel
theorem dX3_init_36 : decode cX3_init 36 = .ok (.return_, 1) := by decide +kernel
theorem dX3_addLetter_0 : decode cX3_addLetter 0 = .ok (.aload_n 0, 1) := by decide +kernel
theorem dX3_addLetter_1 : decode cX3_addLetter 1 = .ok (.dup, 1) := by decide +kernel
theorem dX3_addLetter_2 : decode cX3_addLetter 2 = .ok (.getfield 25, 3) := by decide +kernel
theorem dX3_addLetter_5 : decode cX3_addLetter 5 = .ok (.iconst 1, 1) := by decide +kernel
theorem dX3_addLetter_6 : decode cX3_addLetter 6 = .ok (.aload_n 0, 1) := by decide +kernel
theorem dX3_addLetter_7 : decode cX3_addLetter 7 = .ok (.iload_n 1, 1) := by decide +kernel
theorem dX3_addLetter_8 : decode cX3_addLetter 8 = .ok (.invokevirtual 29, 3) := by decide +kernel
theorem dX3_addLetter_11 : decode cX3_addLetter 11 = .ok (.ishl, 1) := by decide +kernel
theorem dX3_addLetter_12 : decode cX3_addLetter 12 = .ok (.ior, 1) := by decide +kernel
theorem dX3_addLetter_13 : decode cX3_addLetter 13 = .ok (.putfield 25, 3) := by decide +kernel
theorem dX3_addLetter_16 : decode cX3_addLetter 16 = .ok (.aload_n 0, 1) := by decide +kernel
theorem dX3_addLetter_17 : decode cX3_addLetter 17 = .ok (.iload_n 1, 1) := by decide +kernel
theorem dX3_addLetter_18 : decode cX3_addLetter 18 = .ok (.iconst 0, 1) := by decide +kernel
theorem dX3_addLetter_19 : decode cX3_addLetter 19 = .ok (.iconst 0, 1) := by decide +kernel
theorem dX3_addLetter_20 : decode cX3_addLetter 20 = .ok (.iconst 1, 1) := by decide +kernel
theorem dX3_addLetter_21 : decode cX3_addLetter 21 = .ok (.invokevirtual 33, 3) := by decide +kernel
theorem dX3_addLetter_24 : decode cX3_addLetter 24 = .ok (.ireturn, 1) := by decide +kernel
theorem dX3_addJoint_0 : decode cX3_addJoint 0 = .ok (.aload_n 0, 1) := by decide +kernel
theorem dX3_addJoint_1 : decode cX3_addJoint 1 = .ok (.iload_n 2, 1) := by decide +kernel
theorem dX3_addJoint_2 : decode cX3_addJoint 2 = .ok (.invokevirtual 37, 3) := by decide +kernel
theorem dX3_addJoint_5 : decode cX3_addJoint 5 = .ok (.aload_n 0, 1) := by decide +kernel
theorem dX3_addJoint_6 : decode cX3_addJoint 6 = .ok (.iload_n 3, 1) := by decide +kernel
theorem dX3_addJoint_7 : decode cX3_addJoint 7 = .ok (.invokevirtual 37, 3) := by decide +kernel
theorem dX3_addJoint_10 : decode cX3_addJoint 10 = .ok (.invokestatic 41, 3) := by decide +kernel
theorem dX3_addJoint_13 : decode cX3_addJoint 13 = .ok (.istore 4, 2) := by decide +kernel
theorem dX3_addJoint_15 : decode cX3_addJoint 15 = .ok (.aload_n 0, 1) := by decide +kernel
theorem dX3_addJoint_16 : decode cX3_addJoint 16 = .ok (.iload_n 1, 1) := by decide +kernel
theorem dX3_addJoint_17 : decode cX3_addJoint 17 = .ok (.iload_n 2, 1) := by decide +kernel
theorem dX3_addJoint_18 : decode cX3_addJoint 18 = .ok (.iload_n 3, 1) := by decide +kernel
theorem dX3_addJoint_19 : decode cX3_addJoint 19 = .ok (.iconst 1, 1) := by decide +kernel
theorem dX3_addJoint_20 : decode cX3_addJoint 20 = .ok (.iload 4, 2) := by decide +kernel
theorem dX3_addJoint_22 : decode cX3_addJoint 22 = .ok (.iadd, 1) := by decide +kernel
theorem dX3_addJoint_23 : decode cX3_addJoint 23 = .ok (.invokevirtual 33, 3) := by decide +kernel
theorem dX3_addJoint_26 : decode cX3_addJoint 26 = .ok (.ireturn, 1) := by decide +kernel
theorem dX3_add_0 : decode cX3_add 0 = .ok (.aload_n 0, 1) := by decide +kernel
theorem dX3_add_1 : decode cX3_add 1 = .ok (.getfield 47, 3) := by decide +kernel
theorem dX3_add_4 : decode cX3_add 4 = .ok (.bipush 60, 2) := by decide +kernel
theorem dX3_add_6 : decode cX3_add 6 = .ok (.if_icmp .lt 5, 3) := by decide +kernel
theorem dX3_add_9 : decode cX3_add 9 = .ok (.iconst 0, 1) := by decide +kernel
theorem dX3_add_10 : decode cX3_add 10 = .ok (.ireturn, 1) := by decide +kernel
theorem dX3_add_11 : decode cX3_add 11 = .ok (.aload_n 0, 1) := by decide +kernel
theorem dX3_add_12 : decode cX3_add 12 = .ok (.getfield 9, 3) := by decide +kernel
theorem dX3_add_15 : decode cX3_add 15 = .ok (.aload_n 0, 1) := by decide +kernel
theorem dX3_add_16 : decode cX3_add 16 = .ok (.getfield 47, 3) := by decide +kernel
theorem dX3_add_19 : decode cX3_add 19 = .ok (.iload_n 1, 1) := by decide +kernel
theorem dX3_add_20 : decode cX3_add 20 = .ok (.castore, 1) := by decide +kernel
theorem dX3_add_21 : decode cX3_add 21 = .ok (.aload_n 0, 1) := by decide +kernel
theorem dX3_add_22 : decode cX3_add 22 = .ok (.getfield 15, 3) := by decide +kernel
theorem dX3_add_25 : decode cX3_add 25 = .ok (.aload_n 0, 1) := by decide +kernel
theorem dX3_add_26 : decode cX3_add 26 = .ok (.getfield 47, 3) := by decide +kernel
theorem dX3_add_29 : decode cX3_add 29 = .ok (.iload_n 2, 1) := by decide +kernel
theorem dX3_add_30 : decode cX3_add 30 = .ok (.iastore, 1) := by decide +kernel
theorem dX3_add_31 : decode cX3_add 31 = .ok (.aload_n 0, 1) := by decide +kernel
theorem dX3_add_32 : decode cX3_add 32 = .ok (.getfield 19, 3) := by decide +kernel
theorem dX3_add_35 : decode cX3_add 35 = .ok (.aload_n 0, 1) := by decide +kernel
theorem dX3_add_36 : decode cX3_add 36 = .ok (.getfield 47, 3) := by decide +kernel
theorem dX3_add_39 : decode cX3_add 39 = .ok (.iload_n 3, 1) := by decide +kernel
theorem dX3_add_40 : decode cX3_add 40 = .ok (.iastore, 1) := by decide +kernel
theorem dX3_add_41 : decode cX3_add 41 = .ok (.aload_n 0, 1) := by decide +kernel
theorem dX3_add_42 : decode cX3_add 42 = .ok (.getfield 22, 3) := by decide +kernel
theorem dX3_add_45 : decode cX3_add 45 = .ok (.aload_n 0, 1) := by decide +kernel
theorem dX3_add_46 : decode cX3_add 46 = .ok (.getfield 47, 3) := by decide +kernel
theorem dX3_add_49 : decode cX3_add 49 = .ok (.iload 4, 2) := by decide +kernel
theorem dX3_add_51 : decode cX3_add 51 = .ok (.iastore, 1) := by decide +kernel
theorem dX3_add_52 : decode cX3_add 52 = .ok (.aload_n 0, 1) := by decide +kernel
theorem dX3_add_53 : decode cX3_add 53 = .ok (.dup, 1) := by decide +kernel
theorem dX3_add_54 : decode cX3_add 54 = .ok (.getfield 47, 3) := by decide +kernel
theorem dX3_add_57 : decode cX3_add 57 = .ok (.iconst 1, 1) := by decide +kernel
theorem dX3_add_58 : decode cX3_add 58 = .ok (.iadd, 1) := by decide +kernel
theorem dX3_add_59 : decode cX3_add 59 = .ok (.putfield 47, 3) := by decide +kernel
theorem dX3_add_62 : decode cX3_add 62 = .ok (.aload_n 0, 1) := by decide +kernel
theorem dX3_add_63 : decode cX3_add 63 = .ok (.getfield 47, 3) := by decide +kernel
theorem dX3_add_66 : decode cX3_add 66 = .ok (.iconst 1, 1) := by decide +kernel
theorem dX3_add_67 : decode cX3_add 67 = .ok (.isub, 1) := by decide +kernel
theorem dX3_add_68 : decode cX3_add 68 = .ok (.ireturn, 1) := by decide +kernel
theorem dX3_depthOf_0 : decode cX3_depthOf 0 = .ok (.iload_n 1, 1) := by decide +kernel
theorem dX3_depthOf_1 : decode cX3_depthOf 1 = .ok (.ifCond .lt 26, 3) := by decide +kernel
theorem dX3_depthOf_4 : decode cX3_depthOf 4 = .ok (.iload_n 1, 1) := by decide +kernel
theorem dX3_depthOf_5 : decode cX3_depthOf 5 = .ok (.aload_n 0, 1) := by decide +kernel
theorem dX3_depthOf_6 : decode cX3_depthOf 6 = .ok (.getfield 47, 3) := by decide +kernel
theorem dX3_depthOf_9 : decode cX3_depthOf 9 = .ok (.if_icmp .ge 18, 3) := by decide +kernel
theorem dX3_depthOf_12 : decode cX3_depthOf 12 = .ok (.iload_n 1, 1) := by decide +kernel
theorem dX3_depthOf_13 : decode cX3_depthOf 13 = .ok (.bipush 60, 2) := by decide +kernel
theorem dX3_depthOf_15 : decode cX3_depthOf 15 = .ok (.if_icmp .ge 12, 3) := by decide +kernel
theorem dX3_depthOf_18 : decode cX3_depthOf 18 = .ok (.aload_n 0, 1) := by decide +kernel
theorem dX3_depthOf_19 : decode cX3_depthOf 19 = .ok (.getfield 22, 3) := by decide +kernel
theorem dX3_depthOf_22 : decode cX3_depthOf 22 = .ok (.iload_n 1, 1) := by decide +kernel
theorem dX3_depthOf_23 : decode cX3_depthOf 23 = .ok (.iaload, 1) := by decide +kernel
theorem dX3_depthOf_24 : decode cX3_depthOf 24 = .ok (.goto 4, 3) := by decide +kernel
theorem dX3_depthOf_27 : decode cX3_depthOf 27 = .ok (.iconst 0, 1) := by decide +kernel
theorem dX3_depthOf_28 : decode cX3_depthOf 28 = .ok (.ireturn, 1) := by decide +kernel
theorem dX3_depth_0 : decode cX3_depth 0 = .ok (.aload_n 0, 1) := by decide +kernel
theorem dX3_depth_1 : decode cX3_depth 1 = .ok (.aload_n 0, 1) := by decide +kernel
theorem dX3_depth_2 : decode cX3_depth 2 = .ok (.getfield 47, 3) := by decide +kernel
theorem dX3_depth_5 : decode cX3_depth 5 = .ok (.iconst 1, 1) := by decide +kernel
theorem dX3_depth_6 : decode cX3_depth 6 = .ok (.isub, 1) := by decide +kernel
theorem dX3_depth_7 : decode cX3_depth 7 = .ok (.invokevirtual 37, 3) := by decide +kernel
theorem dX3_depth_10 : decode cX3_depth 10 = .ok (.ireturn, 1) := by decide +kernel
theorem dX3_holds_0 : decode cX3_holds 0 = .ok (.aload_n 0, 1) := by decide +kernel
theorem dX3_holds_1 : decode cX3_holds 1 = .ok (.aload_n 0, 1) := by decide +kernel
theorem dX3_holds_2 : decode cX3_holds 2 = .ok (.iload_n 1, 1) := by decide +kernel
theorem dX3_holds_3 : decode cX3_holds 3 = .ok (.invokevirtual 50, 3) := by decide +kernel
theorem dX3_holds_6 : decode cX3_holds 6 = .ok (.aload_n 0, 1) := by decide +kernel
theorem dX3_holds_7 : decode cX3_holds 7 = .ok (.getfield 47, 3) := by decide +kernel
theorem dX3_holds_10 : decode cX3_holds 10 = .ok (.iconst 1, 1) := by decide +kernel
theorem dX3_holds_11 : decode cX3_holds 11 = .ok (.isub, 1) := by decide +kernel
theorem dX3_holds_12 : decode cX3_holds 12 = .ok (.invokevirtual 54, 3) := by decide +kernel
theorem dX3_holds_15 : decode cX3_holds 15 = .ok (.ireturn, 1) := by decide +kernel
theorem dX3_lookedAt_0 : decode cX3_lookedAt 0 = .ok (.aload_n 0, 1) := by decide +kernel
theorem dX3_lookedAt_1 : decode cX3_lookedAt 1 = .ok (.iload_n 1, 1) := by decide +kernel
theorem dX3_lookedAt_2 : decode cX3_lookedAt 2 = .ok (.invokevirtual 50, 3) := by decide +kernel
theorem dX3_lookedAt_5 : decode cX3_lookedAt 5 = .ok (.lstore_n 2, 1) := by decide +kernel
theorem dX3_lookedAt_6 : decode cX3_lookedAt 6 = .ok (.lconst 1, 1) := by decide +kernel
theorem dX3_lookedAt_7 : decode cX3_lookedAt 7 = .ok (.aload_n 0, 1) := by decide +kernel
theorem dX3_lookedAt_8 : decode cX3_lookedAt 8 = .ok (.getfield 47, 3) := by decide +kernel
theorem dX3_lookedAt_11 : decode cX3_lookedAt 11 = .ok (.iconst 1, 1) := by decide +kernel
theorem dX3_lookedAt_12 : decode cX3_lookedAt 12 = .ok (.isub, 1) := by decide +kernel
theorem dX3_lookedAt_13 : decode cX3_lookedAt 13 = .ok (.lshl, 1) := by decide +kernel
theorem dX3_lookedAt_14 : decode cX3_lookedAt 14 = .ok (.lstore 4, 2) := by decide +kernel
theorem dX3_lookedAt_16 : decode cX3_lookedAt 16 = .ok (.aload_n 0, 1) := by decide +kernel
theorem dX3_lookedAt_17 : decode cX3_lookedAt 17 = .ok (.getfield 47, 3) := by decide +kernel
theorem dX3_lookedAt_20 : decode cX3_lookedAt 20 = .ok (.bipush 60, 2) := by decide +kernel
theorem dX3_lookedAt_22 : decode cX3_lookedAt 22 = .ok (.invokestatic 58, 3) := by decide +kernel
theorem dX3_lookedAt_25 : decode cX3_lookedAt 25 = .ok (.iconst 1, 1) := by decide +kernel
theorem dX3_lookedAt_26 : decode cX3_lookedAt 26 = .ok (.isub, 1) := by decide +kernel
theorem dX3_lookedAt_27 : decode cX3_lookedAt 27 = .ok (.istore 6, 2) := by decide +kernel
theorem dX3_lookedAt_29 : decode cX3_lookedAt 29 = .ok (.iload 6, 2) := by decide +kernel
theorem dX3_lookedAt_31 : decode cX3_lookedAt 31 = .ok (.ifCond .lt 32, 3) := by decide +kernel
theorem dX3_lookedAt_34 : decode cX3_lookedAt 34 = .ok (.aload_n 0, 1) := by decide +kernel
theorem dX3_lookedAt_35 : decode cX3_lookedAt 35 = .ok (.lload 4, 2) := by decide +kernel
theorem dX3_lookedAt_37 : decode cX3_lookedAt 37 = .ok (.iload 6, 2) := by decide +kernel
theorem dX3_lookedAt_39 : decode cX3_lookedAt 39 = .ok (.invokevirtual 54, 3) := by decide +kernel
theorem dX3_lookedAt_42 : decode cX3_lookedAt 42 = .ok (.ifCond .eq 15, 3) := by decide +kernel
theorem dX3_lookedAt_45 : decode cX3_lookedAt 45 = .ok (.lload 4, 2) := by decide +kernel
theorem dX3_lookedAt_47 : decode cX3_lookedAt 47 = .ok (.aload_n 0, 1) := by decide +kernel
theorem dX3_lookedAt_48 : decode cX3_lookedAt 48 = .ok (.iload 6, 2) := by decide +kernel
theorem dX3_lookedAt_50 : decode cX3_lookedAt 50 = .ok (.lload_n 2, 1) := by decide +kernel
theorem dX3_lookedAt_51 : decode cX3_lookedAt 51 = .ok (.invokevirtual 61, 3) := by decide +kernel
theorem dX3_lookedAt_54 : decode cX3_lookedAt 54 = .ok (.lor, 1) := by decide +kernel
theorem dX3_lookedAt_55 : decode cX3_lookedAt 55 = .ok (.lstore 4, 2) := by decide +kernel
theorem dX3_lookedAt_57 : decode cX3_lookedAt 57 = .ok (.iinc 6 (-1), 3) := by decide +kernel
theorem dX3_lookedAt_60 : decode cX3_lookedAt 60 = .ok (.goto (-31), 3) := by decide +kernel
theorem dX3_lookedAt_63 : decode cX3_lookedAt 63 = .ok (.lload 4, 2) := by decide +kernel
theorem dX3_lookedAt_65 : decode cX3_lookedAt 65 = .ok (.invokestatic 65, 3) := by decide +kernel
theorem dX3_lookedAt_68 : decode cX3_lookedAt 68 = .ok (.ireturn, 1) := by decide +kernel
theorem dX3_lookedAtFrom_0 : decode cX3_lookedAtFrom 0 = .ok (.lconst 1, 1) := by decide +kernel
theorem dX3_lookedAtFrom_1 : decode cX3_lookedAtFrom 1 = .ok (.aload_n 0, 1) := by decide +kernel
theorem dX3_lookedAtFrom_2 : decode cX3_lookedAtFrom 2 = .ok (.getfield 15, 3) := by decide +kernel
theorem dX3_lookedAtFrom_5 : decode cX3_lookedAtFrom 5 = .ok (.iload_n 1, 1) := by decide +kernel
theorem dX3_lookedAtFrom_6 : decode cX3_lookedAtFrom 6 = .ok (.iaload, 1) := by decide +kernel
theorem dX3_lookedAtFrom_7 : decode cX3_lookedAtFrom 7 = .ok (.lshl, 1) := by decide +kernel
theorem dX3_lookedAtFrom_8 : decode cX3_lookedAtFrom 8 = .ok (.lstore 4, 2) := by decide +kernel
theorem dX3_lookedAtFrom_10 : decode cX3_lookedAtFrom 10 = .ok (.lconst 1, 1) := by decide +kernel
theorem dX3_lookedAtFrom_11 : decode cX3_lookedAtFrom 11 = .ok (.aload_n 0, 1) := by decide +kernel
theorem dX3_lookedAtFrom_12 : decode cX3_lookedAtFrom 12 = .ok (.getfield 19, 3) := by decide +kernel
theorem dX3_lookedAtFrom_15 : decode cX3_lookedAtFrom 15 = .ok (.iload_n 1, 1) := by decide +kernel
theorem dX3_lookedAtFrom_16 : decode cX3_lookedAtFrom 16 = .ok (.iaload, 1) := by decide +kernel
theorem dX3_lookedAtFrom_17 : decode cX3_lookedAtFrom 17 = .ok (.lshl, 1) := by decide +kernel
theorem dX3_lookedAtFrom_18 : decode cX3_lookedAtFrom 18 = .ok (.lstore 6, 2) := by decide +kernel
theorem dX3_lookedAtFrom_20 : decode cX3_lookedAtFrom 20 = .ok (.lload_n 2, 1) := by decide +kernel
theorem dX3_lookedAtFrom_21 : decode cX3_lookedAtFrom 21 = .ok (.lload 4, 2) := by decide +kernel
theorem dX3_lookedAtFrom_23 : decode cX3_lookedAtFrom 23 = .ok (.land, 1) := by decide +kernel
theorem dX3_lookedAtFrom_24 : decode cX3_lookedAtFrom 24 = .ok (.lconst 0, 1) := by decide +kernel
theorem dX3_lookedAtFrom_25 : decode cX3_lookedAtFrom 25 = .ok (.lcmp, 1) := by decide +kernel
theorem dX3_lookedAtFrom_26 : decode cX3_lookedAtFrom 26 = .ok (.ifCond .eq 7, 3) := by decide +kernel
theorem dX3_lookedAtFrom_29 : decode cX3_lookedAtFrom 29 = .ok (.iconst 1, 1) := by decide +kernel
theorem dX3_lookedAtFrom_30 : decode cX3_lookedAtFrom 30 = .ok (.goto 4, 3) := by decide +kernel
theorem dX3_lookedAtFrom_33 : decode cX3_lookedAtFrom 33 = .ok (.iconst 0, 1) := by decide +kernel
theorem dX3_lookedAtFrom_34 : decode cX3_lookedAtFrom 34 = .ok (.istore 8, 2) := by decide +kernel
theorem dX3_lookedAtFrom_36 : decode cX3_lookedAtFrom 36 = .ok (.aload_n 0, 1) := by decide +kernel
theorem dX3_lookedAtFrom_37 : decode cX3_lookedAtFrom 37 = .ok (.getfield 9, 3) := by decide +kernel
theorem dX3_lookedAtFrom_40 : decode cX3_lookedAtFrom 40 = .ok (.iload_n 1, 1) := by decide +kernel
theorem dX3_lookedAtFrom_41 : decode cX3_lookedAtFrom 41 = .ok (.caload, 1) := by decide +kernel
theorem dX3_lookedAtFrom_42 : decode cX3_lookedAtFrom 42 = .ok (.lookupswitch 69 #[(33, 34), (38, 37), (124, 53)], 34) := by decide +kernel
theorem dX3_lookedAtFrom_76 : decode cX3_lookedAtFrom 76 = .ok (.lload 4, 2) := by decide +kernel
theorem dX3_lookedAtFrom_78 : decode cX3_lookedAtFrom 78 = .ok (.lreturn, 1) := by decide +kernel
theorem dX3_lookedAtFrom_79 : decode cX3_lookedAtFrom 79 = .ok (.iload 8, 2) := by decide +kernel
theorem dX3_lookedAtFrom_81 : decode cX3_lookedAtFrom 81 = .ok (.ifCond .eq 11, 3) := by decide +kernel
theorem dX3_lookedAtFrom_84 : decode cX3_lookedAtFrom 84 = .ok (.lload 4, 2) := by decide +kernel
theorem dX3_lookedAtFrom_86 : decode cX3_lookedAtFrom 86 = .ok (.lload 6, 2) := by decide +kernel
theorem dX3_lookedAtFrom_88 : decode cX3_lookedAtFrom 88 = .ok (.lor, 1) := by decide +kernel
theorem dX3_lookedAtFrom_89 : decode cX3_lookedAtFrom 89 = .ok (.goto 5, 3) := by decide +kernel
theorem dX3_lookedAtFrom_92 : decode cX3_lookedAtFrom 92 = .ok (.lload 4, 2) := by decide +kernel
theorem dX3_lookedAtFrom_94 : decode cX3_lookedAtFrom 94 = .ok (.lreturn, 1) := by decide +kernel
theorem dX3_lookedAtFrom_95 : decode cX3_lookedAtFrom 95 = .ok (.iload 8, 2) := by decide +kernel
theorem dX3_lookedAtFrom_97 : decode cX3_lookedAtFrom 97 = .ok (.ifCond .eq 8, 3) := by decide +kernel
theorem dX3_lookedAtFrom_100 : decode cX3_lookedAtFrom 100 = .ok (.lload 4, 2) := by decide +kernel
theorem dX3_lookedAtFrom_102 : decode cX3_lookedAtFrom 102 = .ok (.goto 8, 3) := by decide +kernel
theorem dX3_lookedAtFrom_105 : decode cX3_lookedAtFrom 105 = .ok (.lload 4, 2) := by decide +kernel
theorem dX3_lookedAtFrom_107 : decode cX3_lookedAtFrom 107 = .ok (.lload 6, 2) := by decide +kernel
theorem dX3_lookedAtFrom_109 : decode cX3_lookedAtFrom 109 = .ok (.lor, 1) := by decide +kernel
theorem dX3_lookedAtFrom_110 : decode cX3_lookedAtFrom 110 = .ok (.lreturn, 1) := by decide +kernel
theorem dX3_lookedAtFrom_111 : decode cX3_lookedAtFrom 111 = .ok (.lconst 0, 1) := by decide +kernel
theorem dX3_lookedAtFrom_112 : decode cX3_lookedAtFrom 112 = .ok (.lreturn, 1) := by decide +kernel
theorem dX3_holding_0 : decode cX3_holding 0 = .ok (.lconst 0, 1) := by decide +kernel
theorem dX3_holding_1 : decode cX3_holding 1 = .ok (.lstore_n 2, 1) := by decide +kernel
theorem dX3_holding_2 : decode cX3_holding 2 = .ok (.iconst 0, 1) := by decide +kernel
theorem dX3_holding_3 : decode cX3_holding 3 = .ok (.istore 4, 2) := by decide +kernel
theorem dX3_holding_5 : decode cX3_holding 5 = .ok (.iload 4, 2) := by decide +kernel
theorem dX3_holding_7 : decode cX3_holding 7 = .ok (.aload_n 0, 1) := by decide +kernel
theorem dX3_holding_8 : decode cX3_holding 8 = .ok (.getfield 47, 3) := by decide +kernel
theorem dX3_holding_11 : decode cX3_holding 11 = .ok (.if_icmp .ge 34, 3) := by decide +kernel
theorem dX3_holding_14 : decode cX3_holding 14 = .ok (.iload 4, 2) := by decide +kernel
theorem dX3_holding_16 : decode cX3_holding 16 = .ok (.bipush 60, 2) := by decide +kernel
theorem dX3_holding_18 : decode cX3_holding 18 = .ok (.if_icmp .ge 27, 3) := by decide +kernel
theorem dX3_holding_21 : decode cX3_holding 21 = .ok (.aload_n 0, 1) := by decide +kernel
theorem dX3_holding_22 : decode cX3_holding 22 = .ok (.iload 4, 2) := by decide +kernel
theorem dX3_holding_24 : decode cX3_holding 24 = .ok (.iload_n 1, 1) := by decide +kernel
theorem dX3_holding_25 : decode cX3_holding 25 = .ok (.lload_n 2, 1) := by decide +kernel
theorem dX3_holding_26 : decode cX3_holding 26 = .ok (.invokevirtual 71, 3) := by decide +kernel
theorem dX3_holding_29 : decode cX3_holding 29 = .ok (.ifCond .eq 10, 3) := by decide +kernel
theorem dX3_holding_32 : decode cX3_holding 32 = .ok (.lload_n 2, 1) := by decide +kernel
theorem dX3_holding_33 : decode cX3_holding 33 = .ok (.lconst 1, 1) := by decide +kernel
theorem dX3_holding_34 : decode cX3_holding 34 = .ok (.iload 4, 2) := by decide +kernel
theorem dX3_holding_36 : decode cX3_holding 36 = .ok (.lshl, 1) := by decide +kernel
theorem dX3_holding_37 : decode cX3_holding 37 = .ok (.lor, 1) := by decide +kernel
theorem dX3_holding_38 : decode cX3_holding 38 = .ok (.lstore_n 2, 1) := by decide +kernel
theorem dX3_holding_39 : decode cX3_holding 39 = .ok (.iinc 4 1, 3) := by decide +kernel
theorem dX3_holding_42 : decode cX3_holding 42 = .ok (.goto (-37), 3) := by decide +kernel
theorem dX3_holding_45 : decode cX3_holding 45 = .ok (.lload_n 2, 1) := by decide +kernel
theorem dX3_holding_46 : decode cX3_holding 46 = .ok (.lreturn, 1) := by decide +kernel
theorem dX3_partHolds_0 : decode cX3_partHolds 0 = .ok (.aload_n 0, 1) := by decide +kernel
theorem dX3_partHolds_1 : decode cX3_partHolds 1 = .ok (.lload_n 3, 1) := by decide +kernel
theorem dX3_partHolds_2 : decode cX3_partHolds 2 = .ok (.aload_n 0, 1) := by decide +kernel
theorem dX3_partHolds_3 : decode cX3_partHolds 3 = .ok (.getfield 15, 3) := by decide +kernel
theorem dX3_partHolds_6 : decode cX3_partHolds 6 = .ok (.iload_n 1, 1) := by decide +kernel
theorem dX3_partHolds_7 : decode cX3_partHolds 7 = .ok (.iaload, 1) := by decide +kernel
theorem dX3_partHolds_8 : decode cX3_partHolds 8 = .ok (.invokevirtual 54, 3) := by decide +kernel
theorem dX3_partHolds_11 : decode cX3_partHolds 11 = .ok (.istore 5, 2) := by decide +kernel
theorem dX3_partHolds_13 : decode cX3_partHolds 13 = .ok (.aload_n 0, 1) := by decide +kernel
theorem dX3_partHolds_14 : decode cX3_partHolds 14 = .ok (.lload_n 3, 1) := by decide +kernel
theorem dX3_partHolds_15 : decode cX3_partHolds 15 = .ok (.aload_n 0, 1) := by decide +kernel
theorem dX3_partHolds_16 : decode cX3_partHolds 16 = .ok (.getfield 19, 3) := by decide +kernel
theorem dX3_partHolds_19 : decode cX3_partHolds 19 = .ok (.iload_n 1, 1) := by decide +kernel
theorem dX3_partHolds_20 : decode cX3_partHolds 20 = .ok (.iaload, 1) := by decide +kernel
theorem dX3_partHolds_21 : decode cX3_partHolds 21 = .ok (.invokevirtual 54, 3) := by decide +kernel
theorem dX3_partHolds_24 : decode cX3_partHolds 24 = .ok (.istore 6, 2) := by decide +kernel
theorem dX3_partHolds_26 : decode cX3_partHolds 26 = .ok (.aload_n 0, 1) := by decide +kernel
theorem dX3_partHolds_27 : decode cX3_partHolds 27 = .ok (.getfield 9, 3) := by decide +kernel
theorem dX3_partHolds_30 : decode cX3_partHolds 30 = .ok (.iload_n 1, 1) := by decide +kernel
theorem dX3_partHolds_31 : decode cX3_partHolds 31 = .ok (.caload, 1) := by decide +kernel
theorem dX3_partHolds_32 : decode cX3_partHolds 32 = .ok (.lookupswitch 79 #[(33, 36), (38, 47), (124, 63)], 36) := by decide +kernel
theorem dX3_partHolds_68 : decode cX3_partHolds 68 = .ok (.iload 5, 2) := by decide +kernel
theorem dX3_partHolds_70 : decode cX3_partHolds 70 = .ok (.ifCond .ne 7, 3) := by decide +kernel
theorem dX3_partHolds_73 : decode cX3_partHolds 73 = .ok (.iconst 1, 1) := by decide +kernel
theorem dX3_partHolds_74 : decode cX3_partHolds 74 = .ok (.goto 4, 3) := by decide +kernel
theorem dX3_partHolds_77 : decode cX3_partHolds 77 = .ok (.iconst 0, 1) := by decide +kernel
theorem dX3_partHolds_78 : decode cX3_partHolds 78 = .ok (.ireturn, 1) := by decide +kernel
theorem dX3_partHolds_79 : decode cX3_partHolds 79 = .ok (.iload 5, 2) := by decide +kernel
theorem dX3_partHolds_81 : decode cX3_partHolds 81 = .ok (.ifCond .eq 12, 3) := by decide +kernel
theorem dX3_partHolds_84 : decode cX3_partHolds 84 = .ok (.iload 6, 2) := by decide +kernel
theorem dX3_partHolds_86 : decode cX3_partHolds 86 = .ok (.ifCond .eq 7, 3) := by decide +kernel
theorem dX3_partHolds_89 : decode cX3_partHolds 89 = .ok (.iconst 1, 1) := by decide +kernel
theorem dX3_partHolds_90 : decode cX3_partHolds 90 = .ok (.goto 4, 3) := by decide +kernel
theorem dX3_partHolds_93 : decode cX3_partHolds 93 = .ok (.iconst 0, 1) := by decide +kernel
theorem dX3_partHolds_94 : decode cX3_partHolds 94 = .ok (.ireturn, 1) := by decide +kernel
theorem dX3_partHolds_95 : decode cX3_partHolds 95 = .ok (.iload 5, 2) := by decide +kernel
theorem dX3_partHolds_97 : decode cX3_partHolds 97 = .ok (.ifCond .ne 8, 3) := by decide +kernel
theorem dX3_partHolds_100 : decode cX3_partHolds 100 = .ok (.iload 6, 2) := by decide +kernel
theorem dX3_partHolds_102 : decode cX3_partHolds 102 = .ok (.ifCond .eq 7, 3) := by decide +kernel
theorem dX3_partHolds_105 : decode cX3_partHolds 105 = .ok (.iconst 1, 1) := by decide +kernel
theorem dX3_partHolds_106 : decode cX3_partHolds 106 = .ok (.goto 4, 3) := by decide +kernel
theorem dX3_partHolds_109 : decode cX3_partHolds 109 = .ok (.iconst 0, 1) := by decide +kernel
theorem dX3_partHolds_110 : decode cX3_partHolds 110 = .ok (.ireturn, 1) := by decide +kernel
theorem dX3_partHolds_111 : decode cX3_partHolds 111 = .ok (.aload_n 0, 1) := by decide +kernel
theorem dX3_partHolds_112 : decode cX3_partHolds 112 = .ok (.aload_n 0, 1) := by decide +kernel
theorem dX3_partHolds_113 : decode cX3_partHolds 113 = .ok (.aload_n 0, 1) := by decide +kernel
theorem dX3_partHolds_114 : decode cX3_partHolds 114 = .ok (.getfield 9, 3) := by decide +kernel
theorem dX3_partHolds_117 : decode cX3_partHolds 117 = .ok (.iload_n 1, 1) := by decide +kernel
theorem dX3_partHolds_118 : decode cX3_partHolds 118 = .ok (.caload, 1) := by decide +kernel
theorem dX3_partHolds_119 : decode cX3_partHolds 119 = .ok (.invokevirtual 29, 3) := by decide +kernel
theorem dX3_partHolds_122 : decode cX3_partHolds 122 = .ok (.iload_n 2, 1) := by decide +kernel
theorem dX3_partHolds_123 : decode cX3_partHolds 123 = .ok (.invokevirtual 75, 3) := by decide +kernel
theorem dX3_partHolds_126 : decode cX3_partHolds 126 = .ok (.ireturn, 1) := by decide +kernel
theorem dX3_letterHolds_0 : decode cX3_letterHolds 0 = .ok (.iload_n 1, 1) := by decide +kernel
theorem dX3_letterHolds_1 : decode cX3_letterHolds 1 = .ok (.iconst 4, 1) := by decide +kernel
theorem dX3_letterHolds_2 : decode cX3_letterHolds 2 = .ok (.irem, 1) := by decide +kernel
theorem dX3_letterHolds_3 : decode cX3_letterHolds 3 = .ok (.istore_n 3, 1) := by decide +kernel
theorem dX3_letterHolds_4 : decode cX3_letterHolds 4 = .ok (.iload_n 2, 1) := by decide +kernel
theorem dX3_letterHolds_5 : decode cX3_letterHolds 5 = .ok (.iconst 2, 1) := by decide +kernel
theorem dX3_letterHolds_6 : decode cX3_letterHolds 6 = .ok (.iload_n 3, 1) := by decide +kernel
theorem dX3_letterHolds_7 : decode cX3_letterHolds 7 = .ok (.imul, 1) := by decide +kernel
theorem dX3_letterHolds_8 : decode cX3_letterHolds 8 = .ok (.ishr, 1) := by decide +kernel
theorem dX3_letterHolds_9 : decode cX3_letterHolds 9 = .ok (.iconst 3, 1) := by decide +kernel
theorem dX3_letterHolds_10 : decode cX3_letterHolds 10 = .ok (.iand, 1) := by decide +kernel
theorem dX3_letterHolds_11 : decode cX3_letterHolds 11 = .ok (.istore 4, 2) := by decide +kernel
theorem dX3_letterHolds_13 : decode cX3_letterHolds 13 = .ok (.iload_n 1, 1) := by decide +kernel
theorem dX3_letterHolds_14 : decode cX3_letterHolds 14 = .ok (.iconst 4, 1) := by decide +kernel
theorem dX3_letterHolds_15 : decode cX3_letterHolds 15 = .ok (.if_icmp .ge 16, 3) := by decide +kernel
theorem dX3_letterHolds_18 : decode cX3_letterHolds 18 = .ok (.iload 4, 2) := by decide +kernel
theorem dX3_letterHolds_20 : decode cX3_letterHolds 20 = .ok (.ifCond .eq 7, 3) := by decide +kernel
theorem dX3_letterHolds_23 : decode cX3_letterHolds 23 = .ok (.iconst 1, 1) := by decide +kernel
theorem dX3_letterHolds_24 : decode cX3_letterHolds 24 = .ok (.goto 18, 3) := by decide +kernel
theorem dX3_letterHolds_27 : decode cX3_letterHolds 27 = .ok (.iconst 0, 1) := by decide +kernel
theorem dX3_letterHolds_28 : decode cX3_letterHolds 28 = .ok (.goto 14, 3) := by decide +kernel
theorem dX3_letterHolds_31 : decode cX3_letterHolds 31 = .ok (.iload 4, 2) := by decide +kernel
theorem dX3_letterHolds_33 : decode cX3_letterHolds 33 = .ok (.iconst 3, 1) := by decide +kernel
theorem dX3_letterHolds_34 : decode cX3_letterHolds 34 = .ok (.if_icmp .ne 7, 3) := by decide +kernel
theorem dX3_letterHolds_37 : decode cX3_letterHolds 37 = .ok (.iconst 1, 1) := by decide +kernel
theorem dX3_letterHolds_38 : decode cX3_letterHolds 38 = .ok (.goto 4, 3) := by decide +kernel
theorem dX3_letterHolds_41 : decode cX3_letterHolds 41 = .ok (.iconst 0, 1) := by decide +kernel
theorem dX3_letterHolds_42 : decode cX3_letterHolds 42 = .ok (.ireturn, 1) := by decide +kernel
theorem dX3_letterNumber_0 : decode cX3_letterNumber 0 = .ok (.iload_n 1, 1) := by decide +kernel
theorem dX3_letterNumber_1 : decode cX3_letterNumber 1 = .ok (.bipush 97, 2) := by decide +kernel
theorem dX3_letterNumber_3 : decode cX3_letterNumber 3 = .ok (.if_icmp .lt 10, 3) := by decide +kernel
theorem dX3_letterNumber_6 : decode cX3_letterNumber 6 = .ok (.iload_n 1, 1) := by decide +kernel
theorem dX3_letterNumber_7 : decode cX3_letterNumber 7 = .ok (.bipush 97, 2) := by decide +kernel
theorem dX3_letterNumber_9 : decode cX3_letterNumber 9 = .ok (.isub, 1) := by decide +kernel
theorem dX3_letterNumber_10 : decode cX3_letterNumber 10 = .ok (.goto 9, 3) := by decide +kernel
theorem dX3_letterNumber_13 : decode cX3_letterNumber 13 = .ok (.iload_n 1, 1) := by decide +kernel
theorem dX3_letterNumber_14 : decode cX3_letterNumber 14 = .ok (.bipush 65, 2) := by decide +kernel
theorem dX3_letterNumber_16 : decode cX3_letterNumber 16 = .ok (.isub, 1) := by decide +kernel
theorem dX3_letterNumber_17 : decode cX3_letterNumber 17 = .ok (.iconst 4, 1) := by decide +kernel
theorem dX3_letterNumber_18 : decode cX3_letterNumber 18 = .ok (.iadd, 1) := by decide +kernel
theorem dX3_letterNumber_19 : decode cX3_letterNumber 19 = .ok (.ireturn, 1) := by decide +kernel
theorem dX3_isIn_0 : decode cX3_isIn 0 = .ok (.lload_n 1, 1) := by decide +kernel
theorem dX3_isIn_1 : decode cX3_isIn 1 = .ok (.iload_n 3, 1) := by decide +kernel
theorem dX3_isIn_2 : decode cX3_isIn 2 = .ok (.lshr, 1) := by decide +kernel
theorem dX3_isIn_3 : decode cX3_isIn 3 = .ok (.lconst 1, 1) := by decide +kernel
theorem dX3_isIn_4 : decode cX3_isIn 4 = .ok (.land, 1) := by decide +kernel
theorem dX3_isIn_5 : decode cX3_isIn 5 = .ok (.lconst 0, 1) := by decide +kernel
theorem dX3_isIn_6 : decode cX3_isIn 6 = .ok (.lcmp, 1) := by decide +kernel
theorem dX3_isIn_7 : decode cX3_isIn 7 = .ok (.ifCond .eq 7, 3) := by decide +kernel
theorem dX3_isIn_10 : decode cX3_isIn 10 = .ok (.iconst 1, 1) := by decide +kernel
theorem dX3_isIn_11 : decode cX3_isIn 11 = .ok (.goto 4, 3) := by decide +kernel
theorem dX3_isIn_14 : decode cX3_isIn 14 = .ok (.iconst 0, 1) := by decide +kernel
theorem dX3_isIn_15 : decode cX3_isIn 15 = .ok (.ireturn, 1) := by decide +kernel
theorem dJ6_bitCount_0f7a4_0 : decode cJ6_bitCount_0f7a4 0 = .ok (.iload_n 0, 1) := by decide +kernel
theorem dJ6_bitCount_0f7a4_1 : decode cJ6_bitCount_0f7a4 1 = .ok (.iload_n 0, 1) := by decide +kernel
theorem dJ6_bitCount_0f7a4_2 : decode cJ6_bitCount_0f7a4 2 = .ok (.iconst 1, 1) := by decide +kernel
theorem dJ6_bitCount_0f7a4_3 : decode cJ6_bitCount_0f7a4 3 = .ok (.iushr, 1) := by decide +kernel
theorem dJ6_bitCount_0f7a4_4 : decode cJ6_bitCount_0f7a4 4 = .ok (.ldc_w 265, 3) := by decide +kernel
theorem dJ6_bitCount_0f7a4_7 : decode cJ6_bitCount_0f7a4 7 = .ok (.iand, 1) := by decide +kernel
theorem dJ6_bitCount_0f7a4_8 : decode cJ6_bitCount_0f7a4 8 = .ok (.isub, 1) := by decide +kernel
theorem dJ6_bitCount_0f7a4_9 : decode cJ6_bitCount_0f7a4 9 = .ok (.istore_n 0, 1) := by decide +kernel
theorem dJ6_bitCount_0f7a4_10 : decode cJ6_bitCount_0f7a4 10 = .ok (.iload_n 0, 1) := by decide +kernel
theorem dJ6_bitCount_0f7a4_11 : decode cJ6_bitCount_0f7a4 11 = .ok (.ldc_w 266, 3) := by decide +kernel
theorem dJ6_bitCount_0f7a4_14 : decode cJ6_bitCount_0f7a4 14 = .ok (.iand, 1) := by decide +kernel
theorem dJ6_bitCount_0f7a4_15 : decode cJ6_bitCount_0f7a4 15 = .ok (.iload_n 0, 1) := by decide +kernel
theorem dJ6_bitCount_0f7a4_16 : decode cJ6_bitCount_0f7a4 16 = .ok (.iconst 2, 1) := by decide +kernel
theorem dJ6_bitCount_0f7a4_17 : decode cJ6_bitCount_0f7a4 17 = .ok (.iushr, 1) := by decide +kernel
theorem dJ6_bitCount_0f7a4_18 : decode cJ6_bitCount_0f7a4 18 = .ok (.ldc_w 266, 3) := by decide +kernel
theorem dJ6_bitCount_0f7a4_21 : decode cJ6_bitCount_0f7a4 21 = .ok (.iand, 1) := by decide +kernel
theorem dJ6_bitCount_0f7a4_22 : decode cJ6_bitCount_0f7a4 22 = .ok (.iadd, 1) := by decide +kernel
theorem dJ6_bitCount_0f7a4_23 : decode cJ6_bitCount_0f7a4 23 = .ok (.istore_n 0, 1) := by decide +kernel
theorem dJ6_bitCount_0f7a4_24 : decode cJ6_bitCount_0f7a4 24 = .ok (.iload_n 0, 1) := by decide +kernel
theorem dJ6_bitCount_0f7a4_25 : decode cJ6_bitCount_0f7a4 25 = .ok (.iload_n 0, 1) := by decide +kernel
theorem dJ6_bitCount_0f7a4_26 : decode cJ6_bitCount_0f7a4 26 = .ok (.iconst 4, 1) := by decide +kernel
theorem dJ6_bitCount_0f7a4_27 : decode cJ6_bitCount_0f7a4 27 = .ok (.iushr, 1) := by decide +kernel
theorem dJ6_bitCount_0f7a4_28 : decode cJ6_bitCount_0f7a4 28 = .ok (.iadd, 1) := by decide +kernel
theorem dJ6_bitCount_0f7a4_29 : decode cJ6_bitCount_0f7a4 29 = .ok (.ldc_w 267, 3) := by decide +kernel
theorem dJ6_bitCount_0f7a4_32 : decode cJ6_bitCount_0f7a4 32 = .ok (.iand, 1) := by decide +kernel
theorem dJ6_bitCount_0f7a4_33 : decode cJ6_bitCount_0f7a4 33 = .ok (.istore_n 0, 1) := by decide +kernel
theorem dJ6_bitCount_0f7a4_34 : decode cJ6_bitCount_0f7a4 34 = .ok (.iload_n 0, 1) := by decide +kernel
theorem dJ6_bitCount_0f7a4_35 : decode cJ6_bitCount_0f7a4 35 = .ok (.iload_n 0, 1) := by decide +kernel
theorem dJ6_bitCount_0f7a4_36 : decode cJ6_bitCount_0f7a4 36 = .ok (.bipush 8, 2) := by decide +kernel
theorem dJ6_bitCount_0f7a4_38 : decode cJ6_bitCount_0f7a4 38 = .ok (.iushr, 1) := by decide +kernel
theorem dJ6_bitCount_0f7a4_39 : decode cJ6_bitCount_0f7a4 39 = .ok (.iadd, 1) := by decide +kernel
theorem dJ6_bitCount_0f7a4_40 : decode cJ6_bitCount_0f7a4 40 = .ok (.istore_n 0, 1) := by decide +kernel
theorem dJ6_bitCount_0f7a4_41 : decode cJ6_bitCount_0f7a4 41 = .ok (.iload_n 0, 1) := by decide +kernel
theorem dJ6_bitCount_0f7a4_42 : decode cJ6_bitCount_0f7a4 42 = .ok (.iload_n 0, 1) := by decide +kernel
theorem dJ6_bitCount_0f7a4_43 : decode cJ6_bitCount_0f7a4 43 = .ok (.bipush 16, 2) := by decide +kernel
theorem dJ6_bitCount_0f7a4_45 : decode cJ6_bitCount_0f7a4 45 = .ok (.iushr, 1) := by decide +kernel
theorem dJ6_bitCount_0f7a4_46 : decode cJ6_bitCount_0f7a4 46 = .ok (.iadd, 1) := by decide +kernel
theorem dJ6_bitCount_0f7a4_47 : decode cJ6_bitCount_0f7a4 47 = .ok (.istore_n 0, 1) := by decide +kernel
theorem dJ6_bitCount_0f7a4_48 : decode cJ6_bitCount_0f7a4 48 = .ok (.iload_n 0, 1) := by decide +kernel
theorem dJ6_bitCount_0f7a4_49 : decode cJ6_bitCount_0f7a4 49 = .ok (.bipush 63, 2) := by decide +kernel
theorem dJ6_bitCount_0f7a4_51 : decode cJ6_bitCount_0f7a4 51 = .ok (.iand, 1) := by decide +kernel
theorem dJ6_bitCount_0f7a4_52 : decode cJ6_bitCount_0f7a4 52 = .ok (.ireturn, 1) := by decide +kernel
theorem dJ13_bitCount_95d88_0 : decode cJ13_bitCount_95d88 0 = .ok (.lload_n 0, 1) := by decide +kernel
theorem dJ13_bitCount_95d88_1 : decode cJ13_bitCount_95d88 1 = .ok (.lload_n 0, 1) := by decide +kernel
theorem dJ13_bitCount_95d88_2 : decode cJ13_bitCount_95d88 2 = .ok (.iconst 1, 1) := by decide +kernel
theorem dJ13_bitCount_95d88_3 : decode cJ13_bitCount_95d88 3 = .ok (.lushr, 1) := by decide +kernel
theorem dJ13_bitCount_95d88_4 : decode cJ13_bitCount_95d88 4 = .ok (.ldc2_w 314, 3) := by decide +kernel
theorem dJ13_bitCount_95d88_7 : decode cJ13_bitCount_95d88 7 = .ok (.land, 1) := by decide +kernel
theorem dJ13_bitCount_95d88_8 : decode cJ13_bitCount_95d88 8 = .ok (.lsub, 1) := by decide +kernel
theorem dJ13_bitCount_95d88_9 : decode cJ13_bitCount_95d88 9 = .ok (.lstore_n 0, 1) := by decide +kernel
theorem dJ13_bitCount_95d88_10 : decode cJ13_bitCount_95d88 10 = .ok (.lload_n 0, 1) := by decide +kernel
theorem dJ13_bitCount_95d88_11 : decode cJ13_bitCount_95d88 11 = .ok (.ldc2_w 316, 3) := by decide +kernel
theorem dJ13_bitCount_95d88_14 : decode cJ13_bitCount_95d88 14 = .ok (.land, 1) := by decide +kernel
theorem dJ13_bitCount_95d88_15 : decode cJ13_bitCount_95d88 15 = .ok (.lload_n 0, 1) := by decide +kernel
theorem dJ13_bitCount_95d88_16 : decode cJ13_bitCount_95d88 16 = .ok (.iconst 2, 1) := by decide +kernel
theorem dJ13_bitCount_95d88_17 : decode cJ13_bitCount_95d88 17 = .ok (.lushr, 1) := by decide +kernel
theorem dJ13_bitCount_95d88_18 : decode cJ13_bitCount_95d88 18 = .ok (.ldc2_w 316, 3) := by decide +kernel
theorem dJ13_bitCount_95d88_21 : decode cJ13_bitCount_95d88 21 = .ok (.land, 1) := by decide +kernel
theorem dJ13_bitCount_95d88_22 : decode cJ13_bitCount_95d88 22 = .ok (.ladd, 1) := by decide +kernel
theorem dJ13_bitCount_95d88_23 : decode cJ13_bitCount_95d88 23 = .ok (.lstore_n 0, 1) := by decide +kernel
theorem dJ13_bitCount_95d88_24 : decode cJ13_bitCount_95d88 24 = .ok (.lload_n 0, 1) := by decide +kernel
theorem dJ13_bitCount_95d88_25 : decode cJ13_bitCount_95d88 25 = .ok (.lload_n 0, 1) := by decide +kernel
theorem dJ13_bitCount_95d88_26 : decode cJ13_bitCount_95d88 26 = .ok (.iconst 4, 1) := by decide +kernel
theorem dJ13_bitCount_95d88_27 : decode cJ13_bitCount_95d88 27 = .ok (.lushr, 1) := by decide +kernel
theorem dJ13_bitCount_95d88_28 : decode cJ13_bitCount_95d88 28 = .ok (.ladd, 1) := by decide +kernel
theorem dJ13_bitCount_95d88_29 : decode cJ13_bitCount_95d88 29 = .ok (.ldc2_w 318, 3) := by decide +kernel
theorem dJ13_bitCount_95d88_32 : decode cJ13_bitCount_95d88 32 = .ok (.land, 1) := by decide +kernel
theorem dJ13_bitCount_95d88_33 : decode cJ13_bitCount_95d88 33 = .ok (.lstore_n 0, 1) := by decide +kernel
theorem dJ13_bitCount_95d88_34 : decode cJ13_bitCount_95d88 34 = .ok (.lload_n 0, 1) := by decide +kernel
theorem dJ13_bitCount_95d88_35 : decode cJ13_bitCount_95d88 35 = .ok (.lload_n 0, 1) := by decide +kernel
theorem dJ13_bitCount_95d88_36 : decode cJ13_bitCount_95d88 36 = .ok (.bipush 8, 2) := by decide +kernel
theorem dJ13_bitCount_95d88_38 : decode cJ13_bitCount_95d88 38 = .ok (.lushr, 1) := by decide +kernel
theorem dJ13_bitCount_95d88_39 : decode cJ13_bitCount_95d88 39 = .ok (.ladd, 1) := by decide +kernel
theorem dJ13_bitCount_95d88_40 : decode cJ13_bitCount_95d88 40 = .ok (.lstore_n 0, 1) := by decide +kernel
theorem dJ13_bitCount_95d88_41 : decode cJ13_bitCount_95d88 41 = .ok (.lload_n 0, 1) := by decide +kernel
theorem dJ13_bitCount_95d88_42 : decode cJ13_bitCount_95d88 42 = .ok (.lload_n 0, 1) := by decide +kernel
theorem dJ13_bitCount_95d88_43 : decode cJ13_bitCount_95d88 43 = .ok (.bipush 16, 2) := by decide +kernel
theorem dJ13_bitCount_95d88_45 : decode cJ13_bitCount_95d88 45 = .ok (.lushr, 1) := by decide +kernel
theorem dJ13_bitCount_95d88_46 : decode cJ13_bitCount_95d88 46 = .ok (.ladd, 1) := by decide +kernel
theorem dJ13_bitCount_95d88_47 : decode cJ13_bitCount_95d88 47 = .ok (.lstore_n 0, 1) := by decide +kernel
theorem dJ13_bitCount_95d88_48 : decode cJ13_bitCount_95d88 48 = .ok (.lload_n 0, 1) := by decide +kernel
theorem dJ13_bitCount_95d88_49 : decode cJ13_bitCount_95d88 49 = .ok (.lload_n 0, 1) := by decide +kernel
theorem dJ13_bitCount_95d88_50 : decode cJ13_bitCount_95d88 50 = .ok (.bipush 32, 2) := by decide +kernel
theorem dJ13_bitCount_95d88_52 : decode cJ13_bitCount_95d88 52 = .ok (.lushr, 1) := by decide +kernel
theorem dJ13_bitCount_95d88_53 : decode cJ13_bitCount_95d88 53 = .ok (.ladd, 1) := by decide +kernel
theorem dJ13_bitCount_95d88_54 : decode cJ13_bitCount_95d88 54 = .ok (.lstore_n 0, 1) := by decide +kernel
theorem dJ13_bitCount_95d88_55 : decode cJ13_bitCount_95d88 55 = .ok (.lload_n 0, 1) := by decide +kernel
theorem dJ13_bitCount_95d88_56 : decode cJ13_bitCount_95d88 56 = .ok (.l2i, 1) := by decide +kernel
theorem dJ13_bitCount_95d88_57 : decode cJ13_bitCount_95d88 57 = .ok (.bipush 127, 2) := by decide +kernel
theorem dJ13_bitCount_95d88_59 : decode cJ13_bitCount_95d88 59 = .ok (.iand, 1) := by decide +kernel
theorem dJ13_bitCount_95d88_60 : decode cJ13_bitCount_95d88 60 = .ok (.ireturn, 1) := by decide +kernel
theorem dJ9_abs_0f7a4_0 : decode cJ9_abs_0f7a4 0 = .ok (.iload_n 0, 1) := by decide +kernel
theorem dJ9_abs_0f7a4_1 : decode cJ9_abs_0f7a4 1 = .ok (.ifCond .ge 8, 3) := by decide +kernel
theorem dJ9_abs_0f7a4_4 : decode cJ9_abs_0f7a4 4 = .ok (.iload_n 0, 1) := by decide +kernel
theorem dJ9_abs_0f7a4_5 : decode cJ9_abs_0f7a4 5 = .ok (.ineg, 1) := by decide +kernel
theorem dJ9_abs_0f7a4_6 : decode cJ9_abs_0f7a4 6 = .ok (.goto 4, 3) := by decide +kernel
theorem dJ9_abs_0f7a4_9 : decode cJ9_abs_0f7a4 9 = .ok (.iload_n 0, 1) := by decide +kernel
theorem dJ9_abs_0f7a4_10 : decode cJ9_abs_0f7a4 10 = .ok (.ireturn, 1) := by decide +kernel
theorem dJ9_max_7cf53_0 : decode cJ9_max_7cf53 0 = .ok (.iload_n 0, 1) := by decide +kernel
theorem dJ9_max_7cf53_1 : decode cJ9_max_7cf53 1 = .ok (.iload_n 1, 1) := by decide +kernel
theorem dJ9_max_7cf53_2 : decode cJ9_max_7cf53 2 = .ok (.if_icmp .lt 7, 3) := by decide +kernel
theorem dJ9_max_7cf53_5 : decode cJ9_max_7cf53 5 = .ok (.iload_n 0, 1) := by decide +kernel
theorem dJ9_max_7cf53_6 : decode cJ9_max_7cf53 6 = .ok (.goto 4, 3) := by decide +kernel
theorem dJ9_max_7cf53_9 : decode cJ9_max_7cf53 9 = .ok (.iload_n 1, 1) := by decide +kernel
theorem dJ9_max_7cf53_10 : decode cJ9_max_7cf53 10 = .ok (.ireturn, 1) := by decide +kernel
theorem dJ9_min_7cf53_0 : decode cJ9_min_7cf53 0 = .ok (.iload_n 0, 1) := by decide +kernel
theorem dJ9_min_7cf53_1 : decode cJ9_min_7cf53 1 = .ok (.iload_n 1, 1) := by decide +kernel
theorem dJ9_min_7cf53_2 : decode cJ9_min_7cf53 2 = .ok (.if_icmp .gt 7, 3) := by decide +kernel
theorem dJ9_min_7cf53_5 : decode cJ9_min_7cf53 5 = .ok (.iload_n 0, 1) := by decide +kernel
theorem dJ9_min_7cf53_6 : decode cJ9_min_7cf53 6 = .ok (.goto 4, 3) := by decide +kernel
theorem dJ9_min_7cf53_9 : decode cJ9_min_7cf53 9 = .ok (.iload_n 1, 1) := by decide +kernel
theorem dJ9_min_7cf53_10 : decode cJ9_min_7cf53 10 = .ok (.ireturn, 1) := by decide +kernel
theorem dJ0_length_8abf5_0 : decode cJ0_length_8abf5 0 = .ok (.aload_n 0, 1) := by decide +kernel
theorem dJ0_length_8abf5_1 : decode cJ0_length_8abf5 1 = .ok (.getfield 9, 3) := by decide +kernel
theorem dJ0_length_8abf5_4 : decode cJ0_length_8abf5 4 = .ok (.arraylength, 1) := by decide +kernel
theorem dJ0_length_8abf5_5 : decode cJ0_length_8abf5 5 = .ok (.aload_n 0, 1) := by decide +kernel
theorem dJ0_length_8abf5_6 : decode cJ0_length_8abf5 6 = .ok (.invokevirtual 335, 3) := by decide +kernel
theorem dJ0_length_8abf5_9 : decode cJ0_length_8abf5 9 = .ok (.ishr, 1) := by decide +kernel
theorem dJ0_length_8abf5_10 : decode cJ0_length_8abf5 10 = .ok (.ireturn, 1) := by decide +kernel
theorem dJ0_toCharArray_70df3_0 : decode cJ0_toCharArray_70df3 0 = .ok (.aload_n 0, 1) := by decide +kernel
theorem dJ0_toCharArray_70df3_1 : decode cJ0_toCharArray_70df3 1 = .ok (.invokevirtual 492, 3) := by decide +kernel
theorem dJ0_toCharArray_70df3_4 : decode cJ0_toCharArray_70df3 4 = .ok (.ifCond .eq 13, 3) := by decide +kernel
theorem dJ0_toCharArray_70df3_7 : decode cJ0_toCharArray_70df3 7 = .ok (.aload_n 0, 1) := by decide +kernel
theorem dJ0_toCharArray_70df3_8 : decode cJ0_toCharArray_70df3 8 = .ok (.getfield 9, 3) := by decide +kernel
theorem dJ0_toCharArray_70df3_11 : decode cJ0_toCharArray_70df3 11 = .ok (.invokestatic 299, 3) := by decide +kernel
theorem dJ0_toCharArray_70df3_14 : decode cJ0_toCharArray_70df3 14 = .ok (.goto 10, 3) := by decide +kernel
theorem dJ0_toCharArray_70df3_17 : decode cJ0_toCharArray_70df3 17 = .ok (.aload_n 0, 1) := by decide +kernel
theorem dJ0_toCharArray_70df3_18 : decode cJ0_toCharArray_70df3 18 = .ok (.getfield 9, 3) := by decide +kernel
theorem dJ0_toCharArray_70df3_21 : decode cJ0_toCharArray_70df3 21 = .ok (.invokestatic 303, 3) := by decide +kernel
theorem dJ0_toCharArray_70df3_24 : decode cJ0_toCharArray_70df3 24 = .ok (.areturn, 1) := by decide +kernel
theorem dJ0_coder_7d493_0 : decode cJ0_coder_7d493 0 = .ok (.getstatic 38, 3) := by decide +kernel
theorem dJ0_coder_7d493_3 : decode cJ0_coder_7d493 3 = .ok (.ifCond .eq 10, 3) := by decide +kernel
theorem dJ0_coder_7d493_6 : decode cJ0_coder_7d493 6 = .ok (.aload_n 0, 1) := by decide +kernel
theorem dJ0_coder_7d493_7 : decode cJ0_coder_7d493 7 = .ok (.getfield 15, 3) := by decide +kernel
theorem dJ0_coder_7d493_10 : decode cJ0_coder_7d493 10 = .ok (.goto 4, 3) := by decide +kernel
theorem dJ0_coder_7d493_13 : decode cJ0_coder_7d493 13 = .ok (.iconst 1, 1) := by decide +kernel
theorem dJ0_coder_7d493_14 : decode cJ0_coder_7d493 14 = .ok (.ireturn, 1) := by decide +kernel
theorem dJ0_isLatin1_aae02_0 : decode cJ0_isLatin1_aae02 0 = .ok (.getstatic 38, 3) := by decide +kernel
theorem dJ0_isLatin1_aae02_3 : decode cJ0_isLatin1_aae02 3 = .ok (.ifCond .eq 14, 3) := by decide +kernel
theorem dJ0_isLatin1_aae02_6 : decode cJ0_isLatin1_aae02 6 = .ok (.aload_n 0, 1) := by decide +kernel
theorem dJ0_isLatin1_aae02_7 : decode cJ0_isLatin1_aae02 7 = .ok (.getfield 15, 3) := by decide +kernel
theorem dJ0_isLatin1_aae02_10 : decode cJ0_isLatin1_aae02 10 = .ok (.ifCond .ne 7, 3) := by decide +kernel
theorem dJ0_isLatin1_aae02_13 : decode cJ0_isLatin1_aae02 13 = .ok (.iconst 1, 1) := by decide +kernel
theorem dJ0_isLatin1_aae02_14 : decode cJ0_isLatin1_aae02 14 = .ok (.goto 4, 3) := by decide +kernel
theorem dJ0_isLatin1_aae02_17 : decode cJ0_isLatin1_aae02 17 = .ok (.iconst 0, 1) := by decide +kernel
theorem dJ0_isLatin1_aae02_18 : decode cJ0_isLatin1_aae02 18 = .ok (.ireturn, 1) := by decide +kernel
theorem dJ0_checkBoundsOffCount_cabcc_0 : decode cJ0_checkBoundsOffCount_cabcc 0 = .ok (.iload_n 0, 1) := by decide +kernel
theorem dJ0_checkBoundsOffCount_cabcc_1 : decode cJ0_checkBoundsOffCount_cabcc 1 = .ok (.iload_n 1, 1) := by decide +kernel
theorem dJ0_checkBoundsOffCount_cabcc_2 : decode cJ0_checkBoundsOffCount_cabcc 2 = .ok (.iload_n 2, 1) := by decide +kernel
theorem dJ0_checkBoundsOffCount_cabcc_3 : decode cJ0_checkBoundsOffCount_cabcc 3 = .ok (.getstatic 1053, 3) := by decide +kernel
theorem dJ0_checkBoundsOffCount_cabcc_6 : decode cJ0_checkBoundsOffCount_cabcc 6 = .ok (.invokestatic 1065, 3) := by decide +kernel
theorem dJ0_checkBoundsOffCount_cabcc_9 : decode cJ0_checkBoundsOffCount_cabcc 9 = .ok (.ireturn, 1) := by decide +kernel
theorem dJ1_toChars_9d188_0 : decode cJ1_toChars_9d188 0 = .ok (.aload_n 0, 1) := by decide +kernel
theorem dJ1_toChars_9d188_1 : decode cJ1_toChars_9d188 1 = .ok (.arraylength, 1) := by decide +kernel
theorem dJ1_toChars_9d188_2 : decode cJ1_toChars_9d188 2 = .ok (.newarray .char, 2) := by decide +kernel
theorem dJ1_toChars_9d188_4 : decode cJ1_toChars_9d188 4 = .ok (.astore_n 1, 1) := by decide +kernel
theorem dJ1_toChars_9d188_5 : decode cJ1_toChars_9d188 5 = .ok (.aload_n 0, 1) := by decide +kernel
theorem dJ1_toChars_9d188_6 : decode cJ1_toChars_9d188 6 = .ok (.iconst 0, 1) := by decide +kernel
theorem dJ1_toChars_9d188_7 : decode cJ1_toChars_9d188 7 = .ok (.aload_n 1, 1) := by decide +kernel
theorem dJ1_toChars_9d188_8 : decode cJ1_toChars_9d188 8 = .ok (.iconst 0, 1) := by decide +kernel
theorem dJ1_toChars_9d188_9 : decode cJ1_toChars_9d188 9 = .ok (.aload_n 0, 1) := by decide +kernel
theorem dJ1_toChars_9d188_10 : decode cJ1_toChars_9d188 10 = .ok (.arraylength, 1) := by decide +kernel
theorem dJ1_toChars_9d188_11 : decode cJ1_toChars_9d188 11 = .ok (.invokestatic 13, 3) := by decide +kernel
theorem dJ1_toChars_9d188_14 : decode cJ1_toChars_9d188 14 = .ok (.aload_n 1, 1) := by decide +kernel
theorem dJ1_toChars_9d188_15 : decode cJ1_toChars_9d188 15 = .ok (.areturn, 1) := by decide +kernel
theorem dJ1_inflate_03870_0 : decode cJ1_inflate_03870 0 = .ok (.iconst 0, 1) := by decide +kernel
theorem dJ1_inflate_03870_1 : decode cJ1_inflate_03870 1 = .ok (.istore 5, 2) := by decide +kernel
theorem dJ1_inflate_03870_3 : decode cJ1_inflate_03870 3 = .ok (.iload 5, 2) := by decide +kernel
theorem dJ1_inflate_03870_5 : decode cJ1_inflate_03870 5 = .ok (.iload 4, 2) := by decide +kernel
theorem dJ1_inflate_03870_7 : decode cJ1_inflate_03870 7 = .ok (.if_icmp .ge 26, 3) := by decide +kernel
theorem dJ1_inflate_03870_10 : decode cJ1_inflate_03870 10 = .ok (.aload_n 2, 1) := by decide +kernel
theorem dJ1_inflate_03870_11 : decode cJ1_inflate_03870 11 = .ok (.iload_n 3, 1) := by decide +kernel
theorem dJ1_inflate_03870_12 : decode cJ1_inflate_03870 12 = .ok (.iinc 3 1, 3) := by decide +kernel
theorem dJ1_inflate_03870_15 : decode cJ1_inflate_03870 15 = .ok (.aload_n 0, 1) := by decide +kernel
theorem dJ1_inflate_03870_16 : decode cJ1_inflate_03870 16 = .ok (.iload_n 1, 1) := by decide +kernel
theorem dJ1_inflate_03870_17 : decode cJ1_inflate_03870 17 = .ok (.iinc 1 1, 3) := by decide +kernel
theorem dJ1_inflate_03870_20 : decode cJ1_inflate_03870 20 = .ok (.baload, 1) := by decide +kernel
theorem dJ1_inflate_03870_21 : decode cJ1_inflate_03870 21 = .ok (.sipush 255, 3) := by decide +kernel
theorem dJ1_inflate_03870_24 : decode cJ1_inflate_03870 24 = .ok (.iand, 1) := by decide +kernel
theorem dJ1_inflate_03870_25 : decode cJ1_inflate_03870 25 = .ok (.i2c, 1) := by decide +kernel
theorem dJ1_inflate_03870_26 : decode cJ1_inflate_03870 26 = .ok (.castore, 1) := by decide +kernel
theorem dJ1_inflate_03870_27 : decode cJ1_inflate_03870 27 = .ok (.iinc 5 1, 3) := by decide +kernel
theorem dJ1_inflate_03870_30 : decode cJ1_inflate_03870 30 = .ok (.goto (-27), 3) := by decide +kernel
theorem dJ1_inflate_03870_33 : decode cJ1_inflate_03870 33 = .ok (.return_, 1) := by decide +kernel
theorem dJ2_getChar_3b067_0 : decode cJ2_getChar_3b067 0 = .ok (.getstatic 44, 3) := by decide +kernel
theorem dJ2_getChar_3b067_3 : decode cJ2_getChar_3b067 3 = .ok (.ifCond .ne 25, 3) := by decide +kernel
theorem dJ2_getChar_3b067_6 : decode cJ2_getChar_3b067 6 = .ok (.iload_n 1, 1) := by decide +kernel
theorem dJ2_getChar_3b067_7 : decode cJ2_getChar_3b067 7 = .ok (.ifCond .lt 11, 3) := by decide +kernel
theorem dJ2_getChar_3b067_10 : decode cJ2_getChar_3b067 10 = .ok (.iload_n 1, 1) := by decide +kernel
theorem dJ2_getChar_3b067_11 : decode cJ2_getChar_3b067 11 = .ok (.aload_n 0, 1) := by decide +kernel
theorem dJ2_getChar_3b067_12 : decode cJ2_getChar_3b067 12 = .ok (.invokestatic 48, 3) := by decide +kernel
theorem dJ2_getChar_3b067_15 : decode cJ2_getChar_3b067 15 = .ok (.if_icmp .lt 13, 3) := by decide +kernel
theorem dJ2_getChar_3b067_18 : decode cJ2_getChar_3b067 18 = .ok (.new 52, 3) := by decide +kernel
theorem dJ2_getChar_3b067_21 : decode cJ2_getChar_3b067 21 = .ok (.dup, 1) := by decide +kernel
theorem dJ2_getChar_3b067_22 : decode cJ2_getChar_3b067 22 = .ok (.ldc 54, 2) := by decide +kernel
theorem dJ2_getChar_3b067_24 : decode cJ2_getChar_3b067 24 = .ok (.invokespecial 56, 3) := by decide +kernel
theorem dJ2_getChar_3b067_27 : decode cJ2_getChar_3b067 27 = .ok (.athrow, 1) := by decide +kernel
theorem dJ2_getChar_3b067_28 : decode cJ2_getChar_3b067 28 = .ok (.iload_n 1, 1) := by decide +kernel
theorem dJ2_getChar_3b067_29 : decode cJ2_getChar_3b067 29 = .ok (.iconst 1, 1) := by decide +kernel
theorem dJ2_getChar_3b067_30 : decode cJ2_getChar_3b067 30 = .ok (.ishl, 1) := by decide +kernel
theorem dJ2_getChar_3b067_31 : decode cJ2_getChar_3b067 31 = .ok (.istore_n 1, 1) := by decide +kernel
theorem dJ2_getChar_3b067_32 : decode cJ2_getChar_3b067 32 = .ok (.aload_n 0, 1) := by decide +kernel
theorem dJ2_getChar_3b067_33 : decode cJ2_getChar_3b067 33 = .ok (.iload_n 1, 1) := by decide +kernel
theorem dJ2_getChar_3b067_34 : decode cJ2_getChar_3b067 34 = .ok (.iinc 1 1, 3) := by decide +kernel
theorem dJ2_getChar_3b067_37 : decode cJ2_getChar_3b067 37 = .ok (.baload, 1) := by decide +kernel
theorem dJ2_getChar_3b067_38 : decode cJ2_getChar_3b067 38 = .ok (.sipush 255, 3) := by decide +kernel
theorem dJ2_getChar_3b067_41 : decode cJ2_getChar_3b067 41 = .ok (.iand, 1) := by decide +kernel
theorem dJ2_getChar_3b067_42 : decode cJ2_getChar_3b067 42 = .ok (.getstatic 59, 3) := by decide +kernel
theorem dJ2_getChar_3b067_45 : decode cJ2_getChar_3b067 45 = .ok (.ishl, 1) := by decide +kernel
theorem dJ2_getChar_3b067_46 : decode cJ2_getChar_3b067 46 = .ok (.aload_n 0, 1) := by decide +kernel
theorem dJ2_getChar_3b067_47 : decode cJ2_getChar_3b067 47 = .ok (.iload_n 1, 1) := by decide +kernel
theorem dJ2_getChar_3b067_48 : decode cJ2_getChar_3b067 48 = .ok (.baload, 1) := by decide +kernel
theorem dJ2_getChar_3b067_49 : decode cJ2_getChar_3b067 49 = .ok (.sipush 255, 3) := by decide +kernel
theorem dJ2_getChar_3b067_52 : decode cJ2_getChar_3b067 52 = .ok (.iand, 1) := by decide +kernel
theorem dJ2_getChar_3b067_53 : decode cJ2_getChar_3b067 53 = .ok (.getstatic 63, 3) := by decide +kernel
theorem dJ2_getChar_3b067_56 : decode cJ2_getChar_3b067 56 = .ok (.ishl, 1) := by decide +kernel
theorem dJ2_getChar_3b067_57 : decode cJ2_getChar_3b067 57 = .ok (.ior, 1) := by decide +kernel
theorem dJ2_getChar_3b067_58 : decode cJ2_getChar_3b067 58 = .ok (.i2c, 1) := by decide +kernel
theorem dJ2_getChar_3b067_59 : decode cJ2_getChar_3b067 59 = .ok (.ireturn, 1) := by decide +kernel
theorem dJ2_length_9d52b_0 : decode cJ2_length_9d52b 0 = .ok (.aload_n 0, 1) := by decide +kernel
theorem dJ2_length_9d52b_1 : decode cJ2_length_9d52b 1 = .ok (.arraylength, 1) := by decide +kernel
theorem dJ2_length_9d52b_2 : decode cJ2_length_9d52b 2 = .ok (.iconst 1, 1) := by decide +kernel
theorem dJ2_length_9d52b_3 : decode cJ2_length_9d52b 3 = .ok (.ishr, 1) := by decide +kernel
theorem dJ2_length_9d52b_4 : decode cJ2_length_9d52b 4 = .ok (.ireturn, 1) := by decide +kernel
theorem dJ2_toChars_9d188_0 : decode cJ2_toChars_9d188 0 = .ok (.aload_n 0, 1) := by decide +kernel
theorem dJ2_toChars_9d188_1 : decode cJ2_toChars_9d188 1 = .ok (.arraylength, 1) := by decide +kernel
theorem dJ2_toChars_9d188_2 : decode cJ2_toChars_9d188 2 = .ok (.iconst 1, 1) := by decide +kernel
theorem dJ2_toChars_9d188_3 : decode cJ2_toChars_9d188 3 = .ok (.ishr, 1) := by decide +kernel
theorem dJ2_toChars_9d188_4 : decode cJ2_toChars_9d188 4 = .ok (.newarray .char, 2) := by decide +kernel
theorem dJ2_toChars_9d188_6 : decode cJ2_toChars_9d188 6 = .ok (.astore_n 1, 1) := by decide +kernel
theorem dJ2_toChars_9d188_7 : decode cJ2_toChars_9d188 7 = .ok (.aload_n 0, 1) := by decide +kernel
theorem dJ2_toChars_9d188_8 : decode cJ2_toChars_9d188 8 = .ok (.iconst 0, 1) := by decide +kernel
theorem dJ2_toChars_9d188_9 : decode cJ2_toChars_9d188 9 = .ok (.aload_n 1, 1) := by decide +kernel
theorem dJ2_toChars_9d188_10 : decode cJ2_toChars_9d188 10 = .ok (.arraylength, 1) := by decide +kernel
theorem dJ2_toChars_9d188_11 : decode cJ2_toChars_9d188 11 = .ok (.aload_n 1, 1) := by decide +kernel
theorem dJ2_toChars_9d188_12 : decode cJ2_toChars_9d188 12 = .ok (.iconst 0, 1) := by decide +kernel
theorem dJ2_toChars_9d188_13 : decode cJ2_toChars_9d188 13 = .ok (.invokestatic 103, 3) := by decide +kernel
theorem dJ2_toChars_9d188_16 : decode cJ2_toChars_9d188 16 = .ok (.aload_n 1, 1) := by decide +kernel
theorem dJ2_toChars_9d188_17 : decode cJ2_toChars_9d188 17 = .ok (.areturn, 1) := by decide +kernel
theorem dJ2_getChars_a1a8b_0 : decode cJ2_getChars_a1a8b 0 = .ok (.iload_n 1, 1) := by decide +kernel
theorem dJ2_getChars_a1a8b_1 : decode cJ2_getChars_a1a8b 1 = .ok (.iload_n 2, 1) := by decide +kernel
theorem dJ2_getChars_a1a8b_2 : decode cJ2_getChars_a1a8b 2 = .ok (.if_icmp .ge 11, 3) := by decide +kernel
theorem dJ2_getChars_a1a8b_5 : decode cJ2_getChars_a1a8b 5 = .ok (.iload_n 1, 1) := by decide +kernel
theorem dJ2_getChars_a1a8b_6 : decode cJ2_getChars_a1a8b 6 = .ok (.iload_n 2, 1) := by decide +kernel
theorem dJ2_getChars_a1a8b_7 : decode cJ2_getChars_a1a8b 7 = .ok (.iload_n 1, 1) := by decide +kernel
theorem dJ2_getChars_a1a8b_8 : decode cJ2_getChars_a1a8b 8 = .ok (.isub, 1) := by decide +kernel
theorem dJ2_getChars_a1a8b_9 : decode cJ2_getChars_a1a8b 9 = .ok (.aload_n 0, 1) := by decide +kernel
theorem dJ2_getChars_a1a8b_10 : decode cJ2_getChars_a1a8b 10 = .ok (.invokestatic 173, 3) := by decide +kernel
theorem dJ2_getChars_a1a8b_13 : decode cJ2_getChars_a1a8b 13 = .ok (.iload_n 1, 1) := by decide +kernel
theorem dJ2_getChars_a1a8b_14 : decode cJ2_getChars_a1a8b 14 = .ok (.istore 5, 2) := by decide +kernel
theorem dJ2_getChars_a1a8b_16 : decode cJ2_getChars_a1a8b 16 = .ok (.iload 5, 2) := by decide +kernel
theorem dJ2_getChars_a1a8b_18 : decode cJ2_getChars_a1a8b 18 = .ok (.iload_n 2, 1) := by decide +kernel
theorem dJ2_getChars_a1a8b_19 : decode cJ2_getChars_a1a8b 19 = .ok (.if_icmp .ge 22, 3) := by decide +kernel
theorem dJ2_getChars_a1a8b_22 : decode cJ2_getChars_a1a8b 22 = .ok (.aload_n 3, 1) := by decide +kernel
theorem dJ2_getChars_a1a8b_23 : decode cJ2_getChars_a1a8b 23 = .ok (.iload 4, 2) := by decide +kernel
theorem dJ2_getChars_a1a8b_25 : decode cJ2_getChars_a1a8b 25 = .ok (.iinc 4 1, 3) := by decide +kernel
theorem dJ2_getChars_a1a8b_28 : decode cJ2_getChars_a1a8b 28 = .ok (.aload_n 0, 1) := by decide +kernel
theorem dJ2_getChars_a1a8b_29 : decode cJ2_getChars_a1a8b 29 = .ok (.iload 5, 2) := by decide +kernel
theorem dJ2_getChars_a1a8b_31 : decode cJ2_getChars_a1a8b 31 = .ok (.invokestatic 71, 3) := by decide +kernel
theorem dJ2_getChars_a1a8b_34 : decode cJ2_getChars_a1a8b 34 = .ok (.castore, 1) := by decide +kernel
theorem dJ2_getChars_a1a8b_35 : decode cJ2_getChars_a1a8b 35 = .ok (.iinc 5 1, 3) := by decide +kernel
theorem dJ2_getChars_a1a8b_38 : decode cJ2_getChars_a1a8b 38 = .ok (.goto (-22), 3) := by decide +kernel
theorem dJ2_getChars_a1a8b_41 : decode cJ2_getChars_a1a8b 41 = .ok (.return_, 1) := by decide +kernel
theorem dJ2_checkBoundsOffCount_d044e_0 : decode cJ2_checkBoundsOffCount_d044e 0 = .ok (.iload_n 0, 1) := by decide +kernel
theorem dJ2_checkBoundsOffCount_d044e_1 : decode cJ2_checkBoundsOffCount_d044e 1 = .ok (.iload_n 1, 1) := by decide +kernel
theorem dJ2_checkBoundsOffCount_d044e_2 : decode cJ2_checkBoundsOffCount_d044e 2 = .ok (.aload_n 2, 1) := by decide +kernel
theorem dJ2_checkBoundsOffCount_d044e_3 : decode cJ2_checkBoundsOffCount_d044e 3 = .ok (.invokestatic 48, 3) := by decide +kernel
theorem dJ2_checkBoundsOffCount_d044e_6 : decode cJ2_checkBoundsOffCount_d044e 6 = .ok (.invokestatic 419, 3) := by decide +kernel
theorem dJ2_checkBoundsOffCount_d044e_9 : decode cJ2_checkBoundsOffCount_d044e 9 = .ok (.pop, 1) := by decide +kernel
theorem dJ2_checkBoundsOffCount_d044e_10 : decode cJ2_checkBoundsOffCount_d044e 10 = .ok (.return_, 1) := by decide +kernel
theorem dJ3_checkFromIndexSize_8c36e_0 : decode cJ3_checkFromIndexSize_8c36e 0 = .ok (.iload_n 2, 1) := by decide +kernel
theorem dJ3_checkFromIndexSize_8c36e_1 : decode cJ3_checkFromIndexSize_8c36e 1 = .ok (.iload_n 0, 1) := by decide +kernel
theorem dJ3_checkFromIndexSize_8c36e_2 : decode cJ3_checkFromIndexSize_8c36e 2 = .ok (.ior, 1) := by decide +kernel
theorem dJ3_checkFromIndexSize_8c36e_3 : decode cJ3_checkFromIndexSize_8c36e 3 = .ok (.iload_n 1, 1) := by decide +kernel
theorem dJ3_checkFromIndexSize_8c36e_4 : decode cJ3_checkFromIndexSize_8c36e 4 = .ok (.ior, 1) := by decide +kernel
theorem dJ3_checkFromIndexSize_8c36e_5 : decode cJ3_checkFromIndexSize_8c36e 5 = .ok (.ifCond .lt 10, 3) := by decide +kernel
theorem dJ3_checkFromIndexSize_8c36e_8 : decode cJ3_checkFromIndexSize_8c36e 8 = .ok (.iload_n 1, 1) := by decide +kernel
theorem dJ3_checkFromIndexSize_8c36e_9 : decode cJ3_checkFromIndexSize_8c36e 9 = .ok (.iload_n 2, 1) := by decide +kernel
theorem dJ3_checkFromIndexSize_8c36e_10 : decode cJ3_checkFromIndexSize_8c36e 10 = .ok (.iload_n 0, 1) := by decide +kernel
theorem dJ3_checkFromIndexSize_8c36e_11 : decode cJ3_checkFromIndexSize_8c36e 11 = .ok (.isub, 1) := by decide +kernel
theorem dJ3_checkFromIndexSize_8c36e_12 : decode cJ3_checkFromIndexSize_8c36e 12 = .ok (.if_icmp .le 11, 3) := by decide +kernel
theorem dJ3_checkFromIndexSize_8c36e_15 : decode cJ3_checkFromIndexSize_8c36e 15 = .ok (.aload_n 3, 1) := by decide +kernel
theorem dJ3_checkFromIndexSize_8c36e_16 : decode cJ3_checkFromIndexSize_8c36e 16 = .ok (.iload_n 0, 1) := by decide +kernel
theorem dJ3_checkFromIndexSize_8c36e_17 : decode cJ3_checkFromIndexSize_8c36e 17 = .ok (.iload_n 1, 1) := by decide +kernel
theorem dJ3_checkFromIndexSize_8c36e_18 : decode cJ3_checkFromIndexSize_8c36e 18 = .ok (.iload_n 2, 1) := by decide +kernel
theorem dJ3_checkFromIndexSize_8c36e_19 : decode cJ3_checkFromIndexSize_8c36e 19 = .ok (.invokestatic 103, 3) := by decide +kernel
theorem dJ3_checkFromIndexSize_8c36e_22 : decode cJ3_checkFromIndexSize_8c36e 22 = .ok (.athrow, 1) := by decide +kernel
theorem dJ3_checkFromIndexSize_8c36e_23 : decode cJ3_checkFromIndexSize_8c36e 23 = .ok (.iload_n 0, 1) := by decide +kernel
theorem dJ3_checkFromIndexSize_8c36e_24 : decode cJ3_checkFromIndexSize_8c36e 24 = .ok (.ireturn, 1) := by decide +kernel
