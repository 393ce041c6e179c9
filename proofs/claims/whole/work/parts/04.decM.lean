theorem dX8_init_0 : decode cX8_init 0 = .ok (.aload_n 0, 1) := by decide +kernel
theorem dX8_init_1 : decode cX8_init 1 = .ok (.invokespecial 3, 3) := by decide +kernel
theorem dX8_init_4 : decode cX8_init 4 = .ok (.aload_n 0, 1) := by decide +kernel
theorem dX8_init_5 : decode cX8_init 5 = .ok (.iconst 5, 1) := by decide +kernel
theorem dX8_init_6 : decode cX8_init 6 = .ok (.putfield 9, 3) := by decide +kernel
theorem dX8_init_9 : decode cX8_init 9 = .ok (.aload_n 0, 1) := by decide +kernel
theorem dX8_init_10 : decode cX8_init 10 = .ok (.iconst 5, 1) := by decide +kernel
theorem dX8_init_11 : decode cX8_init 11 = .ok (.putfield 13, 3) := by decide +kernel
theorem dX8_init_14 : decode cX8_init 14 = .ok (.aload_n 0, 1) := by decide +kernel
theorem dX8_init_15 : decode cX8_init 15 = .ok (.iconst 2, 1) := by decide +kernel
theorem dX8_init_16 : decode cX8_init 16 = .ok (.newarray .int, 2) := by decide +kernel
theorem dX8_init_18 : decode cX8_init 18 = .ok (.putfield 16, 3) := by decide +kernel
theorem dX8_init_21 : decode cX8_init 21 = .ok (.aload_n 0, 1) := by decide +kernel
theorem dX8_init_22 : decode cX8_init 22 = .ok (.sipush 155, 3) := by decide +kernel
theorem dX8_init_25 : decode cX8_init 25 = .ok (.newarray .int, 2) := by decide +kernel
theorem dX8_init_27 : decode cX8_init 27 = .ok (.putfield 20, 3) := by decide +kernel
theorem dX8_init_30 : decode cX8_init 30 = .ok (.aload_n 0, 1) := by decide +kernel
theorem dX8_init_31 : decode cX8_init 31 = .ok (.sipush 155, 3) := by decide +kernel
theorem dX8_init_34 : decode cX8_init 34 = .ok (.newarray .int, 2) := by decide +kernel
theorem dX8_init_36 : decode cX8_init 36 = .ok (.putfield 23, 3) := by decide +kernel
theorem dX8_init_39 : decode cX8_init 39 = .ok (.aload_n 0, 1) := by decide +kernel
theorem dX8_init_40 : decode cX8_init 40 = .ok (.sipush 155, 3) := by decide +kernel
theorem dX8_init_43 : decode cX8_init 43 = .ok (.newarray .int, 2) := by decide +kernel
theorem dX8_init_45 : decode cX8_init 45 = .ok (.putfield 26, 3) := by decide +kernel
theorem dX8_init_48 : decode cX8_init 48 = .ok (.aload_n 0, 1) := by decide +kernel
theorem dX8_init_49 : decode cX8_init 49 = .ok (.sipush 9300, 3) := by decide +kernel
theorem dX8_init_52 : decode cX8_init 52 = .ok (.newarray .int, 2) := by decide +kernel
theorem dX8_init_54 : decode cX8_init 54 = .ok (.putfield 29, 3) := by decide +kernel
theorem dX8_init_57 : decode cX8_init 57 = .ok (.aload_n 0, 1) := by decide +kernel
theorem dX8_init_58 : decode cX8_init 58 = .ok (.sipush 420, 3) := by decide +kernel
theorem dX8_init_61 : decode cX8_init 61 = .ok (.newarray .int, 2) := by decide +kernel
theorem dX8_init_63 : decode cX8_init 63 = .ok (.putfield 32, 3) := by decide +kernel
theorem dX8_init_66 : decode cX8_init 66 = .ok (.aload_n 0, 1) := by decide +kernel
theorem dX8_init_67 : decode cX8_init 67 = .ok (.sipush 480, 3) := by decide +kernel
theorem dX8_init_70 : decode cX8_init 70 = .ok (.newarray .int, 2) := by decide +kernel
theorem dX8_init_72 : decode cX8_init 72 = .ok (.putfield 35, 3) := by decide +kernel
theorem dX8_init_75 : decode cX8_init 75 = .ok (.aload_n 0, 1) := by decide +kernel
theorem dX8_init_76 : decode cX8_init 76 = .ok (.sipush 155, 3) := by decide +kernel
theorem dX8_init_79 : decode cX8_init 79 = .ok (.newarray .int, 2) := by decide +kernel
theorem dX8_init_81 : decode cX8_init 81 = .ok (.putfield 38, 3) := by decide +kernel
theorem dX8_init_84 : decode cX8_init 84 = .ok (.aload_n 0, 1) := by decide +kernel
theorem dX8_init_85 : decode cX8_init 85 = .ok (.sipush 9300, 3) := by decide +kernel
theorem dX8_init_88 : decode cX8_init 88 = .ok (.newarray .int, 2) := by decide +kernel
theorem dX8_init_90 : decode cX8_init 90 = .ok (.putfield 41, 3) := by decide +kernel
theorem dX8_init_93 : decode cX8_init 93 = .ok (.aload_n 0, 1) := by decide +kernel
theorem dX8_init_94 : decode cX8_init 94 = .ok (.sipush 420, 3) := by decide +kernel
theorem dX8_init_97 : decode cX8_init 97 = .ok (.newarray .int, 2) := by decide +kernel
theorem dX8_init_99 : decode cX8_init 99 = .ok (.putfield 44, 3) := by decide +kernel
theorem dX8_init_102 : decode cX8_init 102 = .ok (.aload_n 0, 1) := by decide +kernel
theorem dX8_init_103 : decode cX8_init 103 = .ok (.sipush 480, 3) := by decide +kernel
theorem dX8_init_106 : decode cX8_init 106 = .ok (.newarray .int, 2) := by decide +kernel
theorem dX8_init_108 : decode cX8_init 108 = .ok (.putfield 47, 3) := by decide +kernel
theorem dX8_init_111 : decode cX8_init 111 = .ok (.aload_n 0, 1) := by decide +kernel
theorem dX8_init_112 : decode cX8_init 112 = .ok (.iconst 2, 1) := by decide +kernel
theorem dX8_init_113 : decode cX8_init 113 = .ok (.newarray .int, 2) := by decide +kernel
theorem dX8_init_115 : decode cX8_init 115 = .ok (.putfield 50, 3) := by decide +kernel
theorem dX8_init_118 : decode cX8_init 118 = .ok (.aload_n 0, 1) := by decide +kernel
theorem dX8_init_119 : decode cX8_init 119 = .ok (.bipush 98, 2) := by decide +kernel
theorem dX8_init_121 : decode cX8_init 121 = .ok (.newarray .int, 2) := by decide +kernel
theorem dX8_init_123 : decode cX8_init 123 = .ok (.putfield 53, 3) := by decide +kernel
theorem dX8_init_126 : decode cX8_init 126 = .ok (.aload_n 0, 1) := by decide +kernel
theorem dX8_init_127 : decode cX8_init 127 = .ok (.bipush 8, 2) := by decide +kernel
theorem dX8_init_129 : decode cX8_init 129 = .ok (.newarray .int, 2) := by decide +kernel
theorem dX8_init_131 : decode cX8_init 131 = .ok (.putfield 56, 3) := by decide +kernel
theorem dX8_init_134 : decode cX8_init 134 = .ok (.aload_n 0, 1) := by decide +kernel
theorem dX8_init_135 : decode cX8_init 135 = .ok (.iconst 4, 1) := by decide +kernel
theorem dX8_init_136 : decode cX8_init 136 = .ok (.newarray .int, 2) := by decide +kernel
theorem dX8_init_138 : decode cX8_init 138 = .ok (.putfield 59, 3) := by decide +kernel
theorem dX8_init_141 : decode cX8_init 141 = .ok (.aload_n 0, 1) := by decide +kernel
theorem dX8_init_142 : decode cX8_init 142 = .ok (.iconst 4, 1) := by decide +kernel
theorem dX8_init_143 : decode cX8_init 143 = .ok (.newarray .int, 2) := by decide +kernel
theorem dX8_init_145 : decode cX8_init 145 = .ok (.putfield 62, 3) := by decide +kernel
theorem dX8_init_148 : decode cX8_init 148 = .ok (.aload_n 0, 1) := by decide +kernel
theorem dX8_init_149 : decode cX8_init 149 = .ok (.bipush 80, 2) := by decide +kernel
theorem dX8_init_151 : decode cX8_init 151 = .ok (.newarray .char, 2) := by decide +kernel
theorem dX8_init_153 : decode cX8_init 153 = .ok (.putfield 65, 3) := by decide +kernel
theorem dX8_init_156 : decode cX8_init 156 = .ok (.aload_n 0, 1) := by decide +kernel
theorem dX8_init_157 : decode cX8_init 157 = .ok (.iconst 0, 1) := by decide +kernel
theorem dX8_init_158 : decode cX8_init 158 = .ok (.invokevirtual 69, 3) := by decide +kernel
theorem dX8_init_161 : decode cX8_init 161 = .ok (.return_, 1) := by decide +kernel
theorem dX8_thrown_0 : decode cX8_thrown 0 = .ok (.aload_n 0, 1) := by decide +kernel
theorem dX8_thrown_1 : decode cX8_thrown 1 = .ok (.getfield 73, 3) := by decide +kernel
theorem dX8_thrown_4 : decode cX8_thrown 4 = .ok (.ireturn, 1) := by decide +kernel
theorem dX8_no_0 : decode cX8_no 0 = .ok (.aload_n 0, 1) := by decide +kernel
theorem dX8_no_1 : decode cX8_no 1 = .ok (.iload_n 1, 1) := by decide +kernel
theorem dX8_no_2 : decode cX8_no 2 = .ok (.putfield 73, 3) := by decide +kernel
theorem dX8_no_5 : decode cX8_no 5 = .ok (.iconst 0, 1) := by decide +kernel
theorem dX8_no_6 : decode cX8_no 6 = .ok (.ireturn, 1) := by decide +kernel
theorem dX8_isIn_0 : decode cX8_isIn 0 = .ok (.iload_n 0, 1) := by decide +kernel
theorem dX8_isIn_1 : decode cX8_isIn 1 = .ok (.iload_n 1, 1) := by decide +kernel
theorem dX8_isIn_2 : decode cX8_isIn 2 = .ok (.if_icmp .lt 12, 3) := by decide +kernel
theorem dX8_isIn_5 : decode cX8_isIn 5 = .ok (.iload_n 0, 1) := by decide +kernel
theorem dX8_isIn_6 : decode cX8_isIn 6 = .ok (.iload_n 2, 1) := by decide +kernel
theorem dX8_isIn_7 : decode cX8_isIn 7 = .ok (.if_icmp .gt 7, 3) := by decide +kernel
theorem dX8_isIn_10 : decode cX8_isIn 10 = .ok (.iconst 1, 1) := by decide +kernel
theorem dX8_isIn_11 : decode cX8_isIn 11 = .ok (.goto 4, 3) := by decide +kernel
theorem dX8_isIn_14 : decode cX8_isIn 14 = .ok (.iconst 0, 1) := by decide +kernel
theorem dX8_isIn_15 : decode cX8_isIn 15 = .ok (.ireturn, 1) := by decide +kernel
theorem dX8_copies_0 : decode cX8_copies 0 = .ok (.iconst 0, 1) := by decide +kernel
theorem dX8_copies_1 : decode cX8_copies 1 = .ok (.istore_n 3, 1) := by decide +kernel
theorem dX8_copies_2 : decode cX8_copies 2 = .ok (.iload_n 3, 1) := by decide +kernel
theorem dX8_copies_3 : decode cX8_copies 3 = .ok (.iload_n 2, 1) := by decide +kernel
theorem dX8_copies_4 : decode cX8_copies 4 = .ok (.if_icmp .ge 15, 3) := by decide +kernel
theorem dX8_copies_7 : decode cX8_copies 7 = .ok (.aload_n 1, 1) := by decide +kernel
theorem dX8_copies_8 : decode cX8_copies 8 = .ok (.iload_n 3, 1) := by decide +kernel
theorem dX8_copies_9 : decode cX8_copies 9 = .ok (.aload_n 0, 1) := by decide +kernel
theorem dX8_copies_10 : decode cX8_copies 10 = .ok (.iload_n 3, 1) := by decide +kernel
theorem dX8_copies_11 : decode cX8_copies 11 = .ok (.iaload, 1) := by decide +kernel
theorem dX8_copies_12 : decode cX8_copies 12 = .ok (.iastore, 1) := by decide +kernel
theorem dX8_copies_13 : decode cX8_copies 13 = .ok (.iinc 3 1, 3) := by decide +kernel
theorem dX8_copies_16 : decode cX8_copies 16 = .ok (.goto (-14), 3) := by decide +kernel
theorem dX8_copies_19 : decode cX8_copies 19 = .ok (.return_, 1) := by decide +kernel
theorem dX8_cells_0 : decode cX8_cells 0 = .ok (.aload_n 0, 1) := by decide +kernel
theorem dX8_cells_1 : decode cX8_cells 1 = .ok (.getfield 9, 3) := by decide +kernel
theorem dX8_cells_4 : decode cX8_cells 4 = .ok (.aload_n 0, 1) := by decide +kernel
theorem dX8_cells_5 : decode cX8_cells 5 = .ok (.getfield 13, 3) := by decide +kernel
theorem dX8_cells_8 : decode cX8_cells 8 = .ok (.imul, 1) := by decide +kernel
theorem dX8_cells_9 : decode cX8_cells 9 = .ok (.ireturn, 1) := by decide +kernel
theorem dX8_isCell_0 : decode cX8_isCell 0 = .ok (.iload_n 1, 1) := by decide +kernel
theorem dX8_isCell_1 : decode cX8_isCell 1 = .ok (.iconst 0, 1) := by decide +kernel
theorem dX8_isCell_2 : decode cX8_isCell 2 = .ok (.aload_n 0, 1) := by decide +kernel
theorem dX8_isCell_3 : decode cX8_isCell 3 = .ok (.invokevirtual 76, 3) := by decide +kernel
theorem dX8_isCell_6 : decode cX8_isCell 6 = .ok (.iconst 1, 1) := by decide +kernel
theorem dX8_isCell_7 : decode cX8_isCell 7 = .ok (.isub, 1) := by decide +kernel
theorem dX8_isCell_8 : decode cX8_isCell 8 = .ok (.invokestatic 80, 3) := by decide +kernel
theorem dX8_isCell_11 : decode cX8_isCell 11 = .ok (.ireturn, 1) := by decide +kernel
theorem dX8_begins_0 : decode cX8_begins 0 = .ok (.iconst 0, 1) := by decide +kernel
theorem dX8_begins_1 : decode cX8_begins 1 = .ok (.istore_n 2, 1) := by decide +kernel
theorem dX8_begins_2 : decode cX8_begins 2 = .ok (.iload_n 2, 1) := by decide +kernel
theorem dX8_begins_3 : decode cX8_begins 3 = .ok (.sipush 155, 3) := by decide +kernel
theorem dX8_begins_6 : decode cX8_begins 6 = .ok (.if_icmp .ge 33, 3) := by decide +kernel
theorem dX8_begins_9 : decode cX8_begins 9 = .ok (.aload_n 0, 1) := by decide +kernel
theorem dX8_begins_10 : decode cX8_begins 10 = .ok (.getfield 20, 3) := by decide +kernel
theorem dX8_begins_13 : decode cX8_begins 13 = .ok (.iload_n 2, 1) := by decide +kernel
theorem dX8_begins_14 : decode cX8_begins 14 = .ok (.iload_n 2, 1) := by decide +kernel
theorem dX8_begins_15 : decode cX8_begins 15 = .ok (.bipush 49, 2) := by decide +kernel
theorem dX8_begins_17 : decode cX8_begins 17 = .ok (.if_icmp .lt 14, 3) := by decide +kernel
theorem dX8_begins_20 : decode cX8_begins 20 = .ok (.iload_n 2, 1) := by decide +kernel
theorem dX8_begins_21 : decode cX8_begins 21 = .ok (.sipush 147, 3) := by decide +kernel
theorem dX8_begins_24 : decode cX8_begins 24 = .ok (.if_icmp .ge 7, 3) := by decide +kernel
theorem dX8_begins_27 : decode cX8_begins 27 = .ok (.iconst (-1), 1) := by decide +kernel
theorem dX8_begins_28 : decode cX8_begins 28 = .ok (.goto 4, 3) := by decide +kernel
theorem dX8_begins_31 : decode cX8_begins 31 = .ok (.iconst 0, 1) := by decide +kernel
theorem dX8_begins_32 : decode cX8_begins 32 = .ok (.iastore, 1) := by decide +kernel
theorem dX8_begins_33 : decode cX8_begins 33 = .ok (.iinc 2 1, 3) := by decide +kernel
theorem dX8_begins_36 : decode cX8_begins 36 = .ok (.goto (-34), 3) := by decide +kernel
theorem dX8_begins_39 : decode cX8_begins 39 = .ok (.iconst 0, 1) := by decide +kernel
theorem dX8_begins_40 : decode cX8_begins 40 = .ok (.istore_n 2, 1) := by decide +kernel
theorem dX8_begins_41 : decode cX8_begins 41 = .ok (.iload_n 2, 1) := by decide +kernel
theorem dX8_begins_42 : decode cX8_begins 42 = .ok (.iload_n 1, 1) := by decide +kernel
theorem dX8_begins_43 : decode cX8_begins 43 = .ok (.if_icmp .ge 65, 3) := by decide +kernel
theorem dX8_begins_46 : decode cX8_begins 46 = .ok (.iload_n 2, 1) := by decide +kernel
theorem dX8_begins_47 : decode cX8_begins 47 = .ok (.ifCond .eq 8, 3) := by decide +kernel
theorem dX8_begins_50 : decode cX8_begins 50 = .ok (.iload_n 2, 1) := by decide +kernel
theorem dX8_begins_51 : decode cX8_begins 51 = .ok (.iconst 2, 1) := by decide +kernel
theorem dX8_begins_52 : decode cX8_begins 52 = .ok (.if_icmp .ne 7, 3) := by decide +kernel
theorem dX8_begins_55 : decode cX8_begins 55 = .ok (.iconst 1, 1) := by decide +kernel
theorem dX8_begins_56 : decode cX8_begins 56 = .ok (.goto 9, 3) := by decide +kernel
theorem dX8_begins_59 : decode cX8_begins 59 = .ok (.aload_n 0, 1) := by decide +kernel
theorem dX8_begins_60 : decode cX8_begins 60 = .ok (.getfield 13, 3) := by decide +kernel
theorem dX8_begins_63 : decode cX8_begins 63 = .ok (.iconst 2, 1) := by decide +kernel
theorem dX8_begins_64 : decode cX8_begins 64 = .ok (.isub, 1) := by decide +kernel
theorem dX8_begins_65 : decode cX8_begins 65 = .ok (.istore_n 3, 1) := by decide +kernel
theorem dX8_begins_66 : decode cX8_begins 66 = .ok (.iload_n 2, 1) := by decide +kernel
theorem dX8_begins_67 : decode cX8_begins 67 = .ok (.ifCond .eq 8, 3) := by decide +kernel
theorem dX8_begins_70 : decode cX8_begins 70 = .ok (.iload_n 2, 1) := by decide +kernel
theorem dX8_begins_71 : decode cX8_begins 71 = .ok (.iconst 3, 1) := by decide +kernel
theorem dX8_begins_72 : decode cX8_begins 72 = .ok (.if_icmp .ne 7, 3) := by decide +kernel
theorem dX8_begins_75 : decode cX8_begins 75 = .ok (.iconst 1, 1) := by decide +kernel
theorem dX8_begins_76 : decode cX8_begins 76 = .ok (.goto 9, 3) := by decide +kernel
theorem dX8_begins_79 : decode cX8_begins 79 = .ok (.aload_n 0, 1) := by decide +kernel
theorem dX8_begins_80 : decode cX8_begins 80 = .ok (.getfield 9, 3) := by decide +kernel
theorem dX8_begins_83 : decode cX8_begins 83 = .ok (.iconst 2, 1) := by decide +kernel
theorem dX8_begins_84 : decode cX8_begins 84 = .ok (.isub, 1) := by decide +kernel
theorem dX8_begins_85 : decode cX8_begins 85 = .ok (.istore 4, 2) := by decide +kernel
theorem dX8_begins_87 : decode cX8_begins 87 = .ok (.aload_n 0, 1) := by decide +kernel
theorem dX8_begins_88 : decode cX8_begins 88 = .ok (.getfield 20, 3) := by decide +kernel
theorem dX8_begins_91 : decode cX8_begins 91 = .ok (.iload_n 3, 1) := by decide +kernel
theorem dX8_begins_92 : decode cX8_begins 92 = .ok (.aload_n 0, 1) := by decide +kernel
theorem dX8_begins_93 : decode cX8_begins 93 = .ok (.getfield 9, 3) := by decide +kernel
theorem dX8_begins_96 : decode cX8_begins 96 = .ok (.imul, 1) := by decide +kernel
theorem dX8_begins_97 : decode cX8_begins 97 = .ok (.iload 4, 2) := by decide +kernel
theorem dX8_begins_99 : decode cX8_begins 99 = .ok (.iadd, 1) := by decide +kernel
theorem dX8_begins_100 : decode cX8_begins 100 = .ok (.iconst 2, 1) := by decide +kernel
theorem dX8_begins_101 : decode cX8_begins 101 = .ok (.iastore, 1) := by decide +kernel
theorem dX8_begins_102 : decode cX8_begins 102 = .ok (.iinc 2 1, 3) := by decide +kernel
theorem dX8_begins_105 : decode cX8_begins 105 = .ok (.goto (-64), 3) := by decide +kernel
theorem dX8_begins_108 : decode cX8_begins 108 = .ok (.return_, 1) := by decide +kernel
theorem dX8_many_0 : decode cX8_many 0 = .ok (.iconst 0, 1) := by decide +kernel
theorem dX8_many_1 : decode cX8_many 1 = .ok (.istore_n 2, 1) := by decide +kernel
theorem dX8_many_2 : decode cX8_many 2 = .ok (.iconst 0, 1) := by decide +kernel
theorem dX8_many_3 : decode cX8_many 3 = .ok (.istore_n 3, 1) := by decide +kernel
theorem dX8_many_4 : decode cX8_many 4 = .ok (.iload_n 3, 1) := by decide +kernel
theorem dX8_many_5 : decode cX8_many 5 = .ok (.aload_n 0, 1) := by decide +kernel
theorem dX8_many_6 : decode cX8_many 6 = .ok (.invokevirtual 76, 3) := by decide +kernel
theorem dX8_many_9 : decode cX8_many 9 = .ok (.if_icmp .ge 27, 3) := by decide +kernel
theorem dX8_many_12 : decode cX8_many 12 = .ok (.iload_n 2, 1) := by decide +kernel
theorem dX8_many_13 : decode cX8_many 13 = .ok (.aload_n 0, 1) := by decide +kernel
theorem dX8_many_14 : decode cX8_many 14 = .ok (.getfield 20, 3) := by decide +kernel
theorem dX8_many_17 : decode cX8_many 17 = .ok (.iload_n 3, 1) := by decide +kernel
theorem dX8_many_18 : decode cX8_many 18 = .ok (.iaload, 1) := by decide +kernel
theorem dX8_many_19 : decode cX8_many 19 = .ok (.iload_n 1, 1) := by decide +kernel
theorem dX8_many_20 : decode cX8_many 20 = .ok (.if_icmp .ne 7, 3) := by decide +kernel
theorem dX8_many_23 : decode cX8_many 23 = .ok (.iconst 1, 1) := by decide +kernel
theorem dX8_many_24 : decode cX8_many 24 = .ok (.goto 4, 3) := by decide +kernel
theorem dX8_many_27 : decode cX8_many 27 = .ok (.iconst 0, 1) := by decide +kernel
theorem dX8_many_28 : decode cX8_many 28 = .ok (.iadd, 1) := by decide +kernel
theorem dX8_many_29 : decode cX8_many 29 = .ok (.istore_n 2, 1) := by decide +kernel
theorem dX8_many_30 : decode cX8_many 30 = .ok (.iinc 3 1, 3) := by decide +kernel
theorem dX8_many_33 : decode cX8_many 33 = .ok (.goto (-29), 3) := by decide +kernel
theorem dX8_many_36 : decode cX8_many 36 = .ok (.iload_n 2, 1) := by decide +kernel
theorem dX8_many_37 : decode cX8_many 37 = .ok (.ireturn, 1) := by decide +kernel
theorem dX8_start_0 : decode cX8_start 0 = .ok (.aload_n 0, 1) := by decide +kernel
theorem dX8_start_1 : decode cX8_start 1 = .ok (.iload_n 1, 1) := by decide +kernel
theorem dX8_start_2 : decode cX8_start 2 = .ok (.iconst 4, 1) := by decide +kernel
theorem dX8_start_3 : decode cX8_start 3 = .ok (.bipush 7, 2) := by decide +kernel
theorem dX8_start_5 : decode cX8_start 5 = .ok (.invokestatic 80, 3) := by decide +kernel
theorem dX8_start_8 : decode cX8_start 8 = .ok (.ifCond .eq 26, 3) := by decide +kernel
theorem dX8_start_11 : decode cX8_start 11 = .ok (.iload_n 2, 1) := by decide +kernel
theorem dX8_start_12 : decode cX8_start 12 = .ok (.iconst 4, 1) := by decide +kernel
theorem dX8_start_13 : decode cX8_start 13 = .ok (.bipush 7, 2) := by decide +kernel
theorem dX8_start_15 : decode cX8_start 15 = .ok (.invokestatic 80, 3) := by decide +kernel
theorem dX8_start_18 : decode cX8_start 18 = .ok (.ifCond .eq 16, 3) := by decide +kernel
theorem dX8_start_21 : decode cX8_start 21 = .ok (.iload_n 3, 1) := by decide +kernel
theorem dX8_start_22 : decode cX8_start 22 = .ok (.iconst 0, 1) := by decide +kernel
theorem dX8_start_23 : decode cX8_start 23 = .ok (.iconst 4, 1) := by decide +kernel
theorem dX8_start_24 : decode cX8_start 24 = .ok (.invokestatic 80, 3) := by decide +kernel
theorem dX8_start_27 : decode cX8_start 27 = .ok (.ifCond .eq 7, 3) := by decide +kernel
theorem dX8_start_30 : decode cX8_start 30 = .ok (.iconst 0, 1) := by decide +kernel
theorem dX8_start_31 : decode cX8_start 31 = .ok (.goto 4, 3) := by decide +kernel
theorem dX8_start_34 : decode cX8_start 34 = .ok (.iconst 1, 1) := by decide +kernel
theorem dX8_start_35 : decode cX8_start 35 = .ok (.putfield 73, 3) := by decide +kernel
theorem dX8_start_38 : decode cX8_start 38 = .ok (.aload_n 0, 1) := by decide +kernel
theorem dX8_start_39 : decode cX8_start 39 = .ok (.getfield 73, 3) := by decide +kernel
theorem dX8_start_42 : decode cX8_start 42 = .ok (.iconst 1, 1) := by decide +kernel
theorem dX8_start_43 : decode cX8_start 43 = .ok (.if_icmp .ne 5, 3) := by decide +kernel
theorem dX8_start_46 : decode cX8_start 46 = .ok (.iconst 0, 1) := by decide +kernel
theorem dX8_start_47 : decode cX8_start 47 = .ok (.ireturn, 1) := by decide +kernel
theorem dX8_start_48 : decode cX8_start 48 = .ok (.aload_n 0, 1) := by decide +kernel
theorem dX8_start_49 : decode cX8_start 49 = .ok (.iload_n 1, 1) := by decide +kernel
theorem dX8_start_50 : decode cX8_start 50 = .ok (.putfield 9, 3) := by decide +kernel
theorem dX8_start_53 : decode cX8_start 53 = .ok (.aload_n 0, 1) := by decide +kernel
theorem dX8_start_54 : decode cX8_start 54 = .ok (.iload_n 2, 1) := by decide +kernel
theorem dX8_start_55 : decode cX8_start 55 = .ok (.putfield 13, 3) := by decide +kernel
theorem dX8_start_58 : decode cX8_start 58 = .ok (.aload_n 0, 1) := by decide +kernel
theorem dX8_start_59 : decode cX8_start 59 = .ok (.getfield 16, 3) := by decide +kernel
theorem dX8_start_62 : decode cX8_start 62 = .ok (.iconst 0, 1) := by decide +kernel
theorem dX8_start_63 : decode cX8_start 63 = .ok (.iconst 0, 1) := by decide +kernel
theorem dX8_start_64 : decode cX8_start 64 = .ok (.iastore, 1) := by decide +kernel
theorem dX8_start_65 : decode cX8_start 65 = .ok (.aload_n 0, 1) := by decide +kernel
theorem dX8_start_66 : decode cX8_start 66 = .ok (.getfield 16, 3) := by decide +kernel
theorem dX8_start_69 : decode cX8_start 69 = .ok (.iconst 1, 1) := by decide +kernel
theorem dX8_start_70 : decode cX8_start 70 = .ok (.iconst 0, 1) := by decide +kernel
theorem dX8_start_71 : decode cX8_start 71 = .ok (.iastore, 1) := by decide +kernel
theorem dX8_start_72 : decode cX8_start 72 = .ok (.aload_n 0, 1) := by decide +kernel
theorem dX8_start_73 : decode cX8_start 73 = .ok (.iload_n 3, 1) := by decide +kernel
theorem dX8_start_74 : decode cX8_start 74 = .ok (.invokevirtual 69, 3) := by decide +kernel
theorem dX8_start_77 : decode cX8_start 77 = .ok (.aload_n 0, 1) := by decide +kernel
theorem dX8_start_78 : decode cX8_start 78 = .ok (.iconst 0, 1) := by decide +kernel
theorem dX8_start_79 : decode cX8_start 79 = .ok (.invokevirtual 84, 3) := by decide +kernel
theorem dX8_start_82 : decode cX8_start 82 = .ok (.ireturn, 1) := by decide +kernel
theorem dX8_setRule_0 : decode cX8_setRule 0 = .ok (.aload_n 0, 1) := by decide +kernel
theorem dX8_setRule_1 : decode cX8_setRule 1 = .ok (.iload_n 1, 1) := by decide +kernel
theorem dX8_setRule_2 : decode cX8_setRule 2 = .ok (.iconst 0, 1) := by decide +kernel
theorem dX8_setRule_3 : decode cX8_setRule 3 = .ok (.iconst 2, 1) := by decide +kernel
theorem dX8_setRule_4 : decode cX8_setRule 4 = .ok (.invokestatic 80, 3) := by decide +kernel
theorem dX8_setRule_7 : decode cX8_setRule 7 = .ok (.ifCond .eq 7, 3) := by decide +kernel
theorem dX8_setRule_10 : decode cX8_setRule 10 = .ok (.iconst 0, 1) := by decide +kernel
theorem dX8_setRule_11 : decode cX8_setRule 11 = .ok (.goto 4, 3) := by decide +kernel
theorem dX8_setRule_14 : decode cX8_setRule 14 = .ok (.iconst 1, 1) := by decide +kernel
theorem dX8_setRule_15 : decode cX8_setRule 15 = .ok (.putfield 73, 3) := by decide +kernel
theorem dX8_setRule_18 : decode cX8_setRule 18 = .ok (.aload_n 0, 1) := by decide +kernel
theorem dX8_setRule_19 : decode cX8_setRule 19 = .ok (.getfield 73, 3) := by decide +kernel
theorem dX8_setRule_22 : decode cX8_setRule 22 = .ok (.iconst 1, 1) := by decide +kernel
theorem dX8_setRule_23 : decode cX8_setRule 23 = .ok (.if_icmp .ne 5, 3) := by decide +kernel
theorem dX8_setRule_26 : decode cX8_setRule 26 = .ok (.iconst 0, 1) := by decide +kernel
theorem dX8_setRule_27 : decode cX8_setRule 27 = .ok (.ireturn, 1) := by decide +kernel
theorem dX8_setRule_28 : decode cX8_setRule 28 = .ok (.aload_n 0, 1) := by decide +kernel
theorem dX8_setRule_29 : decode cX8_setRule 29 = .ok (.getfield 88, 3) := by decide +kernel
theorem dX8_setRule_32 : decode cX8_setRule 32 = .ok (.istore_n 2, 1) := by decide +kernel
theorem dX8_setRule_33 : decode cX8_setRule 33 = .ok (.aload_n 0, 1) := by decide +kernel
theorem dX8_setRule_34 : decode cX8_setRule 34 = .ok (.iload_n 1, 1) := by decide +kernel
theorem dX8_setRule_35 : decode cX8_setRule 35 = .ok (.putfield 88, 3) := by decide +kernel
theorem dX8_setRule_38 : decode cX8_setRule 38 = .ok (.iload_n 2, 1) := by decide +kernel
theorem dX8_setRule_39 : decode cX8_setRule 39 = .ok (.ireturn, 1) := by decide +kernel
theorem dX8_setBonus_0 : decode cX8_setBonus 0 = .ok (.aload_n 0, 1) := by decide +kernel
theorem dX8_setBonus_1 : decode cX8_setBonus 1 = .ok (.iload_n 1, 1) := by decide +kernel
theorem dX8_setBonus_2 : decode cX8_setBonus 2 = .ok (.iconst 0, 1) := by decide +kernel
theorem dX8_setBonus_3 : decode cX8_setBonus 3 = .ok (.iconst 1, 1) := by decide +kernel
theorem dX8_setBonus_4 : decode cX8_setBonus 4 = .ok (.invokestatic 80, 3) := by decide +kernel
theorem dX8_setBonus_7 : decode cX8_setBonus 7 = .ok (.ifCond .ne 7, 3) := by decide +kernel
theorem dX8_setBonus_10 : decode cX8_setBonus 10 = .ok (.iconst 1, 1) := by decide +kernel
theorem dX8_setBonus_11 : decode cX8_setBonus 11 = .ok (.goto 18, 3) := by decide +kernel
theorem dX8_setBonus_14 : decode cX8_setBonus 14 = .ok (.iload_n 2, 1) := by decide +kernel
theorem dX8_setBonus_15 : decode cX8_setBonus 15 = .ok (.iconst 0, 1) := by decide +kernel
theorem dX8_setBonus_16 : decode cX8_setBonus 16 = .ok (.bipush 20, 2) := by decide +kernel
theorem dX8_setBonus_18 : decode cX8_setBonus 18 = .ok (.invokestatic 80, 3) := by decide +kernel
theorem dX8_setBonus_21 : decode cX8_setBonus 21 = .ok (.ifCond .ne 7, 3) := by decide +kernel
theorem dX8_setBonus_24 : decode cX8_setBonus 24 = .ok (.iconst 2, 1) := by decide +kernel
theorem dX8_setBonus_25 : decode cX8_setBonus 25 = .ok (.goto 4, 3) := by decide +kernel
theorem dX8_setBonus_28 : decode cX8_setBonus 28 = .ok (.iconst 0, 1) := by decide +kernel
theorem dX8_setBonus_29 : decode cX8_setBonus 29 = .ok (.putfield 73, 3) := by decide +kernel
theorem dX8_setBonus_32 : decode cX8_setBonus 32 = .ok (.aload_n 0, 1) := by decide +kernel
theorem dX8_setBonus_33 : decode cX8_setBonus 33 = .ok (.getfield 73, 3) := by decide +kernel
theorem dX8_setBonus_36 : decode cX8_setBonus 36 = .ok (.ifCond .le 5, 3) := by decide +kernel
theorem dX8_setBonus_39 : decode cX8_setBonus 39 = .ok (.iconst 0, 1) := by decide +kernel
theorem dX8_setBonus_40 : decode cX8_setBonus 40 = .ok (.ireturn, 1) := by decide +kernel
theorem dX8_setBonus_41 : decode cX8_setBonus 41 = .ok (.aload_n 0, 1) := by decide +kernel
theorem dX8_setBonus_42 : decode cX8_setBonus 42 = .ok (.getfield 16, 3) := by decide +kernel
theorem dX8_setBonus_45 : decode cX8_setBonus 45 = .ok (.iload_n 1, 1) := by decide +kernel
theorem dX8_setBonus_46 : decode cX8_setBonus 46 = .ok (.iaload, 1) := by decide +kernel
theorem dX8_setBonus_47 : decode cX8_setBonus 47 = .ok (.istore_n 3, 1) := by decide +kernel
theorem dX8_setBonus_48 : decode cX8_setBonus 48 = .ok (.aload_n 0, 1) := by decide +kernel
theorem dX8_setBonus_49 : decode cX8_setBonus 49 = .ok (.getfield 16, 3) := by decide +kernel
theorem dX8_setBonus_52 : decode cX8_setBonus 52 = .ok (.iload_n 1, 1) := by decide +kernel
theorem dX8_setBonus_53 : decode cX8_setBonus 53 = .ok (.iload_n 2, 1) := by decide +kernel
theorem dX8_setBonus_54 : decode cX8_setBonus 54 = .ok (.iastore, 1) := by decide +kernel
theorem dX8_setBonus_55 : decode cX8_setBonus 55 = .ok (.iload_n 3, 1) := by decide +kernel
theorem dX8_setBonus_56 : decode cX8_setBonus 56 = .ok (.ireturn, 1) := by decide +kernel
theorem dX8_bits_0 : decode cX8_bits 0 = .ok (.lconst 0, 1) := by decide +kernel
theorem dX8_bits_1 : decode cX8_bits 1 = .ok (.lstore_n 2, 1) := by decide +kernel
theorem dX8_bits_2 : decode cX8_bits 2 = .ok (.iconst 0, 1) := by decide +kernel
theorem dX8_bits_3 : decode cX8_bits 3 = .ok (.istore 4, 2) := by decide +kernel
theorem dX8_bits_5 : decode cX8_bits 5 = .ok (.iload 4, 2) := by decide +kernel
theorem dX8_bits_7 : decode cX8_bits 7 = .ok (.aload_n 0, 1) := by decide +kernel
theorem dX8_bits_8 : decode cX8_bits 8 = .ok (.invokevirtual 76, 3) := by decide +kernel
theorem dX8_bits_11 : decode cX8_bits 11 = .ok (.if_icmp .ge 31, 3) := by decide +kernel
theorem dX8_bits_14 : decode cX8_bits 14 = .ok (.lload_n 2, 1) := by decide +kernel
theorem dX8_bits_15 : decode cX8_bits 15 = .ok (.aload_n 0, 1) := by decide +kernel
theorem dX8_bits_16 : decode cX8_bits 16 = .ok (.getfield 20, 3) := by decide +kernel
theorem dX8_bits_19 : decode cX8_bits 19 = .ok (.iload 4, 2) := by decide +kernel
theorem dX8_bits_21 : decode cX8_bits 21 = .ok (.iaload, 1) := by decide +kernel
theorem dX8_bits_22 : decode cX8_bits 22 = .ok (.iload_n 1, 1) := by decide +kernel
theorem dX8_bits_23 : decode cX8_bits 23 = .ok (.if_icmp .ne 10, 3) := by decide +kernel
theorem dX8_bits_26 : decode cX8_bits 26 = .ok (.lconst 1, 1) := by decide +kernel
theorem dX8_bits_27 : decode cX8_bits 27 = .ok (.iload 4, 2) := by decide +kernel
theorem dX8_bits_29 : decode cX8_bits 29 = .ok (.lshl, 1) := by decide +kernel
theorem dX8_bits_30 : decode cX8_bits 30 = .ok (.goto 4, 3) := by decide +kernel
theorem dX8_bits_33 : decode cX8_bits 33 = .ok (.lconst 0, 1) := by decide +kernel
theorem dX8_bits_34 : decode cX8_bits 34 = .ok (.lor, 1) := by decide +kernel
theorem dX8_bits_35 : decode cX8_bits 35 = .ok (.lstore_n 2, 1) := by decide +kernel
theorem dX8_bits_36 : decode cX8_bits 36 = .ok (.iinc 4 1, 3) := by decide +kernel
theorem dX8_bits_39 : decode cX8_bits 39 = .ok (.goto (-34), 3) := by decide +kernel
theorem dX8_bits_42 : decode cX8_bits 42 = .ok (.lload_n 2, 1) := by decide +kernel
theorem dX8_bits_43 : decode cX8_bits 43 = .ok (.lreturn, 1) := by decide +kernel
theorem dX8_all_0 : decode cX8_all 0 = .ok (.lconst 1, 1) := by decide +kernel
theorem dX8_all_1 : decode cX8_all 1 = .ok (.aload_n 0, 1) := by decide +kernel
theorem dX8_all_2 : decode cX8_all 2 = .ok (.invokevirtual 76, 3) := by decide +kernel
theorem dX8_all_5 : decode cX8_all 5 = .ok (.lshl, 1) := by decide +kernel
theorem dX8_all_6 : decode cX8_all 6 = .ok (.lconst 1, 1) := by decide +kernel
theorem dX8_all_7 : decode cX8_all 7 = .ok (.lsub, 1) := by decide +kernel
theorem dX8_all_8 : decode cX8_all 8 = .ok (.lreturn, 1) := by decide +kernel
theorem dX8_column_0 : decode cX8_column 0 = .ok (.lconst 0, 1) := by decide +kernel
theorem dX8_column_1 : decode cX8_column 1 = .ok (.lstore_n 2, 1) := by decide +kernel
theorem dX8_column_2 : decode cX8_column 2 = .ok (.iconst 0, 1) := by decide +kernel
theorem dX8_column_3 : decode cX8_column 3 = .ok (.istore 4, 2) := by decide +kernel
theorem dX8_column_5 : decode cX8_column 5 = .ok (.iload 4, 2) := by decide +kernel
theorem dX8_column_7 : decode cX8_column 7 = .ok (.aload_n 0, 1) := by decide +kernel
theorem dX8_column_8 : decode cX8_column 8 = .ok (.getfield 13, 3) := by decide +kernel
theorem dX8_column_11 : decode cX8_column 11 = .ok (.if_icmp .ge 23, 3) := by decide +kernel
theorem dX8_column_14 : decode cX8_column 14 = .ok (.lload_n 2, 1) := by decide +kernel
theorem dX8_column_15 : decode cX8_column 15 = .ok (.lconst 1, 1) := by decide +kernel
theorem dX8_column_16 : decode cX8_column 16 = .ok (.iload 4, 2) := by decide +kernel
theorem dX8_column_18 : decode cX8_column 18 = .ok (.aload_n 0, 1) := by decide +kernel
theorem dX8_column_19 : decode cX8_column 19 = .ok (.getfield 9, 3) := by decide +kernel
theorem dX8_column_22 : decode cX8_column 22 = .ok (.imul, 1) := by decide +kernel
theorem dX8_column_23 : decode cX8_column 23 = .ok (.iload_n 1, 1) := by decide +kernel
theorem dX8_column_24 : decode cX8_column 24 = .ok (.iadd, 1) := by decide +kernel
theorem dX8_column_25 : decode cX8_column 25 = .ok (.lshl, 1) := by decide +kernel
theorem dX8_column_26 : decode cX8_column 26 = .ok (.lor, 1) := by decide +kernel
theorem dX8_column_27 : decode cX8_column 27 = .ok (.lstore_n 2, 1) := by decide +kernel
theorem dX8_column_28 : decode cX8_column 28 = .ok (.iinc 4 1, 3) := by decide +kernel
theorem dX8_column_31 : decode cX8_column 31 = .ok (.goto (-26), 3) := by decide +kernel
theorem dX8_column_34 : decode cX8_column 34 = .ok (.lload_n 2, 1) := by decide +kernel
theorem dX8_column_35 : decode cX8_column 35 = .ok (.lreturn, 1) := by decide +kernel
theorem dX8_edge_0 : decode cX8_edge 0 = .ok (.lconst 1, 1) := by decide +kernel
theorem dX8_edge_1 : decode cX8_edge 1 = .ok (.aload_n 0, 1) := by decide +kernel
theorem dX8_edge_2 : decode cX8_edge 2 = .ok (.getfield 9, 3) := by decide +kernel
theorem dX8_edge_5 : decode cX8_edge 5 = .ok (.lshl, 1) := by decide +kernel
theorem dX8_edge_6 : decode cX8_edge 6 = .ok (.lconst 1, 1) := by decide +kernel
theorem dX8_edge_7 : decode cX8_edge 7 = .ok (.lsub, 1) := by decide +kernel
theorem dX8_edge_8 : decode cX8_edge 8 = .ok (.lstore_n 1, 1) := by decide +kernel
theorem dX8_edge_9 : decode cX8_edge 9 = .ok (.aload_n 0, 1) := by decide +kernel
theorem dX8_edge_10 : decode cX8_edge 10 = .ok (.iconst 0, 1) := by decide +kernel
theorem dX8_edge_11 : decode cX8_edge 11 = .ok (.invokevirtual 91, 3) := by decide +kernel
theorem dX8_edge_14 : decode cX8_edge 14 = .ok (.aload_n 0, 1) := by decide +kernel
theorem dX8_edge_15 : decode cX8_edge 15 = .ok (.aload_n 0, 1) := by decide +kernel
theorem dX8_edge_16 : decode cX8_edge 16 = .ok (.getfield 9, 3) := by decide +kernel
theorem dX8_edge_19 : decode cX8_edge 19 = .ok (.iconst 1, 1) := by decide +kernel
theorem dX8_edge_20 : decode cX8_edge 20 = .ok (.isub, 1) := by decide +kernel
theorem dX8_edge_21 : decode cX8_edge 21 = .ok (.invokevirtual 91, 3) := by decide +kernel
theorem dX8_edge_24 : decode cX8_edge 24 = .ok (.lor, 1) := by decide +kernel
theorem dX8_edge_25 : decode cX8_edge 25 = .ok (.lload_n 1, 1) := by decide +kernel
theorem dX8_edge_26 : decode cX8_edge 26 = .ok (.lor, 1) := by decide +kernel
theorem dX8_edge_27 : decode cX8_edge 27 = .ok (.lload_n 1, 1) := by decide +kernel
theorem dX8_edge_28 : decode cX8_edge 28 = .ok (.aload_n 0, 1) := by decide +kernel
theorem dX8_edge_29 : decode cX8_edge 29 = .ok (.getfield 13, 3) := by decide +kernel
theorem dX8_edge_32 : decode cX8_edge 32 = .ok (.iconst 1, 1) := by decide +kernel
theorem dX8_edge_33 : decode cX8_edge 33 = .ok (.isub, 1) := by decide +kernel
theorem dX8_edge_34 : decode cX8_edge 34 = .ok (.aload_n 0, 1) := by decide +kernel
theorem dX8_edge_35 : decode cX8_edge 35 = .ok (.getfield 9, 3) := by decide +kernel
theorem dX8_edge_38 : decode cX8_edge 38 = .ok (.imul, 1) := by decide +kernel
theorem dX8_edge_39 : decode cX8_edge 39 = .ok (.lshl, 1) := by decide +kernel
theorem dX8_edge_40 : decode cX8_edge 40 = .ok (.lor, 1) := by decide +kernel
theorem dX8_edge_41 : decode cX8_edge 41 = .ok (.lreturn, 1) := by decide +kernel
theorem dX8_grown_0 : decode cX8_grown 0 = .ok (.lload_n 1, 1) := by decide +kernel
theorem dX8_grown_1 : decode cX8_grown 1 = .ok (.lload_n 1, 1) := by decide +kernel
theorem dX8_grown_2 : decode cX8_grown 2 = .ok (.aload_n 0, 1) := by decide +kernel
theorem dX8_grown_3 : decode cX8_grown 3 = .ok (.iconst 0, 1) := by decide +kernel
theorem dX8_grown_4 : decode cX8_grown 4 = .ok (.invokevirtual 91, 3) := by decide +kernel
theorem dX8_grown_7 : decode cX8_grown 7 = .ok (.ldc2_w 95, 3) := by decide +kernel
theorem dX8_grown_10 : decode cX8_grown 10 = .ok (.lxor, 1) := by decide +kernel
theorem dX8_grown_11 : decode cX8_grown 11 = .ok (.land, 1) := by decide +kernel
theorem dX8_grown_12 : decode cX8_grown 12 = .ok (.iconst 1, 1) := by decide +kernel
theorem dX8_grown_13 : decode cX8_grown 13 = .ok (.lushr, 1) := by decide +kernel
theorem dX8_grown_14 : decode cX8_grown 14 = .ok (.lor, 1) := by decide +kernel
theorem dX8_grown_15 : decode cX8_grown 15 = .ok (.lload_n 1, 1) := by decide +kernel
theorem dX8_grown_16 : decode cX8_grown 16 = .ok (.aload_n 0, 1) := by decide +kernel
theorem dX8_grown_17 : decode cX8_grown 17 = .ok (.aload_n 0, 1) := by decide +kernel
theorem dX8_grown_18 : decode cX8_grown 18 = .ok (.getfield 9, 3) := by decide +kernel
theorem dX8_grown_21 : decode cX8_grown 21 = .ok (.iconst 1, 1) := by decide +kernel
theorem dX8_grown_22 : decode cX8_grown 22 = .ok (.isub, 1) := by decide +kernel
theorem dX8_grown_23 : decode cX8_grown 23 = .ok (.invokevirtual 91, 3) := by decide +kernel
theorem dX8_grown_26 : decode cX8_grown 26 = .ok (.ldc2_w 95, 3) := by decide +kernel
theorem dX8_grown_29 : decode cX8_grown 29 = .ok (.lxor, 1) := by decide +kernel
theorem dX8_grown_30 : decode cX8_grown 30 = .ok (.land, 1) := by decide +kernel
theorem dX8_grown_31 : decode cX8_grown 31 = .ok (.iconst 1, 1) := by decide +kernel
theorem dX8_grown_32 : decode cX8_grown 32 = .ok (.lshl, 1) := by decide +kernel
theorem dX8_grown_33 : decode cX8_grown 33 = .ok (.lor, 1) := by decide +kernel
theorem dX8_grown_34 : decode cX8_grown 34 = .ok (.lload_n 1, 1) := by decide +kernel
theorem dX8_grown_35 : decode cX8_grown 35 = .ok (.aload_n 0, 1) := by decide +kernel
theorem dX8_grown_36 : decode cX8_grown 36 = .ok (.getfield 9, 3) := by decide +kernel
theorem dX8_grown_39 : decode cX8_grown 39 = .ok (.lushr, 1) := by decide +kernel
theorem dX8_grown_40 : decode cX8_grown 40 = .ok (.lor, 1) := by decide +kernel
theorem dX8_grown_41 : decode cX8_grown 41 = .ok (.lload_n 1, 1) := by decide +kernel
theorem dX8_grown_42 : decode cX8_grown 42 = .ok (.aload_n 0, 1) := by decide +kernel
theorem dX8_grown_43 : decode cX8_grown 43 = .ok (.getfield 9, 3) := by decide +kernel
theorem dX8_grown_46 : decode cX8_grown 46 = .ok (.lshl, 1) := by decide +kernel
theorem dX8_grown_47 : decode cX8_grown 47 = .ok (.lor, 1) := by decide +kernel
theorem dX8_grown_48 : decode cX8_grown 48 = .ok (.aload_n 0, 1) := by decide +kernel
theorem dX8_grown_49 : decode cX8_grown 49 = .ok (.invokevirtual 97, 3) := by decide +kernel
theorem dX8_grown_52 : decode cX8_grown 52 = .ok (.land, 1) := by decide +kernel
theorem dX8_grown_53 : decode cX8_grown 53 = .ok (.lreturn, 1) := by decide +kernel
theorem dX8_connected_0 : decode cX8_connected 0 = .ok (.lconst 1, 1) := by decide +kernel
theorem dX8_connected_1 : decode cX8_connected 1 = .ok (.iload_n 3, 1) := by decide +kernel
theorem dX8_connected_2 : decode cX8_connected 2 = .ok (.lshl, 1) := by decide +kernel
theorem dX8_connected_3 : decode cX8_connected 3 = .ok (.lstore 4, 2) := by decide +kernel
theorem dX8_connected_5 : decode cX8_connected 5 = .ok (.aload_n 0, 1) := by decide +kernel
theorem dX8_connected_6 : decode cX8_connected 6 = .ok (.lload 4, 2) := by decide +kernel
theorem dX8_connected_8 : decode cX8_connected 8 = .ok (.invokevirtual 101, 3) := by decide +kernel
theorem dX8_connected_11 : decode cX8_connected 11 = .ok (.lload_n 1, 1) := by decide +kernel
theorem dX8_connected_12 : decode cX8_connected 12 = .ok (.land, 1) := by decide +kernel
theorem dX8_connected_13 : decode cX8_connected 13 = .ok (.lstore 6, 2) := by decide +kernel
theorem dX8_connected_15 : decode cX8_connected 15 = .ok (.lload 6, 2) := by decide +kernel
theorem dX8_connected_17 : decode cX8_connected 17 = .ok (.lload 4, 2) := by decide +kernel
theorem dX8_connected_19 : decode cX8_connected 19 = .ok (.lcmp, 1) := by decide +kernel
theorem dX8_connected_20 : decode cX8_connected 20 = .ok (.ifCond .eq 20, 3) := by decide +kernel
theorem dX8_connected_23 : decode cX8_connected 23 = .ok (.lload 6, 2) := by decide +kernel
theorem dX8_connected_25 : decode cX8_connected 25 = .ok (.lstore 4, 2) := by decide +kernel
theorem dX8_connected_27 : decode cX8_connected 27 = .ok (.aload_n 0, 1) := by decide +kernel
theorem dX8_connected_28 : decode cX8_connected 28 = .ok (.lload 4, 2) := by decide +kernel
theorem dX8_connected_30 : decode cX8_connected 30 = .ok (.invokevirtual 101, 3) := by decide +kernel
theorem dX8_connected_33 : decode cX8_connected 33 = .ok (.lload_n 1, 1) := by decide +kernel
theorem dX8_connected_34 : decode cX8_connected 34 = .ok (.land, 1) := by decide +kernel
theorem dX8_connected_35 : decode cX8_connected 35 = .ok (.lstore 6, 2) := by decide +kernel
theorem dX8_connected_37 : decode cX8_connected 37 = .ok (.goto (-22), 3) := by decide +kernel
theorem dX8_connected_40 : decode cX8_connected 40 = .ok (.lload 4, 2) := by decide +kernel
theorem dX8_connected_42 : decode cX8_connected 42 = .ok (.lreturn, 1) := by decide +kernel
theorem dX8_size_0 : decode cX8_size 0 = .ok (.iconst 0, 1) := by decide +kernel
theorem dX8_size_1 : decode cX8_size 1 = .ok (.istore_n 2, 1) := by decide +kernel
theorem dX8_size_2 : decode cX8_size 2 = .ok (.iconst 0, 1) := by decide +kernel
theorem dX8_size_3 : decode cX8_size 3 = .ok (.istore_n 3, 1) := by decide +kernel
theorem dX8_size_4 : decode cX8_size 4 = .ok (.iload_n 3, 1) := by decide +kernel
theorem dX8_size_5 : decode cX8_size 5 = .ok (.bipush 49, 2) := by decide +kernel
theorem dX8_size_7 : decode cX8_size 7 = .ok (.if_icmp .ge 18, 3) := by decide +kernel
theorem dX8_size_10 : decode cX8_size 10 = .ok (.iload_n 2, 1) := by decide +kernel
theorem dX8_size_11 : decode cX8_size 11 = .ok (.lload_n 0, 1) := by decide +kernel
theorem dX8_size_12 : decode cX8_size 12 = .ok (.iload_n 3, 1) := by decide +kernel
theorem dX8_size_13 : decode cX8_size 13 = .ok (.lshr, 1) := by decide +kernel
theorem dX8_size_14 : decode cX8_size 14 = .ok (.lconst 1, 1) := by decide +kernel
theorem dX8_size_15 : decode cX8_size 15 = .ok (.land, 1) := by decide +kernel
theorem dX8_size_16 : decode cX8_size 16 = .ok (.l2i, 1) := by decide +kernel
theorem dX8_size_17 : decode cX8_size 17 = .ok (.iadd, 1) := by decide +kernel
theorem dX8_size_18 : decode cX8_size 18 = .ok (.istore_n 2, 1) := by decide +kernel
theorem dX8_size_19 : decode cX8_size 19 = .ok (.iinc 3 1, 3) := by decide +kernel
theorem dX8_size_22 : decode cX8_size 22 = .ok (.goto (-18), 3) := by decide +kernel
theorem dX8_size_25 : decode cX8_size 25 = .ok (.iload_n 2, 1) := by decide +kernel
theorem dX8_size_26 : decode cX8_size 26 = .ok (.ireturn, 1) := by decide +kernel
theorem dX8_lowest_0 : decode cX8_lowest 0 = .ok (.iconst 0, 1) := by decide +kernel
theorem dX8_lowest_1 : decode cX8_lowest 1 = .ok (.istore_n 2, 1) := by decide +kernel
theorem dX8_lowest_2 : decode cX8_lowest 2 = .ok (.lload_n 0, 1) := by decide +kernel
theorem dX8_lowest_3 : decode cX8_lowest 3 = .ok (.iload_n 2, 1) := by decide +kernel
theorem dX8_lowest_4 : decode cX8_lowest 4 = .ok (.lshr, 1) := by decide +kernel
theorem dX8_lowest_5 : decode cX8_lowest 5 = .ok (.lconst 1, 1) := by decide +kernel
theorem dX8_lowest_6 : decode cX8_lowest 6 = .ok (.land, 1) := by decide +kernel
theorem dX8_lowest_7 : decode cX8_lowest 7 = .ok (.lconst 0, 1) := by decide +kernel
theorem dX8_lowest_8 : decode cX8_lowest 8 = .ok (.lcmp, 1) := by decide +kernel
theorem dX8_lowest_9 : decode cX8_lowest 9 = .ok (.ifCond .ne 9, 3) := by decide +kernel
theorem dX8_lowest_12 : decode cX8_lowest 12 = .ok (.iinc 2 1, 3) := by decide +kernel
theorem dX8_lowest_15 : decode cX8_lowest 15 = .ok (.goto (-13), 3) := by decide +kernel
theorem dX8_lowest_18 : decode cX8_lowest 18 = .ok (.iload_n 2, 1) := by decide +kernel
theorem dX8_lowest_19 : decode cX8_lowest 19 = .ok (.ireturn, 1) := by decide +kernel
theorem dX8_outside_0 : decode cX8_outside 0 = .ok (.aload_n 0, 1) := by decide +kernel
theorem dX8_outside_1 : decode cX8_outside 1 = .ok (.invokevirtual 97, 3) := by decide +kernel
theorem dX8_outside_4 : decode cX8_outside 4 = .ok (.aload_n 0, 1) := by decide +kernel
theorem dX8_outside_5 : decode cX8_outside 5 = .ok (.iconst 1, 1) := by decide +kernel
theorem dX8_outside_6 : decode cX8_outside 6 = .ok (.iload_n 1, 1) := by decide +kernel
theorem dX8_outside_7 : decode cX8_outside 7 = .ok (.iadd, 1) := by decide +kernel
theorem dX8_outside_8 : decode cX8_outside 8 = .ok (.invokevirtual 105, 3) := by decide +kernel
theorem dX8_outside_11 : decode cX8_outside 11 = .ok (.ldc2_w 95, 3) := by decide +kernel
theorem dX8_outside_14 : decode cX8_outside 14 = .ok (.lxor, 1) := by decide +kernel
theorem dX8_outside_15 : decode cX8_outside 15 = .ok (.land, 1) := by decide +kernel
theorem dX8_outside_16 : decode cX8_outside 16 = .ok (.aload_n 0, 1) := by decide +kernel
theorem dX8_outside_17 : decode cX8_outside 17 = .ok (.iconst 3, 1) := by decide +kernel
theorem dX8_outside_18 : decode cX8_outside 18 = .ok (.iload_n 1, 1) := by decide +kernel
theorem dX8_outside_19 : decode cX8_outside 19 = .ok (.iadd, 1) := by decide +kernel
theorem dX8_outside_20 : decode cX8_outside 20 = .ok (.invokevirtual 105, 3) := by decide +kernel
theorem dX8_outside_23 : decode cX8_outside 23 = .ok (.ldc2_w 95, 3) := by decide +kernel
theorem dX8_outside_26 : decode cX8_outside 26 = .ok (.lxor, 1) := by decide +kernel
theorem dX8_outside_27 : decode cX8_outside 27 = .ok (.land, 1) := by decide +kernel
theorem dX8_outside_28 : decode cX8_outside 28 = .ok (.aload_n 0, 1) := by decide +kernel
theorem dX8_outside_29 : decode cX8_outside 29 = .ok (.iconst 5, 1) := by decide +kernel
theorem dX8_outside_30 : decode cX8_outside 30 = .ok (.invokevirtual 105, 3) := by decide +kernel
theorem dX8_outside_33 : decode cX8_outside 33 = .ok (.ldc2_w 95, 3) := by decide +kernel
theorem dX8_outside_36 : decode cX8_outside 36 = .ok (.lxor, 1) := by decide +kernel
theorem dX8_outside_37 : decode cX8_outside 37 = .ok (.land, 1) := by decide +kernel
theorem dX8_outside_38 : decode cX8_outside 38 = .ok (.lreturn, 1) := by decide +kernel
theorem dX8_score_0 : decode cX8_score 0 = .ok (.aload_n 0, 1) := by decide +kernel
theorem dX8_score_1 : decode cX8_score 1 = .ok (.iconst 3, 1) := by decide +kernel
theorem dX8_score_2 : decode cX8_score 2 = .ok (.iload_n 1, 1) := by decide +kernel
theorem dX8_score_3 : decode cX8_score 3 = .ok (.iadd, 1) := by decide +kernel
theorem dX8_score_4 : decode cX8_score 4 = .ok (.invokevirtual 84, 3) := by decide +kernel
theorem dX8_score_7 : decode cX8_score 7 = .ok (.iconst 2, 1) := by decide +kernel
theorem dX8_score_8 : decode cX8_score 8 = .ok (.aload_n 0, 1) := by decide +kernel
theorem dX8_score_9 : decode cX8_score 9 = .ok (.getfield 20, 3) := by decide +kernel
theorem dX8_score_12 : decode cX8_score 12 = .ok (.sipush 147, 3) := by decide +kernel
theorem dX8_score_15 : decode cX8_score 15 = .ok (.iload_n 1, 1) := by decide +kernel
theorem dX8_score_16 : decode cX8_score 16 = .ok (.iadd, 1) := by decide +kernel
theorem dX8_score_17 : decode cX8_score 17 = .ok (.iaload, 1) := by decide +kernel
theorem dX8_score_18 : decode cX8_score 18 = .ok (.imul, 1) := by decide +kernel
theorem dX8_score_19 : decode cX8_score 19 = .ok (.iadd, 1) := by decide +kernel
theorem dX8_score_20 : decode cX8_score 20 = .ok (.aload_n 0, 1) := by decide +kernel
theorem dX8_score_21 : decode cX8_score 21 = .ok (.getfield 16, 3) := by decide +kernel
theorem dX8_score_24 : decode cX8_score 24 = .ok (.iload_n 1, 1) := by decide +kernel
theorem dX8_score_25 : decode cX8_score 25 = .ok (.iaload, 1) := by decide +kernel
theorem dX8_score_26 : decode cX8_score 26 = .ok (.iadd, 1) := by decide +kernel
theorem dX8_score_27 : decode cX8_score 27 = .ok (.ireturn, 1) := by decide +kernel
theorem dX8_emptyCells_0 : decode cX8_emptyCells 0 = .ok (.aload_n 0, 1) := by decide +kernel
theorem dX8_emptyCells_1 : decode cX8_emptyCells 1 = .ok (.iconst 0, 1) := by decide +kernel
theorem dX8_emptyCells_2 : decode cX8_emptyCells 2 = .ok (.invokevirtual 84, 3) := by decide +kernel
theorem dX8_emptyCells_5 : decode cX8_emptyCells 5 = .ok (.ireturn, 1) := by decide +kernel
theorem dX8_over_0 : decode cX8_over 0 = .ok (.aload_n 0, 1) := by decide +kernel
theorem dX8_over_1 : decode cX8_over 1 = .ok (.getfield 20, 3) := by decide +kernel
theorem dX8_over_4 : decode cX8_over 4 = .ok (.sipush 154, 3) := by decide +kernel
theorem dX8_over_7 : decode cX8_over 7 = .ok (.iaload, 1) := by decide +kernel
theorem dX8_over_8 : decode cX8_over 8 = .ok (.iconst 1, 1) := by decide +kernel
theorem dX8_over_9 : decode cX8_over 9 = .ok (.if_icmp .eq 23, 3) := by decide +kernel
theorem dX8_over_12 : decode cX8_over 12 = .ok (.aload_n 0, 1) := by decide +kernel
theorem dX8_over_13 : decode cX8_over 13 = .ok (.getfield 20, 3) := by decide +kernel
theorem dX8_over_16 : decode cX8_over 16 = .ok (.sipush 153, 3) := by decide +kernel
theorem dX8_over_19 : decode cX8_over 19 = .ok (.iaload, 1) := by decide +kernel
theorem dX8_over_20 : decode cX8_over 20 = .ok (.bipush 60, 2) := by decide +kernel
theorem dX8_over_22 : decode cX8_over 22 = .ok (.if_icmp .eq 10, 3) := by decide +kernel
theorem dX8_over_25 : decode cX8_over 25 = .ok (.aload_n 0, 1) := by decide +kernel
theorem dX8_over_26 : decode cX8_over 26 = .ok (.invokevirtual 108, 3) := by decide +kernel
theorem dX8_over_29 : decode cX8_over 29 = .ok (.ifCond .ne 7, 3) := by decide +kernel
theorem dX8_over_32 : decode cX8_over 32 = .ok (.iconst 1, 1) := by decide +kernel
theorem dX8_over_33 : decode cX8_over 33 = .ok (.goto 4, 3) := by decide +kernel
theorem dX8_over_36 : decode cX8_over 36 = .ok (.iconst 0, 1) := by decide +kernel
theorem dX8_over_37 : decode cX8_over 37 = .ok (.ireturn, 1) := by decide +kernel
theorem dX8_becomes_0 : decode cX8_becomes 0 = .ok (.aload_n 0, 1) := by decide +kernel
theorem dX8_becomes_1 : decode cX8_becomes 1 = .ok (.getfield 20, 3) := by decide +kernel
theorem dX8_becomes_4 : decode cX8_becomes 4 = .ok (.iload_n 1, 1) := by decide +kernel
theorem dX8_becomes_5 : decode cX8_becomes 5 = .ok (.iload_n 2, 1) := by decide +kernel
theorem dX8_becomes_6 : decode cX8_becomes 6 = .ok (.iastore, 1) := by decide +kernel
theorem dX8_becomes_7 : decode cX8_becomes 7 = .ok (.aload_n 0, 1) := by decide +kernel
theorem dX8_becomes_8 : decode cX8_becomes 8 = .ok (.getfield 20, 3) := by decide +kernel
theorem dX8_becomes_11 : decode cX8_becomes 11 = .ok (.bipush 49, 2) := by decide +kernel
theorem dX8_becomes_13 : decode cX8_becomes 13 = .ok (.iload_n 1, 1) := by decide +kernel
theorem dX8_becomes_14 : decode cX8_becomes 14 = .ok (.iadd, 1) := by decide +kernel
theorem dX8_becomes_15 : decode cX8_becomes 15 = .ok (.aload_n 0, 1) := by decide +kernel
theorem dX8_becomes_16 : decode cX8_becomes 16 = .ok (.getfield 20, 3) := by decide +kernel
theorem dX8_becomes_19 : decode cX8_becomes 19 = .ok (.sipush 153, 3) := by decide +kernel
theorem dX8_becomes_22 : decode cX8_becomes 22 = .ok (.iaload, 1) := by decide +kernel
theorem dX8_becomes_23 : decode cX8_becomes 23 = .ok (.iastore, 1) := by decide +kernel
theorem dX8_becomes_24 : decode cX8_becomes 24 = .ok (.aload_n 0, 1) := by decide +kernel
theorem dX8_becomes_25 : decode cX8_becomes 25 = .ok (.getfield 20, 3) := by decide +kernel
theorem dX8_becomes_28 : decode cX8_becomes 28 = .ok (.bipush 98, 2) := by decide +kernel
theorem dX8_becomes_30 : decode cX8_becomes 30 = .ok (.iload_n 1, 1) := by decide +kernel
theorem dX8_becomes_31 : decode cX8_becomes 31 = .ok (.iadd, 1) := by decide +kernel
theorem dX8_becomes_32 : decode cX8_becomes 32 = .ok (.iload_n 3, 1) := by decide +kernel
theorem dX8_becomes_33 : decode cX8_becomes 33 = .ok (.iastore, 1) := by decide +kernel
theorem dX8_becomes_34 : decode cX8_becomes 34 = .ok (.return_, 1) := by decide +kernel
theorem dX8_encloses_0 : decode cX8_encloses 0 = .ok (.aload_n 0, 1) := by decide +kernel
theorem dX8_encloses_1 : decode cX8_encloses 1 = .ok (.iload_n 1, 1) := by decide +kernel
theorem dX8_encloses_2 : decode cX8_encloses 2 = .ok (.invokevirtual 111, 3) := by decide +kernel
theorem dX8_encloses_5 : decode cX8_encloses 5 = .ok (.lstore_n 2, 1) := by decide +kernel
theorem dX8_encloses_6 : decode cX8_encloses 6 = .ok (.aload_n 0, 1) := by decide +kernel
theorem dX8_encloses_7 : decode cX8_encloses 7 = .ok (.invokevirtual 114, 3) := by decide +kernel
theorem dX8_encloses_10 : decode cX8_encloses 10 = .ok (.lstore 4, 2) := by decide +kernel
theorem dX8_encloses_12 : decode cX8_encloses 12 = .ok (.iconst 0, 1) := by decide +kernel
theorem dX8_encloses_13 : decode cX8_encloses 13 = .ok (.istore 6, 2) := by decide +kernel
theorem dX8_encloses_15 : decode cX8_encloses 15 = .ok (.iload 6, 2) := by decide +kernel
theorem dX8_encloses_17 : decode cX8_encloses 17 = .ok (.bipush 49, 2) := by decide +kernel
theorem dX8_encloses_19 : decode cX8_encloses 19 = .ok (.if_icmp .ge 22, 3) := by decide +kernel
theorem dX8_encloses_22 : decode cX8_encloses 22 = .ok (.aload_n 0, 1) := by decide +kernel
theorem dX8_encloses_23 : decode cX8_encloses 23 = .ok (.getfield 53, 3) := by decide +kernel
theorem dX8_encloses_26 : decode cX8_encloses 26 = .ok (.bipush 49, 2) := by decide +kernel
theorem dX8_encloses_28 : decode cX8_encloses 28 = .ok (.iload_n 1, 1) := by decide +kernel
theorem dX8_encloses_29 : decode cX8_encloses 29 = .ok (.imul, 1) := by decide +kernel
theorem dX8_encloses_30 : decode cX8_encloses 30 = .ok (.iload 6, 2) := by decide +kernel
theorem dX8_encloses_32 : decode cX8_encloses 32 = .ok (.iadd, 1) := by decide +kernel
theorem dX8_encloses_33 : decode cX8_encloses 33 = .ok (.iconst 0, 1) := by decide +kernel
theorem dX8_encloses_34 : decode cX8_encloses 34 = .ok (.iastore, 1) := by decide +kernel
theorem dX8_encloses_35 : decode cX8_encloses 35 = .ok (.iinc 6 1, 3) := by decide +kernel
theorem dX8_encloses_38 : decode cX8_encloses 38 = .ok (.goto (-23), 3) := by decide +kernel
theorem dX8_encloses_41 : decode cX8_encloses 41 = .ok (.lload_n 2, 1) := by decide +kernel
theorem dX8_encloses_42 : decode cX8_encloses 42 = .ok (.lconst 0, 1) := by decide +kernel
theorem dX8_encloses_43 : decode cX8_encloses 43 = .ok (.lcmp, 1) := by decide +kernel
theorem dX8_encloses_44 : decode cX8_encloses 44 = .ok (.ifCond .eq 98, 3) := by decide +kernel
theorem dX8_encloses_47 : decode cX8_encloses 47 = .ok (.aload_n 0, 1) := by decide +kernel
theorem dX8_encloses_48 : decode cX8_encloses 48 = .ok (.lload_n 2, 1) := by decide +kernel
theorem dX8_encloses_49 : decode cX8_encloses 49 = .ok (.lload_n 2, 1) := by decide +kernel
theorem dX8_encloses_50 : decode cX8_encloses 50 = .ok (.invokestatic 117, 3) := by decide +kernel
theorem dX8_encloses_53 : decode cX8_encloses 53 = .ok (.invokevirtual 121, 3) := by decide +kernel
theorem dX8_encloses_56 : decode cX8_encloses 56 = .ok (.lstore 6, 2) := by decide +kernel
theorem dX8_encloses_58 : decode cX8_encloses 58 = .ok (.lload_n 2, 1) := by decide +kernel
theorem dX8_encloses_59 : decode cX8_encloses 59 = .ok (.lload 6, 2) := by decide +kernel
theorem dX8_encloses_61 : decode cX8_encloses 61 = .ok (.ldc2_w 95, 3) := by decide +kernel
theorem dX8_encloses_64 : decode cX8_encloses 64 = .ok (.lxor, 1) := by decide +kernel
theorem dX8_encloses_65 : decode cX8_encloses 65 = .ok (.land, 1) := by decide +kernel
theorem dX8_encloses_66 : decode cX8_encloses 66 = .ok (.lstore_n 2, 1) := by decide +kernel
theorem dX8_encloses_67 : decode cX8_encloses 67 = .ok (.lload 6, 2) := by decide +kernel
theorem dX8_encloses_69 : decode cX8_encloses 69 = .ok (.lload 4, 2) := by decide +kernel
theorem dX8_encloses_71 : decode cX8_encloses 71 = .ok (.land, 1) := by decide +kernel
theorem dX8_encloses_72 : decode cX8_encloses 72 = .ok (.lconst 0, 1) := by decide +kernel
theorem dX8_encloses_73 : decode cX8_encloses 73 = .ok (.lcmp, 1) := by decide +kernel
theorem dX8_encloses_74 : decode cX8_encloses 74 = .ok (.ifCond .ne 11, 3) := by decide +kernel
theorem dX8_encloses_77 : decode cX8_encloses 77 = .ok (.lload 6, 2) := by decide +kernel
theorem dX8_encloses_79 : decode cX8_encloses 79 = .ok (.invokestatic 125, 3) := by decide +kernel
theorem dX8_encloses_82 : decode cX8_encloses 82 = .ok (.goto 4, 3) := by decide +kernel
theorem dX8_encloses_85 : decode cX8_encloses 85 = .ok (.iconst 0, 1) := by decide +kernel
theorem dX8_encloses_86 : decode cX8_encloses 86 = .ok (.istore 8, 2) := by decide +kernel
theorem dX8_encloses_88 : decode cX8_encloses 88 = .ok (.iconst 0, 1) := by decide +kernel
theorem dX8_encloses_89 : decode cX8_encloses 89 = .ok (.istore 9, 2) := by decide +kernel
theorem dX8_encloses_91 : decode cX8_encloses 91 = .ok (.iload 9, 2) := by decide +kernel
theorem dX8_encloses_93 : decode cX8_encloses 93 = .ok (.aload_n 0, 1) := by decide +kernel
theorem dX8_encloses_94 : decode cX8_encloses 94 = .ok (.invokevirtual 76, 3) := by decide +kernel
theorem dX8_encloses_97 : decode cX8_encloses 97 = .ok (.if_icmp .ge 42, 3) := by decide +kernel
theorem dX8_encloses_100 : decode cX8_encloses 100 = .ok (.aload_n 0, 1) := by decide +kernel
theorem dX8_encloses_101 : decode cX8_encloses 101 = .ok (.getfield 53, 3) := by decide +kernel
theorem dX8_encloses_104 : decode cX8_encloses 104 = .ok (.bipush 49, 2) := by decide +kernel
theorem dX8_encloses_106 : decode cX8_encloses 106 = .ok (.iload_n 1, 1) := by decide +kernel
theorem dX8_encloses_107 : decode cX8_encloses 107 = .ok (.imul, 1) := by decide +kernel
theorem dX8_encloses_108 : decode cX8_encloses 108 = .ok (.iload 9, 2) := by decide +kernel
theorem dX8_encloses_110 : decode cX8_encloses 110 = .ok (.iadd, 1) := by decide +kernel
theorem dX8_encloses_111 : decode cX8_encloses 111 = .ok (.dup2, 1) := by decide +kernel
theorem dX8_encloses_112 : decode cX8_encloses 112 = .ok (.iaload, 1) := by decide +kernel
theorem dX8_encloses_113 : decode cX8_encloses 113 = .ok (.lload 6, 2) := by decide +kernel
theorem dX8_encloses_115 : decode cX8_encloses 115 = .ok (.iload 9, 2) := by decide +kernel
theorem dX8_encloses_117 : decode cX8_encloses 117 = .ok (.lshr, 1) := by decide +kernel
theorem dX8_encloses_118 : decode cX8_encloses 118 = .ok (.lconst 1, 1) := by decide +kernel
theorem dX8_encloses_119 : decode cX8_encloses 119 = .ok (.land, 1) := by decide +kernel
theorem dX8_encloses_120 : decode cX8_encloses 120 = .ok (.lconst 1, 1) := by decide +kernel
theorem dX8_encloses_121 : decode cX8_encloses 121 = .ok (.lcmp, 1) := by decide +kernel
theorem dX8_encloses_122 : decode cX8_encloses 122 = .ok (.ifCond .ne 8, 3) := by decide +kernel
theorem dX8_encloses_125 : decode cX8_encloses 125 = .ok (.iload 8, 2) := by decide +kernel
theorem dX8_encloses_127 : decode cX8_encloses 127 = .ok (.goto 4, 3) := by decide +kernel
theorem dX8_encloses_130 : decode cX8_encloses 130 = .ok (.iconst 0, 1) := by decide +kernel
theorem dX8_encloses_131 : decode cX8_encloses 131 = .ok (.iadd, 1) := by decide +kernel
theorem dX8_encloses_132 : decode cX8_encloses 132 = .ok (.iastore, 1) := by decide +kernel
theorem dX8_encloses_133 : decode cX8_encloses 133 = .ok (.iinc 9 1, 3) := by decide +kernel
theorem dX8_encloses_136 : decode cX8_encloses 136 = .ok (.goto (-45), 3) := by decide +kernel
theorem dX8_encloses_139 : decode cX8_encloses 139 = .ok (.goto (-98), 3) := by decide +kernel
theorem dX8_encloses_142 : decode cX8_encloses 142 = .ok (.return_, 1) := by decide +kernel
theorem dX8_wave_0 : decode cX8_wave 0 = .ok (.aload_n 0, 1) := by decide +kernel
theorem dX8_wave_1 : decode cX8_wave 1 = .ok (.iconst 0, 1) := by decide +kernel
theorem dX8_wave_2 : decode cX8_wave 2 = .ok (.invokevirtual 128, 3) := by decide +kernel
theorem dX8_wave_5 : decode cX8_wave 5 = .ok (.aload_n 0, 1) := by decide +kernel
theorem dX8_wave_6 : decode cX8_wave 6 = .ok (.iconst 1, 1) := by decide +kernel
theorem dX8_wave_7 : decode cX8_wave 7 = .ok (.invokevirtual 128, 3) := by decide +kernel
theorem dX8_wave_10 : decode cX8_wave 10 = .ok (.iconst 0, 1) := by decide +kernel
theorem dX8_wave_11 : decode cX8_wave 11 = .ok (.istore_n 2, 1) := by decide +kernel
theorem dX8_wave_12 : decode cX8_wave 12 = .ok (.iconst 0, 1) := by decide +kernel
theorem dX8_wave_13 : decode cX8_wave 13 = .ok (.istore_n 3, 1) := by decide +kernel
theorem dX8_wave_14 : decode cX8_wave 14 = .ok (.iload_n 3, 1) := by decide +kernel
theorem dX8_wave_15 : decode cX8_wave 15 = .ok (.aload_n 0, 1) := by decide +kernel
theorem dX8_wave_16 : decode cX8_wave 16 = .ok (.invokevirtual 76, 3) := by decide +kernel
theorem dX8_wave_19 : decode cX8_wave 19 = .ok (.if_icmp .ge 97, 3) := by decide +kernel
theorem dX8_wave_22 : decode cX8_wave 22 = .ok (.aload_n 0, 1) := by decide +kernel
theorem dX8_wave_23 : decode cX8_wave 23 = .ok (.getfield 53, 3) := by decide +kernel
theorem dX8_wave_26 : decode cX8_wave 26 = .ok (.iload_n 3, 1) := by decide +kernel
theorem dX8_wave_27 : decode cX8_wave 27 = .ok (.iaload, 1) := by decide +kernel
theorem dX8_wave_28 : decode cX8_wave 28 = .ok (.istore 4, 2) := by decide +kernel
theorem dX8_wave_30 : decode cX8_wave 30 = .ok (.aload_n 0, 1) := by decide +kernel
theorem dX8_wave_31 : decode cX8_wave 31 = .ok (.getfield 53, 3) := by decide +kernel
theorem dX8_wave_34 : decode cX8_wave 34 = .ok (.bipush 49, 2) := by decide +kernel
theorem dX8_wave_36 : decode cX8_wave 36 = .ok (.iload_n 3, 1) := by decide +kernel
theorem dX8_wave_37 : decode cX8_wave 37 = .ok (.iadd, 1) := by decide +kernel
theorem dX8_wave_38 : decode cX8_wave 38 = .ok (.iaload, 1) := by decide +kernel
theorem dX8_wave_39 : decode cX8_wave 39 = .ok (.istore 5, 2) := by decide +kernel
theorem dX8_wave_41 : decode cX8_wave 41 = .ok (.iload 4, 2) := by decide +kernel
theorem dX8_wave_43 : decode cX8_wave 43 = .ok (.iload 5, 2) := by decide +kernel
theorem dX8_wave_45 : decode cX8_wave 45 = .ok (.if_icmp .ne 6, 3) := by decide +kernel
theorem dX8_wave_48 : decode cX8_wave 48 = .ok (.goto 62, 3) := by decide +kernel
theorem dX8_wave_51 : decode cX8_wave 51 = .ok (.iload 4, 2) := by decide +kernel
theorem dX8_wave_53 : decode cX8_wave 53 = .ok (.iload 5, 2) := by decide +kernel
theorem dX8_wave_55 : decode cX8_wave 55 = .ok (.if_icmp .le 7, 3) := by decide +kernel
theorem dX8_wave_58 : decode cX8_wave 58 = .ok (.iconst 0, 1) := by decide +kernel
theorem dX8_wave_59 : decode cX8_wave 59 = .ok (.goto 4, 3) := by decide +kernel
theorem dX8_wave_62 : decode cX8_wave 62 = .ok (.iconst 1, 1) := by decide +kernel
theorem dX8_wave_63 : decode cX8_wave 63 = .ok (.istore 6, 2) := by decide +kernel
theorem dX8_wave_65 : decode cX8_wave 65 = .ok (.aload_n 0, 1) := by decide +kernel
theorem dX8_wave_66 : decode cX8_wave 66 = .ok (.getfield 20, 3) := by decide +kernel
theorem dX8_wave_69 : decode cX8_wave 69 = .ok (.sipush 147, 3) := by decide +kernel
theorem dX8_wave_72 : decode cX8_wave 72 = .ok (.iload 6, 2) := by decide +kernel
theorem dX8_wave_74 : decode cX8_wave 74 = .ok (.iadd, 1) := by decide +kernel
theorem dX8_wave_75 : decode cX8_wave 75 = .ok (.dup2, 1) := by decide +kernel
theorem dX8_wave_76 : decode cX8_wave 76 = .ok (.iaload, 1) := by decide +kernel
theorem dX8_wave_77 : decode cX8_wave 77 = .ok (.aload_n 0, 1) := by decide +kernel
theorem dX8_wave_78 : decode cX8_wave 78 = .ok (.getfield 20, 3) := by decide +kernel
theorem dX8_wave_81 : decode cX8_wave 81 = .ok (.iload_n 3, 1) := by decide +kernel
theorem dX8_wave_82 : decode cX8_wave 82 = .ok (.iaload, 1) := by decide +kernel
theorem dX8_wave_83 : decode cX8_wave 83 = .ok (.iconst 2, 1) := by decide +kernel
theorem dX8_wave_84 : decode cX8_wave 84 = .ok (.iload 6, 2) := by decide +kernel
theorem dX8_wave_86 : decode cX8_wave 86 = .ok (.isub, 1) := by decide +kernel
theorem dX8_wave_87 : decode cX8_wave 87 = .ok (.if_icmp .ne 7, 3) := by decide +kernel
theorem dX8_wave_90 : decode cX8_wave 90 = .ok (.iconst 1, 1) := by decide +kernel
theorem dX8_wave_91 : decode cX8_wave 91 = .ok (.goto 4, 3) := by decide +kernel
theorem dX8_wave_94 : decode cX8_wave 94 = .ok (.iconst 0, 1) := by decide +kernel
theorem dX8_wave_95 : decode cX8_wave 95 = .ok (.iadd, 1) := by decide +kernel
theorem dX8_wave_96 : decode cX8_wave 96 = .ok (.iastore, 1) := by decide +kernel
theorem dX8_wave_97 : decode cX8_wave 97 = .ok (.aload_n 0, 1) := by decide +kernel
theorem dX8_wave_98 : decode cX8_wave 98 = .ok (.iload_n 3, 1) := by decide +kernel
theorem dX8_wave_99 : decode cX8_wave 99 = .ok (.iconst 3, 1) := by decide +kernel
theorem dX8_wave_100 : decode cX8_wave 100 = .ok (.iload 6, 2) := by decide +kernel
theorem dX8_wave_102 : decode cX8_wave 102 = .ok (.iadd, 1) := by decide +kernel
theorem dX8_wave_103 : decode cX8_wave 103 = .ok (.iload_n 1, 1) := by decide +kernel
theorem dX8_wave_104 : decode cX8_wave 104 = .ok (.invokevirtual 131, 3) := by decide +kernel
theorem dX8_wave_107 : decode cX8_wave 107 = .ok (.iinc 2 1, 3) := by decide +kernel
theorem dX8_wave_110 : decode cX8_wave 110 = .ok (.iinc 3 1, 3) := by decide +kernel
theorem dX8_wave_113 : decode cX8_wave 113 = .ok (.goto (-99), 3) := by decide +kernel
theorem dX8_wave_116 : decode cX8_wave 116 = .ok (.iload_n 2, 1) := by decide +kernel
theorem dX8_wave_117 : decode cX8_wave 117 = .ok (.ireturn, 1) := by decide +kernel
theorem dX8_plays_0 : decode cX8_plays 0 = .ok (.aload_n 0, 1) := by decide +kernel
theorem dX8_plays_1 : decode cX8_plays 1 = .ok (.iload_n 1, 1) := by decide +kernel
theorem dX8_plays_2 : decode cX8_plays 2 = .ok (.iload_n 2, 1) := by decide +kernel
theorem dX8_plays_3 : decode cX8_plays 3 = .ok (.if_icmp .ne 12, 3) := by decide +kernel
theorem dX8_plays_6 : decode cX8_plays 6 = .ok (.iload_n 1, 1) := by decide +kernel
theorem dX8_plays_7 : decode cX8_plays 7 = .ok (.iconst (-1), 1) := by decide +kernel
theorem dX8_plays_8 : decode cX8_plays 8 = .ok (.if_icmp .eq 7, 3) := by decide +kernel
theorem dX8_plays_11 : decode cX8_plays 11 = .ok (.iconst 1, 1) := by decide +kernel
theorem dX8_plays_12 : decode cX8_plays 12 = .ok (.goto 4, 3) := by decide +kernel
theorem dX8_plays_15 : decode cX8_plays 15 = .ok (.iconst 0, 1) := by decide +kernel
theorem dX8_plays_16 : decode cX8_plays 16 = .ok (.putfield 135, 3) := by decide +kernel
theorem dX8_plays_19 : decode cX8_plays 19 = .ok (.aload_n 0, 1) := by decide +kernel
theorem dX8_plays_20 : decode cX8_plays 20 = .ok (.getfield 135, 3) := by decide +kernel
theorem dX8_plays_23 : decode cX8_plays 23 = .ok (.iconst 1, 1) := by decide +kernel
theorem dX8_plays_24 : decode cX8_plays 24 = .ok (.if_icmp .ne 75, 3) := by decide +kernel
theorem dX8_plays_27 : decode cX8_plays 27 = .ok (.aload_n 0, 1) := by decide +kernel
theorem dX8_plays_28 : decode cX8_plays 28 = .ok (.iconst 0, 1) := by decide +kernel
theorem dX8_plays_29 : decode cX8_plays 29 = .ok (.invokevirtual 138, 3) := by decide +kernel
theorem dX8_plays_32 : decode cX8_plays 32 = .ok (.istore_n 3, 1) := by decide +kernel
theorem dX8_plays_33 : decode cX8_plays 33 = .ok (.aload_n 0, 1) := by decide +kernel
theorem dX8_plays_34 : decode cX8_plays 34 = .ok (.iconst 1, 1) := by decide +kernel
theorem dX8_plays_35 : decode cX8_plays 35 = .ok (.invokevirtual 138, 3) := by decide +kernel
theorem dX8_plays_38 : decode cX8_plays 38 = .ok (.istore 4, 2) := by decide +kernel
theorem dX8_plays_40 : decode cX8_plays 40 = .ok (.aload_n 0, 1) := by decide +kernel
theorem dX8_plays_41 : decode cX8_plays 41 = .ok (.getfield 88, 3) := by decide +kernel
theorem dX8_plays_44 : decode cX8_plays 44 = .ok (.ifCond .eq 17, 3) := by decide +kernel
theorem dX8_plays_47 : decode cX8_plays 47 = .ok (.aload_n 0, 1) := by decide +kernel
theorem dX8_plays_48 : decode cX8_plays 48 = .ok (.getfield 88, 3) := by decide +kernel
theorem dX8_plays_51 : decode cX8_plays 51 = .ok (.iconst 2, 1) := by decide +kernel
theorem dX8_plays_52 : decode cX8_plays 52 = .ok (.if_icmp .ne 19, 3) := by decide +kernel
theorem dX8_plays_55 : decode cX8_plays 55 = .ok (.iload_n 3, 1) := by decide +kernel
theorem dX8_plays_56 : decode cX8_plays 56 = .ok (.iload 4, 2) := by decide +kernel
theorem dX8_plays_58 : decode cX8_plays 58 = .ok (.if_icmp .ne 13, 3) := by decide +kernel
theorem dX8_plays_61 : decode cX8_plays 61 = .ok (.aload_n 0, 1) := by decide +kernel
theorem dX8_plays_62 : decode cX8_plays 62 = .ok (.iload_n 1, 1) := by decide +kernel
theorem dX8_plays_63 : decode cX8_plays 63 = .ok (.iconst 5, 1) := by decide +kernel
theorem dX8_plays_64 : decode cX8_plays 64 = .ok (.iconst (-1), 1) := by decide +kernel
theorem dX8_plays_65 : decode cX8_plays 65 = .ok (.invokevirtual 131, 3) := by decide +kernel
theorem dX8_plays_68 : decode cX8_plays 68 = .ok (.goto 28, 3) := by decide +kernel
theorem dX8_plays_71 : decode cX8_plays 71 = .ok (.aload_n 0, 1) := by decide +kernel
theorem dX8_plays_72 : decode cX8_plays 72 = .ok (.getfield 88, 3) := by decide +kernel
theorem dX8_plays_75 : decode cX8_plays 75 = .ok (.iconst 2, 1) := by decide +kernel
theorem dX8_plays_76 : decode cX8_plays 76 = .ok (.if_icmp .ne 20, 3) := by decide +kernel
theorem dX8_plays_79 : decode cX8_plays 79 = .ok (.aload_n 0, 1) := by decide +kernel
theorem dX8_plays_80 : decode cX8_plays 80 = .ok (.iload_n 1, 1) := by decide +kernel
theorem dX8_plays_81 : decode cX8_plays 81 = .ok (.iload_n 3, 1) := by decide +kernel
theorem dX8_plays_82 : decode cX8_plays 82 = .ok (.iload 4, 2) := by decide +kernel
theorem dX8_plays_84 : decode cX8_plays 84 = .ok (.if_icmp .ge 7, 3) := by decide +kernel
theorem dX8_plays_87 : decode cX8_plays 87 = .ok (.iconst 1, 1) := by decide +kernel
theorem dX8_plays_88 : decode cX8_plays 88 = .ok (.goto 4, 3) := by decide +kernel
theorem dX8_plays_91 : decode cX8_plays 91 = .ok (.iconst 2, 1) := by decide +kernel
theorem dX8_plays_92 : decode cX8_plays 92 = .ok (.iconst (-1), 1) := by decide +kernel
theorem dX8_plays_93 : decode cX8_plays 93 = .ok (.invokevirtual 131, 3) := by decide +kernel
theorem dX8_plays_96 : decode cX8_plays 96 = .ok (.goto 27, 3) := by decide +kernel
theorem dX8_plays_99 : decode cX8_plays 99 = .ok (.iload_n 1, 1) := by decide +kernel
theorem dX8_plays_100 : decode cX8_plays 100 = .ok (.iconst (-1), 1) := by decide +kernel
theorem dX8_plays_101 : decode cX8_plays 101 = .ok (.if_icmp .eq 10, 3) := by decide +kernel
theorem dX8_plays_104 : decode cX8_plays 104 = .ok (.aload_n 0, 1) := by decide +kernel
theorem dX8_plays_105 : decode cX8_plays 105 = .ok (.iload_n 1, 1) := by decide +kernel
theorem dX8_plays_106 : decode cX8_plays 106 = .ok (.iconst 1, 1) := by decide +kernel
theorem dX8_plays_107 : decode cX8_plays 107 = .ok (.iconst (-1), 1) := by decide +kernel
theorem dX8_plays_108 : decode cX8_plays 108 = .ok (.invokevirtual 131, 3) := by decide +kernel
theorem dX8_plays_111 : decode cX8_plays 111 = .ok (.iload_n 2, 1) := by decide +kernel
theorem dX8_plays_112 : decode cX8_plays 112 = .ok (.iconst (-1), 1) := by decide +kernel
theorem dX8_plays_113 : decode cX8_plays 113 = .ok (.if_icmp .eq 10, 3) := by decide +kernel
theorem dX8_plays_116 : decode cX8_plays 116 = .ok (.aload_n 0, 1) := by decide +kernel
theorem dX8_plays_117 : decode cX8_plays 117 = .ok (.iload_n 2, 1) := by decide +kernel
theorem dX8_plays_118 : decode cX8_plays 118 = .ok (.iconst 2, 1) := by decide +kernel
theorem dX8_plays_119 : decode cX8_plays 119 = .ok (.iconst (-1), 1) := by decide +kernel
theorem dX8_plays_120 : decode cX8_plays 120 = .ok (.invokevirtual 131, 3) := by decide +kernel
theorem dX8_plays_123 : decode cX8_plays 123 = .ok (.aload_n 0, 1) := by decide +kernel
theorem dX8_plays_124 : decode cX8_plays 124 = .ok (.getfield 20, 3) := by decide +kernel
theorem dX8_plays_127 : decode cX8_plays 127 = .ok (.sipush 149, 3) := by decide +kernel
theorem dX8_plays_130 : decode cX8_plays 130 = .ok (.dup2, 1) := by decide +kernel
theorem dX8_plays_131 : decode cX8_plays 131 = .ok (.iaload, 1) := by decide +kernel
theorem dX8_plays_132 : decode cX8_plays 132 = .ok (.iload_n 1, 1) := by decide +kernel
theorem dX8_plays_133 : decode cX8_plays 133 = .ok (.iconst (-1), 1) := by decide +kernel
theorem dX8_plays_134 : decode cX8_plays 134 = .ok (.if_icmp .ne 7, 3) := by decide +kernel
theorem dX8_plays_137 : decode cX8_plays 137 = .ok (.iconst 1, 1) := by decide +kernel
theorem dX8_plays_138 : decode cX8_plays 138 = .ok (.goto 4, 3) := by decide +kernel
theorem dX8_plays_141 : decode cX8_plays 141 = .ok (.iconst 0, 1) := by decide +kernel
theorem dX8_plays_142 : decode cX8_plays 142 = .ok (.iadd, 1) := by decide +kernel
theorem dX8_plays_143 : decode cX8_plays 143 = .ok (.iastore, 1) := by decide +kernel
theorem dX8_plays_144 : decode cX8_plays 144 = .ok (.aload_n 0, 1) := by decide +kernel
theorem dX8_plays_145 : decode cX8_plays 145 = .ok (.getfield 20, 3) := by decide +kernel
theorem dX8_plays_148 : decode cX8_plays 148 = .ok (.sipush 150, 3) := by decide +kernel
theorem dX8_plays_151 : decode cX8_plays 151 = .ok (.dup2, 1) := by decide +kernel
theorem dX8_plays_152 : decode cX8_plays 152 = .ok (.iaload, 1) := by decide +kernel
theorem dX8_plays_153 : decode cX8_plays 153 = .ok (.iload_n 2, 1) := by decide +kernel
theorem dX8_plays_154 : decode cX8_plays 154 = .ok (.iconst (-1), 1) := by decide +kernel
theorem dX8_plays_155 : decode cX8_plays 155 = .ok (.if_icmp .ne 7, 3) := by decide +kernel
theorem dX8_plays_158 : decode cX8_plays 158 = .ok (.iconst 1, 1) := by decide +kernel
theorem dX8_plays_159 : decode cX8_plays 159 = .ok (.goto 4, 3) := by decide +kernel
theorem dX8_plays_162 : decode cX8_plays 162 = .ok (.iconst 0, 1) := by decide +kernel
theorem dX8_plays_163 : decode cX8_plays 163 = .ok (.iadd, 1) := by decide +kernel
theorem dX8_plays_164 : decode cX8_plays 164 = .ok (.iastore, 1) := by decide +kernel
theorem dX8_plays_165 : decode cX8_plays 165 = .ok (.aload_n 0, 1) := by decide +kernel
theorem dX8_plays_166 : decode cX8_plays 166 = .ok (.getfield 20, 3) := by decide +kernel
theorem dX8_plays_169 : decode cX8_plays 169 = .ok (.sipush 151, 3) := by decide +kernel
theorem dX8_plays_172 : decode cX8_plays 172 = .ok (.dup2, 1) := by decide +kernel
theorem dX8_plays_173 : decode cX8_plays 173 = .ok (.iaload, 1) := by decide +kernel
theorem dX8_plays_174 : decode cX8_plays 174 = .ok (.aload_n 0, 1) := by decide +kernel
theorem dX8_plays_175 : decode cX8_plays 175 = .ok (.getfield 135, 3) := by decide +kernel
theorem dX8_plays_178 : decode cX8_plays 178 = .ok (.iadd, 1) := by decide +kernel
theorem dX8_plays_179 : decode cX8_plays 179 = .ok (.iastore, 1) := by decide +kernel
theorem dX8_plays_180 : decode cX8_plays 180 = .ok (.aload_n 0, 1) := by decide +kernel
theorem dX8_plays_181 : decode cX8_plays 181 = .ok (.iconst 0, 1) := by decide +kernel
theorem dX8_plays_182 : decode cX8_plays 182 = .ok (.putfield 141, 3) := by decide +kernel
theorem dX8_plays_185 : decode cX8_plays 185 = .ok (.aload_n 0, 1) := by decide +kernel
theorem dX8_plays_186 : decode cX8_plays 186 = .ok (.iconst 0, 1) := by decide +kernel
theorem dX8_plays_187 : decode cX8_plays 187 = .ok (.putfield 144, 3) := by decide +kernel
theorem dX8_plays_190 : decode cX8_plays 190 = .ok (.iconst 1, 1) := by decide +kernel
theorem dX8_plays_191 : decode cX8_plays 191 = .ok (.istore_n 3, 1) := by decide +kernel
theorem dX8_plays_192 : decode cX8_plays 192 = .ok (.iload_n 3, 1) := by decide +kernel
theorem dX8_plays_193 : decode cX8_plays 193 = .ok (.ifCond .eq 75, 3) := by decide +kernel
theorem dX8_plays_196 : decode cX8_plays 196 = .ok (.aload_n 0, 1) := by decide +kernel
theorem dX8_plays_197 : decode cX8_plays 197 = .ok (.getfield 141, 3) := by decide +kernel
theorem dX8_plays_200 : decode cX8_plays 200 = .ok (.bipush 8, 2) := by decide +kernel
theorem dX8_plays_202 : decode cX8_plays 202 = .ok (.if_icmp .ge 66, 3) := by decide +kernel
theorem dX8_plays_205 : decode cX8_plays 205 = .ok (.aload_n 0, 1) := by decide +kernel
theorem dX8_plays_206 : decode cX8_plays 206 = .ok (.aload_n 0, 1) := by decide +kernel
theorem dX8_plays_207 : decode cX8_plays 207 = .ok (.getfield 141, 3) := by decide +kernel
theorem dX8_plays_210 : decode cX8_plays 210 = .ok (.invokevirtual 147, 3) := by decide +kernel
theorem dX8_plays_213 : decode cX8_plays 213 = .ok (.istore 4, 2) := by decide +kernel
theorem dX8_plays_215 : decode cX8_plays 215 = .ok (.iload 4, 2) := by decide +kernel
theorem dX8_plays_217 : decode cX8_plays 217 = .ok (.ifCond .le 7, 3) := by decide +kernel
theorem dX8_plays_220 : decode cX8_plays 220 = .ok (.iconst 1, 1) := by decide +kernel
theorem dX8_plays_221 : decode cX8_plays 221 = .ok (.goto 4, 3) := by decide +kernel
theorem dX8_plays_224 : decode cX8_plays 224 = .ok (.iconst 0, 1) := by decide +kernel
theorem dX8_plays_225 : decode cX8_plays 225 = .ok (.istore_n 3, 1) := by decide +kernel
theorem dX8_plays_226 : decode cX8_plays 226 = .ok (.iload_n 3, 1) := by decide +kernel
theorem dX8_plays_227 : decode cX8_plays 227 = .ok (.ifCond .ne 6, 3) := by decide +kernel
theorem dX8_plays_230 : decode cX8_plays 230 = .ok (.goto (-38), 3) := by decide +kernel
theorem dX8_plays_233 : decode cX8_plays 233 = .ok (.aload_n 0, 1) := by decide +kernel
theorem dX8_plays_234 : decode cX8_plays 234 = .ok (.getfield 56, 3) := by decide +kernel
theorem dX8_plays_237 : decode cX8_plays 237 = .ok (.aload_n 0, 1) := by decide +kernel
theorem dX8_plays_238 : decode cX8_plays 238 = .ok (.getfield 141, 3) := by decide +kernel
theorem dX8_plays_241 : decode cX8_plays 241 = .ok (.iload 4, 2) := by decide +kernel
theorem dX8_plays_243 : decode cX8_plays 243 = .ok (.iastore, 1) := by decide +kernel
theorem dX8_plays_244 : decode cX8_plays 244 = .ok (.aload_n 0, 1) := by decide +kernel
theorem dX8_plays_245 : decode cX8_plays 245 = .ok (.dup, 1) := by decide +kernel
theorem dX8_plays_246 : decode cX8_plays 246 = .ok (.getfield 144, 3) := by decide +kernel
theorem dX8_plays_249 : decode cX8_plays 249 = .ok (.iload 4, 2) := by decide +kernel
theorem dX8_plays_251 : decode cX8_plays 251 = .ok (.iadd, 1) := by decide +kernel
theorem dX8_plays_252 : decode cX8_plays 252 = .ok (.putfield 144, 3) := by decide +kernel
theorem dX8_plays_255 : decode cX8_plays 255 = .ok (.aload_n 0, 1) := by decide +kernel
theorem dX8_plays_256 : decode cX8_plays 256 = .ok (.dup, 1) := by decide +kernel
theorem dX8_plays_257 : decode cX8_plays 257 = .ok (.getfield 141, 3) := by decide +kernel
theorem dX8_plays_260 : decode cX8_plays 260 = .ok (.iconst 1, 1) := by decide +kernel
theorem dX8_plays_261 : decode cX8_plays 261 = .ok (.iadd, 1) := by decide +kernel
theorem dX8_plays_262 : decode cX8_plays 262 = .ok (.putfield 141, 3) := by decide +kernel
theorem dX8_plays_265 : decode cX8_plays 265 = .ok (.goto (-73), 3) := by decide +kernel
theorem dX8_plays_268 : decode cX8_plays 268 = .ok (.aload_n 0, 1) := by decide +kernel
theorem dX8_plays_269 : decode cX8_plays 269 = .ok (.getfield 20, 3) := by decide +kernel
theorem dX8_plays_272 : decode cX8_plays 272 = .ok (.sipush 152, 3) := by decide +kernel
theorem dX8_plays_275 : decode cX8_plays 275 = .ok (.dup2, 1) := by decide +kernel
theorem dX8_plays_276 : decode cX8_plays 276 = .ok (.iaload, 1) := by decide +kernel
theorem dX8_plays_277 : decode cX8_plays 277 = .ok (.aload_n 0, 1) := by decide +kernel
theorem dX8_plays_278 : decode cX8_plays 278 = .ok (.getfield 141, 3) := by decide +kernel
theorem dX8_plays_281 : decode cX8_plays 281 = .ok (.iadd, 1) := by decide +kernel
theorem dX8_plays_282 : decode cX8_plays 282 = .ok (.iastore, 1) := by decide +kernel
theorem dX8_plays_283 : decode cX8_plays 283 = .ok (.aload_n 0, 1) := by decide +kernel
theorem dX8_plays_284 : decode cX8_plays 284 = .ok (.getfield 20, 3) := by decide +kernel
theorem dX8_plays_287 : decode cX8_plays 287 = .ok (.sipush 154, 3) := by decide +kernel
theorem dX8_plays_290 : decode cX8_plays 290 = .ok (.iload_n 1, 1) := by decide +kernel
theorem dX8_plays_291 : decode cX8_plays 291 = .ok (.iconst (-1), 1) := by decide +kernel
theorem dX8_plays_292 : decode cX8_plays 292 = .ok (.if_icmp .ne 12, 3) := by decide +kernel
theorem dX8_plays_295 : decode cX8_plays 295 = .ok (.iload_n 2, 1) := by decide +kernel
theorem dX8_plays_296 : decode cX8_plays 296 = .ok (.iconst (-1), 1) := by decide +kernel
theorem dX8_plays_297 : decode cX8_plays 297 = .ok (.if_icmp .ne 7, 3) := by decide +kernel
theorem dX8_plays_300 : decode cX8_plays 300 = .ok (.iconst 1, 1) := by decide +kernel
theorem dX8_plays_301 : decode cX8_plays 301 = .ok (.goto 4, 3) := by decide +kernel
theorem dX8_plays_304 : decode cX8_plays 304 = .ok (.iconst 0, 1) := by decide +kernel
theorem dX8_plays_305 : decode cX8_plays 305 = .ok (.iastore, 1) := by decide +kernel
theorem dX8_plays_306 : decode cX8_plays 306 = .ok (.aload_n 0, 1) := by decide +kernel
theorem dX8_plays_307 : decode cX8_plays 307 = .ok (.getfield 20, 3) := by decide +kernel
theorem dX8_plays_310 : decode cX8_plays 310 = .ok (.sipush 153, 3) := by decide +kernel
theorem dX8_plays_313 : decode cX8_plays 313 = .ok (.dup2, 1) := by decide +kernel
theorem dX8_plays_314 : decode cX8_plays 314 = .ok (.iaload, 1) := by decide +kernel
theorem dX8_plays_315 : decode cX8_plays 315 = .ok (.iconst 1, 1) := by decide +kernel
theorem dX8_plays_316 : decode cX8_plays 316 = .ok (.iadd, 1) := by decide +kernel
theorem dX8_plays_317 : decode cX8_plays 317 = .ok (.iastore, 1) := by decide +kernel
theorem dX8_plays_318 : decode cX8_plays 318 = .ok (.return_, 1) := by decide +kernel
theorem dX8_mayChoose_0 : decode cX8_mayChoose 0 = .ok (.iload_n 1, 1) := by decide +kernel
theorem dX8_mayChoose_1 : decode cX8_mayChoose 1 = .ok (.iconst (-1), 1) := by decide +kernel
theorem dX8_mayChoose_2 : decode cX8_mayChoose 2 = .ok (.if_icmp .eq 12, 3) := by decide +kernel
theorem dX8_mayChoose_5 : decode cX8_mayChoose 5 = .ok (.aload_n 0, 1) := by decide +kernel
theorem dX8_mayChoose_6 : decode cX8_mayChoose 6 = .ok (.getfield 20, 3) := by decide +kernel
theorem dX8_mayChoose_9 : decode cX8_mayChoose 9 = .ok (.iload_n 1, 1) := by decide +kernel
theorem dX8_mayChoose_10 : decode cX8_mayChoose 10 = .ok (.iaload, 1) := by decide +kernel
theorem dX8_mayChoose_11 : decode cX8_mayChoose 11 = .ok (.ifCond .ne 7, 3) := by decide +kernel
theorem dX8_mayChoose_14 : decode cX8_mayChoose 14 = .ok (.iconst 1, 1) := by decide +kernel
theorem dX8_mayChoose_15 : decode cX8_mayChoose 15 = .ok (.goto 4, 3) := by decide +kernel
theorem dX8_mayChoose_18 : decode cX8_mayChoose 18 = .ok (.iconst 0, 1) := by decide +kernel
theorem dX8_mayChoose_19 : decode cX8_mayChoose 19 = .ok (.ireturn, 1) := by decide +kernel
theorem dX8_isChoice_0 : decode cX8_isChoice 0 = .ok (.iload_n 1, 1) := by decide +kernel
theorem dX8_isChoice_1 : decode cX8_isChoice 1 = .ok (.iconst (-1), 1) := by decide +kernel
theorem dX8_isChoice_2 : decode cX8_isChoice 2 = .ok (.if_icmp .eq 11, 3) := by decide +kernel
theorem dX8_isChoice_5 : decode cX8_isChoice 5 = .ok (.aload_n 0, 1) := by decide +kernel
theorem dX8_isChoice_6 : decode cX8_isChoice 6 = .ok (.iload_n 1, 1) := by decide +kernel
theorem dX8_isChoice_7 : decode cX8_isChoice 7 = .ok (.invokevirtual 150, 3) := by decide +kernel
theorem dX8_isChoice_10 : decode cX8_isChoice 10 = .ok (.ifCond .eq 7, 3) := by decide +kernel
theorem dX8_isChoice_13 : decode cX8_isChoice 13 = .ok (.iconst 1, 1) := by decide +kernel
theorem dX8_isChoice_14 : decode cX8_isChoice 14 = .ok (.goto 4, 3) := by decide +kernel
theorem dX8_isChoice_17 : decode cX8_isChoice 17 = .ok (.iconst 0, 1) := by decide +kernel
theorem dX8_isChoice_18 : decode cX8_isChoice 18 = .ok (.ireturn, 1) := by decide +kernel
theorem dX8_reports_0 : decode cX8_reports 0 = .ok (.aload_n 0, 1) := by decide +kernel
theorem dX8_reports_1 : decode cX8_reports 1 = .ok (.getfield 59, 3) := by decide +kernel
theorem dX8_reports_4 : decode cX8_reports 4 = .ok (.iconst 0, 1) := by decide +kernel
theorem dX8_reports_5 : decode cX8_reports 5 = .ok (.iconst 1, 1) := by decide +kernel
theorem dX8_reports_6 : decode cX8_reports 6 = .ok (.iastore, 1) := by decide +kernel
theorem dX8_reports_7 : decode cX8_reports 7 = .ok (.aload_n 0, 1) := by decide +kernel
theorem dX8_reports_8 : decode cX8_reports 8 = .ok (.getfield 62, 3) := by decide +kernel
theorem dX8_reports_11 : decode cX8_reports 11 = .ok (.iconst 0, 1) := by decide +kernel
theorem dX8_reports_12 : decode cX8_reports 12 = .ok (.aload_n 0, 1) := by decide +kernel
theorem dX8_reports_13 : decode cX8_reports 13 = .ok (.getfield 20, 3) := by decide +kernel
theorem dX8_reports_16 : decode cX8_reports 16 = .ok (.sipush 153, 3) := by decide +kernel
theorem dX8_reports_19 : decode cX8_reports 19 = .ok (.iaload, 1) := by decide +kernel
theorem dX8_reports_20 : decode cX8_reports 20 = .ok (.iastore, 1) := by decide +kernel
theorem dX8_reports_21 : decode cX8_reports 21 = .ok (.aload_n 0, 1) := by decide +kernel
theorem dX8_reports_22 : decode cX8_reports 22 = .ok (.getfield 59, 3) := by decide +kernel
theorem dX8_reports_25 : decode cX8_reports 25 = .ok (.iconst 1, 1) := by decide +kernel
theorem dX8_reports_26 : decode cX8_reports 26 = .ok (.iconst 2, 1) := by decide +kernel
theorem dX8_reports_27 : decode cX8_reports 27 = .ok (.iload_n 1, 1) := by decide +kernel
theorem dX8_reports_28 : decode cX8_reports 28 = .ok (.iadd, 1) := by decide +kernel
theorem dX8_reports_29 : decode cX8_reports 29 = .ok (.iastore, 1) := by decide +kernel
theorem dX8_reports_30 : decode cX8_reports 30 = .ok (.aload_n 0, 1) := by decide +kernel
theorem dX8_reports_31 : decode cX8_reports 31 = .ok (.getfield 62, 3) := by decide +kernel
theorem dX8_reports_34 : decode cX8_reports 34 = .ok (.iconst 1, 1) := by decide +kernel
theorem dX8_reports_35 : decode cX8_reports 35 = .ok (.iload_n 2, 1) := by decide +kernel
theorem dX8_reports_36 : decode cX8_reports 36 = .ok (.iastore, 1) := by decide +kernel
theorem dX8_reports_37 : decode cX8_reports 37 = .ok (.aload_n 0, 1) := by decide +kernel
theorem dX8_reports_38 : decode cX8_reports 38 = .ok (.getfield 59, 3) := by decide +kernel
theorem dX8_reports_41 : decode cX8_reports 41 = .ok (.iconst 2, 1) := by decide +kernel
theorem dX8_reports_42 : decode cX8_reports 42 = .ok (.bipush 10, 2) := by decide +kernel
theorem dX8_reports_44 : decode cX8_reports 44 = .ok (.aload_n 0, 1) := by decide +kernel
theorem dX8_reports_45 : decode cX8_reports 45 = .ok (.getfield 20, 3) := by decide +kernel
theorem dX8_reports_48 : decode cX8_reports 48 = .ok (.iload_n 2, 1) := by decide +kernel
theorem dX8_reports_49 : decode cX8_reports 49 = .ok (.iaload, 1) := by decide +kernel
theorem dX8_reports_50 : decode cX8_reports 50 = .ok (.iadd, 1) := by decide +kernel
theorem dX8_reports_51 : decode cX8_reports 51 = .ok (.iastore, 1) := by decide +kernel
theorem dX8_reports_52 : decode cX8_reports 52 = .ok (.aload_n 0, 1) := by decide +kernel
theorem dX8_reports_53 : decode cX8_reports 53 = .ok (.getfield 62, 3) := by decide +kernel
theorem dX8_reports_56 : decode cX8_reports 56 = .ok (.iconst 2, 1) := by decide +kernel
theorem dX8_reports_57 : decode cX8_reports 57 = .ok (.aload_n 0, 1) := by decide +kernel
theorem dX8_reports_58 : decode cX8_reports 58 = .ok (.getfield 20, 3) := by decide +kernel
theorem dX8_reports_61 : decode cX8_reports 61 = .ok (.bipush 49, 2) := by decide +kernel
theorem dX8_reports_63 : decode cX8_reports 63 = .ok (.iload_n 2, 1) := by decide +kernel
theorem dX8_reports_64 : decode cX8_reports 64 = .ok (.iadd, 1) := by decide +kernel
theorem dX8_reports_65 : decode cX8_reports 65 = .ok (.iaload, 1) := by decide +kernel
theorem dX8_reports_66 : decode cX8_reports 66 = .ok (.iastore, 1) := by decide +kernel
theorem dX8_reports_67 : decode cX8_reports 67 = .ok (.aload_n 0, 1) := by decide +kernel
theorem dX8_reports_68 : decode cX8_reports 68 = .ok (.iconst 3, 1) := by decide +kernel
theorem dX8_reports_69 : decode cX8_reports 69 = .ok (.putfield 154, 3) := by decide +kernel
theorem dX8_reports_72 : decode cX8_reports 72 = .ok (.aload_n 0, 1) := by decide +kernel
theorem dX8_reports_73 : decode cX8_reports 73 = .ok (.getfield 20, 3) := by decide +kernel
theorem dX8_reports_76 : decode cX8_reports 76 = .ok (.bipush 98, 2) := by decide +kernel
theorem dX8_reports_78 : decode cX8_reports 78 = .ok (.iload_n 2, 1) := by decide +kernel
theorem dX8_reports_79 : decode cX8_reports 79 = .ok (.iadd, 1) := by decide +kernel
theorem dX8_reports_80 : decode cX8_reports 80 = .ok (.iaload, 1) := by decide +kernel
theorem dX8_reports_81 : decode cX8_reports 81 = .ok (.ifCond .ge 4, 3) := by decide +kernel
theorem dX8_reports_84 : decode cX8_reports 84 = .ok (.return_, 1) := by decide +kernel
theorem dX8_reports_85 : decode cX8_reports 85 = .ok (.aload_n 0, 1) := by decide +kernel
theorem dX8_reports_86 : decode cX8_reports 86 = .ok (.getfield 59, 3) := by decide +kernel
theorem dX8_reports_89 : decode cX8_reports 89 = .ok (.iconst 3, 1) := by decide +kernel
theorem dX8_reports_90 : decode cX8_reports 90 = .ok (.bipush 20, 2) := by decide +kernel
theorem dX8_reports_92 : decode cX8_reports 92 = .ok (.aload_n 0, 1) := by decide +kernel
theorem dX8_reports_93 : decode cX8_reports 93 = .ok (.getfield 20, 3) := by decide +kernel
theorem dX8_reports_96 : decode cX8_reports 96 = .ok (.bipush 98, 2) := by decide +kernel
theorem dX8_reports_98 : decode cX8_reports 98 = .ok (.iload_n 2, 1) := by decide +kernel
theorem dX8_reports_99 : decode cX8_reports 99 = .ok (.iadd, 1) := by decide +kernel
theorem dX8_reports_100 : decode cX8_reports 100 = .ok (.iaload, 1) := by decide +kernel
theorem dX8_reports_101 : decode cX8_reports 101 = .ok (.iadd, 1) := by decide +kernel
theorem dX8_reports_102 : decode cX8_reports 102 = .ok (.iastore, 1) := by decide +kernel
theorem dX8_reports_103 : decode cX8_reports 103 = .ok (.aload_n 0, 1) := by decide +kernel
theorem dX8_reports_104 : decode cX8_reports 104 = .ok (.getfield 62, 3) := by decide +kernel
theorem dX8_reports_107 : decode cX8_reports 107 = .ok (.iconst 3, 1) := by decide +kernel
theorem dX8_reports_108 : decode cX8_reports 108 = .ok (.aload_n 0, 1) := by decide +kernel
theorem dX8_reports_109 : decode cX8_reports 109 = .ok (.getfield 35, 3) := by decide +kernel
theorem dX8_reports_112 : decode cX8_reports 112 = .ok (.bipush 8, 2) := by decide +kernel
theorem dX8_reports_114 : decode cX8_reports 114 = .ok (.aload_n 0, 1) := by decide +kernel
theorem dX8_reports_115 : decode cX8_reports 115 = .ok (.getfield 20, 3) := by decide +kernel
theorem dX8_reports_118 : decode cX8_reports 118 = .ok (.bipush 49, 2) := by decide +kernel
theorem dX8_reports_120 : decode cX8_reports 120 = .ok (.iload_n 2, 1) := by decide +kernel
theorem dX8_reports_121 : decode cX8_reports 121 = .ok (.iadd, 1) := by decide +kernel
theorem dX8_reports_122 : decode cX8_reports 122 = .ok (.iaload, 1) := by decide +kernel
theorem dX8_reports_123 : decode cX8_reports 123 = .ok (.imul, 1) := by decide +kernel
theorem dX8_reports_124 : decode cX8_reports 124 = .ok (.aload_n 0, 1) := by decide +kernel
theorem dX8_reports_125 : decode cX8_reports 125 = .ok (.getfield 20, 3) := by decide +kernel
theorem dX8_reports_128 : decode cX8_reports 128 = .ok (.bipush 98, 2) := by decide +kernel
theorem dX8_reports_130 : decode cX8_reports 130 = .ok (.iload_n 2, 1) := by decide +kernel
theorem dX8_reports_131 : decode cX8_reports 131 = .ok (.iadd, 1) := by decide +kernel
theorem dX8_reports_132 : decode cX8_reports 132 = .ok (.iaload, 1) := by decide +kernel
theorem dX8_reports_133 : decode cX8_reports 133 = .ok (.iadd, 1) := by decide +kernel
theorem dX8_reports_134 : decode cX8_reports 134 = .ok (.iaload, 1) := by decide +kernel
theorem dX8_reports_135 : decode cX8_reports 135 = .ok (.iastore, 1) := by decide +kernel
theorem dX8_reports_136 : decode cX8_reports 136 = .ok (.aload_n 0, 1) := by decide +kernel
theorem dX8_reports_137 : decode cX8_reports 137 = .ok (.iconst 4, 1) := by decide +kernel
theorem dX8_reports_138 : decode cX8_reports 138 = .ok (.putfield 154, 3) := by decide +kernel
theorem dX8_reports_141 : decode cX8_reports 141 = .ok (.return_, 1) := by decide +kernel
theorem dX8_goes_0 : decode cX8_goes 0 = .ok (.aload_n 0, 1) := by decide +kernel
theorem dX8_goes_1 : decode cX8_goes 1 = .ok (.iload_n 1, 1) := by decide +kernel
theorem dX8_goes_2 : decode cX8_goes 2 = .ok (.invokevirtual 157, 3) := by decide +kernel
theorem dX8_goes_5 : decode cX8_goes 5 = .ok (.ifCond .eq 11, 3) := by decide +kernel
theorem dX8_goes_8 : decode cX8_goes 8 = .ok (.aload_n 0, 1) := by decide +kernel
theorem dX8_goes_9 : decode cX8_goes 9 = .ok (.iload_n 2, 1) := by decide +kernel
theorem dX8_goes_10 : decode cX8_goes 10 = .ok (.invokevirtual 157, 3) := by decide +kernel
theorem dX8_goes_13 : decode cX8_goes 13 = .ok (.ifCond .ne 28, 3) := by decide +kernel
theorem dX8_goes_16 : decode cX8_goes 16 = .ok (.aload_n 0, 1) := by decide +kernel
theorem dX8_goes_17 : decode cX8_goes 17 = .ok (.iload_n 1, 1) := by decide +kernel
theorem dX8_goes_18 : decode cX8_goes 18 = .ok (.invokevirtual 157, 3) := by decide +kernel
theorem dX8_goes_21 : decode cX8_goes 21 = .ok (.ifCond .ne 12, 3) := by decide +kernel
theorem dX8_goes_24 : decode cX8_goes 24 = .ok (.aload_n 0, 1) := by decide +kernel
theorem dX8_goes_25 : decode cX8_goes 25 = .ok (.iconst 0, 1) := by decide +kernel
theorem dX8_goes_26 : decode cX8_goes 26 = .ok (.iload_n 1, 1) := by decide +kernel
theorem dX8_goes_27 : decode cX8_goes 27 = .ok (.invokevirtual 160, 3) := by decide +kernel
theorem dX8_goes_30 : decode cX8_goes 30 = .ok (.goto 9, 3) := by decide +kernel
theorem dX8_goes_33 : decode cX8_goes 33 = .ok (.aload_n 0, 1) := by decide +kernel
theorem dX8_goes_34 : decode cX8_goes 34 = .ok (.iconst 1, 1) := by decide +kernel
theorem dX8_goes_35 : decode cX8_goes 35 = .ok (.iload_n 2, 1) := by decide +kernel
theorem dX8_goes_36 : decode cX8_goes 36 = .ok (.invokevirtual 160, 3) := by decide +kernel
theorem dX8_goes_39 : decode cX8_goes 39 = .ok (.iconst 0, 1) := by decide +kernel
theorem dX8_goes_40 : decode cX8_goes 40 = .ok (.ireturn, 1) := by decide +kernel
theorem dX8_goes_41 : decode cX8_goes 41 = .ok (.aload_n 0, 1) := by decide +kernel
theorem dX8_goes_42 : decode cX8_goes 42 = .ok (.getfield 20, 3) := by decide +kernel
theorem dX8_goes_45 : decode cX8_goes 45 = .ok (.sipush 153, 3) := by decide +kernel
theorem dX8_goes_48 : decode cX8_goes 48 = .ok (.iaload, 1) := by decide +kernel
theorem dX8_goes_49 : decode cX8_goes 49 = .ok (.istore_n 3, 1) := by decide +kernel
theorem dX8_goes_50 : decode cX8_goes 50 = .ok (.iconst 0, 1) := by decide +kernel
theorem dX8_goes_51 : decode cX8_goes 51 = .ok (.istore 4, 2) := by decide +kernel
theorem dX8_goes_53 : decode cX8_goes 53 = .ok (.iload 4, 2) := by decide +kernel
theorem dX8_goes_55 : decode cX8_goes 55 = .ok (.sipush 155, 3) := by decide +kernel
theorem dX8_goes_58 : decode cX8_goes 58 = .ok (.if_icmp .ge 29, 3) := by decide +kernel
theorem dX8_goes_61 : decode cX8_goes 61 = .ok (.aload_n 0, 1) := by decide +kernel
theorem dX8_goes_62 : decode cX8_goes 62 = .ok (.getfield 29, 3) := by decide +kernel
theorem dX8_goes_65 : decode cX8_goes 65 = .ok (.sipush 155, 3) := by decide +kernel
theorem dX8_goes_68 : decode cX8_goes 68 = .ok (.iload_n 3, 1) := by decide +kernel
theorem dX8_goes_69 : decode cX8_goes 69 = .ok (.imul, 1) := by decide +kernel
theorem dX8_goes_70 : decode cX8_goes 70 = .ok (.iload 4, 2) := by decide +kernel
theorem dX8_goes_72 : decode cX8_goes 72 = .ok (.iadd, 1) := by decide +kernel
theorem dX8_goes_73 : decode cX8_goes 73 = .ok (.aload_n 0, 1) := by decide +kernel
theorem dX8_goes_74 : decode cX8_goes 74 = .ok (.getfield 20, 3) := by decide +kernel
theorem dX8_goes_77 : decode cX8_goes 77 = .ok (.iload 4, 2) := by decide +kernel
theorem dX8_goes_79 : decode cX8_goes 79 = .ok (.iaload, 1) := by decide +kernel
theorem dX8_goes_80 : decode cX8_goes 80 = .ok (.iastore, 1) := by decide +kernel
theorem dX8_goes_81 : decode cX8_goes 81 = .ok (.iinc 4 1, 3) := by decide +kernel
theorem dX8_goes_84 : decode cX8_goes 84 = .ok (.goto (-31), 3) := by decide +kernel
theorem dX8_goes_87 : decode cX8_goes 87 = .ok (.aload_n 0, 1) := by decide +kernel
theorem dX8_goes_88 : decode cX8_goes 88 = .ok (.iload_n 1, 1) := by decide +kernel
theorem dX8_goes_89 : decode cX8_goes 89 = .ok (.iload_n 2, 1) := by decide +kernel
theorem dX8_goes_90 : decode cX8_goes 90 = .ok (.invokevirtual 164, 3) := by decide +kernel
theorem dX8_goes_93 : decode cX8_goes 93 = .ok (.bipush 7, 2) := by decide +kernel
theorem dX8_goes_95 : decode cX8_goes 95 = .ok (.iload_n 3, 1) := by decide +kernel
theorem dX8_goes_96 : decode cX8_goes 96 = .ok (.imul, 1) := by decide +kernel
theorem dX8_goes_97 : decode cX8_goes 97 = .ok (.istore 4, 2) := by decide +kernel
theorem dX8_goes_99 : decode cX8_goes 99 = .ok (.aload_n 0, 1) := by decide +kernel
theorem dX8_goes_100 : decode cX8_goes 100 = .ok (.getfield 32, 3) := by decide +kernel
theorem dX8_goes_103 : decode cX8_goes 103 = .ok (.iload 4, 2) := by decide +kernel
theorem dX8_goes_105 : decode cX8_goes 105 = .ok (.iload_n 1, 1) := by decide +kernel
theorem dX8_goes_106 : decode cX8_goes 106 = .ok (.iastore, 1) := by decide +kernel
theorem dX8_goes_107 : decode cX8_goes 107 = .ok (.aload_n 0, 1) := by decide +kernel
theorem dX8_goes_108 : decode cX8_goes 108 = .ok (.getfield 32, 3) := by decide +kernel
theorem dX8_goes_111 : decode cX8_goes 111 = .ok (.iload 4, 2) := by decide +kernel
theorem dX8_goes_113 : decode cX8_goes 113 = .ok (.iconst 1, 1) := by decide +kernel
theorem dX8_goes_114 : decode cX8_goes 114 = .ok (.iadd, 1) := by decide +kernel
theorem dX8_goes_115 : decode cX8_goes 115 = .ok (.iload_n 2, 1) := by decide +kernel
theorem dX8_goes_116 : decode cX8_goes 116 = .ok (.iastore, 1) := by decide +kernel
theorem dX8_goes_117 : decode cX8_goes 117 = .ok (.aload_n 0, 1) := by decide +kernel
theorem dX8_goes_118 : decode cX8_goes 118 = .ok (.getfield 32, 3) := by decide +kernel
theorem dX8_goes_121 : decode cX8_goes 121 = .ok (.iload 4, 2) := by decide +kernel
theorem dX8_goes_123 : decode cX8_goes 123 = .ok (.iconst 2, 1) := by decide +kernel
theorem dX8_goes_124 : decode cX8_goes 124 = .ok (.iadd, 1) := by decide +kernel
theorem dX8_goes_125 : decode cX8_goes 125 = .ok (.aload_n 0, 1) := by decide +kernel
theorem dX8_goes_126 : decode cX8_goes 126 = .ok (.getfield 135, 3) := by decide +kernel
theorem dX8_goes_129 : decode cX8_goes 129 = .ok (.iastore, 1) := by decide +kernel
theorem dX8_goes_130 : decode cX8_goes 130 = .ok (.aload_n 0, 1) := by decide +kernel
theorem dX8_goes_131 : decode cX8_goes 131 = .ok (.getfield 32, 3) := by decide +kernel
theorem dX8_goes_134 : decode cX8_goes 134 = .ok (.iload 4, 2) := by decide +kernel
theorem dX8_goes_136 : decode cX8_goes 136 = .ok (.iconst 3, 1) := by decide +kernel
theorem dX8_goes_137 : decode cX8_goes 137 = .ok (.iadd, 1) := by decide +kernel
theorem dX8_goes_138 : decode cX8_goes 138 = .ok (.aload_n 0, 1) := by decide +kernel
theorem dX8_goes_139 : decode cX8_goes 139 = .ok (.getfield 141, 3) := by decide +kernel
theorem dX8_goes_142 : decode cX8_goes 142 = .ok (.iastore, 1) := by decide +kernel
theorem dX8_goes_143 : decode cX8_goes 143 = .ok (.aload_n 0, 1) := by decide +kernel
theorem dX8_goes_144 : decode cX8_goes 144 = .ok (.getfield 32, 3) := by decide +kernel
theorem dX8_goes_147 : decode cX8_goes 147 = .ok (.iload 4, 2) := by decide +kernel
theorem dX8_goes_149 : decode cX8_goes 149 = .ok (.iconst 4, 1) := by decide +kernel
theorem dX8_goes_150 : decode cX8_goes 150 = .ok (.iadd, 1) := by decide +kernel
theorem dX8_goes_151 : decode cX8_goes 151 = .ok (.aload_n 0, 1) := by decide +kernel
theorem dX8_goes_152 : decode cX8_goes 152 = .ok (.getfield 144, 3) := by decide +kernel
theorem dX8_goes_155 : decode cX8_goes 155 = .ok (.iastore, 1) := by decide +kernel
theorem dX8_goes_156 : decode cX8_goes 156 = .ok (.aload_n 0, 1) := by decide +kernel
theorem dX8_goes_157 : decode cX8_goes 157 = .ok (.getfield 32, 3) := by decide +kernel
theorem dX8_goes_160 : decode cX8_goes 160 = .ok (.iload 4, 2) := by decide +kernel
theorem dX8_goes_162 : decode cX8_goes 162 = .ok (.iconst 5, 1) := by decide +kernel
theorem dX8_goes_163 : decode cX8_goes 163 = .ok (.iadd, 1) := by decide +kernel
theorem dX8_goes_164 : decode cX8_goes 164 = .ok (.aload_n 0, 1) := by decide +kernel
theorem dX8_goes_165 : decode cX8_goes 165 = .ok (.iconst 0, 1) := by decide +kernel
theorem dX8_goes_166 : decode cX8_goes 166 = .ok (.invokevirtual 138, 3) := by decide +kernel
theorem dX8_goes_169 : decode cX8_goes 169 = .ok (.iastore, 1) := by decide +kernel
theorem dX8_goes_170 : decode cX8_goes 170 = .ok (.aload_n 0, 1) := by decide +kernel
theorem dX8_goes_171 : decode cX8_goes 171 = .ok (.getfield 32, 3) := by decide +kernel
theorem dX8_goes_174 : decode cX8_goes 174 = .ok (.iload 4, 2) := by decide +kernel
theorem dX8_goes_176 : decode cX8_goes 176 = .ok (.bipush 6, 2) := by decide +kernel
theorem dX8_goes_178 : decode cX8_goes 178 = .ok (.iadd, 1) := by decide +kernel
theorem dX8_goes_179 : decode cX8_goes 179 = .ok (.aload_n 0, 1) := by decide +kernel
theorem dX8_goes_180 : decode cX8_goes 180 = .ok (.iconst 1, 1) := by decide +kernel
theorem dX8_goes_181 : decode cX8_goes 181 = .ok (.invokevirtual 138, 3) := by decide +kernel
theorem dX8_goes_184 : decode cX8_goes 184 = .ok (.iastore, 1) := by decide +kernel
theorem dX8_goes_185 : decode cX8_goes 185 = .ok (.iconst 0, 1) := by decide +kernel
theorem dX8_goes_186 : decode cX8_goes 186 = .ok (.istore 5, 2) := by decide +kernel
theorem dX8_goes_188 : decode cX8_goes 188 = .ok (.iload 5, 2) := by decide +kernel
theorem dX8_goes_190 : decode cX8_goes 190 = .ok (.aload_n 0, 1) := by decide +kernel
theorem dX8_goes_191 : decode cX8_goes 191 = .ok (.getfield 141, 3) := by decide +kernel
theorem dX8_goes_194 : decode cX8_goes 194 = .ok (.if_icmp .ge 28, 3) := by decide +kernel
theorem dX8_goes_197 : decode cX8_goes 197 = .ok (.aload_n 0, 1) := by decide +kernel
theorem dX8_goes_198 : decode cX8_goes 198 = .ok (.getfield 35, 3) := by decide +kernel
theorem dX8_goes_201 : decode cX8_goes 201 = .ok (.bipush 8, 2) := by decide +kernel
theorem dX8_goes_203 : decode cX8_goes 203 = .ok (.iload_n 3, 1) := by decide +kernel
theorem dX8_goes_204 : decode cX8_goes 204 = .ok (.imul, 1) := by decide +kernel
theorem dX8_goes_205 : decode cX8_goes 205 = .ok (.iload 5, 2) := by decide +kernel
theorem dX8_goes_207 : decode cX8_goes 207 = .ok (.iadd, 1) := by decide +kernel
theorem dX8_goes_208 : decode cX8_goes 208 = .ok (.aload_n 0, 1) := by decide +kernel
theorem dX8_goes_209 : decode cX8_goes 209 = .ok (.getfield 56, 3) := by decide +kernel
theorem dX8_goes_212 : decode cX8_goes 212 = .ok (.iload 5, 2) := by decide +kernel
theorem dX8_goes_214 : decode cX8_goes 214 = .ok (.iaload, 1) := by decide +kernel
theorem dX8_goes_215 : decode cX8_goes 215 = .ok (.iastore, 1) := by decide +kernel
theorem dX8_goes_216 : decode cX8_goes 216 = .ok (.iinc 5 1, 3) := by decide +kernel
theorem dX8_goes_219 : decode cX8_goes 219 = .ok (.goto (-31), 3) := by decide +kernel
theorem dX8_goes_222 : decode cX8_goes 222 = .ok (.iconst 1, 1) := by decide +kernel
theorem dX8_goes_223 : decode cX8_goes 223 = .ok (.ireturn, 1) := by decide +kernel
theorem dX8_play_0 : decode cX8_play 0 = .ok (.aload_n 0, 1) := by decide +kernel
theorem dX8_play_1 : decode cX8_play 1 = .ok (.aload_n 0, 1) := by decide +kernel
theorem dX8_play_2 : decode cX8_play 2 = .ok (.iload_n 1, 1) := by decide +kernel
theorem dX8_play_3 : decode cX8_play 3 = .ok (.invokevirtual 167, 3) := by decide +kernel
theorem dX8_play_6 : decode cX8_play 6 = .ok (.ifCond .eq 11, 3) := by decide +kernel
theorem dX8_play_9 : decode cX8_play 9 = .ok (.aload_n 0, 1) := by decide +kernel
theorem dX8_play_10 : decode cX8_play 10 = .ok (.iload_n 2, 1) := by decide +kernel
theorem dX8_play_11 : decode cX8_play 11 = .ok (.invokevirtual 167, 3) := by decide +kernel
theorem dX8_play_14 : decode cX8_play 14 = .ok (.ifCond .ne 7, 3) := by decide +kernel
theorem dX8_play_17 : decode cX8_play 17 = .ok (.iconst 1, 1) := by decide +kernel
theorem dX8_play_18 : decode cX8_play 18 = .ok (.goto 15, 3) := by decide +kernel
theorem dX8_play_21 : decode cX8_play 21 = .ok (.aload_n 0, 1) := by decide +kernel
theorem dX8_play_22 : decode cX8_play 22 = .ok (.invokevirtual 170, 3) := by decide +kernel
theorem dX8_play_25 : decode cX8_play 25 = .ok (.ifCond .eq 7, 3) := by decide +kernel
theorem dX8_play_28 : decode cX8_play 28 = .ok (.iconst 2, 1) := by decide +kernel
theorem dX8_play_29 : decode cX8_play 29 = .ok (.goto 4, 3) := by decide +kernel
theorem dX8_play_32 : decode cX8_play 32 = .ok (.iconst 0, 1) := by decide +kernel
theorem dX8_play_33 : decode cX8_play 33 = .ok (.putfield 73, 3) := by decide +kernel
theorem dX8_play_36 : decode cX8_play 36 = .ok (.aload_n 0, 1) := by decide +kernel
theorem dX8_play_37 : decode cX8_play 37 = .ok (.getfield 73, 3) := by decide +kernel
theorem dX8_play_40 : decode cX8_play 40 = .ok (.ifCond .le 5, 3) := by decide +kernel
theorem dX8_play_43 : decode cX8_play 43 = .ok (.iconst 0, 1) := by decide +kernel
theorem dX8_play_44 : decode cX8_play 44 = .ok (.ireturn, 1) := by decide +kernel
theorem dX8_play_45 : decode cX8_play 45 = .ok (.aload_n 0, 1) := by decide +kernel
theorem dX8_play_46 : decode cX8_play 46 = .ok (.iload_n 1, 1) := by decide +kernel
theorem dX8_play_47 : decode cX8_play 47 = .ok (.iload_n 2, 1) := by decide +kernel
theorem dX8_play_48 : decode cX8_play 48 = .ok (.invokevirtual 174, 3) := by decide +kernel
theorem dX8_play_51 : decode cX8_play 51 = .ok (.ifCond .eq 10, 3) := by decide +kernel
theorem dX8_play_54 : decode cX8_play 54 = .ok (.aload_n 0, 1) := by decide +kernel
theorem dX8_play_55 : decode cX8_play 55 = .ok (.getfield 144, 3) := by decide +kernel
theorem dX8_play_58 : decode cX8_play 58 = .ok (.goto 8, 3) := by decide +kernel
theorem dX8_play_61 : decode cX8_play 61 = .ok (.aload_n 0, 1) := by decide +kernel
theorem dX8_play_62 : decode cX8_play 62 = .ok (.iconst 3, 1) := by decide +kernel
theorem dX8_play_63 : decode cX8_play 63 = .ok (.invokevirtual 178, 3) := by decide +kernel
theorem dX8_play_66 : decode cX8_play 66 = .ok (.ireturn, 1) := by decide +kernel
theorem dX8_undo_0 : decode cX8_undo 0 = .ok (.aload_n 0, 1) := by decide +kernel
theorem dX8_undo_1 : decode cX8_undo 1 = .ok (.aload_n 0, 1) := by decide +kernel
theorem dX8_undo_2 : decode cX8_undo 2 = .ok (.getfield 20, 3) := by decide +kernel
theorem dX8_undo_5 : decode cX8_undo 5 = .ok (.sipush 153, 3) := by decide +kernel
theorem dX8_undo_8 : decode cX8_undo 8 = .ok (.iaload, 1) := by decide +kernel
theorem dX8_undo_9 : decode cX8_undo 9 = .ok (.ifCond .ne 7, 3) := by decide +kernel
theorem dX8_undo_12 : decode cX8_undo 12 = .ok (.iconst 1, 1) := by decide +kernel
theorem dX8_undo_13 : decode cX8_undo 13 = .ok (.goto 4, 3) := by decide +kernel
theorem dX8_undo_16 : decode cX8_undo 16 = .ok (.iconst 0, 1) := by decide +kernel
theorem dX8_undo_17 : decode cX8_undo 17 = .ok (.putfield 73, 3) := by decide +kernel
theorem dX8_undo_20 : decode cX8_undo 20 = .ok (.aload_n 0, 1) := by decide +kernel
theorem dX8_undo_21 : decode cX8_undo 21 = .ok (.getfield 73, 3) := by decide +kernel
theorem dX8_undo_24 : decode cX8_undo 24 = .ok (.iconst 1, 1) := by decide +kernel
theorem dX8_undo_25 : decode cX8_undo 25 = .ok (.if_icmp .ne 5, 3) := by decide +kernel
theorem dX8_undo_28 : decode cX8_undo 28 = .ok (.iconst 0, 1) := by decide +kernel
theorem dX8_undo_29 : decode cX8_undo 29 = .ok (.ireturn, 1) := by decide +kernel
theorem dX8_undo_30 : decode cX8_undo 30 = .ok (.aload_n 0, 1) := by decide +kernel
theorem dX8_undo_31 : decode cX8_undo 31 = .ok (.getfield 20, 3) := by decide +kernel
theorem dX8_undo_34 : decode cX8_undo 34 = .ok (.sipush 153, 3) := by decide +kernel
theorem dX8_undo_37 : decode cX8_undo 37 = .ok (.iaload, 1) := by decide +kernel
theorem dX8_undo_38 : decode cX8_undo 38 = .ok (.iconst 1, 1) := by decide +kernel
theorem dX8_undo_39 : decode cX8_undo 39 = .ok (.isub, 1) := by decide +kernel
theorem dX8_undo_40 : decode cX8_undo 40 = .ok (.istore_n 1, 1) := by decide +kernel
theorem dX8_undo_41 : decode cX8_undo 41 = .ok (.iconst 0, 1) := by decide +kernel
theorem dX8_undo_42 : decode cX8_undo 42 = .ok (.istore_n 2, 1) := by decide +kernel
theorem dX8_undo_43 : decode cX8_undo 43 = .ok (.iload_n 2, 1) := by decide +kernel
theorem dX8_undo_44 : decode cX8_undo 44 = .ok (.sipush 155, 3) := by decide +kernel
theorem dX8_undo_47 : decode cX8_undo 47 = .ok (.if_icmp .ge 27, 3) := by decide +kernel
theorem dX8_undo_50 : decode cX8_undo 50 = .ok (.aload_n 0, 1) := by decide +kernel
theorem dX8_undo_51 : decode cX8_undo 51 = .ok (.getfield 20, 3) := by decide +kernel
theorem dX8_undo_54 : decode cX8_undo 54 = .ok (.iload_n 2, 1) := by decide +kernel
theorem dX8_undo_55 : decode cX8_undo 55 = .ok (.aload_n 0, 1) := by decide +kernel
theorem dX8_undo_56 : decode cX8_undo 56 = .ok (.getfield 29, 3) := by decide +kernel
theorem dX8_undo_59 : decode cX8_undo 59 = .ok (.sipush 155, 3) := by decide +kernel
theorem dX8_undo_62 : decode cX8_undo 62 = .ok (.iload_n 1, 1) := by decide +kernel
theorem dX8_undo_63 : decode cX8_undo 63 = .ok (.imul, 1) := by decide +kernel
theorem dX8_undo_64 : decode cX8_undo 64 = .ok (.iload_n 2, 1) := by decide +kernel
theorem dX8_undo_65 : decode cX8_undo 65 = .ok (.iadd, 1) := by decide +kernel
theorem dX8_undo_66 : decode cX8_undo 66 = .ok (.iaload, 1) := by decide +kernel
theorem dX8_undo_67 : decode cX8_undo 67 = .ok (.iastore, 1) := by decide +kernel
theorem dX8_undo_68 : decode cX8_undo 68 = .ok (.iinc 2 1, 3) := by decide +kernel
theorem dX8_undo_71 : decode cX8_undo 71 = .ok (.goto (-28), 3) := by decide +kernel
theorem dX8_undo_74 : decode cX8_undo 74 = .ok (.iload_n 1, 1) := by decide +kernel
theorem dX8_undo_75 : decode cX8_undo 75 = .ok (.ireturn, 1) := by decide +kernel
theorem dX8_isOver_0 : decode cX8_isOver 0 = .ok (.aload_n 0, 1) := by decide +kernel
theorem dX8_isOver_1 : decode cX8_isOver 1 = .ok (.iconst 0, 1) := by decide +kernel
theorem dX8_isOver_2 : decode cX8_isOver 2 = .ok (.putfield 73, 3) := by decide +kernel
theorem dX8_isOver_5 : decode cX8_isOver 5 = .ok (.aload_n 0, 1) := by decide +kernel
theorem dX8_isOver_6 : decode cX8_isOver 6 = .ok (.invokevirtual 170, 3) := by decide +kernel
theorem dX8_isOver_9 : decode cX8_isOver 9 = .ok (.ireturn, 1) := by decide +kernel
theorem dX8_cell_0 : decode cX8_cell 0 = .ok (.aload_n 0, 1) := by decide +kernel
theorem dX8_cell_1 : decode cX8_cell 1 = .ok (.iload_n 1, 1) := by decide +kernel
theorem dX8_cell_2 : decode cX8_cell 2 = .ok (.iconst 0, 1) := by decide +kernel
theorem dX8_cell_3 : decode cX8_cell 3 = .ok (.aload_n 0, 1) := by decide +kernel
theorem dX8_cell_4 : decode cX8_cell 4 = .ok (.getfield 9, 3) := by decide +kernel
theorem dX8_cell_7 : decode cX8_cell 7 = .ok (.iconst 1, 1) := by decide +kernel
theorem dX8_cell_8 : decode cX8_cell 8 = .ok (.isub, 1) := by decide +kernel
theorem dX8_cell_9 : decode cX8_cell 9 = .ok (.invokestatic 80, 3) := by decide +kernel
theorem dX8_cell_12 : decode cX8_cell 12 = .ok (.ifCond .eq 21, 3) := by decide +kernel
theorem dX8_cell_15 : decode cX8_cell 15 = .ok (.iload_n 2, 1) := by decide +kernel
theorem dX8_cell_16 : decode cX8_cell 16 = .ok (.iconst 0, 1) := by decide +kernel
theorem dX8_cell_17 : decode cX8_cell 17 = .ok (.aload_n 0, 1) := by decide +kernel
theorem dX8_cell_18 : decode cX8_cell 18 = .ok (.getfield 13, 3) := by decide +kernel
theorem dX8_cell_21 : decode cX8_cell 21 = .ok (.iconst 1, 1) := by decide +kernel
theorem dX8_cell_22 : decode cX8_cell 22 = .ok (.isub, 1) := by decide +kernel
theorem dX8_cell_23 : decode cX8_cell 23 = .ok (.invokestatic 80, 3) := by decide +kernel
theorem dX8_cell_26 : decode cX8_cell 26 = .ok (.ifCond .eq 7, 3) := by decide +kernel
theorem dX8_cell_29 : decode cX8_cell 29 = .ok (.iconst 0, 1) := by decide +kernel
theorem dX8_cell_30 : decode cX8_cell 30 = .ok (.goto 4, 3) := by decide +kernel
theorem dX8_cell_33 : decode cX8_cell 33 = .ok (.iconst 1, 1) := by decide +kernel
theorem dX8_cell_34 : decode cX8_cell 34 = .ok (.putfield 73, 3) := by decide +kernel
theorem dX8_cell_37 : decode cX8_cell 37 = .ok (.aload_n 0, 1) := by decide +kernel
theorem dX8_cell_38 : decode cX8_cell 38 = .ok (.getfield 73, 3) := by decide +kernel
theorem dX8_cell_41 : decode cX8_cell 41 = .ok (.ifCond .ne 19, 3) := by decide +kernel
theorem dX8_cell_44 : decode cX8_cell 44 = .ok (.aload_n 0, 1) := by decide +kernel
theorem dX8_cell_45 : decode cX8_cell 45 = .ok (.getfield 20, 3) := by decide +kernel
theorem dX8_cell_48 : decode cX8_cell 48 = .ok (.iload_n 2, 1) := by decide +kernel
theorem dX8_cell_49 : decode cX8_cell 49 = .ok (.aload_n 0, 1) := by decide +kernel
theorem dX8_cell_50 : decode cX8_cell 50 = .ok (.getfield 9, 3) := by decide +kernel
theorem dX8_cell_53 : decode cX8_cell 53 = .ok (.imul, 1) := by decide +kernel
theorem dX8_cell_54 : decode cX8_cell 54 = .ok (.iload_n 1, 1) := by decide +kernel
theorem dX8_cell_55 : decode cX8_cell 55 = .ok (.iadd, 1) := by decide +kernel
theorem dX8_cell_56 : decode cX8_cell 56 = .ok (.iaload, 1) := by decide +kernel
theorem dX8_cell_57 : decode cX8_cell 57 = .ok (.goto 4, 3) := by decide +kernel
theorem dX8_cell_60 : decode cX8_cell 60 = .ok (.iconst 0, 1) := by decide +kernel
theorem dX8_cell_61 : decode cX8_cell 61 = .ok (.ireturn, 1) := by decide +kernel
theorem dX8_since_0 : decode cX8_since 0 = .ok (.aload_n 0, 1) := by decide +kernel
theorem dX8_since_1 : decode cX8_since 1 = .ok (.aload_n 0, 1) := by decide +kernel
theorem dX8_since_2 : decode cX8_since 2 = .ok (.iload_n 1, 1) := by decide +kernel
theorem dX8_since_3 : decode cX8_since 3 = .ok (.invokevirtual 150, 3) := by decide +kernel
theorem dX8_since_6 : decode cX8_since 6 = .ok (.ifCond .ne 7, 3) := by decide +kernel
theorem dX8_since_9 : decode cX8_since 9 = .ok (.iconst 1, 1) := by decide +kernel
theorem dX8_since_10 : decode cX8_since 10 = .ok (.goto 17, 3) := by decide +kernel
theorem dX8_since_13 : decode cX8_since 13 = .ok (.iload_n 2, 1) := by decide +kernel
theorem dX8_since_14 : decode cX8_since 14 = .ok (.iconst 0, 1) := by decide +kernel
theorem dX8_since_15 : decode cX8_since 15 = .ok (.iconst 1, 1) := by decide +kernel
theorem dX8_since_16 : decode cX8_since 16 = .ok (.invokestatic 80, 3) := by decide +kernel
theorem dX8_since_19 : decode cX8_since 19 = .ok (.ifCond .ne 7, 3) := by decide +kernel
theorem dX8_since_22 : decode cX8_since 22 = .ok (.iconst 2, 1) := by decide +kernel
theorem dX8_since_23 : decode cX8_since 23 = .ok (.goto 4, 3) := by decide +kernel
theorem dX8_since_26 : decode cX8_since 26 = .ok (.iconst 0, 1) := by decide +kernel
theorem dX8_since_27 : decode cX8_since 27 = .ok (.putfield 73, 3) := by decide +kernel
theorem dX8_since_30 : decode cX8_since 30 = .ok (.aload_n 0, 1) := by decide +kernel
theorem dX8_since_31 : decode cX8_since 31 = .ok (.getfield 73, 3) := by decide +kernel
theorem dX8_since_34 : decode cX8_since 34 = .ok (.ifCond .ne 24, 3) := by decide +kernel
theorem dX8_since_37 : decode cX8_since 37 = .ok (.aload_n 0, 1) := by decide +kernel
theorem dX8_since_38 : decode cX8_since 38 = .ok (.getfield 20, 3) := by decide +kernel
theorem dX8_since_41 : decode cX8_since 41 = .ok (.iload_n 2, 1) := by decide +kernel
theorem dX8_since_42 : decode cX8_since 42 = .ok (.ifCond .ne 8, 3) := by decide +kernel
theorem dX8_since_45 : decode cX8_since 45 = .ok (.bipush 49, 2) := by decide +kernel
theorem dX8_since_47 : decode cX8_since 47 = .ok (.goto 5, 3) := by decide +kernel
theorem dX8_since_50 : decode cX8_since 50 = .ok (.bipush 98, 2) := by decide +kernel
theorem dX8_since_52 : decode cX8_since 52 = .ok (.iload_n 1, 1) := by decide +kernel
theorem dX8_since_53 : decode cX8_since 53 = .ok (.iadd, 1) := by decide +kernel
theorem dX8_since_54 : decode cX8_since 54 = .ok (.iaload, 1) := by decide +kernel
theorem dX8_since_55 : decode cX8_since 55 = .ok (.goto 4, 3) := by decide +kernel
theorem dX8_since_58 : decode cX8_since 58 = .ok (.iconst 0, 1) := by decide +kernel
theorem dX8_since_59 : decode cX8_since 59 = .ok (.ireturn, 1) := by decide +kernel
theorem dX8_count_0 : decode cX8_count 0 = .ok (.aload_n 0, 1) := by decide +kernel
theorem dX8_count_1 : decode cX8_count 1 = .ok (.iload_n 1, 1) := by decide +kernel
theorem dX8_count_2 : decode cX8_count 2 = .ok (.iconst 0, 1) := by decide +kernel
theorem dX8_count_3 : decode cX8_count 3 = .ok (.bipush 6, 2) := by decide +kernel
theorem dX8_count_5 : decode cX8_count 5 = .ok (.invokestatic 80, 3) := by decide +kernel
theorem dX8_count_8 : decode cX8_count 8 = .ok (.ifCond .eq 7, 3) := by decide +kernel
theorem dX8_count_11 : decode cX8_count 11 = .ok (.iconst 0, 1) := by decide +kernel
theorem dX8_count_12 : decode cX8_count 12 = .ok (.goto 4, 3) := by decide +kernel
theorem dX8_count_15 : decode cX8_count 15 = .ok (.iconst 1, 1) := by decide +kernel
theorem dX8_count_16 : decode cX8_count 16 = .ok (.putfield 73, 3) := by decide +kernel
theorem dX8_count_19 : decode cX8_count 19 = .ok (.aload_n 0, 1) := by decide +kernel
theorem dX8_count_20 : decode cX8_count 20 = .ok (.getfield 73, 3) := by decide +kernel
theorem dX8_count_23 : decode cX8_count 23 = .ok (.iconst 1, 1) := by decide +kernel
theorem dX8_count_24 : decode cX8_count 24 = .ok (.if_icmp .ne 5, 3) := by decide +kernel
theorem dX8_count_27 : decode cX8_count 27 = .ok (.iconst 0, 1) := by decide +kernel
theorem dX8_count_28 : decode cX8_count 28 = .ok (.ireturn, 1) := by decide +kernel
theorem dX8_count_29 : decode cX8_count 29 = .ok (.iload_n 1, 1) := by decide +kernel
theorem dX8_count_30 : decode cX8_count 30 = .ok (.tableswitch 77 0 5 #[38, 47, 52, 57, 62, 68], 38) := by decide +kernel
theorem dX8_count_68 : decode cX8_count 68 = .ok (.aload_n 0, 1) := by decide +kernel
theorem dX8_count_69 : decode cX8_count 69 = .ok (.getfield 20, 3) := by decide +kernel
theorem dX8_count_72 : decode cX8_count 72 = .ok (.sipush 153, 3) := by decide +kernel
theorem dX8_count_75 : decode cX8_count 75 = .ok (.iaload, 1) := by decide +kernel
theorem dX8_count_76 : decode cX8_count 76 = .ok (.ireturn, 1) := by decide +kernel
theorem dX8_count_77 : decode cX8_count 77 = .ok (.aload_n 0, 1) := by decide +kernel
theorem dX8_count_78 : decode cX8_count 78 = .ok (.getfield 9, 3) := by decide +kernel
theorem dX8_count_81 : decode cX8_count 81 = .ok (.ireturn, 1) := by decide +kernel
theorem dX8_count_82 : decode cX8_count 82 = .ok (.aload_n 0, 1) := by decide +kernel
theorem dX8_count_83 : decode cX8_count 83 = .ok (.getfield 13, 3) := by decide +kernel
theorem dX8_count_86 : decode cX8_count 86 = .ok (.ireturn, 1) := by decide +kernel
theorem dX8_count_87 : decode cX8_count 87 = .ok (.aload_n 0, 1) := by decide +kernel
theorem dX8_count_88 : decode cX8_count 88 = .ok (.invokevirtual 108, 3) := by decide +kernel
theorem dX8_count_91 : decode cX8_count 91 = .ok (.ireturn, 1) := by decide +kernel
theorem dX8_count_92 : decode cX8_count 92 = .ok (.aload_n 0, 1) := by decide +kernel
theorem dX8_count_93 : decode cX8_count 93 = .ok (.iconst 5, 1) := by decide +kernel
theorem dX8_count_94 : decode cX8_count 94 = .ok (.invokevirtual 84, 3) := by decide +kernel
theorem dX8_count_97 : decode cX8_count 97 = .ok (.ireturn, 1) := by decide +kernel
theorem dX8_count_98 : decode cX8_count 98 = .ok (.aload_n 0, 1) := by decide +kernel
theorem dX8_count_99 : decode cX8_count 99 = .ok (.getfield 20, 3) := by decide +kernel
theorem dX8_count_102 : decode cX8_count 102 = .ok (.sipush 151, 3) := by decide +kernel
theorem dX8_count_105 : decode cX8_count 105 = .ok (.iaload, 1) := by decide +kernel
theorem dX8_count_106 : decode cX8_count 106 = .ok (.ireturn, 1) := by decide +kernel
theorem dX8_count_107 : decode cX8_count 107 = .ok (.aload_n 0, 1) := by decide +kernel
theorem dX8_count_108 : decode cX8_count 108 = .ok (.getfield 20, 3) := by decide +kernel
theorem dX8_count_111 : decode cX8_count 111 = .ok (.sipush 152, 3) := by decide +kernel
theorem dX8_count_114 : decode cX8_count 114 = .ok (.iaload, 1) := by decide +kernel
theorem dX8_count_115 : decode cX8_count 115 = .ok (.ireturn, 1) := by decide +kernel
theorem dX8_regions_0 : decode cX8_regions 0 = .ok (.aload_n 0, 1) := by decide +kernel
theorem dX8_regions_1 : decode cX8_regions 1 = .ok (.iload_n 1, 1) := by decide +kernel
theorem dX8_regions_2 : decode cX8_regions 2 = .ok (.invokevirtual 111, 3) := by decide +kernel
theorem dX8_regions_5 : decode cX8_regions 5 = .ok (.lstore_n 3, 1) := by decide +kernel
theorem dX8_regions_6 : decode cX8_regions 6 = .ok (.iconst 0, 1) := by decide +kernel
theorem dX8_regions_7 : decode cX8_regions 7 = .ok (.istore 5, 2) := by decide +kernel
theorem dX8_regions_9 : decode cX8_regions 9 = .ok (.iconst 0, 1) := by decide +kernel
theorem dX8_regions_10 : decode cX8_regions 10 = .ok (.istore 6, 2) := by decide +kernel
theorem dX8_regions_12 : decode cX8_regions 12 = .ok (.lload_n 3, 1) := by decide +kernel
theorem dX8_regions_13 : decode cX8_regions 13 = .ok (.lconst 0, 1) := by decide +kernel
theorem dX8_regions_14 : decode cX8_regions 14 = .ok (.lcmp, 1) := by decide +kernel
theorem dX8_regions_15 : decode cX8_regions 15 = .ok (.ifCond .eq 51, 3) := by decide +kernel
theorem dX8_regions_18 : decode cX8_regions 18 = .ok (.aload_n 0, 1) := by decide +kernel
theorem dX8_regions_19 : decode cX8_regions 19 = .ok (.lload_n 3, 1) := by decide +kernel
theorem dX8_regions_20 : decode cX8_regions 20 = .ok (.lload_n 3, 1) := by decide +kernel
theorem dX8_regions_21 : decode cX8_regions 21 = .ok (.invokestatic 117, 3) := by decide +kernel
theorem dX8_regions_24 : decode cX8_regions 24 = .ok (.invokevirtual 121, 3) := by decide +kernel
theorem dX8_regions_27 : decode cX8_regions 27 = .ok (.lstore 7, 2) := by decide +kernel
theorem dX8_regions_29 : decode cX8_regions 29 = .ok (.lload_n 3, 1) := by decide +kernel
theorem dX8_regions_30 : decode cX8_regions 30 = .ok (.lload 7, 2) := by decide +kernel
theorem dX8_regions_32 : decode cX8_regions 32 = .ok (.ldc2_w 95, 3) := by decide +kernel
theorem dX8_regions_35 : decode cX8_regions 35 = .ok (.lxor, 1) := by decide +kernel
theorem dX8_regions_36 : decode cX8_regions 36 = .ok (.land, 1) := by decide +kernel
theorem dX8_regions_37 : decode cX8_regions 37 = .ok (.lstore_n 3, 1) := by decide +kernel
theorem dX8_regions_38 : decode cX8_regions 38 = .ok (.iinc 5 1, 3) := by decide +kernel
theorem dX8_regions_41 : decode cX8_regions 41 = .ok (.lload 7, 2) := by decide +kernel
theorem dX8_regions_43 : decode cX8_regions 43 = .ok (.invokestatic 125, 3) := by decide +kernel
theorem dX8_regions_46 : decode cX8_regions 46 = .ok (.iload 6, 2) := by decide +kernel
theorem dX8_regions_48 : decode cX8_regions 48 = .ok (.if_icmp .le 11, 3) := by decide +kernel
theorem dX8_regions_51 : decode cX8_regions 51 = .ok (.lload 7, 2) := by decide +kernel
theorem dX8_regions_53 : decode cX8_regions 53 = .ok (.invokestatic 125, 3) := by decide +kernel
theorem dX8_regions_56 : decode cX8_regions 56 = .ok (.goto 5, 3) := by decide +kernel
theorem dX8_regions_59 : decode cX8_regions 59 = .ok (.iload 6, 2) := by decide +kernel
theorem dX8_regions_61 : decode cX8_regions 61 = .ok (.istore 6, 2) := by decide +kernel
theorem dX8_regions_63 : decode cX8_regions 63 = .ok (.goto (-51), 3) := by decide +kernel
theorem dX8_regions_66 : decode cX8_regions 66 = .ok (.iload_n 2, 1) := by decide +kernel
theorem dX8_regions_67 : decode cX8_regions 67 = .ok (.ifCond .eq 8, 3) := by decide +kernel
theorem dX8_regions_70 : decode cX8_regions 70 = .ok (.iload 6, 2) := by decide +kernel
theorem dX8_regions_72 : decode cX8_regions 72 = .ok (.goto 5, 3) := by decide +kernel
theorem dX8_regions_75 : decode cX8_regions 75 = .ok (.iload 5, 2) := by decide +kernel
theorem dX8_regions_77 : decode cX8_regions 77 = .ok (.ireturn, 1) := by decide +kernel
theorem dX8_player_0 : decode cX8_player 0 = .ok (.aload_n 0, 1) := by decide +kernel
theorem dX8_player_1 : decode cX8_player 1 = .ok (.iload_n 1, 1) := by decide +kernel
theorem dX8_player_2 : decode cX8_player 2 = .ok (.iconst 0, 1) := by decide +kernel
theorem dX8_player_3 : decode cX8_player 3 = .ok (.iconst 1, 1) := by decide +kernel
theorem dX8_player_4 : decode cX8_player 4 = .ok (.invokestatic 80, 3) := by decide +kernel
theorem dX8_player_7 : decode cX8_player 7 = .ok (.ifCond .ne 7, 3) := by decide +kernel
theorem dX8_player_10 : decode cX8_player 10 = .ok (.iconst 1, 1) := by decide +kernel
theorem dX8_player_11 : decode cX8_player 11 = .ok (.goto 18, 3) := by decide +kernel
theorem dX8_player_14 : decode cX8_player 14 = .ok (.iload_n 2, 1) := by decide +kernel
theorem dX8_player_15 : decode cX8_player 15 = .ok (.iconst 0, 1) := by decide +kernel
theorem dX8_player_16 : decode cX8_player 16 = .ok (.bipush 7, 2) := by decide +kernel
theorem dX8_player_18 : decode cX8_player 18 = .ok (.invokestatic 80, 3) := by decide +kernel
theorem dX8_player_21 : decode cX8_player 21 = .ok (.ifCond .ne 7, 3) := by decide +kernel
theorem dX8_player_24 : decode cX8_player 24 = .ok (.iconst 2, 1) := by decide +kernel
theorem dX8_player_25 : decode cX8_player 25 = .ok (.goto 4, 3) := by decide +kernel
theorem dX8_player_28 : decode cX8_player 28 = .ok (.iconst 0, 1) := by decide +kernel
theorem dX8_player_29 : decode cX8_player 29 = .ok (.putfield 73, 3) := by decide +kernel
theorem dX8_player_32 : decode cX8_player 32 = .ok (.aload_n 0, 1) := by decide +kernel
theorem dX8_player_33 : decode cX8_player 33 = .ok (.getfield 73, 3) := by decide +kernel
theorem dX8_player_36 : decode cX8_player 36 = .ok (.ifCond .le 5, 3) := by decide +kernel
theorem dX8_player_39 : decode cX8_player 39 = .ok (.iconst 0, 1) := by decide +kernel
theorem dX8_player_40 : decode cX8_player 40 = .ok (.ireturn, 1) := by decide +kernel
theorem dX8_player_41 : decode cX8_player 41 = .ok (.iload_n 2, 1) := by decide +kernel
theorem dX8_player_42 : decode cX8_player 42 = .ok (.tableswitch 89 0 5 #[38, 44, 52, 60, 71, 78], 38) := by decide +kernel
theorem dX8_player_80 : decode cX8_player 80 = .ok (.aload_n 0, 1) := by decide +kernel
theorem dX8_player_81 : decode cX8_player 81 = .ok (.iload_n 1, 1) := by decide +kernel
theorem dX8_player_82 : decode cX8_player 82 = .ok (.invokevirtual 138, 3) := by decide +kernel
theorem dX8_player_85 : decode cX8_player 85 = .ok (.ireturn, 1) := by decide +kernel
theorem dX8_player_86 : decode cX8_player 86 = .ok (.aload_n 0, 1) := by decide +kernel
theorem dX8_player_87 : decode cX8_player 87 = .ok (.iconst 1, 1) := by decide +kernel
theorem dX8_player_88 : decode cX8_player 88 = .ok (.iload_n 1, 1) := by decide +kernel
theorem dX8_player_89 : decode cX8_player 89 = .ok (.iadd, 1) := by decide +kernel
theorem dX8_player_90 : decode cX8_player 90 = .ok (.invokevirtual 84, 3) := by decide +kernel
theorem dX8_player_93 : decode cX8_player 93 = .ok (.ireturn, 1) := by decide +kernel
theorem dX8_player_94 : decode cX8_player 94 = .ok (.aload_n 0, 1) := by decide +kernel
theorem dX8_player_95 : decode cX8_player 95 = .ok (.iconst 3, 1) := by decide +kernel
theorem dX8_player_96 : decode cX8_player 96 = .ok (.iload_n 1, 1) := by decide +kernel
theorem dX8_player_97 : decode cX8_player 97 = .ok (.iadd, 1) := by decide +kernel
theorem dX8_player_98 : decode cX8_player 98 = .ok (.invokevirtual 84, 3) := by decide +kernel
theorem dX8_player_101 : decode cX8_player 101 = .ok (.ireturn, 1) := by decide +kernel
theorem dX8_player_102 : decode cX8_player 102 = .ok (.aload_n 0, 1) := by decide +kernel
theorem dX8_player_103 : decode cX8_player 103 = .ok (.getfield 20, 3) := by decide +kernel
theorem dX8_player_106 : decode cX8_player 106 = .ok (.sipush 147, 3) := by decide +kernel
theorem dX8_player_109 : decode cX8_player 109 = .ok (.iload_n 1, 1) := by decide +kernel
theorem dX8_player_110 : decode cX8_player 110 = .ok (.iadd, 1) := by decide +kernel
theorem dX8_player_111 : decode cX8_player 111 = .ok (.iaload, 1) := by decide +kernel
theorem dX8_player_112 : decode cX8_player 112 = .ok (.ireturn, 1) := by decide +kernel
theorem dX8_player_113 : decode cX8_player 113 = .ok (.aload_n 0, 1) := by decide +kernel
theorem dX8_player_114 : decode cX8_player 114 = .ok (.getfield 16, 3) := by decide +kernel
theorem dX8_player_117 : decode cX8_player 117 = .ok (.iload_n 1, 1) := by decide +kernel
theorem dX8_player_118 : decode cX8_player 118 = .ok (.iaload, 1) := by decide +kernel
theorem dX8_player_119 : decode cX8_player 119 = .ok (.ireturn, 1) := by decide +kernel
theorem dX8_player_120 : decode cX8_player 120 = .ok (.aload_n 0, 1) := by decide +kernel
theorem dX8_player_121 : decode cX8_player 121 = .ok (.getfield 20, 3) := by decide +kernel
theorem dX8_player_124 : decode cX8_player 124 = .ok (.sipush 149, 3) := by decide +kernel
theorem dX8_player_127 : decode cX8_player 127 = .ok (.iload_n 1, 1) := by decide +kernel
theorem dX8_player_128 : decode cX8_player 128 = .ok (.iadd, 1) := by decide +kernel
theorem dX8_player_129 : decode cX8_player 129 = .ok (.iaload, 1) := by decide +kernel
theorem dX8_player_130 : decode cX8_player 130 = .ok (.ireturn, 1) := by decide +kernel
theorem dX8_player_131 : decode cX8_player 131 = .ok (.aload_n 0, 1) := by decide +kernel
theorem dX8_player_132 : decode cX8_player 132 = .ok (.iload_n 1, 1) := by decide +kernel
theorem dX8_player_133 : decode cX8_player 133 = .ok (.iload_n 2, 1) := by decide +kernel
theorem dX8_player_134 : decode cX8_player 134 = .ok (.bipush 7, 2) := by decide +kernel
theorem dX8_player_136 : decode cX8_player 136 = .ok (.if_icmp .ne 7, 3) := by decide +kernel
theorem dX8_player_139 : decode cX8_player 139 = .ok (.iconst 1, 1) := by decide +kernel
theorem dX8_player_140 : decode cX8_player 140 = .ok (.goto 4, 3) := by decide +kernel
theorem dX8_player_143 : decode cX8_player 143 = .ok (.iconst 0, 1) := by decide +kernel
theorem dX8_player_144 : decode cX8_player 144 = .ok (.invokevirtual 181, 3) := by decide +kernel
theorem dX8_player_147 : decode cX8_player 147 = .ok (.ireturn, 1) := by decide +kernel
theorem dX8_isOutside_0 : decode cX8_isOutside 0 = .ok (.aload_n 0, 1) := by decide +kernel
theorem dX8_isOutside_1 : decode cX8_isOutside 1 = .ok (.iload_n 1, 1) := by decide +kernel
theorem dX8_isOutside_2 : decode cX8_isOutside 2 = .ok (.invokevirtual 111, 3) := by decide +kernel
theorem dX8_isOutside_5 : decode cX8_isOutside 5 = .ok (.iload_n 2, 1) := by decide +kernel
theorem dX8_isOutside_6 : decode cX8_isOutside 6 = .ok (.lshr, 1) := by decide +kernel
theorem dX8_isOutside_7 : decode cX8_isOutside 7 = .ok (.lconst 1, 1) := by decide +kernel
theorem dX8_isOutside_8 : decode cX8_isOutside 8 = .ok (.land, 1) := by decide +kernel
theorem dX8_isOutside_9 : decode cX8_isOutside 9 = .ok (.lconst 1, 1) := by decide +kernel
theorem dX8_isOutside_10 : decode cX8_isOutside 10 = .ok (.lcmp, 1) := by decide +kernel
theorem dX8_isOutside_11 : decode cX8_isOutside 11 = .ok (.ifCond .ne 7, 3) := by decide +kernel
theorem dX8_isOutside_14 : decode cX8_isOutside 14 = .ok (.iconst 1, 1) := by decide +kernel
theorem dX8_isOutside_15 : decode cX8_isOutside 15 = .ok (.goto 4, 3) := by decide +kernel
theorem dX8_isOutside_18 : decode cX8_isOutside 18 = .ok (.iconst 0, 1) := by decide +kernel
theorem dX8_isOutside_19 : decode cX8_isOutside 19 = .ok (.ireturn, 1) := by decide +kernel
theorem dX8_region_0 : decode cX8_region 0 = .ok (.aload_n 0, 1) := by decide +kernel
theorem dX8_region_1 : decode cX8_region 1 = .ok (.iload_n 1, 1) := by decide +kernel
theorem dX8_region_2 : decode cX8_region 2 = .ok (.iconst 0, 1) := by decide +kernel
theorem dX8_region_3 : decode cX8_region 3 = .ok (.iconst 1, 1) := by decide +kernel
theorem dX8_region_4 : decode cX8_region 4 = .ok (.invokestatic 80, 3) := by decide +kernel
theorem dX8_region_7 : decode cX8_region 7 = .ok (.ifCond .eq 11, 3) := by decide +kernel
theorem dX8_region_10 : decode cX8_region 10 = .ok (.aload_n 0, 1) := by decide +kernel
theorem dX8_region_11 : decode cX8_region 11 = .ok (.iload_n 2, 1) := by decide +kernel
theorem dX8_region_12 : decode cX8_region 12 = .ok (.invokevirtual 150, 3) := by decide +kernel
theorem dX8_region_15 : decode cX8_region 15 = .ok (.ifCond .ne 7, 3) := by decide +kernel
theorem dX8_region_18 : decode cX8_region 18 = .ok (.iconst 1, 1) := by decide +kernel
theorem dX8_region_19 : decode cX8_region 19 = .ok (.goto 17, 3) := by decide +kernel
theorem dX8_region_22 : decode cX8_region 22 = .ok (.aload_n 0, 1) := by decide +kernel
theorem dX8_region_23 : decode cX8_region 23 = .ok (.iload_n 1, 1) := by decide +kernel
theorem dX8_region_24 : decode cX8_region 24 = .ok (.iload_n 2, 1) := by decide +kernel
theorem dX8_region_25 : decode cX8_region 25 = .ok (.invokevirtual 185, 3) := by decide +kernel
theorem dX8_region_28 : decode cX8_region 28 = .ok (.ifCond .ne 7, 3) := by decide +kernel
theorem dX8_region_31 : decode cX8_region 31 = .ok (.iconst 2, 1) := by decide +kernel
theorem dX8_region_32 : decode cX8_region 32 = .ok (.goto 4, 3) := by decide +kernel
theorem dX8_region_35 : decode cX8_region 35 = .ok (.iconst 0, 1) := by decide +kernel
theorem dX8_region_36 : decode cX8_region 36 = .ok (.putfield 73, 3) := by decide +kernel
theorem dX8_region_39 : decode cX8_region 39 = .ok (.aload_n 0, 1) := by decide +kernel
theorem dX8_region_40 : decode cX8_region 40 = .ok (.getfield 73, 3) := by decide +kernel
theorem dX8_region_43 : decode cX8_region 43 = .ok (.ifCond .ne 16, 3) := by decide +kernel
theorem dX8_region_46 : decode cX8_region 46 = .ok (.aload_n 0, 1) := by decide +kernel
theorem dX8_region_47 : decode cX8_region 47 = .ok (.aload_n 0, 1) := by decide +kernel
theorem dX8_region_48 : decode cX8_region 48 = .ok (.iload_n 1, 1) := by decide +kernel
theorem dX8_region_49 : decode cX8_region 49 = .ok (.invokevirtual 111, 3) := by decide +kernel
theorem dX8_region_52 : decode cX8_region 52 = .ok (.iload_n 2, 1) := by decide +kernel
theorem dX8_region_53 : decode cX8_region 53 = .ok (.invokevirtual 121, 3) := by decide +kernel
theorem dX8_region_56 : decode cX8_region 56 = .ok (.goto 4, 3) := by decide +kernel
theorem dX8_region_59 : decode cX8_region 59 = .ok (.lconst 0, 1) := by decide +kernel
theorem dX8_region_60 : decode cX8_region 60 = .ok (.lreturn, 1) := by decide +kernel
theorem dX8_cells__0 : decode cX8_cells_ 0 = .ok (.aload_n 0, 1) := by decide +kernel
theorem dX8_cells__1 : decode cX8_cells_ 1 = .ok (.iload_n 1, 1) := by decide +kernel
theorem dX8_cells__2 : decode cX8_cells_ 2 = .ok (.iconst 0, 1) := by decide +kernel
theorem dX8_cells__3 : decode cX8_cells_ 3 = .ok (.iconst 5, 1) := by decide +kernel
theorem dX8_cells__4 : decode cX8_cells_ 4 = .ok (.invokestatic 80, 3) := by decide +kernel
theorem dX8_cells__7 : decode cX8_cells_ 7 = .ok (.ifCond .eq 7, 3) := by decide +kernel
theorem dX8_cells__10 : decode cX8_cells_ 10 = .ok (.iconst 0, 1) := by decide +kernel
theorem dX8_cells__11 : decode cX8_cells_ 11 = .ok (.goto 4, 3) := by decide +kernel
theorem dX8_cells__14 : decode cX8_cells_ 14 = .ok (.iconst 1, 1) := by decide +kernel
theorem dX8_cells__15 : decode cX8_cells_ 15 = .ok (.putfield 73, 3) := by decide +kernel
theorem dX8_cells__18 : decode cX8_cells_ 18 = .ok (.aload_n 0, 1) := by decide +kernel
theorem dX8_cells__19 : decode cX8_cells_ 19 = .ok (.getfield 73, 3) := by decide +kernel
theorem dX8_cells__22 : decode cX8_cells_ 22 = .ok (.ifCond .ne 11, 3) := by decide +kernel
theorem dX8_cells__25 : decode cX8_cells_ 25 = .ok (.aload_n 0, 1) := by decide +kernel
theorem dX8_cells__26 : decode cX8_cells_ 26 = .ok (.iload_n 1, 1) := by decide +kernel
theorem dX8_cells__27 : decode cX8_cells_ 27 = .ok (.invokevirtual 105, 3) := by decide +kernel
theorem dX8_cells__30 : decode cX8_cells_ 30 = .ok (.goto 4, 3) := by decide +kernel
theorem dX8_cells__33 : decode cX8_cells_ 33 = .ok (.lconst 0, 1) := by decide +kernel
theorem dX8_cells__34 : decode cX8_cells_ 34 = .ok (.lreturn, 1) := by decide +kernel
theorem dX8_chain_0 : decode cX8_chain 0 = .ok (.aload_n 0, 1) := by decide +kernel
theorem dX8_chain_1 : decode cX8_chain 1 = .ok (.aload_n 0, 1) := by decide +kernel
theorem dX8_chain_2 : decode cX8_chain 2 = .ok (.iload_n 1, 1) := by decide +kernel
theorem dX8_chain_3 : decode cX8_chain 3 = .ok (.invokevirtual 150, 3) := by decide +kernel
theorem dX8_chain_6 : decode cX8_chain 6 = .ok (.ifCond .ne 7, 3) := by decide +kernel
theorem dX8_chain_9 : decode cX8_chain 9 = .ok (.iconst 1, 1) := by decide +kernel
theorem dX8_chain_10 : decode cX8_chain 10 = .ok (.goto 28, 3) := by decide +kernel
theorem dX8_chain_13 : decode cX8_chain 13 = .ok (.aload_n 0, 1) := by decide +kernel
theorem dX8_chain_14 : decode cX8_chain 14 = .ok (.getfield 20, 3) := by decide +kernel
theorem dX8_chain_17 : decode cX8_chain 17 = .ok (.iload_n 1, 1) := by decide +kernel
theorem dX8_chain_18 : decode cX8_chain 18 = .ok (.iaload, 1) := by decide +kernel
theorem dX8_chain_19 : decode cX8_chain 19 = .ok (.iconst 1, 1) := by decide +kernel
theorem dX8_chain_20 : decode cX8_chain 20 = .ok (.if_icmp .eq 17, 3) := by decide +kernel
theorem dX8_chain_23 : decode cX8_chain 23 = .ok (.aload_n 0, 1) := by decide +kernel
theorem dX8_chain_24 : decode cX8_chain 24 = .ok (.getfield 20, 3) := by decide +kernel
theorem dX8_chain_27 : decode cX8_chain 27 = .ok (.iload_n 1, 1) := by decide +kernel
theorem dX8_chain_28 : decode cX8_chain 28 = .ok (.iaload, 1) := by decide +kernel
theorem dX8_chain_29 : decode cX8_chain 29 = .ok (.iconst 2, 1) := by decide +kernel
theorem dX8_chain_30 : decode cX8_chain 30 = .ok (.if_icmp .eq 7, 3) := by decide +kernel
theorem dX8_chain_33 : decode cX8_chain 33 = .ok (.iconst 2, 1) := by decide +kernel
theorem dX8_chain_34 : decode cX8_chain 34 = .ok (.goto 4, 3) := by decide +kernel
theorem dX8_chain_37 : decode cX8_chain 37 = .ok (.iconst 0, 1) := by decide +kernel
theorem dX8_chain_38 : decode cX8_chain 38 = .ok (.putfield 73, 3) := by decide +kernel
theorem dX8_chain_41 : decode cX8_chain 41 = .ok (.aload_n 0, 1) := by decide +kernel
theorem dX8_chain_42 : decode cX8_chain 42 = .ok (.getfield 73, 3) := by decide +kernel
theorem dX8_chain_45 : decode cX8_chain 45 = .ok (.ifCond .ne 21, 3) := by decide +kernel
theorem dX8_chain_48 : decode cX8_chain 48 = .ok (.aload_n 0, 1) := by decide +kernel
theorem dX8_chain_49 : decode cX8_chain 49 = .ok (.aload_n 0, 1) := by decide +kernel
theorem dX8_chain_50 : decode cX8_chain 50 = .ok (.aload_n 0, 1) := by decide +kernel
theorem dX8_chain_51 : decode cX8_chain 51 = .ok (.getfield 20, 3) := by decide +kernel
theorem dX8_chain_54 : decode cX8_chain 54 = .ok (.iload_n 1, 1) := by decide +kernel
theorem dX8_chain_55 : decode cX8_chain 55 = .ok (.iaload, 1) := by decide +kernel
theorem dX8_chain_56 : decode cX8_chain 56 = .ok (.invokevirtual 105, 3) := by decide +kernel
theorem dX8_chain_59 : decode cX8_chain 59 = .ok (.iload_n 1, 1) := by decide +kernel
theorem dX8_chain_60 : decode cX8_chain 60 = .ok (.invokevirtual 121, 3) := by decide +kernel
theorem dX8_chain_63 : decode cX8_chain 63 = .ok (.goto 4, 3) := by decide +kernel
theorem dX8_chain_66 : decode cX8_chain 66 = .ok (.lconst 0, 1) := by decide +kernel
theorem dX8_chain_67 : decode cX8_chain 67 = .ok (.lreturn, 1) := by decide +kernel
theorem dX8_isEnclosed_0 : decode cX8_isEnclosed 0 = .ok (.aload_n 0, 1) := by decide +kernel
theorem dX8_isEnclosed_1 : decode cX8_isEnclosed 1 = .ok (.lload_n 1, 1) := by decide +kernel
theorem dX8_isEnclosed_2 : decode cX8_isEnclosed 2 = .ok (.iload_n 3, 1) := by decide +kernel
theorem dX8_isEnclosed_3 : decode cX8_isEnclosed 3 = .ok (.invokevirtual 121, 3) := by decide +kernel
theorem dX8_isEnclosed_6 : decode cX8_isEnclosed 6 = .ok (.aload_n 0, 1) := by decide +kernel
theorem dX8_isEnclosed_7 : decode cX8_isEnclosed 7 = .ok (.invokevirtual 114, 3) := by decide +kernel
theorem dX8_isEnclosed_10 : decode cX8_isEnclosed 10 = .ok (.land, 1) := by decide +kernel
theorem dX8_isEnclosed_11 : decode cX8_isEnclosed 11 = .ok (.lconst 0, 1) := by decide +kernel
theorem dX8_isEnclosed_12 : decode cX8_isEnclosed 12 = .ok (.lcmp, 1) := by decide +kernel
theorem dX8_isEnclosed_13 : decode cX8_isEnclosed 13 = .ok (.ifCond .ne 7, 3) := by decide +kernel
theorem dX8_isEnclosed_16 : decode cX8_isEnclosed 16 = .ok (.iconst 1, 1) := by decide +kernel
theorem dX8_isEnclosed_17 : decode cX8_isEnclosed 17 = .ok (.goto 4, 3) := by decide +kernel
theorem dX8_isEnclosed_20 : decode cX8_isEnclosed 20 = .ok (.iconst 0, 1) := by decide +kernel
theorem dX8_isEnclosed_21 : decode cX8_isEnclosed 21 = .ok (.ireturn, 1) := by decide +kernel
theorem dX8_stonesToEnclose_0 : decode cX8_stonesToEnclose 0 = .ok (.aload_n 0, 1) := by decide +kernel
theorem dX8_stonesToEnclose_1 : decode cX8_stonesToEnclose 1 = .ok (.iload_n 1, 1) := by decide +kernel
theorem dX8_stonesToEnclose_2 : decode cX8_stonesToEnclose 2 = .ok (.iconst 0, 1) := by decide +kernel
theorem dX8_stonesToEnclose_3 : decode cX8_stonesToEnclose 3 = .ok (.iconst 1, 1) := by decide +kernel
theorem dX8_stonesToEnclose_4 : decode cX8_stonesToEnclose 4 = .ok (.invokestatic 80, 3) := by decide +kernel
theorem dX8_stonesToEnclose_7 : decode cX8_stonesToEnclose 7 = .ok (.ifCond .eq 11, 3) := by decide +kernel
theorem dX8_stonesToEnclose_10 : decode cX8_stonesToEnclose 10 = .ok (.aload_n 0, 1) := by decide +kernel
theorem dX8_stonesToEnclose_11 : decode cX8_stonesToEnclose 11 = .ok (.iload_n 2, 1) := by decide +kernel
theorem dX8_stonesToEnclose_12 : decode cX8_stonesToEnclose 12 = .ok (.invokevirtual 150, 3) := by decide +kernel
theorem dX8_stonesToEnclose_15 : decode cX8_stonesToEnclose 15 = .ok (.ifCond .ne 7, 3) := by decide +kernel
theorem dX8_stonesToEnclose_18 : decode cX8_stonesToEnclose 18 = .ok (.iconst 1, 1) := by decide +kernel
theorem dX8_stonesToEnclose_19 : decode cX8_stonesToEnclose 19 = .ok (.goto 17, 3) := by decide +kernel
theorem dX8_stonesToEnclose_22 : decode cX8_stonesToEnclose 22 = .ok (.aload_n 0, 1) := by decide +kernel
theorem dX8_stonesToEnclose_23 : decode cX8_stonesToEnclose 23 = .ok (.iload_n 1, 1) := by decide +kernel
theorem dX8_stonesToEnclose_24 : decode cX8_stonesToEnclose 24 = .ok (.iload_n 2, 1) := by decide +kernel
theorem dX8_stonesToEnclose_25 : decode cX8_stonesToEnclose 25 = .ok (.invokevirtual 185, 3) := by decide +kernel
theorem dX8_stonesToEnclose_28 : decode cX8_stonesToEnclose 28 = .ok (.ifCond .ne 7, 3) := by decide +kernel
theorem dX8_stonesToEnclose_31 : decode cX8_stonesToEnclose 31 = .ok (.iconst 2, 1) := by decide +kernel
theorem dX8_stonesToEnclose_32 : decode cX8_stonesToEnclose 32 = .ok (.goto 4, 3) := by decide +kernel
theorem dX8_stonesToEnclose_35 : decode cX8_stonesToEnclose 35 = .ok (.iconst 0, 1) := by decide +kernel
theorem dX8_stonesToEnclose_36 : decode cX8_stonesToEnclose 36 = .ok (.putfield 73, 3) := by decide +kernel
theorem dX8_stonesToEnclose_39 : decode cX8_stonesToEnclose 39 = .ok (.aload_n 0, 1) := by decide +kernel
theorem dX8_stonesToEnclose_40 : decode cX8_stonesToEnclose 40 = .ok (.getfield 73, 3) := by decide +kernel
theorem dX8_stonesToEnclose_43 : decode cX8_stonesToEnclose 43 = .ok (.ifCond .le 5, 3) := by decide +kernel
theorem dX8_stonesToEnclose_46 : decode cX8_stonesToEnclose 46 = .ok (.iconst 0, 1) := by decide +kernel
theorem dX8_stonesToEnclose_47 : decode cX8_stonesToEnclose 47 = .ok (.ireturn, 1) := by decide +kernel
theorem dX8_stonesToEnclose_48 : decode cX8_stonesToEnclose 48 = .ok (.aload_n 0, 1) := by decide +kernel
theorem dX8_stonesToEnclose_49 : decode cX8_stonesToEnclose 49 = .ok (.iload_n 1, 1) := by decide +kernel
theorem dX8_stonesToEnclose_50 : decode cX8_stonesToEnclose 50 = .ok (.invokevirtual 111, 3) := by decide +kernel
theorem dX8_stonesToEnclose_53 : decode cX8_stonesToEnclose 53 = .ok (.lstore_n 3, 1) := by decide +kernel
theorem dX8_stonesToEnclose_54 : decode cX8_stonesToEnclose 54 = .ok (.aload_n 0, 1) := by decide +kernel
theorem dX8_stonesToEnclose_55 : decode cX8_stonesToEnclose 55 = .ok (.lload_n 3, 1) := by decide +kernel
theorem dX8_stonesToEnclose_56 : decode cX8_stonesToEnclose 56 = .ok (.iload_n 2, 1) := by decide +kernel
theorem dX8_stonesToEnclose_57 : decode cX8_stonesToEnclose 57 = .ok (.invokevirtual 188, 3) := by decide +kernel
theorem dX8_stonesToEnclose_60 : decode cX8_stonesToEnclose 60 = .ok (.ifCond .eq 5, 3) := by decide +kernel
theorem dX8_stonesToEnclose_63 : decode cX8_stonesToEnclose 63 = .ok (.iconst 0, 1) := by decide +kernel
theorem dX8_stonesToEnclose_64 : decode cX8_stonesToEnclose 64 = .ok (.ireturn, 1) := by decide +kernel
theorem dX8_stonesToEnclose_65 : decode cX8_stonesToEnclose 65 = .ok (.aload_n 0, 1) := by decide +kernel
theorem dX8_stonesToEnclose_66 : decode cX8_stonesToEnclose 66 = .ok (.iconst 0, 1) := by decide +kernel
theorem dX8_stonesToEnclose_67 : decode cX8_stonesToEnclose 67 = .ok (.invokevirtual 105, 3) := by decide +kernel
theorem dX8_stonesToEnclose_70 : decode cX8_stonesToEnclose 70 = .ok (.lconst 1, 1) := by decide +kernel
theorem dX8_stonesToEnclose_71 : decode cX8_stonesToEnclose 71 = .ok (.iload_n 2, 1) := by decide +kernel
theorem dX8_stonesToEnclose_72 : decode cX8_stonesToEnclose 72 = .ok (.lshl, 1) := by decide +kernel
theorem dX8_stonesToEnclose_73 : decode cX8_stonesToEnclose 73 = .ok (.ldc2_w 95, 3) := by decide +kernel
theorem dX8_stonesToEnclose_76 : decode cX8_stonesToEnclose 76 = .ok (.lxor, 1) := by decide +kernel
theorem dX8_stonesToEnclose_77 : decode cX8_stonesToEnclose 77 = .ok (.land, 1) := by decide +kernel
theorem dX8_stonesToEnclose_78 : decode cX8_stonesToEnclose 78 = .ok (.lstore 5, 2) := by decide +kernel
theorem dX8_stonesToEnclose_80 : decode cX8_stonesToEnclose 80 = .ok (.iconst 3, 1) := by decide +kernel
theorem dX8_stonesToEnclose_81 : decode cX8_stonesToEnclose 81 = .ok (.istore 7, 2) := by decide +kernel
theorem dX8_stonesToEnclose_83 : decode cX8_stonesToEnclose 83 = .ok (.iconst 0, 1) := by decide +kernel
theorem dX8_stonesToEnclose_84 : decode cX8_stonesToEnclose 84 = .ok (.istore 8, 2) := by decide +kernel
theorem dX8_stonesToEnclose_86 : decode cX8_stonesToEnclose 86 = .ok (.iload 8, 2) := by decide +kernel
theorem dX8_stonesToEnclose_88 : decode cX8_stonesToEnclose 88 = .ok (.aload_n 0, 1) := by decide +kernel
theorem dX8_stonesToEnclose_89 : decode cX8_stonesToEnclose 89 = .ok (.invokevirtual 76, 3) := by decide +kernel
theorem dX8_stonesToEnclose_92 : decode cX8_stonesToEnclose 92 = .ok (.if_icmp .ge 113, 3) := by decide +kernel
theorem dX8_stonesToEnclose_95 : decode cX8_stonesToEnclose 95 = .ok (.lload 5, 2) := by decide +kernel
theorem dX8_stonesToEnclose_97 : decode cX8_stonesToEnclose 97 = .ok (.iload 8, 2) := by decide +kernel
theorem dX8_stonesToEnclose_99 : decode cX8_stonesToEnclose 99 = .ok (.lshr, 1) := by decide +kernel
theorem dX8_stonesToEnclose_100 : decode cX8_stonesToEnclose 100 = .ok (.lconst 1, 1) := by decide +kernel
theorem dX8_stonesToEnclose_101 : decode cX8_stonesToEnclose 101 = .ok (.land, 1) := by decide +kernel
theorem dX8_stonesToEnclose_102 : decode cX8_stonesToEnclose 102 = .ok (.lconst 0, 1) := by decide +kernel
theorem dX8_stonesToEnclose_103 : decode cX8_stonesToEnclose 103 = .ok (.lcmp, 1) := by decide +kernel
theorem dX8_stonesToEnclose_104 : decode cX8_stonesToEnclose 104 = .ok (.ifCond .ne 6, 3) := by decide +kernel
theorem dX8_stonesToEnclose_107 : decode cX8_stonesToEnclose 107 = .ok (.goto 92, 3) := by decide +kernel
theorem dX8_stonesToEnclose_110 : decode cX8_stonesToEnclose 110 = .ok (.aload_n 0, 1) := by decide +kernel
theorem dX8_stonesToEnclose_111 : decode cX8_stonesToEnclose 111 = .ok (.lload_n 3, 1) := by decide +kernel
theorem dX8_stonesToEnclose_112 : decode cX8_stonesToEnclose 112 = .ok (.lconst 1, 1) := by decide +kernel
theorem dX8_stonesToEnclose_113 : decode cX8_stonesToEnclose 113 = .ok (.iload 8, 2) := by decide +kernel
theorem dX8_stonesToEnclose_115 : decode cX8_stonesToEnclose 115 = .ok (.lshl, 1) := by decide +kernel
theorem dX8_stonesToEnclose_116 : decode cX8_stonesToEnclose 116 = .ok (.ldc2_w 95, 3) := by decide +kernel
theorem dX8_stonesToEnclose_119 : decode cX8_stonesToEnclose 119 = .ok (.lxor, 1) := by decide +kernel
theorem dX8_stonesToEnclose_120 : decode cX8_stonesToEnclose 120 = .ok (.land, 1) := by decide +kernel
theorem dX8_stonesToEnclose_121 : decode cX8_stonesToEnclose 121 = .ok (.iload_n 2, 1) := by decide +kernel
theorem dX8_stonesToEnclose_122 : decode cX8_stonesToEnclose 122 = .ok (.invokevirtual 188, 3) := by decide +kernel
theorem dX8_stonesToEnclose_125 : decode cX8_stonesToEnclose 125 = .ok (.ifCond .eq 5, 3) := by decide +kernel
theorem dX8_stonesToEnclose_128 : decode cX8_stonesToEnclose 128 = .ok (.iconst 1, 1) := by decide +kernel
theorem dX8_stonesToEnclose_129 : decode cX8_stonesToEnclose 129 = .ok (.ireturn, 1) := by decide +kernel
theorem dX8_stonesToEnclose_130 : decode cX8_stonesToEnclose 130 = .ok (.iload 8, 2) := by decide +kernel
theorem dX8_stonesToEnclose_132 : decode cX8_stonesToEnclose 132 = .ok (.iconst 1, 1) := by decide +kernel
theorem dX8_stonesToEnclose_133 : decode cX8_stonesToEnclose 133 = .ok (.iadd, 1) := by decide +kernel
theorem dX8_stonesToEnclose_134 : decode cX8_stonesToEnclose 134 = .ok (.istore 9, 2) := by decide +kernel
theorem dX8_stonesToEnclose_136 : decode cX8_stonesToEnclose 136 = .ok (.iload 9, 2) := by decide +kernel
theorem dX8_stonesToEnclose_138 : decode cX8_stonesToEnclose 138 = .ok (.aload_n 0, 1) := by decide +kernel
theorem dX8_stonesToEnclose_139 : decode cX8_stonesToEnclose 139 = .ok (.invokevirtual 76, 3) := by decide +kernel
theorem dX8_stonesToEnclose_142 : decode cX8_stonesToEnclose 142 = .ok (.if_icmp .ge 57, 3) := by decide +kernel
theorem dX8_stonesToEnclose_145 : decode cX8_stonesToEnclose 145 = .ok (.iload 7, 2) := by decide +kernel
theorem dX8_stonesToEnclose_147 : decode cX8_stonesToEnclose 147 = .ok (.iconst 2, 1) := by decide +kernel
theorem dX8_stonesToEnclose_148 : decode cX8_stonesToEnclose 148 = .ok (.if_icmp .le 51, 3) := by decide +kernel
theorem dX8_stonesToEnclose_151 : decode cX8_stonesToEnclose 151 = .ok (.lload 5, 2) := by decide +kernel
theorem dX8_stonesToEnclose_153 : decode cX8_stonesToEnclose 153 = .ok (.iload 9, 2) := by decide +kernel
theorem dX8_stonesToEnclose_155 : decode cX8_stonesToEnclose 155 = .ok (.lshr, 1) := by decide +kernel
theorem dX8_stonesToEnclose_156 : decode cX8_stonesToEnclose 156 = .ok (.lconst 1, 1) := by decide +kernel
theorem dX8_stonesToEnclose_157 : decode cX8_stonesToEnclose 157 = .ok (.land, 1) := by decide +kernel
theorem dX8_stonesToEnclose_158 : decode cX8_stonesToEnclose 158 = .ok (.lconst 1, 1) := by decide +kernel
theorem dX8_stonesToEnclose_159 : decode cX8_stonesToEnclose 159 = .ok (.lcmp, 1) := by decide +kernel
theorem dX8_stonesToEnclose_160 : decode cX8_stonesToEnclose 160 = .ok (.ifCond .ne 33, 3) := by decide +kernel
theorem dX8_stonesToEnclose_163 : decode cX8_stonesToEnclose 163 = .ok (.aload_n 0, 1) := by decide +kernel
theorem dX8_stonesToEnclose_164 : decode cX8_stonesToEnclose 164 = .ok (.lload_n 3, 1) := by decide +kernel
theorem dX8_stonesToEnclose_165 : decode cX8_stonesToEnclose 165 = .ok (.lconst 1, 1) := by decide +kernel
theorem dX8_stonesToEnclose_166 : decode cX8_stonesToEnclose 166 = .ok (.iload 8, 2) := by decide +kernel
theorem dX8_stonesToEnclose_168 : decode cX8_stonesToEnclose 168 = .ok (.lshl, 1) := by decide +kernel
theorem dX8_stonesToEnclose_169 : decode cX8_stonesToEnclose 169 = .ok (.ldc2_w 95, 3) := by decide +kernel
theorem dX8_stonesToEnclose_172 : decode cX8_stonesToEnclose 172 = .ok (.lxor, 1) := by decide +kernel
theorem dX8_stonesToEnclose_173 : decode cX8_stonesToEnclose 173 = .ok (.land, 1) := by decide +kernel
theorem dX8_stonesToEnclose_174 : decode cX8_stonesToEnclose 174 = .ok (.lconst 1, 1) := by decide +kernel
theorem dX8_stonesToEnclose_175 : decode cX8_stonesToEnclose 175 = .ok (.iload 9, 2) := by decide +kernel
theorem dX8_stonesToEnclose_177 : decode cX8_stonesToEnclose 177 = .ok (.lshl, 1) := by decide +kernel
theorem dX8_stonesToEnclose_178 : decode cX8_stonesToEnclose 178 = .ok (.ldc2_w 95, 3) := by decide +kernel
theorem dX8_stonesToEnclose_181 : decode cX8_stonesToEnclose 181 = .ok (.lxor, 1) := by decide +kernel
theorem dX8_stonesToEnclose_182 : decode cX8_stonesToEnclose 182 = .ok (.land, 1) := by decide +kernel
theorem dX8_stonesToEnclose_183 : decode cX8_stonesToEnclose 183 = .ok (.iload_n 2, 1) := by decide +kernel
theorem dX8_stonesToEnclose_184 : decode cX8_stonesToEnclose 184 = .ok (.invokevirtual 188, 3) := by decide +kernel
theorem dX8_stonesToEnclose_187 : decode cX8_stonesToEnclose 187 = .ok (.ifCond .eq 6, 3) := by decide +kernel
theorem dX8_stonesToEnclose_190 : decode cX8_stonesToEnclose 190 = .ok (.iconst 2, 1) := by decide +kernel
theorem dX8_stonesToEnclose_191 : decode cX8_stonesToEnclose 191 = .ok (.istore 7, 2) := by decide +kernel
theorem dX8_stonesToEnclose_193 : decode cX8_stonesToEnclose 193 = .ok (.iinc 9 1, 3) := by decide +kernel
theorem dX8_stonesToEnclose_196 : decode cX8_stonesToEnclose 196 = .ok (.goto (-60), 3) := by decide +kernel
theorem dX8_stonesToEnclose_199 : decode cX8_stonesToEnclose 199 = .ok (.iinc 8 1, 3) := by decide +kernel
theorem dX8_stonesToEnclose_202 : decode cX8_stonesToEnclose 202 = .ok (.goto (-116), 3) := by decide +kernel
theorem dX8_stonesToEnclose_205 : decode cX8_stonesToEnclose 205 = .ok (.iload 7, 2) := by decide +kernel
theorem dX8_stonesToEnclose_207 : decode cX8_stonesToEnclose 207 = .ok (.iconst 2, 1) := by decide +kernel
theorem dX8_stonesToEnclose_208 : decode cX8_stonesToEnclose 208 = .ok (.if_icmp .ne 7, 3) := by decide +kernel
theorem dX8_stonesToEnclose_211 : decode cX8_stonesToEnclose 211 = .ok (.iconst 2, 1) := by decide +kernel
theorem dX8_stonesToEnclose_212 : decode cX8_stonesToEnclose 212 = .ok (.goto 8, 3) := by decide +kernel
theorem dX8_stonesToEnclose_215 : decode cX8_stonesToEnclose 215 = .ok (.aload_n 0, 1) := by decide +kernel
theorem dX8_stonesToEnclose_216 : decode cX8_stonesToEnclose 216 = .ok (.iconst 2, 1) := by decide +kernel
theorem dX8_stonesToEnclose_217 : decode cX8_stonesToEnclose 217 = .ok (.invokevirtual 178, 3) := by decide +kernel
theorem dX8_stonesToEnclose_220 : decode cX8_stonesToEnclose 220 = .ok (.ireturn, 1) := by decide +kernel
theorem dX8_share_0 : decode cX8_share 0 = .ok (.aload_n 0, 1) := by decide +kernel
theorem dX8_share_1 : decode cX8_share 1 = .ok (.iload_n 1, 1) := by decide +kernel
theorem dX8_share_2 : decode cX8_share 2 = .ok (.iconst 0, 1) := by decide +kernel
theorem dX8_share_3 : decode cX8_share 3 = .ok (.iconst 1, 1) := by decide +kernel
theorem dX8_share_4 : decode cX8_share 4 = .ok (.invokestatic 80, 3) := by decide +kernel
theorem dX8_share_7 : decode cX8_share 7 = .ok (.ifCond .eq 7, 3) := by decide +kernel
theorem dX8_share_10 : decode cX8_share 10 = .ok (.iconst 0, 1) := by decide +kernel
theorem dX8_share_11 : decode cX8_share 11 = .ok (.goto 4, 3) := by decide +kernel
theorem dX8_share_14 : decode cX8_share 14 = .ok (.iconst 1, 1) := by decide +kernel
theorem dX8_share_15 : decode cX8_share 15 = .ok (.putfield 73, 3) := by decide +kernel
theorem dX8_share_18 : decode cX8_share 18 = .ok (.aload_n 0, 1) := by decide +kernel
theorem dX8_share_19 : decode cX8_share 19 = .ok (.getfield 73, 3) := by decide +kernel
theorem dX8_share_22 : decode cX8_share 22 = .ok (.iconst 1, 1) := by decide +kernel
theorem dX8_share_23 : decode cX8_share 23 = .ok (.if_icmp .ne 7, 3) := by decide +kernel
theorem dX8_share_26 : decode cX8_share 26 = .ok (.dconst 0, 1) := by decide +kernel
theorem dX8_share_27 : decode cX8_share 27 = .ok (.goto 25, 3) := by decide +kernel
theorem dX8_share_30 : decode cX8_share 30 = .ok (.aload_n 0, 1) := by decide +kernel
theorem dX8_share_31 : decode cX8_share 31 = .ok (.iconst 1, 1) := by decide +kernel
theorem dX8_share_32 : decode cX8_share 32 = .ok (.iload_n 1, 1) := by decide +kernel
theorem dX8_share_33 : decode cX8_share 33 = .ok (.iadd, 1) := by decide +kernel
theorem dX8_share_34 : decode cX8_share 34 = .ok (.invokevirtual 84, 3) := by decide +kernel
theorem dX8_share_37 : decode cX8_share 37 = .ok (.aload_n 0, 1) := by decide +kernel
theorem dX8_share_38 : decode cX8_share 38 = .ok (.iconst 3, 1) := by decide +kernel
theorem dX8_share_39 : decode cX8_share 39 = .ok (.iload_n 1, 1) := by decide +kernel
theorem dX8_share_40 : decode cX8_share 40 = .ok (.iadd, 1) := by decide +kernel
theorem dX8_share_41 : decode cX8_share 41 = .ok (.invokevirtual 84, 3) := by decide +kernel
theorem dX8_share_44 : decode cX8_share 44 = .ok (.iadd, 1) := by decide +kernel
theorem dX8_share_45 : decode cX8_share 45 = .ok (.i2d, 1) := by decide +kernel
theorem dX8_share_46 : decode cX8_share 46 = .ok (.aload_n 0, 1) := by decide +kernel
theorem dX8_share_47 : decode cX8_share 47 = .ok (.invokevirtual 76, 3) := by decide +kernel
theorem dX8_share_50 : decode cX8_share 50 = .ok (.i2d, 1) := by decide +kernel
theorem dX8_share_51 : decode cX8_share 51 = .ok (.ddiv, 1) := by decide +kernel
theorem dX8_share_52 : decode cX8_share 52 = .ok (.dreturn, 1) := by decide +kernel
theorem dX8_round_0 : decode cX8_round 0 = .ok (.aload_n 0, 1) := by decide +kernel
theorem dX8_round_1 : decode cX8_round 1 = .ok (.iload_n 1, 1) := by decide +kernel
theorem dX8_round_2 : decode cX8_round 2 = .ok (.iconst 0, 1) := by decide +kernel
theorem dX8_round_3 : decode cX8_round 3 = .ok (.aload_n 0, 1) := by decide +kernel
theorem dX8_round_4 : decode cX8_round 4 = .ok (.getfield 20, 3) := by decide +kernel
theorem dX8_round_7 : decode cX8_round 7 = .ok (.sipush 153, 3) := by decide +kernel
theorem dX8_round_10 : decode cX8_round 10 = .ok (.iaload, 1) := by decide +kernel
theorem dX8_round_11 : decode cX8_round 11 = .ok (.iconst 1, 1) := by decide +kernel
theorem dX8_round_12 : decode cX8_round 12 = .ok (.isub, 1) := by decide +kernel
theorem dX8_round_13 : decode cX8_round 13 = .ok (.invokestatic 80, 3) := by decide +kernel
theorem dX8_round_16 : decode cX8_round 16 = .ok (.ifCond .ne 7, 3) := by decide +kernel
theorem dX8_round_19 : decode cX8_round 19 = .ok (.iconst 1, 1) := by decide +kernel
theorem dX8_round_20 : decode cX8_round 20 = .ok (.goto 18, 3) := by decide +kernel
theorem dX8_round_23 : decode cX8_round 23 = .ok (.iload_n 2, 1) := by decide +kernel
theorem dX8_round_24 : decode cX8_round 24 = .ok (.iconst 0, 1) := by decide +kernel
theorem dX8_round_25 : decode cX8_round 25 = .ok (.bipush 6, 2) := by decide +kernel
theorem dX8_round_27 : decode cX8_round 27 = .ok (.invokestatic 80, 3) := by decide +kernel
theorem dX8_round_30 : decode cX8_round 30 = .ok (.ifCond .ne 7, 3) := by decide +kernel
theorem dX8_round_33 : decode cX8_round 33 = .ok (.iconst 2, 1) := by decide +kernel
theorem dX8_round_34 : decode cX8_round 34 = .ok (.goto 4, 3) := by decide +kernel
theorem dX8_round_37 : decode cX8_round 37 = .ok (.iconst 0, 1) := by decide +kernel
theorem dX8_round_38 : decode cX8_round 38 = .ok (.putfield 73, 3) := by decide +kernel
theorem dX8_round_41 : decode cX8_round 41 = .ok (.aload_n 0, 1) := by decide +kernel
theorem dX8_round_42 : decode cX8_round 42 = .ok (.getfield 73, 3) := by decide +kernel
theorem dX8_round_45 : decode cX8_round 45 = .ok (.ifCond .ne 17, 3) := by decide +kernel
theorem dX8_round_48 : decode cX8_round 48 = .ok (.aload_n 0, 1) := by decide +kernel
theorem dX8_round_49 : decode cX8_round 49 = .ok (.getfield 32, 3) := by decide +kernel
theorem dX8_round_52 : decode cX8_round 52 = .ok (.bipush 7, 2) := by decide +kernel
theorem dX8_round_54 : decode cX8_round 54 = .ok (.iload_n 1, 1) := by decide +kernel
theorem dX8_round_55 : decode cX8_round 55 = .ok (.imul, 1) := by decide +kernel
theorem dX8_round_56 : decode cX8_round 56 = .ok (.iload_n 2, 1) := by decide +kernel
theorem dX8_round_57 : decode cX8_round 57 = .ok (.iadd, 1) := by decide +kernel
theorem dX8_round_58 : decode cX8_round 58 = .ok (.iaload, 1) := by decide +kernel
theorem dX8_round_59 : decode cX8_round 59 = .ok (.goto 4, 3) := by decide +kernel
theorem dX8_round_62 : decode cX8_round 62 = .ok (.iconst 0, 1) := by decide +kernel
theorem dX8_round_63 : decode cX8_round 63 = .ok (.ireturn, 1) := by decide +kernel
theorem dX8_turningPoint_0 : decode cX8_turningPoint 0 = .ok (.aload_n 0, 1) := by decide +kernel
theorem dX8_turningPoint_1 : decode cX8_turningPoint 1 = .ok (.aload_n 0, 1) := by decide +kernel
theorem dX8_turningPoint_2 : decode cX8_turningPoint 2 = .ok (.getfield 20, 3) := by decide +kernel
theorem dX8_turningPoint_5 : decode cX8_turningPoint 5 = .ok (.sipush 153, 3) := by decide +kernel
theorem dX8_turningPoint_8 : decode cX8_turningPoint 8 = .ok (.iaload, 1) := by decide +kernel
theorem dX8_turningPoint_9 : decode cX8_turningPoint 9 = .ok (.ifCond .ne 7, 3) := by decide +kernel
theorem dX8_turningPoint_12 : decode cX8_turningPoint 12 = .ok (.iconst 1, 1) := by decide +kernel
theorem dX8_turningPoint_13 : decode cX8_turningPoint 13 = .ok (.goto 4, 3) := by decide +kernel
theorem dX8_turningPoint_16 : decode cX8_turningPoint 16 = .ok (.iconst 0, 1) := by decide +kernel
theorem dX8_turningPoint_17 : decode cX8_turningPoint 17 = .ok (.putfield 73, 3) := by decide +kernel
theorem dX8_turningPoint_20 : decode cX8_turningPoint 20 = .ok (.iconst 0, 1) := by decide +kernel
theorem dX8_turningPoint_21 : decode cX8_turningPoint 21 = .ok (.istore_n 1, 1) := by decide +kernel
theorem dX8_turningPoint_22 : decode cX8_turningPoint 22 = .ok (.iconst (-1), 1) := by decide +kernel
theorem dX8_turningPoint_23 : decode cX8_turningPoint 23 = .ok (.istore_n 2, 1) := by decide +kernel
theorem dX8_turningPoint_24 : decode cX8_turningPoint 24 = .ok (.aload_n 0, 1) := by decide +kernel
theorem dX8_turningPoint_25 : decode cX8_turningPoint 25 = .ok (.getfield 16, 3) := by decide +kernel
theorem dX8_turningPoint_28 : decode cX8_turningPoint 28 = .ok (.iconst 0, 1) := by decide +kernel
theorem dX8_turningPoint_29 : decode cX8_turningPoint 29 = .ok (.iaload, 1) := by decide +kernel
theorem dX8_turningPoint_30 : decode cX8_turningPoint 30 = .ok (.aload_n 0, 1) := by decide +kernel
theorem dX8_turningPoint_31 : decode cX8_turningPoint 31 = .ok (.getfield 16, 3) := by decide +kernel
theorem dX8_turningPoint_34 : decode cX8_turningPoint 34 = .ok (.iconst 1, 1) := by decide +kernel
theorem dX8_turningPoint_35 : decode cX8_turningPoint 35 = .ok (.iaload, 1) := by decide +kernel
theorem dX8_turningPoint_36 : decode cX8_turningPoint 36 = .ok (.isub, 1) := by decide +kernel
theorem dX8_turningPoint_37 : decode cX8_turningPoint 37 = .ok (.istore_n 3, 1) := by decide +kernel
theorem dX8_turningPoint_38 : decode cX8_turningPoint 38 = .ok (.iconst 0, 1) := by decide +kernel
theorem dX8_turningPoint_39 : decode cX8_turningPoint 39 = .ok (.istore 4, 2) := by decide +kernel
theorem dX8_turningPoint_41 : decode cX8_turningPoint 41 = .ok (.iload 4, 2) := by decide +kernel
theorem dX8_turningPoint_43 : decode cX8_turningPoint 43 = .ok (.aload_n 0, 1) := by decide +kernel
theorem dX8_turningPoint_44 : decode cX8_turningPoint 44 = .ok (.getfield 20, 3) := by decide +kernel
theorem dX8_turningPoint_47 : decode cX8_turningPoint 47 = .ok (.sipush 153, 3) := by decide +kernel
theorem dX8_turningPoint_50 : decode cX8_turningPoint 50 = .ok (.iaload, 1) := by decide +kernel
theorem dX8_turningPoint_51 : decode cX8_turningPoint 51 = .ok (.if_icmp .ge 71, 3) := by decide +kernel
theorem dX8_turningPoint_54 : decode cX8_turningPoint 54 = .ok (.aload_n 0, 1) := by decide +kernel
theorem dX8_turningPoint_55 : decode cX8_turningPoint 55 = .ok (.getfield 32, 3) := by decide +kernel
theorem dX8_turningPoint_58 : decode cX8_turningPoint 58 = .ok (.bipush 7, 2) := by decide +kernel
theorem dX8_turningPoint_60 : decode cX8_turningPoint 60 = .ok (.iload 4, 2) := by decide +kernel
theorem dX8_turningPoint_62 : decode cX8_turningPoint 62 = .ok (.imul, 1) := by decide +kernel
theorem dX8_turningPoint_63 : decode cX8_turningPoint 63 = .ok (.iconst 5, 1) := by decide +kernel
theorem dX8_turningPoint_64 : decode cX8_turningPoint 64 = .ok (.iadd, 1) := by decide +kernel
theorem dX8_turningPoint_65 : decode cX8_turningPoint 65 = .ok (.iaload, 1) := by decide +kernel
theorem dX8_turningPoint_66 : decode cX8_turningPoint 66 = .ok (.aload_n 0, 1) := by decide +kernel
theorem dX8_turningPoint_67 : decode cX8_turningPoint 67 = .ok (.getfield 32, 3) := by decide +kernel
theorem dX8_turningPoint_70 : decode cX8_turningPoint 70 = .ok (.bipush 7, 2) := by decide +kernel
theorem dX8_turningPoint_72 : decode cX8_turningPoint 72 = .ok (.iload 4, 2) := by decide +kernel
theorem dX8_turningPoint_74 : decode cX8_turningPoint 74 = .ok (.imul, 1) := by decide +kernel
theorem dX8_turningPoint_75 : decode cX8_turningPoint 75 = .ok (.bipush 6, 2) := by decide +kernel
theorem dX8_turningPoint_77 : decode cX8_turningPoint 77 = .ok (.iadd, 1) := by decide +kernel
theorem dX8_turningPoint_78 : decode cX8_turningPoint 78 = .ok (.iaload, 1) := by decide +kernel
theorem dX8_turningPoint_79 : decode cX8_turningPoint 79 = .ok (.isub, 1) := by decide +kernel
theorem dX8_turningPoint_80 : decode cX8_turningPoint 80 = .ok (.istore 5, 2) := by decide +kernel
theorem dX8_turningPoint_82 : decode cX8_turningPoint 82 = .ok (.iload 5, 2) := by decide +kernel
theorem dX8_turningPoint_84 : decode cX8_turningPoint 84 = .ok (.iload_n 3, 1) := by decide +kernel
theorem dX8_turningPoint_85 : decode cX8_turningPoint 85 = .ok (.if_icmp .le 10, 3) := by decide +kernel
theorem dX8_turningPoint_88 : decode cX8_turningPoint 88 = .ok (.iload 5, 2) := by decide +kernel
theorem dX8_turningPoint_90 : decode cX8_turningPoint 90 = .ok (.iload_n 3, 1) := by decide +kernel
theorem dX8_turningPoint_91 : decode cX8_turningPoint 91 = .ok (.isub, 1) := by decide +kernel
theorem dX8_turningPoint_92 : decode cX8_turningPoint 92 = .ok (.goto 7, 3) := by decide +kernel
theorem dX8_turningPoint_95 : decode cX8_turningPoint 95 = .ok (.iload_n 3, 1) := by decide +kernel
theorem dX8_turningPoint_96 : decode cX8_turningPoint 96 = .ok (.iload 5, 2) := by decide +kernel
theorem dX8_turningPoint_98 : decode cX8_turningPoint 98 = .ok (.isub, 1) := by decide +kernel
theorem dX8_turningPoint_99 : decode cX8_turningPoint 99 = .ok (.istore 6, 2) := by decide +kernel
theorem dX8_turningPoint_101 : decode cX8_turningPoint 101 = .ok (.iload 6, 2) := by decide +kernel
theorem dX8_turningPoint_103 : decode cX8_turningPoint 103 = .ok (.iload_n 2, 1) := by decide +kernel
theorem dX8_turningPoint_104 : decode cX8_turningPoint 104 = .ok (.if_icmp .le 9, 3) := by decide +kernel
theorem dX8_turningPoint_107 : decode cX8_turningPoint 107 = .ok (.iload 4, 2) := by decide +kernel
theorem dX8_turningPoint_109 : decode cX8_turningPoint 109 = .ok (.istore_n 1, 1) := by decide +kernel
theorem dX8_turningPoint_110 : decode cX8_turningPoint 110 = .ok (.iload 6, 2) := by decide +kernel
theorem dX8_turningPoint_112 : decode cX8_turningPoint 112 = .ok (.istore_n 2, 1) := by decide +kernel
theorem dX8_turningPoint_113 : decode cX8_turningPoint 113 = .ok (.iload 5, 2) := by decide +kernel
theorem dX8_turningPoint_115 : decode cX8_turningPoint 115 = .ok (.istore_n 3, 1) := by decide +kernel
theorem dX8_turningPoint_116 : decode cX8_turningPoint 116 = .ok (.iinc 4 1, 3) := by decide +kernel
theorem dX8_turningPoint_119 : decode cX8_turningPoint 119 = .ok (.goto (-78), 3) := by decide +kernel
theorem dX8_turningPoint_122 : decode cX8_turningPoint 122 = .ok (.iload_n 1, 1) := by decide +kernel
theorem dX8_turningPoint_123 : decode cX8_turningPoint 123 = .ok (.ireturn, 1) := by decide +kernel
theorem dX8_outcome_0 : decode cX8_outcome 0 = .ok (.aload_n 0, 1) := by decide +kernel
theorem dX8_outcome_1 : decode cX8_outcome 1 = .ok (.iload_n 1, 1) := by decide +kernel
theorem dX8_outcome_2 : decode cX8_outcome 2 = .ok (.invokevirtual 138, 3) := by decide +kernel
theorem dX8_outcome_5 : decode cX8_outcome 5 = .ok (.aload_n 0, 1) := by decide +kernel
theorem dX8_outcome_6 : decode cX8_outcome 6 = .ok (.iconst 1, 1) := by decide +kernel
theorem dX8_outcome_7 : decode cX8_outcome 7 = .ok (.iload_n 1, 1) := by decide +kernel
theorem dX8_outcome_8 : decode cX8_outcome 8 = .ok (.isub, 1) := by decide +kernel
theorem dX8_outcome_9 : decode cX8_outcome 9 = .ok (.invokevirtual 138, 3) := by decide +kernel
theorem dX8_outcome_12 : decode cX8_outcome 12 = .ok (.isub, 1) := by decide +kernel
theorem dX8_outcome_13 : decode cX8_outcome 13 = .ok (.ireturn, 1) := by decide +kernel
theorem dX8_makes_0 : decode cX8_makes 0 = .ok (.iload_n 1, 1) := by decide +kernel
theorem dX8_makes_1 : decode cX8_makes 1 = .ok (.ifCond .ne 12, 3) := by decide +kernel
theorem dX8_makes_4 : decode cX8_makes 4 = .ok (.aload_n 0, 1) := by decide +kernel
theorem dX8_makes_5 : decode cX8_makes 5 = .ok (.iload_n 2, 1) := by decide +kernel
theorem dX8_makes_6 : decode cX8_makes 6 = .ok (.iload_n 3, 1) := by decide +kernel
theorem dX8_makes_7 : decode cX8_makes 7 = .ok (.invokevirtual 164, 3) := by decide +kernel
theorem dX8_makes_10 : decode cX8_makes 10 = .ok (.goto 9, 3) := by decide +kernel
theorem dX8_makes_13 : decode cX8_makes 13 = .ok (.aload_n 0, 1) := by decide +kernel
theorem dX8_makes_14 : decode cX8_makes 14 = .ok (.iload_n 3, 1) := by decide +kernel
theorem dX8_makes_15 : decode cX8_makes 15 = .ok (.iload_n 2, 1) := by decide +kernel
theorem dX8_makes_16 : decode cX8_makes 16 = .ok (.invokevirtual 164, 3) := by decide +kernel
theorem dX8_makes_19 : decode cX8_makes 19 = .ok (.return_, 1) := by decide +kernel
theorem dX8_near_0 : decode cX8_near 0 = .ok (.aload_n 0, 1) := by decide +kernel
theorem dX8_near_1 : decode cX8_near 1 = .ok (.getfield 20, 3) := by decide +kernel
theorem dX8_near_4 : decode cX8_near 4 = .ok (.aload_n 0, 1) := by decide +kernel
theorem dX8_near_5 : decode cX8_near 5 = .ok (.getfield 26, 3) := by decide +kernel
theorem dX8_near_8 : decode cX8_near 8 = .ok (.sipush 155, 3) := by decide +kernel
theorem dX8_near_11 : decode cX8_near 11 = .ok (.invokestatic 192, 3) := by decide +kernel
theorem dX8_near_14 : decode cX8_near 14 = .ok (.ldc 198, 2) := by decide +kernel
theorem dX8_near_16 : decode cX8_near 16 = .ok (.istore_n 3, 1) := by decide +kernel
theorem dX8_near_17 : decode cX8_near 17 = .ok (.iconst (-1), 1) := by decide +kernel
theorem dX8_near_18 : decode cX8_near 18 = .ok (.istore 4, 2) := by decide +kernel
theorem dX8_near_20 : decode cX8_near 20 = .ok (.iload 4, 2) := by decide +kernel
theorem dX8_near_22 : decode cX8_near 22 = .ok (.aload_n 0, 1) := by decide +kernel
theorem dX8_near_23 : decode cX8_near 23 = .ok (.invokevirtual 76, 3) := by decide +kernel
theorem dX8_near_26 : decode cX8_near 26 = .ok (.if_icmp .ge 63, 3) := by decide +kernel
theorem dX8_near_29 : decode cX8_near 29 = .ok (.aload_n 0, 1) := by decide +kernel
theorem dX8_near_30 : decode cX8_near 30 = .ok (.iload 4, 2) := by decide +kernel
theorem dX8_near_32 : decode cX8_near 32 = .ok (.invokevirtual 157, 3) := by decide +kernel
theorem dX8_near_35 : decode cX8_near 35 = .ok (.ifCond .ne 6, 3) := by decide +kernel
theorem dX8_near_38 : decode cX8_near 38 = .ok (.goto 45, 3) := by decide +kernel
theorem dX8_near_41 : decode cX8_near 41 = .ok (.aload_n 0, 1) := by decide +kernel
theorem dX8_near_42 : decode cX8_near 42 = .ok (.iload_n 1, 1) := by decide +kernel
theorem dX8_near_43 : decode cX8_near 43 = .ok (.iload_n 2, 1) := by decide +kernel
theorem dX8_near_44 : decode cX8_near 44 = .ok (.iload 4, 2) := by decide +kernel
theorem dX8_near_46 : decode cX8_near 46 = .ok (.invokevirtual 199, 3) := by decide +kernel
theorem dX8_near_49 : decode cX8_near 49 = .ok (.aload_n 0, 1) := by decide +kernel
theorem dX8_near_50 : decode cX8_near 50 = .ok (.iload_n 1, 1) := by decide +kernel
theorem dX8_near_51 : decode cX8_near 51 = .ok (.invokevirtual 202, 3) := by decide +kernel
theorem dX8_near_54 : decode cX8_near 54 = .ok (.istore 5, 2) := by decide +kernel
theorem dX8_near_56 : decode cX8_near 56 = .ok (.iload 5, 2) := by decide +kernel
theorem dX8_near_58 : decode cX8_near 58 = .ok (.iload_n 3, 1) := by decide +kernel
theorem dX8_near_59 : decode cX8_near 59 = .ok (.if_icmp .ge 8, 3) := by decide +kernel
theorem dX8_near_62 : decode cX8_near 62 = .ok (.iload 5, 2) := by decide +kernel
theorem dX8_near_64 : decode cX8_near 64 = .ok (.goto 4, 3) := by decide +kernel
theorem dX8_near_67 : decode cX8_near 67 = .ok (.iload_n 3, 1) := by decide +kernel
theorem dX8_near_68 : decode cX8_near 68 = .ok (.istore_n 3, 1) := by decide +kernel
theorem dX8_near_69 : decode cX8_near 69 = .ok (.aload_n 0, 1) := by decide +kernel
theorem dX8_near_70 : decode cX8_near 70 = .ok (.getfield 26, 3) := by decide +kernel
theorem dX8_near_73 : decode cX8_near 73 = .ok (.aload_n 0, 1) := by decide +kernel
theorem dX8_near_74 : decode cX8_near 74 = .ok (.getfield 20, 3) := by decide +kernel
theorem dX8_near_77 : decode cX8_near 77 = .ok (.sipush 155, 3) := by decide +kernel
theorem dX8_near_80 : decode cX8_near 80 = .ok (.invokestatic 192, 3) := by decide +kernel
theorem dX8_near_83 : decode cX8_near 83 = .ok (.iinc 4 1, 3) := by decide +kernel
theorem dX8_near_86 : decode cX8_near 86 = .ok (.goto (-66), 3) := by decide +kernel
theorem dX8_near_89 : decode cX8_near 89 = .ok (.iload_n 3, 1) := by decide +kernel
theorem dX8_near_90 : decode cX8_near 90 = .ok (.ireturn, 1) := by decide +kernel
theorem dX8_bestNear_0 : decode cX8_bestNear 0 = .ok (.ldc 205, 2) := by decide +kernel
theorem dX8_bestNear_2 : decode cX8_bestNear 2 = .ok (.istore_n 2, 1) := by decide +kernel
theorem dX8_bestNear_3 : decode cX8_bestNear 3 = .ok (.iconst (-1), 1) := by decide +kernel
theorem dX8_bestNear_4 : decode cX8_bestNear 4 = .ok (.istore_n 3, 1) := by decide +kernel
theorem dX8_bestNear_5 : decode cX8_bestNear 5 = .ok (.iload_n 3, 1) := by decide +kernel
theorem dX8_bestNear_6 : decode cX8_bestNear 6 = .ok (.aload_n 0, 1) := by decide +kernel
theorem dX8_bestNear_7 : decode cX8_bestNear 7 = .ok (.invokevirtual 76, 3) := by decide +kernel
theorem dX8_bestNear_10 : decode cX8_bestNear 10 = .ok (.if_icmp .ge 41, 3) := by decide +kernel
theorem dX8_bestNear_13 : decode cX8_bestNear 13 = .ok (.aload_n 0, 1) := by decide +kernel
theorem dX8_bestNear_14 : decode cX8_bestNear 14 = .ok (.iload_n 3, 1) := by decide +kernel
theorem dX8_bestNear_15 : decode cX8_bestNear 15 = .ok (.invokevirtual 157, 3) := by decide +kernel
theorem dX8_bestNear_18 : decode cX8_bestNear 18 = .ok (.ifCond .ne 6, 3) := by decide +kernel
theorem dX8_bestNear_21 : decode cX8_bestNear 21 = .ok (.goto 24, 3) := by decide +kernel
theorem dX8_bestNear_24 : decode cX8_bestNear 24 = .ok (.aload_n 0, 1) := by decide +kernel
theorem dX8_bestNear_25 : decode cX8_bestNear 25 = .ok (.iload_n 1, 1) := by decide +kernel
theorem dX8_bestNear_26 : decode cX8_bestNear 26 = .ok (.iload_n 3, 1) := by decide +kernel
theorem dX8_bestNear_27 : decode cX8_bestNear 27 = .ok (.invokevirtual 206, 3) := by decide +kernel
theorem dX8_bestNear_30 : decode cX8_bestNear 30 = .ok (.istore 4, 2) := by decide +kernel
theorem dX8_bestNear_32 : decode cX8_bestNear 32 = .ok (.iload 4, 2) := by decide +kernel
theorem dX8_bestNear_34 : decode cX8_bestNear 34 = .ok (.iload_n 2, 1) := by decide +kernel
theorem dX8_bestNear_35 : decode cX8_bestNear 35 = .ok (.if_icmp .le 8, 3) := by decide +kernel
theorem dX8_bestNear_38 : decode cX8_bestNear 38 = .ok (.iload 4, 2) := by decide +kernel
theorem dX8_bestNear_40 : decode cX8_bestNear 40 = .ok (.goto 4, 3) := by decide +kernel
theorem dX8_bestNear_43 : decode cX8_bestNear 43 = .ok (.iload_n 2, 1) := by decide +kernel
theorem dX8_bestNear_44 : decode cX8_bestNear 44 = .ok (.istore_n 2, 1) := by decide +kernel
theorem dX8_bestNear_45 : decode cX8_bestNear 45 = .ok (.iinc 3 1, 3) := by decide +kernel
theorem dX8_bestNear_48 : decode cX8_bestNear 48 = .ok (.goto (-43), 3) := by decide +kernel
theorem dX8_bestNear_51 : decode cX8_bestNear 51 = .ok (.iload_n 2, 1) := by decide +kernel
theorem dX8_bestNear_52 : decode cX8_bestNear 52 = .ok (.ireturn, 1) := by decide +kernel
theorem dX8_far_0 : decode cX8_far 0 = .ok (.aload_n 0, 1) := by decide +kernel
theorem dX8_far_1 : decode cX8_far 1 = .ok (.getfield 20, 3) := by decide +kernel
theorem dX8_far_4 : decode cX8_far 4 = .ok (.aload_n 0, 1) := by decide +kernel
theorem dX8_far_5 : decode cX8_far 5 = .ok (.getfield 23, 3) := by decide +kernel
theorem dX8_far_8 : decode cX8_far 8 = .ok (.sipush 155, 3) := by decide +kernel
theorem dX8_far_11 : decode cX8_far 11 = .ok (.invokestatic 192, 3) := by decide +kernel
theorem dX8_far_14 : decode cX8_far 14 = .ok (.ldc 198, 2) := by decide +kernel
theorem dX8_far_16 : decode cX8_far 16 = .ok (.istore_n 3, 1) := by decide +kernel
theorem dX8_far_17 : decode cX8_far 17 = .ok (.iconst (-1), 1) := by decide +kernel
theorem dX8_far_18 : decode cX8_far 18 = .ok (.istore 4, 2) := by decide +kernel
theorem dX8_far_20 : decode cX8_far 20 = .ok (.iload 4, 2) := by decide +kernel
theorem dX8_far_22 : decode cX8_far 22 = .ok (.aload_n 0, 1) := by decide +kernel
theorem dX8_far_23 : decode cX8_far 23 = .ok (.invokevirtual 76, 3) := by decide +kernel
theorem dX8_far_26 : decode cX8_far 26 = .ok (.if_icmp .ge 78, 3) := by decide +kernel
theorem dX8_far_29 : decode cX8_far 29 = .ok (.aload_n 0, 1) := by decide +kernel
theorem dX8_far_30 : decode cX8_far 30 = .ok (.iload 4, 2) := by decide +kernel
theorem dX8_far_32 : decode cX8_far 32 = .ok (.invokevirtual 157, 3) := by decide +kernel
theorem dX8_far_35 : decode cX8_far 35 = .ok (.ifCond .ne 6, 3) := by decide +kernel
theorem dX8_far_38 : decode cX8_far 38 = .ok (.goto 60, 3) := by decide +kernel
theorem dX8_far_41 : decode cX8_far 41 = .ok (.aload_n 0, 1) := by decide +kernel
theorem dX8_far_42 : decode cX8_far 42 = .ok (.iload_n 1, 1) := by decide +kernel
theorem dX8_far_43 : decode cX8_far 43 = .ok (.iload_n 2, 1) := by decide +kernel
theorem dX8_far_44 : decode cX8_far 44 = .ok (.iload 4, 2) := by decide +kernel
theorem dX8_far_46 : decode cX8_far 46 = .ok (.invokevirtual 199, 3) := by decide +kernel
theorem dX8_far_49 : decode cX8_far 49 = .ok (.aload_n 0, 1) := by decide +kernel
theorem dX8_far_50 : decode cX8_far 50 = .ok (.invokevirtual 170, 3) := by decide +kernel
theorem dX8_far_53 : decode cX8_far 53 = .ok (.ifCond .eq 11, 3) := by decide +kernel
theorem dX8_far_56 : decode cX8_far 56 = .ok (.aload_n 0, 1) := by decide +kernel
theorem dX8_far_57 : decode cX8_far 57 = .ok (.iload_n 1, 1) := by decide +kernel
theorem dX8_far_58 : decode cX8_far 58 = .ok (.invokevirtual 202, 3) := by decide +kernel
theorem dX8_far_61 : decode cX8_far 61 = .ok (.goto 8, 3) := by decide +kernel
theorem dX8_far_64 : decode cX8_far 64 = .ok (.aload_n 0, 1) := by decide +kernel
theorem dX8_far_65 : decode cX8_far 65 = .ok (.iload_n 1, 1) := by decide +kernel
theorem dX8_far_66 : decode cX8_far 66 = .ok (.invokevirtual 210, 3) := by decide +kernel
theorem dX8_far_69 : decode cX8_far 69 = .ok (.istore 5, 2) := by decide +kernel
theorem dX8_far_71 : decode cX8_far 71 = .ok (.iload 5, 2) := by decide +kernel
theorem dX8_far_73 : decode cX8_far 73 = .ok (.iload_n 3, 1) := by decide +kernel
theorem dX8_far_74 : decode cX8_far 74 = .ok (.if_icmp .ge 8, 3) := by decide +kernel
theorem dX8_far_77 : decode cX8_far 77 = .ok (.iload 5, 2) := by decide +kernel
theorem dX8_far_79 : decode cX8_far 79 = .ok (.goto 4, 3) := by decide +kernel
theorem dX8_far_82 : decode cX8_far 82 = .ok (.iload_n 3, 1) := by decide +kernel
theorem dX8_far_83 : decode cX8_far 83 = .ok (.istore_n 3, 1) := by decide +kernel
theorem dX8_far_84 : decode cX8_far 84 = .ok (.aload_n 0, 1) := by decide +kernel
theorem dX8_far_85 : decode cX8_far 85 = .ok (.getfield 23, 3) := by decide +kernel
theorem dX8_far_88 : decode cX8_far 88 = .ok (.aload_n 0, 1) := by decide +kernel
theorem dX8_far_89 : decode cX8_far 89 = .ok (.getfield 20, 3) := by decide +kernel
theorem dX8_far_92 : decode cX8_far 92 = .ok (.sipush 155, 3) := by decide +kernel
theorem dX8_far_95 : decode cX8_far 95 = .ok (.invokestatic 192, 3) := by decide +kernel
theorem dX8_far_98 : decode cX8_far 98 = .ok (.iinc 4 1, 3) := by decide +kernel
theorem dX8_far_101 : decode cX8_far 101 = .ok (.goto (-81), 3) := by decide +kernel
theorem dX8_far_104 : decode cX8_far 104 = .ok (.iload_n 3, 1) := by decide +kernel
theorem dX8_far_105 : decode cX8_far 105 = .ok (.ireturn, 1) := by decide +kernel
theorem dX8_guaranteed_0 : decode cX8_guaranteed 0 = .ok (.iload_n 3, 1) := by decide +kernel
theorem dX8_guaranteed_1 : decode cX8_guaranteed 1 = .ok (.iconst 1, 1) := by decide +kernel
theorem dX8_guaranteed_2 : decode cX8_guaranteed 2 = .ok (.if_icmp .ne 12, 3) := by decide +kernel
theorem dX8_guaranteed_5 : decode cX8_guaranteed 5 = .ok (.aload_n 0, 1) := by decide +kernel
theorem dX8_guaranteed_6 : decode cX8_guaranteed 6 = .ok (.iload_n 1, 1) := by decide +kernel
theorem dX8_guaranteed_7 : decode cX8_guaranteed 7 = .ok (.iload_n 2, 1) := by decide +kernel
theorem dX8_guaranteed_8 : decode cX8_guaranteed 8 = .ok (.invokevirtual 206, 3) := by decide +kernel
theorem dX8_guaranteed_11 : decode cX8_guaranteed 11 = .ok (.goto 9, 3) := by decide +kernel
theorem dX8_guaranteed_14 : decode cX8_guaranteed 14 = .ok (.aload_n 0, 1) := by decide +kernel
theorem dX8_guaranteed_15 : decode cX8_guaranteed 15 = .ok (.iload_n 1, 1) := by decide +kernel
theorem dX8_guaranteed_16 : decode cX8_guaranteed 16 = .ok (.iload_n 2, 1) := by decide +kernel
theorem dX8_guaranteed_17 : decode cX8_guaranteed 17 = .ok (.invokevirtual 213, 3) := by decide +kernel
theorem dX8_guaranteed_20 : decode cX8_guaranteed 20 = .ok (.ireturn, 1) := by decide +kernel
theorem dX8_guarantee_0 : decode cX8_guarantee 0 = .ok (.aload_n 0, 1) := by decide +kernel
theorem dX8_guarantee_1 : decode cX8_guarantee 1 = .ok (.iload_n 1, 1) := by decide +kernel
theorem dX8_guarantee_2 : decode cX8_guarantee 2 = .ok (.iconst 0, 1) := by decide +kernel
theorem dX8_guarantee_3 : decode cX8_guarantee 3 = .ok (.iconst 1, 1) := by decide +kernel
theorem dX8_guarantee_4 : decode cX8_guarantee 4 = .ok (.invokestatic 80, 3) := by decide +kernel
theorem dX8_guarantee_7 : decode cX8_guarantee 7 = .ok (.ifCond .eq 11, 3) := by decide +kernel
theorem dX8_guarantee_10 : decode cX8_guarantee 10 = .ok (.aload_n 0, 1) := by decide +kernel
theorem dX8_guarantee_11 : decode cX8_guarantee 11 = .ok (.iload_n 2, 1) := by decide +kernel
theorem dX8_guarantee_12 : decode cX8_guarantee 12 = .ok (.invokevirtual 167, 3) := by decide +kernel
theorem dX8_guarantee_15 : decode cX8_guarantee 15 = .ok (.ifCond .ne 7, 3) := by decide +kernel
theorem dX8_guarantee_18 : decode cX8_guarantee 18 = .ok (.iconst 1, 1) := by decide +kernel
theorem dX8_guarantee_19 : decode cX8_guarantee 19 = .ok (.goto 50, 3) := by decide +kernel
theorem dX8_guarantee_22 : decode cX8_guarantee 22 = .ok (.iload_n 3, 1) := by decide +kernel
theorem dX8_guarantee_23 : decode cX8_guarantee 23 = .ok (.iconst 1, 1) := by decide +kernel
theorem dX8_guarantee_24 : decode cX8_guarantee 24 = .ok (.iconst 2, 1) := by decide +kernel
theorem dX8_guarantee_25 : decode cX8_guarantee 25 = .ok (.invokestatic 80, 3) := by decide +kernel
theorem dX8_guarantee_28 : decode cX8_guarantee 28 = .ok (.ifCond .ne 7, 3) := by decide +kernel
theorem dX8_guarantee_31 : decode cX8_guarantee 31 = .ok (.iconst 2, 1) := by decide +kernel
theorem dX8_guarantee_32 : decode cX8_guarantee 32 = .ok (.goto 37, 3) := by decide +kernel
theorem dX8_guarantee_35 : decode cX8_guarantee 35 = .ok (.aload_n 0, 1) := by decide +kernel
theorem dX8_guarantee_36 : decode cX8_guarantee 36 = .ok (.invokevirtual 170, 3) := by decide +kernel
theorem dX8_guarantee_39 : decode cX8_guarantee 39 = .ok (.ifCond .ne 25, 3) := by decide +kernel
theorem dX8_guarantee_42 : decode cX8_guarantee 42 = .ok (.aload_n 0, 1) := by decide +kernel
theorem dX8_guarantee_43 : decode cX8_guarantee 43 = .ok (.iload_n 2, 1) := by decide +kernel
theorem dX8_guarantee_44 : decode cX8_guarantee 44 = .ok (.invokevirtual 157, 3) := by decide +kernel
theorem dX8_guarantee_47 : decode cX8_guarantee 47 = .ok (.ifCond .eq 17, 3) := by decide +kernel
theorem dX8_guarantee_50 : decode cX8_guarantee 50 = .ok (.iload_n 3, 1) := by decide +kernel
theorem dX8_guarantee_51 : decode cX8_guarantee 51 = .ok (.iconst 2, 1) := by decide +kernel
theorem dX8_guarantee_52 : decode cX8_guarantee 52 = .ok (.if_icmp .ne 16, 3) := by decide +kernel
theorem dX8_guarantee_55 : decode cX8_guarantee 55 = .ok (.aload_n 0, 1) := by decide +kernel
theorem dX8_guarantee_56 : decode cX8_guarantee 56 = .ok (.invokevirtual 108, 3) := by decide +kernel
theorem dX8_guarantee_59 : decode cX8_guarantee 59 = .ok (.bipush 6, 2) := by decide +kernel
theorem dX8_guarantee_61 : decode cX8_guarantee 61 = .ok (.if_icmp .le 7, 3) := by decide +kernel
theorem dX8_guarantee_64 : decode cX8_guarantee 64 = .ok (.iconst 3, 1) := by decide +kernel
theorem dX8_guarantee_65 : decode cX8_guarantee 65 = .ok (.goto 4, 3) := by decide +kernel
theorem dX8_guarantee_68 : decode cX8_guarantee 68 = .ok (.iconst 0, 1) := by decide +kernel
theorem dX8_guarantee_69 : decode cX8_guarantee 69 = .ok (.putfield 73, 3) := by decide +kernel
theorem dX8_guarantee_72 : decode cX8_guarantee 72 = .ok (.aload_n 0, 1) := by decide +kernel
theorem dX8_guarantee_73 : decode cX8_guarantee 73 = .ok (.getfield 73, 3) := by decide +kernel
theorem dX8_guarantee_76 : decode cX8_guarantee 76 = .ok (.ifCond .ne 13, 3) := by decide +kernel
theorem dX8_guarantee_79 : decode cX8_guarantee 79 = .ok (.aload_n 0, 1) := by decide +kernel
theorem dX8_guarantee_80 : decode cX8_guarantee 80 = .ok (.iload_n 1, 1) := by decide +kernel
theorem dX8_guarantee_81 : decode cX8_guarantee 81 = .ok (.iload_n 2, 1) := by decide +kernel
theorem dX8_guarantee_82 : decode cX8_guarantee 82 = .ok (.iload_n 3, 1) := by decide +kernel
theorem dX8_guarantee_83 : decode cX8_guarantee 83 = .ok (.invokevirtual 216, 3) := by decide +kernel
theorem dX8_guarantee_86 : decode cX8_guarantee 86 = .ok (.goto 4, 3) := by decide +kernel
theorem dX8_guarantee_89 : decode cX8_guarantee 89 = .ok (.iconst 0, 1) := by decide +kernel
theorem dX8_guarantee_90 : decode cX8_guarantee 90 = .ok (.ireturn, 1) := by decide +kernel
theorem dX8_best_0 : decode cX8_best 0 = .ok (.aload_n 0, 1) := by decide +kernel
theorem dX8_best_1 : decode cX8_best 1 = .ok (.iload_n 1, 1) := by decide +kernel
theorem dX8_best_2 : decode cX8_best 2 = .ok (.iconst 0, 1) := by decide +kernel
theorem dX8_best_3 : decode cX8_best 3 = .ok (.iconst 1, 1) := by decide +kernel
theorem dX8_best_4 : decode cX8_best 4 = .ok (.invokestatic 80, 3) := by decide +kernel
theorem dX8_best_7 : decode cX8_best 7 = .ok (.ifCond .ne 7, 3) := by decide +kernel
theorem dX8_best_10 : decode cX8_best 10 = .ok (.iconst 1, 1) := by decide +kernel
theorem dX8_best_11 : decode cX8_best 11 = .ok (.goto 42, 3) := by decide +kernel
theorem dX8_best_14 : decode cX8_best 14 = .ok (.iload_n 2, 1) := by decide +kernel
theorem dX8_best_15 : decode cX8_best 15 = .ok (.iconst 1, 1) := by decide +kernel
theorem dX8_best_16 : decode cX8_best 16 = .ok (.iconst 2, 1) := by decide +kernel
theorem dX8_best_17 : decode cX8_best 17 = .ok (.invokestatic 80, 3) := by decide +kernel
theorem dX8_best_20 : decode cX8_best 20 = .ok (.ifCond .ne 7, 3) := by decide +kernel
theorem dX8_best_23 : decode cX8_best 23 = .ok (.iconst 2, 1) := by decide +kernel
theorem dX8_best_24 : decode cX8_best 24 = .ok (.goto 29, 3) := by decide +kernel
theorem dX8_best_27 : decode cX8_best 27 = .ok (.aload_n 0, 1) := by decide +kernel
theorem dX8_best_28 : decode cX8_best 28 = .ok (.invokevirtual 170, 3) := by decide +kernel
theorem dX8_best_31 : decode cX8_best 31 = .ok (.ifCond .ne 17, 3) := by decide +kernel
theorem dX8_best_34 : decode cX8_best 34 = .ok (.iload_n 2, 1) := by decide +kernel
theorem dX8_best_35 : decode cX8_best 35 = .ok (.iconst 2, 1) := by decide +kernel
theorem dX8_best_36 : decode cX8_best 36 = .ok (.if_icmp .ne 16, 3) := by decide +kernel
theorem dX8_best_39 : decode cX8_best 39 = .ok (.aload_n 0, 1) := by decide +kernel
theorem dX8_best_40 : decode cX8_best 40 = .ok (.invokevirtual 108, 3) := by decide +kernel
theorem dX8_best_43 : decode cX8_best 43 = .ok (.bipush 6, 2) := by decide +kernel
theorem dX8_best_45 : decode cX8_best 45 = .ok (.if_icmp .le 7, 3) := by decide +kernel
theorem dX8_best_48 : decode cX8_best 48 = .ok (.iconst 3, 1) := by decide +kernel
theorem dX8_best_49 : decode cX8_best 49 = .ok (.goto 4, 3) := by decide +kernel
theorem dX8_best_52 : decode cX8_best 52 = .ok (.iconst 0, 1) := by decide +kernel
theorem dX8_best_53 : decode cX8_best 53 = .ok (.putfield 73, 3) := by decide +kernel
theorem dX8_best_56 : decode cX8_best 56 = .ok (.aload_n 0, 1) := by decide +kernel
theorem dX8_best_57 : decode cX8_best 57 = .ok (.getfield 73, 3) := by decide +kernel
theorem dX8_best_60 : decode cX8_best 60 = .ok (.ifCond .le 5, 3) := by decide +kernel
theorem dX8_best_63 : decode cX8_best 63 = .ok (.iconst 0, 1) := by decide +kernel
theorem dX8_best_64 : decode cX8_best 64 = .ok (.ireturn, 1) := by decide +kernel
theorem dX8_best_65 : decode cX8_best 65 = .ok (.iconst (-1), 1) := by decide +kernel
theorem dX8_best_66 : decode cX8_best 66 = .ok (.istore_n 3, 1) := by decide +kernel
theorem dX8_best_67 : decode cX8_best 67 = .ok (.ldc 205, 2) := by decide +kernel
theorem dX8_best_69 : decode cX8_best 69 = .ok (.istore 4, 2) := by decide +kernel
theorem dX8_best_71 : decode cX8_best 71 = .ok (.iconst 0, 1) := by decide +kernel
theorem dX8_best_72 : decode cX8_best 72 = .ok (.istore 5, 2) := by decide +kernel
theorem dX8_best_74 : decode cX8_best 74 = .ok (.iload 5, 2) := by decide +kernel
theorem dX8_best_76 : decode cX8_best 76 = .ok (.aload_n 0, 1) := by decide +kernel
theorem dX8_best_77 : decode cX8_best 77 = .ok (.invokevirtual 76, 3) := by decide +kernel
theorem dX8_best_80 : decode cX8_best 80 = .ok (.if_icmp .gt 62, 3) := by decide +kernel
theorem dX8_best_83 : decode cX8_best 83 = .ok (.iload 5, 2) := by decide +kernel
theorem dX8_best_85 : decode cX8_best 85 = .ok (.aload_n 0, 1) := by decide +kernel
theorem dX8_best_86 : decode cX8_best 86 = .ok (.invokevirtual 76, 3) := by decide +kernel
theorem dX8_best_89 : decode cX8_best 89 = .ok (.if_icmp .ne 7, 3) := by decide +kernel
theorem dX8_best_92 : decode cX8_best 92 = .ok (.iconst (-1), 1) := by decide +kernel
theorem dX8_best_93 : decode cX8_best 93 = .ok (.goto 5, 3) := by decide +kernel
theorem dX8_best_96 : decode cX8_best 96 = .ok (.iload 5, 2) := by decide +kernel
theorem dX8_best_98 : decode cX8_best 98 = .ok (.istore 6, 2) := by decide +kernel
theorem dX8_best_100 : decode cX8_best 100 = .ok (.aload_n 0, 1) := by decide +kernel
theorem dX8_best_101 : decode cX8_best 101 = .ok (.iload 6, 2) := by decide +kernel
theorem dX8_best_103 : decode cX8_best 103 = .ok (.invokevirtual 157, 3) := by decide +kernel
theorem dX8_best_106 : decode cX8_best 106 = .ok (.ifCond .ne 6, 3) := by decide +kernel
theorem dX8_best_109 : decode cX8_best 109 = .ok (.goto 27, 3) := by decide +kernel
theorem dX8_best_112 : decode cX8_best 112 = .ok (.aload_n 0, 1) := by decide +kernel
theorem dX8_best_113 : decode cX8_best 113 = .ok (.iload_n 1, 1) := by decide +kernel
theorem dX8_best_114 : decode cX8_best 114 = .ok (.iload 6, 2) := by decide +kernel
theorem dX8_best_116 : decode cX8_best 116 = .ok (.iload_n 2, 1) := by decide +kernel
theorem dX8_best_117 : decode cX8_best 117 = .ok (.invokevirtual 216, 3) := by decide +kernel
theorem dX8_best_120 : decode cX8_best 120 = .ok (.istore 7, 2) := by decide +kernel
theorem dX8_best_122 : decode cX8_best 122 = .ok (.iload 7, 2) := by decide +kernel
theorem dX8_best_124 : decode cX8_best 124 = .ok (.iload 4, 2) := by decide +kernel
theorem dX8_best_126 : decode cX8_best 126 = .ok (.if_icmp .le 10, 3) := by decide +kernel
theorem dX8_best_129 : decode cX8_best 129 = .ok (.iload 6, 2) := by decide +kernel
theorem dX8_best_131 : decode cX8_best 131 = .ok (.istore_n 3, 1) := by decide +kernel
theorem dX8_best_132 : decode cX8_best 132 = .ok (.iload 7, 2) := by decide +kernel
theorem dX8_best_134 : decode cX8_best 134 = .ok (.istore 4, 2) := by decide +kernel
theorem dX8_best_136 : decode cX8_best 136 = .ok (.iinc 5 1, 3) := by decide +kernel
theorem dX8_best_139 : decode cX8_best 139 = .ok (.goto (-65), 3) := by decide +kernel
theorem dX8_best_142 : decode cX8_best 142 = .ok (.iload_n 3, 1) := by decide +kernel
theorem dX8_best_143 : decode cX8_best 143 = .ok (.ireturn, 1) := by decide +kernel
theorem dX8_levels_0 : decode cX8_levels 0 = .ok (.aload_n 0, 1) := by decide +kernel
theorem dX8_levels_1 : decode cX8_levels 1 = .ok (.iconst 0, 1) := by decide +kernel
theorem dX8_levels_2 : decode cX8_levels 2 = .ok (.putfield 73, 3) := by decide +kernel
theorem dX8_levels_5 : decode cX8_levels 5 = .ok (.aload_n 0, 1) := by decide +kernel
theorem dX8_levels_6 : decode cX8_levels 6 = .ok (.getfield 154, 3) := by decide +kernel
theorem dX8_levels_9 : decode cX8_levels 9 = .ok (.ireturn, 1) := by decide +kernel
theorem dX8_report_0 : decode cX8_report 0 = .ok (.aload_n 0, 1) := by decide +kernel
theorem dX8_report_1 : decode cX8_report 1 = .ok (.iload_n 1, 1) := by decide +kernel
theorem dX8_report_2 : decode cX8_report 2 = .ok (.iconst 0, 1) := by decide +kernel
theorem dX8_report_3 : decode cX8_report 3 = .ok (.aload_n 0, 1) := by decide +kernel
theorem dX8_report_4 : decode cX8_report 4 = .ok (.getfield 154, 3) := by decide +kernel
theorem dX8_report_7 : decode cX8_report 7 = .ok (.iconst 1, 1) := by decide +kernel
theorem dX8_report_8 : decode cX8_report 8 = .ok (.isub, 1) := by decide +kernel
theorem dX8_report_9 : decode cX8_report 9 = .ok (.invokestatic 80, 3) := by decide +kernel
theorem dX8_report_12 : decode cX8_report 12 = .ok (.ifCond .ne 7, 3) := by decide +kernel
theorem dX8_report_15 : decode cX8_report 15 = .ok (.iconst 1, 1) := by decide +kernel
theorem dX8_report_16 : decode cX8_report 16 = .ok (.goto 17, 3) := by decide +kernel
theorem dX8_report_19 : decode cX8_report 19 = .ok (.iload_n 2, 1) := by decide +kernel
theorem dX8_report_20 : decode cX8_report 20 = .ok (.iconst 0, 1) := by decide +kernel
theorem dX8_report_21 : decode cX8_report 21 = .ok (.iconst 1, 1) := by decide +kernel
theorem dX8_report_22 : decode cX8_report 22 = .ok (.invokestatic 80, 3) := by decide +kernel
theorem dX8_report_25 : decode cX8_report 25 = .ok (.ifCond .ne 7, 3) := by decide +kernel
theorem dX8_report_28 : decode cX8_report 28 = .ok (.iconst 2, 1) := by decide +kernel
theorem dX8_report_29 : decode cX8_report 29 = .ok (.goto 4, 3) := by decide +kernel
theorem dX8_report_32 : decode cX8_report 32 = .ok (.iconst 0, 1) := by decide +kernel
theorem dX8_report_33 : decode cX8_report 33 = .ok (.putfield 73, 3) := by decide +kernel
theorem dX8_report_36 : decode cX8_report 36 = .ok (.aload_n 0, 1) := by decide +kernel
theorem dX8_report_37 : decode cX8_report 37 = .ok (.getfield 73, 3) := by decide +kernel
theorem dX8_report_40 : decode cX8_report 40 = .ok (.ifCond .le 7, 3) := by decide +kernel
theorem dX8_report_43 : decode cX8_report 43 = .ok (.iconst 0, 1) := by decide +kernel
theorem dX8_report_44 : decode cX8_report 44 = .ok (.goto 22, 3) := by decide +kernel
theorem dX8_report_47 : decode cX8_report 47 = .ok (.iload_n 2, 1) := by decide +kernel
theorem dX8_report_48 : decode cX8_report 48 = .ok (.ifCond .ne 12, 3) := by decide +kernel
theorem dX8_report_51 : decode cX8_report 51 = .ok (.aload_n 0, 1) := by decide +kernel
theorem dX8_report_52 : decode cX8_report 52 = .ok (.getfield 59, 3) := by decide +kernel
theorem dX8_report_55 : decode cX8_report 55 = .ok (.iload_n 1, 1) := by decide +kernel
theorem dX8_report_56 : decode cX8_report 56 = .ok (.iaload, 1) := by decide +kernel
theorem dX8_report_57 : decode cX8_report 57 = .ok (.goto 9, 3) := by decide +kernel
theorem dX8_report_60 : decode cX8_report 60 = .ok (.aload_n 0, 1) := by decide +kernel
theorem dX8_report_61 : decode cX8_report 61 = .ok (.getfield 62, 3) := by decide +kernel
theorem dX8_report_64 : decode cX8_report 64 = .ok (.iload_n 1, 1) := by decide +kernel
theorem dX8_report_65 : decode cX8_report 65 = .ok (.iaload, 1) := by decide +kernel
theorem dX8_report_66 : decode cX8_report 66 = .ok (.ireturn, 1) := by decide +kernel
theorem dX8_feed_0 : decode cX8_feed 0 = .ok (.aload_n 0, 1) := by decide +kernel
theorem dX8_feed_1 : decode cX8_feed 1 = .ok (.aload_n 0, 1) := by decide +kernel
theorem dX8_feed_2 : decode cX8_feed 2 = .ok (.getfield 220, 3) := by decide +kernel
theorem dX8_feed_5 : decode cX8_feed 5 = .ok (.bipush 80, 2) := by decide +kernel
theorem dX8_feed_7 : decode cX8_feed 7 = .ok (.if_icmp .ne 7, 3) := by decide +kernel
theorem dX8_feed_10 : decode cX8_feed 10 = .ok (.iconst 1, 1) := by decide +kernel
theorem dX8_feed_11 : decode cX8_feed 11 = .ok (.goto 4, 3) := by decide +kernel
theorem dX8_feed_14 : decode cX8_feed 14 = .ok (.iconst 0, 1) := by decide +kernel
theorem dX8_feed_15 : decode cX8_feed 15 = .ok (.putfield 73, 3) := by decide +kernel
theorem dX8_feed_18 : decode cX8_feed 18 = .ok (.aload_n 0, 1) := by decide +kernel
theorem dX8_feed_19 : decode cX8_feed 19 = .ok (.getfield 73, 3) := by decide +kernel
theorem dX8_feed_22 : decode cX8_feed 22 = .ok (.iconst 1, 1) := by decide +kernel
theorem dX8_feed_23 : decode cX8_feed 23 = .ok (.if_icmp .ne 5, 3) := by decide +kernel
theorem dX8_feed_26 : decode cX8_feed 26 = .ok (.iconst 0, 1) := by decide +kernel
theorem dX8_feed_27 : decode cX8_feed 27 = .ok (.ireturn, 1) := by decide +kernel
theorem dX8_feed_28 : decode cX8_feed 28 = .ok (.aload_n 0, 1) := by decide +kernel
theorem dX8_feed_29 : decode cX8_feed 29 = .ok (.getfield 65, 3) := by decide +kernel
theorem dX8_feed_32 : decode cX8_feed 32 = .ok (.aload_n 0, 1) := by decide +kernel
theorem dX8_feed_33 : decode cX8_feed 33 = .ok (.getfield 220, 3) := by decide +kernel
theorem dX8_feed_36 : decode cX8_feed 36 = .ok (.iload_n 1, 1) := by decide +kernel
theorem dX8_feed_37 : decode cX8_feed 37 = .ok (.castore, 1) := by decide +kernel
theorem dX8_feed_38 : decode cX8_feed 38 = .ok (.aload_n 0, 1) := by decide +kernel
theorem dX8_feed_39 : decode cX8_feed 39 = .ok (.dup, 1) := by decide +kernel
theorem dX8_feed_40 : decode cX8_feed 40 = .ok (.getfield 220, 3) := by decide +kernel
theorem dX8_feed_43 : decode cX8_feed 43 = .ok (.iconst 1, 1) := by decide +kernel
theorem dX8_feed_44 : decode cX8_feed 44 = .ok (.iadd, 1) := by decide +kernel
theorem dX8_feed_45 : decode cX8_feed 45 = .ok (.putfield 220, 3) := by decide +kernel
theorem dX8_feed_48 : decode cX8_feed 48 = .ok (.aload_n 0, 1) := by decide +kernel
theorem dX8_feed_49 : decode cX8_feed 49 = .ok (.getfield 220, 3) := by decide +kernel
theorem dX8_feed_52 : decode cX8_feed 52 = .ok (.ireturn, 1) := by decide +kernel
theorem dX8_isHere_0 : decode cX8_isHere 0 = .ok (.aload_n 0, 1) := by decide +kernel
theorem dX8_isHere_1 : decode cX8_isHere 1 = .ok (.getfield 223, 3) := by decide +kernel
theorem dX8_isHere_4 : decode cX8_isHere 4 = .ok (.aload_n 0, 1) := by decide +kernel
theorem dX8_isHere_5 : decode cX8_isHere 5 = .ok (.getfield 220, 3) := by decide +kernel
theorem dX8_isHere_8 : decode cX8_isHere 8 = .ok (.if_icmp .ge 33, 3) := by decide +kernel
theorem dX8_isHere_11 : decode cX8_isHere 11 = .ok (.aload_n 0, 1) := by decide +kernel
theorem dX8_isHere_12 : decode cX8_isHere 12 = .ok (.getfield 65, 3) := by decide +kernel
theorem dX8_isHere_15 : decode cX8_isHere 15 = .ok (.aload_n 0, 1) := by decide +kernel
theorem dX8_isHere_16 : decode cX8_isHere 16 = .ok (.getfield 223, 3) := by decide +kernel
theorem dX8_isHere_19 : decode cX8_isHere 19 = .ok (.caload, 1) := by decide +kernel
theorem dX8_isHere_20 : decode cX8_isHere 20 = .ok (.iload_n 1, 1) := by decide +kernel
theorem dX8_isHere_21 : decode cX8_isHere 21 = .ok (.if_icmp .lt 20, 3) := by decide +kernel
theorem dX8_isHere_24 : decode cX8_isHere 24 = .ok (.aload_n 0, 1) := by decide +kernel
theorem dX8_isHere_25 : decode cX8_isHere 25 = .ok (.getfield 65, 3) := by decide +kernel
theorem dX8_isHere_28 : decode cX8_isHere 28 = .ok (.aload_n 0, 1) := by decide +kernel
theorem dX8_isHere_29 : decode cX8_isHere 29 = .ok (.getfield 223, 3) := by decide +kernel
theorem dX8_isHere_32 : decode cX8_isHere 32 = .ok (.caload, 1) := by decide +kernel
theorem dX8_isHere_33 : decode cX8_isHere 33 = .ok (.iload_n 2, 1) := by decide +kernel
theorem dX8_isHere_34 : decode cX8_isHere 34 = .ok (.if_icmp .gt 7, 3) := by decide +kernel
theorem dX8_isHere_37 : decode cX8_isHere 37 = .ok (.iconst 1, 1) := by decide +kernel
theorem dX8_isHere_38 : decode cX8_isHere 38 = .ok (.goto 4, 3) := by decide +kernel
theorem dX8_isHere_41 : decode cX8_isHere 41 = .ok (.iconst 0, 1) := by decide +kernel
theorem dX8_isHere_42 : decode cX8_isHere 42 = .ok (.ireturn, 1) := by decide +kernel
theorem dX8_choice_0 : decode cX8_choice 0 = .ok (.aload_n 0, 1) := by decide +kernel
theorem dX8_choice_1 : decode cX8_choice 1 = .ok (.bipush 45, 2) := by decide +kernel
theorem dX8_choice_3 : decode cX8_choice 3 = .ok (.bipush 45, 2) := by decide +kernel
theorem dX8_choice_5 : decode cX8_choice 5 = .ok (.invokevirtual 226, 3) := by decide +kernel
theorem dX8_choice_8 : decode cX8_choice 8 = .ok (.ifCond .eq 15, 3) := by decide +kernel
theorem dX8_choice_11 : decode cX8_choice 11 = .ok (.aload_n 0, 1) := by decide +kernel
theorem dX8_choice_12 : decode cX8_choice 12 = .ok (.dup, 1) := by decide +kernel
theorem dX8_choice_13 : decode cX8_choice 13 = .ok (.getfield 223, 3) := by decide +kernel
theorem dX8_choice_16 : decode cX8_choice 16 = .ok (.iconst 1, 1) := by decide +kernel
theorem dX8_choice_17 : decode cX8_choice 17 = .ok (.iadd, 1) := by decide +kernel
theorem dX8_choice_18 : decode cX8_choice 18 = .ok (.putfield 223, 3) := by decide +kernel
theorem dX8_choice_21 : decode cX8_choice 21 = .ok (.iconst (-1), 1) := by decide +kernel
theorem dX8_choice_22 : decode cX8_choice 22 = .ok (.ireturn, 1) := by decide +kernel
theorem dX8_choice_23 : decode cX8_choice 23 = .ok (.aload_n 0, 1) := by decide +kernel
theorem dX8_choice_24 : decode cX8_choice 24 = .ok (.bipush 97, 2) := by decide +kernel
theorem dX8_choice_26 : decode cX8_choice 26 = .ok (.bipush 97, 2) := by decide +kernel
theorem dX8_choice_28 : decode cX8_choice 28 = .ok (.aload_n 0, 1) := by decide +kernel
theorem dX8_choice_29 : decode cX8_choice 29 = .ok (.getfield 9, 3) := by decide +kernel
theorem dX8_choice_32 : decode cX8_choice 32 = .ok (.iadd, 1) := by decide +kernel
theorem dX8_choice_33 : decode cX8_choice 33 = .ok (.iconst 1, 1) := by decide +kernel
theorem dX8_choice_34 : decode cX8_choice 34 = .ok (.isub, 1) := by decide +kernel
theorem dX8_choice_35 : decode cX8_choice 35 = .ok (.i2c, 1) := by decide +kernel
theorem dX8_choice_36 : decode cX8_choice 36 = .ok (.invokevirtual 226, 3) := by decide +kernel
theorem dX8_choice_39 : decode cX8_choice 39 = .ok (.ifCond .ne 6, 3) := by decide +kernel
theorem dX8_choice_42 : decode cX8_choice 42 = .ok (.bipush (-2), 2) := by decide +kernel
theorem dX8_choice_44 : decode cX8_choice 44 = .ok (.ireturn, 1) := by decide +kernel
theorem dX8_choice_45 : decode cX8_choice 45 = .ok (.aload_n 0, 1) := by decide +kernel
theorem dX8_choice_46 : decode cX8_choice 46 = .ok (.getfield 65, 3) := by decide +kernel
theorem dX8_choice_49 : decode cX8_choice 49 = .ok (.aload_n 0, 1) := by decide +kernel
theorem dX8_choice_50 : decode cX8_choice 50 = .ok (.getfield 223, 3) := by decide +kernel
theorem dX8_choice_53 : decode cX8_choice 53 = .ok (.caload, 1) := by decide +kernel
theorem dX8_choice_54 : decode cX8_choice 54 = .ok (.bipush 97, 2) := by decide +kernel
theorem dX8_choice_56 : decode cX8_choice 56 = .ok (.isub, 1) := by decide +kernel
theorem dX8_choice_57 : decode cX8_choice 57 = .ok (.istore_n 1, 1) := by decide +kernel
theorem dX8_choice_58 : decode cX8_choice 58 = .ok (.aload_n 0, 1) := by decide +kernel
theorem dX8_choice_59 : decode cX8_choice 59 = .ok (.dup, 1) := by decide +kernel
theorem dX8_choice_60 : decode cX8_choice 60 = .ok (.getfield 223, 3) := by decide +kernel
theorem dX8_choice_63 : decode cX8_choice 63 = .ok (.iconst 1, 1) := by decide +kernel
theorem dX8_choice_64 : decode cX8_choice 64 = .ok (.iadd, 1) := by decide +kernel
theorem dX8_choice_65 : decode cX8_choice 65 = .ok (.putfield 223, 3) := by decide +kernel
theorem dX8_choice_68 : decode cX8_choice 68 = .ok (.aload_n 0, 1) := by decide +kernel
theorem dX8_choice_69 : decode cX8_choice 69 = .ok (.bipush 49, 2) := by decide +kernel
theorem dX8_choice_71 : decode cX8_choice 71 = .ok (.bipush 48, 2) := by decide +kernel
theorem dX8_choice_73 : decode cX8_choice 73 = .ok (.aload_n 0, 1) := by decide +kernel
theorem dX8_choice_74 : decode cX8_choice 74 = .ok (.getfield 13, 3) := by decide +kernel
theorem dX8_choice_77 : decode cX8_choice 77 = .ok (.iadd, 1) := by decide +kernel
theorem dX8_choice_78 : decode cX8_choice 78 = .ok (.i2c, 1) := by decide +kernel
theorem dX8_choice_79 : decode cX8_choice 79 = .ok (.invokevirtual 226, 3) := by decide +kernel
theorem dX8_choice_82 : decode cX8_choice 82 = .ok (.ifCond .ne 6, 3) := by decide +kernel
theorem dX8_choice_85 : decode cX8_choice 85 = .ok (.bipush (-2), 2) := by decide +kernel
theorem dX8_choice_87 : decode cX8_choice 87 = .ok (.ireturn, 1) := by decide +kernel
theorem dX8_choice_88 : decode cX8_choice 88 = .ok (.aload_n 0, 1) := by decide +kernel
theorem dX8_choice_89 : decode cX8_choice 89 = .ok (.getfield 65, 3) := by decide +kernel
theorem dX8_choice_92 : decode cX8_choice 92 = .ok (.aload_n 0, 1) := by decide +kernel
theorem dX8_choice_93 : decode cX8_choice 93 = .ok (.getfield 223, 3) := by decide +kernel
theorem dX8_choice_96 : decode cX8_choice 96 = .ok (.caload, 1) := by decide +kernel
theorem dX8_choice_97 : decode cX8_choice 97 = .ok (.bipush 49, 2) := by decide +kernel
theorem dX8_choice_99 : decode cX8_choice 99 = .ok (.isub, 1) := by decide +kernel
theorem dX8_choice_100 : decode cX8_choice 100 = .ok (.istore_n 2, 1) := by decide +kernel
theorem dX8_choice_101 : decode cX8_choice 101 = .ok (.aload_n 0, 1) := by decide +kernel
theorem dX8_choice_102 : decode cX8_choice 102 = .ok (.dup, 1) := by decide +kernel
theorem dX8_choice_103 : decode cX8_choice 103 = .ok (.getfield 223, 3) := by decide +kernel
theorem dX8_choice_106 : decode cX8_choice 106 = .ok (.iconst 1, 1) := by decide +kernel
theorem dX8_choice_107 : decode cX8_choice 107 = .ok (.iadd, 1) := by decide +kernel
theorem dX8_choice_108 : decode cX8_choice 108 = .ok (.putfield 223, 3) := by decide +kernel
theorem dX8_choice_111 : decode cX8_choice 111 = .ok (.iload_n 2, 1) := by decide +kernel
theorem dX8_choice_112 : decode cX8_choice 112 = .ok (.aload_n 0, 1) := by decide +kernel
theorem dX8_choice_113 : decode cX8_choice 113 = .ok (.getfield 9, 3) := by decide +kernel
theorem dX8_choice_116 : decode cX8_choice 116 = .ok (.imul, 1) := by decide +kernel
theorem dX8_choice_117 : decode cX8_choice 117 = .ok (.iload_n 1, 1) := by decide +kernel
theorem dX8_choice_118 : decode cX8_choice 118 = .ok (.iadd, 1) := by decide +kernel
theorem dX8_choice_119 : decode cX8_choice 119 = .ok (.ireturn, 1) := by decide +kernel
theorem dX8_isRound_0 : decode cX8_isRound 0 = .ok (.aload_n 0, 1) := by decide +kernel
theorem dX8_isRound_1 : decode cX8_isRound 1 = .ok (.aload_n 0, 1) := by decide +kernel
theorem dX8_isRound_2 : decode cX8_isRound 2 = .ok (.invokevirtual 230, 3) := by decide +kernel
theorem dX8_isRound_5 : decode cX8_isRound 5 = .ok (.putfield 233, 3) := by decide +kernel
theorem dX8_isRound_8 : decode cX8_isRound 8 = .ok (.aload_n 0, 1) := by decide +kernel
theorem dX8_isRound_9 : decode cX8_isRound 9 = .ok (.getfield 233, 3) := by decide +kernel
theorem dX8_isRound_12 : decode cX8_isRound 12 = .ok (.bipush (-2), 2) := by decide +kernel
theorem dX8_isRound_14 : decode cX8_isRound 14 = .ok (.if_icmp .ne 5, 3) := by decide +kernel
theorem dX8_isRound_17 : decode cX8_isRound 17 = .ok (.iconst 0, 1) := by decide +kernel
theorem dX8_isRound_18 : decode cX8_isRound 18 = .ok (.ireturn, 1) := by decide +kernel
theorem dX8_isRound_19 : decode cX8_isRound 19 = .ok (.aload_n 0, 1) := by decide +kernel
theorem dX8_isRound_20 : decode cX8_isRound 20 = .ok (.aload_n 0, 1) := by decide +kernel
theorem dX8_isRound_21 : decode cX8_isRound 21 = .ok (.invokevirtual 230, 3) := by decide +kernel
theorem dX8_isRound_24 : decode cX8_isRound 24 = .ok (.putfield 236, 3) := by decide +kernel
theorem dX8_isRound_27 : decode cX8_isRound 27 = .ok (.aload_n 0, 1) := by decide +kernel
theorem dX8_isRound_28 : decode cX8_isRound 28 = .ok (.getfield 236, 3) := by decide +kernel
theorem dX8_isRound_31 : decode cX8_isRound 31 = .ok (.bipush (-2), 2) := by decide +kernel
theorem dX8_isRound_33 : decode cX8_isRound 33 = .ok (.if_icmp .eq 14, 3) := by decide +kernel
theorem dX8_isRound_36 : decode cX8_isRound 36 = .ok (.aload_n 0, 1) := by decide +kernel
theorem dX8_isRound_37 : decode cX8_isRound 37 = .ok (.bipush 59, 2) := by decide +kernel
theorem dX8_isRound_39 : decode cX8_isRound 39 = .ok (.bipush 59, 2) := by decide +kernel
theorem dX8_isRound_41 : decode cX8_isRound 41 = .ok (.invokevirtual 226, 3) := by decide +kernel
theorem dX8_isRound_44 : decode cX8_isRound 44 = .ok (.ifCond .ne 5, 3) := by decide +kernel
theorem dX8_isRound_47 : decode cX8_isRound 47 = .ok (.iconst 0, 1) := by decide +kernel
theorem dX8_isRound_48 : decode cX8_isRound 48 = .ok (.ireturn, 1) := by decide +kernel
theorem dX8_isRound_49 : decode cX8_isRound 49 = .ok (.aload_n 0, 1) := by decide +kernel
theorem dX8_isRound_50 : decode cX8_isRound 50 = .ok (.dup, 1) := by decide +kernel
theorem dX8_isRound_51 : decode cX8_isRound 51 = .ok (.getfield 223, 3) := by decide +kernel
theorem dX8_isRound_54 : decode cX8_isRound 54 = .ok (.iconst 1, 1) := by decide +kernel
theorem dX8_isRound_55 : decode cX8_isRound 55 = .ok (.iadd, 1) := by decide +kernel
theorem dX8_isRound_56 : decode cX8_isRound 56 = .ok (.putfield 223, 3) := by decide +kernel
theorem dX8_isRound_59 : decode cX8_isRound 59 = .ok (.iconst 1, 1) := by decide +kernel
theorem dX8_isRound_60 : decode cX8_isRound 60 = .ok (.ireturn, 1) := by decide +kernel
theorem dX8_readRecord_0 : decode cX8_readRecord 0 = .ok (.aload_n 0, 1) := by decide +kernel
theorem dX8_readRecord_1 : decode cX8_readRecord 1 = .ok (.iconst 0, 1) := by decide +kernel
theorem dX8_readRecord_2 : decode cX8_readRecord 2 = .ok (.putfield 73, 3) := by decide +kernel
theorem dX8_readRecord_5 : decode cX8_readRecord 5 = .ok (.aload_n 0, 1) := by decide +kernel
theorem dX8_readRecord_6 : decode cX8_readRecord 6 = .ok (.iconst 0, 1) := by decide +kernel
theorem dX8_readRecord_7 : decode cX8_readRecord 7 = .ok (.putfield 223, 3) := by decide +kernel
theorem dX8_readRecord_10 : decode cX8_readRecord 10 = .ok (.iconst 1, 1) := by decide +kernel
theorem dX8_readRecord_11 : decode cX8_readRecord 11 = .ok (.istore_n 1, 1) := by decide +kernel
theorem dX8_readRecord_12 : decode cX8_readRecord 12 = .ok (.iconst 0, 1) := by decide +kernel
theorem dX8_readRecord_13 : decode cX8_readRecord 13 = .ok (.istore_n 2, 1) := by decide +kernel
theorem dX8_readRecord_14 : decode cX8_readRecord 14 = .ok (.aload_n 0, 1) := by decide +kernel
theorem dX8_readRecord_15 : decode cX8_readRecord 15 = .ok (.getfield 223, 3) := by decide +kernel
theorem dX8_readRecord_18 : decode cX8_readRecord 18 = .ok (.aload_n 0, 1) := by decide +kernel
theorem dX8_readRecord_19 : decode cX8_readRecord 19 = .ok (.getfield 220, 3) := by decide +kernel
theorem dX8_readRecord_22 : decode cX8_readRecord 22 = .ok (.if_icmp .ge 18, 3) := by decide +kernel
theorem dX8_readRecord_25 : decode cX8_readRecord 25 = .ok (.iload_n 1, 1) := by decide +kernel
theorem dX8_readRecord_26 : decode cX8_readRecord 26 = .ok (.ifCond .eq 14, 3) := by decide +kernel
theorem dX8_readRecord_29 : decode cX8_readRecord 29 = .ok (.aload_n 0, 1) := by decide +kernel
theorem dX8_readRecord_30 : decode cX8_readRecord 30 = .ok (.invokevirtual 239, 3) := by decide +kernel
theorem dX8_readRecord_33 : decode cX8_readRecord 33 = .ok (.istore_n 1, 1) := by decide +kernel
theorem dX8_readRecord_34 : decode cX8_readRecord 34 = .ok (.iinc 2 1, 3) := by decide +kernel
theorem dX8_readRecord_37 : decode cX8_readRecord 37 = .ok (.goto (-23), 3) := by decide +kernel
theorem dX8_readRecord_40 : decode cX8_readRecord 40 = .ok (.aload_n 0, 1) := by decide +kernel
theorem dX8_readRecord_41 : decode cX8_readRecord 41 = .ok (.getfield 223, 3) := by decide +kernel
theorem dX8_readRecord_44 : decode cX8_readRecord 44 = .ok (.istore_n 3, 1) := by decide +kernel
theorem dX8_readRecord_45 : decode cX8_readRecord 45 = .ok (.aload_n 0, 1) := by decide +kernel
theorem dX8_readRecord_46 : decode cX8_readRecord 46 = .ok (.iconst 0, 1) := by decide +kernel
theorem dX8_readRecord_47 : decode cX8_readRecord 47 = .ok (.putfield 223, 3) := by decide +kernel
theorem dX8_readRecord_50 : decode cX8_readRecord 50 = .ok (.iconst 0, 1) := by decide +kernel
theorem dX8_readRecord_51 : decode cX8_readRecord 51 = .ok (.istore 4, 2) := by decide +kernel
theorem dX8_readRecord_53 : decode cX8_readRecord 53 = .ok (.iload 4, 2) := by decide +kernel
theorem dX8_readRecord_55 : decode cX8_readRecord 55 = .ok (.iload_n 2, 1) := by decide +kernel
theorem dX8_readRecord_56 : decode cX8_readRecord 56 = .ok (.if_icmp .ge 52, 3) := by decide +kernel
theorem dX8_readRecord_59 : decode cX8_readRecord 59 = .ok (.iload_n 1, 1) := by decide +kernel
theorem dX8_readRecord_60 : decode cX8_readRecord 60 = .ok (.ifCond .eq 48, 3) := by decide +kernel
theorem dX8_readRecord_63 : decode cX8_readRecord 63 = .ok (.aload_n 0, 1) := by decide +kernel
theorem dX8_readRecord_64 : decode cX8_readRecord 64 = .ok (.getfield 73, 3) := by decide +kernel
theorem dX8_readRecord_67 : decode cX8_readRecord 67 = .ok (.ifCond .ne 41, 3) := by decide +kernel
theorem dX8_readRecord_70 : decode cX8_readRecord 70 = .ok (.aload_n 0, 1) := by decide +kernel
theorem dX8_readRecord_71 : decode cX8_readRecord 71 = .ok (.invokevirtual 239, 3) := by decide +kernel
theorem dX8_readRecord_74 : decode cX8_readRecord 74 = .ok (.istore_n 1, 1) := by decide +kernel
theorem dX8_readRecord_75 : decode cX8_readRecord 75 = .ok (.aload_n 0, 1) := by decide +kernel
theorem dX8_readRecord_76 : decode cX8_readRecord 76 = .ok (.invokevirtual 170, 3) := by decide +kernel
theorem dX8_readRecord_79 : decode cX8_readRecord 79 = .ok (.ifCond .ne 18, 3) := by decide +kernel
theorem dX8_readRecord_82 : decode cX8_readRecord 82 = .ok (.aload_n 0, 1) := by decide +kernel
theorem dX8_readRecord_83 : decode cX8_readRecord 83 = .ok (.aload_n 0, 1) := by decide +kernel
theorem dX8_readRecord_84 : decode cX8_readRecord 84 = .ok (.getfield 233, 3) := by decide +kernel
theorem dX8_readRecord_87 : decode cX8_readRecord 87 = .ok (.aload_n 0, 1) := by decide +kernel
theorem dX8_readRecord_88 : decode cX8_readRecord 88 = .ok (.getfield 236, 3) := by decide +kernel
theorem dX8_readRecord_91 : decode cX8_readRecord 91 = .ok (.invokevirtual 174, 3) := by decide +kernel
theorem dX8_readRecord_94 : decode cX8_readRecord 94 = .ok (.ifCond .ne 8, 3) := by decide +kernel
theorem dX8_readRecord_97 : decode cX8_readRecord 97 = .ok (.aload_n 0, 1) := by decide +kernel
theorem dX8_readRecord_98 : decode cX8_readRecord 98 = .ok (.iconst 1, 1) := by decide +kernel
theorem dX8_readRecord_99 : decode cX8_readRecord 99 = .ok (.putfield 73, 3) := by decide +kernel
theorem dX8_readRecord_102 : decode cX8_readRecord 102 = .ok (.iinc 4 1, 3) := by decide +kernel
theorem dX8_readRecord_105 : decode cX8_readRecord 105 = .ok (.goto (-52), 3) := by decide +kernel
theorem dX8_readRecord_108 : decode cX8_readRecord 108 = .ok (.aload_n 0, 1) := by decide +kernel
theorem dX8_readRecord_109 : decode cX8_readRecord 109 = .ok (.iconst 0, 1) := by decide +kernel
theorem dX8_readRecord_110 : decode cX8_readRecord 110 = .ok (.putfield 220, 3) := by decide +kernel
theorem dX8_readRecord_113 : decode cX8_readRecord 113 = .ok (.iload_n 1, 1) := by decide +kernel
theorem dX8_readRecord_114 : decode cX8_readRecord 114 = .ok (.ifCond .ne 10, 3) := by decide +kernel
theorem dX8_readRecord_117 : decode cX8_readRecord 117 = .ok (.bipush (-100), 2) := by decide +kernel
theorem dX8_readRecord_119 : decode cX8_readRecord 119 = .ok (.iload_n 3, 1) := by decide +kernel
theorem dX8_readRecord_120 : decode cX8_readRecord 120 = .ok (.isub, 1) := by decide +kernel
theorem dX8_readRecord_121 : decode cX8_readRecord 121 = .ok (.goto 16, 3) := by decide +kernel
theorem dX8_readRecord_124 : decode cX8_readRecord 124 = .ok (.aload_n 0, 1) := by decide +kernel
theorem dX8_readRecord_125 : decode cX8_readRecord 125 = .ok (.getfield 73, 3) := by decide +kernel
theorem dX8_readRecord_128 : decode cX8_readRecord 128 = .ok (.iconst 1, 1) := by decide +kernel
theorem dX8_readRecord_129 : decode cX8_readRecord 129 = .ok (.if_icmp .ne 7, 3) := by decide +kernel
theorem dX8_readRecord_132 : decode cX8_readRecord 132 = .ok (.iconst 0, 1) := by decide +kernel
theorem dX8_readRecord_133 : decode cX8_readRecord 133 = .ok (.goto 4, 3) := by decide +kernel
theorem dX8_readRecord_136 : decode cX8_readRecord 136 = .ok (.iload_n 2, 1) := by decide +kernel
theorem dX8_readRecord_137 : decode cX8_readRecord 137 = .ok (.ireturn, 1) := by decide +kernel
theorem dX8_lengthOf_0 : decode cX8_lengthOf 0 = .ok (.iload_n 0, 1) := by decide +kernel
theorem dX8_lengthOf_1 : decode cX8_lengthOf 1 = .ok (.iconst (-1), 1) := by decide +kernel
theorem dX8_lengthOf_2 : decode cX8_lengthOf 2 = .ok (.if_icmp .ne 7, 3) := by decide +kernel
theorem dX8_lengthOf_5 : decode cX8_lengthOf 5 = .ok (.iconst 1, 1) := by decide +kernel
theorem dX8_lengthOf_6 : decode cX8_lengthOf 6 = .ok (.goto 4, 3) := by decide +kernel
theorem dX8_lengthOf_9 : decode cX8_lengthOf 9 = .ok (.iconst 2, 1) := by decide +kernel
theorem dX8_lengthOf_10 : decode cX8_lengthOf 10 = .ok (.ireturn, 1) := by decide +kernel
theorem dX8_signOf_0 : decode cX8_signOf 0 = .ok (.iload_n 1, 1) := by decide +kernel
theorem dX8_signOf_1 : decode cX8_signOf 1 = .ok (.iconst (-1), 1) := by decide +kernel
theorem dX8_signOf_2 : decode cX8_signOf 2 = .ok (.if_icmp .ne 8, 3) := by decide +kernel
theorem dX8_signOf_5 : decode cX8_signOf 5 = .ok (.bipush 45, 2) := by decide +kernel
theorem dX8_signOf_7 : decode cX8_signOf 7 = .ok (.goto 29, 3) := by decide +kernel
theorem dX8_signOf_10 : decode cX8_signOf 10 = .ok (.iload_n 2, 1) := by decide +kernel
theorem dX8_signOf_11 : decode cX8_signOf 11 = .ok (.ifCond .ne 15, 3) := by decide +kernel
theorem dX8_signOf_14 : decode cX8_signOf 14 = .ok (.bipush 97, 2) := by decide +kernel
theorem dX8_signOf_16 : decode cX8_signOf 16 = .ok (.iload_n 1, 1) := by decide +kernel
theorem dX8_signOf_17 : decode cX8_signOf 17 = .ok (.aload_n 0, 1) := by decide +kernel
theorem dX8_signOf_18 : decode cX8_signOf 18 = .ok (.getfield 9, 3) := by decide +kernel
theorem dX8_signOf_21 : decode cX8_signOf 21 = .ok (.irem, 1) := by decide +kernel
theorem dX8_signOf_22 : decode cX8_signOf 22 = .ok (.iadd, 1) := by decide +kernel
theorem dX8_signOf_23 : decode cX8_signOf 23 = .ok (.goto 12, 3) := by decide +kernel
theorem dX8_signOf_26 : decode cX8_signOf 26 = .ok (.bipush 49, 2) := by decide +kernel
theorem dX8_signOf_28 : decode cX8_signOf 28 = .ok (.iload_n 1, 1) := by decide +kernel
theorem dX8_signOf_29 : decode cX8_signOf 29 = .ok (.aload_n 0, 1) := by decide +kernel
theorem dX8_signOf_30 : decode cX8_signOf 30 = .ok (.getfield 9, 3) := by decide +kernel
theorem dX8_signOf_33 : decode cX8_signOf 33 = .ok (.idiv, 1) := by decide +kernel
theorem dX8_signOf_34 : decode cX8_signOf 34 = .ok (.iadd, 1) := by decide +kernel
theorem dX8_signOf_35 : decode cX8_signOf 35 = .ok (.i2c, 1) := by decide +kernel
theorem dX8_signOf_36 : decode cX8_signOf 36 = .ok (.ireturn, 1) := by decide +kernel
theorem dX8_written_0 : decode cX8_written 0 = .ok (.aload_n 0, 1) := by decide +kernel
theorem dX8_written_1 : decode cX8_written 1 = .ok (.iconst 0, 1) := by decide +kernel
theorem dX8_written_2 : decode cX8_written 2 = .ok (.putfield 73, 3) := by decide +kernel
theorem dX8_written_5 : decode cX8_written 5 = .ok (.iload_n 1, 1) := by decide +kernel
theorem dX8_written_6 : decode cX8_written 6 = .ok (.istore_n 2, 1) := by decide +kernel
theorem dX8_written_7 : decode cX8_written 7 = .ok (.iconst 0, 1) := by decide +kernel
theorem dX8_written_8 : decode cX8_written 8 = .ok (.istore_n 3, 1) := by decide +kernel
theorem dX8_written_9 : decode cX8_written 9 = .ok (.iload_n 3, 1) := by decide +kernel
theorem dX8_written_10 : decode cX8_written 10 = .ok (.aload_n 0, 1) := by decide +kernel
theorem dX8_written_11 : decode cX8_written 11 = .ok (.getfield 20, 3) := by decide +kernel
theorem dX8_written_14 : decode cX8_written 14 = .ok (.sipush 153, 3) := by decide +kernel
theorem dX8_written_17 : decode cX8_written 17 = .ok (.iaload, 1) := by decide +kernel
theorem dX8_written_18 : decode cX8_written 18 = .ok (.if_icmp .ge 77, 3) := by decide +kernel
theorem dX8_written_21 : decode cX8_written 21 = .ok (.iload_n 1, 1) := by decide +kernel
theorem dX8_written_22 : decode cX8_written 22 = .ok (.ifCond .lt 73, 3) := by decide +kernel
theorem dX8_written_25 : decode cX8_written 25 = .ok (.iconst 0, 1) := by decide +kernel
theorem dX8_written_26 : decode cX8_written 26 = .ok (.istore 4, 2) := by decide +kernel
theorem dX8_written_28 : decode cX8_written 28 = .ok (.iload 4, 2) := by decide +kernel
theorem dX8_written_30 : decode cX8_written 30 = .ok (.iconst 2, 1) := by decide +kernel
theorem dX8_written_31 : decode cX8_written 31 = .ok (.if_icmp .ge 48, 3) := by decide +kernel
theorem dX8_written_34 : decode cX8_written 34 = .ok (.aload_n 0, 1) := by decide +kernel
theorem dX8_written_35 : decode cX8_written 35 = .ok (.getfield 32, 3) := by decide +kernel
theorem dX8_written_38 : decode cX8_written 38 = .ok (.bipush 7, 2) := by decide +kernel
theorem dX8_written_40 : decode cX8_written 40 = .ok (.iload_n 3, 1) := by decide +kernel
theorem dX8_written_41 : decode cX8_written 41 = .ok (.imul, 1) := by decide +kernel
theorem dX8_written_42 : decode cX8_written 42 = .ok (.iload 4, 2) := by decide +kernel
theorem dX8_written_44 : decode cX8_written 44 = .ok (.iadd, 1) := by decide +kernel
theorem dX8_written_45 : decode cX8_written 45 = .ok (.iaload, 1) := by decide +kernel
theorem dX8_written_46 : decode cX8_written 46 = .ok (.istore 5, 2) := by decide +kernel
theorem dX8_written_48 : decode cX8_written 48 = .ok (.iload_n 2, 1) := by decide +kernel
theorem dX8_written_49 : decode cX8_written 49 = .ok (.iload 5, 2) := by decide +kernel
theorem dX8_written_51 : decode cX8_written 51 = .ok (.invokestatic 242, 3) := by decide +kernel
theorem dX8_written_54 : decode cX8_written 54 = .ok (.if_icmp .ge 11, 3) := by decide +kernel
theorem dX8_written_57 : decode cX8_written 57 = .ok (.aload_n 0, 1) := by decide +kernel
theorem dX8_written_58 : decode cX8_written 58 = .ok (.iload 5, 2) := by decide +kernel
theorem dX8_written_60 : decode cX8_written 60 = .ok (.iload_n 2, 1) := by decide +kernel
theorem dX8_written_61 : decode cX8_written 61 = .ok (.invokevirtual 245, 3) := by decide +kernel
theorem dX8_written_64 : decode cX8_written 64 = .ok (.ireturn, 1) := by decide +kernel
theorem dX8_written_65 : decode cX8_written 65 = .ok (.iload_n 2, 1) := by decide +kernel
theorem dX8_written_66 : decode cX8_written 66 = .ok (.iload 5, 2) := by decide +kernel
theorem dX8_written_68 : decode cX8_written 68 = .ok (.invokestatic 242, 3) := by decide +kernel
theorem dX8_written_71 : decode cX8_written 71 = .ok (.isub, 1) := by decide +kernel
theorem dX8_written_72 : decode cX8_written 72 = .ok (.istore_n 2, 1) := by decide +kernel
theorem dX8_written_73 : decode cX8_written 73 = .ok (.iinc 4 1, 3) := by decide +kernel
theorem dX8_written_76 : decode cX8_written 76 = .ok (.goto (-48), 3) := by decide +kernel
theorem dX8_written_79 : decode cX8_written 79 = .ok (.iload_n 2, 1) := by decide +kernel
theorem dX8_written_80 : decode cX8_written 80 = .ok (.ifCond .ne 6, 3) := by decide +kernel
theorem dX8_written_83 : decode cX8_written 83 = .ok (.bipush 59, 2) := by decide +kernel
theorem dX8_written_85 : decode cX8_written 85 = .ok (.ireturn, 1) := by decide +kernel
theorem dX8_written_86 : decode cX8_written 86 = .ok (.iinc 2 (-1), 3) := by decide +kernel
theorem dX8_written_89 : decode cX8_written 89 = .ok (.iinc 3 1, 3) := by decide +kernel
theorem dX8_written_92 : decode cX8_written 92 = .ok (.goto (-83), 3) := by decide +kernel
theorem dX8_written_95 : decode cX8_written 95 = .ok (.aload_n 0, 1) := by decide +kernel
theorem dX8_written_96 : decode cX8_written 96 = .ok (.iconst 1, 1) := by decide +kernel
theorem dX8_written_97 : decode cX8_written 97 = .ok (.putfield 73, 3) := by decide +kernel
theorem dX8_written_100 : decode cX8_written 100 = .ok (.iconst 0, 1) := by decide +kernel
theorem dX8_written_101 : decode cX8_written 101 = .ok (.ireturn, 1) := by decide +kernel
theorem dX8_save_0 : decode cX8_save 0 = .ok (.aload_n 0, 1) := by decide +kernel
theorem dX8_save_1 : decode cX8_save 1 = .ok (.iconst 0, 1) := by decide +kernel
theorem dX8_save_2 : decode cX8_save 2 = .ok (.putfield 73, 3) := by decide +kernel
theorem dX8_save_5 : decode cX8_save 5 = .ok (.aload_n 0, 1) := by decide +kernel
theorem dX8_save_6 : decode cX8_save 6 = .ok (.getfield 20, 3) := by decide +kernel
theorem dX8_save_9 : decode cX8_save 9 = .ok (.aload_n 0, 1) := by decide +kernel
theorem dX8_save_10 : decode cX8_save 10 = .ok (.getfield 38, 3) := by decide +kernel
theorem dX8_save_13 : decode cX8_save 13 = .ok (.sipush 155, 3) := by decide +kernel
theorem dX8_save_16 : decode cX8_save 16 = .ok (.invokestatic 192, 3) := by decide +kernel
theorem dX8_save_19 : decode cX8_save 19 = .ok (.aload_n 0, 1) := by decide +kernel
theorem dX8_save_20 : decode cX8_save 20 = .ok (.getfield 29, 3) := by decide +kernel
theorem dX8_save_23 : decode cX8_save 23 = .ok (.aload_n 0, 1) := by decide +kernel
theorem dX8_save_24 : decode cX8_save 24 = .ok (.getfield 41, 3) := by decide +kernel
theorem dX8_save_27 : decode cX8_save 27 = .ok (.sipush 155, 3) := by decide +kernel
theorem dX8_save_30 : decode cX8_save 30 = .ok (.aload_n 0, 1) := by decide +kernel
theorem dX8_save_31 : decode cX8_save 31 = .ok (.getfield 20, 3) := by decide +kernel
theorem dX8_save_34 : decode cX8_save 34 = .ok (.sipush 153, 3) := by decide +kernel
theorem dX8_save_37 : decode cX8_save 37 = .ok (.iaload, 1) := by decide +kernel
theorem dX8_save_38 : decode cX8_save 38 = .ok (.imul, 1) := by decide +kernel
theorem dX8_save_39 : decode cX8_save 39 = .ok (.invokestatic 192, 3) := by decide +kernel
theorem dX8_save_42 : decode cX8_save 42 = .ok (.aload_n 0, 1) := by decide +kernel
theorem dX8_save_43 : decode cX8_save 43 = .ok (.getfield 32, 3) := by decide +kernel
theorem dX8_save_46 : decode cX8_save 46 = .ok (.aload_n 0, 1) := by decide +kernel
theorem dX8_save_47 : decode cX8_save 47 = .ok (.getfield 44, 3) := by decide +kernel
theorem dX8_save_50 : decode cX8_save 50 = .ok (.bipush 7, 2) := by decide +kernel
theorem dX8_save_52 : decode cX8_save 52 = .ok (.aload_n 0, 1) := by decide +kernel
theorem dX8_save_53 : decode cX8_save 53 = .ok (.getfield 20, 3) := by decide +kernel
theorem dX8_save_56 : decode cX8_save 56 = .ok (.sipush 153, 3) := by decide +kernel
theorem dX8_save_59 : decode cX8_save 59 = .ok (.iaload, 1) := by decide +kernel
theorem dX8_save_60 : decode cX8_save 60 = .ok (.imul, 1) := by decide +kernel
theorem dX8_save_61 : decode cX8_save 61 = .ok (.invokestatic 192, 3) := by decide +kernel
theorem dX8_save_64 : decode cX8_save 64 = .ok (.aload_n 0, 1) := by decide +kernel
theorem dX8_save_65 : decode cX8_save 65 = .ok (.getfield 35, 3) := by decide +kernel
theorem dX8_save_68 : decode cX8_save 68 = .ok (.aload_n 0, 1) := by decide +kernel
theorem dX8_save_69 : decode cX8_save 69 = .ok (.getfield 47, 3) := by decide +kernel
theorem dX8_save_72 : decode cX8_save 72 = .ok (.bipush 8, 2) := by decide +kernel
theorem dX8_save_74 : decode cX8_save 74 = .ok (.aload_n 0, 1) := by decide +kernel
theorem dX8_save_75 : decode cX8_save 75 = .ok (.getfield 20, 3) := by decide +kernel
theorem dX8_save_78 : decode cX8_save 78 = .ok (.sipush 153, 3) := by decide +kernel
theorem dX8_save_81 : decode cX8_save 81 = .ok (.iaload, 1) := by decide +kernel
theorem dX8_save_82 : decode cX8_save 82 = .ok (.imul, 1) := by decide +kernel
theorem dX8_save_83 : decode cX8_save 83 = .ok (.invokestatic 192, 3) := by decide +kernel
theorem dX8_save_86 : decode cX8_save 86 = .ok (.aload_n 0, 1) := by decide +kernel
theorem dX8_save_87 : decode cX8_save 87 = .ok (.getfield 16, 3) := by decide +kernel
theorem dX8_save_90 : decode cX8_save 90 = .ok (.aload_n 0, 1) := by decide +kernel
theorem dX8_save_91 : decode cX8_save 91 = .ok (.getfield 50, 3) := by decide +kernel
theorem dX8_save_94 : decode cX8_save 94 = .ok (.iconst 2, 1) := by decide +kernel
theorem dX8_save_95 : decode cX8_save 95 = .ok (.invokestatic 192, 3) := by decide +kernel
theorem dX8_save_98 : decode cX8_save 98 = .ok (.aload_n 0, 1) := by decide +kernel
theorem dX8_save_99 : decode cX8_save 99 = .ok (.aload_n 0, 1) := by decide +kernel
theorem dX8_save_100 : decode cX8_save 100 = .ok (.getfield 9, 3) := by decide +kernel
theorem dX8_save_103 : decode cX8_save 103 = .ok (.putfield 249, 3) := by decide +kernel
theorem dX8_save_106 : decode cX8_save 106 = .ok (.aload_n 0, 1) := by decide +kernel
theorem dX8_save_107 : decode cX8_save 107 = .ok (.aload_n 0, 1) := by decide +kernel
theorem dX8_save_108 : decode cX8_save 108 = .ok (.getfield 13, 3) := by decide +kernel
theorem dX8_save_111 : decode cX8_save 111 = .ok (.putfield 252, 3) := by decide +kernel
theorem dX8_save_114 : decode cX8_save 114 = .ok (.aload_n 0, 1) := by decide +kernel
theorem dX8_save_115 : decode cX8_save 115 = .ok (.aload_n 0, 1) := by decide +kernel
theorem dX8_save_116 : decode cX8_save 116 = .ok (.getfield 88, 3) := by decide +kernel
theorem dX8_save_119 : decode cX8_save 119 = .ok (.putfield 255, 3) := by decide +kernel
theorem dX8_save_122 : decode cX8_save 122 = .ok (.aload_n 0, 1) := by decide +kernel
theorem dX8_save_123 : decode cX8_save 123 = .ok (.iconst 1, 1) := by decide +kernel
theorem dX8_save_124 : decode cX8_save 124 = .ok (.putfield 258, 3) := by decide +kernel
theorem dX8_save_127 : decode cX8_save 127 = .ok (.aload_n 0, 1) := by decide +kernel
theorem dX8_save_128 : decode cX8_save 128 = .ok (.getfield 20, 3) := by decide +kernel
theorem dX8_save_131 : decode cX8_save 131 = .ok (.sipush 153, 3) := by decide +kernel
theorem dX8_save_134 : decode cX8_save 134 = .ok (.iaload, 1) := by decide +kernel
theorem dX8_save_135 : decode cX8_save 135 = .ok (.ireturn, 1) := by decide +kernel
theorem dX8_restore_0 : decode cX8_restore 0 = .ok (.aload_n 0, 1) := by decide +kernel
theorem dX8_restore_1 : decode cX8_restore 1 = .ok (.aload_n 0, 1) := by decide +kernel
theorem dX8_restore_2 : decode cX8_restore 2 = .ok (.getfield 258, 3) := by decide +kernel
theorem dX8_restore_5 : decode cX8_restore 5 = .ok (.ifCond .eq 7, 3) := by decide +kernel
theorem dX8_restore_8 : decode cX8_restore 8 = .ok (.iconst 0, 1) := by decide +kernel
theorem dX8_restore_9 : decode cX8_restore 9 = .ok (.goto 4, 3) := by decide +kernel
theorem dX8_restore_12 : decode cX8_restore 12 = .ok (.iconst 1, 1) := by decide +kernel
theorem dX8_restore_13 : decode cX8_restore 13 = .ok (.putfield 73, 3) := by decide +kernel
theorem dX8_restore_16 : decode cX8_restore 16 = .ok (.aload_n 0, 1) := by decide +kernel
theorem dX8_restore_17 : decode cX8_restore 17 = .ok (.getfield 258, 3) := by decide +kernel
theorem dX8_restore_20 : decode cX8_restore 20 = .ok (.ifCond .ne 5, 3) := by decide +kernel
theorem dX8_restore_23 : decode cX8_restore 23 = .ok (.iconst 0, 1) := by decide +kernel
theorem dX8_restore_24 : decode cX8_restore 24 = .ok (.ireturn, 1) := by decide +kernel
theorem dX8_restore_25 : decode cX8_restore 25 = .ok (.aload_n 0, 1) := by decide +kernel
theorem dX8_restore_26 : decode cX8_restore 26 = .ok (.getfield 38, 3) := by decide +kernel
theorem dX8_restore_29 : decode cX8_restore 29 = .ok (.aload_n 0, 1) := by decide +kernel
theorem dX8_restore_30 : decode cX8_restore 30 = .ok (.getfield 20, 3) := by decide +kernel
theorem dX8_restore_33 : decode cX8_restore 33 = .ok (.sipush 155, 3) := by decide +kernel
theorem dX8_restore_36 : decode cX8_restore 36 = .ok (.invokestatic 192, 3) := by decide +kernel
theorem dX8_restore_39 : decode cX8_restore 39 = .ok (.aload_n 0, 1) := by decide +kernel
theorem dX8_restore_40 : decode cX8_restore 40 = .ok (.getfield 41, 3) := by decide +kernel
theorem dX8_restore_43 : decode cX8_restore 43 = .ok (.aload_n 0, 1) := by decide +kernel
theorem dX8_restore_44 : decode cX8_restore 44 = .ok (.getfield 29, 3) := by decide +kernel
theorem dX8_restore_47 : decode cX8_restore 47 = .ok (.sipush 155, 3) := by decide +kernel
theorem dX8_restore_50 : decode cX8_restore 50 = .ok (.aload_n 0, 1) := by decide +kernel
theorem dX8_restore_51 : decode cX8_restore 51 = .ok (.getfield 20, 3) := by decide +kernel
theorem dX8_restore_54 : decode cX8_restore 54 = .ok (.sipush 153, 3) := by decide +kernel
theorem dX8_restore_57 : decode cX8_restore 57 = .ok (.iaload, 1) := by decide +kernel
theorem dX8_restore_58 : decode cX8_restore 58 = .ok (.imul, 1) := by decide +kernel
theorem dX8_restore_59 : decode cX8_restore 59 = .ok (.invokestatic 192, 3) := by decide +kernel
theorem dX8_restore_62 : decode cX8_restore 62 = .ok (.aload_n 0, 1) := by decide +kernel
theorem dX8_restore_63 : decode cX8_restore 63 = .ok (.getfield 44, 3) := by decide +kernel
theorem dX8_restore_66 : decode cX8_restore 66 = .ok (.aload_n 0, 1) := by decide +kernel
theorem dX8_restore_67 : decode cX8_restore 67 = .ok (.getfield 32, 3) := by decide +kernel
theorem dX8_restore_70 : decode cX8_restore 70 = .ok (.bipush 7, 2) := by decide +kernel
theorem dX8_restore_72 : decode cX8_restore 72 = .ok (.aload_n 0, 1) := by decide +kernel
theorem dX8_restore_73 : decode cX8_restore 73 = .ok (.getfield 20, 3) := by decide +kernel
theorem dX8_restore_76 : decode cX8_restore 76 = .ok (.sipush 153, 3) := by decide +kernel
theorem dX8_restore_79 : decode cX8_restore 79 = .ok (.iaload, 1) := by decide +kernel
theorem dX8_restore_80 : decode cX8_restore 80 = .ok (.imul, 1) := by decide +kernel
theorem dX8_restore_81 : decode cX8_restore 81 = .ok (.invokestatic 192, 3) := by decide +kernel
theorem dX8_restore_84 : decode cX8_restore 84 = .ok (.aload_n 0, 1) := by decide +kernel
theorem dX8_restore_85 : decode cX8_restore 85 = .ok (.getfield 47, 3) := by decide +kernel
theorem dX8_restore_88 : decode cX8_restore 88 = .ok (.aload_n 0, 1) := by decide +kernel
theorem dX8_restore_89 : decode cX8_restore 89 = .ok (.getfield 35, 3) := by decide +kernel
theorem dX8_restore_92 : decode cX8_restore 92 = .ok (.bipush 8, 2) := by decide +kernel
theorem dX8_restore_94 : decode cX8_restore 94 = .ok (.aload_n 0, 1) := by decide +kernel
theorem dX8_restore_95 : decode cX8_restore 95 = .ok (.getfield 20, 3) := by decide +kernel
theorem dX8_restore_98 : decode cX8_restore 98 = .ok (.sipush 153, 3) := by decide +kernel
theorem dX8_restore_101 : decode cX8_restore 101 = .ok (.iaload, 1) := by decide +kernel
theorem dX8_restore_102 : decode cX8_restore 102 = .ok (.imul, 1) := by decide +kernel
theorem dX8_restore_103 : decode cX8_restore 103 = .ok (.invokestatic 192, 3) := by decide +kernel
theorem dX8_restore_106 : decode cX8_restore 106 = .ok (.aload_n 0, 1) := by decide +kernel
theorem dX8_restore_107 : decode cX8_restore 107 = .ok (.getfield 50, 3) := by decide +kernel
theorem dX8_restore_110 : decode cX8_restore 110 = .ok (.aload_n 0, 1) := by decide +kernel
theorem dX8_restore_111 : decode cX8_restore 111 = .ok (.getfield 16, 3) := by decide +kernel
theorem dX8_restore_114 : decode cX8_restore 114 = .ok (.iconst 2, 1) := by decide +kernel
theorem dX8_restore_115 : decode cX8_restore 115 = .ok (.invokestatic 192, 3) := by decide +kernel
theorem dX8_restore_118 : decode cX8_restore 118 = .ok (.aload_n 0, 1) := by decide +kernel
theorem dX8_restore_119 : decode cX8_restore 119 = .ok (.aload_n 0, 1) := by decide +kernel
theorem dX8_restore_120 : decode cX8_restore 120 = .ok (.getfield 249, 3) := by decide +kernel
theorem dX8_restore_123 : decode cX8_restore 123 = .ok (.putfield 9, 3) := by decide +kernel
theorem dX8_restore_126 : decode cX8_restore 126 = .ok (.aload_n 0, 1) := by decide +kernel
theorem dX8_restore_127 : decode cX8_restore 127 = .ok (.aload_n 0, 1) := by decide +kernel
theorem dX8_restore_128 : decode cX8_restore 128 = .ok (.getfield 252, 3) := by decide +kernel
theorem dX8_restore_131 : decode cX8_restore 131 = .ok (.putfield 13, 3) := by decide +kernel
theorem dX8_restore_134 : decode cX8_restore 134 = .ok (.aload_n 0, 1) := by decide +kernel
theorem dX8_restore_135 : decode cX8_restore 135 = .ok (.aload_n 0, 1) := by decide +kernel
theorem dX8_restore_136 : decode cX8_restore 136 = .ok (.getfield 255, 3) := by decide +kernel
theorem dX8_restore_139 : decode cX8_restore 139 = .ok (.putfield 88, 3) := by decide +kernel
theorem dX8_restore_142 : decode cX8_restore 142 = .ok (.aload_n 0, 1) := by decide +kernel
theorem dX8_restore_143 : decode cX8_restore 143 = .ok (.getfield 20, 3) := by decide +kernel
theorem dX8_restore_146 : decode cX8_restore 146 = .ok (.sipush 153, 3) := by decide +kernel
theorem dX8_restore_149 : decode cX8_restore 149 = .ok (.iaload, 1) := by decide +kernel
theorem dX8_restore_150 : decode cX8_restore 150 = .ok (.ireturn, 1) := by decide +kernel
