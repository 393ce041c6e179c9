theorem dX0_init_0 : decode cX0_init 0 = .ok (.aload_n 0, 1) := by decide +kernel
theorem dX0_init_1 : decode cX0_init 1 = .ok (.invokespecial 1, 3) := by decide +kernel
theorem dX0_init_4 : decode cX0_init 4 = .ok (.aload_n 0, 1) := by decide +kernel
theorem dX0_init_5 : decode cX0_init 5 = .ok (.iload_n 1, 1) := by decide +kernel
theorem dX0_init_6 : decode cX0_init 6 = .ok (.putfield 7, 3) := by decide +kernel
theorem dX0_init_9 : decode cX0_init 9 = .ok (.aload_n 0, 1) := by decide +kernel
theorem dX0_init_10 : decode cX0_init 10 = .ok (.iload_n 2, 1) := by decide +kernel
theorem dX0_init_11 : decode cX0_init 11 = .ok (.putfield 13, 3) := by decide +kernel
theorem dX0_init_14 : decode cX0_init 14 = .ok (.aload_n 0, 1) := by decide +kernel
theorem dX0_init_15 : decode cX0_init 15 = .ok (.iload_n 1, 1) := by decide +kernel
theorem dX0_init_16 : decode cX0_init 16 = .ok (.iload_n 2, 1) := by decide +kernel
theorem dX0_init_17 : decode cX0_init 17 = .ok (.imul, 1) := by decide +kernel
theorem dX0_init_18 : decode cX0_init 18 = .ok (.putfield 16, 3) := by decide +kernel
theorem dX0_init_21 : decode cX0_init 21 = .ok (.aload_n 0, 1) := by decide +kernel
theorem dX0_init_22 : decode cX0_init 22 = .ok (.lconst 1, 1) := by decide +kernel
theorem dX0_init_23 : decode cX0_init 23 = .ok (.aload_n 0, 1) := by decide +kernel
theorem dX0_init_24 : decode cX0_init 24 = .ok (.getfield 16, 3) := by decide +kernel
theorem dX0_init_27 : decode cX0_init 27 = .ok (.lshl, 1) := by decide +kernel
theorem dX0_init_28 : decode cX0_init 28 = .ok (.lconst 1, 1) := by decide +kernel
theorem dX0_init_29 : decode cX0_init 29 = .ok (.lsub, 1) := by decide +kernel
theorem dX0_init_30 : decode cX0_init 30 = .ok (.putfield 19, 3) := by decide +kernel
theorem dX0_init_33 : decode cX0_init 33 = .ok (.lconst 0, 1) := by decide +kernel
theorem dX0_init_34 : decode cX0_init 34 = .ok (.lstore_n 3, 1) := by decide +kernel
theorem dX0_init_35 : decode cX0_init 35 = .ok (.iconst 0, 1) := by decide +kernel
theorem dX0_init_36 : decode cX0_init 36 = .ok (.istore 5, 2) := by decide +kernel
theorem dX0_init_38 : decode cX0_init 38 = .ok (.iload 5, 2) := by decide +kernel
theorem dX0_init_40 : decode cX0_init 40 = .ok (.iload_n 2, 1) := by decide +kernel
theorem dX0_init_41 : decode cX0_init 41 = .ok (.if_icmp .ge 18, 3) := by decide +kernel
theorem dX0_init_44 : decode cX0_init 44 = .ok (.lload_n 3, 1) := by decide +kernel
theorem dX0_init_45 : decode cX0_init 45 = .ok (.lconst 1, 1) := by decide +kernel
theorem dX0_init_46 : decode cX0_init 46 = .ok (.iload 5, 2) := by decide +kernel
theorem dX0_init_48 : decode cX0_init 48 = .ok (.iload_n 1, 1) := by decide +kernel
theorem dX0_init_49 : decode cX0_init 49 = .ok (.imul, 1) := by decide +kernel
theorem dX0_init_50 : decode cX0_init 50 = .ok (.lshl, 1) := by decide +kernel
theorem dX0_init_51 : decode cX0_init 51 = .ok (.lor, 1) := by decide +kernel
theorem dX0_init_52 : decode cX0_init 52 = .ok (.lstore_n 3, 1) := by decide +kernel
theorem dX0_init_53 : decode cX0_init 53 = .ok (.iinc 5 1, 3) := by decide +kernel
theorem dX0_init_56 : decode cX0_init 56 = .ok (.goto (-18), 3) := by decide +kernel
theorem dX0_init_59 : decode cX0_init 59 = .ok (.aload_n 0, 1) := by decide +kernel
theorem dX0_init_60 : decode cX0_init 60 = .ok (.lload_n 3, 1) := by decide +kernel
theorem dX0_init_61 : decode cX0_init 61 = .ok (.putfield 23, 3) := by decide +kernel
theorem dX0_init_64 : decode cX0_init 64 = .ok (.aload_n 0, 1) := by decide +kernel
theorem dX0_init_65 : decode cX0_init 65 = .ok (.lload_n 3, 1) := by decide +kernel
theorem dX0_init_66 : decode cX0_init 66 = .ok (.iload_n 1, 1) := by decide +kernel
theorem dX0_init_67 : decode cX0_init 67 = .ok (.iconst 1, 1) := by decide +kernel
theorem dX0_init_68 : decode cX0_init 68 = .ok (.isub, 1) := by decide +kernel
theorem dX0_init_69 : decode cX0_init 69 = .ok (.lshl, 1) := by decide +kernel
theorem dX0_init_70 : decode cX0_init 70 = .ok (.putfield 26, 3) := by decide +kernel
theorem dX0_init_73 : decode cX0_init 73 = .ok (.lconst 1, 1) := by decide +kernel
theorem dX0_init_74 : decode cX0_init 74 = .ok (.iload_n 1, 1) := by decide +kernel
theorem dX0_init_75 : decode cX0_init 75 = .ok (.lshl, 1) := by decide +kernel
theorem dX0_init_76 : decode cX0_init 76 = .ok (.lconst 1, 1) := by decide +kernel
theorem dX0_init_77 : decode cX0_init 77 = .ok (.lsub, 1) := by decide +kernel
theorem dX0_init_78 : decode cX0_init 78 = .ok (.lstore 5, 2) := by decide +kernel
theorem dX0_init_80 : decode cX0_init 80 = .ok (.aload_n 0, 1) := by decide +kernel
theorem dX0_init_81 : decode cX0_init 81 = .ok (.aload_n 0, 1) := by decide +kernel
theorem dX0_init_82 : decode cX0_init 82 = .ok (.getfield 23, 3) := by decide +kernel
theorem dX0_init_85 : decode cX0_init 85 = .ok (.aload_n 0, 1) := by decide +kernel
theorem dX0_init_86 : decode cX0_init 86 = .ok (.getfield 26, 3) := by decide +kernel
theorem dX0_init_89 : decode cX0_init 89 = .ok (.lor, 1) := by decide +kernel
theorem dX0_init_90 : decode cX0_init 90 = .ok (.lload 5, 2) := by decide +kernel
theorem dX0_init_92 : decode cX0_init 92 = .ok (.lor, 1) := by decide +kernel
theorem dX0_init_93 : decode cX0_init 93 = .ok (.lload 5, 2) := by decide +kernel
theorem dX0_init_95 : decode cX0_init 95 = .ok (.aload_n 0, 1) := by decide +kernel
theorem dX0_init_96 : decode cX0_init 96 = .ok (.getfield 16, 3) := by decide +kernel
theorem dX0_init_99 : decode cX0_init 99 = .ok (.iload_n 1, 1) := by decide +kernel
theorem dX0_init_100 : decode cX0_init 100 = .ok (.isub, 1) := by decide +kernel
theorem dX0_init_101 : decode cX0_init 101 = .ok (.lshl, 1) := by decide +kernel
theorem dX0_init_102 : decode cX0_init 102 = .ok (.lor, 1) := by decide +kernel
theorem dX0_init_103 : decode cX0_init 103 = .ok (.putfield 29, 3) := by decide +kernel
theorem dX0_init_106 : decode cX0_init 106 = .ok (.return_, 1) := by decide +kernel
theorem dX0_has_0 : decode cX0_has 0 = .ok (.iload_n 1, 1) := by decide +kernel
theorem dX0_has_1 : decode cX0_has 1 = .ok (.ifCond .lt 15, 3) := by decide +kernel
theorem dX0_has_4 : decode cX0_has 4 = .ok (.iload_n 1, 1) := by decide +kernel
theorem dX0_has_5 : decode cX0_has 5 = .ok (.aload_n 0, 1) := by decide +kernel
theorem dX0_has_6 : decode cX0_has 6 = .ok (.getfield 16, 3) := by decide +kernel
theorem dX0_has_9 : decode cX0_has 9 = .ok (.if_icmp .ge 7, 3) := by decide +kernel
theorem dX0_has_12 : decode cX0_has 12 = .ok (.iconst 1, 1) := by decide +kernel
theorem dX0_has_13 : decode cX0_has 13 = .ok (.goto 4, 3) := by decide +kernel
theorem dX0_has_16 : decode cX0_has 16 = .ok (.iconst 0, 1) := by decide +kernel
theorem dX0_has_17 : decode cX0_has 17 = .ok (.ireturn, 1) := by decide +kernel
theorem dX0_cellAt_0 : decode cX0_cellAt 0 = .ok (.iload_n 2, 1) := by decide +kernel
theorem dX0_cellAt_1 : decode cX0_cellAt 1 = .ok (.aload_n 0, 1) := by decide +kernel
theorem dX0_cellAt_2 : decode cX0_cellAt 2 = .ok (.getfield 7, 3) := by decide +kernel
theorem dX0_cellAt_5 : decode cX0_cellAt 5 = .ok (.imul, 1) := by decide +kernel
theorem dX0_cellAt_6 : decode cX0_cellAt 6 = .ok (.iload_n 1, 1) := by decide +kernel
theorem dX0_cellAt_7 : decode cX0_cellAt 7 = .ok (.iadd, 1) := by decide +kernel
theorem dX0_cellAt_8 : decode cX0_cellAt 8 = .ok (.ireturn, 1) := by decide +kernel
theorem dX0_rowOf_0 : decode cX0_rowOf 0 = .ok (.aload_n 0, 1) := by decide +kernel
theorem dX0_rowOf_1 : decode cX0_rowOf 1 = .ok (.getfield 7, 3) := by decide +kernel
theorem dX0_rowOf_4 : decode cX0_rowOf 4 = .ok (.ifCond .ne 7, 3) := by decide +kernel
theorem dX0_rowOf_7 : decode cX0_rowOf 7 = .ok (.iconst 0, 1) := by decide +kernel
theorem dX0_rowOf_8 : decode cX0_rowOf 8 = .ok (.goto 9, 3) := by decide +kernel
theorem dX0_rowOf_11 : decode cX0_rowOf 11 = .ok (.iload_n 1, 1) := by decide +kernel
theorem dX0_rowOf_12 : decode cX0_rowOf 12 = .ok (.aload_n 0, 1) := by decide +kernel
theorem dX0_rowOf_13 : decode cX0_rowOf 13 = .ok (.getfield 7, 3) := by decide +kernel
theorem dX0_rowOf_16 : decode cX0_rowOf 16 = .ok (.idiv, 1) := by decide +kernel
theorem dX0_rowOf_17 : decode cX0_rowOf 17 = .ok (.ireturn, 1) := by decide +kernel
theorem dX0_columnOf_0 : decode cX0_columnOf 0 = .ok (.iload_n 1, 1) := by decide +kernel
theorem dX0_columnOf_1 : decode cX0_columnOf 1 = .ok (.aload_n 0, 1) := by decide +kernel
theorem dX0_columnOf_2 : decode cX0_columnOf 2 = .ok (.iload_n 1, 1) := by decide +kernel
theorem dX0_columnOf_3 : decode cX0_columnOf 3 = .ok (.invokevirtual 32, 3) := by decide +kernel
theorem dX0_columnOf_6 : decode cX0_columnOf 6 = .ok (.aload_n 0, 1) := by decide +kernel
theorem dX0_columnOf_7 : decode cX0_columnOf 7 = .ok (.getfield 7, 3) := by decide +kernel
theorem dX0_columnOf_10 : decode cX0_columnOf 10 = .ok (.imul, 1) := by decide +kernel
theorem dX0_columnOf_11 : decode cX0_columnOf 11 = .ok (.isub, 1) := by decide +kernel
theorem dX0_columnOf_12 : decode cX0_columnOf 12 = .ok (.ireturn, 1) := by decide +kernel
theorem dX0_partOfBoard_0 : decode cX0_partOfBoard 0 = .ok (.aload_n 0, 1) := by decide +kernel
theorem dX0_partOfBoard_1 : decode cX0_partOfBoard 1 = .ok (.getfield 16, 3) := by decide +kernel
theorem dX0_partOfBoard_4 : decode cX0_partOfBoard 4 = .ok (.ifCond .ne 7, 3) := by decide +kernel
theorem dX0_partOfBoard_7 : decode cX0_partOfBoard 7 = .ok (.dconst 0, 1) := by decide +kernel
theorem dX0_partOfBoard_8 : decode cX0_partOfBoard 8 = .ok (.goto 14, 3) := by decide +kernel
theorem dX0_partOfBoard_11 : decode cX0_partOfBoard 11 = .ok (.lload_n 1, 1) := by decide +kernel
theorem dX0_partOfBoard_12 : decode cX0_partOfBoard 12 = .ok (.invokestatic 36, 3) := by decide +kernel
theorem dX0_partOfBoard_15 : decode cX0_partOfBoard 15 = .ok (.i2d, 1) := by decide +kernel
theorem dX0_partOfBoard_16 : decode cX0_partOfBoard 16 = .ok (.aload_n 0, 1) := by decide +kernel
theorem dX0_partOfBoard_17 : decode cX0_partOfBoard 17 = .ok (.getfield 16, 3) := by decide +kernel
theorem dX0_partOfBoard_20 : decode cX0_partOfBoard 20 = .ok (.i2d, 1) := by decide +kernel
theorem dX0_partOfBoard_21 : decode cX0_partOfBoard 21 = .ok (.ddiv, 1) := by decide +kernel
theorem dX0_partOfBoard_22 : decode cX0_partOfBoard 22 = .ok (.dreturn, 1) := by decide +kernel
theorem dX0_flood_0 : decode cX0_flood 0 = .ok (.lload_n 1, 1) := by decide +kernel
theorem dX0_flood_1 : decode cX0_flood 1 = .ok (.lload_n 3, 1) := by decide +kernel
theorem dX0_flood_2 : decode cX0_flood 2 = .ok (.land, 1) := by decide +kernel
theorem dX0_flood_3 : decode cX0_flood 3 = .ok (.lstore 5, 2) := by decide +kernel
theorem dX0_flood_5 : decode cX0_flood 5 = .ok (.iconst 0, 1) := by decide +kernel
theorem dX0_flood_6 : decode cX0_flood 6 = .ok (.istore 7, 2) := by decide +kernel
theorem dX0_flood_8 : decode cX0_flood 8 = .ok (.iload 7, 2) := by decide +kernel
theorem dX0_flood_10 : decode cX0_flood 10 = .ok (.aload_n 0, 1) := by decide +kernel
theorem dX0_flood_11 : decode cX0_flood 11 = .ok (.getfield 16, 3) := by decide +kernel
theorem dX0_flood_14 : decode cX0_flood 14 = .ok (.if_icmp .ge 82, 3) := by decide +kernel
theorem dX0_flood_17 : decode cX0_flood 17 = .ok (.lload 5, 2) := by decide +kernel
theorem dX0_flood_19 : decode cX0_flood 19 = .ok (.aload_n 0, 1) := by decide +kernel
theorem dX0_flood_20 : decode cX0_flood 20 = .ok (.getfield 26, 3) := by decide +kernel
theorem dX0_flood_23 : decode cX0_flood 23 = .ok (.ldc2_w 42, 3) := by decide +kernel
theorem dX0_flood_26 : decode cX0_flood 26 = .ok (.lxor, 1) := by decide +kernel
theorem dX0_flood_27 : decode cX0_flood 27 = .ok (.land, 1) := by decide +kernel
theorem dX0_flood_28 : decode cX0_flood 28 = .ok (.iconst 1, 1) := by decide +kernel
theorem dX0_flood_29 : decode cX0_flood 29 = .ok (.lshl, 1) := by decide +kernel
theorem dX0_flood_30 : decode cX0_flood 30 = .ok (.lstore 8, 2) := by decide +kernel
theorem dX0_flood_32 : decode cX0_flood 32 = .ok (.lload 5, 2) := by decide +kernel
theorem dX0_flood_34 : decode cX0_flood 34 = .ok (.aload_n 0, 1) := by decide +kernel
theorem dX0_flood_35 : decode cX0_flood 35 = .ok (.getfield 23, 3) := by decide +kernel
theorem dX0_flood_38 : decode cX0_flood 38 = .ok (.ldc2_w 42, 3) := by decide +kernel
theorem dX0_flood_41 : decode cX0_flood 41 = .ok (.lxor, 1) := by decide +kernel
theorem dX0_flood_42 : decode cX0_flood 42 = .ok (.land, 1) := by decide +kernel
theorem dX0_flood_43 : decode cX0_flood 43 = .ok (.iconst 1, 1) := by decide +kernel
theorem dX0_flood_44 : decode cX0_flood 44 = .ok (.lushr, 1) := by decide +kernel
theorem dX0_flood_45 : decode cX0_flood 45 = .ok (.lstore 10, 2) := by decide +kernel
theorem dX0_flood_47 : decode cX0_flood 47 = .ok (.lload 5, 2) := by decide +kernel
theorem dX0_flood_49 : decode cX0_flood 49 = .ok (.lload 8, 2) := by decide +kernel
theorem dX0_flood_51 : decode cX0_flood 51 = .ok (.lor, 1) := by decide +kernel
theorem dX0_flood_52 : decode cX0_flood 52 = .ok (.lload 10, 2) := by decide +kernel
theorem dX0_flood_54 : decode cX0_flood 54 = .ok (.lor, 1) := by decide +kernel
theorem dX0_flood_55 : decode cX0_flood 55 = .ok (.lload 5, 2) := by decide +kernel
theorem dX0_flood_57 : decode cX0_flood 57 = .ok (.aload_n 0, 1) := by decide +kernel
theorem dX0_flood_58 : decode cX0_flood 58 = .ok (.getfield 7, 3) := by decide +kernel
theorem dX0_flood_61 : decode cX0_flood 61 = .ok (.lshl, 1) := by decide +kernel
theorem dX0_flood_62 : decode cX0_flood 62 = .ok (.lor, 1) := by decide +kernel
theorem dX0_flood_63 : decode cX0_flood 63 = .ok (.lload 5, 2) := by decide +kernel
theorem dX0_flood_65 : decode cX0_flood 65 = .ok (.aload_n 0, 1) := by decide +kernel
theorem dX0_flood_66 : decode cX0_flood 66 = .ok (.getfield 7, 3) := by decide +kernel
theorem dX0_flood_69 : decode cX0_flood 69 = .ok (.lushr, 1) := by decide +kernel
theorem dX0_flood_70 : decode cX0_flood 70 = .ok (.lor, 1) := by decide +kernel
theorem dX0_flood_71 : decode cX0_flood 71 = .ok (.lload_n 3, 1) := by decide +kernel
theorem dX0_flood_72 : decode cX0_flood 72 = .ok (.land, 1) := by decide +kernel
theorem dX0_flood_73 : decode cX0_flood 73 = .ok (.lstore 12, 2) := by decide +kernel
theorem dX0_flood_75 : decode cX0_flood 75 = .ok (.lload 12, 2) := by decide +kernel
theorem dX0_flood_77 : decode cX0_flood 77 = .ok (.lload 5, 2) := by decide +kernel
theorem dX0_flood_79 : decode cX0_flood 79 = .ok (.lcmp, 1) := by decide +kernel
theorem dX0_flood_80 : decode cX0_flood 80 = .ok (.ifCond .ne 6, 3) := by decide +kernel
theorem dX0_flood_83 : decode cX0_flood 83 = .ok (.goto 13, 3) := by decide +kernel
theorem dX0_flood_86 : decode cX0_flood 86 = .ok (.lload 12, 2) := by decide +kernel
theorem dX0_flood_88 : decode cX0_flood 88 = .ok (.lstore 5, 2) := by decide +kernel
theorem dX0_flood_90 : decode cX0_flood 90 = .ok (.iinc 7 1, 3) := by decide +kernel
theorem dX0_flood_93 : decode cX0_flood 93 = .ok (.goto (-85), 3) := by decide +kernel
theorem dX0_flood_96 : decode cX0_flood 96 = .ok (.lload 5, 2) := by decide +kernel
theorem dX0_flood_98 : decode cX0_flood 98 = .ok (.lreturn, 1) := by decide +kernel
theorem dX0_isInside_0 : decode cX0_isInside 0 = .ok (.aload_n 0, 1) := by decide +kernel
theorem dX0_isInside_1 : decode cX0_isInside 1 = .ok (.lload_n 1, 1) := by decide +kernel
theorem dX0_isInside_2 : decode cX0_isInside 2 = .ok (.lload_n 3, 1) := by decide +kernel
theorem dX0_isInside_3 : decode cX0_isInside 3 = .ok (.invokevirtual 44, 3) := by decide +kernel
theorem dX0_isInside_6 : decode cX0_isInside 6 = .ok (.aload_n 0, 1) := by decide +kernel
theorem dX0_isInside_7 : decode cX0_isInside 7 = .ok (.getfield 29, 3) := by decide +kernel
theorem dX0_isInside_10 : decode cX0_isInside 10 = .ok (.land, 1) := by decide +kernel
theorem dX0_isInside_11 : decode cX0_isInside 11 = .ok (.lconst 0, 1) := by decide +kernel
theorem dX0_isInside_12 : decode cX0_isInside 12 = .ok (.lcmp, 1) := by decide +kernel
theorem dX0_isInside_13 : decode cX0_isInside 13 = .ok (.ifCond .ne 7, 3) := by decide +kernel
theorem dX0_isInside_16 : decode cX0_isInside 16 = .ok (.iconst 1, 1) := by decide +kernel
theorem dX0_isInside_17 : decode cX0_isInside 17 = .ok (.goto 4, 3) := by decide +kernel
theorem dX0_isInside_20 : decode cX0_isInside 20 = .ok (.iconst 0, 1) := by decide +kernel
theorem dX0_isInside_21 : decode cX0_isInside 21 = .ok (.ireturn, 1) := by decide +kernel
theorem dX1_init_0 : decode cX1_init 0 = .ok (.aload_n 0, 1) := by decide +kernel
theorem dX1_init_1 : decode cX1_init 1 = .ok (.invokespecial 3, 3) := by decide +kernel
theorem dX1_init_4 : decode cX1_init 4 = .ok (.aload_n 0, 1) := by decide +kernel
theorem dX1_init_5 : decode cX1_init 5 = .ok (.new 9, 3) := by decide +kernel
theorem dX1_init_8 : decode cX1_init 8 = .ok (.dup, 1) := by decide +kernel
theorem dX1_init_9 : decode cX1_init 9 = .ok (.invokespecial 11, 3) := by decide +kernel
theorem dX1_init_12 : decode cX1_init 12 = .ok (.putfield 12, 3) := by decide +kernel
theorem dX1_init_15 : decode cX1_init 15 = .ok (.aload_n 0, 1) := by decide +kernel
theorem dX1_init_16 : decode cX1_init 16 = .ok (.new 9, 3) := by decide +kernel
theorem dX1_init_19 : decode cX1_init 19 = .ok (.dup, 1) := by decide +kernel
theorem dX1_init_20 : decode cX1_init 20 = .ok (.invokespecial 11, 3) := by decide +kernel
theorem dX1_init_23 : decode cX1_init 23 = .ok (.putfield 18, 3) := by decide +kernel
theorem dX1_init_26 : decode cX1_init 26 = .ok (.return_, 1) := by decide +kernel
theorem dX1_leastValue_0 : decode cX1_leastValue 0 = .ok (.iload 5, 2) := by decide +kernel
theorem dX1_leastValue_2 : decode cX1_leastValue 2 = .ok (.iconst 1, 1) := by decide +kernel
theorem dX1_leastValue_3 : decode cX1_leastValue 3 = .ok (.if_icmp .le 10, 3) := by decide +kernel
theorem dX1_leastValue_6 : decode cX1_leastValue 6 = .ok (.aload_n 0, 1) := by decide +kernel
theorem dX1_leastValue_7 : decode cX1_leastValue 7 = .ok (.getfield 12, 3) := by decide +kernel
theorem dX1_leastValue_10 : decode cX1_leastValue 10 = .ok (.goto 7, 3) := by decide +kernel
theorem dX1_leastValue_13 : decode cX1_leastValue 13 = .ok (.aload_n 0, 1) := by decide +kernel
theorem dX1_leastValue_14 : decode cX1_leastValue 14 = .ok (.getfield 18, 3) := by decide +kernel
theorem dX1_leastValue_17 : decode cX1_leastValue 17 = .ok (.astore 6, 2) := by decide +kernel
theorem dX1_leastValue_19 : decode cX1_leastValue 19 = .ok (.aload_n 1, 1) := by decide +kernel
theorem dX1_leastValue_20 : decode cX1_leastValue 20 = .ok (.aload_n 2, 1) := by decide +kernel
theorem dX1_leastValue_21 : decode cX1_leastValue 21 = .ok (.invokevirtual 21, 3) := by decide +kernel
theorem dX1_leastValue_24 : decode cX1_leastValue 24 = .ok (.istore 7, 2) := by decide +kernel
theorem dX1_leastValue_26 : decode cX1_leastValue 26 = .ok (.ldc 27, 2) := by decide +kernel
theorem dX1_leastValue_28 : decode cX1_leastValue 28 = .ok (.istore 8, 2) := by decide +kernel
theorem dX1_leastValue_30 : decode cX1_leastValue 30 = .ok (.iconst (-1), 1) := by decide +kernel
theorem dX1_leastValue_31 : decode cX1_leastValue 31 = .ok (.istore 9, 2) := by decide +kernel
theorem dX1_leastValue_33 : decode cX1_leastValue 33 = .ok (.iload 9, 2) := by decide +kernel
theorem dX1_leastValue_35 : decode cX1_leastValue 35 = .ok (.aload_n 1, 1) := by decide +kernel
theorem dX1_leastValue_36 : decode cX1_leastValue 36 = .ok (.getfield 28, 3) := by decide +kernel
theorem dX1_leastValue_39 : decode cX1_leastValue 39 = .ok (.getfield 32, 3) := by decide +kernel
theorem dX1_leastValue_42 : decode cX1_leastValue 42 = .ok (.if_icmp .ge 144, 3) := by decide +kernel
theorem dX1_leastValue_45 : decode cX1_leastValue 45 = .ok (.aload_n 2, 1) := by decide +kernel
theorem dX1_leastValue_46 : decode cX1_leastValue 46 = .ok (.iload 9, 2) := by decide +kernel
theorem dX1_leastValue_48 : decode cX1_leastValue 48 = .ok (.invokevirtual 38, 3) := by decide +kernel
theorem dX1_leastValue_51 : decode cX1_leastValue 51 = .ok (.ifCond .eq 129, 3) := by decide +kernel
theorem dX1_leastValue_54 : decode cX1_leastValue 54 = .ok (.iload_n 3, 1) := by decide +kernel
theorem dX1_leastValue_55 : decode cX1_leastValue 55 = .ok (.ifCond .ne 8, 3) := by decide +kernel
theorem dX1_leastValue_58 : decode cX1_leastValue 58 = .ok (.iload 4, 2) := by decide +kernel
theorem dX1_leastValue_60 : decode cX1_leastValue 60 = .ok (.goto 5, 3) := by decide +kernel
theorem dX1_leastValue_63 : decode cX1_leastValue 63 = .ok (.iload 9, 2) := by decide +kernel
theorem dX1_leastValue_65 : decode cX1_leastValue 65 = .ok (.istore 10, 2) := by decide +kernel
theorem dX1_leastValue_67 : decode cX1_leastValue 67 = .ok (.iload_n 3, 1) := by decide +kernel
theorem dX1_leastValue_68 : decode cX1_leastValue 68 = .ok (.ifCond .ne 8, 3) := by decide +kernel
theorem dX1_leastValue_71 : decode cX1_leastValue 71 = .ok (.iload 9, 2) := by decide +kernel
theorem dX1_leastValue_73 : decode cX1_leastValue 73 = .ok (.goto 5, 3) := by decide +kernel
theorem dX1_leastValue_76 : decode cX1_leastValue 76 = .ok (.iload 4, 2) := by decide +kernel
theorem dX1_leastValue_78 : decode cX1_leastValue 78 = .ok (.istore 11, 2) := by decide +kernel
theorem dX1_leastValue_80 : decode cX1_leastValue 80 = .ok (.aload 6, 2) := by decide +kernel
theorem dX1_leastValue_82 : decode cX1_leastValue 82 = .ok (.aload_n 1, 1) := by decide +kernel
theorem dX1_leastValue_83 : decode cX1_leastValue 83 = .ok (.getfield 28, 3) := by decide +kernel
theorem dX1_leastValue_86 : decode cX1_leastValue 86 = .ok (.aload_n 2, 1) := by decide +kernel
theorem dX1_leastValue_87 : decode cX1_leastValue 87 = .ok (.iload 10, 2) := by decide +kernel
theorem dX1_leastValue_89 : decode cX1_leastValue 89 = .ok (.iload 11, 2) := by decide +kernel
theorem dX1_leastValue_91 : decode cX1_leastValue 91 = .ok (.iload 7, 2) := by decide +kernel
theorem dX1_leastValue_93 : decode cX1_leastValue 93 = .ok (.invokevirtual 44, 3) := by decide +kernel
theorem dX1_leastValue_96 : decode cX1_leastValue 96 = .ok (.iload 5, 2) := by decide +kernel
theorem dX1_leastValue_98 : decode cX1_leastValue 98 = .ok (.iconst 1, 1) := by decide +kernel
theorem dX1_leastValue_99 : decode cX1_leastValue 99 = .ok (.if_icmp .le 17, 3) := by decide +kernel
theorem dX1_leastValue_102 : decode cX1_leastValue 102 = .ok (.aload 6, 2) := by decide +kernel
theorem dX1_leastValue_104 : decode cX1_leastValue 104 = .ok (.aload_n 1, 1) := by decide +kernel
theorem dX1_leastValue_105 : decode cX1_leastValue 105 = .ok (.getfield 48, 3) := by decide +kernel
theorem dX1_leastValue_108 : decode cX1_leastValue 108 = .ok (.iconst 1, 1) := by decide +kernel
theorem dX1_leastValue_109 : decode cX1_leastValue 109 = .ok (.iadd, 1) := by decide +kernel
theorem dX1_leastValue_110 : decode cX1_leastValue 110 = .ok (.invokevirtual 51, 3) := by decide +kernel
theorem dX1_leastValue_113 : decode cX1_leastValue 113 = .ok (.ifCond .eq 7, 3) := by decide +kernel
theorem dX1_leastValue_116 : decode cX1_leastValue 116 = .ok (.iconst 1, 1) := by decide +kernel
theorem dX1_leastValue_117 : decode cX1_leastValue 117 = .ok (.goto 4, 3) := by decide +kernel
theorem dX1_leastValue_120 : decode cX1_leastValue 120 = .ok (.iconst 0, 1) := by decide +kernel
theorem dX1_leastValue_121 : decode cX1_leastValue 121 = .ok (.istore 12, 2) := by decide +kernel
theorem dX1_leastValue_123 : decode cX1_leastValue 123 = .ok (.aload_n 1, 1) := by decide +kernel
theorem dX1_leastValue_124 : decode cX1_leastValue 124 = .ok (.aload 6, 2) := by decide +kernel
theorem dX1_leastValue_126 : decode cX1_leastValue 126 = .ok (.getfield 54, 3) := by decide +kernel
theorem dX1_leastValue_129 : decode cX1_leastValue 129 = .ok (.invokevirtual 58, 3) := by decide +kernel
theorem dX1_leastValue_132 : decode cX1_leastValue 132 = .ok (.istore 13, 2) := by decide +kernel
theorem dX1_leastValue_134 : decode cX1_leastValue 134 = .ok (.iload_n 3, 1) := by decide +kernel
theorem dX1_leastValue_135 : decode cX1_leastValue 135 = .ok (.ifCond .ne 8, 3) := by decide +kernel
theorem dX1_leastValue_138 : decode cX1_leastValue 138 = .ok (.iload 13, 2) := by decide +kernel
theorem dX1_leastValue_140 : decode cX1_leastValue 140 = .ok (.goto 6, 3) := by decide +kernel
theorem dX1_leastValue_143 : decode cX1_leastValue 143 = .ok (.iload 13, 2) := by decide +kernel
theorem dX1_leastValue_145 : decode cX1_leastValue 145 = .ok (.ineg, 1) := by decide +kernel
theorem dX1_leastValue_146 : decode cX1_leastValue 146 = .ok (.istore 14, 2) := by decide +kernel
theorem dX1_leastValue_148 : decode cX1_leastValue 148 = .ok (.iload 8, 2) := by decide +kernel
theorem dX1_leastValue_150 : decode cX1_leastValue 150 = .ok (.iload 12, 2) := by decide +kernel
theorem dX1_leastValue_152 : decode cX1_leastValue 152 = .ok (.ifCond .eq 8, 3) := by decide +kernel
theorem dX1_leastValue_155 : decode cX1_leastValue 155 = .ok (.iload 14, 2) := by decide +kernel
theorem dX1_leastValue_157 : decode cX1_leastValue 157 = .ok (.goto 18, 3) := by decide +kernel
theorem dX1_leastValue_160 : decode cX1_leastValue 160 = .ok (.aload_n 0, 1) := by decide +kernel
theorem dX1_leastValue_161 : decode cX1_leastValue 161 = .ok (.aload_n 1, 1) := by decide +kernel
theorem dX1_leastValue_162 : decode cX1_leastValue 162 = .ok (.aload 6, 2) := by decide +kernel
theorem dX1_leastValue_164 : decode cX1_leastValue 164 = .ok (.getfield 54, 3) := by decide +kernel
theorem dX1_leastValue_167 : decode cX1_leastValue 167 = .ok (.iload_n 3, 1) := by decide +kernel
theorem dX1_leastValue_168 : decode cX1_leastValue 168 = .ok (.iload 5, 2) := by decide +kernel
theorem dX1_leastValue_170 : decode cX1_leastValue 170 = .ok (.iconst 1, 1) := by decide +kernel
theorem dX1_leastValue_171 : decode cX1_leastValue 171 = .ok (.isub, 1) := by decide +kernel
theorem dX1_leastValue_172 : decode cX1_leastValue 172 = .ok (.invokevirtual 61, 3) := by decide +kernel
theorem dX1_leastValue_175 : decode cX1_leastValue 175 = .ok (.invokestatic 65, 3) := by decide +kernel
theorem dX1_leastValue_178 : decode cX1_leastValue 178 = .ok (.istore 8, 2) := by decide +kernel
theorem dX1_leastValue_180 : decode cX1_leastValue 180 = .ok (.iinc 9 1, 3) := by decide +kernel
theorem dX1_leastValue_183 : decode cX1_leastValue 183 = .ok (.goto (-150), 3) := by decide +kernel
theorem dX1_leastValue_186 : decode cX1_leastValue 186 = .ok (.iload 8, 2) := by decide +kernel
theorem dX1_leastValue_188 : decode cX1_leastValue 188 = .ok (.ireturn, 1) := by decide +kernel
theorem dX1_greatestValue_0 : decode cX1_greatestValue 0 = .ok (.ldc 71, 2) := by decide +kernel
theorem dX1_greatestValue_2 : decode cX1_greatestValue 2 = .ok (.istore 5, 2) := by decide +kernel
theorem dX1_greatestValue_4 : decode cX1_greatestValue 4 = .ok (.iconst (-1), 1) := by decide +kernel
theorem dX1_greatestValue_5 : decode cX1_greatestValue 5 = .ok (.istore 6, 2) := by decide +kernel
theorem dX1_greatestValue_7 : decode cX1_greatestValue 7 = .ok (.iload 6, 2) := by decide +kernel
theorem dX1_greatestValue_9 : decode cX1_greatestValue 9 = .ok (.aload_n 1, 1) := by decide +kernel
theorem dX1_greatestValue_10 : decode cX1_greatestValue 10 = .ok (.getfield 28, 3) := by decide +kernel
theorem dX1_greatestValue_13 : decode cX1_greatestValue 13 = .ok (.getfield 32, 3) := by decide +kernel
theorem dX1_greatestValue_16 : decode cX1_greatestValue 16 = .ok (.if_icmp .ge 36, 3) := by decide +kernel
theorem dX1_greatestValue_19 : decode cX1_greatestValue 19 = .ok (.aload_n 2, 1) := by decide +kernel
theorem dX1_greatestValue_20 : decode cX1_greatestValue 20 = .ok (.iload 6, 2) := by decide +kernel
theorem dX1_greatestValue_22 : decode cX1_greatestValue 22 = .ok (.invokevirtual 38, 3) := by decide +kernel
theorem dX1_greatestValue_25 : decode cX1_greatestValue 25 = .ok (.ifCond .eq 21, 3) := by decide +kernel
theorem dX1_greatestValue_28 : decode cX1_greatestValue 28 = .ok (.iload 5, 2) := by decide +kernel
theorem dX1_greatestValue_30 : decode cX1_greatestValue 30 = .ok (.aload_n 0, 1) := by decide +kernel
theorem dX1_greatestValue_31 : decode cX1_greatestValue 31 = .ok (.aload_n 1, 1) := by decide +kernel
theorem dX1_greatestValue_32 : decode cX1_greatestValue 32 = .ok (.aload_n 2, 1) := by decide +kernel
theorem dX1_greatestValue_33 : decode cX1_greatestValue 33 = .ok (.iload_n 3, 1) := by decide +kernel
theorem dX1_greatestValue_34 : decode cX1_greatestValue 34 = .ok (.iload 6, 2) := by decide +kernel
theorem dX1_greatestValue_36 : decode cX1_greatestValue 36 = .ok (.iload 4, 2) := by decide +kernel
theorem dX1_greatestValue_38 : decode cX1_greatestValue 38 = .ok (.invokevirtual 72, 3) := by decide +kernel
theorem dX1_greatestValue_41 : decode cX1_greatestValue 41 = .ok (.invokestatic 76, 3) := by decide +kernel
theorem dX1_greatestValue_44 : decode cX1_greatestValue 44 = .ok (.istore 5, 2) := by decide +kernel
theorem dX1_greatestValue_46 : decode cX1_greatestValue 46 = .ok (.iinc 6 1, 3) := by decide +kernel
theorem dX1_greatestValue_49 : decode cX1_greatestValue 49 = .ok (.goto (-42), 3) := by decide +kernel
theorem dX1_greatestValue_52 : decode cX1_greatestValue 52 = .ok (.iload 5, 2) := by decide +kernel
theorem dX1_greatestValue_54 : decode cX1_greatestValue 54 = .ok (.ireturn, 1) := by decide +kernel
theorem dX2_init_0 : decode cX2_init 0 = .ok (.aload_n 0, 1) := by decide +kernel
theorem dX2_init_1 : decode cX2_init 1 = .ok (.invokespecial 3, 3) := by decide +kernel
theorem dX2_init_4 : decode cX2_init 4 = .ok (.aload_n 0, 1) := by decide +kernel
theorem dX2_init_5 : decode cX2_init 5 = .ok (.new 9, 3) := by decide +kernel
theorem dX2_init_8 : decode cX2_init 8 = .ok (.dup, 1) := by decide +kernel
theorem dX2_init_9 : decode cX2_init 9 = .ok (.iconst 5, 1) := by decide +kernel
theorem dX2_init_10 : decode cX2_init 10 = .ok (.iconst 5, 1) := by decide +kernel
theorem dX2_init_11 : decode cX2_init 11 = .ok (.invokespecial 11, 3) := by decide +kernel
theorem dX2_init_14 : decode cX2_init 14 = .ok (.putfield 14, 3) := by decide +kernel
theorem dX2_init_17 : decode cX2_init 17 = .ok (.aload_n 0, 1) := by decide +kernel
theorem dX2_init_18 : decode cX2_init 18 = .ok (.iconst 0, 1) := by decide +kernel
theorem dX2_init_19 : decode cX2_init 19 = .ok (.putfield 20, 3) := by decide +kernel
theorem dX2_init_22 : decode cX2_init 22 = .ok (.aload_n 0, 1) := by decide +kernel
theorem dX2_init_23 : decode cX2_init 23 = .ok (.bipush 60, 2) := by decide +kernel
theorem dX2_init_25 : decode cX2_init 25 = .ok (.anewarray 24, 3) := by decide +kernel
theorem dX2_init_28 : decode cX2_init 28 = .ok (.putfield 26, 3) := by decide +kernel
theorem dX2_init_31 : decode cX2_init 31 = .ok (.aload_n 0, 1) := by decide +kernel
theorem dX2_init_32 : decode cX2_init 32 = .ok (.new 30, 3) := by decide +kernel
theorem dX2_init_35 : decode cX2_init 35 = .ok (.dup, 1) := by decide +kernel
theorem dX2_init_36 : decode cX2_init 36 = .ok (.invokespecial 32, 3) := by decide +kernel
theorem dX2_init_39 : decode cX2_init 39 = .ok (.putfield 33, 3) := by decide +kernel
theorem dX2_init_42 : decode cX2_init 42 = .ok (.iconst 0, 1) := by decide +kernel
theorem dX2_init_43 : decode cX2_init 43 = .ok (.istore_n 1, 1) := by decide +kernel
theorem dX2_init_44 : decode cX2_init 44 = .ok (.iload_n 1, 1) := by decide +kernel
theorem dX2_init_45 : decode cX2_init 45 = .ok (.aload_n 0, 1) := by decide +kernel
theorem dX2_init_46 : decode cX2_init 46 = .ok (.getfield 26, 3) := by decide +kernel
theorem dX2_init_49 : decode cX2_init 49 = .ok (.arraylength, 1) := by decide +kernel
theorem dX2_init_50 : decode cX2_init 50 = .ok (.if_icmp .ge 22, 3) := by decide +kernel
theorem dX2_init_53 : decode cX2_init 53 = .ok (.aload_n 0, 1) := by decide +kernel
theorem dX2_init_54 : decode cX2_init 54 = .ok (.getfield 26, 3) := by decide +kernel
theorem dX2_init_57 : decode cX2_init 57 = .ok (.iload_n 1, 1) := by decide +kernel
theorem dX2_init_58 : decode cX2_init 58 = .ok (.new 24, 3) := by decide +kernel
theorem dX2_init_61 : decode cX2_init 61 = .ok (.dup, 1) := by decide +kernel
theorem dX2_init_62 : decode cX2_init 62 = .ok (.invokespecial 37, 3) := by decide +kernel
theorem dX2_init_65 : decode cX2_init 65 = .ok (.aastore, 1) := by decide +kernel
theorem dX2_init_66 : decode cX2_init 66 = .ok (.iinc 1 1, 3) := by decide +kernel
theorem dX2_init_69 : decode cX2_init 69 = .ok (.goto (-25), 3) := by decide +kernel
theorem dX2_init_72 : decode cX2_init 72 = .ok (.aload_n 0, 1) := by decide +kernel
theorem dX2_init_73 : decode cX2_init 73 = .ok (.getfield 33, 3) := by decide +kernel
theorem dX2_init_76 : decode cX2_init 76 = .ok (.aload_n 0, 1) := by decide +kernel
theorem dX2_init_77 : decode cX2_init 77 = .ok (.getfield 14, 3) := by decide +kernel
theorem dX2_init_80 : decode cX2_init 80 = .ok (.getfield 38, 3) := by decide +kernel
theorem dX2_init_83 : decode cX2_init 83 = .ok (.invokevirtual 42, 3) := by decide +kernel
theorem dX2_init_86 : decode cX2_init 86 = .ok (.return_, 1) := by decide +kernel
theorem dX2_begin_0 : decode cX2_begin 0 = .ok (.aload_n 0, 1) := by decide +kernel
theorem dX2_begin_1 : decode cX2_begin 1 = .ok (.getfield 14, 3) := by decide +kernel
theorem dX2_begin_4 : decode cX2_begin 4 = .ok (.getfield 46, 3) := by decide +kernel
theorem dX2_begin_7 : decode cX2_begin 7 = .ok (.iload_n 1, 1) := by decide +kernel
theorem dX2_begin_8 : decode cX2_begin 8 = .ok (.if_icmp .ne 14, 3) := by decide +kernel
theorem dX2_begin_11 : decode cX2_begin 11 = .ok (.aload_n 0, 1) := by decide +kernel
theorem dX2_begin_12 : decode cX2_begin 12 = .ok (.getfield 14, 3) := by decide +kernel
theorem dX2_begin_15 : decode cX2_begin 15 = .ok (.getfield 49, 3) := by decide +kernel
theorem dX2_begin_18 : decode cX2_begin 18 = .ok (.iload_n 2, 1) := by decide +kernel
theorem dX2_begin_19 : decode cX2_begin 19 = .ok (.if_icmp .eq 16, 3) := by decide +kernel
theorem dX2_begin_22 : decode cX2_begin 22 = .ok (.aload_n 0, 1) := by decide +kernel
theorem dX2_begin_23 : decode cX2_begin 23 = .ok (.new 9, 3) := by decide +kernel
theorem dX2_begin_26 : decode cX2_begin 26 = .ok (.dup, 1) := by decide +kernel
theorem dX2_begin_27 : decode cX2_begin 27 = .ok (.iload_n 1, 1) := by decide +kernel
theorem dX2_begin_28 : decode cX2_begin 28 = .ok (.iload_n 2, 1) := by decide +kernel
theorem dX2_begin_29 : decode cX2_begin 29 = .ok (.invokespecial 11, 3) := by decide +kernel
theorem dX2_begin_32 : decode cX2_begin 32 = .ok (.putfield 14, 3) := by decide +kernel
theorem dX2_begin_35 : decode cX2_begin 35 = .ok (.aload_n 0, 1) := by decide +kernel
theorem dX2_begin_36 : decode cX2_begin 36 = .ok (.getfield 33, 3) := by decide +kernel
theorem dX2_begin_39 : decode cX2_begin 39 = .ok (.aload_n 0, 1) := by decide +kernel
theorem dX2_begin_40 : decode cX2_begin 40 = .ok (.getfield 14, 3) := by decide +kernel
theorem dX2_begin_43 : decode cX2_begin 43 = .ok (.getfield 38, 3) := by decide +kernel
theorem dX2_begin_46 : decode cX2_begin 46 = .ok (.invokevirtual 42, 3) := by decide +kernel
theorem dX2_begin_49 : decode cX2_begin 49 = .ok (.iconst 0, 1) := by decide +kernel
theorem dX2_begin_50 : decode cX2_begin 50 = .ok (.istore 4, 2) := by decide +kernel
theorem dX2_begin_52 : decode cX2_begin 52 = .ok (.iload 4, 2) := by decide +kernel
theorem dX2_begin_54 : decode cX2_begin 54 = .ok (.iload_n 3, 1) := by decide +kernel
theorem dX2_begin_55 : decode cX2_begin 55 = .ok (.if_icmp .ge 24, 3) := by decide +kernel
theorem dX2_begin_58 : decode cX2_begin 58 = .ok (.aload_n 0, 1) := by decide +kernel
theorem dX2_begin_59 : decode cX2_begin 59 = .ok (.getfield 33, 3) := by decide +kernel
theorem dX2_begin_62 : decode cX2_begin 62 = .ok (.aload_n 0, 1) := by decide +kernel
theorem dX2_begin_63 : decode cX2_begin 63 = .ok (.iload 4, 2) := by decide +kernel
theorem dX2_begin_65 : decode cX2_begin 65 = .ok (.invokevirtual 52, 3) := by decide +kernel
theorem dX2_begin_68 : decode cX2_begin 68 = .ok (.iconst 2, 1) := by decide +kernel
theorem dX2_begin_69 : decode cX2_begin 69 = .ok (.invokevirtual 56, 3) := by decide +kernel
theorem dX2_begin_72 : decode cX2_begin 72 = .ok (.pop2, 1) := by decide +kernel
theorem dX2_begin_73 : decode cX2_begin 73 = .ok (.iinc 4 1, 3) := by decide +kernel
theorem dX2_begin_76 : decode cX2_begin 76 = .ok (.goto (-24), 3) := by decide +kernel
theorem dX2_begin_79 : decode cX2_begin 79 = .ok (.aload_n 0, 1) := by decide +kernel
theorem dX2_begin_80 : decode cX2_begin 80 = .ok (.iconst 0, 1) := by decide +kernel
theorem dX2_begin_81 : decode cX2_begin 81 = .ok (.putfield 60, 3) := by decide +kernel
theorem dX2_begin_84 : decode cX2_begin 84 = .ok (.aload_n 0, 1) := by decide +kernel
theorem dX2_begin_85 : decode cX2_begin 85 = .ok (.iconst 0, 1) := by decide +kernel
theorem dX2_begin_86 : decode cX2_begin 86 = .ok (.putfield 63, 3) := by decide +kernel
theorem dX2_begin_89 : decode cX2_begin 89 = .ok (.aload_n 0, 1) := by decide +kernel
theorem dX2_begin_90 : decode cX2_begin 90 = .ok (.iconst 0, 1) := by decide +kernel
theorem dX2_begin_91 : decode cX2_begin 91 = .ok (.putfield 66, 3) := by decide +kernel
theorem dX2_begin_94 : decode cX2_begin 94 = .ok (.return_, 1) := by decide +kernel
theorem dX2_handicapCell_0 : decode cX2_handicapCell 0 = .ok (.aload_n 0, 1) := by decide +kernel
theorem dX2_handicapCell_1 : decode cX2_handicapCell 1 = .ok (.getfield 14, 3) := by decide +kernel
theorem dX2_handicapCell_4 : decode cX2_handicapCell 4 = .ok (.getfield 46, 3) := by decide +kernel
theorem dX2_handicapCell_7 : decode cX2_handicapCell 7 = .ok (.iconst 2, 1) := by decide +kernel
theorem dX2_handicapCell_8 : decode cX2_handicapCell 8 = .ok (.isub, 1) := by decide +kernel
theorem dX2_handicapCell_9 : decode cX2_handicapCell 9 = .ok (.istore_n 2, 1) := by decide +kernel
theorem dX2_handicapCell_10 : decode cX2_handicapCell 10 = .ok (.aload_n 0, 1) := by decide +kernel
theorem dX2_handicapCell_11 : decode cX2_handicapCell 11 = .ok (.getfield 14, 3) := by decide +kernel
theorem dX2_handicapCell_14 : decode cX2_handicapCell 14 = .ok (.getfield 49, 3) := by decide +kernel
theorem dX2_handicapCell_17 : decode cX2_handicapCell 17 = .ok (.iconst 2, 1) := by decide +kernel
theorem dX2_handicapCell_18 : decode cX2_handicapCell 18 = .ok (.isub, 1) := by decide +kernel
theorem dX2_handicapCell_19 : decode cX2_handicapCell 19 = .ok (.istore_n 3, 1) := by decide +kernel
theorem dX2_handicapCell_20 : decode cX2_handicapCell 20 = .ok (.iload_n 1, 1) := by decide +kernel
theorem dX2_handicapCell_21 : decode cX2_handicapCell 21 = .ok (.tableswitch 57 0 2 #[27, 37, 47], 27) := by decide +kernel
theorem dX2_handicapCell_48 : decode cX2_handicapCell 48 = .ok (.aload_n 0, 1) := by decide +kernel
theorem dX2_handicapCell_49 : decode cX2_handicapCell 49 = .ok (.getfield 14, 3) := by decide +kernel
theorem dX2_handicapCell_52 : decode cX2_handicapCell 52 = .ok (.iconst 1, 1) := by decide +kernel
theorem dX2_handicapCell_53 : decode cX2_handicapCell 53 = .ok (.iconst 1, 1) := by decide +kernel
theorem dX2_handicapCell_54 : decode cX2_handicapCell 54 = .ok (.invokevirtual 69, 3) := by decide +kernel
theorem dX2_handicapCell_57 : decode cX2_handicapCell 57 = .ok (.ireturn, 1) := by decide +kernel
theorem dX2_handicapCell_58 : decode cX2_handicapCell 58 = .ok (.aload_n 0, 1) := by decide +kernel
theorem dX2_handicapCell_59 : decode cX2_handicapCell 59 = .ok (.getfield 14, 3) := by decide +kernel
theorem dX2_handicapCell_62 : decode cX2_handicapCell 62 = .ok (.iload_n 2, 1) := by decide +kernel
theorem dX2_handicapCell_63 : decode cX2_handicapCell 63 = .ok (.iload_n 3, 1) := by decide +kernel
theorem dX2_handicapCell_64 : decode cX2_handicapCell 64 = .ok (.invokevirtual 69, 3) := by decide +kernel
theorem dX2_handicapCell_67 : decode cX2_handicapCell 67 = .ok (.ireturn, 1) := by decide +kernel
theorem dX2_handicapCell_68 : decode cX2_handicapCell 68 = .ok (.aload_n 0, 1) := by decide +kernel
theorem dX2_handicapCell_69 : decode cX2_handicapCell 69 = .ok (.getfield 14, 3) := by decide +kernel
theorem dX2_handicapCell_72 : decode cX2_handicapCell 72 = .ok (.iload_n 2, 1) := by decide +kernel
theorem dX2_handicapCell_73 : decode cX2_handicapCell 73 = .ok (.iconst 1, 1) := by decide +kernel
theorem dX2_handicapCell_74 : decode cX2_handicapCell 74 = .ok (.invokevirtual 69, 3) := by decide +kernel
theorem dX2_handicapCell_77 : decode cX2_handicapCell 77 = .ok (.ireturn, 1) := by decide +kernel
theorem dX2_handicapCell_78 : decode cX2_handicapCell 78 = .ok (.aload_n 0, 1) := by decide +kernel
theorem dX2_handicapCell_79 : decode cX2_handicapCell 79 = .ok (.getfield 14, 3) := by decide +kernel
theorem dX2_handicapCell_82 : decode cX2_handicapCell 82 = .ok (.iconst 1, 1) := by decide +kernel
theorem dX2_handicapCell_83 : decode cX2_handicapCell 83 = .ok (.iload_n 3, 1) := by decide +kernel
theorem dX2_handicapCell_84 : decode cX2_handicapCell 84 = .ok (.invokevirtual 69, 3) := by decide +kernel
theorem dX2_handicapCell_87 : decode cX2_handicapCell 87 = .ok (.ireturn, 1) := by decide +kernel
theorem dX2_copyFrom_0 : decode cX2_copyFrom 0 = .ok (.aload_n 0, 1) := by decide +kernel
theorem dX2_copyFrom_1 : decode cX2_copyFrom 1 = .ok (.aload_n 1, 1) := by decide +kernel
theorem dX2_copyFrom_2 : decode cX2_copyFrom 2 = .ok (.getfield 14, 3) := by decide +kernel
theorem dX2_copyFrom_5 : decode cX2_copyFrom 5 = .ok (.putfield 14, 3) := by decide +kernel
theorem dX2_copyFrom_8 : decode cX2_copyFrom 8 = .ok (.aload_n 0, 1) := by decide +kernel
theorem dX2_copyFrom_9 : decode cX2_copyFrom 9 = .ok (.aload_n 1, 1) := by decide +kernel
theorem dX2_copyFrom_10 : decode cX2_copyFrom 10 = .ok (.getfield 20, 3) := by decide +kernel
theorem dX2_copyFrom_13 : decode cX2_copyFrom 13 = .ok (.putfield 20, 3) := by decide +kernel
theorem dX2_copyFrom_16 : decode cX2_copyFrom 16 = .ok (.aload_n 0, 1) := by decide +kernel
theorem dX2_copyFrom_17 : decode cX2_copyFrom 17 = .ok (.aload_n 1, 1) := by decide +kernel
theorem dX2_copyFrom_18 : decode cX2_copyFrom 18 = .ok (.getfield 63, 3) := by decide +kernel
theorem dX2_copyFrom_21 : decode cX2_copyFrom 21 = .ok (.putfield 63, 3) := by decide +kernel
theorem dX2_copyFrom_24 : decode cX2_copyFrom 24 = .ok (.aload_n 0, 1) := by decide +kernel
theorem dX2_copyFrom_25 : decode cX2_copyFrom 25 = .ok (.aload_n 1, 1) := by decide +kernel
theorem dX2_copyFrom_26 : decode cX2_copyFrom 26 = .ok (.getfield 66, 3) := by decide +kernel
theorem dX2_copyFrom_29 : decode cX2_copyFrom 29 = .ok (.putfield 66, 3) := by decide +kernel
theorem dX2_copyFrom_32 : decode cX2_copyFrom 32 = .ok (.aload_n 0, 1) := by decide +kernel
theorem dX2_copyFrom_33 : decode cX2_copyFrom 33 = .ok (.getfield 33, 3) := by decide +kernel
theorem dX2_copyFrom_36 : decode cX2_copyFrom 36 = .ok (.aload_n 1, 1) := by decide +kernel
theorem dX2_copyFrom_37 : decode cX2_copyFrom 37 = .ok (.getfield 33, 3) := by decide +kernel
theorem dX2_copyFrom_40 : decode cX2_copyFrom 40 = .ok (.invokevirtual 73, 3) := by decide +kernel
theorem dX2_copyFrom_43 : decode cX2_copyFrom 43 = .ok (.aload_n 0, 1) := by decide +kernel
theorem dX2_copyFrom_44 : decode cX2_copyFrom 44 = .ok (.aload_n 1, 1) := by decide +kernel
theorem dX2_copyFrom_45 : decode cX2_copyFrom 45 = .ok (.getfield 60, 3) := by decide +kernel
theorem dX2_copyFrom_48 : decode cX2_copyFrom 48 = .ok (.putfield 60, 3) := by decide +kernel
theorem dX2_copyFrom_51 : decode cX2_copyFrom 51 = .ok (.iconst 0, 1) := by decide +kernel
theorem dX2_copyFrom_52 : decode cX2_copyFrom 52 = .ok (.istore_n 2, 1) := by decide +kernel
theorem dX2_copyFrom_53 : decode cX2_copyFrom 53 = .ok (.iload_n 2, 1) := by decide +kernel
theorem dX2_copyFrom_54 : decode cX2_copyFrom 54 = .ok (.aload_n 0, 1) := by decide +kernel
theorem dX2_copyFrom_55 : decode cX2_copyFrom 55 = .ok (.getfield 60, 3) := by decide +kernel
theorem dX2_copyFrom_58 : decode cX2_copyFrom 58 = .ok (.if_icmp .ge 30, 3) := by decide +kernel
theorem dX2_copyFrom_61 : decode cX2_copyFrom 61 = .ok (.iload_n 2, 1) := by decide +kernel
theorem dX2_copyFrom_62 : decode cX2_copyFrom 62 = .ok (.bipush 60, 2) := by decide +kernel
theorem dX2_copyFrom_64 : decode cX2_copyFrom 64 = .ok (.if_icmp .ge 24, 3) := by decide +kernel
theorem dX2_copyFrom_67 : decode cX2_copyFrom 67 = .ok (.aload_n 0, 1) := by decide +kernel
theorem dX2_copyFrom_68 : decode cX2_copyFrom 68 = .ok (.getfield 26, 3) := by decide +kernel
theorem dX2_copyFrom_71 : decode cX2_copyFrom 71 = .ok (.iload_n 2, 1) := by decide +kernel
theorem dX2_copyFrom_72 : decode cX2_copyFrom 72 = .ok (.aaload, 1) := by decide +kernel
theorem dX2_copyFrom_73 : decode cX2_copyFrom 73 = .ok (.aload_n 1, 1) := by decide +kernel
theorem dX2_copyFrom_74 : decode cX2_copyFrom 74 = .ok (.getfield 26, 3) := by decide +kernel
theorem dX2_copyFrom_77 : decode cX2_copyFrom 77 = .ok (.iload_n 2, 1) := by decide +kernel
theorem dX2_copyFrom_78 : decode cX2_copyFrom 78 = .ok (.aaload, 1) := by decide +kernel
theorem dX2_copyFrom_79 : decode cX2_copyFrom 79 = .ok (.invokevirtual 77, 3) := by decide +kernel
theorem dX2_copyFrom_82 : decode cX2_copyFrom 82 = .ok (.iinc 2 1, 3) := by decide +kernel
theorem dX2_copyFrom_85 : decode cX2_copyFrom 85 = .ok (.goto (-32), 3) := by decide +kernel
theorem dX2_copyFrom_88 : decode cX2_copyFrom 88 = .ok (.return_, 1) := by decide +kernel
theorem dX2_bonus_0 : decode cX2_bonus 0 = .ok (.iload_n 1, 1) := by decide +kernel
theorem dX2_bonus_1 : decode cX2_bonus 1 = .ok (.ifCond .ne 10, 3) := by decide +kernel
theorem dX2_bonus_4 : decode cX2_bonus 4 = .ok (.aload_n 0, 1) := by decide +kernel
theorem dX2_bonus_5 : decode cX2_bonus 5 = .ok (.getfield 63, 3) := by decide +kernel
theorem dX2_bonus_8 : decode cX2_bonus 8 = .ok (.goto 7, 3) := by decide +kernel
theorem dX2_bonus_11 : decode cX2_bonus 11 = .ok (.aload_n 0, 1) := by decide +kernel
theorem dX2_bonus_12 : decode cX2_bonus 12 = .ok (.getfield 66, 3) := by decide +kernel
theorem dX2_bonus_15 : decode cX2_bonus 15 = .ok (.ireturn, 1) := by decide +kernel
theorem dX2_changeBonus_0 : decode cX2_changeBonus 0 = .ok (.iload_n 1, 1) := by decide +kernel
theorem dX2_changeBonus_1 : decode cX2_changeBonus 1 = .ok (.ifCond .ne 11, 3) := by decide +kernel
theorem dX2_changeBonus_4 : decode cX2_changeBonus 4 = .ok (.aload_n 0, 1) := by decide +kernel
theorem dX2_changeBonus_5 : decode cX2_changeBonus 5 = .ok (.iload_n 2, 1) := by decide +kernel
theorem dX2_changeBonus_6 : decode cX2_changeBonus 6 = .ok (.putfield 63, 3) := by decide +kernel
theorem dX2_changeBonus_9 : decode cX2_changeBonus 9 = .ok (.goto 8, 3) := by decide +kernel
theorem dX2_changeBonus_12 : decode cX2_changeBonus 12 = .ok (.aload_n 0, 1) := by decide +kernel
theorem dX2_changeBonus_13 : decode cX2_changeBonus 13 = .ok (.iload_n 2, 1) := by decide +kernel
theorem dX2_changeBonus_14 : decode cX2_changeBonus 14 = .ok (.putfield 66, 3) := by decide +kernel
theorem dX2_changeBonus_17 : decode cX2_changeBonus 17 = .ok (.return_, 1) := by decide +kernel
theorem dX2_latest_0 : decode cX2_latest 0 = .ok (.aload_n 0, 1) := by decide +kernel
theorem dX2_latest_1 : decode cX2_latest 1 = .ok (.getfield 60, 3) := by decide +kernel
theorem dX2_latest_4 : decode cX2_latest 4 = .ok (.ifCond .le 29, 3) := by decide +kernel
theorem dX2_latest_7 : decode cX2_latest 7 = .ok (.aload_n 0, 1) := by decide +kernel
theorem dX2_latest_8 : decode cX2_latest 8 = .ok (.getfield 60, 3) := by decide +kernel
theorem dX2_latest_11 : decode cX2_latest 11 = .ok (.bipush 60, 2) := by decide +kernel
theorem dX2_latest_13 : decode cX2_latest 13 = .ok (.if_icmp .gt 20, 3) := by decide +kernel
theorem dX2_latest_16 : decode cX2_latest 16 = .ok (.aload_n 0, 1) := by decide +kernel
theorem dX2_latest_17 : decode cX2_latest 17 = .ok (.getfield 26, 3) := by decide +kernel
theorem dX2_latest_20 : decode cX2_latest 20 = .ok (.aload_n 0, 1) := by decide +kernel
theorem dX2_latest_21 : decode cX2_latest 21 = .ok (.getfield 60, 3) := by decide +kernel
theorem dX2_latest_24 : decode cX2_latest 24 = .ok (.iconst 1, 1) := by decide +kernel
theorem dX2_latest_25 : decode cX2_latest 25 = .ok (.isub, 1) := by decide +kernel
theorem dX2_latest_26 : decode cX2_latest 26 = .ok (.aaload, 1) := by decide +kernel
theorem dX2_latest_27 : decode cX2_latest 27 = .ok (.getfield 80, 3) := by decide +kernel
theorem dX2_latest_30 : decode cX2_latest 30 = .ok (.goto 7, 3) := by decide +kernel
theorem dX2_latest_33 : decode cX2_latest 33 = .ok (.aload_n 0, 1) := by decide +kernel
theorem dX2_latest_34 : decode cX2_latest 34 = .ok (.getfield 33, 3) := by decide +kernel
theorem dX2_latest_37 : decode cX2_latest 37 = .ok (.areturn, 1) := by decide +kernel
theorem dX2_hasEnded_0 : decode cX2_hasEnded 0 = .ok (.aload_n 0, 1) := by decide +kernel
theorem dX2_hasEnded_1 : decode cX2_hasEnded 1 = .ok (.getfield 60, 3) := by decide +kernel
theorem dX2_hasEnded_4 : decode cX2_hasEnded 4 = .ok (.ifCond .le 37, 3) := by decide +kernel
theorem dX2_hasEnded_7 : decode cX2_hasEnded 7 = .ok (.aload_n 0, 1) := by decide +kernel
theorem dX2_hasEnded_8 : decode cX2_hasEnded 8 = .ok (.getfield 60, 3) := by decide +kernel
theorem dX2_hasEnded_11 : decode cX2_hasEnded 11 = .ok (.bipush 60, 2) := by decide +kernel
theorem dX2_hasEnded_13 : decode cX2_hasEnded 13 = .ok (.if_icmp .gt 28, 3) := by decide +kernel
theorem dX2_hasEnded_16 : decode cX2_hasEnded 16 = .ok (.aload_n 0, 1) := by decide +kernel
theorem dX2_hasEnded_17 : decode cX2_hasEnded 17 = .ok (.getfield 26, 3) := by decide +kernel
theorem dX2_hasEnded_20 : decode cX2_hasEnded 20 = .ok (.aload_n 0, 1) := by decide +kernel
theorem dX2_hasEnded_21 : decode cX2_hasEnded 21 = .ok (.getfield 60, 3) := by decide +kernel
theorem dX2_hasEnded_24 : decode cX2_hasEnded 24 = .ok (.iconst 1, 1) := by decide +kernel
theorem dX2_hasEnded_25 : decode cX2_hasEnded 25 = .ok (.isub, 1) := by decide +kernel
theorem dX2_hasEnded_26 : decode cX2_hasEnded 26 = .ok (.aaload, 1) := by decide +kernel
theorem dX2_hasEnded_27 : decode cX2_hasEnded 27 = .ok (.aload_n 0, 1) := by decide +kernel
theorem dX2_hasEnded_28 : decode cX2_hasEnded 28 = .ok (.getfield 60, 3) := by decide +kernel
theorem dX2_hasEnded_31 : decode cX2_hasEnded 31 = .ok (.invokevirtual 83, 3) := by decide +kernel
theorem dX2_hasEnded_34 : decode cX2_hasEnded 34 = .ok (.ifCond .eq 7, 3) := by decide +kernel
theorem dX2_hasEnded_37 : decode cX2_hasEnded 37 = .ok (.iconst 1, 1) := by decide +kernel
theorem dX2_hasEnded_38 : decode cX2_hasEnded 38 = .ok (.goto 4, 3) := by decide +kernel
theorem dX2_hasEnded_41 : decode cX2_hasEnded 41 = .ok (.iconst 0, 1) := by decide +kernel
theorem dX2_hasEnded_42 : decode cX2_hasEnded 42 = .ok (.ireturn, 1) := by decide +kernel
theorem dX2_score_0 : decode cX2_score 0 = .ok (.aload_n 0, 1) := by decide +kernel
theorem dX2_score_1 : decode cX2_score 1 = .ok (.invokevirtual 87, 3) := by decide +kernel
theorem dX2_score_4 : decode cX2_score 4 = .ok (.iload_n 1, 1) := by decide +kernel
theorem dX2_score_5 : decode cX2_score 5 = .ok (.invokevirtual 91, 3) := by decide +kernel
theorem dX2_score_8 : decode cX2_score 8 = .ok (.aload_n 0, 1) := by decide +kernel
theorem dX2_score_9 : decode cX2_score 9 = .ok (.iload_n 1, 1) := by decide +kernel
theorem dX2_score_10 : decode cX2_score 10 = .ok (.invokevirtual 94, 3) := by decide +kernel
theorem dX2_score_13 : decode cX2_score 13 = .ok (.iadd, 1) := by decide +kernel
theorem dX2_score_14 : decode cX2_score 14 = .ok (.ireturn, 1) := by decide +kernel
theorem dX2_lead_0 : decode cX2_lead 0 = .ok (.aload_n 1, 1) := by decide +kernel
theorem dX2_lead_1 : decode cX2_lead 1 = .ok (.invokevirtual 97, 3) := by decide +kernel
theorem dX2_lead_4 : decode cX2_lead 4 = .ok (.aload_n 0, 1) := by decide +kernel
theorem dX2_lead_5 : decode cX2_lead 5 = .ok (.getfield 63, 3) := by decide +kernel
theorem dX2_lead_8 : decode cX2_lead 8 = .ok (.iadd, 1) := by decide +kernel
theorem dX2_lead_9 : decode cX2_lead 9 = .ok (.aload_n 0, 1) := by decide +kernel
theorem dX2_lead_10 : decode cX2_lead 10 = .ok (.getfield 66, 3) := by decide +kernel
theorem dX2_lead_13 : decode cX2_lead 13 = .ok (.isub, 1) := by decide +kernel
theorem dX2_lead_14 : decode cX2_lead 14 = .ok (.ireturn, 1) := by decide +kernel
theorem dX2_stateAfterClash_0 : decode cX2_stateAfterClash 0 = .ok (.aload_n 0, 1) := by decide +kernel
theorem dX2_stateAfterClash_1 : decode cX2_stateAfterClash 1 = .ok (.aload_n 1, 1) := by decide +kernel
theorem dX2_stateAfterClash_2 : decode cX2_stateAfterClash 2 = .ok (.invokevirtual 101, 3) := by decide +kernel
theorem dX2_stateAfterClash_5 : decode cX2_stateAfterClash 5 = .ok (.istore_n 2, 1) := by decide +kernel
theorem dX2_stateAfterClash_6 : decode cX2_stateAfterClash 6 = .ok (.aload_n 0, 1) := by decide +kernel
theorem dX2_stateAfterClash_7 : decode cX2_stateAfterClash 7 = .ok (.getfield 20, 3) := by decide +kernel
theorem dX2_stateAfterClash_10 : decode cX2_stateAfterClash 10 = .ok (.iconst 1, 1) := by decide +kernel
theorem dX2_stateAfterClash_11 : decode cX2_stateAfterClash 11 = .ok (.if_icmp .ne 5, 3) := by decide +kernel
theorem dX2_stateAfterClash_14 : decode cX2_stateAfterClash 14 = .ok (.iconst 0, 1) := by decide +kernel
theorem dX2_stateAfterClash_15 : decode cX2_stateAfterClash 15 = .ok (.ireturn, 1) := by decide +kernel
theorem dX2_stateAfterClash_16 : decode cX2_stateAfterClash 16 = .ok (.aload_n 0, 1) := by decide +kernel
theorem dX2_stateAfterClash_17 : decode cX2_stateAfterClash 17 = .ok (.getfield 20, 3) := by decide +kernel
theorem dX2_stateAfterClash_20 : decode cX2_stateAfterClash 20 = .ok (.ifCond .eq 7, 3) := by decide +kernel
theorem dX2_stateAfterClash_23 : decode cX2_stateAfterClash 23 = .ok (.iload_n 2, 1) := by decide +kernel
theorem dX2_stateAfterClash_24 : decode cX2_stateAfterClash 24 = .ok (.ifCond .ne 5, 3) := by decide +kernel
theorem dX2_stateAfterClash_27 : decode cX2_stateAfterClash 27 = .ok (.iconst 5, 1) := by decide +kernel
theorem dX2_stateAfterClash_28 : decode cX2_stateAfterClash 28 = .ok (.ireturn, 1) := by decide +kernel
theorem dX2_stateAfterClash_29 : decode cX2_stateAfterClash 29 = .ok (.iload_n 2, 1) := by decide +kernel
theorem dX2_stateAfterClash_30 : decode cX2_stateAfterClash 30 = .ok (.ifCond .ge 7, 3) := by decide +kernel
theorem dX2_stateAfterClash_33 : decode cX2_stateAfterClash 33 = .ok (.iconst 1, 1) := by decide +kernel
theorem dX2_stateAfterClash_34 : decode cX2_stateAfterClash 34 = .ok (.goto 4, 3) := by decide +kernel
theorem dX2_stateAfterClash_37 : decode cX2_stateAfterClash 37 = .ok (.iconst 2, 1) := by decide +kernel
theorem dX2_stateAfterClash_38 : decode cX2_stateAfterClash 38 = .ok (.ireturn, 1) := by decide +kernel
theorem dX2_addRound_0 : decode cX2_addRound 0 = .ok (.aload_n 0, 1) := by decide +kernel
theorem dX2_addRound_1 : decode cX2_addRound 1 = .ok (.getfield 60, 3) := by decide +kernel
theorem dX2_addRound_4 : decode cX2_addRound 4 = .ok (.ifCond .lt 12, 3) := by decide +kernel
theorem dX2_addRound_7 : decode cX2_addRound 7 = .ok (.aload_n 0, 1) := by decide +kernel
theorem dX2_addRound_8 : decode cX2_addRound 8 = .ok (.getfield 60, 3) := by decide +kernel
theorem dX2_addRound_11 : decode cX2_addRound 11 = .ok (.bipush 60, 2) := by decide +kernel
theorem dX2_addRound_13 : decode cX2_addRound 13 = .ok (.if_icmp .lt 5, 3) := by decide +kernel
theorem dX2_addRound_16 : decode cX2_addRound 16 = .ok (.iconst 0, 1) := by decide +kernel
theorem dX2_addRound_17 : decode cX2_addRound 17 = .ok (.ireturn, 1) := by decide +kernel
theorem dX2_addRound_18 : decode cX2_addRound 18 = .ok (.aload_n 0, 1) := by decide +kernel
theorem dX2_addRound_19 : decode cX2_addRound 19 = .ok (.getfield 26, 3) := by decide +kernel
theorem dX2_addRound_22 : decode cX2_addRound 22 = .ok (.aload_n 0, 1) := by decide +kernel
theorem dX2_addRound_23 : decode cX2_addRound 23 = .ok (.getfield 60, 3) := by decide +kernel
theorem dX2_addRound_26 : decode cX2_addRound 26 = .ok (.aaload, 1) := by decide +kernel
theorem dX2_addRound_27 : decode cX2_addRound 27 = .ok (.astore_n 3, 1) := by decide +kernel
theorem dX2_addRound_28 : decode cX2_addRound 28 = .ok (.aload_n 0, 1) := by decide +kernel
theorem dX2_addRound_29 : decode cX2_addRound 29 = .ok (.invokevirtual 87, 3) := by decide +kernel
theorem dX2_addRound_32 : decode cX2_addRound 32 = .ok (.astore 4, 2) := by decide +kernel
theorem dX2_addRound_34 : decode cX2_addRound 34 = .ok (.aload_n 3, 1) := by decide +kernel
theorem dX2_addRound_35 : decode cX2_addRound 35 = .ok (.aload_n 0, 1) := by decide +kernel
theorem dX2_addRound_36 : decode cX2_addRound 36 = .ok (.getfield 14, 3) := by decide +kernel
theorem dX2_addRound_39 : decode cX2_addRound 39 = .ok (.aload 4, 2) := by decide +kernel
theorem dX2_addRound_41 : decode cX2_addRound 41 = .ok (.iload_n 1, 1) := by decide +kernel
theorem dX2_addRound_42 : decode cX2_addRound 42 = .ok (.iload_n 2, 1) := by decide +kernel
theorem dX2_addRound_43 : decode cX2_addRound 43 = .ok (.aload_n 0, 1) := by decide +kernel
theorem dX2_addRound_44 : decode cX2_addRound 44 = .ok (.aload 4, 2) := by decide +kernel
theorem dX2_addRound_46 : decode cX2_addRound 46 = .ok (.invokevirtual 104, 3) := by decide +kernel
theorem dX2_addRound_49 : decode cX2_addRound 49 = .ok (.invokevirtual 107, 3) := by decide +kernel
theorem dX2_addRound_52 : decode cX2_addRound 52 = .ok (.aload_n 0, 1) := by decide +kernel
theorem dX2_addRound_53 : decode cX2_addRound 53 = .ok (.dup, 1) := by decide +kernel
theorem dX2_addRound_54 : decode cX2_addRound 54 = .ok (.getfield 60, 3) := by decide +kernel
theorem dX2_addRound_57 : decode cX2_addRound 57 = .ok (.iconst 1, 1) := by decide +kernel
theorem dX2_addRound_58 : decode cX2_addRound 58 = .ok (.iadd, 1) := by decide +kernel
theorem dX2_addRound_59 : decode cX2_addRound 59 = .ok (.putfield 60, 3) := by decide +kernel
theorem dX2_addRound_62 : decode cX2_addRound 62 = .ok (.aload_n 3, 1) := by decide +kernel
theorem dX2_addRound_63 : decode cX2_addRound 63 = .ok (.aload_n 0, 1) := by decide +kernel
theorem dX2_addRound_64 : decode cX2_addRound 64 = .ok (.iconst 0, 1) := by decide +kernel
theorem dX2_addRound_65 : decode cX2_addRound 65 = .ok (.invokevirtual 111, 3) := by decide +kernel
theorem dX2_addRound_68 : decode cX2_addRound 68 = .ok (.putfield 114, 3) := by decide +kernel
theorem dX2_addRound_71 : decode cX2_addRound 71 = .ok (.aload_n 3, 1) := by decide +kernel
theorem dX2_addRound_72 : decode cX2_addRound 72 = .ok (.aload_n 0, 1) := by decide +kernel
theorem dX2_addRound_73 : decode cX2_addRound 73 = .ok (.iconst 1, 1) := by decide +kernel
theorem dX2_addRound_74 : decode cX2_addRound 74 = .ok (.invokevirtual 111, 3) := by decide +kernel
theorem dX2_addRound_77 : decode cX2_addRound 77 = .ok (.putfield 117, 3) := by decide +kernel
theorem dX2_addRound_80 : decode cX2_addRound 80 = .ok (.aload_n 3, 1) := by decide +kernel
theorem dX2_addRound_81 : decode cX2_addRound 81 = .ok (.invokevirtual 120, 3) := by decide +kernel
theorem dX2_addRound_84 : decode cX2_addRound 84 = .ok (.ireturn, 1) := by decide +kernel
theorem dX2_clashes_0 : decode cX2_clashes 0 = .ok (.iconst 0, 1) := by decide +kernel
theorem dX2_clashes_1 : decode cX2_clashes 1 = .ok (.istore_n 1, 1) := by decide +kernel
theorem dX2_clashes_2 : decode cX2_clashes 2 = .ok (.iconst 0, 1) := by decide +kernel
theorem dX2_clashes_3 : decode cX2_clashes 3 = .ok (.istore_n 2, 1) := by decide +kernel
theorem dX2_clashes_4 : decode cX2_clashes 4 = .ok (.iload_n 2, 1) := by decide +kernel
theorem dX2_clashes_5 : decode cX2_clashes 5 = .ok (.aload_n 0, 1) := by decide +kernel
theorem dX2_clashes_6 : decode cX2_clashes 6 = .ok (.getfield 60, 3) := by decide +kernel
theorem dX2_clashes_9 : decode cX2_clashes 9 = .ok (.if_icmp .ge 35, 3) := by decide +kernel
theorem dX2_clashes_12 : decode cX2_clashes 12 = .ok (.iload_n 2, 1) := by decide +kernel
theorem dX2_clashes_13 : decode cX2_clashes 13 = .ok (.bipush 60, 2) := by decide +kernel
theorem dX2_clashes_15 : decode cX2_clashes 15 = .ok (.if_icmp .ge 29, 3) := by decide +kernel
theorem dX2_clashes_18 : decode cX2_clashes 18 = .ok (.iload_n 1, 1) := by decide +kernel
theorem dX2_clashes_19 : decode cX2_clashes 19 = .ok (.aload_n 0, 1) := by decide +kernel
theorem dX2_clashes_20 : decode cX2_clashes 20 = .ok (.getfield 26, 3) := by decide +kernel
theorem dX2_clashes_23 : decode cX2_clashes 23 = .ok (.iload_n 2, 1) := by decide +kernel
theorem dX2_clashes_24 : decode cX2_clashes 24 = .ok (.aaload, 1) := by decide +kernel
theorem dX2_clashes_25 : decode cX2_clashes 25 = .ok (.invokevirtual 123, 3) := by decide +kernel
theorem dX2_clashes_28 : decode cX2_clashes 28 = .ok (.ifCond .eq 7, 3) := by decide +kernel
theorem dX2_clashes_31 : decode cX2_clashes 31 = .ok (.iconst 1, 1) := by decide +kernel
theorem dX2_clashes_32 : decode cX2_clashes 32 = .ok (.goto 4, 3) := by decide +kernel
theorem dX2_clashes_35 : decode cX2_clashes 35 = .ok (.iconst 0, 1) := by decide +kernel
theorem dX2_clashes_36 : decode cX2_clashes 36 = .ok (.iadd, 1) := by decide +kernel
theorem dX2_clashes_37 : decode cX2_clashes 37 = .ok (.istore_n 1, 1) := by decide +kernel
theorem dX2_clashes_38 : decode cX2_clashes 38 = .ok (.iinc 2 1, 3) := by decide +kernel
theorem dX2_clashes_41 : decode cX2_clashes 41 = .ok (.goto (-37), 3) := by decide +kernel
theorem dX2_clashes_44 : decode cX2_clashes 44 = .ok (.iload_n 1, 1) := by decide +kernel
theorem dX2_clashes_45 : decode cX2_clashes 45 = .ok (.ireturn, 1) := by decide +kernel
theorem dX2_waves_0 : decode cX2_waves 0 = .ok (.iconst 0, 1) := by decide +kernel
theorem dX2_waves_1 : decode cX2_waves 1 = .ok (.istore_n 1, 1) := by decide +kernel
theorem dX2_waves_2 : decode cX2_waves 2 = .ok (.iconst 0, 1) := by decide +kernel
theorem dX2_waves_3 : decode cX2_waves 3 = .ok (.istore_n 2, 1) := by decide +kernel
theorem dX2_waves_4 : decode cX2_waves 4 = .ok (.iload_n 2, 1) := by decide +kernel
theorem dX2_waves_5 : decode cX2_waves 5 = .ok (.aload_n 0, 1) := by decide +kernel
theorem dX2_waves_6 : decode cX2_waves 6 = .ok (.getfield 60, 3) := by decide +kernel
theorem dX2_waves_9 : decode cX2_waves 9 = .ok (.if_icmp .ge 27, 3) := by decide +kernel
theorem dX2_waves_12 : decode cX2_waves 12 = .ok (.iload_n 2, 1) := by decide +kernel
theorem dX2_waves_13 : decode cX2_waves 13 = .ok (.bipush 60, 2) := by decide +kernel
theorem dX2_waves_15 : decode cX2_waves 15 = .ok (.if_icmp .ge 21, 3) := by decide +kernel
theorem dX2_waves_18 : decode cX2_waves 18 = .ok (.iload_n 1, 1) := by decide +kernel
theorem dX2_waves_19 : decode cX2_waves 19 = .ok (.aload_n 0, 1) := by decide +kernel
theorem dX2_waves_20 : decode cX2_waves 20 = .ok (.getfield 26, 3) := by decide +kernel
theorem dX2_waves_23 : decode cX2_waves 23 = .ok (.iload_n 2, 1) := by decide +kernel
theorem dX2_waves_24 : decode cX2_waves 24 = .ok (.aaload, 1) := by decide +kernel
theorem dX2_waves_25 : decode cX2_waves 25 = .ok (.invokevirtual 127, 3) := by decide +kernel
theorem dX2_waves_28 : decode cX2_waves 28 = .ok (.iadd, 1) := by decide +kernel
theorem dX2_waves_29 : decode cX2_waves 29 = .ok (.istore_n 1, 1) := by decide +kernel
theorem dX2_waves_30 : decode cX2_waves 30 = .ok (.iinc 2 1, 3) := by decide +kernel
theorem dX2_waves_33 : decode cX2_waves 33 = .ok (.goto (-29), 3) := by decide +kernel
theorem dX2_waves_36 : decode cX2_waves 36 = .ok (.iload_n 1, 1) := by decide +kernel
theorem dX2_waves_37 : decode cX2_waves 37 = .ok (.ireturn, 1) := by decide +kernel
theorem dX2_passes_0 : decode cX2_passes 0 = .ok (.iconst 0, 1) := by decide +kernel
theorem dX2_passes_1 : decode cX2_passes 1 = .ok (.istore_n 2, 1) := by decide +kernel
theorem dX2_passes_2 : decode cX2_passes 2 = .ok (.iconst 0, 1) := by decide +kernel
theorem dX2_passes_3 : decode cX2_passes 3 = .ok (.istore_n 3, 1) := by decide +kernel
theorem dX2_passes_4 : decode cX2_passes 4 = .ok (.iload_n 3, 1) := by decide +kernel
theorem dX2_passes_5 : decode cX2_passes 5 = .ok (.aload_n 0, 1) := by decide +kernel
theorem dX2_passes_6 : decode cX2_passes 6 = .ok (.getfield 60, 3) := by decide +kernel
theorem dX2_passes_9 : decode cX2_passes 9 = .ok (.if_icmp .ge 37, 3) := by decide +kernel
theorem dX2_passes_12 : decode cX2_passes 12 = .ok (.iload_n 3, 1) := by decide +kernel
theorem dX2_passes_13 : decode cX2_passes 13 = .ok (.bipush 60, 2) := by decide +kernel
theorem dX2_passes_15 : decode cX2_passes 15 = .ok (.if_icmp .ge 31, 3) := by decide +kernel
theorem dX2_passes_18 : decode cX2_passes 18 = .ok (.iload_n 2, 1) := by decide +kernel
theorem dX2_passes_19 : decode cX2_passes 19 = .ok (.aload_n 0, 1) := by decide +kernel
theorem dX2_passes_20 : decode cX2_passes 20 = .ok (.getfield 26, 3) := by decide +kernel
theorem dX2_passes_23 : decode cX2_passes 23 = .ok (.iload_n 3, 1) := by decide +kernel
theorem dX2_passes_24 : decode cX2_passes 24 = .ok (.aaload, 1) := by decide +kernel
theorem dX2_passes_25 : decode cX2_passes 25 = .ok (.iload_n 1, 1) := by decide +kernel
theorem dX2_passes_26 : decode cX2_passes 26 = .ok (.invokevirtual 130, 3) := by decide +kernel
theorem dX2_passes_29 : decode cX2_passes 29 = .ok (.iconst (-1), 1) := by decide +kernel
theorem dX2_passes_30 : decode cX2_passes 30 = .ok (.if_icmp .ne 7, 3) := by decide +kernel
theorem dX2_passes_33 : decode cX2_passes 33 = .ok (.iconst 1, 1) := by decide +kernel
theorem dX2_passes_34 : decode cX2_passes 34 = .ok (.goto 4, 3) := by decide +kernel
theorem dX2_passes_37 : decode cX2_passes 37 = .ok (.iconst 0, 1) := by decide +kernel
theorem dX2_passes_38 : decode cX2_passes 38 = .ok (.iadd, 1) := by decide +kernel
theorem dX2_passes_39 : decode cX2_passes 39 = .ok (.istore_n 2, 1) := by decide +kernel
theorem dX2_passes_40 : decode cX2_passes 40 = .ok (.iinc 3 1, 3) := by decide +kernel
theorem dX2_passes_43 : decode cX2_passes 43 = .ok (.goto (-39), 3) := by decide +kernel
theorem dX2_passes_46 : decode cX2_passes 46 = .ok (.iload_n 2, 1) := by decide +kernel
theorem dX2_passes_47 : decode cX2_passes 47 = .ok (.ireturn, 1) := by decide +kernel
theorem dX2_roundThatChanged_0 : decode cX2_roundThatChanged 0 = .ok (.iconst (-1), 1) := by decide +kernel
theorem dX2_roundThatChanged_1 : decode cX2_roundThatChanged 1 = .ok (.istore_n 2, 1) := by decide +kernel
theorem dX2_roundThatChanged_2 : decode cX2_roundThatChanged 2 = .ok (.iconst 0, 1) := by decide +kernel
theorem dX2_roundThatChanged_3 : decode cX2_roundThatChanged 3 = .ok (.istore_n 3, 1) := by decide +kernel
theorem dX2_roundThatChanged_4 : decode cX2_roundThatChanged 4 = .ok (.iload_n 3, 1) := by decide +kernel
theorem dX2_roundThatChanged_5 : decode cX2_roundThatChanged 5 = .ok (.aload_n 0, 1) := by decide +kernel
theorem dX2_roundThatChanged_6 : decode cX2_roundThatChanged 6 = .ok (.getfield 60, 3) := by decide +kernel
theorem dX2_roundThatChanged_9 : decode cX2_roundThatChanged 9 = .ok (.if_icmp .ge 30, 3) := by decide +kernel
theorem dX2_roundThatChanged_12 : decode cX2_roundThatChanged 12 = .ok (.iload_n 3, 1) := by decide +kernel
theorem dX2_roundThatChanged_13 : decode cX2_roundThatChanged 13 = .ok (.bipush 60, 2) := by decide +kernel
theorem dX2_roundThatChanged_15 : decode cX2_roundThatChanged 15 = .ok (.if_icmp .ge 24, 3) := by decide +kernel
theorem dX2_roundThatChanged_18 : decode cX2_roundThatChanged 18 = .ok (.aload_n 0, 1) := by decide +kernel
theorem dX2_roundThatChanged_19 : decode cX2_roundThatChanged 19 = .ok (.getfield 26, 3) := by decide +kernel
theorem dX2_roundThatChanged_22 : decode cX2_roundThatChanged 22 = .ok (.iload_n 3, 1) := by decide +kernel
theorem dX2_roundThatChanged_23 : decode cX2_roundThatChanged 23 = .ok (.aaload, 1) := by decide +kernel
theorem dX2_roundThatChanged_24 : decode cX2_roundThatChanged 24 = .ok (.iload_n 1, 1) := by decide +kernel
theorem dX2_roundThatChanged_25 : decode cX2_roundThatChanged 25 = .ok (.invokevirtual 133, 3) := by decide +kernel
theorem dX2_roundThatChanged_28 : decode cX2_roundThatChanged 28 = .ok (.ifCond .eq 5, 3) := by decide +kernel
theorem dX2_roundThatChanged_31 : decode cX2_roundThatChanged 31 = .ok (.iload_n 3, 1) := by decide +kernel
theorem dX2_roundThatChanged_32 : decode cX2_roundThatChanged 32 = .ok (.istore_n 2, 1) := by decide +kernel
theorem dX2_roundThatChanged_33 : decode cX2_roundThatChanged 33 = .ok (.iinc 3 1, 3) := by decide +kernel
theorem dX2_roundThatChanged_36 : decode cX2_roundThatChanged 36 = .ok (.goto (-32), 3) := by decide +kernel
theorem dX2_roundThatChanged_39 : decode cX2_roundThatChanged 39 = .ok (.iload_n 2, 1) := by decide +kernel
theorem dX2_roundThatChanged_40 : decode cX2_roundThatChanged 40 = .ok (.ireturn, 1) := by decide +kernel
theorem dX2_waveThatChanged_0 : decode cX2_waveThatChanged 0 = .ok (.aload_n 0, 1) := by decide +kernel
theorem dX2_waveThatChanged_1 : decode cX2_waveThatChanged 1 = .ok (.iload_n 1, 1) := by decide +kernel
theorem dX2_waveThatChanged_2 : decode cX2_waveThatChanged 2 = .ok (.invokevirtual 136, 3) := by decide +kernel
theorem dX2_waveThatChanged_5 : decode cX2_waveThatChanged 5 = .ok (.istore_n 2, 1) := by decide +kernel
theorem dX2_waveThatChanged_6 : decode cX2_waveThatChanged 6 = .ok (.iload_n 2, 1) := by decide +kernel
theorem dX2_waveThatChanged_7 : decode cX2_waveThatChanged 7 = .ok (.ifCond .lt 22, 3) := by decide +kernel
theorem dX2_waveThatChanged_10 : decode cX2_waveThatChanged 10 = .ok (.iload_n 2, 1) := by decide +kernel
theorem dX2_waveThatChanged_11 : decode cX2_waveThatChanged 11 = .ok (.bipush 60, 2) := by decide +kernel
theorem dX2_waveThatChanged_13 : decode cX2_waveThatChanged 13 = .ok (.if_icmp .ge 16, 3) := by decide +kernel
theorem dX2_waveThatChanged_16 : decode cX2_waveThatChanged 16 = .ok (.aload_n 0, 1) := by decide +kernel
theorem dX2_waveThatChanged_17 : decode cX2_waveThatChanged 17 = .ok (.getfield 26, 3) := by decide +kernel
theorem dX2_waveThatChanged_20 : decode cX2_waveThatChanged 20 = .ok (.iload_n 2, 1) := by decide +kernel
theorem dX2_waveThatChanged_21 : decode cX2_waveThatChanged 21 = .ok (.aaload, 1) := by decide +kernel
theorem dX2_waveThatChanged_22 : decode cX2_waveThatChanged 22 = .ok (.iload_n 1, 1) := by decide +kernel
theorem dX2_waveThatChanged_23 : decode cX2_waveThatChanged 23 = .ok (.invokevirtual 139, 3) := by decide +kernel
theorem dX2_waveThatChanged_26 : decode cX2_waveThatChanged 26 = .ok (.goto 4, 3) := by decide +kernel
theorem dX2_waveThatChanged_29 : decode cX2_waveThatChanged 29 = .ok (.iconst (-1), 1) := by decide +kernel
theorem dX2_waveThatChanged_30 : decode cX2_waveThatChanged 30 = .ok (.ireturn, 1) := by decide +kernel
theorem dX2_roundOfGreatestChange_0 : decode cX2_roundOfGreatestChange 0 = .ok (.iconst 0, 1) := by decide +kernel
theorem dX2_roundOfGreatestChange_1 : decode cX2_roundOfGreatestChange 1 = .ok (.istore_n 1, 1) := by decide +kernel
theorem dX2_roundOfGreatestChange_2 : decode cX2_roundOfGreatestChange 2 = .ok (.iconst (-1), 1) := by decide +kernel
theorem dX2_roundOfGreatestChange_3 : decode cX2_roundOfGreatestChange 3 = .ok (.istore_n 2, 1) := by decide +kernel
theorem dX2_roundOfGreatestChange_4 : decode cX2_roundOfGreatestChange 4 = .ok (.aload_n 0, 1) := by decide +kernel
theorem dX2_roundOfGreatestChange_5 : decode cX2_roundOfGreatestChange 5 = .ok (.getfield 63, 3) := by decide +kernel
theorem dX2_roundOfGreatestChange_8 : decode cX2_roundOfGreatestChange 8 = .ok (.aload_n 0, 1) := by decide +kernel
theorem dX2_roundOfGreatestChange_9 : decode cX2_roundOfGreatestChange 9 = .ok (.getfield 66, 3) := by decide +kernel
theorem dX2_roundOfGreatestChange_12 : decode cX2_roundOfGreatestChange 12 = .ok (.isub, 1) := by decide +kernel
theorem dX2_roundOfGreatestChange_13 : decode cX2_roundOfGreatestChange 13 = .ok (.istore_n 3, 1) := by decide +kernel
theorem dX2_roundOfGreatestChange_14 : decode cX2_roundOfGreatestChange 14 = .ok (.iconst 0, 1) := by decide +kernel
theorem dX2_roundOfGreatestChange_15 : decode cX2_roundOfGreatestChange 15 = .ok (.istore 4, 2) := by decide +kernel
theorem dX2_roundOfGreatestChange_17 : decode cX2_roundOfGreatestChange 17 = .ok (.iload 4, 2) := by decide +kernel
theorem dX2_roundOfGreatestChange_19 : decode cX2_roundOfGreatestChange 19 = .ok (.aload_n 0, 1) := by decide +kernel
theorem dX2_roundOfGreatestChange_20 : decode cX2_roundOfGreatestChange 20 = .ok (.getfield 60, 3) := by decide +kernel
theorem dX2_roundOfGreatestChange_23 : decode cX2_roundOfGreatestChange 23 = .ok (.if_icmp .ge 63, 3) := by decide +kernel
theorem dX2_roundOfGreatestChange_26 : decode cX2_roundOfGreatestChange 26 = .ok (.iload 4, 2) := by decide +kernel
theorem dX2_roundOfGreatestChange_28 : decode cX2_roundOfGreatestChange 28 = .ok (.bipush 60, 2) := by decide +kernel
theorem dX2_roundOfGreatestChange_30 : decode cX2_roundOfGreatestChange 30 = .ok (.if_icmp .ge 56, 3) := by decide +kernel
theorem dX2_roundOfGreatestChange_33 : decode cX2_roundOfGreatestChange 33 = .ok (.aload_n 0, 1) := by decide +kernel
theorem dX2_roundOfGreatestChange_34 : decode cX2_roundOfGreatestChange 34 = .ok (.getfield 26, 3) := by decide +kernel
theorem dX2_roundOfGreatestChange_37 : decode cX2_roundOfGreatestChange 37 = .ok (.iload 4, 2) := by decide +kernel
theorem dX2_roundOfGreatestChange_39 : decode cX2_roundOfGreatestChange 39 = .ok (.aaload, 1) := by decide +kernel
theorem dX2_roundOfGreatestChange_40 : decode cX2_roundOfGreatestChange 40 = .ok (.getfield 114, 3) := by decide +kernel
theorem dX2_roundOfGreatestChange_43 : decode cX2_roundOfGreatestChange 43 = .ok (.aload_n 0, 1) := by decide +kernel
theorem dX2_roundOfGreatestChange_44 : decode cX2_roundOfGreatestChange 44 = .ok (.getfield 26, 3) := by decide +kernel
theorem dX2_roundOfGreatestChange_47 : decode cX2_roundOfGreatestChange 47 = .ok (.iload 4, 2) := by decide +kernel
theorem dX2_roundOfGreatestChange_49 : decode cX2_roundOfGreatestChange 49 = .ok (.aaload, 1) := by decide +kernel
theorem dX2_roundOfGreatestChange_50 : decode cX2_roundOfGreatestChange 50 = .ok (.getfield 117, 3) := by decide +kernel
theorem dX2_roundOfGreatestChange_53 : decode cX2_roundOfGreatestChange 53 = .ok (.isub, 1) := by decide +kernel
theorem dX2_roundOfGreatestChange_54 : decode cX2_roundOfGreatestChange 54 = .ok (.istore 5, 2) := by decide +kernel
theorem dX2_roundOfGreatestChange_56 : decode cX2_roundOfGreatestChange 56 = .ok (.iload 5, 2) := by decide +kernel
theorem dX2_roundOfGreatestChange_58 : decode cX2_roundOfGreatestChange 58 = .ok (.iload_n 3, 1) := by decide +kernel
theorem dX2_roundOfGreatestChange_59 : decode cX2_roundOfGreatestChange 59 = .ok (.isub, 1) := by decide +kernel
theorem dX2_roundOfGreatestChange_60 : decode cX2_roundOfGreatestChange 60 = .ok (.invokestatic 142, 3) := by decide +kernel
theorem dX2_roundOfGreatestChange_63 : decode cX2_roundOfGreatestChange 63 = .ok (.istore 6, 2) := by decide +kernel
theorem dX2_roundOfGreatestChange_65 : decode cX2_roundOfGreatestChange 65 = .ok (.iload 6, 2) := by decide +kernel
theorem dX2_roundOfGreatestChange_67 : decode cX2_roundOfGreatestChange 67 = .ok (.iload_n 2, 1) := by decide +kernel
theorem dX2_roundOfGreatestChange_68 : decode cX2_roundOfGreatestChange 68 = .ok (.if_icmp .le 9, 3) := by decide +kernel
theorem dX2_roundOfGreatestChange_71 : decode cX2_roundOfGreatestChange 71 = .ok (.iload 6, 2) := by decide +kernel
theorem dX2_roundOfGreatestChange_73 : decode cX2_roundOfGreatestChange 73 = .ok (.istore_n 2, 1) := by decide +kernel
theorem dX2_roundOfGreatestChange_74 : decode cX2_roundOfGreatestChange 74 = .ok (.iload 4, 2) := by decide +kernel
theorem dX2_roundOfGreatestChange_76 : decode cX2_roundOfGreatestChange 76 = .ok (.istore_n 1, 1) := by decide +kernel
theorem dX2_roundOfGreatestChange_77 : decode cX2_roundOfGreatestChange 77 = .ok (.iload 5, 2) := by decide +kernel
theorem dX2_roundOfGreatestChange_79 : decode cX2_roundOfGreatestChange 79 = .ok (.istore_n 3, 1) := by decide +kernel
theorem dX2_roundOfGreatestChange_80 : decode cX2_roundOfGreatestChange 80 = .ok (.iinc 4 1, 3) := by decide +kernel
theorem dX2_roundOfGreatestChange_83 : decode cX2_roundOfGreatestChange 83 = .ok (.goto (-66), 3) := by decide +kernel
theorem dX2_roundOfGreatestChange_86 : decode cX2_roundOfGreatestChange 86 = .ok (.iload_n 1, 1) := by decide +kernel
theorem dX2_roundOfGreatestChange_87 : decode cX2_roundOfGreatestChange 87 = .ok (.ireturn, 1) := by decide +kernel
theorem dX3_init_0 : decode cX3_init 0 = .ok (.aload_n 0, 1) := by decide +kernel
theorem dX3_init_1 : decode cX3_init 1 = .ok (.invokespecial 3, 3) := by decide +kernel
theorem dX3_init_4 : decode cX3_init 4 = .ok (.aload_n 0, 1) := by decide +kernel
theorem dX3_init_5 : decode cX3_init 5 = .ok (.bipush 80, 2) := by decide +kernel
theorem dX3_init_7 : decode cX3_init 7 = .ok (.newarray .char, 2) := by decide +kernel
theorem dX3_init_9 : decode cX3_init 9 = .ok (.putfield 9, 3) := by decide +kernel
theorem dX3_init_12 : decode cX3_init 12 = .ok (.aload_n 0, 1) := by decide +kernel
theorem dX3_init_13 : decode cX3_init 13 = .ok (.bipush 80, 2) := by decide +kernel
theorem dX3_init_15 : decode cX3_init 15 = .ok (.newarray .int, 2) := by decide +kernel
theorem dX3_init_17 : decode cX3_init 17 = .ok (.putfield 15, 3) := by decide +kernel
theorem dX3_init_20 : decode cX3_init 20 = .ok (.return_, 1) := by decide +kernel
theorem dX3_append_0 : decode cX3_append 0 = .ok (.aload_n 0, 1) := by decide +kernel
theorem dX3_append_1 : decode cX3_append 1 = .ok (.getfield 19, 3) := by decide +kernel
theorem dX3_append_4 : decode cX3_append 4 = .ok (.ifCond .lt 12, 3) := by decide +kernel
theorem dX3_append_7 : decode cX3_append 7 = .ok (.aload_n 0, 1) := by decide +kernel
theorem dX3_append_8 : decode cX3_append 8 = .ok (.getfield 19, 3) := by decide +kernel
theorem dX3_append_11 : decode cX3_append 11 = .ok (.bipush 80, 2) := by decide +kernel
theorem dX3_append_13 : decode cX3_append 13 = .ok (.if_icmp .lt 5, 3) := by decide +kernel
theorem dX3_append_16 : decode cX3_append 16 = .ok (.iconst 0, 1) := by decide +kernel
theorem dX3_append_17 : decode cX3_append 17 = .ok (.ireturn, 1) := by decide +kernel
theorem dX3_append_18 : decode cX3_append 18 = .ok (.aload_n 0, 1) := by decide +kernel
theorem dX3_append_19 : decode cX3_append 19 = .ok (.getfield 9, 3) := by decide +kernel
theorem dX3_append_22 : decode cX3_append 22 = .ok (.aload_n 0, 1) := by decide +kernel
theorem dX3_append_23 : decode cX3_append 23 = .ok (.getfield 19, 3) := by decide +kernel
theorem dX3_append_26 : decode cX3_append 26 = .ok (.iload_n 1, 1) := by decide +kernel
theorem dX3_append_27 : decode cX3_append 27 = .ok (.castore, 1) := by decide +kernel
theorem dX3_append_28 : decode cX3_append 28 = .ok (.aload_n 0, 1) := by decide +kernel
theorem dX3_append_29 : decode cX3_append 29 = .ok (.dup, 1) := by decide +kernel
theorem dX3_append_30 : decode cX3_append 30 = .ok (.getfield 19, 3) := by decide +kernel
theorem dX3_append_33 : decode cX3_append 33 = .ok (.iconst 1, 1) := by decide +kernel
theorem dX3_append_34 : decode cX3_append 34 = .ok (.iadd, 1) := by decide +kernel
theorem dX3_append_35 : decode cX3_append 35 = .ok (.putfield 19, 3) := by decide +kernel
theorem dX3_append_38 : decode cX3_append 38 = .ok (.iconst 1, 1) := by decide +kernel
theorem dX3_append_39 : decode cX3_append 39 = .ok (.ireturn, 1) := by decide +kernel
theorem dX3_choice_0 : decode cX3_choice 0 = .ok (.iload_n 1, 1) := by decide +kernel
theorem dX3_choice_1 : decode cX3_choice 1 = .ok (.ifCond .lt 18, 3) := by decide +kernel
theorem dX3_choice_4 : decode cX3_choice 4 = .ok (.iload_n 1, 1) := by decide +kernel
theorem dX3_choice_5 : decode cX3_choice 5 = .ok (.bipush 80, 2) := by decide +kernel
theorem dX3_choice_7 : decode cX3_choice 7 = .ok (.if_icmp .ge 12, 3) := by decide +kernel
theorem dX3_choice_10 : decode cX3_choice 10 = .ok (.aload_n 0, 1) := by decide +kernel
theorem dX3_choice_11 : decode cX3_choice 11 = .ok (.getfield 15, 3) := by decide +kernel
theorem dX3_choice_14 : decode cX3_choice 14 = .ok (.iload_n 1, 1) := by decide +kernel
theorem dX3_choice_15 : decode cX3_choice 15 = .ok (.iaload, 1) := by decide +kernel
theorem dX3_choice_16 : decode cX3_choice 16 = .ok (.goto 4, 3) := by decide +kernel
theorem dX3_choice_19 : decode cX3_choice 19 = .ok (.iconst (-1), 1) := by decide +kernel
theorem dX3_choice_20 : decode cX3_choice 20 = .ok (.ireturn, 1) := by decide +kernel
theorem dX3_parse_0 : decode cX3_parse 0 = .ok (.aload_n 0, 1) := by decide +kernel
theorem dX3_parse_1 : decode cX3_parse 1 = .ok (.iconst 0, 1) := by decide +kernel
theorem dX3_parse_2 : decode cX3_parse 2 = .ok (.putfield 23, 3) := by decide +kernel
theorem dX3_parse_5 : decode cX3_parse 5 = .ok (.iconst 0, 1) := by decide +kernel
theorem dX3_parse_6 : decode cX3_parse 6 = .ok (.istore_n 2, 1) := by decide +kernel
theorem dX3_parse_7 : decode cX3_parse 7 = .ok (.iconst 0, 1) := by decide +kernel
theorem dX3_parse_8 : decode cX3_parse 8 = .ok (.istore_n 3, 1) := by decide +kernel
theorem dX3_parse_9 : decode cX3_parse 9 = .ok (.iconst 0, 1) := by decide +kernel
theorem dX3_parse_10 : decode cX3_parse 10 = .ok (.istore 4, 2) := by decide +kernel
theorem dX3_parse_12 : decode cX3_parse 12 = .ok (.iconst 0, 1) := by decide +kernel
theorem dX3_parse_13 : decode cX3_parse 13 = .ok (.istore 5, 2) := by decide +kernel
theorem dX3_parse_15 : decode cX3_parse 15 = .ok (.iload 5, 2) := by decide +kernel
theorem dX3_parse_17 : decode cX3_parse 17 = .ok (.aload_n 0, 1) := by decide +kernel
theorem dX3_parse_18 : decode cX3_parse 18 = .ok (.getfield 19, 3) := by decide +kernel
theorem dX3_parse_21 : decode cX3_parse 21 = .ok (.if_icmp .ge 136, 3) := by decide +kernel
theorem dX3_parse_24 : decode cX3_parse 24 = .ok (.iload 5, 2) := by decide +kernel
theorem dX3_parse_26 : decode cX3_parse 26 = .ok (.bipush 80, 2) := by decide +kernel
theorem dX3_parse_28 : decode cX3_parse 28 = .ok (.if_icmp .ge 129, 3) := by decide +kernel
theorem dX3_parse_31 : decode cX3_parse 31 = .ok (.aload_n 0, 1) := by decide +kernel
theorem dX3_parse_32 : decode cX3_parse 32 = .ok (.getfield 9, 3) := by decide +kernel
theorem dX3_parse_35 : decode cX3_parse 35 = .ok (.iload 5, 2) := by decide +kernel
theorem dX3_parse_37 : decode cX3_parse 37 = .ok (.caload, 1) := by decide +kernel
theorem dX3_parse_38 : decode cX3_parse 38 = .ok (.istore 6, 2) := by decide +kernel
theorem dX3_parse_40 : decode cX3_parse 40 = .ok (.iload 4, 2) := by decide +kernel
theorem dX3_parse_42 : decode cX3_parse 42 = .ok (.ifCond .eq 47, 3) := by decide +kernel
theorem dX3_parse_45 : decode cX3_parse 45 = .ok (.iload 6, 2) := by decide +kernel
theorem dX3_parse_47 : decode cX3_parse 47 = .ok (.bipush 49, 2) := by decide +kernel
theorem dX3_parse_49 : decode cX3_parse 49 = .ok (.isub, 1) := by decide +kernel
theorem dX3_parse_50 : decode cX3_parse 50 = .ok (.istore 7, 2) := by decide +kernel
theorem dX3_parse_52 : decode cX3_parse 52 = .ok (.iload 7, 2) := by decide +kernel
theorem dX3_parse_54 : decode cX3_parse 54 = .ok (.ifCond .lt 12, 3) := by decide +kernel
theorem dX3_parse_57 : decode cX3_parse 57 = .ok (.iload 7, 2) := by decide +kernel
theorem dX3_parse_59 : decode cX3_parse 59 = .ok (.aload_n 1, 1) := by decide +kernel
theorem dX3_parse_60 : decode cX3_parse 60 = .ok (.getfield 26, 3) := by decide +kernel
theorem dX3_parse_63 : decode cX3_parse 63 = .ok (.if_icmp .lt 6, 3) := by decide +kernel
theorem dX3_parse_66 : decode cX3_parse 66 = .ok (.iload 5, 2) := by decide +kernel
theorem dX3_parse_68 : decode cX3_parse 68 = .ok (.ireturn, 1) := by decide +kernel
theorem dX3_parse_69 : decode cX3_parse 69 = .ok (.aload_n 0, 1) := by decide +kernel
theorem dX3_parse_70 : decode cX3_parse 70 = .ok (.aload_n 1, 1) := by decide +kernel
theorem dX3_parse_71 : decode cX3_parse 71 = .ok (.iload_n 3, 1) := by decide +kernel
theorem dX3_parse_72 : decode cX3_parse 72 = .ok (.iload 7, 2) := by decide +kernel
theorem dX3_parse_74 : decode cX3_parse 74 = .ok (.invokevirtual 31, 3) := by decide +kernel
theorem dX3_parse_77 : decode cX3_parse 77 = .ok (.invokevirtual 35, 3) := by decide +kernel
theorem dX3_parse_80 : decode cX3_parse 80 = .ok (.iinc 2 1, 3) := by decide +kernel
theorem dX3_parse_83 : decode cX3_parse 83 = .ok (.iconst 0, 1) := by decide +kernel
theorem dX3_parse_84 : decode cX3_parse 84 = .ok (.istore 4, 2) := by decide +kernel
theorem dX3_parse_86 : decode cX3_parse 86 = .ok (.goto 65, 3) := by decide +kernel
theorem dX3_parse_89 : decode cX3_parse 89 = .ok (.iload_n 2, 1) := by decide +kernel
theorem dX3_parse_90 : decode cX3_parse 90 = .ok (.iconst 2, 1) := by decide +kernel
theorem dX3_parse_91 : decode cX3_parse 91 = .ok (.if_icmp .ne 18, 3) := by decide +kernel
theorem dX3_parse_94 : decode cX3_parse 94 = .ok (.iload 6, 2) := by decide +kernel
theorem dX3_parse_96 : decode cX3_parse 96 = .ok (.bipush 59, 2) := by decide +kernel
theorem dX3_parse_98 : decode cX3_parse 98 = .ok (.if_icmp .eq 6, 3) := by decide +kernel
theorem dX3_parse_101 : decode cX3_parse 101 = .ok (.iload 5, 2) := by decide +kernel
theorem dX3_parse_103 : decode cX3_parse 103 = .ok (.ireturn, 1) := by decide +kernel
theorem dX3_parse_104 : decode cX3_parse 104 = .ok (.iconst 0, 1) := by decide +kernel
theorem dX3_parse_105 : decode cX3_parse 105 = .ok (.istore_n 2, 1) := by decide +kernel
theorem dX3_parse_106 : decode cX3_parse 106 = .ok (.goto 45, 3) := by decide +kernel
theorem dX3_parse_109 : decode cX3_parse 109 = .ok (.iload 6, 2) := by decide +kernel
theorem dX3_parse_111 : decode cX3_parse 111 = .ok (.bipush 45, 2) := by decide +kernel
theorem dX3_parse_113 : decode cX3_parse 113 = .ok (.if_icmp .ne 14, 3) := by decide +kernel
theorem dX3_parse_116 : decode cX3_parse 116 = .ok (.aload_n 0, 1) := by decide +kernel
theorem dX3_parse_117 : decode cX3_parse 117 = .ok (.iconst (-1), 1) := by decide +kernel
theorem dX3_parse_118 : decode cX3_parse 118 = .ok (.invokevirtual 35, 3) := by decide +kernel
theorem dX3_parse_121 : decode cX3_parse 121 = .ok (.iinc 2 1, 3) := by decide +kernel
theorem dX3_parse_124 : decode cX3_parse 124 = .ok (.goto 27, 3) := by decide +kernel
theorem dX3_parse_127 : decode cX3_parse 127 = .ok (.iload 6, 2) := by decide +kernel
theorem dX3_parse_129 : decode cX3_parse 129 = .ok (.bipush 97, 2) := by decide +kernel
theorem dX3_parse_131 : decode cX3_parse 131 = .ok (.isub, 1) := by decide +kernel
theorem dX3_parse_132 : decode cX3_parse 132 = .ok (.istore_n 3, 1) := by decide +kernel
theorem dX3_parse_133 : decode cX3_parse 133 = .ok (.iload_n 3, 1) := by decide +kernel
theorem dX3_parse_134 : decode cX3_parse 134 = .ok (.ifCond .lt 11, 3) := by decide +kernel
theorem dX3_parse_137 : decode cX3_parse 137 = .ok (.iload_n 3, 1) := by decide +kernel
theorem dX3_parse_138 : decode cX3_parse 138 = .ok (.aload_n 1, 1) := by decide +kernel
theorem dX3_parse_139 : decode cX3_parse 139 = .ok (.getfield 39, 3) := by decide +kernel
theorem dX3_parse_142 : decode cX3_parse 142 = .ok (.if_icmp .lt 6, 3) := by decide +kernel
theorem dX3_parse_145 : decode cX3_parse 145 = .ok (.iload 5, 2) := by decide +kernel
theorem dX3_parse_147 : decode cX3_parse 147 = .ok (.ireturn, 1) := by decide +kernel
theorem dX3_parse_148 : decode cX3_parse 148 = .ok (.iconst 1, 1) := by decide +kernel
theorem dX3_parse_149 : decode cX3_parse 149 = .ok (.istore 4, 2) := by decide +kernel
theorem dX3_parse_151 : decode cX3_parse 151 = .ok (.iinc 5 1, 3) := by decide +kernel
theorem dX3_parse_154 : decode cX3_parse 154 = .ok (.goto (-139), 3) := by decide +kernel
theorem dX3_parse_157 : decode cX3_parse 157 = .ok (.iload_n 2, 1) := by decide +kernel
theorem dX3_parse_158 : decode cX3_parse 158 = .ok (.ifCond .ne 12, 3) := by decide +kernel
theorem dX3_parse_161 : decode cX3_parse 161 = .ok (.iload 4, 2) := by decide +kernel
theorem dX3_parse_163 : decode cX3_parse 163 = .ok (.ifCond .ne 7, 3) := by decide +kernel
theorem dX3_parse_166 : decode cX3_parse 166 = .ok (.iconst (-1), 1) := by decide +kernel
theorem dX3_parse_167 : decode cX3_parse 167 = .ok (.goto 7, 3) := by decide +kernel
theorem dX3_parse_170 : decode cX3_parse 170 = .ok (.aload_n 0, 1) := by decide +kernel
theorem dX3_parse_171 : decode cX3_parse 171 = .ok (.getfield 19, 3) := by decide +kernel
theorem dX3_parse_174 : decode cX3_parse 174 = .ok (.ireturn, 1) := by decide +kernel
theorem dX3_addChoice_0 : decode cX3_addChoice 0 = .ok (.aload_n 0, 1) := by decide +kernel
theorem dX3_addChoice_1 : decode cX3_addChoice 1 = .ok (.getfield 23, 3) := by decide +kernel
theorem dX3_addChoice_4 : decode cX3_addChoice 4 = .ok (.ifCond .lt 32, 3) := by decide +kernel
theorem dX3_addChoice_7 : decode cX3_addChoice 7 = .ok (.aload_n 0, 1) := by decide +kernel
theorem dX3_addChoice_8 : decode cX3_addChoice 8 = .ok (.getfield 23, 3) := by decide +kernel
theorem dX3_addChoice_11 : decode cX3_addChoice 11 = .ok (.bipush 80, 2) := by decide +kernel
theorem dX3_addChoice_13 : decode cX3_addChoice 13 = .ok (.if_icmp .ge 23, 3) := by decide +kernel
theorem dX3_addChoice_16 : decode cX3_addChoice 16 = .ok (.aload_n 0, 1) := by decide +kernel
theorem dX3_addChoice_17 : decode cX3_addChoice 17 = .ok (.getfield 15, 3) := by decide +kernel
theorem dX3_addChoice_20 : decode cX3_addChoice 20 = .ok (.aload_n 0, 1) := by decide +kernel
theorem dX3_addChoice_21 : decode cX3_addChoice 21 = .ok (.getfield 23, 3) := by decide +kernel
theorem dX3_addChoice_24 : decode cX3_addChoice 24 = .ok (.iload_n 1, 1) := by decide +kernel
theorem dX3_addChoice_25 : decode cX3_addChoice 25 = .ok (.iastore, 1) := by decide +kernel
theorem dX3_addChoice_26 : decode cX3_addChoice 26 = .ok (.aload_n 0, 1) := by decide +kernel
theorem dX3_addChoice_27 : decode cX3_addChoice 27 = .ok (.dup, 1) := by decide +kernel
theorem dX3_addChoice_28 : decode cX3_addChoice 28 = .ok (.getfield 23, 3) := by decide +kernel
theorem dX3_addChoice_31 : decode cX3_addChoice 31 = .ok (.iconst 1, 1) := by decide +kernel
theorem dX3_addChoice_32 : decode cX3_addChoice 32 = .ok (.iadd, 1) := by decide +kernel
theorem dX3_addChoice_33 : decode cX3_addChoice 33 = .ok (.putfield 23, 3) := by decide +kernel
theorem dX3_addChoice_36 : decode cX3_addChoice 36 = .ok (.return_, 1) := by decide +kernel
theorem dX4_init_0 : decode cX4_init 0 = .ok (.aload_n 0, 1) := by decide +kernel
theorem dX4_init_1 : decode cX4_init 1 = .ok (.invokespecial 3, 3) := by decide +kernel
theorem dX4_init_4 : decode cX4_init 4 = .ok (.aload_n 0, 1) := by decide +kernel
theorem dX4_init_5 : decode cX4_init 5 = .ok (.bipush 6, 2) := by decide +kernel
theorem dX4_init_7 : decode cX4_init 7 = .ok (.newarray .long, 2) := by decide +kernel
theorem dX4_init_9 : decode cX4_init 9 = .ok (.putfield 9, 3) := by decide +kernel
theorem dX4_init_12 : decode cX4_init 12 = .ok (.return_, 1) := by decide +kernel
theorem dX4_clear_0 : decode cX4_clear 0 = .ok (.iconst 0, 1) := by decide +kernel
theorem dX4_clear_1 : decode cX4_clear 1 = .ok (.istore_n 3, 1) := by decide +kernel
theorem dX4_clear_2 : decode cX4_clear 2 = .ok (.iload_n 3, 1) := by decide +kernel
theorem dX4_clear_3 : decode cX4_clear 3 = .ok (.bipush 6, 2) := by decide +kernel
theorem dX4_clear_5 : decode cX4_clear 5 = .ok (.if_icmp .ge 24, 3) := by decide +kernel
theorem dX4_clear_8 : decode cX4_clear 8 = .ok (.aload_n 0, 1) := by decide +kernel
theorem dX4_clear_9 : decode cX4_clear 9 = .ok (.getfield 9, 3) := by decide +kernel
theorem dX4_clear_12 : decode cX4_clear 12 = .ok (.iload_n 3, 1) := by decide +kernel
theorem dX4_clear_13 : decode cX4_clear 13 = .ok (.iload_n 3, 1) := by decide +kernel
theorem dX4_clear_14 : decode cX4_clear 14 = .ok (.ifCond .ne 7, 3) := by decide +kernel
theorem dX4_clear_17 : decode cX4_clear 17 = .ok (.lload_n 1, 1) := by decide +kernel
theorem dX4_clear_18 : decode cX4_clear 18 = .ok (.goto 4, 3) := by decide +kernel
theorem dX4_clear_21 : decode cX4_clear 21 = .ok (.lconst 0, 1) := by decide +kernel
theorem dX4_clear_22 : decode cX4_clear 22 = .ok (.lastore, 1) := by decide +kernel
theorem dX4_clear_23 : decode cX4_clear 23 = .ok (.iinc 3 1, 3) := by decide +kernel
theorem dX4_clear_26 : decode cX4_clear 26 = .ok (.goto (-24), 3) := by decide +kernel
theorem dX4_clear_29 : decode cX4_clear 29 = .ok (.aload_n 0, 1) := by decide +kernel
theorem dX4_clear_30 : decode cX4_clear 30 = .ok (.iconst 0, 1) := by decide +kernel
theorem dX4_clear_31 : decode cX4_clear 31 = .ok (.putfield 15, 3) := by decide +kernel
theorem dX4_clear_34 : decode cX4_clear 34 = .ok (.aload_n 0, 1) := by decide +kernel
theorem dX4_clear_35 : decode cX4_clear 35 = .ok (.iconst 0, 1) := by decide +kernel
theorem dX4_clear_36 : decode cX4_clear 36 = .ok (.putfield 19, 3) := by decide +kernel
theorem dX4_clear_39 : decode cX4_clear 39 = .ok (.return_, 1) := by decide +kernel
theorem dX4_copyFrom_0 : decode cX4_copyFrom 0 = .ok (.aload_n 1, 1) := by decide +kernel
theorem dX4_copyFrom_1 : decode cX4_copyFrom 1 = .ok (.getfield 9, 3) := by decide +kernel
theorem dX4_copyFrom_4 : decode cX4_copyFrom 4 = .ok (.iconst 0, 1) := by decide +kernel
theorem dX4_copyFrom_5 : decode cX4_copyFrom 5 = .ok (.aload_n 0, 1) := by decide +kernel
theorem dX4_copyFrom_6 : decode cX4_copyFrom 6 = .ok (.getfield 9, 3) := by decide +kernel
theorem dX4_copyFrom_9 : decode cX4_copyFrom 9 = .ok (.iconst 0, 1) := by decide +kernel
theorem dX4_copyFrom_10 : decode cX4_copyFrom 10 = .ok (.bipush 6, 2) := by decide +kernel
theorem dX4_copyFrom_12 : decode cX4_copyFrom 12 = .ok (.invokestatic 22, 3) := by decide +kernel
theorem dX4_copyFrom_15 : decode cX4_copyFrom 15 = .ok (.aload_n 0, 1) := by decide +kernel
theorem dX4_copyFrom_16 : decode cX4_copyFrom 16 = .ok (.aload_n 1, 1) := by decide +kernel
theorem dX4_copyFrom_17 : decode cX4_copyFrom 17 = .ok (.getfield 15, 3) := by decide +kernel
theorem dX4_copyFrom_20 : decode cX4_copyFrom 20 = .ok (.putfield 15, 3) := by decide +kernel
theorem dX4_copyFrom_23 : decode cX4_copyFrom 23 = .ok (.aload_n 0, 1) := by decide +kernel
theorem dX4_copyFrom_24 : decode cX4_copyFrom 24 = .ok (.aload_n 1, 1) := by decide +kernel
theorem dX4_copyFrom_25 : decode cX4_copyFrom 25 = .ok (.getfield 19, 3) := by decide +kernel
theorem dX4_copyFrom_28 : decode cX4_copyFrom 28 = .ok (.putfield 19, 3) := by decide +kernel
theorem dX4_copyFrom_31 : decode cX4_copyFrom 31 = .ok (.return_, 1) := by decide +kernel
theorem dX4_in_0 : decode cX4_in 0 = .ok (.iload_n 1, 1) := by decide +kernel
theorem dX4_in_1 : decode cX4_in 1 = .ok (.ifCond .lt 18, 3) := by decide +kernel
theorem dX4_in_4 : decode cX4_in 4 = .ok (.iload_n 1, 1) := by decide +kernel
theorem dX4_in_5 : decode cX4_in 5 = .ok (.bipush 6, 2) := by decide +kernel
theorem dX4_in_7 : decode cX4_in 7 = .ok (.if_icmp .ge 12, 3) := by decide +kernel
theorem dX4_in_10 : decode cX4_in 10 = .ok (.aload_n 0, 1) := by decide +kernel
theorem dX4_in_11 : decode cX4_in 11 = .ok (.getfield 9, 3) := by decide +kernel
theorem dX4_in_14 : decode cX4_in 14 = .ok (.iload_n 1, 1) := by decide +kernel
theorem dX4_in_15 : decode cX4_in 15 = .ok (.laload, 1) := by decide +kernel
theorem dX4_in_16 : decode cX4_in 16 = .ok (.goto 4, 3) := by decide +kernel
theorem dX4_in_19 : decode cX4_in 19 = .ok (.lconst 0, 1) := by decide +kernel
theorem dX4_in_20 : decode cX4_in 20 = .ok (.lreturn, 1) := by decide +kernel
theorem dX4_number_0 : decode cX4_number 0 = .ok (.aload_n 0, 1) := by decide +kernel
theorem dX4_number_1 : decode cX4_number 1 = .ok (.iload_n 1, 1) := by decide +kernel
theorem dX4_number_2 : decode cX4_number 2 = .ok (.invokevirtual 28, 3) := by decide +kernel
theorem dX4_number_5 : decode cX4_number 5 = .ok (.invokestatic 32, 3) := by decide +kernel
theorem dX4_number_8 : decode cX4_number 8 = .ok (.ireturn, 1) := by decide +kernel
theorem dX4_stateOf_0 : decode cX4_stateOf 0 = .ok (.iconst 0, 1) := by decide +kernel
theorem dX4_stateOf_1 : decode cX4_stateOf 1 = .ok (.istore_n 2, 1) := by decide +kernel
theorem dX4_stateOf_2 : decode cX4_stateOf 2 = .ok (.iconst 0, 1) := by decide +kernel
theorem dX4_stateOf_3 : decode cX4_stateOf 3 = .ok (.istore_n 3, 1) := by decide +kernel
theorem dX4_stateOf_4 : decode cX4_stateOf 4 = .ok (.iload_n 3, 1) := by decide +kernel
theorem dX4_stateOf_5 : decode cX4_stateOf 5 = .ok (.bipush 6, 2) := by decide +kernel
theorem dX4_stateOf_7 : decode cX4_stateOf 7 = .ok (.if_icmp .ge 26, 3) := by decide +kernel
theorem dX4_stateOf_10 : decode cX4_stateOf 10 = .ok (.aload_n 0, 1) := by decide +kernel
theorem dX4_stateOf_11 : decode cX4_stateOf 11 = .ok (.getfield 9, 3) := by decide +kernel
theorem dX4_stateOf_14 : decode cX4_stateOf 14 = .ok (.iload_n 3, 1) := by decide +kernel
theorem dX4_stateOf_15 : decode cX4_stateOf 15 = .ok (.laload, 1) := by decide +kernel
theorem dX4_stateOf_16 : decode cX4_stateOf 16 = .ok (.iload_n 1, 1) := by decide +kernel
theorem dX4_stateOf_17 : decode cX4_stateOf 17 = .ok (.lushr, 1) := by decide +kernel
theorem dX4_stateOf_18 : decode cX4_stateOf 18 = .ok (.lconst 1, 1) := by decide +kernel
theorem dX4_stateOf_19 : decode cX4_stateOf 19 = .ok (.land, 1) := by decide +kernel
theorem dX4_stateOf_20 : decode cX4_stateOf 20 = .ok (.lconst 0, 1) := by decide +kernel
theorem dX4_stateOf_21 : decode cX4_stateOf 21 = .ok (.lcmp, 1) := by decide +kernel
theorem dX4_stateOf_22 : decode cX4_stateOf 22 = .ok (.ifCond .eq 5, 3) := by decide +kernel
theorem dX4_stateOf_25 : decode cX4_stateOf 25 = .ok (.iload_n 3, 1) := by decide +kernel
theorem dX4_stateOf_26 : decode cX4_stateOf 26 = .ok (.istore_n 2, 1) := by decide +kernel
theorem dX4_stateOf_27 : decode cX4_stateOf 27 = .ok (.iinc 3 1, 3) := by decide +kernel
theorem dX4_stateOf_30 : decode cX4_stateOf 30 = .ok (.goto (-26), 3) := by decide +kernel
theorem dX4_stateOf_33 : decode cX4_stateOf 33 = .ok (.iload_n 2, 1) := by decide +kernel
theorem dX4_stateOf_34 : decode cX4_stateOf 34 = .ok (.ireturn, 1) := by decide +kernel
theorem dX4_admits_0 : decode cX4_admits 0 = .ok (.iload_n 1, 1) := by decide +kernel
theorem dX4_admits_1 : decode cX4_admits 1 = .ok (.iconst (-1), 1) := by decide +kernel
theorem dX4_admits_2 : decode cX4_admits 2 = .ok (.if_icmp .eq 18, 3) := by decide +kernel
theorem dX4_admits_5 : decode cX4_admits 5 = .ok (.aload_n 0, 1) := by decide +kernel
theorem dX4_admits_6 : decode cX4_admits 6 = .ok (.getfield 9, 3) := by decide +kernel
theorem dX4_admits_9 : decode cX4_admits 9 = .ok (.iconst 0, 1) := by decide +kernel
theorem dX4_admits_10 : decode cX4_admits 10 = .ok (.laload, 1) := by decide +kernel
theorem dX4_admits_11 : decode cX4_admits 11 = .ok (.iload_n 1, 1) := by decide +kernel
theorem dX4_admits_12 : decode cX4_admits 12 = .ok (.lushr, 1) := by decide +kernel
theorem dX4_admits_13 : decode cX4_admits 13 = .ok (.lconst 1, 1) := by decide +kernel
theorem dX4_admits_14 : decode cX4_admits 14 = .ok (.land, 1) := by decide +kernel
theorem dX4_admits_15 : decode cX4_admits 15 = .ok (.lconst 0, 1) := by decide +kernel
theorem dX4_admits_16 : decode cX4_admits 16 = .ok (.lcmp, 1) := by decide +kernel
theorem dX4_admits_17 : decode cX4_admits 17 = .ok (.ifCond .eq 7, 3) := by decide +kernel
theorem dX4_admits_20 : decode cX4_admits 20 = .ok (.iconst 1, 1) := by decide +kernel
theorem dX4_admits_21 : decode cX4_admits 21 = .ok (.goto 4, 3) := by decide +kernel
theorem dX4_admits_24 : decode cX4_admits 24 = .ok (.iconst 0, 1) := by decide +kernel
theorem dX4_admits_25 : decode cX4_admits 25 = .ok (.ireturn, 1) := by decide +kernel
theorem dX4_captured_0 : decode cX4_captured 0 = .ok (.iload_n 1, 1) := by decide +kernel
theorem dX4_captured_1 : decode cX4_captured 1 = .ok (.ifCond .ne 10, 3) := by decide +kernel
theorem dX4_captured_4 : decode cX4_captured 4 = .ok (.aload_n 0, 1) := by decide +kernel
theorem dX4_captured_5 : decode cX4_captured 5 = .ok (.getfield 15, 3) := by decide +kernel
theorem dX4_captured_8 : decode cX4_captured 8 = .ok (.goto 7, 3) := by decide +kernel
theorem dX4_captured_11 : decode cX4_captured 11 = .ok (.aload_n 0, 1) := by decide +kernel
theorem dX4_captured_12 : decode cX4_captured 12 = .ok (.getfield 19, 3) := by decide +kernel
theorem dX4_captured_15 : decode cX4_captured 15 = .ok (.ireturn, 1) := by decide +kernel
theorem dX4_points_0 : decode cX4_points 0 = .ok (.aload_n 0, 1) := by decide +kernel
theorem dX4_points_1 : decode cX4_points 1 = .ok (.iconst 3, 1) := by decide +kernel
theorem dX4_points_2 : decode cX4_points 2 = .ok (.iload_n 1, 1) := by decide +kernel
theorem dX4_points_3 : decode cX4_points 3 = .ok (.iadd, 1) := by decide +kernel
theorem dX4_points_4 : decode cX4_points 4 = .ok (.invokevirtual 38, 3) := by decide +kernel
theorem dX4_points_7 : decode cX4_points 7 = .ok (.iconst 2, 1) := by decide +kernel
theorem dX4_points_8 : decode cX4_points 8 = .ok (.aload_n 0, 1) := by decide +kernel
theorem dX4_points_9 : decode cX4_points 9 = .ok (.iload_n 1, 1) := by decide +kernel
theorem dX4_points_10 : decode cX4_points 10 = .ok (.invokevirtual 42, 3) := by decide +kernel
theorem dX4_points_13 : decode cX4_points 13 = .ok (.imul, 1) := by decide +kernel
theorem dX4_points_14 : decode cX4_points 14 = .ok (.iadd, 1) := by decide +kernel
theorem dX4_points_15 : decode cX4_points 15 = .ok (.ireturn, 1) := by decide +kernel
theorem dX4_lead_0 : decode cX4_lead 0 = .ok (.aload_n 0, 1) := by decide +kernel
theorem dX4_lead_1 : decode cX4_lead 1 = .ok (.getfield 9, 3) := by decide +kernel
theorem dX4_lead_4 : decode cX4_lead 4 = .ok (.iconst 3, 1) := by decide +kernel
theorem dX4_lead_5 : decode cX4_lead 5 = .ok (.laload, 1) := by decide +kernel
theorem dX4_lead_6 : decode cX4_lead 6 = .ok (.invokestatic 32, 3) := by decide +kernel
theorem dX4_lead_9 : decode cX4_lead 9 = .ok (.aload_n 0, 1) := by decide +kernel
theorem dX4_lead_10 : decode cX4_lead 10 = .ok (.getfield 9, 3) := by decide +kernel
theorem dX4_lead_13 : decode cX4_lead 13 = .ok (.iconst 4, 1) := by decide +kernel
theorem dX4_lead_14 : decode cX4_lead 14 = .ok (.laload, 1) := by decide +kernel
theorem dX4_lead_15 : decode cX4_lead 15 = .ok (.invokestatic 32, 3) := by decide +kernel
theorem dX4_lead_18 : decode cX4_lead 18 = .ok (.isub, 1) := by decide +kernel
theorem dX4_lead_19 : decode cX4_lead 19 = .ok (.iconst 2, 1) := by decide +kernel
theorem dX4_lead_20 : decode cX4_lead 20 = .ok (.aload_n 0, 1) := by decide +kernel
theorem dX4_lead_21 : decode cX4_lead 21 = .ok (.getfield 15, 3) := by decide +kernel
theorem dX4_lead_24 : decode cX4_lead 24 = .ok (.aload_n 0, 1) := by decide +kernel
theorem dX4_lead_25 : decode cX4_lead 25 = .ok (.getfield 19, 3) := by decide +kernel
theorem dX4_lead_28 : decode cX4_lead 28 = .ok (.isub, 1) := by decide +kernel
theorem dX4_lead_29 : decode cX4_lead 29 = .ok (.imul, 1) := by decide +kernel
theorem dX4_lead_30 : decode cX4_lead 30 = .ok (.iadd, 1) := by decide +kernel
theorem dX4_lead_31 : decode cX4_lead 31 = .ok (.ireturn, 1) := by decide +kernel
theorem dX4_own_0 : decode cX4_own 0 = .ok (.iload_n 1, 1) := by decide +kernel
theorem dX4_own_1 : decode cX4_own 1 = .ok (.ifCond .ne 19, 3) := by decide +kernel
theorem dX4_own_4 : decode cX4_own 4 = .ok (.aload_n 0, 1) := by decide +kernel
theorem dX4_own_5 : decode cX4_own 5 = .ok (.getfield 9, 3) := by decide +kernel
theorem dX4_own_8 : decode cX4_own 8 = .ok (.iconst 1, 1) := by decide +kernel
theorem dX4_own_9 : decode cX4_own 9 = .ok (.laload, 1) := by decide +kernel
theorem dX4_own_10 : decode cX4_own 10 = .ok (.aload_n 0, 1) := by decide +kernel
theorem dX4_own_11 : decode cX4_own 11 = .ok (.getfield 9, 3) := by decide +kernel
theorem dX4_own_14 : decode cX4_own 14 = .ok (.iconst 3, 1) := by decide +kernel
theorem dX4_own_15 : decode cX4_own 15 = .ok (.laload, 1) := by decide +kernel
theorem dX4_own_16 : decode cX4_own 16 = .ok (.lor, 1) := by decide +kernel
theorem dX4_own_17 : decode cX4_own 17 = .ok (.goto 16, 3) := by decide +kernel
theorem dX4_own_20 : decode cX4_own 20 = .ok (.aload_n 0, 1) := by decide +kernel
theorem dX4_own_21 : decode cX4_own 21 = .ok (.getfield 9, 3) := by decide +kernel
theorem dX4_own_24 : decode cX4_own 24 = .ok (.iconst 2, 1) := by decide +kernel
theorem dX4_own_25 : decode cX4_own 25 = .ok (.laload, 1) := by decide +kernel
theorem dX4_own_26 : decode cX4_own 26 = .ok (.aload_n 0, 1) := by decide +kernel
theorem dX4_own_27 : decode cX4_own 27 = .ok (.getfield 9, 3) := by decide +kernel
theorem dX4_own_30 : decode cX4_own 30 = .ok (.iconst 4, 1) := by decide +kernel
theorem dX4_own_31 : decode cX4_own 31 = .ok (.laload, 1) := by decide +kernel
theorem dX4_own_32 : decode cX4_own 32 = .ok (.lor, 1) := by decide +kernel
theorem dX4_own_33 : decode cX4_own 33 = .ok (.lreturn, 1) := by decide +kernel
theorem dX4_open_0 : decode cX4_open 0 = .ok (.aload_n 1, 1) := by decide +kernel
theorem dX4_open_1 : decode cX4_open 1 = .ok (.getfield 45, 3) := by decide +kernel
theorem dX4_open_4 : decode cX4_open 4 = .ok (.aload_n 0, 1) := by decide +kernel
theorem dX4_open_5 : decode cX4_open 5 = .ok (.iload_n 2, 1) := by decide +kernel
theorem dX4_open_6 : decode cX4_open 6 = .ok (.invokevirtual 51, 3) := by decide +kernel
theorem dX4_open_9 : decode cX4_open 9 = .ok (.ldc2_w 54, 3) := by decide +kernel
theorem dX4_open_12 : decode cX4_open 12 = .ok (.lxor, 1) := by decide +kernel
theorem dX4_open_13 : decode cX4_open 13 = .ok (.land, 1) := by decide +kernel
theorem dX4_open_14 : decode cX4_open 14 = .ok (.aload_n 0, 1) := by decide +kernel
theorem dX4_open_15 : decode cX4_open 15 = .ok (.getfield 9, 3) := by decide +kernel
theorem dX4_open_18 : decode cX4_open 18 = .ok (.iconst 5, 1) := by decide +kernel
theorem dX4_open_19 : decode cX4_open 19 = .ok (.laload, 1) := by decide +kernel
theorem dX4_open_20 : decode cX4_open 20 = .ok (.ldc2_w 54, 3) := by decide +kernel
theorem dX4_open_23 : decode cX4_open 23 = .ok (.lxor, 1) := by decide +kernel
theorem dX4_open_24 : decode cX4_open 24 = .ok (.land, 1) := by decide +kernel
theorem dX4_open_25 : decode cX4_open 25 = .ok (.lreturn, 1) := by decide +kernel
theorem dX4_regions_0 : decode cX4_regions 0 = .ok (.aload_n 0, 1) := by decide +kernel
theorem dX4_regions_1 : decode cX4_regions 1 = .ok (.aload_n 1, 1) := by decide +kernel
theorem dX4_regions_2 : decode cX4_regions 2 = .ok (.iload_n 2, 1) := by decide +kernel
theorem dX4_regions_3 : decode cX4_regions 3 = .ok (.invokevirtual 56, 3) := by decide +kernel
theorem dX4_regions_6 : decode cX4_regions 6 = .ok (.lstore_n 3, 1) := by decide +kernel
theorem dX4_regions_7 : decode cX4_regions 7 = .ok (.iconst 0, 1) := by decide +kernel
theorem dX4_regions_8 : decode cX4_regions 8 = .ok (.istore 5, 2) := by decide +kernel
theorem dX4_regions_10 : decode cX4_regions 10 = .ok (.iconst 0, 1) := by decide +kernel
theorem dX4_regions_11 : decode cX4_regions 11 = .ok (.istore 6, 2) := by decide +kernel
theorem dX4_regions_13 : decode cX4_regions 13 = .ok (.iload 6, 2) := by decide +kernel
theorem dX4_regions_15 : decode cX4_regions 15 = .ok (.aload_n 1, 1) := by decide +kernel
theorem dX4_regions_16 : decode cX4_regions 16 = .ok (.getfield 60, 3) := by decide +kernel
theorem dX4_regions_19 : decode cX4_regions 19 = .ok (.if_icmp .ge 46, 3) := by decide +kernel
theorem dX4_regions_22 : decode cX4_regions 22 = .ok (.aload_n 1, 1) := by decide +kernel
theorem dX4_regions_23 : decode cX4_regions 23 = .ok (.lconst 1, 1) := by decide +kernel
theorem dX4_regions_24 : decode cX4_regions 24 = .ok (.iload 6, 2) := by decide +kernel
theorem dX4_regions_26 : decode cX4_regions 26 = .ok (.lshl, 1) := by decide +kernel
theorem dX4_regions_27 : decode cX4_regions 27 = .ok (.lload_n 3, 1) := by decide +kernel
theorem dX4_regions_28 : decode cX4_regions 28 = .ok (.invokevirtual 63, 3) := by decide +kernel
theorem dX4_regions_31 : decode cX4_regions 31 = .ok (.lstore 7, 2) := by decide +kernel
theorem dX4_regions_33 : decode cX4_regions 33 = .ok (.lload_n 3, 1) := by decide +kernel
theorem dX4_regions_34 : decode cX4_regions 34 = .ok (.lload 7, 2) := by decide +kernel
theorem dX4_regions_36 : decode cX4_regions 36 = .ok (.ldc2_w 54, 3) := by decide +kernel
theorem dX4_regions_39 : decode cX4_regions 39 = .ok (.lxor, 1) := by decide +kernel
theorem dX4_regions_40 : decode cX4_regions 40 = .ok (.land, 1) := by decide +kernel
theorem dX4_regions_41 : decode cX4_regions 41 = .ok (.lstore_n 3, 1) := by decide +kernel
theorem dX4_regions_42 : decode cX4_regions 42 = .ok (.iload 5, 2) := by decide +kernel
theorem dX4_regions_44 : decode cX4_regions 44 = .ok (.lload 7, 2) := by decide +kernel
theorem dX4_regions_46 : decode cX4_regions 46 = .ok (.lconst 0, 1) := by decide +kernel
theorem dX4_regions_47 : decode cX4_regions 47 = .ok (.lcmp, 1) := by decide +kernel
theorem dX4_regions_48 : decode cX4_regions 48 = .ok (.ifCond .ne 7, 3) := by decide +kernel
theorem dX4_regions_51 : decode cX4_regions 51 = .ok (.iconst 0, 1) := by decide +kernel
theorem dX4_regions_52 : decode cX4_regions 52 = .ok (.goto 4, 3) := by decide +kernel
theorem dX4_regions_55 : decode cX4_regions 55 = .ok (.iconst 1, 1) := by decide +kernel
theorem dX4_regions_56 : decode cX4_regions 56 = .ok (.iadd, 1) := by decide +kernel
theorem dX4_regions_57 : decode cX4_regions 57 = .ok (.istore 5, 2) := by decide +kernel
theorem dX4_regions_59 : decode cX4_regions 59 = .ok (.iinc 6 1, 3) := by decide +kernel
theorem dX4_regions_62 : decode cX4_regions 62 = .ok (.goto (-49), 3) := by decide +kernel
theorem dX4_regions_65 : decode cX4_regions 65 = .ok (.iload 5, 2) := by decide +kernel
theorem dX4_regions_67 : decode cX4_regions 67 = .ok (.ireturn, 1) := by decide +kernel
theorem dX4_largestRegion_0 : decode cX4_largestRegion 0 = .ok (.aload_n 0, 1) := by decide +kernel
theorem dX4_largestRegion_1 : decode cX4_largestRegion 1 = .ok (.aload_n 1, 1) := by decide +kernel
theorem dX4_largestRegion_2 : decode cX4_largestRegion 2 = .ok (.iload_n 2, 1) := by decide +kernel
theorem dX4_largestRegion_3 : decode cX4_largestRegion 3 = .ok (.invokevirtual 56, 3) := by decide +kernel
theorem dX4_largestRegion_6 : decode cX4_largestRegion 6 = .ok (.lstore_n 3, 1) := by decide +kernel
theorem dX4_largestRegion_7 : decode cX4_largestRegion 7 = .ok (.iconst 0, 1) := by decide +kernel
theorem dX4_largestRegion_8 : decode cX4_largestRegion 8 = .ok (.istore 5, 2) := by decide +kernel
theorem dX4_largestRegion_10 : decode cX4_largestRegion 10 = .ok (.iconst 0, 1) := by decide +kernel
theorem dX4_largestRegion_11 : decode cX4_largestRegion 11 = .ok (.istore 6, 2) := by decide +kernel
theorem dX4_largestRegion_13 : decode cX4_largestRegion 13 = .ok (.iload 6, 2) := by decide +kernel
theorem dX4_largestRegion_15 : decode cX4_largestRegion 15 = .ok (.aload_n 1, 1) := by decide +kernel
theorem dX4_largestRegion_16 : decode cX4_largestRegion 16 = .ok (.getfield 60, 3) := by decide +kernel
theorem dX4_largestRegion_19 : decode cX4_largestRegion 19 = .ok (.if_icmp .ge 28, 3) := by decide +kernel
theorem dX4_largestRegion_22 : decode cX4_largestRegion 22 = .ok (.iload 5, 2) := by decide +kernel
theorem dX4_largestRegion_24 : decode cX4_largestRegion 24 = .ok (.aload_n 1, 1) := by decide +kernel
theorem dX4_largestRegion_25 : decode cX4_largestRegion 25 = .ok (.lconst 1, 1) := by decide +kernel
theorem dX4_largestRegion_26 : decode cX4_largestRegion 26 = .ok (.iload 6, 2) := by decide +kernel
theorem dX4_largestRegion_28 : decode cX4_largestRegion 28 = .ok (.lshl, 1) := by decide +kernel
theorem dX4_largestRegion_29 : decode cX4_largestRegion 29 = .ok (.lload_n 3, 1) := by decide +kernel
theorem dX4_largestRegion_30 : decode cX4_largestRegion 30 = .ok (.invokevirtual 63, 3) := by decide +kernel
theorem dX4_largestRegion_33 : decode cX4_largestRegion 33 = .ok (.invokestatic 32, 3) := by decide +kernel
theorem dX4_largestRegion_36 : decode cX4_largestRegion 36 = .ok (.invokestatic 67, 3) := by decide +kernel
theorem dX4_largestRegion_39 : decode cX4_largestRegion 39 = .ok (.istore 5, 2) := by decide +kernel
theorem dX4_largestRegion_41 : decode cX4_largestRegion 41 = .ok (.iinc 6 1, 3) := by decide +kernel
theorem dX4_largestRegion_44 : decode cX4_largestRegion 44 = .ok (.goto (-31), 3) := by decide +kernel
theorem dX4_largestRegion_47 : decode cX4_largestRegion 47 = .ok (.iload 5, 2) := by decide +kernel
theorem dX4_largestRegion_49 : decode cX4_largestRegion 49 = .ok (.ireturn, 1) := by decide +kernel
theorem dX4_turn_0 : decode cX4_turn 0 = .ok (.iconst 0, 1) := by decide +kernel
theorem dX4_turn_1 : decode cX4_turn 1 = .ok (.istore 4, 2) := by decide +kernel
theorem dX4_turn_3 : decode cX4_turn 3 = .ok (.iload 4, 2) := by decide +kernel
theorem dX4_turn_5 : decode cX4_turn 5 = .ok (.bipush 6, 2) := by decide +kernel
theorem dX4_turn_7 : decode cX4_turn 7 = .ok (.if_icmp .ge 47, 3) := by decide +kernel
theorem dX4_turn_10 : decode cX4_turn 10 = .ok (.aload_n 0, 1) := by decide +kernel
theorem dX4_turn_11 : decode cX4_turn 11 = .ok (.getfield 9, 3) := by decide +kernel
theorem dX4_turn_14 : decode cX4_turn 14 = .ok (.iload 4, 2) := by decide +kernel
theorem dX4_turn_16 : decode cX4_turn 16 = .ok (.iload 4, 2) := by decide +kernel
theorem dX4_turn_18 : decode cX4_turn 18 = .ok (.iload_n 3, 1) := by decide +kernel
theorem dX4_turn_19 : decode cX4_turn 19 = .ok (.if_icmp .ne 15, 3) := by decide +kernel
theorem dX4_turn_22 : decode cX4_turn 22 = .ok (.aload_n 0, 1) := by decide +kernel
theorem dX4_turn_23 : decode cX4_turn 23 = .ok (.getfield 9, 3) := by decide +kernel
theorem dX4_turn_26 : decode cX4_turn 26 = .ok (.iload 4, 2) := by decide +kernel
theorem dX4_turn_28 : decode cX4_turn 28 = .ok (.laload, 1) := by decide +kernel
theorem dX4_turn_29 : decode cX4_turn 29 = .ok (.lload_n 1, 1) := by decide +kernel
theorem dX4_turn_30 : decode cX4_turn 30 = .ok (.lor, 1) := by decide +kernel
theorem dX4_turn_31 : decode cX4_turn 31 = .ok (.goto 16, 3) := by decide +kernel
theorem dX4_turn_34 : decode cX4_turn 34 = .ok (.aload_n 0, 1) := by decide +kernel
theorem dX4_turn_35 : decode cX4_turn 35 = .ok (.getfield 9, 3) := by decide +kernel
theorem dX4_turn_38 : decode cX4_turn 38 = .ok (.iload 4, 2) := by decide +kernel
theorem dX4_turn_40 : decode cX4_turn 40 = .ok (.laload, 1) := by decide +kernel
theorem dX4_turn_41 : decode cX4_turn 41 = .ok (.lload_n 1, 1) := by decide +kernel
theorem dX4_turn_42 : decode cX4_turn 42 = .ok (.ldc2_w 54, 3) := by decide +kernel
theorem dX4_turn_45 : decode cX4_turn 45 = .ok (.lxor, 1) := by decide +kernel
theorem dX4_turn_46 : decode cX4_turn 46 = .ok (.land, 1) := by decide +kernel
theorem dX4_turn_47 : decode cX4_turn 47 = .ok (.lastore, 1) := by decide +kernel
theorem dX4_turn_48 : decode cX4_turn 48 = .ok (.iinc 4 1, 3) := by decide +kernel
theorem dX4_turn_51 : decode cX4_turn 51 = .ok (.goto (-48), 3) := by decide +kernel
theorem dX4_turn_54 : decode cX4_turn 54 = .ok (.return_, 1) := by decide +kernel
theorem dX4_give_0 : decode cX4_give 0 = .ok (.iload_n 1, 1) := by decide +kernel
theorem dX4_give_1 : decode cX4_give 1 = .ok (.iconst (-1), 1) := by decide +kernel
theorem dX4_give_2 : decode cX4_give 2 = .ok (.if_icmp .eq 7, 3) := by decide +kernel
theorem dX4_give_5 : decode cX4_give 5 = .ok (.iload_n 2, 1) := by decide +kernel
theorem dX4_give_6 : decode cX4_give 6 = .ok (.ifCond .ne 5, 3) := by decide +kernel
theorem dX4_give_9 : decode cX4_give 9 = .ok (.lconst 0, 1) := by decide +kernel
theorem dX4_give_10 : decode cX4_give 10 = .ok (.lreturn, 1) := by decide +kernel
theorem dX4_give_11 : decode cX4_give 11 = .ok (.lconst 1, 1) := by decide +kernel
theorem dX4_give_12 : decode cX4_give 12 = .ok (.iload_n 1, 1) := by decide +kernel
theorem dX4_give_13 : decode cX4_give 13 = .ok (.lshl, 1) := by decide +kernel
theorem dX4_give_14 : decode cX4_give 14 = .ok (.lstore_n 3, 1) := by decide +kernel
theorem dX4_give_15 : decode cX4_give 15 = .ok (.aload_n 0, 1) := by decide +kernel
theorem dX4_give_16 : decode cX4_give 16 = .ok (.lload_n 3, 1) := by decide +kernel
theorem dX4_give_17 : decode cX4_give 17 = .ok (.iload_n 2, 1) := by decide +kernel
theorem dX4_give_18 : decode cX4_give 18 = .ok (.invokevirtual 73, 3) := by decide +kernel
theorem dX4_give_21 : decode cX4_give 21 = .ok (.lload_n 3, 1) := by decide +kernel
theorem dX4_give_22 : decode cX4_give 22 = .ok (.lreturn, 1) := by decide +kernel
theorem dX4_capture_0 : decode cX4_capture 0 = .ok (.aload_n 0, 1) := by decide +kernel
theorem dX4_capture_1 : decode cX4_capture 1 = .ok (.aload_n 1, 1) := by decide +kernel
theorem dX4_capture_2 : decode cX4_capture 2 = .ok (.iconst 0, 1) := by decide +kernel
theorem dX4_capture_3 : decode cX4_capture 3 = .ok (.invokevirtual 56, 3) := by decide +kernel
theorem dX4_capture_6 : decode cX4_capture 6 = .ok (.lstore_n 2, 1) := by decide +kernel
theorem dX4_capture_7 : decode cX4_capture 7 = .ok (.aload_n 0, 1) := by decide +kernel
theorem dX4_capture_8 : decode cX4_capture 8 = .ok (.aload_n 1, 1) := by decide +kernel
theorem dX4_capture_9 : decode cX4_capture 9 = .ok (.iconst 1, 1) := by decide +kernel
theorem dX4_capture_10 : decode cX4_capture 10 = .ok (.invokevirtual 56, 3) := by decide +kernel
theorem dX4_capture_13 : decode cX4_capture 13 = .ok (.lstore 4, 2) := by decide +kernel
theorem dX4_capture_15 : decode cX4_capture 15 = .ok (.lload_n 2, 1) := by decide +kernel
theorem dX4_capture_16 : decode cX4_capture 16 = .ok (.aload_n 1, 1) := by decide +kernel
theorem dX4_capture_17 : decode cX4_capture 17 = .ok (.aload_n 1, 1) := by decide +kernel
theorem dX4_capture_18 : decode cX4_capture 18 = .ok (.getfield 77, 3) := by decide +kernel
theorem dX4_capture_21 : decode cX4_capture 21 = .ok (.lload_n 2, 1) := by decide +kernel
theorem dX4_capture_22 : decode cX4_capture 22 = .ok (.invokevirtual 63, 3) := by decide +kernel
theorem dX4_capture_25 : decode cX4_capture 25 = .ok (.ldc2_w 54, 3) := by decide +kernel
theorem dX4_capture_28 : decode cX4_capture 28 = .ok (.lxor, 1) := by decide +kernel
theorem dX4_capture_29 : decode cX4_capture 29 = .ok (.land, 1) := by decide +kernel
theorem dX4_capture_30 : decode cX4_capture 30 = .ok (.lstore 6, 2) := by decide +kernel
theorem dX4_capture_32 : decode cX4_capture 32 = .ok (.lload 4, 2) := by decide +kernel
theorem dX4_capture_34 : decode cX4_capture 34 = .ok (.aload_n 1, 1) := by decide +kernel
theorem dX4_capture_35 : decode cX4_capture 35 = .ok (.aload_n 1, 1) := by decide +kernel
theorem dX4_capture_36 : decode cX4_capture 36 = .ok (.getfield 77, 3) := by decide +kernel
theorem dX4_capture_39 : decode cX4_capture 39 = .ok (.lload 4, 2) := by decide +kernel
theorem dX4_capture_41 : decode cX4_capture 41 = .ok (.invokevirtual 63, 3) := by decide +kernel
theorem dX4_capture_44 : decode cX4_capture 44 = .ok (.ldc2_w 54, 3) := by decide +kernel
theorem dX4_capture_47 : decode cX4_capture 47 = .ok (.lxor, 1) := by decide +kernel
theorem dX4_capture_48 : decode cX4_capture 48 = .ok (.land, 1) := by decide +kernel
theorem dX4_capture_49 : decode cX4_capture 49 = .ok (.lstore 8, 2) := by decide +kernel
theorem dX4_capture_51 : decode cX4_capture 51 = .ok (.lload 6, 2) := by decide +kernel
theorem dX4_capture_53 : decode cX4_capture 53 = .ok (.lload 8, 2) := by decide +kernel
theorem dX4_capture_55 : decode cX4_capture 55 = .ok (.land, 1) := by decide +kernel
theorem dX4_capture_56 : decode cX4_capture 56 = .ok (.lstore 10, 2) := by decide +kernel
theorem dX4_capture_58 : decode cX4_capture 58 = .ok (.lload 6, 2) := by decide +kernel
theorem dX4_capture_60 : decode cX4_capture 60 = .ok (.lload 10, 2) := by decide +kernel
theorem dX4_capture_62 : decode cX4_capture 62 = .ok (.ldc2_w 54, 3) := by decide +kernel
theorem dX4_capture_65 : decode cX4_capture 65 = .ok (.lxor, 1) := by decide +kernel
theorem dX4_capture_66 : decode cX4_capture 66 = .ok (.land, 1) := by decide +kernel
theorem dX4_capture_67 : decode cX4_capture 67 = .ok (.aload_n 1, 1) := by decide +kernel
theorem dX4_capture_68 : decode cX4_capture 68 = .ok (.lload 10, 2) := by decide +kernel
theorem dX4_capture_70 : decode cX4_capture 70 = .ok (.lload_n 2, 1) := by decide +kernel
theorem dX4_capture_71 : decode cX4_capture 71 = .ok (.lload 4, 2) := by decide +kernel
theorem dX4_capture_73 : decode cX4_capture 73 = .ok (.invokestatic 80, 3) := by decide +kernel
theorem dX4_capture_76 : decode cX4_capture 76 = .ok (.lor, 1) := by decide +kernel
theorem dX4_capture_77 : decode cX4_capture 77 = .ok (.lstore 12, 2) := by decide +kernel
theorem dX4_capture_79 : decode cX4_capture 79 = .ok (.lload 8, 2) := by decide +kernel
theorem dX4_capture_81 : decode cX4_capture 81 = .ok (.lload 10, 2) := by decide +kernel
theorem dX4_capture_83 : decode cX4_capture 83 = .ok (.ldc2_w 54, 3) := by decide +kernel
theorem dX4_capture_86 : decode cX4_capture 86 = .ok (.lxor, 1) := by decide +kernel
theorem dX4_capture_87 : decode cX4_capture 87 = .ok (.land, 1) := by decide +kernel
theorem dX4_capture_88 : decode cX4_capture 88 = .ok (.aload_n 1, 1) := by decide +kernel
theorem dX4_capture_89 : decode cX4_capture 89 = .ok (.lload 10, 2) := by decide +kernel
theorem dX4_capture_91 : decode cX4_capture 91 = .ok (.lload 4, 2) := by decide +kernel
theorem dX4_capture_93 : decode cX4_capture 93 = .ok (.lload_n 2, 1) := by decide +kernel
theorem dX4_capture_94 : decode cX4_capture 94 = .ok (.invokestatic 80, 3) := by decide +kernel
theorem dX4_capture_97 : decode cX4_capture 97 = .ok (.lor, 1) := by decide +kernel
theorem dX4_capture_98 : decode cX4_capture 98 = .ok (.lstore 14, 2) := by decide +kernel
theorem dX4_capture_100 : decode cX4_capture 100 = .ok (.aload_n 0, 1) := by decide +kernel
theorem dX4_capture_101 : decode cX4_capture 101 = .ok (.dup, 1) := by decide +kernel
theorem dX4_capture_102 : decode cX4_capture 102 = .ok (.getfield 15, 3) := by decide +kernel
theorem dX4_capture_105 : decode cX4_capture 105 = .ok (.lload 12, 2) := by decide +kernel
theorem dX4_capture_107 : decode cX4_capture 107 = .ok (.aload_n 0, 1) := by decide +kernel
theorem dX4_capture_108 : decode cX4_capture 108 = .ok (.getfield 9, 3) := by decide +kernel
theorem dX4_capture_111 : decode cX4_capture 111 = .ok (.iconst 2, 1) := by decide +kernel
theorem dX4_capture_112 : decode cX4_capture 112 = .ok (.laload, 1) := by decide +kernel
theorem dX4_capture_113 : decode cX4_capture 113 = .ok (.land, 1) := by decide +kernel
theorem dX4_capture_114 : decode cX4_capture 114 = .ok (.invokestatic 32, 3) := by decide +kernel
theorem dX4_capture_117 : decode cX4_capture 117 = .ok (.iadd, 1) := by decide +kernel
theorem dX4_capture_118 : decode cX4_capture 118 = .ok (.putfield 15, 3) := by decide +kernel
theorem dX4_capture_121 : decode cX4_capture 121 = .ok (.aload_n 0, 1) := by decide +kernel
theorem dX4_capture_122 : decode cX4_capture 122 = .ok (.dup, 1) := by decide +kernel
theorem dX4_capture_123 : decode cX4_capture 123 = .ok (.getfield 19, 3) := by decide +kernel
theorem dX4_capture_126 : decode cX4_capture 126 = .ok (.lload 14, 2) := by decide +kernel
theorem dX4_capture_128 : decode cX4_capture 128 = .ok (.aload_n 0, 1) := by decide +kernel
theorem dX4_capture_129 : decode cX4_capture 129 = .ok (.getfield 9, 3) := by decide +kernel
theorem dX4_capture_132 : decode cX4_capture 132 = .ok (.iconst 1, 1) := by decide +kernel
theorem dX4_capture_133 : decode cX4_capture 133 = .ok (.laload, 1) := by decide +kernel
theorem dX4_capture_134 : decode cX4_capture 134 = .ok (.land, 1) := by decide +kernel
theorem dX4_capture_135 : decode cX4_capture 135 = .ok (.invokestatic 32, 3) := by decide +kernel
theorem dX4_capture_138 : decode cX4_capture 138 = .ok (.iadd, 1) := by decide +kernel
theorem dX4_capture_139 : decode cX4_capture 139 = .ok (.putfield 19, 3) := by decide +kernel
theorem dX4_capture_142 : decode cX4_capture 142 = .ok (.aload_n 0, 1) := by decide +kernel
theorem dX4_capture_143 : decode cX4_capture 143 = .ok (.lload 12, 2) := by decide +kernel
theorem dX4_capture_145 : decode cX4_capture 145 = .ok (.iconst 3, 1) := by decide +kernel
theorem dX4_capture_146 : decode cX4_capture 146 = .ok (.invokevirtual 73, 3) := by decide +kernel
theorem dX4_capture_149 : decode cX4_capture 149 = .ok (.aload_n 0, 1) := by decide +kernel
theorem dX4_capture_150 : decode cX4_capture 150 = .ok (.lload 14, 2) := by decide +kernel
theorem dX4_capture_152 : decode cX4_capture 152 = .ok (.iconst 4, 1) := by decide +kernel
theorem dX4_capture_153 : decode cX4_capture 153 = .ok (.invokevirtual 73, 3) := by decide +kernel
theorem dX4_capture_156 : decode cX4_capture 156 = .ok (.lload 12, 2) := by decide +kernel
theorem dX4_capture_158 : decode cX4_capture 158 = .ok (.lload 14, 2) := by decide +kernel
theorem dX4_capture_160 : decode cX4_capture 160 = .ok (.lor, 1) := by decide +kernel
theorem dX4_capture_161 : decode cX4_capture 161 = .ok (.lreturn, 1) := by decide +kernel
theorem dX4_inLargerRegion_0 : decode cX4_inLargerRegion 0 = .ok (.lconst 0, 1) := by decide +kernel
theorem dX4_inLargerRegion_1 : decode cX4_inLargerRegion 1 = .ok (.lstore 7, 2) := by decide +kernel
theorem dX4_inLargerRegion_3 : decode cX4_inLargerRegion 3 = .ok (.iconst 0, 1) := by decide +kernel
theorem dX4_inLargerRegion_4 : decode cX4_inLargerRegion 4 = .ok (.istore 9, 2) := by decide +kernel
theorem dX4_inLargerRegion_6 : decode cX4_inLargerRegion 6 = .ok (.lload_n 1, 1) := by decide +kernel
theorem dX4_inLargerRegion_7 : decode cX4_inLargerRegion 7 = .ok (.lconst 0, 1) := by decide +kernel
theorem dX4_inLargerRegion_8 : decode cX4_inLargerRegion 8 = .ok (.lcmp, 1) := by decide +kernel
theorem dX4_inLargerRegion_9 : decode cX4_inLargerRegion 9 = .ok (.ifCond .eq 57, 3) := by decide +kernel
theorem dX4_inLargerRegion_12 : decode cX4_inLargerRegion 12 = .ok (.iload 9, 2) := by decide +kernel
theorem dX4_inLargerRegion_14 : decode cX4_inLargerRegion 14 = .ok (.aload_n 0, 1) := by decide +kernel
theorem dX4_inLargerRegion_15 : decode cX4_inLargerRegion 15 = .ok (.getfield 60, 3) := by decide +kernel
theorem dX4_inLargerRegion_18 : decode cX4_inLargerRegion 18 = .ok (.if_icmp .ge 48, 3) := by decide +kernel
theorem dX4_inLargerRegion_21 : decode cX4_inLargerRegion 21 = .ok (.lload_n 1, 1) := by decide +kernel
theorem dX4_inLargerRegion_22 : decode cX4_inLargerRegion 22 = .ok (.lconst 1, 1) := by decide +kernel
theorem dX4_inLargerRegion_23 : decode cX4_inLargerRegion 23 = .ok (.iload 9, 2) := by decide +kernel
theorem dX4_inLargerRegion_25 : decode cX4_inLargerRegion 25 = .ok (.lshl, 1) := by decide +kernel
theorem dX4_inLargerRegion_26 : decode cX4_inLargerRegion 26 = .ok (.land, 1) := by decide +kernel
theorem dX4_inLargerRegion_27 : decode cX4_inLargerRegion 27 = .ok (.lstore 10, 2) := by decide +kernel
theorem dX4_inLargerRegion_29 : decode cX4_inLargerRegion 29 = .ok (.aload_n 0, 1) := by decide +kernel
theorem dX4_inLargerRegion_30 : decode cX4_inLargerRegion 30 = .ok (.lload 10, 2) := by decide +kernel
theorem dX4_inLargerRegion_32 : decode cX4_inLargerRegion 32 = .ok (.lload_n 3, 1) := by decide +kernel
theorem dX4_inLargerRegion_33 : decode cX4_inLargerRegion 33 = .ok (.invokevirtual 63, 3) := by decide +kernel
theorem dX4_inLargerRegion_36 : decode cX4_inLargerRegion 36 = .ok (.invokestatic 32, 3) := by decide +kernel
theorem dX4_inLargerRegion_39 : decode cX4_inLargerRegion 39 = .ok (.aload_n 0, 1) := by decide +kernel
theorem dX4_inLargerRegion_40 : decode cX4_inLargerRegion 40 = .ok (.lload 10, 2) := by decide +kernel
theorem dX4_inLargerRegion_42 : decode cX4_inLargerRegion 42 = .ok (.lload 5, 2) := by decide +kernel
theorem dX4_inLargerRegion_44 : decode cX4_inLargerRegion 44 = .ok (.invokevirtual 63, 3) := by decide +kernel
theorem dX4_inLargerRegion_47 : decode cX4_inLargerRegion 47 = .ok (.invokestatic 32, 3) := by decide +kernel
theorem dX4_inLargerRegion_50 : decode cX4_inLargerRegion 50 = .ok (.if_icmp .le 10, 3) := by decide +kernel
theorem dX4_inLargerRegion_53 : decode cX4_inLargerRegion 53 = .ok (.lload 7, 2) := by decide +kernel
theorem dX4_inLargerRegion_55 : decode cX4_inLargerRegion 55 = .ok (.lload 10, 2) := by decide +kernel
theorem dX4_inLargerRegion_57 : decode cX4_inLargerRegion 57 = .ok (.lor, 1) := by decide +kernel
theorem dX4_inLargerRegion_58 : decode cX4_inLargerRegion 58 = .ok (.lstore 7, 2) := by decide +kernel
theorem dX4_inLargerRegion_60 : decode cX4_inLargerRegion 60 = .ok (.iinc 9 1, 3) := by decide +kernel
theorem dX4_inLargerRegion_63 : decode cX4_inLargerRegion 63 = .ok (.goto (-57), 3) := by decide +kernel
theorem dX4_inLargerRegion_66 : decode cX4_inLargerRegion 66 = .ok (.lload 7, 2) := by decide +kernel
theorem dX4_inLargerRegion_68 : decode cX4_inLargerRegion 68 = .ok (.lreturn, 1) := by decide +kernel
theorem dX4_stonesAround_0 : decode cX4_stonesAround 0 = .ok (.lconst 1, 1) := by decide +kernel
theorem dX4_stonesAround_1 : decode cX4_stonesAround 1 = .ok (.iload_n 3, 1) := by decide +kernel
theorem dX4_stonesAround_2 : decode cX4_stonesAround 2 = .ok (.lshl, 1) := by decide +kernel
theorem dX4_stonesAround_3 : decode cX4_stonesAround 3 = .ok (.lstore 4, 2) := by decide +kernel
theorem dX4_stonesAround_5 : decode cX4_stonesAround 5 = .ok (.aload_n 0, 1) := by decide +kernel
theorem dX4_stonesAround_6 : decode cX4_stonesAround 6 = .ok (.aload_n 1, 1) := by decide +kernel
theorem dX4_stonesAround_7 : decode cX4_stonesAround 7 = .ok (.iload_n 2, 1) := by decide +kernel
theorem dX4_stonesAround_8 : decode cX4_stonesAround 8 = .ok (.invokevirtual 56, 3) := by decide +kernel
theorem dX4_stonesAround_11 : decode cX4_stonesAround 11 = .ok (.lstore 6, 2) := by decide +kernel
theorem dX4_stonesAround_13 : decode cX4_stonesAround 13 = .ok (.aload_n 0, 1) := by decide +kernel
theorem dX4_stonesAround_14 : decode cX4_stonesAround 14 = .ok (.getfield 9, 3) := by decide +kernel
theorem dX4_stonesAround_17 : decode cX4_stonesAround 17 = .ok (.iconst 0, 1) := by decide +kernel
theorem dX4_stonesAround_18 : decode cX4_stonesAround 18 = .ok (.laload, 1) := by decide +kernel
theorem dX4_stonesAround_19 : decode cX4_stonesAround 19 = .ok (.lload 4, 2) := by decide +kernel
theorem dX4_stonesAround_21 : decode cX4_stonesAround 21 = .ok (.ldc2_w 54, 3) := by decide +kernel
theorem dX4_stonesAround_24 : decode cX4_stonesAround 24 = .ok (.lxor, 1) := by decide +kernel
theorem dX4_stonesAround_25 : decode cX4_stonesAround 25 = .ok (.land, 1) := by decide +kernel
theorem dX4_stonesAround_26 : decode cX4_stonesAround 26 = .ok (.lstore 8, 2) := by decide +kernel
theorem dX4_stonesAround_28 : decode cX4_stonesAround 28 = .ok (.aload_n 1, 1) := by decide +kernel
theorem dX4_stonesAround_29 : decode cX4_stonesAround 29 = .ok (.lload 4, 2) := by decide +kernel
theorem dX4_stonesAround_31 : decode cX4_stonesAround 31 = .ok (.lload 6, 2) := by decide +kernel
theorem dX4_stonesAround_33 : decode cX4_stonesAround 33 = .ok (.invokevirtual 84, 3) := by decide +kernel
theorem dX4_stonesAround_36 : decode cX4_stonesAround 36 = .ok (.ifCond .eq 5, 3) := by decide +kernel
theorem dX4_stonesAround_39 : decode cX4_stonesAround 39 = .ok (.iconst 0, 1) := by decide +kernel
theorem dX4_stonesAround_40 : decode cX4_stonesAround 40 = .ok (.ireturn, 1) := by decide +kernel
theorem dX4_stonesAround_41 : decode cX4_stonesAround 41 = .ok (.aload_n 1, 1) := by decide +kernel
theorem dX4_stonesAround_42 : decode cX4_stonesAround 42 = .ok (.lload 4, 2) := by decide +kernel
theorem dX4_stonesAround_44 : decode cX4_stonesAround 44 = .ok (.lload 6, 2) := by decide +kernel
theorem dX4_stonesAround_46 : decode cX4_stonesAround 46 = .ok (.lload 8, 2) := by decide +kernel
theorem dX4_stonesAround_48 : decode cX4_stonesAround 48 = .ok (.invokestatic 88, 3) := by decide +kernel
theorem dX4_stonesAround_51 : decode cX4_stonesAround 51 = .ok (.ifCond .eq 5, 3) := by decide +kernel
theorem dX4_stonesAround_54 : decode cX4_stonesAround 54 = .ok (.iconst 1, 1) := by decide +kernel
theorem dX4_stonesAround_55 : decode cX4_stonesAround 55 = .ok (.ireturn, 1) := by decide +kernel
theorem dX4_stonesAround_56 : decode cX4_stonesAround 56 = .ok (.iconst 0, 1) := by decide +kernel
theorem dX4_stonesAround_57 : decode cX4_stonesAround 57 = .ok (.istore 10, 2) := by decide +kernel
theorem dX4_stonesAround_59 : decode cX4_stonesAround 59 = .ok (.iload 10, 2) := by decide +kernel
theorem dX4_stonesAround_61 : decode cX4_stonesAround 61 = .ok (.aload_n 1, 1) := by decide +kernel
theorem dX4_stonesAround_62 : decode cX4_stonesAround 62 = .ok (.getfield 60, 3) := by decide +kernel
theorem dX4_stonesAround_65 : decode cX4_stonesAround 65 = .ok (.if_icmp .ge 58, 3) := by decide +kernel
theorem dX4_stonesAround_68 : decode cX4_stonesAround 68 = .ok (.lload 8, 2) := by decide +kernel
theorem dX4_stonesAround_70 : decode cX4_stonesAround 70 = .ok (.lconst 1, 1) := by decide +kernel
theorem dX4_stonesAround_71 : decode cX4_stonesAround 71 = .ok (.iload 10, 2) := by decide +kernel
theorem dX4_stonesAround_73 : decode cX4_stonesAround 73 = .ok (.lshl, 1) := by decide +kernel
theorem dX4_stonesAround_74 : decode cX4_stonesAround 74 = .ok (.land, 1) := by decide +kernel
theorem dX4_stonesAround_75 : decode cX4_stonesAround 75 = .ok (.lstore 11, 2) := by decide +kernel
theorem dX4_stonesAround_77 : decode cX4_stonesAround 77 = .ok (.lload 8, 2) := by decide +kernel
theorem dX4_stonesAround_79 : decode cX4_stonesAround 79 = .ok (.lload 11, 2) := by decide +kernel
theorem dX4_stonesAround_81 : decode cX4_stonesAround 81 = .ok (.ldc2_w 54, 3) := by decide +kernel
theorem dX4_stonesAround_84 : decode cX4_stonesAround 84 = .ok (.lxor, 1) := by decide +kernel
theorem dX4_stonesAround_85 : decode cX4_stonesAround 85 = .ok (.land, 1) := by decide +kernel
theorem dX4_stonesAround_86 : decode cX4_stonesAround 86 = .ok (.lstore 8, 2) := by decide +kernel
theorem dX4_stonesAround_88 : decode cX4_stonesAround 88 = .ok (.lload 11, 2) := by decide +kernel
theorem dX4_stonesAround_90 : decode cX4_stonesAround 90 = .ok (.lconst 0, 1) := by decide +kernel
theorem dX4_stonesAround_91 : decode cX4_stonesAround 91 = .ok (.lcmp, 1) := by decide +kernel
theorem dX4_stonesAround_92 : decode cX4_stonesAround 92 = .ok (.ifCond .eq 25, 3) := by decide +kernel
theorem dX4_stonesAround_95 : decode cX4_stonesAround 95 = .ok (.aload_n 1, 1) := by decide +kernel
theorem dX4_stonesAround_96 : decode cX4_stonesAround 96 = .ok (.lload 4, 2) := by decide +kernel
theorem dX4_stonesAround_98 : decode cX4_stonesAround 98 = .ok (.lload 6, 2) := by decide +kernel
theorem dX4_stonesAround_100 : decode cX4_stonesAround 100 = .ok (.lload 11, 2) := by decide +kernel
theorem dX4_stonesAround_102 : decode cX4_stonesAround 102 = .ok (.ldc2_w 54, 3) := by decide +kernel
theorem dX4_stonesAround_105 : decode cX4_stonesAround 105 = .ok (.lxor, 1) := by decide +kernel
theorem dX4_stonesAround_106 : decode cX4_stonesAround 106 = .ok (.land, 1) := by decide +kernel
theorem dX4_stonesAround_107 : decode cX4_stonesAround 107 = .ok (.lload 8, 2) := by decide +kernel
theorem dX4_stonesAround_109 : decode cX4_stonesAround 109 = .ok (.invokestatic 88, 3) := by decide +kernel
theorem dX4_stonesAround_112 : decode cX4_stonesAround 112 = .ok (.ifCond .eq 5, 3) := by decide +kernel
theorem dX4_stonesAround_115 : decode cX4_stonesAround 115 = .ok (.iconst 2, 1) := by decide +kernel
theorem dX4_stonesAround_116 : decode cX4_stonesAround 116 = .ok (.ireturn, 1) := by decide +kernel
theorem dX4_stonesAround_117 : decode cX4_stonesAround 117 = .ok (.iinc 10 1, 3) := by decide +kernel
theorem dX4_stonesAround_120 : decode cX4_stonesAround 120 = .ok (.goto (-61), 3) := by decide +kernel
theorem dX4_stonesAround_123 : decode cX4_stonesAround 123 = .ok (.iconst 3, 1) := by decide +kernel
theorem dX4_stonesAround_124 : decode cX4_stonesAround 124 = .ok (.ireturn, 1) := by decide +kernel
theorem dX4_oneStoneEncloses_0 : decode cX4_oneStoneEncloses 0 = .ok (.iconst 0, 1) := by decide +kernel
theorem dX4_oneStoneEncloses_1 : decode cX4_oneStoneEncloses 1 = .ok (.istore 7, 2) := by decide +kernel
theorem dX4_oneStoneEncloses_3 : decode cX4_oneStoneEncloses 3 = .ok (.iload 7, 2) := by decide +kernel
theorem dX4_oneStoneEncloses_5 : decode cX4_oneStoneEncloses 5 = .ok (.aload_n 0, 1) := by decide +kernel
theorem dX4_oneStoneEncloses_6 : decode cX4_oneStoneEncloses 6 = .ok (.getfield 60, 3) := by decide +kernel
theorem dX4_oneStoneEncloses_9 : decode cX4_oneStoneEncloses 9 = .ok (.if_icmp .ge 43, 3) := by decide +kernel
theorem dX4_oneStoneEncloses_12 : decode cX4_oneStoneEncloses 12 = .ok (.lload 5, 2) := by decide +kernel
theorem dX4_oneStoneEncloses_14 : decode cX4_oneStoneEncloses 14 = .ok (.lconst 1, 1) := by decide +kernel
theorem dX4_oneStoneEncloses_15 : decode cX4_oneStoneEncloses 15 = .ok (.iload 7, 2) := by decide +kernel
theorem dX4_oneStoneEncloses_17 : decode cX4_oneStoneEncloses 17 = .ok (.lshl, 1) := by decide +kernel
theorem dX4_oneStoneEncloses_18 : decode cX4_oneStoneEncloses 18 = .ok (.land, 1) := by decide +kernel
theorem dX4_oneStoneEncloses_19 : decode cX4_oneStoneEncloses 19 = .ok (.lstore 8, 2) := by decide +kernel
theorem dX4_oneStoneEncloses_21 : decode cX4_oneStoneEncloses 21 = .ok (.lload 8, 2) := by decide +kernel
theorem dX4_oneStoneEncloses_23 : decode cX4_oneStoneEncloses 23 = .ok (.lconst 0, 1) := by decide +kernel
theorem dX4_oneStoneEncloses_24 : decode cX4_oneStoneEncloses 24 = .ok (.lcmp, 1) := by decide +kernel
theorem dX4_oneStoneEncloses_25 : decode cX4_oneStoneEncloses 25 = .ok (.ifCond .eq 21, 3) := by decide +kernel
theorem dX4_oneStoneEncloses_28 : decode cX4_oneStoneEncloses 28 = .ok (.aload_n 0, 1) := by decide +kernel
theorem dX4_oneStoneEncloses_29 : decode cX4_oneStoneEncloses 29 = .ok (.lload_n 1, 1) := by decide +kernel
theorem dX4_oneStoneEncloses_30 : decode cX4_oneStoneEncloses 30 = .ok (.lload_n 3, 1) := by decide +kernel
theorem dX4_oneStoneEncloses_31 : decode cX4_oneStoneEncloses 31 = .ok (.lload 8, 2) := by decide +kernel
theorem dX4_oneStoneEncloses_33 : decode cX4_oneStoneEncloses 33 = .ok (.ldc2_w 54, 3) := by decide +kernel
theorem dX4_oneStoneEncloses_36 : decode cX4_oneStoneEncloses 36 = .ok (.lxor, 1) := by decide +kernel
theorem dX4_oneStoneEncloses_37 : decode cX4_oneStoneEncloses 37 = .ok (.land, 1) := by decide +kernel
theorem dX4_oneStoneEncloses_38 : decode cX4_oneStoneEncloses 38 = .ok (.invokevirtual 84, 3) := by decide +kernel
theorem dX4_oneStoneEncloses_41 : decode cX4_oneStoneEncloses 41 = .ok (.ifCond .eq 5, 3) := by decide +kernel
theorem dX4_oneStoneEncloses_44 : decode cX4_oneStoneEncloses 44 = .ok (.iconst 1, 1) := by decide +kernel
theorem dX4_oneStoneEncloses_45 : decode cX4_oneStoneEncloses 45 = .ok (.ireturn, 1) := by decide +kernel
theorem dX4_oneStoneEncloses_46 : decode cX4_oneStoneEncloses 46 = .ok (.iinc 7 1, 3) := by decide +kernel
theorem dX4_oneStoneEncloses_49 : decode cX4_oneStoneEncloses 49 = .ok (.goto (-46), 3) := by decide +kernel
theorem dX4_oneStoneEncloses_52 : decode cX4_oneStoneEncloses 52 = .ok (.iconst 0, 1) := by decide +kernel
theorem dX4_oneStoneEncloses_53 : decode cX4_oneStoneEncloses 53 = .ok (.ireturn, 1) := by decide +kernel
theorem dX5_init_0 : decode cX5_init 0 = .ok (.aload_n 0, 1) := by decide +kernel
theorem dX5_init_1 : decode cX5_init 1 = .ok (.invokespecial 3, 3) := by decide +kernel
theorem dX5_init_4 : decode cX5_init 4 = .ok (.aload_n 0, 1) := by decide +kernel
theorem dX5_init_5 : decode cX5_init 5 = .ok (.iconst 4, 1) := by decide +kernel
theorem dX5_init_6 : decode cX5_init 6 = .ok (.newarray .int, 2) := by decide +kernel
theorem dX5_init_8 : decode cX5_init 8 = .ok (.putfield 9, 3) := by decide +kernel
theorem dX5_init_11 : decode cX5_init 11 = .ok (.aload_n 0, 1) := by decide +kernel
theorem dX5_init_12 : decode cX5_init 12 = .ok (.iconst 4, 1) := by decide +kernel
theorem dX5_init_13 : decode cX5_init 13 = .ok (.newarray .int, 2) := by decide +kernel
theorem dX5_init_15 : decode cX5_init 15 = .ok (.putfield 15, 3) := by decide +kernel
theorem dX5_init_18 : decode cX5_init 18 = .ok (.return_, 1) := by decide +kernel
theorem dX5_tell_0 : decode cX5_tell 0 = .ok (.aload_n 0, 1) := by decide +kernel
theorem dX5_tell_1 : decode cX5_tell 1 = .ok (.iconst 0, 1) := by decide +kernel
theorem dX5_tell_2 : decode cX5_tell 2 = .ok (.putfield 18, 3) := by decide +kernel
theorem dX5_tell_5 : decode cX5_tell 5 = .ok (.aload_n 0, 1) := by decide +kernel
theorem dX5_tell_6 : decode cX5_tell 6 = .ok (.iconst 1, 1) := by decide +kernel
theorem dX5_tell_7 : decode cX5_tell 7 = .ok (.aload_n 1, 1) := by decide +kernel
theorem dX5_tell_8 : decode cX5_tell 8 = .ok (.getfield 22, 3) := by decide +kernel
theorem dX5_tell_11 : decode cX5_tell 11 = .ok (.invokevirtual 27, 3) := by decide +kernel
theorem dX5_tell_14 : decode cX5_tell 14 = .ok (.aload_n 0, 1) := by decide +kernel
theorem dX5_tell_15 : decode cX5_tell 15 = .ok (.iload_n 2, 1) := by decide +kernel
theorem dX5_tell_16 : decode cX5_tell 16 = .ok (.iload_n 3, 1) := by decide +kernel
theorem dX5_tell_17 : decode cX5_tell 17 = .ok (.invokevirtual 27, 3) := by decide +kernel
theorem dX5_tell_20 : decode cX5_tell 20 = .ok (.aload_n 1, 1) := by decide +kernel
theorem dX5_tell_21 : decode cX5_tell 21 = .ok (.iload_n 3, 1) := by decide +kernel
theorem dX5_tell_22 : decode cX5_tell 22 = .ok (.invokevirtual 31, 3) := by decide +kernel
theorem dX5_tell_25 : decode cX5_tell 25 = .ok (.istore 4, 2) := by decide +kernel
theorem dX5_tell_27 : decode cX5_tell 27 = .ok (.aload_n 0, 1) := by decide +kernel
theorem dX5_tell_28 : decode cX5_tell 28 = .ok (.bipush 10, 2) := by decide +kernel
theorem dX5_tell_30 : decode cX5_tell 30 = .ok (.aload_n 1, 1) := by decide +kernel
theorem dX5_tell_31 : decode cX5_tell 31 = .ok (.invokevirtual 35, 3) := by decide +kernel
theorem dX5_tell_34 : decode cX5_tell 34 = .ok (.iload_n 3, 1) := by decide +kernel
theorem dX5_tell_35 : decode cX5_tell 35 = .ok (.invokevirtual 39, 3) := by decide +kernel
theorem dX5_tell_38 : decode cX5_tell 38 = .ok (.iadd, 1) := by decide +kernel
theorem dX5_tell_39 : decode cX5_tell 39 = .ok (.iload 4, 2) := by decide +kernel
theorem dX5_tell_41 : decode cX5_tell 41 = .ok (.invokevirtual 27, 3) := by decide +kernel
theorem dX5_tell_44 : decode cX5_tell 44 = .ok (.aload_n 1, 1) := by decide +kernel
theorem dX5_tell_45 : decode cX5_tell 45 = .ok (.iload_n 3, 1) := by decide +kernel
theorem dX5_tell_46 : decode cX5_tell 46 = .ok (.invokevirtual 44, 3) := by decide +kernel
theorem dX5_tell_49 : decode cX5_tell 49 = .ok (.istore 5, 2) := by decide +kernel
theorem dX5_tell_51 : decode cX5_tell 51 = .ok (.iload 5, 2) := by decide +kernel
theorem dX5_tell_53 : decode cX5_tell 53 = .ok (.ifCond .lt 36, 3) := by decide +kernel
theorem dX5_tell_56 : decode cX5_tell 56 = .ok (.iload 4, 2) := by decide +kernel
theorem dX5_tell_58 : decode cX5_tell 58 = .ok (.ifCond .lt 31, 3) := by decide +kernel
theorem dX5_tell_61 : decode cX5_tell 61 = .ok (.iload 4, 2) := by decide +kernel
theorem dX5_tell_63 : decode cX5_tell 63 = .ok (.bipush 60, 2) := by decide +kernel
theorem dX5_tell_65 : decode cX5_tell 65 = .ok (.if_icmp .ge 24, 3) := by decide +kernel
theorem dX5_tell_68 : decode cX5_tell 68 = .ok (.aload_n 0, 1) := by decide +kernel
theorem dX5_tell_69 : decode cX5_tell 69 = .ok (.bipush 20, 2) := by decide +kernel
theorem dX5_tell_71 : decode cX5_tell 71 = .ok (.iload 5, 2) := by decide +kernel
theorem dX5_tell_73 : decode cX5_tell 73 = .ok (.iadd, 1) := by decide +kernel
theorem dX5_tell_74 : decode cX5_tell 74 = .ok (.aload_n 1, 1) := by decide +kernel
theorem dX5_tell_75 : decode cX5_tell 75 = .ok (.getfield 47, 3) := by decide +kernel
theorem dX5_tell_78 : decode cX5_tell 78 = .ok (.iload 4, 2) := by decide +kernel
theorem dX5_tell_80 : decode cX5_tell 80 = .ok (.aaload, 1) := by decide +kernel
theorem dX5_tell_81 : decode cX5_tell 81 = .ok (.iload 5, 2) := by decide +kernel
theorem dX5_tell_83 : decode cX5_tell 83 = .ok (.invokevirtual 51, 3) := by decide +kernel
theorem dX5_tell_86 : decode cX5_tell 86 = .ok (.invokevirtual 27, 3) := by decide +kernel
theorem dX5_tell_89 : decode cX5_tell 89 = .ok (.return_, 1) := by decide +kernel
theorem dX5_add_0 : decode cX5_add 0 = .ok (.aload_n 0, 1) := by decide +kernel
theorem dX5_add_1 : decode cX5_add 1 = .ok (.getfield 18, 3) := by decide +kernel
theorem dX5_add_4 : decode cX5_add 4 = .ok (.ifCond .lt 41, 3) := by decide +kernel
theorem dX5_add_7 : decode cX5_add 7 = .ok (.aload_n 0, 1) := by decide +kernel
theorem dX5_add_8 : decode cX5_add 8 = .ok (.getfield 18, 3) := by decide +kernel
theorem dX5_add_11 : decode cX5_add 11 = .ok (.iconst 4, 1) := by decide +kernel
theorem dX5_add_12 : decode cX5_add 12 = .ok (.if_icmp .ge 33, 3) := by decide +kernel
theorem dX5_add_15 : decode cX5_add 15 = .ok (.aload_n 0, 1) := by decide +kernel
theorem dX5_add_16 : decode cX5_add 16 = .ok (.getfield 9, 3) := by decide +kernel
theorem dX5_add_19 : decode cX5_add 19 = .ok (.aload_n 0, 1) := by decide +kernel
theorem dX5_add_20 : decode cX5_add 20 = .ok (.getfield 18, 3) := by decide +kernel
theorem dX5_add_23 : decode cX5_add 23 = .ok (.iload_n 1, 1) := by decide +kernel
theorem dX5_add_24 : decode cX5_add 24 = .ok (.iastore, 1) := by decide +kernel
theorem dX5_add_25 : decode cX5_add 25 = .ok (.aload_n 0, 1) := by decide +kernel
theorem dX5_add_26 : decode cX5_add 26 = .ok (.getfield 15, 3) := by decide +kernel
theorem dX5_add_29 : decode cX5_add 29 = .ok (.aload_n 0, 1) := by decide +kernel
theorem dX5_add_30 : decode cX5_add 30 = .ok (.getfield 18, 3) := by decide +kernel
theorem dX5_add_33 : decode cX5_add 33 = .ok (.iload_n 2, 1) := by decide +kernel
theorem dX5_add_34 : decode cX5_add 34 = .ok (.iastore, 1) := by decide +kernel
theorem dX5_add_35 : decode cX5_add 35 = .ok (.aload_n 0, 1) := by decide +kernel
theorem dX5_add_36 : decode cX5_add 36 = .ok (.dup, 1) := by decide +kernel
theorem dX5_add_37 : decode cX5_add 37 = .ok (.getfield 18, 3) := by decide +kernel
theorem dX5_add_40 : decode cX5_add 40 = .ok (.iconst 1, 1) := by decide +kernel
theorem dX5_add_41 : decode cX5_add 41 = .ok (.iadd, 1) := by decide +kernel
theorem dX5_add_42 : decode cX5_add 42 = .ok (.putfield 18, 3) := by decide +kernel
theorem dX5_add_45 : decode cX5_add 45 = .ok (.return_, 1) := by decide +kernel
theorem dX6_init_0 : decode cX6_init 0 = .ok (.aload_n 0, 1) := by decide +kernel
theorem dX6_init_1 : decode cX6_init 1 = .ok (.invokespecial 3, 3) := by decide +kernel
theorem dX6_init_4 : decode cX6_init 4 = .ok (.aload_n 0, 1) := by decide +kernel
theorem dX6_init_5 : decode cX6_init 5 = .ok (.new 9, 3) := by decide +kernel
theorem dX6_init_8 : decode cX6_init 8 = .ok (.dup, 1) := by decide +kernel
theorem dX6_init_9 : decode cX6_init 9 = .ok (.invokespecial 11, 3) := by decide +kernel
theorem dX6_init_12 : decode cX6_init 12 = .ok (.putfield 12, 3) := by decide +kernel
theorem dX6_init_15 : decode cX6_init 15 = .ok (.aload_n 0, 1) := by decide +kernel
theorem dX6_init_16 : decode cX6_init 16 = .ok (.bipush 8, 2) := by decide +kernel
theorem dX6_init_18 : decode cX6_init 18 = .ok (.newarray .long, 2) := by decide +kernel
theorem dX6_init_20 : decode cX6_init 20 = .ok (.putfield 18, 3) := by decide +kernel
theorem dX6_init_23 : decode cX6_init 23 = .ok (.return_, 1) := by decide +kernel
theorem dX6_copyFrom_0 : decode cX6_copyFrom 0 = .ok (.aload_n 0, 1) := by decide +kernel
theorem dX6_copyFrom_1 : decode cX6_copyFrom 1 = .ok (.aload_n 1, 1) := by decide +kernel
theorem dX6_copyFrom_2 : decode cX6_copyFrom 2 = .ok (.getfield 22, 3) := by decide +kernel
theorem dX6_copyFrom_5 : decode cX6_copyFrom 5 = .ok (.putfield 22, 3) := by decide +kernel
theorem dX6_copyFrom_8 : decode cX6_copyFrom 8 = .ok (.aload_n 0, 1) := by decide +kernel
theorem dX6_copyFrom_9 : decode cX6_copyFrom 9 = .ok (.aload_n 1, 1) := by decide +kernel
theorem dX6_copyFrom_10 : decode cX6_copyFrom 10 = .ok (.getfield 26, 3) := by decide +kernel
theorem dX6_copyFrom_13 : decode cX6_copyFrom 13 = .ok (.putfield 26, 3) := by decide +kernel
theorem dX6_copyFrom_16 : decode cX6_copyFrom 16 = .ok (.aload_n 0, 1) := by decide +kernel
theorem dX6_copyFrom_17 : decode cX6_copyFrom 17 = .ok (.aload_n 1, 1) := by decide +kernel
theorem dX6_copyFrom_18 : decode cX6_copyFrom 18 = .ok (.getfield 29, 3) := by decide +kernel
theorem dX6_copyFrom_21 : decode cX6_copyFrom 21 = .ok (.putfield 29, 3) := by decide +kernel
theorem dX6_copyFrom_24 : decode cX6_copyFrom 24 = .ok (.aload_n 0, 1) := by decide +kernel
theorem dX6_copyFrom_25 : decode cX6_copyFrom 25 = .ok (.aload_n 1, 1) := by decide +kernel
theorem dX6_copyFrom_26 : decode cX6_copyFrom 26 = .ok (.getfield 32, 3) := by decide +kernel
theorem dX6_copyFrom_29 : decode cX6_copyFrom 29 = .ok (.putfield 32, 3) := by decide +kernel
theorem dX6_copyFrom_32 : decode cX6_copyFrom 32 = .ok (.aload_n 0, 1) := by decide +kernel
theorem dX6_copyFrom_33 : decode cX6_copyFrom 33 = .ok (.aload_n 1, 1) := by decide +kernel
theorem dX6_copyFrom_34 : decode cX6_copyFrom 34 = .ok (.getfield 35, 3) := by decide +kernel
theorem dX6_copyFrom_37 : decode cX6_copyFrom 37 = .ok (.putfield 35, 3) := by decide +kernel
theorem dX6_copyFrom_40 : decode cX6_copyFrom 40 = .ok (.aload_n 1, 1) := by decide +kernel
theorem dX6_copyFrom_41 : decode cX6_copyFrom 41 = .ok (.getfield 18, 3) := by decide +kernel
theorem dX6_copyFrom_44 : decode cX6_copyFrom 44 = .ok (.iconst 0, 1) := by decide +kernel
theorem dX6_copyFrom_45 : decode cX6_copyFrom 45 = .ok (.aload_n 0, 1) := by decide +kernel
theorem dX6_copyFrom_46 : decode cX6_copyFrom 46 = .ok (.getfield 18, 3) := by decide +kernel
theorem dX6_copyFrom_49 : decode cX6_copyFrom 49 = .ok (.iconst 0, 1) := by decide +kernel
theorem dX6_copyFrom_50 : decode cX6_copyFrom 50 = .ok (.bipush 8, 2) := by decide +kernel
theorem dX6_copyFrom_52 : decode cX6_copyFrom 52 = .ok (.invokestatic 39, 3) := by decide +kernel
theorem dX6_copyFrom_55 : decode cX6_copyFrom 55 = .ok (.aload_n 0, 1) := by decide +kernel
theorem dX6_copyFrom_56 : decode cX6_copyFrom 56 = .ok (.getfield 12, 3) := by decide +kernel
theorem dX6_copyFrom_59 : decode cX6_copyFrom 59 = .ok (.aload_n 1, 1) := by decide +kernel
theorem dX6_copyFrom_60 : decode cX6_copyFrom 60 = .ok (.getfield 12, 3) := by decide +kernel
theorem dX6_copyFrom_63 : decode cX6_copyFrom 63 = .ok (.invokevirtual 45, 3) := by decide +kernel
theorem dX6_copyFrom_66 : decode cX6_copyFrom 66 = .ok (.return_, 1) := by decide +kernel
theorem dX6_make_0 : decode cX6_make 0 = .ok (.aload_n 0, 1) := by decide +kernel
theorem dX6_make_1 : decode cX6_make 1 = .ok (.iload_n 3, 1) := by decide +kernel
theorem dX6_make_2 : decode cX6_make 2 = .ok (.putfield 22, 3) := by decide +kernel
theorem dX6_make_5 : decode cX6_make 5 = .ok (.aload_n 0, 1) := by decide +kernel
theorem dX6_make_6 : decode cX6_make 6 = .ok (.iload 4, 2) := by decide +kernel
theorem dX6_make_8 : decode cX6_make 8 = .ok (.putfield 26, 3) := by decide +kernel
theorem dX6_make_11 : decode cX6_make 11 = .ok (.aload_n 0, 1) := by decide +kernel
theorem dX6_make_12 : decode cX6_make 12 = .ok (.getfield 12, 3) := by decide +kernel
theorem dX6_make_15 : decode cX6_make 15 = .ok (.aload_n 2, 1) := by decide +kernel
theorem dX6_make_16 : decode cX6_make 16 = .ok (.invokevirtual 45, 3) := by decide +kernel
theorem dX6_make_19 : decode cX6_make 19 = .ok (.aload_n 0, 1) := by decide +kernel
theorem dX6_make_20 : decode cX6_make 20 = .ok (.getfield 22, 3) := by decide +kernel
theorem dX6_make_23 : decode cX6_make 23 = .ok (.aload_n 0, 1) := by decide +kernel
theorem dX6_make_24 : decode cX6_make 24 = .ok (.getfield 26, 3) := by decide +kernel
theorem dX6_make_27 : decode cX6_make 27 = .ok (.if_icmp .ne 23, 3) := by decide +kernel
theorem dX6_make_30 : decode cX6_make 30 = .ok (.aload_n 0, 1) := by decide +kernel
theorem dX6_make_31 : decode cX6_make 31 = .ok (.aload_n 0, 1) := by decide +kernel
theorem dX6_make_32 : decode cX6_make 32 = .ok (.getfield 12, 3) := by decide +kernel
theorem dX6_make_35 : decode cX6_make 35 = .ok (.aload_n 0, 1) := by decide +kernel
theorem dX6_make_36 : decode cX6_make 36 = .ok (.getfield 22, 3) := by decide +kernel
theorem dX6_make_39 : decode cX6_make 39 = .ok (.iload 5, 2) := by decide +kernel
theorem dX6_make_41 : decode cX6_make 41 = .ok (.invokevirtual 49, 3) := by decide +kernel
theorem dX6_make_44 : decode cX6_make 44 = .ok (.putfield 35, 3) := by decide +kernel
theorem dX6_make_47 : decode cX6_make 47 = .ok (.goto 32, 3) := by decide +kernel
theorem dX6_make_50 : decode cX6_make 50 = .ok (.aload_n 0, 1) := by decide +kernel
theorem dX6_make_51 : decode cX6_make 51 = .ok (.aload_n 0, 1) := by decide +kernel
theorem dX6_make_52 : decode cX6_make 52 = .ok (.getfield 12, 3) := by decide +kernel
theorem dX6_make_55 : decode cX6_make 55 = .ok (.aload_n 0, 1) := by decide +kernel
theorem dX6_make_56 : decode cX6_make 56 = .ok (.getfield 22, 3) := by decide +kernel
theorem dX6_make_59 : decode cX6_make 59 = .ok (.iconst 1, 1) := by decide +kernel
theorem dX6_make_60 : decode cX6_make 60 = .ok (.invokevirtual 49, 3) := by decide +kernel
theorem dX6_make_63 : decode cX6_make 63 = .ok (.aload_n 0, 1) := by decide +kernel
theorem dX6_make_64 : decode cX6_make 64 = .ok (.getfield 12, 3) := by decide +kernel
theorem dX6_make_67 : decode cX6_make 67 = .ok (.aload_n 0, 1) := by decide +kernel
theorem dX6_make_68 : decode cX6_make 68 = .ok (.getfield 26, 3) := by decide +kernel
theorem dX6_make_71 : decode cX6_make 71 = .ok (.iconst 2, 1) := by decide +kernel
theorem dX6_make_72 : decode cX6_make 72 = .ok (.invokevirtual 49, 3) := by decide +kernel
theorem dX6_make_75 : decode cX6_make 75 = .ok (.lor, 1) := by decide +kernel
theorem dX6_make_76 : decode cX6_make 76 = .ok (.putfield 35, 3) := by decide +kernel
theorem dX6_make_79 : decode cX6_make 79 = .ok (.iconst 1, 1) := by decide +kernel
theorem dX6_make_80 : decode cX6_make 80 = .ok (.istore 6, 2) := by decide +kernel
theorem dX6_make_82 : decode cX6_make 82 = .ok (.iconst 0, 1) := by decide +kernel
theorem dX6_make_83 : decode cX6_make 83 = .ok (.istore 7, 2) := by decide +kernel
theorem dX6_make_85 : decode cX6_make 85 = .ok (.iload 7, 2) := by decide +kernel
theorem dX6_make_87 : decode cX6_make 87 = .ok (.bipush 8, 2) := by decide +kernel
theorem dX6_make_89 : decode cX6_make 89 = .ok (.if_icmp .ge 52, 3) := by decide +kernel
theorem dX6_make_92 : decode cX6_make 92 = .ok (.aload_n 0, 1) := by decide +kernel
theorem dX6_make_93 : decode cX6_make 93 = .ok (.getfield 18, 3) := by decide +kernel
theorem dX6_make_96 : decode cX6_make 96 = .ok (.iload 7, 2) := by decide +kernel
theorem dX6_make_98 : decode cX6_make 98 = .ok (.iload 6, 2) := by decide +kernel
theorem dX6_make_100 : decode cX6_make 100 = .ok (.ifCond .eq 14, 3) := by decide +kernel
theorem dX6_make_103 : decode cX6_make 103 = .ok (.aload_n 0, 1) := by decide +kernel
theorem dX6_make_104 : decode cX6_make 104 = .ok (.getfield 12, 3) := by decide +kernel
theorem dX6_make_107 : decode cX6_make 107 = .ok (.aload_n 1, 1) := by decide +kernel
theorem dX6_make_108 : decode cX6_make 108 = .ok (.invokevirtual 53, 3) := by decide +kernel
theorem dX6_make_111 : decode cX6_make 111 = .ok (.goto 4, 3) := by decide +kernel
theorem dX6_make_114 : decode cX6_make 114 = .ok (.lconst 0, 1) := by decide +kernel
theorem dX6_make_115 : decode cX6_make 115 = .ok (.lastore, 1) := by decide +kernel
theorem dX6_make_116 : decode cX6_make 116 = .ok (.aload_n 0, 1) := by decide +kernel
theorem dX6_make_117 : decode cX6_make 117 = .ok (.getfield 18, 3) := by decide +kernel
theorem dX6_make_120 : decode cX6_make 120 = .ok (.iload 7, 2) := by decide +kernel
theorem dX6_make_122 : decode cX6_make 122 = .ok (.laload, 1) := by decide +kernel
theorem dX6_make_123 : decode cX6_make 123 = .ok (.lconst 0, 1) := by decide +kernel
theorem dX6_make_124 : decode cX6_make 124 = .ok (.lcmp, 1) := by decide +kernel
theorem dX6_make_125 : decode cX6_make 125 = .ok (.ifCond .eq 7, 3) := by decide +kernel
theorem dX6_make_128 : decode cX6_make 128 = .ok (.iconst 1, 1) := by decide +kernel
theorem dX6_make_129 : decode cX6_make 129 = .ok (.goto 4, 3) := by decide +kernel
theorem dX6_make_132 : decode cX6_make 132 = .ok (.iconst 0, 1) := by decide +kernel
theorem dX6_make_133 : decode cX6_make 133 = .ok (.istore 6, 2) := by decide +kernel
theorem dX6_make_135 : decode cX6_make 135 = .ok (.iinc 7 1, 3) := by decide +kernel
theorem dX6_make_138 : decode cX6_make 138 = .ok (.goto (-53), 3) := by decide +kernel
theorem dX6_make_141 : decode cX6_make 141 = .ok (.return_, 1) := by decide +kernel
theorem dX6_choice_0 : decode cX6_choice 0 = .ok (.iload_n 1, 1) := by decide +kernel
theorem dX6_choice_1 : decode cX6_choice 1 = .ok (.ifCond .ne 10, 3) := by decide +kernel
theorem dX6_choice_4 : decode cX6_choice 4 = .ok (.aload_n 0, 1) := by decide +kernel
theorem dX6_choice_5 : decode cX6_choice 5 = .ok (.getfield 22, 3) := by decide +kernel
theorem dX6_choice_8 : decode cX6_choice 8 = .ok (.goto 7, 3) := by decide +kernel
theorem dX6_choice_11 : decode cX6_choice 11 = .ok (.aload_n 0, 1) := by decide +kernel
theorem dX6_choice_12 : decode cX6_choice 12 = .ok (.getfield 26, 3) := by decide +kernel
theorem dX6_choice_15 : decode cX6_choice 15 = .ok (.ireturn, 1) := by decide +kernel
theorem dX6_isClash_0 : decode cX6_isClash 0 = .ok (.aload_n 0, 1) := by decide +kernel
theorem dX6_isClash_1 : decode cX6_isClash 1 = .ok (.getfield 22, 3) := by decide +kernel
theorem dX6_isClash_4 : decode cX6_isClash 4 = .ok (.aload_n 0, 1) := by decide +kernel
theorem dX6_isClash_5 : decode cX6_isClash 5 = .ok (.getfield 26, 3) := by decide +kernel
theorem dX6_isClash_8 : decode cX6_isClash 8 = .ok (.if_icmp .ne 15, 3) := by decide +kernel
theorem dX6_isClash_11 : decode cX6_isClash 11 = .ok (.aload_n 0, 1) := by decide +kernel
theorem dX6_isClash_12 : decode cX6_isClash 12 = .ok (.getfield 22, 3) := by decide +kernel
theorem dX6_isClash_15 : decode cX6_isClash 15 = .ok (.iconst (-1), 1) := by decide +kernel
theorem dX6_isClash_16 : decode cX6_isClash 16 = .ok (.if_icmp .eq 7, 3) := by decide +kernel
theorem dX6_isClash_19 : decode cX6_isClash 19 = .ok (.iconst 1, 1) := by decide +kernel
theorem dX6_isClash_20 : decode cX6_isClash 20 = .ok (.goto 4, 3) := by decide +kernel
theorem dX6_isClash_23 : decode cX6_isClash 23 = .ok (.iconst 0, 1) := by decide +kernel
theorem dX6_isClash_24 : decode cX6_isClash 24 = .ok (.ireturn, 1) := by decide +kernel
theorem dX6_ends_0 : decode cX6_ends 0 = .ok (.aload_n 0, 1) := by decide +kernel
theorem dX6_ends_1 : decode cX6_ends 1 = .ok (.getfield 22, 3) := by decide +kernel
theorem dX6_ends_4 : decode cX6_ends 4 = .ok (.iconst (-1), 1) := by decide +kernel
theorem dX6_ends_5 : decode cX6_ends 5 = .ok (.if_icmp .ne 15, 3) := by decide +kernel
theorem dX6_ends_8 : decode cX6_ends 8 = .ok (.aload_n 0, 1) := by decide +kernel
theorem dX6_ends_9 : decode cX6_ends 9 = .ok (.getfield 26, 3) := by decide +kernel
theorem dX6_ends_12 : decode cX6_ends 12 = .ok (.iconst (-1), 1) := by decide +kernel
theorem dX6_ends_13 : decode cX6_ends 13 = .ok (.if_icmp .ne 7, 3) := by decide +kernel
theorem dX6_ends_16 : decode cX6_ends 16 = .ok (.iconst 1, 1) := by decide +kernel
theorem dX6_ends_17 : decode cX6_ends 17 = .ok (.goto 4, 3) := by decide +kernel
theorem dX6_ends_20 : decode cX6_ends 20 = .ok (.iconst 0, 1) := by decide +kernel
theorem dX6_ends_21 : decode cX6_ends 21 = .ok (.istore_n 2, 1) := by decide +kernel
theorem dX6_ends_22 : decode cX6_ends 22 = .ok (.iload_n 2, 1) := by decide +kernel
theorem dX6_ends_23 : decode cX6_ends 23 = .ok (.ifCond .ne 22, 3) := by decide +kernel
theorem dX6_ends_26 : decode cX6_ends 26 = .ok (.aload_n 0, 1) := by decide +kernel
theorem dX6_ends_27 : decode cX6_ends 27 = .ok (.getfield 12, 3) := by decide +kernel
theorem dX6_ends_30 : decode cX6_ends 30 = .ok (.iconst 0, 1) := by decide +kernel
theorem dX6_ends_31 : decode cX6_ends 31 = .ok (.invokevirtual 57, 3) := by decide +kernel
theorem dX6_ends_34 : decode cX6_ends 34 = .ok (.lconst 0, 1) := by decide +kernel
theorem dX6_ends_35 : decode cX6_ends 35 = .ok (.lcmp, 1) := by decide +kernel
theorem dX6_ends_36 : decode cX6_ends 36 = .ok (.ifCond .eq 9, 3) := by decide +kernel
theorem dX6_ends_39 : decode cX6_ends 39 = .ok (.iload_n 1, 1) := by decide +kernel
theorem dX6_ends_40 : decode cX6_ends 40 = .ok (.bipush 60, 2) := by decide +kernel
theorem dX6_ends_42 : decode cX6_ends 42 = .ok (.if_icmp .lt 7, 3) := by decide +kernel
theorem dX6_ends_45 : decode cX6_ends 45 = .ok (.iconst 1, 1) := by decide +kernel
theorem dX6_ends_46 : decode cX6_ends 46 = .ok (.goto 4, 3) := by decide +kernel
theorem dX6_ends_49 : decode cX6_ends 49 = .ok (.iconst 0, 1) := by decide +kernel
theorem dX6_ends_50 : decode cX6_ends 50 = .ok (.ireturn, 1) := by decide +kernel
theorem dX6_waves_0 : decode cX6_waves 0 = .ok (.iconst 0, 1) := by decide +kernel
theorem dX6_waves_1 : decode cX6_waves 1 = .ok (.istore_n 1, 1) := by decide +kernel
theorem dX6_waves_2 : decode cX6_waves 2 = .ok (.iconst 0, 1) := by decide +kernel
theorem dX6_waves_3 : decode cX6_waves 3 = .ok (.istore_n 2, 1) := by decide +kernel
theorem dX6_waves_4 : decode cX6_waves 4 = .ok (.iload_n 2, 1) := by decide +kernel
theorem dX6_waves_5 : decode cX6_waves 5 = .ok (.bipush 8, 2) := by decide +kernel
theorem dX6_waves_7 : decode cX6_waves 7 = .ok (.if_icmp .ge 28, 3) := by decide +kernel
theorem dX6_waves_10 : decode cX6_waves 10 = .ok (.iload_n 1, 1) := by decide +kernel
theorem dX6_waves_11 : decode cX6_waves 11 = .ok (.aload_n 0, 1) := by decide +kernel
theorem dX6_waves_12 : decode cX6_waves 12 = .ok (.getfield 18, 3) := by decide +kernel
theorem dX6_waves_15 : decode cX6_waves 15 = .ok (.iload_n 2, 1) := by decide +kernel
theorem dX6_waves_16 : decode cX6_waves 16 = .ok (.laload, 1) := by decide +kernel
theorem dX6_waves_17 : decode cX6_waves 17 = .ok (.lconst 0, 1) := by decide +kernel
theorem dX6_waves_18 : decode cX6_waves 18 = .ok (.lcmp, 1) := by decide +kernel
theorem dX6_waves_19 : decode cX6_waves 19 = .ok (.ifCond .ne 7, 3) := by decide +kernel
theorem dX6_waves_22 : decode cX6_waves 22 = .ok (.iconst 0, 1) := by decide +kernel
theorem dX6_waves_23 : decode cX6_waves 23 = .ok (.goto 4, 3) := by decide +kernel
theorem dX6_waves_26 : decode cX6_waves 26 = .ok (.iconst 1, 1) := by decide +kernel
theorem dX6_waves_27 : decode cX6_waves 27 = .ok (.iadd, 1) := by decide +kernel
theorem dX6_waves_28 : decode cX6_waves 28 = .ok (.istore_n 1, 1) := by decide +kernel
theorem dX6_waves_29 : decode cX6_waves 29 = .ok (.iinc 2 1, 3) := by decide +kernel
theorem dX6_waves_32 : decode cX6_waves 32 = .ok (.goto (-28), 3) := by decide +kernel
theorem dX6_waves_35 : decode cX6_waves 35 = .ok (.iload_n 1, 1) := by decide +kernel
theorem dX6_waves_36 : decode cX6_waves 36 = .ok (.ireturn, 1) := by decide +kernel
theorem dX6_changedByWaves_0 : decode cX6_changedByWaves 0 = .ok (.iconst 0, 1) := by decide +kernel
theorem dX6_changedByWaves_1 : decode cX6_changedByWaves 1 = .ok (.istore_n 1, 1) := by decide +kernel
theorem dX6_changedByWaves_2 : decode cX6_changedByWaves 2 = .ok (.iconst 0, 1) := by decide +kernel
theorem dX6_changedByWaves_3 : decode cX6_changedByWaves 3 = .ok (.istore_n 2, 1) := by decide +kernel
theorem dX6_changedByWaves_4 : decode cX6_changedByWaves 4 = .ok (.iload_n 2, 1) := by decide +kernel
theorem dX6_changedByWaves_5 : decode cX6_changedByWaves 5 = .ok (.bipush 8, 2) := by decide +kernel
theorem dX6_changedByWaves_7 : decode cX6_changedByWaves 7 = .ok (.if_icmp .ge 21, 3) := by decide +kernel
theorem dX6_changedByWaves_10 : decode cX6_changedByWaves 10 = .ok (.iload_n 1, 1) := by decide +kernel
theorem dX6_changedByWaves_11 : decode cX6_changedByWaves 11 = .ok (.aload_n 0, 1) := by decide +kernel
theorem dX6_changedByWaves_12 : decode cX6_changedByWaves 12 = .ok (.getfield 18, 3) := by decide +kernel
theorem dX6_changedByWaves_15 : decode cX6_changedByWaves 15 = .ok (.iload_n 2, 1) := by decide +kernel
theorem dX6_changedByWaves_16 : decode cX6_changedByWaves 16 = .ok (.laload, 1) := by decide +kernel
theorem dX6_changedByWaves_17 : decode cX6_changedByWaves 17 = .ok (.invokestatic 61, 3) := by decide +kernel
theorem dX6_changedByWaves_20 : decode cX6_changedByWaves 20 = .ok (.iadd, 1) := by decide +kernel
theorem dX6_changedByWaves_21 : decode cX6_changedByWaves 21 = .ok (.istore_n 1, 1) := by decide +kernel
theorem dX6_changedByWaves_22 : decode cX6_changedByWaves 22 = .ok (.iinc 2 1, 3) := by decide +kernel
theorem dX6_changedByWaves_25 : decode cX6_changedByWaves 25 = .ok (.goto (-21), 3) := by decide +kernel
theorem dX6_changedByWaves_28 : decode cX6_changedByWaves 28 = .ok (.iload_n 1, 1) := by decide +kernel
theorem dX6_changedByWaves_29 : decode cX6_changedByWaves 29 = .ok (.ireturn, 1) := by decide +kernel
theorem dX6_changedByWave_0 : decode cX6_changedByWave 0 = .ok (.iload_n 1, 1) := by decide +kernel
theorem dX6_changedByWave_1 : decode cX6_changedByWave 1 = .ok (.ifCond .lt 21, 3) := by decide +kernel
theorem dX6_changedByWave_4 : decode cX6_changedByWave 4 = .ok (.iload_n 1, 1) := by decide +kernel
theorem dX6_changedByWave_5 : decode cX6_changedByWave 5 = .ok (.bipush 8, 2) := by decide +kernel
theorem dX6_changedByWave_7 : decode cX6_changedByWave 7 = .ok (.if_icmp .ge 15, 3) := by decide +kernel
theorem dX6_changedByWave_10 : decode cX6_changedByWave 10 = .ok (.aload_n 0, 1) := by decide +kernel
theorem dX6_changedByWave_11 : decode cX6_changedByWave 11 = .ok (.getfield 18, 3) := by decide +kernel
theorem dX6_changedByWave_14 : decode cX6_changedByWave 14 = .ok (.iload_n 1, 1) := by decide +kernel
theorem dX6_changedByWave_15 : decode cX6_changedByWave 15 = .ok (.laload, 1) := by decide +kernel
theorem dX6_changedByWave_16 : decode cX6_changedByWave 16 = .ok (.invokestatic 61, 3) := by decide +kernel
theorem dX6_changedByWave_19 : decode cX6_changedByWave 19 = .ok (.goto 4, 3) := by decide +kernel
theorem dX6_changedByWave_22 : decode cX6_changedByWave 22 = .ok (.iconst 0, 1) := by decide +kernel
theorem dX6_changedByWave_23 : decode cX6_changedByWave 23 = .ok (.ireturn, 1) := by decide +kernel
theorem dX6_waveThatChanged_0 : decode cX6_waveThatChanged 0 = .ok (.iconst (-1), 1) := by decide +kernel
theorem dX6_waveThatChanged_1 : decode cX6_waveThatChanged 1 = .ok (.istore_n 2, 1) := by decide +kernel
theorem dX6_waveThatChanged_2 : decode cX6_waveThatChanged 2 = .ok (.iconst 0, 1) := by decide +kernel
theorem dX6_waveThatChanged_3 : decode cX6_waveThatChanged 3 = .ok (.istore_n 3, 1) := by decide +kernel
theorem dX6_waveThatChanged_4 : decode cX6_waveThatChanged 4 = .ok (.iload_n 3, 1) := by decide +kernel
theorem dX6_waveThatChanged_5 : decode cX6_waveThatChanged 5 = .ok (.bipush 8, 2) := by decide +kernel
theorem dX6_waveThatChanged_7 : decode cX6_waveThatChanged 7 = .ok (.if_icmp .ge 26, 3) := by decide +kernel
theorem dX6_waveThatChanged_10 : decode cX6_waveThatChanged 10 = .ok (.aload_n 0, 1) := by decide +kernel
theorem dX6_waveThatChanged_11 : decode cX6_waveThatChanged 11 = .ok (.getfield 18, 3) := by decide +kernel
theorem dX6_waveThatChanged_14 : decode cX6_waveThatChanged 14 = .ok (.iload_n 3, 1) := by decide +kernel
theorem dX6_waveThatChanged_15 : decode cX6_waveThatChanged 15 = .ok (.laload, 1) := by decide +kernel
theorem dX6_waveThatChanged_16 : decode cX6_waveThatChanged 16 = .ok (.iload_n 1, 1) := by decide +kernel
theorem dX6_waveThatChanged_17 : decode cX6_waveThatChanged 17 = .ok (.lushr, 1) := by decide +kernel
theorem dX6_waveThatChanged_18 : decode cX6_waveThatChanged 18 = .ok (.lconst 1, 1) := by decide +kernel
theorem dX6_waveThatChanged_19 : decode cX6_waveThatChanged 19 = .ok (.land, 1) := by decide +kernel
theorem dX6_waveThatChanged_20 : decode cX6_waveThatChanged 20 = .ok (.lconst 0, 1) := by decide +kernel
theorem dX6_waveThatChanged_21 : decode cX6_waveThatChanged 21 = .ok (.lcmp, 1) := by decide +kernel
theorem dX6_waveThatChanged_22 : decode cX6_waveThatChanged 22 = .ok (.ifCond .eq 5, 3) := by decide +kernel
theorem dX6_waveThatChanged_25 : decode cX6_waveThatChanged 25 = .ok (.iload_n 3, 1) := by decide +kernel
theorem dX6_waveThatChanged_26 : decode cX6_waveThatChanged 26 = .ok (.istore_n 2, 1) := by decide +kernel
theorem dX6_waveThatChanged_27 : decode cX6_waveThatChanged 27 = .ok (.iinc 3 1, 3) := by decide +kernel
theorem dX6_waveThatChanged_30 : decode cX6_waveThatChanged 30 = .ok (.goto (-26), 3) := by decide +kernel
theorem dX6_waveThatChanged_33 : decode cX6_waveThatChanged 33 = .ok (.iload_n 2, 1) := by decide +kernel
theorem dX6_waveThatChanged_34 : decode cX6_waveThatChanged 34 = .ok (.ireturn, 1) := by decide +kernel
theorem dX6_changed_0 : decode cX6_changed 0 = .ok (.aload_n 0, 1) := by decide +kernel
theorem dX6_changed_1 : decode cX6_changed 1 = .ok (.getfield 35, 3) := by decide +kernel
theorem dX6_changed_4 : decode cX6_changed 4 = .ok (.iload_n 1, 1) := by decide +kernel
theorem dX6_changed_5 : decode cX6_changed 5 = .ok (.lushr, 1) := by decide +kernel
theorem dX6_changed_6 : decode cX6_changed 6 = .ok (.lconst 1, 1) := by decide +kernel
theorem dX6_changed_7 : decode cX6_changed 7 = .ok (.land, 1) := by decide +kernel
theorem dX6_changed_8 : decode cX6_changed 8 = .ok (.lconst 0, 1) := by decide +kernel
theorem dX6_changed_9 : decode cX6_changed 9 = .ok (.lcmp, 1) := by decide +kernel
theorem dX6_changed_10 : decode cX6_changed 10 = .ok (.ifCond .ne 11, 3) := by decide +kernel
theorem dX6_changed_13 : decode cX6_changed 13 = .ok (.aload_n 0, 1) := by decide +kernel
theorem dX6_changed_14 : decode cX6_changed 14 = .ok (.iload_n 1, 1) := by decide +kernel
theorem dX6_changed_15 : decode cX6_changed 15 = .ok (.invokevirtual 67, 3) := by decide +kernel
theorem dX6_changed_18 : decode cX6_changed 18 = .ok (.ifCond .lt 7, 3) := by decide +kernel
theorem dX6_changed_21 : decode cX6_changed 21 = .ok (.iconst 1, 1) := by decide +kernel
theorem dX6_changed_22 : decode cX6_changed 22 = .ok (.goto 4, 3) := by decide +kernel
theorem dX6_changed_25 : decode cX6_changed 25 = .ok (.iconst 0, 1) := by decide +kernel
theorem dX6_changed_26 : decode cX6_changed 26 = .ok (.ireturn, 1) := by decide +kernel
theorem dX6_signs_0 : decode cX6_signs 0 = .ok (.aload_n 0, 1) := by decide +kernel
theorem dX6_signs_1 : decode cX6_signs 1 = .ok (.getfield 22, 3) := by decide +kernel
theorem dX6_signs_4 : decode cX6_signs 4 = .ok (.invokestatic 71, 3) := by decide +kernel
theorem dX6_signs_7 : decode cX6_signs 7 = .ok (.aload_n 0, 1) := by decide +kernel
theorem dX6_signs_8 : decode cX6_signs 8 = .ok (.getfield 26, 3) := by decide +kernel
theorem dX6_signs_11 : decode cX6_signs 11 = .ok (.invokestatic 71, 3) := by decide +kernel
theorem dX6_signs_14 : decode cX6_signs 14 = .ok (.iadd, 1) := by decide +kernel
theorem dX6_signs_15 : decode cX6_signs 15 = .ok (.iconst 1, 1) := by decide +kernel
theorem dX6_signs_16 : decode cX6_signs 16 = .ok (.iadd, 1) := by decide +kernel
theorem dX6_signs_17 : decode cX6_signs 17 = .ok (.ireturn, 1) := by decide +kernel
theorem dX6_sign_0 : decode cX6_sign 0 = .ok (.iload_n 2, 1) := by decide +kernel
theorem dX6_sign_1 : decode cX6_sign 1 = .ok (.aload_n 0, 1) := by decide +kernel
theorem dX6_sign_2 : decode cX6_sign 2 = .ok (.getfield 22, 3) := by decide +kernel
theorem dX6_sign_5 : decode cX6_sign 5 = .ok (.invokestatic 71, 3) := by decide +kernel
theorem dX6_sign_8 : decode cX6_sign 8 = .ok (.isub, 1) := by decide +kernel
theorem dX6_sign_9 : decode cX6_sign 9 = .ok (.istore_n 3, 1) := by decide +kernel
theorem dX6_sign_10 : decode cX6_sign 10 = .ok (.iload_n 3, 1) := by decide +kernel
theorem dX6_sign_11 : decode cX6_sign 11 = .ok (.ifCond .ge 13, 3) := by decide +kernel
theorem dX6_sign_14 : decode cX6_sign 14 = .ok (.aload_n 1, 1) := by decide +kernel
theorem dX6_sign_15 : decode cX6_sign 15 = .ok (.aload_n 0, 1) := by decide +kernel
theorem dX6_sign_16 : decode cX6_sign 16 = .ok (.getfield 22, 3) := by decide +kernel
theorem dX6_sign_19 : decode cX6_sign 19 = .ok (.iload_n 2, 1) := by decide +kernel
theorem dX6_sign_20 : decode cX6_sign 20 = .ok (.invokestatic 74, 3) := by decide +kernel
theorem dX6_sign_23 : decode cX6_sign 23 = .ok (.ireturn, 1) := by decide +kernel
theorem dX6_sign_24 : decode cX6_sign 24 = .ok (.iload_n 3, 1) := by decide +kernel
theorem dX6_sign_25 : decode cX6_sign 25 = .ok (.aload_n 0, 1) := by decide +kernel
theorem dX6_sign_26 : decode cX6_sign 26 = .ok (.getfield 26, 3) := by decide +kernel
theorem dX6_sign_29 : decode cX6_sign 29 = .ok (.invokestatic 71, 3) := by decide +kernel
theorem dX6_sign_32 : decode cX6_sign 32 = .ok (.if_icmp .ge 15, 3) := by decide +kernel
theorem dX6_sign_35 : decode cX6_sign 35 = .ok (.aload_n 1, 1) := by decide +kernel
theorem dX6_sign_36 : decode cX6_sign 36 = .ok (.aload_n 0, 1) := by decide +kernel
theorem dX6_sign_37 : decode cX6_sign 37 = .ok (.getfield 26, 3) := by decide +kernel
theorem dX6_sign_40 : decode cX6_sign 40 = .ok (.iload_n 3, 1) := by decide +kernel
theorem dX6_sign_41 : decode cX6_sign 41 = .ok (.invokestatic 74, 3) := by decide +kernel
theorem dX6_sign_44 : decode cX6_sign 44 = .ok (.goto 5, 3) := by decide +kernel
theorem dX6_sign_47 : decode cX6_sign 47 = .ok (.bipush 59, 2) := by decide +kernel
theorem dX6_sign_49 : decode cX6_sign 49 = .ok (.ireturn, 1) := by decide +kernel
theorem dX6_signsOf_0 : decode cX6_signsOf 0 = .ok (.iload_n 0, 1) := by decide +kernel
theorem dX6_signsOf_1 : decode cX6_signsOf 1 = .ok (.iconst (-1), 1) := by decide +kernel
theorem dX6_signsOf_2 : decode cX6_signsOf 2 = .ok (.if_icmp .ne 7, 3) := by decide +kernel
theorem dX6_signsOf_5 : decode cX6_signsOf 5 = .ok (.iconst 1, 1) := by decide +kernel
theorem dX6_signsOf_6 : decode cX6_signsOf 6 = .ok (.goto 4, 3) := by decide +kernel
theorem dX6_signsOf_9 : decode cX6_signsOf 9 = .ok (.iconst 2, 1) := by decide +kernel
theorem dX6_signsOf_10 : decode cX6_signsOf 10 = .ok (.ireturn, 1) := by decide +kernel
theorem dX6_signOf_0 : decode cX6_signOf 0 = .ok (.iload_n 1, 1) := by decide +kernel
theorem dX6_signOf_1 : decode cX6_signOf 1 = .ok (.iconst (-1), 1) := by decide +kernel
theorem dX6_signOf_2 : decode cX6_signOf 2 = .ok (.if_icmp .ne 6, 3) := by decide +kernel
theorem dX6_signOf_5 : decode cX6_signOf 5 = .ok (.bipush 45, 2) := by decide +kernel
theorem dX6_signOf_7 : decode cX6_signOf 7 = .ok (.ireturn, 1) := by decide +kernel
theorem dX6_signOf_8 : decode cX6_signOf 8 = .ok (.iload_n 2, 1) := by decide +kernel
theorem dX6_signOf_9 : decode cX6_signOf 9 = .ok (.ifCond .ne 14, 3) := by decide +kernel
theorem dX6_signOf_12 : decode cX6_signOf 12 = .ok (.bipush 97, 2) := by decide +kernel
theorem dX6_signOf_14 : decode cX6_signOf 14 = .ok (.aload_n 0, 1) := by decide +kernel
theorem dX6_signOf_15 : decode cX6_signOf 15 = .ok (.iload_n 1, 1) := by decide +kernel
theorem dX6_signOf_16 : decode cX6_signOf 16 = .ok (.invokevirtual 78, 3) := by decide +kernel
theorem dX6_signOf_19 : decode cX6_signOf 19 = .ok (.iadd, 1) := by decide +kernel
theorem dX6_signOf_20 : decode cX6_signOf 20 = .ok (.goto 11, 3) := by decide +kernel
theorem dX6_signOf_23 : decode cX6_signOf 23 = .ok (.bipush 49, 2) := by decide +kernel
theorem dX6_signOf_25 : decode cX6_signOf 25 = .ok (.aload_n 0, 1) := by decide +kernel
theorem dX6_signOf_26 : decode cX6_signOf 26 = .ok (.iload_n 1, 1) := by decide +kernel
theorem dX6_signOf_27 : decode cX6_signOf 27 = .ok (.invokevirtual 83, 3) := by decide +kernel
theorem dX6_signOf_30 : decode cX6_signOf 30 = .ok (.iadd, 1) := by decide +kernel
theorem dX6_signOf_31 : decode cX6_signOf 31 = .ok (.istore_n 3, 1) := by decide +kernel
theorem dX6_signOf_32 : decode cX6_signOf 32 = .ok (.iload_n 3, 1) := by decide +kernel
theorem dX6_signOf_33 : decode cX6_signOf 33 = .ok (.i2c, 1) := by decide +kernel
theorem dX6_signOf_34 : decode cX6_signOf 34 = .ok (.ireturn, 1) := by decide +kernel
theorem dX7_init_0 : decode cX7_init 0 = .ok (.aload_n 0, 1) := by decide +kernel
theorem dX7_init_1 : decode cX7_init 1 = .ok (.invokespecial 1, 3) := by decide +kernel
theorem dX7_init_4 : decode cX7_init 4 = .ok (.aload_n 0, 1) := by decide +kernel
theorem dX7_init_5 : decode cX7_init 5 = .ok (.new 7, 3) := by decide +kernel
theorem dX7_init_8 : decode cX7_init 8 = .ok (.dup, 1) := by decide +kernel
theorem dX7_init_9 : decode cX7_init 9 = .ok (.invokespecial 9, 3) := by decide +kernel
theorem dX7_init_12 : decode cX7_init 12 = .ok (.putfield 10, 3) := by decide +kernel
theorem dX7_init_15 : decode cX7_init 15 = .ok (.aload_n 0, 1) := by decide +kernel
theorem dX7_init_16 : decode cX7_init 16 = .ok (.new 7, 3) := by decide +kernel
theorem dX7_init_19 : decode cX7_init 19 = .ok (.dup, 1) := by decide +kernel
theorem dX7_init_20 : decode cX7_init 20 = .ok (.invokespecial 9, 3) := by decide +kernel
theorem dX7_init_23 : decode cX7_init 23 = .ok (.putfield 16, 3) := by decide +kernel
theorem dX7_init_26 : decode cX7_init 26 = .ok (.aload_n 0, 1) := by decide +kernel
theorem dX7_init_27 : decode cX7_init 27 = .ok (.iconst 0, 1) := by decide +kernel
theorem dX7_init_28 : decode cX7_init 28 = .ok (.putfield 19, 3) := by decide +kernel
theorem dX7_init_31 : decode cX7_init 31 = .ok (.aload_n 0, 1) := by decide +kernel
theorem dX7_init_32 : decode cX7_init 32 = .ok (.new 23, 3) := by decide +kernel
theorem dX7_init_35 : decode cX7_init 35 = .ok (.dup, 1) := by decide +kernel
theorem dX7_init_36 : decode cX7_init 36 = .ok (.invokespecial 25, 3) := by decide +kernel
theorem dX7_init_39 : decode cX7_init 39 = .ok (.putfield 26, 3) := by decide +kernel
theorem dX7_init_42 : decode cX7_init 42 = .ok (.aload_n 0, 1) := by decide +kernel
theorem dX7_init_43 : decode cX7_init 43 = .ok (.new 30, 3) := by decide +kernel
theorem dX7_init_46 : decode cX7_init 46 = .ok (.dup, 1) := by decide +kernel
theorem dX7_init_47 : decode cX7_init 47 = .ok (.invokespecial 32, 3) := by decide +kernel
theorem dX7_init_50 : decode cX7_init 50 = .ok (.putfield 33, 3) := by decide +kernel
theorem dX7_init_53 : decode cX7_init 53 = .ok (.aload_n 0, 1) := by decide +kernel
theorem dX7_init_54 : decode cX7_init 54 = .ok (.new 37, 3) := by decide +kernel
theorem dX7_init_57 : decode cX7_init 57 = .ok (.dup, 1) := by decide +kernel
theorem dX7_init_58 : decode cX7_init 58 = .ok (.invokespecial 39, 3) := by decide +kernel
theorem dX7_init_61 : decode cX7_init 61 = .ok (.putfield 40, 3) := by decide +kernel
theorem dX7_init_64 : decode cX7_init 64 = .ok (.return_, 1) := by decide +kernel
theorem dX7_start_0 : decode cX7_start 0 = .ok (.iload_n 1, 1) := by decide +kernel
theorem dX7_start_1 : decode cX7_start 1 = .ok (.iconst 4, 1) := by decide +kernel
theorem dX7_start_2 : decode cX7_start 2 = .ok (.if_icmp .lt 20, 3) := by decide +kernel
theorem dX7_start_5 : decode cX7_start 5 = .ok (.iload_n 1, 1) := by decide +kernel
theorem dX7_start_6 : decode cX7_start 6 = .ok (.bipush 7, 2) := by decide +kernel
theorem dX7_start_8 : decode cX7_start 8 = .ok (.if_icmp .gt 14, 3) := by decide +kernel
theorem dX7_start_11 : decode cX7_start 11 = .ok (.iload_n 2, 1) := by decide +kernel
theorem dX7_start_12 : decode cX7_start 12 = .ok (.iconst 4, 1) := by decide +kernel
theorem dX7_start_13 : decode cX7_start 13 = .ok (.if_icmp .lt 9, 3) := by decide +kernel
theorem dX7_start_16 : decode cX7_start 16 = .ok (.iload_n 2, 1) := by decide +kernel
theorem dX7_start_17 : decode cX7_start 17 = .ok (.bipush 7, 2) := by decide +kernel
theorem dX7_start_19 : decode cX7_start 19 = .ok (.if_icmp .le 13, 3) := by decide +kernel
theorem dX7_start_22 : decode cX7_start 22 = .ok (.new 44, 3) := by decide +kernel
theorem dX7_start_25 : decode cX7_start 25 = .ok (.dup, 1) := by decide +kernel
theorem dX7_start_26 : decode cX7_start 26 = .ok (.ldc 46, 2) := by decide +kernel
theorem dX7_start_28 : decode cX7_start 28 = .ok (.invokespecial 48, 3) := by decide +kernel
theorem dX7_start_31 : decode cX7_start 31 = .ok (.athrow, 1) := by decide +kernel
theorem dX7_start_32 : decode cX7_start 32 = .ok (.iload_n 3, 1) := by decide +kernel
theorem dX7_start_33 : decode cX7_start 33 = .ok (.ifCond .lt 8, 3) := by decide +kernel
theorem dX7_start_36 : decode cX7_start 36 = .ok (.iload_n 3, 1) := by decide +kernel
theorem dX7_start_37 : decode cX7_start 37 = .ok (.iconst 4, 1) := by decide +kernel
theorem dX7_start_38 : decode cX7_start 38 = .ok (.if_icmp .le 13, 3) := by decide +kernel
theorem dX7_start_41 : decode cX7_start 41 = .ok (.new 44, 3) := by decide +kernel
theorem dX7_start_44 : decode cX7_start 44 = .ok (.dup, 1) := by decide +kernel
theorem dX7_start_45 : decode cX7_start 45 = .ok (.ldc 51, 2) := by decide +kernel
theorem dX7_start_47 : decode cX7_start 47 = .ok (.invokespecial 48, 3) := by decide +kernel
theorem dX7_start_50 : decode cX7_start 50 = .ok (.athrow, 1) := by decide +kernel
theorem dX7_start_51 : decode cX7_start 51 = .ok (.aload_n 0, 1) := by decide +kernel
theorem dX7_start_52 : decode cX7_start 52 = .ok (.getfield 10, 3) := by decide +kernel
theorem dX7_start_55 : decode cX7_start 55 = .ok (.iload_n 1, 1) := by decide +kernel
theorem dX7_start_56 : decode cX7_start 56 = .ok (.iload_n 2, 1) := by decide +kernel
theorem dX7_start_57 : decode cX7_start 57 = .ok (.iload_n 3, 1) := by decide +kernel
theorem dX7_start_58 : decode cX7_start 58 = .ok (.invokevirtual 53, 3) := by decide +kernel
theorem dX7_start_61 : decode cX7_start 61 = .ok (.aload_n 0, 1) := by decide +kernel
theorem dX7_start_62 : decode cX7_start 62 = .ok (.getfield 10, 3) := by decide +kernel
theorem dX7_start_65 : decode cX7_start 65 = .ok (.invokevirtual 57, 3) := by decide +kernel
theorem dX7_start_68 : decode cX7_start 68 = .ok (.iconst 0, 1) := by decide +kernel
theorem dX7_start_69 : decode cX7_start 69 = .ok (.invokevirtual 61, 3) := by decide +kernel
theorem dX7_start_72 : decode cX7_start 72 = .ok (.ireturn, 1) := by decide +kernel
theorem dX7_setRule_0 : decode cX7_setRule 0 = .ok (.iload_n 1, 1) := by decide +kernel
theorem dX7_setRule_1 : decode cX7_setRule 1 = .ok (.ifCond .lt 8, 3) := by decide +kernel
theorem dX7_setRule_4 : decode cX7_setRule 4 = .ok (.iload_n 1, 1) := by decide +kernel
theorem dX7_setRule_5 : decode cX7_setRule 5 = .ok (.iconst 2, 1) := by decide +kernel
theorem dX7_setRule_6 : decode cX7_setRule 6 = .ok (.if_icmp .le 13, 3) := by decide +kernel
theorem dX7_setRule_9 : decode cX7_setRule 9 = .ok (.new 44, 3) := by decide +kernel
theorem dX7_setRule_12 : decode cX7_setRule 12 = .ok (.dup, 1) := by decide +kernel
theorem dX7_setRule_13 : decode cX7_setRule 13 = .ok (.ldc 67, 2) := by decide +kernel
theorem dX7_setRule_15 : decode cX7_setRule 15 = .ok (.invokespecial 48, 3) := by decide +kernel
theorem dX7_setRule_18 : decode cX7_setRule 18 = .ok (.athrow, 1) := by decide +kernel
theorem dX7_setRule_19 : decode cX7_setRule 19 = .ok (.aload_n 0, 1) := by decide +kernel
theorem dX7_setRule_20 : decode cX7_setRule 20 = .ok (.getfield 10, 3) := by decide +kernel
theorem dX7_setRule_23 : decode cX7_setRule 23 = .ok (.getfield 69, 3) := by decide +kernel
theorem dX7_setRule_26 : decode cX7_setRule 26 = .ok (.istore_n 2, 1) := by decide +kernel
theorem dX7_setRule_27 : decode cX7_setRule 27 = .ok (.aload_n 0, 1) := by decide +kernel
theorem dX7_setRule_28 : decode cX7_setRule 28 = .ok (.getfield 10, 3) := by decide +kernel
theorem dX7_setRule_31 : decode cX7_setRule 31 = .ok (.iload_n 1, 1) := by decide +kernel
theorem dX7_setRule_32 : decode cX7_setRule 32 = .ok (.putfield 69, 3) := by decide +kernel
theorem dX7_setRule_35 : decode cX7_setRule 35 = .ok (.iload_n 2, 1) := by decide +kernel
theorem dX7_setRule_36 : decode cX7_setRule 36 = .ok (.ireturn, 1) := by decide +kernel
theorem dX7_setBonus_0 : decode cX7_setBonus 0 = .ok (.iload_n 1, 1) := by decide +kernel
theorem dX7_setBonus_1 : decode cX7_setBonus 1 = .ok (.invokestatic 73, 3) := by decide +kernel
theorem dX7_setBonus_4 : decode cX7_setBonus 4 = .ok (.ifCond .ne 13, 3) := by decide +kernel
theorem dX7_setBonus_7 : decode cX7_setBonus 7 = .ok (.new 77, 3) := by decide +kernel
theorem dX7_setBonus_10 : decode cX7_setBonus 10 = .ok (.dup, 1) := by decide +kernel
theorem dX7_setBonus_11 : decode cX7_setBonus 11 = .ok (.ldc 79, 2) := by decide +kernel
theorem dX7_setBonus_13 : decode cX7_setBonus 13 = .ok (.invokespecial 81, 3) := by decide +kernel
theorem dX7_setBonus_16 : decode cX7_setBonus 16 = .ok (.athrow, 1) := by decide +kernel
theorem dX7_setBonus_17 : decode cX7_setBonus 17 = .ok (.iload_n 2, 1) := by decide +kernel
theorem dX7_setBonus_18 : decode cX7_setBonus 18 = .ok (.ifCond .lt 9, 3) := by decide +kernel
theorem dX7_setBonus_21 : decode cX7_setBonus 21 = .ok (.iload_n 2, 1) := by decide +kernel
theorem dX7_setBonus_22 : decode cX7_setBonus 22 = .ok (.bipush 20, 2) := by decide +kernel
theorem dX7_setBonus_24 : decode cX7_setBonus 24 = .ok (.if_icmp .le 13, 3) := by decide +kernel
theorem dX7_setBonus_27 : decode cX7_setBonus 27 = .ok (.new 44, 3) := by decide +kernel
theorem dX7_setBonus_30 : decode cX7_setBonus 30 = .ok (.dup, 1) := by decide +kernel
theorem dX7_setBonus_31 : decode cX7_setBonus 31 = .ok (.ldc 82, 2) := by decide +kernel
theorem dX7_setBonus_33 : decode cX7_setBonus 33 = .ok (.invokespecial 48, 3) := by decide +kernel
theorem dX7_setBonus_36 : decode cX7_setBonus 36 = .ok (.athrow, 1) := by decide +kernel
theorem dX7_setBonus_37 : decode cX7_setBonus 37 = .ok (.aload_n 0, 1) := by decide +kernel
theorem dX7_setBonus_38 : decode cX7_setBonus 38 = .ok (.getfield 10, 3) := by decide +kernel
theorem dX7_setBonus_41 : decode cX7_setBonus 41 = .ok (.iload_n 1, 1) := by decide +kernel
theorem dX7_setBonus_42 : decode cX7_setBonus 42 = .ok (.invokevirtual 84, 3) := by decide +kernel
theorem dX7_setBonus_45 : decode cX7_setBonus 45 = .ok (.istore_n 3, 1) := by decide +kernel
theorem dX7_setBonus_46 : decode cX7_setBonus 46 = .ok (.aload_n 0, 1) := by decide +kernel
theorem dX7_setBonus_47 : decode cX7_setBonus 47 = .ok (.getfield 10, 3) := by decide +kernel
theorem dX7_setBonus_50 : decode cX7_setBonus 50 = .ok (.iload_n 1, 1) := by decide +kernel
theorem dX7_setBonus_51 : decode cX7_setBonus 51 = .ok (.iload_n 2, 1) := by decide +kernel
theorem dX7_setBonus_52 : decode cX7_setBonus 52 = .ok (.invokevirtual 87, 3) := by decide +kernel
theorem dX7_setBonus_55 : decode cX7_setBonus 55 = .ok (.iload_n 3, 1) := by decide +kernel
theorem dX7_setBonus_56 : decode cX7_setBonus 56 = .ok (.ireturn, 1) := by decide +kernel
theorem dX7_play_0 : decode cX7_play 0 = .ok (.aload_n 0, 1) := by decide +kernel
theorem dX7_play_1 : decode cX7_play 1 = .ok (.iload_n 1, 1) := by decide +kernel
theorem dX7_play_2 : decode cX7_play 2 = .ok (.invokevirtual 91, 3) := by decide +kernel
theorem dX7_play_5 : decode cX7_play 5 = .ok (.ifCond .eq 11, 3) := by decide +kernel
theorem dX7_play_8 : decode cX7_play 8 = .ok (.aload_n 0, 1) := by decide +kernel
theorem dX7_play_9 : decode cX7_play 9 = .ok (.iload_n 2, 1) := by decide +kernel
theorem dX7_play_10 : decode cX7_play 10 = .ok (.invokevirtual 91, 3) := by decide +kernel
theorem dX7_play_13 : decode cX7_play 13 = .ok (.ifCond .ne 13, 3) := by decide +kernel
theorem dX7_play_16 : decode cX7_play 16 = .ok (.new 77, 3) := by decide +kernel
theorem dX7_play_19 : decode cX7_play 19 = .ok (.dup, 1) := by decide +kernel
theorem dX7_play_20 : decode cX7_play 20 = .ok (.ldc 94, 2) := by decide +kernel
theorem dX7_play_22 : decode cX7_play 22 = .ok (.invokespecial 81, 3) := by decide +kernel
theorem dX7_play_25 : decode cX7_play 25 = .ok (.athrow, 1) := by decide +kernel
theorem dX7_play_26 : decode cX7_play 26 = .ok (.aload_n 0, 1) := by decide +kernel
theorem dX7_play_27 : decode cX7_play 27 = .ok (.getfield 10, 3) := by decide +kernel
theorem dX7_play_30 : decode cX7_play 30 = .ok (.invokevirtual 96, 3) := by decide +kernel
theorem dX7_play_33 : decode cX7_play 33 = .ok (.ifCond .eq 13, 3) := by decide +kernel
theorem dX7_play_36 : decode cX7_play 36 = .ok (.new 100, 3) := by decide +kernel
theorem dX7_play_39 : decode cX7_play 39 = .ok (.dup, 1) := by decide +kernel
theorem dX7_play_40 : decode cX7_play 40 = .ok (.ldc 102, 2) := by decide +kernel
theorem dX7_play_42 : decode cX7_play 42 = .ok (.invokespecial 104, 3) := by decide +kernel
theorem dX7_play_45 : decode cX7_play 45 = .ok (.athrow, 1) := by decide +kernel
theorem dX7_play_46 : decode cX7_play 46 = .ok (.aload_n 0, 1) := by decide +kernel
theorem dX7_play_47 : decode cX7_play 47 = .ok (.iload_n 1, 1) := by decide +kernel
theorem dX7_play_48 : decode cX7_play 48 = .ok (.iload_n 2, 1) := by decide +kernel
theorem dX7_play_49 : decode cX7_play 49 = .ok (.invokevirtual 105, 3) := by decide +kernel
theorem dX7_play_52 : decode cX7_play 52 = .ok (.ifCond .ne 13, 3) := by decide +kernel
theorem dX7_play_55 : decode cX7_play 55 = .ok (.new 109, 3) := by decide +kernel
theorem dX7_play_58 : decode cX7_play 58 = .ok (.dup, 1) := by decide +kernel
theorem dX7_play_59 : decode cX7_play 59 = .ok (.ldc 111, 2) := by decide +kernel
theorem dX7_play_61 : decode cX7_play 61 = .ok (.invokespecial 113, 3) := by decide +kernel
theorem dX7_play_64 : decode cX7_play 64 = .ok (.athrow, 1) := by decide +kernel
theorem dX7_play_65 : decode cX7_play 65 = .ok (.aload_n 0, 1) := by decide +kernel
theorem dX7_play_66 : decode cX7_play 66 = .ok (.getfield 10, 3) := by decide +kernel
theorem dX7_play_69 : decode cX7_play 69 = .ok (.iload_n 1, 1) := by decide +kernel
theorem dX7_play_70 : decode cX7_play 70 = .ok (.iload_n 2, 1) := by decide +kernel
theorem dX7_play_71 : decode cX7_play 71 = .ok (.invokevirtual 114, 3) := by decide +kernel
theorem dX7_play_74 : decode cX7_play 74 = .ok (.ireturn, 1) := by decide +kernel
theorem dX7_undo_0 : decode cX7_undo 0 = .ok (.aload_n 0, 1) := by decide +kernel
theorem dX7_undo_1 : decode cX7_undo 1 = .ok (.getfield 10, 3) := by decide +kernel
theorem dX7_undo_4 : decode cX7_undo 4 = .ok (.getfield 118, 3) := by decide +kernel
theorem dX7_undo_7 : decode cX7_undo 7 = .ok (.ifCond .ne 13, 3) := by decide +kernel
theorem dX7_undo_10 : decode cX7_undo 10 = .ok (.new 100, 3) := by decide +kernel
theorem dX7_undo_13 : decode cX7_undo 13 = .ok (.dup, 1) := by decide +kernel
theorem dX7_undo_14 : decode cX7_undo 14 = .ok (.ldc 121, 2) := by decide +kernel
theorem dX7_undo_16 : decode cX7_undo 16 = .ok (.invokespecial 104, 3) := by decide +kernel
theorem dX7_undo_19 : decode cX7_undo 19 = .ok (.athrow, 1) := by decide +kernel
theorem dX7_undo_20 : decode cX7_undo 20 = .ok (.aload_n 0, 1) := by decide +kernel
theorem dX7_undo_21 : decode cX7_undo 21 = .ok (.getfield 10, 3) := by decide +kernel
theorem dX7_undo_24 : decode cX7_undo 24 = .ok (.dup, 1) := by decide +kernel
theorem dX7_undo_25 : decode cX7_undo 25 = .ok (.getfield 118, 3) := by decide +kernel
theorem dX7_undo_28 : decode cX7_undo 28 = .ok (.iconst 1, 1) := by decide +kernel
theorem dX7_undo_29 : decode cX7_undo 29 = .ok (.isub, 1) := by decide +kernel
theorem dX7_undo_30 : decode cX7_undo 30 = .ok (.putfield 118, 3) := by decide +kernel
theorem dX7_undo_33 : decode cX7_undo 33 = .ok (.aload_n 0, 1) := by decide +kernel
theorem dX7_undo_34 : decode cX7_undo 34 = .ok (.getfield 10, 3) := by decide +kernel
theorem dX7_undo_37 : decode cX7_undo 37 = .ok (.getfield 118, 3) := by decide +kernel
theorem dX7_undo_40 : decode cX7_undo 40 = .ok (.ireturn, 1) := by decide +kernel
theorem dX7_isOver_0 : decode cX7_isOver 0 = .ok (.aload_n 0, 1) := by decide +kernel
theorem dX7_isOver_1 : decode cX7_isOver 1 = .ok (.getfield 10, 3) := by decide +kernel
theorem dX7_isOver_4 : decode cX7_isOver 4 = .ok (.invokevirtual 96, 3) := by decide +kernel
theorem dX7_isOver_7 : decode cX7_isOver 7 = .ok (.ireturn, 1) := by decide +kernel
theorem dX7_cell_0 : decode cX7_cell 0 = .ok (.aload_n 0, 1) := by decide +kernel
theorem dX7_cell_1 : decode cX7_cell 1 = .ok (.getfield 10, 3) := by decide +kernel
theorem dX7_cell_4 : decode cX7_cell 4 = .ok (.getfield 123, 3) := by decide +kernel
theorem dX7_cell_7 : decode cX7_cell 7 = .ok (.astore_n 3, 1) := by decide +kernel
theorem dX7_cell_8 : decode cX7_cell 8 = .ok (.iload_n 1, 1) := by decide +kernel
theorem dX7_cell_9 : decode cX7_cell 9 = .ok (.ifCond .lt 23, 3) := by decide +kernel
theorem dX7_cell_12 : decode cX7_cell 12 = .ok (.iload_n 1, 1) := by decide +kernel
theorem dX7_cell_13 : decode cX7_cell 13 = .ok (.aload_n 3, 1) := by decide +kernel
theorem dX7_cell_14 : decode cX7_cell 14 = .ok (.getfield 127, 3) := by decide +kernel
theorem dX7_cell_17 : decode cX7_cell 17 = .ok (.if_icmp .ge 15, 3) := by decide +kernel
theorem dX7_cell_20 : decode cX7_cell 20 = .ok (.iload_n 2, 1) := by decide +kernel
theorem dX7_cell_21 : decode cX7_cell 21 = .ok (.ifCond .lt 11, 3) := by decide +kernel
theorem dX7_cell_24 : decode cX7_cell 24 = .ok (.iload_n 2, 1) := by decide +kernel
theorem dX7_cell_25 : decode cX7_cell 25 = .ok (.aload_n 3, 1) := by decide +kernel
theorem dX7_cell_26 : decode cX7_cell 26 = .ok (.getfield 132, 3) := by decide +kernel
theorem dX7_cell_29 : decode cX7_cell 29 = .ok (.if_icmp .lt 13, 3) := by decide +kernel
theorem dX7_cell_32 : decode cX7_cell 32 = .ok (.new 77, 3) := by decide +kernel
theorem dX7_cell_35 : decode cX7_cell 35 = .ok (.dup, 1) := by decide +kernel
theorem dX7_cell_36 : decode cX7_cell 36 = .ok (.ldc 94, 2) := by decide +kernel
theorem dX7_cell_38 : decode cX7_cell 38 = .ok (.invokespecial 81, 3) := by decide +kernel
theorem dX7_cell_41 : decode cX7_cell 41 = .ok (.athrow, 1) := by decide +kernel
theorem dX7_cell_42 : decode cX7_cell 42 = .ok (.aload_n 0, 1) := by decide +kernel
theorem dX7_cell_43 : decode cX7_cell 43 = .ok (.getfield 10, 3) := by decide +kernel
theorem dX7_cell_46 : decode cX7_cell 46 = .ok (.invokevirtual 57, 3) := by decide +kernel
theorem dX7_cell_49 : decode cX7_cell 49 = .ok (.aload_n 3, 1) := by decide +kernel
theorem dX7_cell_50 : decode cX7_cell 50 = .ok (.iload_n 1, 1) := by decide +kernel
theorem dX7_cell_51 : decode cX7_cell 51 = .ok (.iload_n 2, 1) := by decide +kernel
theorem dX7_cell_52 : decode cX7_cell 52 = .ok (.invokevirtual 135, 3) := by decide +kernel
theorem dX7_cell_55 : decode cX7_cell 55 = .ok (.invokevirtual 138, 3) := by decide +kernel
theorem dX7_cell_58 : decode cX7_cell 58 = .ok (.ireturn, 1) := by decide +kernel
theorem dX7_since_0 : decode cX7_since 0 = .ok (.aload_n 0, 1) := by decide +kernel
theorem dX7_since_1 : decode cX7_since 1 = .ok (.getfield 10, 3) := by decide +kernel
theorem dX7_since_4 : decode cX7_since 4 = .ok (.getfield 123, 3) := by decide +kernel
theorem dX7_since_7 : decode cX7_since 7 = .ok (.iload_n 1, 1) := by decide +kernel
theorem dX7_since_8 : decode cX7_since 8 = .ok (.invokevirtual 141, 3) := by decide +kernel
theorem dX7_since_11 : decode cX7_since 11 = .ok (.ifCond .ne 13, 3) := by decide +kernel
theorem dX7_since_14 : decode cX7_since 14 = .ok (.new 77, 3) := by decide +kernel
theorem dX7_since_17 : decode cX7_since 17 = .ok (.dup, 1) := by decide +kernel
theorem dX7_since_18 : decode cX7_since 18 = .ok (.ldc 94, 2) := by decide +kernel
theorem dX7_since_20 : decode cX7_since 20 = .ok (.invokespecial 81, 3) := by decide +kernel
theorem dX7_since_23 : decode cX7_since 23 = .ok (.athrow, 1) := by decide +kernel
theorem dX7_since_24 : decode cX7_since 24 = .ok (.iload_n 2, 1) := by decide +kernel
theorem dX7_since_25 : decode cX7_since 25 = .ok (.lookupswitch 45 #[(0, 27), (1, 36)], 27) := by decide +kernel
theorem dX7_since_52 : decode cX7_since 52 = .ok (.aload_n 0, 1) := by decide +kernel
theorem dX7_since_53 : decode cX7_since 53 = .ok (.getfield 10, 3) := by decide +kernel
theorem dX7_since_56 : decode cX7_since 56 = .ok (.iload_n 1, 1) := by decide +kernel
theorem dX7_since_57 : decode cX7_since 57 = .ok (.invokevirtual 144, 3) := by decide +kernel
theorem dX7_since_60 : decode cX7_since 60 = .ok (.ireturn, 1) := by decide +kernel
theorem dX7_since_61 : decode cX7_since 61 = .ok (.aload_n 0, 1) := by decide +kernel
theorem dX7_since_62 : decode cX7_since 62 = .ok (.getfield 10, 3) := by decide +kernel
theorem dX7_since_65 : decode cX7_since 65 = .ok (.iload_n 1, 1) := by decide +kernel
theorem dX7_since_66 : decode cX7_since 66 = .ok (.invokevirtual 147, 3) := by decide +kernel
theorem dX7_since_69 : decode cX7_since 69 = .ok (.ireturn, 1) := by decide +kernel
theorem dX7_since_70 : decode cX7_since 70 = .ok (.new 44, 3) := by decide +kernel
theorem dX7_since_73 : decode cX7_since 73 = .ok (.dup, 1) := by decide +kernel
theorem dX7_since_74 : decode cX7_since 74 = .ok (.ldc 150, 2) := by decide +kernel
theorem dX7_since_76 : decode cX7_since 76 = .ok (.invokespecial 48, 3) := by decide +kernel
theorem dX7_since_79 : decode cX7_since 79 = .ok (.athrow, 1) := by decide +kernel
theorem dX7_count_0 : decode cX7_count 0 = .ok (.iload_n 1, 1) := by decide +kernel
theorem dX7_count_1 : decode cX7_count 1 = .ok (.tableswitch 113 0 6 #[43, 51, 62, 73, 85, 97, 105], 43) := by decide +kernel
theorem dX7_count_44 : decode cX7_count 44 = .ok (.aload_n 0, 1) := by decide +kernel
theorem dX7_count_45 : decode cX7_count 45 = .ok (.getfield 10, 3) := by decide +kernel
theorem dX7_count_48 : decode cX7_count 48 = .ok (.getfield 118, 3) := by decide +kernel
theorem dX7_count_51 : decode cX7_count 51 = .ok (.ireturn, 1) := by decide +kernel
theorem dX7_count_52 : decode cX7_count 52 = .ok (.aload_n 0, 1) := by decide +kernel
theorem dX7_count_53 : decode cX7_count 53 = .ok (.getfield 10, 3) := by decide +kernel
theorem dX7_count_56 : decode cX7_count 56 = .ok (.getfield 123, 3) := by decide +kernel
theorem dX7_count_59 : decode cX7_count 59 = .ok (.getfield 127, 3) := by decide +kernel
theorem dX7_count_62 : decode cX7_count 62 = .ok (.ireturn, 1) := by decide +kernel
theorem dX7_count_63 : decode cX7_count 63 = .ok (.aload_n 0, 1) := by decide +kernel
theorem dX7_count_64 : decode cX7_count 64 = .ok (.getfield 10, 3) := by decide +kernel
theorem dX7_count_67 : decode cX7_count 67 = .ok (.getfield 123, 3) := by decide +kernel
theorem dX7_count_70 : decode cX7_count 70 = .ok (.getfield 132, 3) := by decide +kernel
theorem dX7_count_73 : decode cX7_count 73 = .ok (.ireturn, 1) := by decide +kernel
theorem dX7_count_74 : decode cX7_count 74 = .ok (.aload_n 0, 1) := by decide +kernel
theorem dX7_count_75 : decode cX7_count 75 = .ok (.getfield 10, 3) := by decide +kernel
theorem dX7_count_78 : decode cX7_count 78 = .ok (.invokevirtual 57, 3) := by decide +kernel
theorem dX7_count_81 : decode cX7_count 81 = .ok (.iconst 0, 1) := by decide +kernel
theorem dX7_count_82 : decode cX7_count 82 = .ok (.invokevirtual 61, 3) := by decide +kernel
theorem dX7_count_85 : decode cX7_count 85 = .ok (.ireturn, 1) := by decide +kernel
theorem dX7_count_86 : decode cX7_count 86 = .ok (.aload_n 0, 1) := by decide +kernel
theorem dX7_count_87 : decode cX7_count 87 = .ok (.getfield 10, 3) := by decide +kernel
theorem dX7_count_90 : decode cX7_count 90 = .ok (.invokevirtual 57, 3) := by decide +kernel
theorem dX7_count_93 : decode cX7_count 93 = .ok (.iconst 5, 1) := by decide +kernel
theorem dX7_count_94 : decode cX7_count 94 = .ok (.invokevirtual 61, 3) := by decide +kernel
theorem dX7_count_97 : decode cX7_count 97 = .ok (.ireturn, 1) := by decide +kernel
theorem dX7_count_98 : decode cX7_count 98 = .ok (.aload_n 0, 1) := by decide +kernel
theorem dX7_count_99 : decode cX7_count 99 = .ok (.getfield 10, 3) := by decide +kernel
theorem dX7_count_102 : decode cX7_count 102 = .ok (.invokevirtual 152, 3) := by decide +kernel
theorem dX7_count_105 : decode cX7_count 105 = .ok (.ireturn, 1) := by decide +kernel
theorem dX7_count_106 : decode cX7_count 106 = .ok (.aload_n 0, 1) := by decide +kernel
theorem dX7_count_107 : decode cX7_count 107 = .ok (.getfield 10, 3) := by decide +kernel
theorem dX7_count_110 : decode cX7_count 110 = .ok (.invokevirtual 156, 3) := by decide +kernel
theorem dX7_count_113 : decode cX7_count 113 = .ok (.ireturn, 1) := by decide +kernel
theorem dX7_count_114 : decode cX7_count 114 = .ok (.new 44, 3) := by decide +kernel
theorem dX7_count_117 : decode cX7_count 117 = .ok (.dup, 1) := by decide +kernel
theorem dX7_count_118 : decode cX7_count 118 = .ok (.ldc 159, 2) := by decide +kernel
theorem dX7_count_120 : decode cX7_count 120 = .ok (.invokespecial 48, 3) := by decide +kernel
theorem dX7_count_123 : decode cX7_count 123 = .ok (.athrow, 1) := by decide +kernel
theorem dX7_player_0 : decode cX7_player 0 = .ok (.iload_n 1, 1) := by decide +kernel
theorem dX7_player_1 : decode cX7_player 1 = .ok (.invokestatic 73, 3) := by decide +kernel
theorem dX7_player_4 : decode cX7_player 4 = .ok (.ifCond .ne 13, 3) := by decide +kernel
theorem dX7_player_7 : decode cX7_player 7 = .ok (.new 77, 3) := by decide +kernel
theorem dX7_player_10 : decode cX7_player 10 = .ok (.dup, 1) := by decide +kernel
theorem dX7_player_11 : decode cX7_player 11 = .ok (.ldc 79, 2) := by decide +kernel
theorem dX7_player_13 : decode cX7_player 13 = .ok (.invokespecial 81, 3) := by decide +kernel
theorem dX7_player_16 : decode cX7_player 16 = .ok (.athrow, 1) := by decide +kernel
theorem dX7_player_17 : decode cX7_player 17 = .ok (.aload_n 0, 1) := by decide +kernel
theorem dX7_player_18 : decode cX7_player 18 = .ok (.getfield 10, 3) := by decide +kernel
theorem dX7_player_21 : decode cX7_player 21 = .ok (.invokevirtual 57, 3) := by decide +kernel
theorem dX7_player_24 : decode cX7_player 24 = .ok (.astore_n 3, 1) := by decide +kernel
theorem dX7_player_25 : decode cX7_player 25 = .ok (.iload_n 2, 1) := by decide +kernel
theorem dX7_player_26 : decode cX7_player 26 = .ok (.tableswitch 121 0 7 #[46, 55, 63, 71, 77, 86, 95, 108], 46) := by decide +kernel
theorem dX7_player_72 : decode cX7_player 72 = .ok (.aload_n 0, 1) := by decide +kernel
theorem dX7_player_73 : decode cX7_player 73 = .ok (.getfield 10, 3) := by decide +kernel
theorem dX7_player_76 : decode cX7_player 76 = .ok (.iload_n 1, 1) := by decide +kernel
theorem dX7_player_77 : decode cX7_player 77 = .ok (.invokevirtual 161, 3) := by decide +kernel
theorem dX7_player_80 : decode cX7_player 80 = .ok (.ireturn, 1) := by decide +kernel
theorem dX7_player_81 : decode cX7_player 81 = .ok (.aload_n 3, 1) := by decide +kernel
theorem dX7_player_82 : decode cX7_player 82 = .ok (.iconst 1, 1) := by decide +kernel
theorem dX7_player_83 : decode cX7_player 83 = .ok (.iload_n 1, 1) := by decide +kernel
theorem dX7_player_84 : decode cX7_player 84 = .ok (.iadd, 1) := by decide +kernel
theorem dX7_player_85 : decode cX7_player 85 = .ok (.invokevirtual 61, 3) := by decide +kernel
theorem dX7_player_88 : decode cX7_player 88 = .ok (.ireturn, 1) := by decide +kernel
theorem dX7_player_89 : decode cX7_player 89 = .ok (.aload_n 3, 1) := by decide +kernel
theorem dX7_player_90 : decode cX7_player 90 = .ok (.iconst 3, 1) := by decide +kernel
theorem dX7_player_91 : decode cX7_player 91 = .ok (.iload_n 1, 1) := by decide +kernel
theorem dX7_player_92 : decode cX7_player 92 = .ok (.iadd, 1) := by decide +kernel
theorem dX7_player_93 : decode cX7_player 93 = .ok (.invokevirtual 61, 3) := by decide +kernel
theorem dX7_player_96 : decode cX7_player 96 = .ok (.ireturn, 1) := by decide +kernel
theorem dX7_player_97 : decode cX7_player 97 = .ok (.aload_n 3, 1) := by decide +kernel
theorem dX7_player_98 : decode cX7_player 98 = .ok (.iload_n 1, 1) := by decide +kernel
theorem dX7_player_99 : decode cX7_player 99 = .ok (.invokevirtual 164, 3) := by decide +kernel
theorem dX7_player_102 : decode cX7_player 102 = .ok (.ireturn, 1) := by decide +kernel
theorem dX7_player_103 : decode cX7_player 103 = .ok (.aload_n 0, 1) := by decide +kernel
theorem dX7_player_104 : decode cX7_player 104 = .ok (.getfield 10, 3) := by decide +kernel
theorem dX7_player_107 : decode cX7_player 107 = .ok (.iload_n 1, 1) := by decide +kernel
theorem dX7_player_108 : decode cX7_player 108 = .ok (.invokevirtual 84, 3) := by decide +kernel
theorem dX7_player_111 : decode cX7_player 111 = .ok (.ireturn, 1) := by decide +kernel
theorem dX7_player_112 : decode cX7_player 112 = .ok (.aload_n 0, 1) := by decide +kernel
theorem dX7_player_113 : decode cX7_player 113 = .ok (.getfield 10, 3) := by decide +kernel
theorem dX7_player_116 : decode cX7_player 116 = .ok (.iload_n 1, 1) := by decide +kernel
theorem dX7_player_117 : decode cX7_player 117 = .ok (.invokevirtual 167, 3) := by decide +kernel
theorem dX7_player_120 : decode cX7_player 120 = .ok (.ireturn, 1) := by decide +kernel
theorem dX7_player_121 : decode cX7_player 121 = .ok (.aload_n 3, 1) := by decide +kernel
theorem dX7_player_122 : decode cX7_player 122 = .ok (.aload_n 0, 1) := by decide +kernel
theorem dX7_player_123 : decode cX7_player 123 = .ok (.getfield 10, 3) := by decide +kernel
theorem dX7_player_126 : decode cX7_player 126 = .ok (.getfield 123, 3) := by decide +kernel
theorem dX7_player_129 : decode cX7_player 129 = .ok (.iload_n 1, 1) := by decide +kernel
theorem dX7_player_130 : decode cX7_player 130 = .ok (.invokevirtual 170, 3) := by decide +kernel
theorem dX7_player_133 : decode cX7_player 133 = .ok (.ireturn, 1) := by decide +kernel
theorem dX7_player_134 : decode cX7_player 134 = .ok (.aload_n 3, 1) := by decide +kernel
theorem dX7_player_135 : decode cX7_player 135 = .ok (.aload_n 0, 1) := by decide +kernel
theorem dX7_player_136 : decode cX7_player 136 = .ok (.getfield 10, 3) := by decide +kernel
theorem dX7_player_139 : decode cX7_player 139 = .ok (.getfield 123, 3) := by decide +kernel
theorem dX7_player_142 : decode cX7_player 142 = .ok (.iload_n 1, 1) := by decide +kernel
theorem dX7_player_143 : decode cX7_player 143 = .ok (.invokevirtual 174, 3) := by decide +kernel
theorem dX7_player_146 : decode cX7_player 146 = .ok (.ireturn, 1) := by decide +kernel
theorem dX7_player_147 : decode cX7_player 147 = .ok (.new 44, 3) := by decide +kernel
theorem dX7_player_150 : decode cX7_player 150 = .ok (.dup, 1) := by decide +kernel
theorem dX7_player_151 : decode cX7_player 151 = .ok (.ldc 150, 2) := by decide +kernel
theorem dX7_player_153 : decode cX7_player 153 = .ok (.invokespecial 48, 3) := by decide +kernel
theorem dX7_player_156 : decode cX7_player 156 = .ok (.athrow, 1) := by decide +kernel
theorem dX7_region_0 : decode cX7_region 0 = .ok (.iload_n 1, 1) := by decide +kernel
theorem dX7_region_1 : decode cX7_region 1 = .ok (.invokestatic 73, 3) := by decide +kernel
theorem dX7_region_4 : decode cX7_region 4 = .ok (.ifCond .eq 17, 3) := by decide +kernel
theorem dX7_region_7 : decode cX7_region 7 = .ok (.aload_n 0, 1) := by decide +kernel
theorem dX7_region_8 : decode cX7_region 8 = .ok (.getfield 10, 3) := by decide +kernel
theorem dX7_region_11 : decode cX7_region 11 = .ok (.getfield 123, 3) := by decide +kernel
theorem dX7_region_14 : decode cX7_region 14 = .ok (.iload_n 2, 1) := by decide +kernel
theorem dX7_region_15 : decode cX7_region 15 = .ok (.invokevirtual 141, 3) := by decide +kernel
theorem dX7_region_18 : decode cX7_region 18 = .ok (.ifCond .ne 13, 3) := by decide +kernel
theorem dX7_region_21 : decode cX7_region 21 = .ok (.new 77, 3) := by decide +kernel
theorem dX7_region_24 : decode cX7_region 24 = .ok (.dup, 1) := by decide +kernel
theorem dX7_region_25 : decode cX7_region 25 = .ok (.ldc 177, 2) := by decide +kernel
theorem dX7_region_27 : decode cX7_region 27 = .ok (.invokespecial 81, 3) := by decide +kernel
theorem dX7_region_30 : decode cX7_region 30 = .ok (.athrow, 1) := by decide +kernel
theorem dX7_region_31 : decode cX7_region 31 = .ok (.aload_n 0, 1) := by decide +kernel
theorem dX7_region_32 : decode cX7_region 32 = .ok (.getfield 10, 3) := by decide +kernel
theorem dX7_region_35 : decode cX7_region 35 = .ok (.getfield 123, 3) := by decide +kernel
theorem dX7_region_38 : decode cX7_region 38 = .ok (.lconst 1, 1) := by decide +kernel
theorem dX7_region_39 : decode cX7_region 39 = .ok (.iload_n 2, 1) := by decide +kernel
theorem dX7_region_40 : decode cX7_region 40 = .ok (.lshl, 1) := by decide +kernel
theorem dX7_region_41 : decode cX7_region 41 = .ok (.aload_n 0, 1) := by decide +kernel
theorem dX7_region_42 : decode cX7_region 42 = .ok (.getfield 10, 3) := by decide +kernel
theorem dX7_region_45 : decode cX7_region 45 = .ok (.invokevirtual 57, 3) := by decide +kernel
theorem dX7_region_48 : decode cX7_region 48 = .ok (.aload_n 0, 1) := by decide +kernel
theorem dX7_region_49 : decode cX7_region 49 = .ok (.getfield 10, 3) := by decide +kernel
theorem dX7_region_52 : decode cX7_region 52 = .ok (.getfield 123, 3) := by decide +kernel
theorem dX7_region_55 : decode cX7_region 55 = .ok (.iload_n 1, 1) := by decide +kernel
theorem dX7_region_56 : decode cX7_region 56 = .ok (.invokevirtual 179, 3) := by decide +kernel
theorem dX7_region_59 : decode cX7_region 59 = .ok (.invokevirtual 183, 3) := by decide +kernel
theorem dX7_region_62 : decode cX7_region 62 = .ok (.lstore_n 3, 1) := by decide +kernel
theorem dX7_region_63 : decode cX7_region 63 = .ok (.lload_n 3, 1) := by decide +kernel
theorem dX7_region_64 : decode cX7_region 64 = .ok (.lconst 0, 1) := by decide +kernel
theorem dX7_region_65 : decode cX7_region 65 = .ok (.lcmp, 1) := by decide +kernel
theorem dX7_region_66 : decode cX7_region 66 = .ok (.ifCond .ne 13, 3) := by decide +kernel
theorem dX7_region_69 : decode cX7_region 69 = .ok (.new 187, 3) := by decide +kernel
theorem dX7_region_72 : decode cX7_region 72 = .ok (.dup, 1) := by decide +kernel
theorem dX7_region_73 : decode cX7_region 73 = .ok (.ldc 189, 2) := by decide +kernel
theorem dX7_region_75 : decode cX7_region 75 = .ok (.invokespecial 191, 3) := by decide +kernel
theorem dX7_region_78 : decode cX7_region 78 = .ok (.athrow, 1) := by decide +kernel
theorem dX7_region_79 : decode cX7_region 79 = .ok (.lload_n 3, 1) := by decide +kernel
theorem dX7_region_80 : decode cX7_region 80 = .ok (.lreturn, 1) := by decide +kernel
theorem dX7_cells_0 : decode cX7_cells 0 = .ok (.iload_n 1, 1) := by decide +kernel
theorem dX7_cells_1 : decode cX7_cells 1 = .ok (.ifCond .lt 8, 3) := by decide +kernel
theorem dX7_cells_4 : decode cX7_cells 4 = .ok (.iload_n 1, 1) := by decide +kernel
theorem dX7_cells_5 : decode cX7_cells 5 = .ok (.iconst 5, 1) := by decide +kernel
theorem dX7_cells_6 : decode cX7_cells 6 = .ok (.if_icmp .le 13, 3) := by decide +kernel
theorem dX7_cells_9 : decode cX7_cells 9 = .ok (.new 44, 3) := by decide +kernel
theorem dX7_cells_12 : decode cX7_cells 12 = .ok (.dup, 1) := by decide +kernel
theorem dX7_cells_13 : decode cX7_cells 13 = .ok (.ldc 192, 2) := by decide +kernel
theorem dX7_cells_15 : decode cX7_cells 15 = .ok (.invokespecial 48, 3) := by decide +kernel
theorem dX7_cells_18 : decode cX7_cells 18 = .ok (.athrow, 1) := by decide +kernel
theorem dX7_cells_19 : decode cX7_cells 19 = .ok (.aload_n 0, 1) := by decide +kernel
theorem dX7_cells_20 : decode cX7_cells 20 = .ok (.getfield 10, 3) := by decide +kernel
theorem dX7_cells_23 : decode cX7_cells 23 = .ok (.invokevirtual 57, 3) := by decide +kernel
theorem dX7_cells_26 : decode cX7_cells 26 = .ok (.iload_n 1, 1) := by decide +kernel
theorem dX7_cells_27 : decode cX7_cells 27 = .ok (.invokevirtual 194, 3) := by decide +kernel
theorem dX7_cells_30 : decode cX7_cells 30 = .ok (.lreturn, 1) := by decide +kernel
theorem dX7_chain_0 : decode cX7_chain 0 = .ok (.aload_n 0, 1) := by decide +kernel
theorem dX7_chain_1 : decode cX7_chain 1 = .ok (.getfield 10, 3) := by decide +kernel
theorem dX7_chain_4 : decode cX7_chain 4 = .ok (.getfield 123, 3) := by decide +kernel
theorem dX7_chain_7 : decode cX7_chain 7 = .ok (.iload_n 1, 1) := by decide +kernel
theorem dX7_chain_8 : decode cX7_chain 8 = .ok (.invokevirtual 141, 3) := by decide +kernel
theorem dX7_chain_11 : decode cX7_chain 11 = .ok (.ifCond .ne 13, 3) := by decide +kernel
theorem dX7_chain_14 : decode cX7_chain 14 = .ok (.new 77, 3) := by decide +kernel
theorem dX7_chain_17 : decode cX7_chain 17 = .ok (.dup, 1) := by decide +kernel
theorem dX7_chain_18 : decode cX7_chain 18 = .ok (.ldc 94, 2) := by decide +kernel
theorem dX7_chain_20 : decode cX7_chain 20 = .ok (.invokespecial 81, 3) := by decide +kernel
theorem dX7_chain_23 : decode cX7_chain 23 = .ok (.athrow, 1) := by decide +kernel
theorem dX7_chain_24 : decode cX7_chain 24 = .ok (.aload_n 0, 1) := by decide +kernel
theorem dX7_chain_25 : decode cX7_chain 25 = .ok (.getfield 10, 3) := by decide +kernel
theorem dX7_chain_28 : decode cX7_chain 28 = .ok (.invokevirtual 57, 3) := by decide +kernel
theorem dX7_chain_31 : decode cX7_chain 31 = .ok (.astore_n 2, 1) := by decide +kernel
theorem dX7_chain_32 : decode cX7_chain 32 = .ok (.aload_n 2, 1) := by decide +kernel
theorem dX7_chain_33 : decode cX7_chain 33 = .ok (.iload_n 1, 1) := by decide +kernel
theorem dX7_chain_34 : decode cX7_chain 34 = .ok (.invokevirtual 138, 3) := by decide +kernel
theorem dX7_chain_37 : decode cX7_chain 37 = .ok (.istore_n 3, 1) := by decide +kernel
theorem dX7_chain_38 : decode cX7_chain 38 = .ok (.iload_n 3, 1) := by decide +kernel
theorem dX7_chain_39 : decode cX7_chain 39 = .ok (.iconst 1, 1) := by decide +kernel
theorem dX7_chain_40 : decode cX7_chain 40 = .ok (.if_icmp .eq 18, 3) := by decide +kernel
theorem dX7_chain_43 : decode cX7_chain 43 = .ok (.iload_n 3, 1) := by decide +kernel
theorem dX7_chain_44 : decode cX7_chain 44 = .ok (.iconst 2, 1) := by decide +kernel
theorem dX7_chain_45 : decode cX7_chain 45 = .ok (.if_icmp .eq 13, 3) := by decide +kernel
theorem dX7_chain_48 : decode cX7_chain 48 = .ok (.new 187, 3) := by decide +kernel
theorem dX7_chain_51 : decode cX7_chain 51 = .ok (.dup, 1) := by decide +kernel
theorem dX7_chain_52 : decode cX7_chain 52 = .ok (.ldc 198, 2) := by decide +kernel
theorem dX7_chain_54 : decode cX7_chain 54 = .ok (.invokespecial 191, 3) := by decide +kernel
theorem dX7_chain_57 : decode cX7_chain 57 = .ok (.athrow, 1) := by decide +kernel
theorem dX7_chain_58 : decode cX7_chain 58 = .ok (.aload_n 0, 1) := by decide +kernel
theorem dX7_chain_59 : decode cX7_chain 59 = .ok (.getfield 10, 3) := by decide +kernel
theorem dX7_chain_62 : decode cX7_chain 62 = .ok (.getfield 123, 3) := by decide +kernel
theorem dX7_chain_65 : decode cX7_chain 65 = .ok (.lconst 1, 1) := by decide +kernel
theorem dX7_chain_66 : decode cX7_chain 66 = .ok (.iload_n 1, 1) := by decide +kernel
theorem dX7_chain_67 : decode cX7_chain 67 = .ok (.lshl, 1) := by decide +kernel
theorem dX7_chain_68 : decode cX7_chain 68 = .ok (.aload_n 2, 1) := by decide +kernel
theorem dX7_chain_69 : decode cX7_chain 69 = .ok (.iload_n 3, 1) := by decide +kernel
theorem dX7_chain_70 : decode cX7_chain 70 = .ok (.invokevirtual 194, 3) := by decide +kernel
theorem dX7_chain_73 : decode cX7_chain 73 = .ok (.invokevirtual 183, 3) := by decide +kernel
theorem dX7_chain_76 : decode cX7_chain 76 = .ok (.lreturn, 1) := by decide +kernel
theorem dX7_stonesToEnclose_0 : decode cX7_stonesToEnclose 0 = .ok (.iload_n 1, 1) := by decide +kernel
theorem dX7_stonesToEnclose_1 : decode cX7_stonesToEnclose 1 = .ok (.invokestatic 73, 3) := by decide +kernel
theorem dX7_stonesToEnclose_4 : decode cX7_stonesToEnclose 4 = .ok (.ifCond .eq 17, 3) := by decide +kernel
theorem dX7_stonesToEnclose_7 : decode cX7_stonesToEnclose 7 = .ok (.aload_n 0, 1) := by decide +kernel
theorem dX7_stonesToEnclose_8 : decode cX7_stonesToEnclose 8 = .ok (.getfield 10, 3) := by decide +kernel
theorem dX7_stonesToEnclose_11 : decode cX7_stonesToEnclose 11 = .ok (.getfield 123, 3) := by decide +kernel
theorem dX7_stonesToEnclose_14 : decode cX7_stonesToEnclose 14 = .ok (.iload_n 2, 1) := by decide +kernel
theorem dX7_stonesToEnclose_15 : decode cX7_stonesToEnclose 15 = .ok (.invokevirtual 141, 3) := by decide +kernel
theorem dX7_stonesToEnclose_18 : decode cX7_stonesToEnclose 18 = .ok (.ifCond .ne 13, 3) := by decide +kernel
theorem dX7_stonesToEnclose_21 : decode cX7_stonesToEnclose 21 = .ok (.new 77, 3) := by decide +kernel
theorem dX7_stonesToEnclose_24 : decode cX7_stonesToEnclose 24 = .ok (.dup, 1) := by decide +kernel
theorem dX7_stonesToEnclose_25 : decode cX7_stonesToEnclose 25 = .ok (.ldc 177, 2) := by decide +kernel
theorem dX7_stonesToEnclose_27 : decode cX7_stonesToEnclose 27 = .ok (.invokespecial 81, 3) := by decide +kernel
theorem dX7_stonesToEnclose_30 : decode cX7_stonesToEnclose 30 = .ok (.athrow, 1) := by decide +kernel
theorem dX7_stonesToEnclose_31 : decode cX7_stonesToEnclose 31 = .ok (.aload_n 0, 1) := by decide +kernel
theorem dX7_stonesToEnclose_32 : decode cX7_stonesToEnclose 32 = .ok (.getfield 10, 3) := by decide +kernel
theorem dX7_stonesToEnclose_35 : decode cX7_stonesToEnclose 35 = .ok (.invokevirtual 57, 3) := by decide +kernel
theorem dX7_stonesToEnclose_38 : decode cX7_stonesToEnclose 38 = .ok (.astore_n 3, 1) := by decide +kernel
theorem dX7_stonesToEnclose_39 : decode cX7_stonesToEnclose 39 = .ok (.aload_n 3, 1) := by decide +kernel
theorem dX7_stonesToEnclose_40 : decode cX7_stonesToEnclose 40 = .ok (.aload_n 0, 1) := by decide +kernel
theorem dX7_stonesToEnclose_41 : decode cX7_stonesToEnclose 41 = .ok (.getfield 10, 3) := by decide +kernel
theorem dX7_stonesToEnclose_44 : decode cX7_stonesToEnclose 44 = .ok (.getfield 123, 3) := by decide +kernel
theorem dX7_stonesToEnclose_47 : decode cX7_stonesToEnclose 47 = .ok (.iload_n 1, 1) := by decide +kernel
theorem dX7_stonesToEnclose_48 : decode cX7_stonesToEnclose 48 = .ok (.invokevirtual 179, 3) := by decide +kernel
theorem dX7_stonesToEnclose_51 : decode cX7_stonesToEnclose 51 = .ok (.lconst 1, 1) := by decide +kernel
theorem dX7_stonesToEnclose_52 : decode cX7_stonesToEnclose 52 = .ok (.iload_n 2, 1) := by decide +kernel
theorem dX7_stonesToEnclose_53 : decode cX7_stonesToEnclose 53 = .ok (.lshl, 1) := by decide +kernel
theorem dX7_stonesToEnclose_54 : decode cX7_stonesToEnclose 54 = .ok (.land, 1) := by decide +kernel
theorem dX7_stonesToEnclose_55 : decode cX7_stonesToEnclose 55 = .ok (.lconst 0, 1) := by decide +kernel
theorem dX7_stonesToEnclose_56 : decode cX7_stonesToEnclose 56 = .ok (.lcmp, 1) := by decide +kernel
theorem dX7_stonesToEnclose_57 : decode cX7_stonesToEnclose 57 = .ok (.ifCond .ne 13, 3) := by decide +kernel
theorem dX7_stonesToEnclose_60 : decode cX7_stonesToEnclose 60 = .ok (.new 187, 3) := by decide +kernel
theorem dX7_stonesToEnclose_63 : decode cX7_stonesToEnclose 63 = .ok (.dup, 1) := by decide +kernel
theorem dX7_stonesToEnclose_64 : decode cX7_stonesToEnclose 64 = .ok (.ldc 189, 2) := by decide +kernel
theorem dX7_stonesToEnclose_66 : decode cX7_stonesToEnclose 66 = .ok (.invokespecial 191, 3) := by decide +kernel
theorem dX7_stonesToEnclose_69 : decode cX7_stonesToEnclose 69 = .ok (.athrow, 1) := by decide +kernel
theorem dX7_stonesToEnclose_70 : decode cX7_stonesToEnclose 70 = .ok (.aload_n 3, 1) := by decide +kernel
theorem dX7_stonesToEnclose_71 : decode cX7_stonesToEnclose 71 = .ok (.aload_n 0, 1) := by decide +kernel
theorem dX7_stonesToEnclose_72 : decode cX7_stonesToEnclose 72 = .ok (.getfield 10, 3) := by decide +kernel
theorem dX7_stonesToEnclose_75 : decode cX7_stonesToEnclose 75 = .ok (.getfield 123, 3) := by decide +kernel
theorem dX7_stonesToEnclose_78 : decode cX7_stonesToEnclose 78 = .ok (.iload_n 1, 1) := by decide +kernel
theorem dX7_stonesToEnclose_79 : decode cX7_stonesToEnclose 79 = .ok (.iload_n 2, 1) := by decide +kernel
theorem dX7_stonesToEnclose_80 : decode cX7_stonesToEnclose 80 = .ok (.invokevirtual 200, 3) := by decide +kernel
theorem dX7_stonesToEnclose_83 : decode cX7_stonesToEnclose 83 = .ok (.istore 4, 2) := by decide +kernel
theorem dX7_stonesToEnclose_85 : decode cX7_stonesToEnclose 85 = .ok (.iload 4, 2) := by decide +kernel
theorem dX7_stonesToEnclose_87 : decode cX7_stonesToEnclose 87 = .ok (.iconst 2, 1) := by decide +kernel
theorem dX7_stonesToEnclose_88 : decode cX7_stonesToEnclose 88 = .ok (.if_icmp .le 13, 3) := by decide +kernel
theorem dX7_stonesToEnclose_91 : decode cX7_stonesToEnclose 91 = .ok (.new 187, 3) := by decide +kernel
theorem dX7_stonesToEnclose_94 : decode cX7_stonesToEnclose 94 = .ok (.dup, 1) := by decide +kernel
theorem dX7_stonesToEnclose_95 : decode cX7_stonesToEnclose 95 = .ok (.ldc 204, 2) := by decide +kernel
theorem dX7_stonesToEnclose_97 : decode cX7_stonesToEnclose 97 = .ok (.invokespecial 191, 3) := by decide +kernel
theorem dX7_stonesToEnclose_100 : decode cX7_stonesToEnclose 100 = .ok (.athrow, 1) := by decide +kernel
theorem dX7_stonesToEnclose_101 : decode cX7_stonesToEnclose 101 = .ok (.iload 4, 2) := by decide +kernel
theorem dX7_stonesToEnclose_103 : decode cX7_stonesToEnclose 103 = .ok (.ireturn, 1) := by decide +kernel
theorem dX7_share_0 : decode cX7_share 0 = .ok (.iload_n 1, 1) := by decide +kernel
theorem dX7_share_1 : decode cX7_share 1 = .ok (.invokestatic 73, 3) := by decide +kernel
theorem dX7_share_4 : decode cX7_share 4 = .ok (.ifCond .ne 13, 3) := by decide +kernel
theorem dX7_share_7 : decode cX7_share 7 = .ok (.new 77, 3) := by decide +kernel
theorem dX7_share_10 : decode cX7_share 10 = .ok (.dup, 1) := by decide +kernel
theorem dX7_share_11 : decode cX7_share 11 = .ok (.ldc 79, 2) := by decide +kernel
theorem dX7_share_13 : decode cX7_share 13 = .ok (.invokespecial 81, 3) := by decide +kernel
theorem dX7_share_16 : decode cX7_share 16 = .ok (.athrow, 1) := by decide +kernel
theorem dX7_share_17 : decode cX7_share 17 = .ok (.aload_n 0, 1) := by decide +kernel
theorem dX7_share_18 : decode cX7_share 18 = .ok (.getfield 10, 3) := by decide +kernel
theorem dX7_share_21 : decode cX7_share 21 = .ok (.getfield 123, 3) := by decide +kernel
theorem dX7_share_24 : decode cX7_share 24 = .ok (.aload_n 0, 1) := by decide +kernel
theorem dX7_share_25 : decode cX7_share 25 = .ok (.getfield 10, 3) := by decide +kernel
theorem dX7_share_28 : decode cX7_share 28 = .ok (.invokevirtual 57, 3) := by decide +kernel
theorem dX7_share_31 : decode cX7_share 31 = .ok (.iload_n 1, 1) := by decide +kernel
theorem dX7_share_32 : decode cX7_share 32 = .ok (.invokevirtual 206, 3) := by decide +kernel
theorem dX7_share_35 : decode cX7_share 35 = .ok (.invokevirtual 209, 3) := by decide +kernel
theorem dX7_share_38 : decode cX7_share 38 = .ok (.dreturn, 1) := by decide +kernel
theorem dX7_round_0 : decode cX7_round 0 = .ok (.iload_n 1, 1) := by decide +kernel
theorem dX7_round_1 : decode cX7_round 1 = .ok (.ifCond .lt 20, 3) := by decide +kernel
theorem dX7_round_4 : decode cX7_round 4 = .ok (.iload_n 1, 1) := by decide +kernel
theorem dX7_round_5 : decode cX7_round 5 = .ok (.aload_n 0, 1) := by decide +kernel
theorem dX7_round_6 : decode cX7_round 6 = .ok (.getfield 10, 3) := by decide +kernel
theorem dX7_round_9 : decode cX7_round 9 = .ok (.getfield 118, 3) := by decide +kernel
theorem dX7_round_12 : decode cX7_round 12 = .ok (.if_icmp .ge 9, 3) := by decide +kernel
theorem dX7_round_15 : decode cX7_round 15 = .ok (.iload_n 1, 1) := by decide +kernel
theorem dX7_round_16 : decode cX7_round 16 = .ok (.bipush 60, 2) := by decide +kernel
theorem dX7_round_18 : decode cX7_round 18 = .ok (.if_icmp .lt 13, 3) := by decide +kernel
theorem dX7_round_21 : decode cX7_round 21 = .ok (.new 77, 3) := by decide +kernel
theorem dX7_round_24 : decode cX7_round 24 = .ok (.dup, 1) := by decide +kernel
theorem dX7_round_25 : decode cX7_round 25 = .ok (.ldc 213, 2) := by decide +kernel
theorem dX7_round_27 : decode cX7_round 27 = .ok (.invokespecial 81, 3) := by decide +kernel
theorem dX7_round_30 : decode cX7_round 30 = .ok (.athrow, 1) := by decide +kernel
theorem dX7_round_31 : decode cX7_round 31 = .ok (.aload_n 0, 1) := by decide +kernel
theorem dX7_round_32 : decode cX7_round 32 = .ok (.getfield 10, 3) := by decide +kernel
theorem dX7_round_35 : decode cX7_round 35 = .ok (.getfield 215, 3) := by decide +kernel
theorem dX7_round_38 : decode cX7_round 38 = .ok (.iload_n 1, 1) := by decide +kernel
theorem dX7_round_39 : decode cX7_round 39 = .ok (.aaload, 1) := by decide +kernel
theorem dX7_round_40 : decode cX7_round 40 = .ok (.astore_n 3, 1) := by decide +kernel
theorem dX7_round_41 : decode cX7_round 41 = .ok (.iload_n 2, 1) := by decide +kernel
theorem dX7_round_42 : decode cX7_round 42 = .ok (.tableswitch 81 0 6 #[42, 42, 48, 61, 66, 71, 76], 42) := by decide +kernel
theorem dX7_round_84 : decode cX7_round 84 = .ok (.aload_n 3, 1) := by decide +kernel
theorem dX7_round_85 : decode cX7_round 85 = .ok (.iload_n 2, 1) := by decide +kernel
theorem dX7_round_86 : decode cX7_round 86 = .ok (.invokevirtual 219, 3) := by decide +kernel
theorem dX7_round_89 : decode cX7_round 89 = .ok (.ireturn, 1) := by decide +kernel
theorem dX7_round_90 : decode cX7_round 90 = .ok (.aload_n 3, 1) := by decide +kernel
theorem dX7_round_91 : decode cX7_round 91 = .ok (.invokevirtual 224, 3) := by decide +kernel
theorem dX7_round_94 : decode cX7_round 94 = .ok (.ifCond .eq 7, 3) := by decide +kernel
theorem dX7_round_97 : decode cX7_round 97 = .ok (.iconst 1, 1) := by decide +kernel
theorem dX7_round_98 : decode cX7_round 98 = .ok (.goto 4, 3) := by decide +kernel
theorem dX7_round_101 : decode cX7_round 101 = .ok (.iconst 0, 1) := by decide +kernel
theorem dX7_round_102 : decode cX7_round 102 = .ok (.ireturn, 1) := by decide +kernel
theorem dX7_round_103 : decode cX7_round 103 = .ok (.aload_n 3, 1) := by decide +kernel
theorem dX7_round_104 : decode cX7_round 104 = .ok (.invokevirtual 227, 3) := by decide +kernel
theorem dX7_round_107 : decode cX7_round 107 = .ok (.ireturn, 1) := by decide +kernel
theorem dX7_round_108 : decode cX7_round 108 = .ok (.aload_n 3, 1) := by decide +kernel
theorem dX7_round_109 : decode cX7_round 109 = .ok (.invokevirtual 228, 3) := by decide +kernel
theorem dX7_round_112 : decode cX7_round 112 = .ok (.ireturn, 1) := by decide +kernel
theorem dX7_round_113 : decode cX7_round 113 = .ok (.aload_n 3, 1) := by decide +kernel
theorem dX7_round_114 : decode cX7_round 114 = .ok (.getfield 231, 3) := by decide +kernel
theorem dX7_round_117 : decode cX7_round 117 = .ok (.ireturn, 1) := by decide +kernel
theorem dX7_round_118 : decode cX7_round 118 = .ok (.aload_n 3, 1) := by decide +kernel
theorem dX7_round_119 : decode cX7_round 119 = .ok (.getfield 234, 3) := by decide +kernel
theorem dX7_round_122 : decode cX7_round 122 = .ok (.ireturn, 1) := by decide +kernel
theorem dX7_round_123 : decode cX7_round 123 = .ok (.new 44, 3) := by decide +kernel
theorem dX7_round_126 : decode cX7_round 126 = .ok (.dup, 1) := by decide +kernel
theorem dX7_round_127 : decode cX7_round 127 = .ok (.ldc 237, 2) := by decide +kernel
theorem dX7_round_129 : decode cX7_round 129 = .ok (.invokespecial 48, 3) := by decide +kernel
theorem dX7_round_132 : decode cX7_round 132 = .ok (.athrow, 1) := by decide +kernel
theorem dX7_turningPoint_0 : decode cX7_turningPoint 0 = .ok (.aload_n 0, 1) := by decide +kernel
theorem dX7_turningPoint_1 : decode cX7_turningPoint 1 = .ok (.getfield 10, 3) := by decide +kernel
theorem dX7_turningPoint_4 : decode cX7_turningPoint 4 = .ok (.getfield 118, 3) := by decide +kernel
theorem dX7_turningPoint_7 : decode cX7_turningPoint 7 = .ok (.ifCond .ne 13, 3) := by decide +kernel
theorem dX7_turningPoint_10 : decode cX7_turningPoint 10 = .ok (.new 187, 3) := by decide +kernel
theorem dX7_turningPoint_13 : decode cX7_turningPoint 13 = .ok (.dup, 1) := by decide +kernel
theorem dX7_turningPoint_14 : decode cX7_turningPoint 14 = .ok (.ldc 121, 2) := by decide +kernel
theorem dX7_turningPoint_16 : decode cX7_turningPoint 16 = .ok (.invokespecial 191, 3) := by decide +kernel
theorem dX7_turningPoint_19 : decode cX7_turningPoint 19 = .ok (.athrow, 1) := by decide +kernel
theorem dX7_turningPoint_20 : decode cX7_turningPoint 20 = .ok (.aload_n 0, 1) := by decide +kernel
theorem dX7_turningPoint_21 : decode cX7_turningPoint 21 = .ok (.getfield 10, 3) := by decide +kernel
theorem dX7_turningPoint_24 : decode cX7_turningPoint 24 = .ok (.invokevirtual 239, 3) := by decide +kernel
theorem dX7_turningPoint_27 : decode cX7_turningPoint 27 = .ok (.ireturn, 1) := by decide +kernel
theorem dX7_guarantee_0 : decode cX7_guarantee 0 = .ok (.iload_n 1, 1) := by decide +kernel
theorem dX7_guarantee_1 : decode cX7_guarantee 1 = .ok (.invokestatic 73, 3) := by decide +kernel
theorem dX7_guarantee_4 : decode cX7_guarantee 4 = .ok (.ifCond .eq 11, 3) := by decide +kernel
theorem dX7_guarantee_7 : decode cX7_guarantee 7 = .ok (.aload_n 0, 1) := by decide +kernel
theorem dX7_guarantee_8 : decode cX7_guarantee 8 = .ok (.iload_n 2, 1) := by decide +kernel
theorem dX7_guarantee_9 : decode cX7_guarantee 9 = .ok (.invokevirtual 91, 3) := by decide +kernel
theorem dX7_guarantee_12 : decode cX7_guarantee 12 = .ok (.ifCond .ne 13, 3) := by decide +kernel
theorem dX7_guarantee_15 : decode cX7_guarantee 15 = .ok (.new 77, 3) := by decide +kernel
theorem dX7_guarantee_18 : decode cX7_guarantee 18 = .ok (.dup, 1) := by decide +kernel
theorem dX7_guarantee_19 : decode cX7_guarantee 19 = .ok (.ldc 177, 2) := by decide +kernel
theorem dX7_guarantee_21 : decode cX7_guarantee 21 = .ok (.invokespecial 81, 3) := by decide +kernel
theorem dX7_guarantee_24 : decode cX7_guarantee 24 = .ok (.athrow, 1) := by decide +kernel
theorem dX7_guarantee_25 : decode cX7_guarantee 25 = .ok (.iload_n 3, 1) := by decide +kernel
theorem dX7_guarantee_26 : decode cX7_guarantee 26 = .ok (.invokestatic 242, 3) := by decide +kernel
theorem dX7_guarantee_29 : decode cX7_guarantee 29 = .ok (.ifCond .ne 13, 3) := by decide +kernel
theorem dX7_guarantee_32 : decode cX7_guarantee 32 = .ok (.new 44, 3) := by decide +kernel
theorem dX7_guarantee_35 : decode cX7_guarantee 35 = .ok (.dup, 1) := by decide +kernel
theorem dX7_guarantee_36 : decode cX7_guarantee 36 = .ok (.ldc 245, 2) := by decide +kernel
theorem dX7_guarantee_38 : decode cX7_guarantee 38 = .ok (.invokespecial 48, 3) := by decide +kernel
theorem dX7_guarantee_41 : decode cX7_guarantee 41 = .ok (.athrow, 1) := by decide +kernel
theorem dX7_guarantee_42 : decode cX7_guarantee 42 = .ok (.aload_n 0, 1) := by decide +kernel
theorem dX7_guarantee_43 : decode cX7_guarantee 43 = .ok (.iload_n 3, 1) := by decide +kernel
theorem dX7_guarantee_44 : decode cX7_guarantee 44 = .ok (.invokevirtual 247, 3) := by decide +kernel
theorem dX7_guarantee_47 : decode cX7_guarantee 47 = .ok (.ifCond .eq 17, 3) := by decide +kernel
theorem dX7_guarantee_50 : decode cX7_guarantee 50 = .ok (.aload_n 0, 1) := by decide +kernel
theorem dX7_guarantee_51 : decode cX7_guarantee 51 = .ok (.getfield 10, 3) := by decide +kernel
theorem dX7_guarantee_54 : decode cX7_guarantee 54 = .ok (.invokevirtual 57, 3) := by decide +kernel
theorem dX7_guarantee_57 : decode cX7_guarantee 57 = .ok (.iload_n 2, 1) := by decide +kernel
theorem dX7_guarantee_58 : decode cX7_guarantee 58 = .ok (.invokevirtual 250, 3) := by decide +kernel
theorem dX7_guarantee_61 : decode cX7_guarantee 61 = .ok (.ifCond .ne 13, 3) := by decide +kernel
theorem dX7_guarantee_64 : decode cX7_guarantee 64 = .ok (.new 100, 3) := by decide +kernel
theorem dX7_guarantee_67 : decode cX7_guarantee 67 = .ok (.dup, 1) := by decide +kernel
theorem dX7_guarantee_68 : decode cX7_guarantee 68 = .ok (.ldc 252, 2) := by decide +kernel
theorem dX7_guarantee_70 : decode cX7_guarantee 70 = .ok (.invokespecial 104, 3) := by decide +kernel
theorem dX7_guarantee_73 : decode cX7_guarantee 73 = .ok (.athrow, 1) := by decide +kernel
theorem dX7_guarantee_74 : decode cX7_guarantee 74 = .ok (.aload_n 0, 1) := by decide +kernel
theorem dX7_guarantee_75 : decode cX7_guarantee 75 = .ok (.getfield 40, 3) := by decide +kernel
theorem dX7_guarantee_78 : decode cX7_guarantee 78 = .ok (.aload_n 0, 1) := by decide +kernel
theorem dX7_guarantee_79 : decode cX7_guarantee 79 = .ok (.getfield 10, 3) := by decide +kernel
theorem dX7_guarantee_82 : decode cX7_guarantee 82 = .ok (.aload_n 0, 1) := by decide +kernel
theorem dX7_guarantee_83 : decode cX7_guarantee 83 = .ok (.getfield 10, 3) := by decide +kernel
theorem dX7_guarantee_86 : decode cX7_guarantee 86 = .ok (.invokevirtual 57, 3) := by decide +kernel
theorem dX7_guarantee_89 : decode cX7_guarantee 89 = .ok (.iload_n 1, 1) := by decide +kernel
theorem dX7_guarantee_90 : decode cX7_guarantee 90 = .ok (.iload_n 2, 1) := by decide +kernel
theorem dX7_guarantee_91 : decode cX7_guarantee 91 = .ok (.iload_n 3, 1) := by decide +kernel
theorem dX7_guarantee_92 : decode cX7_guarantee 92 = .ok (.invokevirtual 254, 3) := by decide +kernel
theorem dX7_guarantee_95 : decode cX7_guarantee 95 = .ok (.ireturn, 1) := by decide +kernel
theorem dX7_best_0 : decode cX7_best 0 = .ok (.iload_n 1, 1) := by decide +kernel
theorem dX7_best_1 : decode cX7_best 1 = .ok (.invokestatic 73, 3) := by decide +kernel
theorem dX7_best_4 : decode cX7_best 4 = .ok (.ifCond .ne 13, 3) := by decide +kernel
theorem dX7_best_7 : decode cX7_best 7 = .ok (.new 77, 3) := by decide +kernel
theorem dX7_best_10 : decode cX7_best 10 = .ok (.dup, 1) := by decide +kernel
theorem dX7_best_11 : decode cX7_best 11 = .ok (.ldc 79, 2) := by decide +kernel
theorem dX7_best_13 : decode cX7_best 13 = .ok (.invokespecial 81, 3) := by decide +kernel
theorem dX7_best_16 : decode cX7_best 16 = .ok (.athrow, 1) := by decide +kernel
theorem dX7_best_17 : decode cX7_best 17 = .ok (.iload_n 2, 1) := by decide +kernel
theorem dX7_best_18 : decode cX7_best 18 = .ok (.invokestatic 242, 3) := by decide +kernel
theorem dX7_best_21 : decode cX7_best 21 = .ok (.ifCond .ne 13, 3) := by decide +kernel
theorem dX7_best_24 : decode cX7_best 24 = .ok (.new 44, 3) := by decide +kernel
theorem dX7_best_27 : decode cX7_best 27 = .ok (.dup, 1) := by decide +kernel
theorem dX7_best_28 : decode cX7_best 28 = .ok (.ldc 245, 2) := by decide +kernel
theorem dX7_best_30 : decode cX7_best 30 = .ok (.invokespecial 48, 3) := by decide +kernel
theorem dX7_best_33 : decode cX7_best 33 = .ok (.athrow, 1) := by decide +kernel
theorem dX7_best_34 : decode cX7_best 34 = .ok (.aload_n 0, 1) := by decide +kernel
theorem dX7_best_35 : decode cX7_best 35 = .ok (.iload_n 2, 1) := by decide +kernel
theorem dX7_best_36 : decode cX7_best 36 = .ok (.invokevirtual 247, 3) := by decide +kernel
theorem dX7_best_39 : decode cX7_best 39 = .ok (.ifCond .ne 14, 3) := by decide +kernel
theorem dX7_best_42 : decode cX7_best 42 = .ok (.new 100, 3) := by decide +kernel
theorem dX7_best_45 : decode cX7_best 45 = .ok (.dup, 1) := by decide +kernel
theorem dX7_best_46 : decode cX7_best 46 = .ok (.ldc_w 258, 3) := by decide +kernel
theorem dX7_best_49 : decode cX7_best 49 = .ok (.invokespecial 104, 3) := by decide +kernel
theorem dX7_best_52 : decode cX7_best 52 = .ok (.athrow, 1) := by decide +kernel
theorem dX7_best_53 : decode cX7_best 53 = .ok (.aload_n 0, 1) := by decide +kernel
theorem dX7_best_54 : decode cX7_best 54 = .ok (.getfield 10, 3) := by decide +kernel
theorem dX7_best_57 : decode cX7_best 57 = .ok (.invokevirtual 57, 3) := by decide +kernel
theorem dX7_best_60 : decode cX7_best 60 = .ok (.astore_n 3, 1) := by decide +kernel
theorem dX7_best_61 : decode cX7_best 61 = .ok (.iconst (-1), 1) := by decide +kernel
theorem dX7_best_62 : decode cX7_best 62 = .ok (.istore 4, 2) := by decide +kernel
theorem dX7_best_64 : decode cX7_best 64 = .ok (.ldc_w 260, 3) := by decide +kernel
theorem dX7_best_67 : decode cX7_best 67 = .ok (.istore 5, 2) := by decide +kernel
theorem dX7_best_69 : decode cX7_best 69 = .ok (.iconst 0, 1) := by decide +kernel
theorem dX7_best_70 : decode cX7_best 70 = .ok (.istore 6, 2) := by decide +kernel
theorem dX7_best_72 : decode cX7_best 72 = .ok (.iload 6, 2) := by decide +kernel
theorem dX7_best_74 : decode cX7_best 74 = .ok (.aload_n 0, 1) := by decide +kernel
theorem dX7_best_75 : decode cX7_best 75 = .ok (.getfield 10, 3) := by decide +kernel
theorem dX7_best_78 : decode cX7_best 78 = .ok (.getfield 123, 3) := by decide +kernel
theorem dX7_best_81 : decode cX7_best 81 = .ok (.getfield 261, 3) := by decide +kernel
theorem dX7_best_84 : decode cX7_best 84 = .ok (.if_icmp .ge 57, 3) := by decide +kernel
theorem dX7_best_87 : decode cX7_best 87 = .ok (.aload_n 3, 1) := by decide +kernel
theorem dX7_best_88 : decode cX7_best 88 = .ok (.iload 6, 2) := by decide +kernel
theorem dX7_best_90 : decode cX7_best 90 = .ok (.invokevirtual 250, 3) := by decide +kernel
theorem dX7_best_93 : decode cX7_best 93 = .ok (.ifCond .eq 22, 3) := by decide +kernel
theorem dX7_best_96 : decode cX7_best 96 = .ok (.aload_n 0, 1) := by decide +kernel
theorem dX7_best_97 : decode cX7_best 97 = .ok (.getfield 40, 3) := by decide +kernel
theorem dX7_best_100 : decode cX7_best 100 = .ok (.aload_n 0, 1) := by decide +kernel
theorem dX7_best_101 : decode cX7_best 101 = .ok (.getfield 10, 3) := by decide +kernel
theorem dX7_best_104 : decode cX7_best 104 = .ok (.aload_n 3, 1) := by decide +kernel
theorem dX7_best_105 : decode cX7_best 105 = .ok (.iload_n 1, 1) := by decide +kernel
theorem dX7_best_106 : decode cX7_best 106 = .ok (.iload 6, 2) := by decide +kernel
theorem dX7_best_108 : decode cX7_best 108 = .ok (.iload_n 2, 1) := by decide +kernel
theorem dX7_best_109 : decode cX7_best 109 = .ok (.invokevirtual 254, 3) := by decide +kernel
theorem dX7_best_112 : decode cX7_best 112 = .ok (.goto 6, 3) := by decide +kernel
theorem dX7_best_115 : decode cX7_best 115 = .ok (.ldc_w 260, 3) := by decide +kernel
theorem dX7_best_118 : decode cX7_best 118 = .ok (.istore 7, 2) := by decide +kernel
theorem dX7_best_120 : decode cX7_best 120 = .ok (.iload 7, 2) := by decide +kernel
theorem dX7_best_122 : decode cX7_best 122 = .ok (.iload 5, 2) := by decide +kernel
theorem dX7_best_124 : decode cX7_best 124 = .ok (.if_icmp .le 11, 3) := by decide +kernel
theorem dX7_best_127 : decode cX7_best 127 = .ok (.iload 7, 2) := by decide +kernel
theorem dX7_best_129 : decode cX7_best 129 = .ok (.istore 5, 2) := by decide +kernel
theorem dX7_best_131 : decode cX7_best 131 = .ok (.iload 6, 2) := by decide +kernel
theorem dX7_best_133 : decode cX7_best 133 = .ok (.istore 4, 2) := by decide +kernel
theorem dX7_best_135 : decode cX7_best 135 = .ok (.iinc 6 1, 3) := by decide +kernel
theorem dX7_best_138 : decode cX7_best 138 = .ok (.goto (-66), 3) := by decide +kernel
theorem dX7_best_141 : decode cX7_best 141 = .ok (.aload_n 0, 1) := by decide +kernel
theorem dX7_best_142 : decode cX7_best 142 = .ok (.getfield 40, 3) := by decide +kernel
theorem dX7_best_145 : decode cX7_best 145 = .ok (.aload_n 0, 1) := by decide +kernel
theorem dX7_best_146 : decode cX7_best 146 = .ok (.getfield 10, 3) := by decide +kernel
theorem dX7_best_149 : decode cX7_best 149 = .ok (.aload_n 3, 1) := by decide +kernel
theorem dX7_best_150 : decode cX7_best 150 = .ok (.iload_n 1, 1) := by decide +kernel
theorem dX7_best_151 : decode cX7_best 151 = .ok (.iconst (-1), 1) := by decide +kernel
theorem dX7_best_152 : decode cX7_best 152 = .ok (.iload_n 2, 1) := by decide +kernel
theorem dX7_best_153 : decode cX7_best 153 = .ok (.invokevirtual 254, 3) := by decide +kernel
theorem dX7_best_156 : decode cX7_best 156 = .ok (.iload 5, 2) := by decide +kernel
theorem dX7_best_158 : decode cX7_best 158 = .ok (.if_icmp .le 7, 3) := by decide +kernel
theorem dX7_best_161 : decode cX7_best 161 = .ok (.iconst (-1), 1) := by decide +kernel
theorem dX7_best_162 : decode cX7_best 162 = .ok (.goto 5, 3) := by decide +kernel
theorem dX7_best_165 : decode cX7_best 165 = .ok (.iload 4, 2) := by decide +kernel
theorem dX7_best_167 : decode cX7_best 167 = .ok (.ireturn, 1) := by decide +kernel
theorem dX7_levels_0 : decode cX7_levels 0 = .ok (.aload_n 0, 1) := by decide +kernel
theorem dX7_levels_1 : decode cX7_levels 1 = .ok (.getfield 26, 3) := by decide +kernel
theorem dX7_levels_4 : decode cX7_levels 4 = .ok (.getfield 264, 3) := by decide +kernel
theorem dX7_levels_7 : decode cX7_levels 7 = .ok (.ireturn, 1) := by decide +kernel
theorem dX7_report_0 : decode cX7_report 0 = .ok (.iload_n 1, 1) := by decide +kernel
theorem dX7_report_1 : decode cX7_report 1 = .ok (.ifCond .lt 19, 3) := by decide +kernel
theorem dX7_report_4 : decode cX7_report 4 = .ok (.iload_n 1, 1) := by decide +kernel
theorem dX7_report_5 : decode cX7_report 5 = .ok (.aload_n 0, 1) := by decide +kernel
theorem dX7_report_6 : decode cX7_report 6 = .ok (.getfield 26, 3) := by decide +kernel
theorem dX7_report_9 : decode cX7_report 9 = .ok (.getfield 264, 3) := by decide +kernel
theorem dX7_report_12 : decode cX7_report 12 = .ok (.if_icmp .ge 8, 3) := by decide +kernel
theorem dX7_report_15 : decode cX7_report 15 = .ok (.iload_n 1, 1) := by decide +kernel
theorem dX7_report_16 : decode cX7_report 16 = .ok (.iconst 4, 1) := by decide +kernel
theorem dX7_report_17 : decode cX7_report 17 = .ok (.if_icmp .lt 14, 3) := by decide +kernel
theorem dX7_report_20 : decode cX7_report 20 = .ok (.new 187, 3) := by decide +kernel
theorem dX7_report_23 : decode cX7_report 23 = .ok (.dup, 1) := by decide +kernel
theorem dX7_report_24 : decode cX7_report 24 = .ok (.ldc_w 265, 3) := by decide +kernel
theorem dX7_report_27 : decode cX7_report 27 = .ok (.invokespecial 191, 3) := by decide +kernel
theorem dX7_report_30 : decode cX7_report 30 = .ok (.athrow, 1) := by decide +kernel
theorem dX7_report_31 : decode cX7_report 31 = .ok (.iload_n 2, 1) := by decide +kernel
theorem dX7_report_32 : decode cX7_report 32 = .ok (.lookupswitch 48 #[(0, 28), (1, 38)], 28) := by decide +kernel
theorem dX7_report_60 : decode cX7_report 60 = .ok (.aload_n 0, 1) := by decide +kernel
theorem dX7_report_61 : decode cX7_report 61 = .ok (.getfield 26, 3) := by decide +kernel
theorem dX7_report_64 : decode cX7_report 64 = .ok (.getfield 267, 3) := by decide +kernel
theorem dX7_report_67 : decode cX7_report 67 = .ok (.iload_n 1, 1) := by decide +kernel
theorem dX7_report_68 : decode cX7_report 68 = .ok (.iaload, 1) := by decide +kernel
theorem dX7_report_69 : decode cX7_report 69 = .ok (.ireturn, 1) := by decide +kernel
theorem dX7_report_70 : decode cX7_report 70 = .ok (.aload_n 0, 1) := by decide +kernel
theorem dX7_report_71 : decode cX7_report 71 = .ok (.getfield 26, 3) := by decide +kernel
theorem dX7_report_74 : decode cX7_report 74 = .ok (.getfield 271, 3) := by decide +kernel
theorem dX7_report_77 : decode cX7_report 77 = .ok (.iload_n 1, 1) := by decide +kernel
theorem dX7_report_78 : decode cX7_report 78 = .ok (.iaload, 1) := by decide +kernel
theorem dX7_report_79 : decode cX7_report 79 = .ok (.ireturn, 1) := by decide +kernel
theorem dX7_report_80 : decode cX7_report 80 = .ok (.new 44, 3) := by decide +kernel
theorem dX7_report_83 : decode cX7_report 83 = .ok (.dup, 1) := by decide +kernel
theorem dX7_report_84 : decode cX7_report 84 = .ok (.ldc 237, 2) := by decide +kernel
theorem dX7_report_86 : decode cX7_report 86 = .ok (.invokespecial 48, 3) := by decide +kernel
theorem dX7_report_89 : decode cX7_report 89 = .ok (.athrow, 1) := by decide +kernel
theorem dX7_feed_0 : decode cX7_feed 0 = .ok (.aload_n 0, 1) := by decide +kernel
theorem dX7_feed_1 : decode cX7_feed 1 = .ok (.getfield 33, 3) := by decide +kernel
theorem dX7_feed_4 : decode cX7_feed 4 = .ok (.iload_n 1, 1) := by decide +kernel
theorem dX7_feed_5 : decode cX7_feed 5 = .ok (.invokevirtual 274, 3) := by decide +kernel
theorem dX7_feed_8 : decode cX7_feed 8 = .ok (.ifCond .ne 14, 3) := by decide +kernel
theorem dX7_feed_11 : decode cX7_feed 11 = .ok (.new 100, 3) := by decide +kernel
theorem dX7_feed_14 : decode cX7_feed 14 = .ok (.dup, 1) := by decide +kernel
theorem dX7_feed_15 : decode cX7_feed 15 = .ok (.ldc_w 278, 3) := by decide +kernel
theorem dX7_feed_18 : decode cX7_feed 18 = .ok (.invokespecial 104, 3) := by decide +kernel
theorem dX7_feed_21 : decode cX7_feed 21 = .ok (.athrow, 1) := by decide +kernel
theorem dX7_feed_22 : decode cX7_feed 22 = .ok (.aload_n 0, 1) := by decide +kernel
theorem dX7_feed_23 : decode cX7_feed 23 = .ok (.getfield 33, 3) := by decide +kernel
theorem dX7_feed_26 : decode cX7_feed 26 = .ok (.getfield 280, 3) := by decide +kernel
theorem dX7_feed_29 : decode cX7_feed 29 = .ok (.ireturn, 1) := by decide +kernel
theorem dX7_readRecord_0 : decode cX7_readRecord 0 = .ok (.aload_n 0, 1) := by decide +kernel
theorem dX7_readRecord_1 : decode cX7_readRecord 1 = .ok (.getfield 33, 3) := by decide +kernel
theorem dX7_readRecord_4 : decode cX7_readRecord 4 = .ok (.aload_n 0, 1) := by decide +kernel
theorem dX7_readRecord_5 : decode cX7_readRecord 5 = .ok (.getfield 10, 3) := by decide +kernel
theorem dX7_readRecord_8 : decode cX7_readRecord 8 = .ok (.getfield 123, 3) := by decide +kernel
theorem dX7_readRecord_11 : decode cX7_readRecord 11 = .ok (.invokevirtual 283, 3) := by decide +kernel
theorem dX7_readRecord_14 : decode cX7_readRecord 14 = .ok (.istore_n 1, 1) := by decide +kernel
theorem dX7_readRecord_15 : decode cX7_readRecord 15 = .ok (.aload_n 0, 1) := by decide +kernel
theorem dX7_readRecord_16 : decode cX7_readRecord 16 = .ok (.getfield 33, 3) := by decide +kernel
theorem dX7_readRecord_19 : decode cX7_readRecord 19 = .ok (.iconst 0, 1) := by decide +kernel
theorem dX7_readRecord_20 : decode cX7_readRecord 20 = .ok (.putfield 280, 3) := by decide +kernel
theorem dX7_readRecord_23 : decode cX7_readRecord 23 = .ok (.iload_n 1, 1) := by decide +kernel
theorem dX7_readRecord_24 : decode cX7_readRecord 24 = .ok (.iconst (-1), 1) := by decide +kernel
theorem dX7_readRecord_25 : decode cX7_readRecord 25 = .ok (.if_icmp .eq 8, 3) := by decide +kernel
theorem dX7_readRecord_28 : decode cX7_readRecord 28 = .ok (.bipush (-100), 2) := by decide +kernel
theorem dX7_readRecord_30 : decode cX7_readRecord 30 = .ok (.iload_n 1, 1) := by decide +kernel
theorem dX7_readRecord_31 : decode cX7_readRecord 31 = .ok (.isub, 1) := by decide +kernel
theorem dX7_readRecord_32 : decode cX7_readRecord 32 = .ok (.ireturn, 1) := by decide +kernel
theorem dX7_readRecord_33 : decode cX7_readRecord 33 = .ok (.aload_n 0, 1) := by decide +kernel
theorem dX7_readRecord_34 : decode cX7_readRecord 34 = .ok (.getfield 33, 3) := by decide +kernel
theorem dX7_readRecord_37 : decode cX7_readRecord 37 = .ok (.getfield 287, 3) := by decide +kernel
theorem dX7_readRecord_40 : decode cX7_readRecord 40 = .ok (.iconst 2, 1) := by decide +kernel
theorem dX7_readRecord_41 : decode cX7_readRecord 41 = .ok (.idiv, 1) := by decide +kernel
theorem dX7_readRecord_42 : decode cX7_readRecord 42 = .ok (.istore_n 2, 1) := by decide +kernel
theorem dX7_readRecord_43 : decode cX7_readRecord 43 = .ok (.iconst 0, 1) := by decide +kernel
theorem dX7_readRecord_44 : decode cX7_readRecord 44 = .ok (.istore_n 3, 1) := by decide +kernel
theorem dX7_readRecord_45 : decode cX7_readRecord 45 = .ok (.iload_n 3, 1) := by decide +kernel
theorem dX7_readRecord_46 : decode cX7_readRecord 46 = .ok (.iload_n 2, 1) := by decide +kernel
theorem dX7_readRecord_47 : decode cX7_readRecord 47 = .ok (.if_icmp .ge 79, 3) := by decide +kernel
theorem dX7_readRecord_50 : decode cX7_readRecord 50 = .ok (.aload_n 0, 1) := by decide +kernel
theorem dX7_readRecord_51 : decode cX7_readRecord 51 = .ok (.getfield 33, 3) := by decide +kernel
theorem dX7_readRecord_54 : decode cX7_readRecord 54 = .ok (.iconst 2, 1) := by decide +kernel
theorem dX7_readRecord_55 : decode cX7_readRecord 55 = .ok (.iload_n 3, 1) := by decide +kernel
theorem dX7_readRecord_56 : decode cX7_readRecord 56 = .ok (.imul, 1) := by decide +kernel
theorem dX7_readRecord_57 : decode cX7_readRecord 57 = .ok (.invokevirtual 290, 3) := by decide +kernel
theorem dX7_readRecord_60 : decode cX7_readRecord 60 = .ok (.istore 4, 2) := by decide +kernel
theorem dX7_readRecord_62 : decode cX7_readRecord 62 = .ok (.aload_n 0, 1) := by decide +kernel
theorem dX7_readRecord_63 : decode cX7_readRecord 63 = .ok (.getfield 33, 3) := by decide +kernel
theorem dX7_readRecord_66 : decode cX7_readRecord 66 = .ok (.iconst 2, 1) := by decide +kernel
theorem dX7_readRecord_67 : decode cX7_readRecord 67 = .ok (.iload_n 3, 1) := by decide +kernel
theorem dX7_readRecord_68 : decode cX7_readRecord 68 = .ok (.imul, 1) := by decide +kernel
theorem dX7_readRecord_69 : decode cX7_readRecord 69 = .ok (.iconst 1, 1) := by decide +kernel
theorem dX7_readRecord_70 : decode cX7_readRecord 70 = .ok (.iadd, 1) := by decide +kernel
theorem dX7_readRecord_71 : decode cX7_readRecord 71 = .ok (.invokevirtual 290, 3) := by decide +kernel
theorem dX7_readRecord_74 : decode cX7_readRecord 74 = .ok (.istore 5, 2) := by decide +kernel
theorem dX7_readRecord_76 : decode cX7_readRecord 76 = .ok (.aload_n 0, 1) := by decide +kernel
theorem dX7_readRecord_77 : decode cX7_readRecord 77 = .ok (.getfield 10, 3) := by decide +kernel
theorem dX7_readRecord_80 : decode cX7_readRecord 80 = .ok (.invokevirtual 96, 3) := by decide +kernel
theorem dX7_readRecord_83 : decode cX7_readRecord 83 = .ok (.ifCond .ne 14, 3) := by decide +kernel
theorem dX7_readRecord_86 : decode cX7_readRecord 86 = .ok (.aload_n 0, 1) := by decide +kernel
theorem dX7_readRecord_87 : decode cX7_readRecord 87 = .ok (.iload 4, 2) := by decide +kernel
theorem dX7_readRecord_89 : decode cX7_readRecord 89 = .ok (.iload 5, 2) := by decide +kernel
theorem dX7_readRecord_91 : decode cX7_readRecord 91 = .ok (.invokevirtual 105, 3) := by decide +kernel
theorem dX7_readRecord_94 : decode cX7_readRecord 94 = .ok (.ifCond .ne 14, 3) := by decide +kernel
theorem dX7_readRecord_97 : decode cX7_readRecord 97 = .ok (.new 109, 3) := by decide +kernel
theorem dX7_readRecord_100 : decode cX7_readRecord 100 = .ok (.dup, 1) := by decide +kernel
theorem dX7_readRecord_101 : decode cX7_readRecord 101 = .ok (.ldc_w 291, 3) := by decide +kernel
theorem dX7_readRecord_104 : decode cX7_readRecord 104 = .ok (.invokespecial 113, 3) := by decide +kernel
theorem dX7_readRecord_107 : decode cX7_readRecord 107 = .ok (.athrow, 1) := by decide +kernel
theorem dX7_readRecord_108 : decode cX7_readRecord 108 = .ok (.aload_n 0, 1) := by decide +kernel
theorem dX7_readRecord_109 : decode cX7_readRecord 109 = .ok (.getfield 10, 3) := by decide +kernel
theorem dX7_readRecord_112 : decode cX7_readRecord 112 = .ok (.iload 4, 2) := by decide +kernel
theorem dX7_readRecord_114 : decode cX7_readRecord 114 = .ok (.iload 5, 2) := by decide +kernel
theorem dX7_readRecord_116 : decode cX7_readRecord 116 = .ok (.invokevirtual 114, 3) := by decide +kernel
theorem dX7_readRecord_119 : decode cX7_readRecord 119 = .ok (.pop, 1) := by decide +kernel
theorem dX7_readRecord_120 : decode cX7_readRecord 120 = .ok (.iinc 3 1, 3) := by decide +kernel
theorem dX7_readRecord_123 : decode cX7_readRecord 123 = .ok (.goto (-78), 3) := by decide +kernel
theorem dX7_readRecord_126 : decode cX7_readRecord 126 = .ok (.iload_n 2, 1) := by decide +kernel
theorem dX7_readRecord_127 : decode cX7_readRecord 127 = .ok (.ireturn, 1) := by decide +kernel
theorem dX7_written_0 : decode cX7_written 0 = .ok (.iload_n 1, 1) := by decide +kernel
theorem dX7_written_1 : decode cX7_written 1 = .ok (.istore_n 2, 1) := by decide +kernel
theorem dX7_written_2 : decode cX7_written 2 = .ok (.iconst 0, 1) := by decide +kernel
theorem dX7_written_3 : decode cX7_written 3 = .ok (.istore_n 3, 1) := by decide +kernel
theorem dX7_written_4 : decode cX7_written 4 = .ok (.iload_n 3, 1) := by decide +kernel
theorem dX7_written_5 : decode cX7_written 5 = .ok (.aload_n 0, 1) := by decide +kernel
theorem dX7_written_6 : decode cX7_written 6 = .ok (.getfield 10, 3) := by decide +kernel
theorem dX7_written_9 : decode cX7_written 9 = .ok (.getfield 118, 3) := by decide +kernel
theorem dX7_written_12 : decode cX7_written 12 = .ok (.if_icmp .ge 61, 3) := by decide +kernel
theorem dX7_written_15 : decode cX7_written 15 = .ok (.iload_n 3, 1) := by decide +kernel
theorem dX7_written_16 : decode cX7_written 16 = .ok (.bipush 60, 2) := by decide +kernel
theorem dX7_written_18 : decode cX7_written 18 = .ok (.if_icmp .ge 55, 3) := by decide +kernel
theorem dX7_written_21 : decode cX7_written 21 = .ok (.iload_n 2, 1) := by decide +kernel
theorem dX7_written_22 : decode cX7_written 22 = .ok (.ifCond .lt 51, 3) := by decide +kernel
theorem dX7_written_25 : decode cX7_written 25 = .ok (.aload_n 0, 1) := by decide +kernel
theorem dX7_written_26 : decode cX7_written 26 = .ok (.getfield 10, 3) := by decide +kernel
theorem dX7_written_29 : decode cX7_written 29 = .ok (.getfield 215, 3) := by decide +kernel
theorem dX7_written_32 : decode cX7_written 32 = .ok (.iload_n 3, 1) := by decide +kernel
theorem dX7_written_33 : decode cX7_written 33 = .ok (.aaload, 1) := by decide +kernel
theorem dX7_written_34 : decode cX7_written 34 = .ok (.astore 4, 2) := by decide +kernel
theorem dX7_written_36 : decode cX7_written 36 = .ok (.iload_n 2, 1) := by decide +kernel
theorem dX7_written_37 : decode cX7_written 37 = .ok (.aload 4, 2) := by decide +kernel
theorem dX7_written_39 : decode cX7_written 39 = .ok (.invokevirtual 293, 3) := by decide +kernel
theorem dX7_written_42 : decode cX7_written 42 = .ok (.if_icmp .ge 17, 3) := by decide +kernel
theorem dX7_written_45 : decode cX7_written 45 = .ok (.aload 4, 2) := by decide +kernel
theorem dX7_written_47 : decode cX7_written 47 = .ok (.aload_n 0, 1) := by decide +kernel
theorem dX7_written_48 : decode cX7_written 48 = .ok (.getfield 10, 3) := by decide +kernel
theorem dX7_written_51 : decode cX7_written 51 = .ok (.getfield 123, 3) := by decide +kernel
theorem dX7_written_54 : decode cX7_written 54 = .ok (.iload_n 2, 1) := by decide +kernel
theorem dX7_written_55 : decode cX7_written 55 = .ok (.invokevirtual 296, 3) := by decide +kernel
theorem dX7_written_58 : decode cX7_written 58 = .ok (.ireturn, 1) := by decide +kernel
theorem dX7_written_59 : decode cX7_written 59 = .ok (.iload_n 2, 1) := by decide +kernel
theorem dX7_written_60 : decode cX7_written 60 = .ok (.aload 4, 2) := by decide +kernel
theorem dX7_written_62 : decode cX7_written 62 = .ok (.invokevirtual 293, 3) := by decide +kernel
theorem dX7_written_65 : decode cX7_written 65 = .ok (.isub, 1) := by decide +kernel
theorem dX7_written_66 : decode cX7_written 66 = .ok (.istore_n 2, 1) := by decide +kernel
theorem dX7_written_67 : decode cX7_written 67 = .ok (.iinc 3 1, 3) := by decide +kernel
theorem dX7_written_70 : decode cX7_written 70 = .ok (.goto (-66), 3) := by decide +kernel
theorem dX7_written_73 : decode cX7_written 73 = .ok (.new 77, 3) := by decide +kernel
theorem dX7_written_76 : decode cX7_written 76 = .ok (.dup, 1) := by decide +kernel
theorem dX7_written_77 : decode cX7_written 77 = .ok (.ldc_w 300, 3) := by decide +kernel
theorem dX7_written_80 : decode cX7_written 80 = .ok (.invokespecial 81, 3) := by decide +kernel
theorem dX7_written_83 : decode cX7_written 83 = .ok (.athrow, 1) := by decide +kernel
theorem dX7_save_0 : decode cX7_save 0 = .ok (.aload_n 0, 1) := by decide +kernel
theorem dX7_save_1 : decode cX7_save 1 = .ok (.getfield 16, 3) := by decide +kernel
theorem dX7_save_4 : decode cX7_save 4 = .ok (.aload_n 0, 1) := by decide +kernel
theorem dX7_save_5 : decode cX7_save 5 = .ok (.getfield 10, 3) := by decide +kernel
theorem dX7_save_8 : decode cX7_save 8 = .ok (.invokevirtual 302, 3) := by decide +kernel
theorem dX7_save_11 : decode cX7_save 11 = .ok (.aload_n 0, 1) := by decide +kernel
theorem dX7_save_12 : decode cX7_save 12 = .ok (.iconst 1, 1) := by decide +kernel
theorem dX7_save_13 : decode cX7_save 13 = .ok (.putfield 19, 3) := by decide +kernel
theorem dX7_save_16 : decode cX7_save 16 = .ok (.aload_n 0, 1) := by decide +kernel
theorem dX7_save_17 : decode cX7_save 17 = .ok (.getfield 10, 3) := by decide +kernel
theorem dX7_save_20 : decode cX7_save 20 = .ok (.getfield 118, 3) := by decide +kernel
theorem dX7_save_23 : decode cX7_save 23 = .ok (.ireturn, 1) := by decide +kernel
theorem dX7_restore_0 : decode cX7_restore 0 = .ok (.aload_n 0, 1) := by decide +kernel
theorem dX7_restore_1 : decode cX7_restore 1 = .ok (.getfield 19, 3) := by decide +kernel
theorem dX7_restore_4 : decode cX7_restore 4 = .ok (.ifCond .ne 14, 3) := by decide +kernel
theorem dX7_restore_7 : decode cX7_restore 7 = .ok (.new 100, 3) := by decide +kernel
theorem dX7_restore_10 : decode cX7_restore 10 = .ok (.dup, 1) := by decide +kernel
theorem dX7_restore_11 : decode cX7_restore 11 = .ok (.ldc_w 306, 3) := by decide +kernel
theorem dX7_restore_14 : decode cX7_restore 14 = .ok (.invokespecial 104, 3) := by decide +kernel
theorem dX7_restore_17 : decode cX7_restore 17 = .ok (.athrow, 1) := by decide +kernel
theorem dX7_restore_18 : decode cX7_restore 18 = .ok (.aload_n 0, 1) := by decide +kernel
theorem dX7_restore_19 : decode cX7_restore 19 = .ok (.getfield 10, 3) := by decide +kernel
theorem dX7_restore_22 : decode cX7_restore 22 = .ok (.aload_n 0, 1) := by decide +kernel
theorem dX7_restore_23 : decode cX7_restore 23 = .ok (.getfield 16, 3) := by decide +kernel
theorem dX7_restore_26 : decode cX7_restore 26 = .ok (.invokevirtual 302, 3) := by decide +kernel
theorem dX7_restore_29 : decode cX7_restore 29 = .ok (.aload_n 0, 1) := by decide +kernel
theorem dX7_restore_30 : decode cX7_restore 30 = .ok (.getfield 10, 3) := by decide +kernel
theorem dX7_restore_33 : decode cX7_restore 33 = .ok (.getfield 118, 3) := by decide +kernel
theorem dX7_restore_36 : decode cX7_restore 36 = .ok (.ireturn, 1) := by decide +kernel
theorem dX7_isPlayer_0 : decode cX7_isPlayer 0 = .ok (.iload_n 0, 1) := by decide +kernel
theorem dX7_isPlayer_1 : decode cX7_isPlayer 1 = .ok (.ifCond .eq 8, 3) := by decide +kernel
theorem dX7_isPlayer_4 : decode cX7_isPlayer 4 = .ok (.iload_n 0, 1) := by decide +kernel
theorem dX7_isPlayer_5 : decode cX7_isPlayer 5 = .ok (.iconst 1, 1) := by decide +kernel
theorem dX7_isPlayer_6 : decode cX7_isPlayer 6 = .ok (.if_icmp .ne 7, 3) := by decide +kernel
theorem dX7_isPlayer_9 : decode cX7_isPlayer 9 = .ok (.iconst 1, 1) := by decide +kernel
theorem dX7_isPlayer_10 : decode cX7_isPlayer 10 = .ok (.goto 4, 3) := by decide +kernel
theorem dX7_isPlayer_13 : decode cX7_isPlayer 13 = .ok (.iconst 0, 1) := by decide +kernel
theorem dX7_isPlayer_14 : decode cX7_isPlayer 14 = .ok (.ireturn, 1) := by decide +kernel
theorem dX7_isDepth_0 : decode cX7_isDepth 0 = .ok (.iload_n 0, 1) := by decide +kernel
theorem dX7_isDepth_1 : decode cX7_isDepth 1 = .ok (.iconst 1, 1) := by decide +kernel
theorem dX7_isDepth_2 : decode cX7_isDepth 2 = .ok (.if_icmp .lt 12, 3) := by decide +kernel
theorem dX7_isDepth_5 : decode cX7_isDepth 5 = .ok (.iload_n 0, 1) := by decide +kernel
theorem dX7_isDepth_6 : decode cX7_isDepth 6 = .ok (.iconst 2, 1) := by decide +kernel
theorem dX7_isDepth_7 : decode cX7_isDepth 7 = .ok (.if_icmp .gt 7, 3) := by decide +kernel
theorem dX7_isDepth_10 : decode cX7_isDepth 10 = .ok (.iconst 1, 1) := by decide +kernel
theorem dX7_isDepth_11 : decode cX7_isDepth 11 = .ok (.goto 4, 3) := by decide +kernel
theorem dX7_isDepth_14 : decode cX7_isDepth 14 = .ok (.iconst 0, 1) := by decide +kernel
theorem dX7_isDepth_15 : decode cX7_isDepth 15 = .ok (.ireturn, 1) := by decide +kernel
theorem dX7_isChoice_0 : decode cX7_isChoice 0 = .ok (.iload_n 1, 1) := by decide +kernel
theorem dX7_isChoice_1 : decode cX7_isChoice 1 = .ok (.iconst (-1), 1) := by decide +kernel
theorem dX7_isChoice_2 : decode cX7_isChoice 2 = .ok (.if_icmp .eq 17, 3) := by decide +kernel
theorem dX7_isChoice_5 : decode cX7_isChoice 5 = .ok (.aload_n 0, 1) := by decide +kernel
theorem dX7_isChoice_6 : decode cX7_isChoice 6 = .ok (.getfield 10, 3) := by decide +kernel
theorem dX7_isChoice_9 : decode cX7_isChoice 9 = .ok (.getfield 123, 3) := by decide +kernel
theorem dX7_isChoice_12 : decode cX7_isChoice 12 = .ok (.iload_n 1, 1) := by decide +kernel
theorem dX7_isChoice_13 : decode cX7_isChoice 13 = .ok (.invokevirtual 141, 3) := by decide +kernel
theorem dX7_isChoice_16 : decode cX7_isChoice 16 = .ok (.ifCond .eq 7, 3) := by decide +kernel
theorem dX7_isChoice_19 : decode cX7_isChoice 19 = .ok (.iconst 1, 1) := by decide +kernel
theorem dX7_isChoice_20 : decode cX7_isChoice 20 = .ok (.goto 4, 3) := by decide +kernel
theorem dX7_isChoice_23 : decode cX7_isChoice 23 = .ok (.iconst 0, 1) := by decide +kernel
theorem dX7_isChoice_24 : decode cX7_isChoice 24 = .ok (.ireturn, 1) := by decide +kernel
theorem dX7_canLookAhead_0 : decode cX7_canLookAhead 0 = .ok (.iload_n 1, 1) := by decide +kernel
theorem dX7_canLookAhead_1 : decode cX7_canLookAhead 1 = .ok (.iconst 2, 1) := by decide +kernel
theorem dX7_canLookAhead_2 : decode cX7_canLookAhead 2 = .ok (.if_icmp .ne 23, 3) := by decide +kernel
theorem dX7_canLookAhead_5 : decode cX7_canLookAhead 5 = .ok (.aload_n 0, 1) := by decide +kernel
theorem dX7_canLookAhead_6 : decode cX7_canLookAhead 6 = .ok (.getfield 10, 3) := by decide +kernel
theorem dX7_canLookAhead_9 : decode cX7_canLookAhead 9 = .ok (.invokevirtual 57, 3) := by decide +kernel
theorem dX7_canLookAhead_12 : decode cX7_canLookAhead 12 = .ok (.iconst 0, 1) := by decide +kernel
theorem dX7_canLookAhead_13 : decode cX7_canLookAhead 13 = .ok (.invokevirtual 61, 3) := by decide +kernel
theorem dX7_canLookAhead_16 : decode cX7_canLookAhead 16 = .ok (.bipush 6, 2) := by decide +kernel
theorem dX7_canLookAhead_18 : decode cX7_canLookAhead 18 = .ok (.if_icmp .le 7, 3) := by decide +kernel
theorem dX7_canLookAhead_21 : decode cX7_canLookAhead 21 = .ok (.iconst 1, 1) := by decide +kernel
theorem dX7_canLookAhead_22 : decode cX7_canLookAhead 22 = .ok (.goto 4, 3) := by decide +kernel
theorem dX7_canLookAhead_25 : decode cX7_canLookAhead 25 = .ok (.iconst 0, 1) := by decide +kernel
theorem dX7_canLookAhead_26 : decode cX7_canLookAhead 26 = .ok (.istore_n 2, 1) := by decide +kernel
theorem dX7_canLookAhead_27 : decode cX7_canLookAhead 27 = .ok (.aload_n 0, 1) := by decide +kernel
theorem dX7_canLookAhead_28 : decode cX7_canLookAhead 28 = .ok (.getfield 10, 3) := by decide +kernel
theorem dX7_canLookAhead_31 : decode cX7_canLookAhead 31 = .ok (.invokevirtual 96, 3) := by decide +kernel
theorem dX7_canLookAhead_34 : decode cX7_canLookAhead 34 = .ok (.ifCond .ne 11, 3) := by decide +kernel
theorem dX7_canLookAhead_37 : decode cX7_canLookAhead 37 = .ok (.iload_n 2, 1) := by decide +kernel
theorem dX7_canLookAhead_38 : decode cX7_canLookAhead 38 = .ok (.ifCond .ne 7, 3) := by decide +kernel
theorem dX7_canLookAhead_41 : decode cX7_canLookAhead 41 = .ok (.iconst 1, 1) := by decide +kernel
theorem dX7_canLookAhead_42 : decode cX7_canLookAhead 42 = .ok (.goto 4, 3) := by decide +kernel
theorem dX7_canLookAhead_45 : decode cX7_canLookAhead 45 = .ok (.iconst 0, 1) := by decide +kernel
theorem dX7_canLookAhead_46 : decode cX7_canLookAhead 46 = .ok (.ireturn, 1) := by decide +kernel
theorem dX7_admits_0 : decode cX7_admits 0 = .ok (.aload_n 0, 1) := by decide +kernel
theorem dX7_admits_1 : decode cX7_admits 1 = .ok (.getfield 10, 3) := by decide +kernel
theorem dX7_admits_4 : decode cX7_admits 4 = .ok (.invokevirtual 57, 3) := by decide +kernel
theorem dX7_admits_7 : decode cX7_admits 7 = .ok (.astore_n 3, 1) := by decide +kernel
theorem dX7_admits_8 : decode cX7_admits 8 = .ok (.aload_n 3, 1) := by decide +kernel
theorem dX7_admits_9 : decode cX7_admits 9 = .ok (.iload_n 1, 1) := by decide +kernel
theorem dX7_admits_10 : decode cX7_admits 10 = .ok (.invokevirtual 250, 3) := by decide +kernel
theorem dX7_admits_13 : decode cX7_admits 13 = .ok (.ifCond .ne 18, 3) := by decide +kernel
theorem dX7_admits_16 : decode cX7_admits 16 = .ok (.aload_n 0, 1) := by decide +kernel
theorem dX7_admits_17 : decode cX7_admits 17 = .ok (.getfield 26, 3) := by decide +kernel
theorem dX7_admits_20 : decode cX7_admits 20 = .ok (.aload_n 0, 1) := by decide +kernel
theorem dX7_admits_21 : decode cX7_admits 21 = .ok (.getfield 10, 3) := by decide +kernel
theorem dX7_admits_24 : decode cX7_admits 24 = .ok (.iconst 2, 1) := by decide +kernel
theorem dX7_admits_25 : decode cX7_admits 25 = .ok (.iload_n 1, 1) := by decide +kernel
theorem dX7_admits_26 : decode cX7_admits 26 = .ok (.invokevirtual 308, 3) := by decide +kernel
theorem dX7_admits_29 : decode cX7_admits 29 = .ok (.iconst 0, 1) := by decide +kernel
theorem dX7_admits_30 : decode cX7_admits 30 = .ok (.ireturn, 1) := by decide +kernel
theorem dX7_admits_31 : decode cX7_admits 31 = .ok (.aload_n 3, 1) := by decide +kernel
theorem dX7_admits_32 : decode cX7_admits 32 = .ok (.iload_n 2, 1) := by decide +kernel
theorem dX7_admits_33 : decode cX7_admits 33 = .ok (.invokevirtual 250, 3) := by decide +kernel
theorem dX7_admits_36 : decode cX7_admits 36 = .ok (.ifCond .ne 18, 3) := by decide +kernel
theorem dX7_admits_39 : decode cX7_admits 39 = .ok (.aload_n 0, 1) := by decide +kernel
theorem dX7_admits_40 : decode cX7_admits 40 = .ok (.getfield 26, 3) := by decide +kernel
theorem dX7_admits_43 : decode cX7_admits 43 = .ok (.aload_n 0, 1) := by decide +kernel
theorem dX7_admits_44 : decode cX7_admits 44 = .ok (.getfield 10, 3) := by decide +kernel
theorem dX7_admits_47 : decode cX7_admits 47 = .ok (.iconst 3, 1) := by decide +kernel
theorem dX7_admits_48 : decode cX7_admits 48 = .ok (.iload_n 2, 1) := by decide +kernel
theorem dX7_admits_49 : decode cX7_admits 49 = .ok (.invokevirtual 308, 3) := by decide +kernel
theorem dX7_admits_52 : decode cX7_admits 52 = .ok (.iconst 0, 1) := by decide +kernel
theorem dX7_admits_53 : decode cX7_admits 53 = .ok (.ireturn, 1) := by decide +kernel
theorem dX7_admits_54 : decode cX7_admits 54 = .ok (.iconst 1, 1) := by decide +kernel
theorem dX7_admits_55 : decode cX7_admits 55 = .ok (.ireturn, 1) := by decide +kernel
theorem dJ13_bitCount_95d88_0 : decode cJ13_bitCount_95d88 0 = .ok (.lload_n 0, 1) := by decide +kernel
theorem dJ13_bitCount_95d88_1 : decode cJ13_bitCount_95d88 1 = .ok (.lload_n 0, 1) := by decide +kernel
theorem dJ13_bitCount_95d88_2 : decode cJ13_bitCount_95d88 2 = .ok (.iconst 1, 1) := by decide +kernel
theorem dJ13_bitCount_95d88_3 : decode cJ13_bitCount_95d88 3 = .ok (.lushr, 1) := by decide +kernel
theorem dJ13_bitCount_95d88_4 : decode cJ13_bitCount_95d88 4 = .ok (.ldc2_w 314, 3) := by decide +kernel
theorem dJ13_bitCount_95d88_7 : decode cJ13_bitCount_95d88 7 = .ok (.land, 1) := by decide +kernel
theorem dJ13_bitCount_95d88_8 : decode cJ13_bitCount_95d88 8 = .ok (.lsub, 1) := by decide +kernel
theorem dJ13_bitCount_95d88_9 : decode cJ13_bitCount_95d88 9 = .ok (.lstore_n 0, 1) := by decide +kernel
theorem dJ13_bitCount_95d88_10 : decode cJ13_bitCount_95d88 10 = .ok (.lload_n 0, 1) := by decide +kernel
theorem dJ13_bitCount_95d88_11 : decode cJ13_bitCount_95d88 11 = .ok (.ldc2_w 316, 3) := by decide +kernel
theorem dJ13_bitCount_95d88_14 : decode cJ13_bitCount_95d88 14 = .ok (.land, 1) := by decide +kernel
theorem dJ13_bitCount_95d88_15 : decode cJ13_bitCount_95d88 15 = .ok (.lload_n 0, 1) := by decide +kernel
theorem dJ13_bitCount_95d88_16 : decode cJ13_bitCount_95d88 16 = .ok (.iconst 2, 1) := by decide +kernel
theorem dJ13_bitCount_95d88_17 : decode cJ13_bitCount_95d88 17 = .ok (.lushr, 1) := by decide +kernel
theorem dJ13_bitCount_95d88_18 : decode cJ13_bitCount_95d88 18 = .ok (.ldc2_w 316, 3) := by decide +kernel
theorem dJ13_bitCount_95d88_21 : decode cJ13_bitCount_95d88 21 = .ok (.land, 1) := by decide +kernel
theorem dJ13_bitCount_95d88_22 : decode cJ13_bitCount_95d88 22 = .ok (.ladd, 1) := by decide +kernel
theorem dJ13_bitCount_95d88_23 : decode cJ13_bitCount_95d88 23 = .ok (.lstore_n 0, 1) := by decide +kernel
theorem dJ13_bitCount_95d88_24 : decode cJ13_bitCount_95d88 24 = .ok (.lload_n 0, 1) := by decide +kernel
theorem dJ13_bitCount_95d88_25 : decode cJ13_bitCount_95d88 25 = .ok (.lload_n 0, 1) := by decide +kernel
theorem dJ13_bitCount_95d88_26 : decode cJ13_bitCount_95d88 26 = .ok (.iconst 4, 1) := by decide +kernel
theorem dJ13_bitCount_95d88_27 : decode cJ13_bitCount_95d88 27 = .ok (.lushr, 1) := by decide +kernel
theorem dJ13_bitCount_95d88_28 : decode cJ13_bitCount_95d88 28 = .ok (.ladd, 1) := by decide +kernel
theorem dJ13_bitCount_95d88_29 : decode cJ13_bitCount_95d88 29 = .ok (.ldc2_w 318, 3) := by decide +kernel
theorem dJ13_bitCount_95d88_32 : decode cJ13_bitCount_95d88 32 = .ok (.land, 1) := by decide +kernel
theorem dJ13_bitCount_95d88_33 : decode cJ13_bitCount_95d88 33 = .ok (.lstore_n 0, 1) := by decide +kernel
theorem dJ13_bitCount_95d88_34 : decode cJ13_bitCount_95d88 34 = .ok (.lload_n 0, 1) := by decide +kernel
theorem dJ13_bitCount_95d88_35 : decode cJ13_bitCount_95d88 35 = .ok (.lload_n 0, 1) := by decide +kernel
theorem dJ13_bitCount_95d88_36 : decode cJ13_bitCount_95d88 36 = .ok (.bipush 8, 2) := by decide +kernel
theorem dJ13_bitCount_95d88_38 : decode cJ13_bitCount_95d88 38 = .ok (.lushr, 1) := by decide +kernel
theorem dJ13_bitCount_95d88_39 : decode cJ13_bitCount_95d88 39 = .ok (.ladd, 1) := by decide +kernel
theorem dJ13_bitCount_95d88_40 : decode cJ13_bitCount_95d88 40 = .ok (.lstore_n 0, 1) := by decide +kernel
theorem dJ13_bitCount_95d88_41 : decode cJ13_bitCount_95d88 41 = .ok (.lload_n 0, 1) := by decide +kernel
theorem dJ13_bitCount_95d88_42 : decode cJ13_bitCount_95d88 42 = .ok (.lload_n 0, 1) := by decide +kernel
theorem dJ13_bitCount_95d88_43 : decode cJ13_bitCount_95d88 43 = .ok (.bipush 16, 2) := by decide +kernel
theorem dJ13_bitCount_95d88_45 : decode cJ13_bitCount_95d88 45 = .ok (.lushr, 1) := by decide +kernel
theorem dJ13_bitCount_95d88_46 : decode cJ13_bitCount_95d88 46 = .ok (.ladd, 1) := by decide +kernel
theorem dJ13_bitCount_95d88_47 : decode cJ13_bitCount_95d88 47 = .ok (.lstore_n 0, 1) := by decide +kernel
theorem dJ13_bitCount_95d88_48 : decode cJ13_bitCount_95d88 48 = .ok (.lload_n 0, 1) := by decide +kernel
theorem dJ13_bitCount_95d88_49 : decode cJ13_bitCount_95d88 49 = .ok (.lload_n 0, 1) := by decide +kernel
theorem dJ13_bitCount_95d88_50 : decode cJ13_bitCount_95d88 50 = .ok (.bipush 32, 2) := by decide +kernel
theorem dJ13_bitCount_95d88_52 : decode cJ13_bitCount_95d88 52 = .ok (.lushr, 1) := by decide +kernel
theorem dJ13_bitCount_95d88_53 : decode cJ13_bitCount_95d88 53 = .ok (.ladd, 1) := by decide +kernel
theorem dJ13_bitCount_95d88_54 : decode cJ13_bitCount_95d88 54 = .ok (.lstore_n 0, 1) := by decide +kernel
theorem dJ13_bitCount_95d88_55 : decode cJ13_bitCount_95d88 55 = .ok (.lload_n 0, 1) := by decide +kernel
theorem dJ13_bitCount_95d88_56 : decode cJ13_bitCount_95d88 56 = .ok (.l2i, 1) := by decide +kernel
theorem dJ13_bitCount_95d88_57 : decode cJ13_bitCount_95d88 57 = .ok (.bipush 127, 2) := by decide +kernel
theorem dJ13_bitCount_95d88_59 : decode cJ13_bitCount_95d88 59 = .ok (.iand, 1) := by decide +kernel
theorem dJ13_bitCount_95d88_60 : decode cJ13_bitCount_95d88 60 = .ok (.ireturn, 1) := by decide +kernel
theorem dJ9_abs_0f7a4_0 : decode cJ9_abs_0f7a4 0 = .ok (.iload_n 0, 1) := by decide +kernel
theorem dJ9_abs_0f7a4_1 : decode cJ9_abs_0f7a4 1 = .ok (.ifCond .ge 8, 3) := by decide +kernel
theorem dJ9_abs_0f7a4_4 : decode cJ9_abs_0f7a4 4 = .ok (.iload_n 0, 1) := by decide +kernel
theorem dJ9_abs_0f7a4_5 : decode cJ9_abs_0f7a4 5 = .ok (.ineg, 1) := by decide +kernel
theorem dJ9_abs_0f7a4_6 : decode cJ9_abs_0f7a4 6 = .ok (.goto 4, 3) := by decide +kernel
theorem dJ9_abs_0f7a4_9 : decode cJ9_abs_0f7a4 9 = .ok (.iload_n 0, 1) := by decide +kernel
theorem dJ9_abs_0f7a4_10 : decode cJ9_abs_0f7a4 10 = .ok (.ireturn, 1) := by decide +kernel
theorem dJ9_max_7cf53_0 : decode cJ9_max_7cf53 0 = .ok (.iload_n 0, 1) := by decide +kernel
theorem dJ9_max_7cf53_1 : decode cJ9_max_7cf53 1 = .ok (.iload_n 1, 1) := by decide +kernel
theorem dJ9_max_7cf53_2 : decode cJ9_max_7cf53 2 = .ok (.if_icmp .lt 7, 3) := by decide +kernel
theorem dJ9_max_7cf53_5 : decode cJ9_max_7cf53 5 = .ok (.iload_n 0, 1) := by decide +kernel
theorem dJ9_max_7cf53_6 : decode cJ9_max_7cf53 6 = .ok (.goto 4, 3) := by decide +kernel
theorem dJ9_max_7cf53_9 : decode cJ9_max_7cf53 9 = .ok (.iload_n 1, 1) := by decide +kernel
theorem dJ9_max_7cf53_10 : decode cJ9_max_7cf53 10 = .ok (.ireturn, 1) := by decide +kernel
theorem dJ9_min_7cf53_0 : decode cJ9_min_7cf53 0 = .ok (.iload_n 0, 1) := by decide +kernel
theorem dJ9_min_7cf53_1 : decode cJ9_min_7cf53 1 = .ok (.iload_n 1, 1) := by decide +kernel
theorem dJ9_min_7cf53_2 : decode cJ9_min_7cf53 2 = .ok (.if_icmp .gt 7, 3) := by decide +kernel
theorem dJ9_min_7cf53_5 : decode cJ9_min_7cf53 5 = .ok (.iload_n 0, 1) := by decide +kernel
theorem dJ9_min_7cf53_6 : decode cJ9_min_7cf53 6 = .ok (.goto 4, 3) := by decide +kernel
theorem dJ9_min_7cf53_9 : decode cJ9_min_7cf53 9 = .ok (.iload_n 1, 1) := by decide +kernel
theorem dJ9_min_7cf53_10 : decode cJ9_min_7cf53 10 = .ok (.ireturn, 1) := by decide +kernel
