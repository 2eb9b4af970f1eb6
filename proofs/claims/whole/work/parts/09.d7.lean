theorem dX7_init_0 : decode cX7_init 0 = .ok (.aload_n 0, 1) := by decide +kernel
theorem dX7_init_1 : decode cX7_init 1 = .ok (.invokespecial 3, 3) := by decide +kernel
theorem dX7_init_4 : decode cX7_init 4 = .ok (.aload_n 0, 1) := by decide +kernel
theorem dX7_init_5 : decode cX7_init 5 = .ok (.sipush 434, 3) := by decide +kernel
theorem dX7_init_8 : decode cX7_init 8 = .ok (.newarray .int, 2) := by decide +kernel
theorem dX7_init_10 : decode cX7_init 10 = .ok (.putfield 9, 3) := by decide +kernel
theorem dX7_init_13 : decode cX7_init 13 = .ok (.aload_n 0, 1) := by decide +kernel
theorem dX7_init_14 : decode cX7_init 14 = .ok (.sipush 434, 3) := by decide +kernel
theorem dX7_init_17 : decode cX7_init 17 = .ok (.newarray .int, 2) := by decide +kernel
theorem dX7_init_19 : decode cX7_init 19 = .ok (.putfield 13, 3) := by decide +kernel
theorem dX7_init_22 : decode cX7_init 22 = .ok (.aload_n 0, 1) := by decide +kernel
theorem dX7_init_23 : decode cX7_init 23 = .ok (.sipush 434, 3) := by decide +kernel
theorem dX7_init_26 : decode cX7_init 26 = .ok (.newarray .int, 2) := by decide +kernel
theorem dX7_init_28 : decode cX7_init 28 = .ok (.putfield 16, 3) := by decide +kernel
theorem dX7_init_31 : decode cX7_init 31 = .ok (.aload_n 0, 1) := by decide +kernel
theorem dX7_init_32 : decode cX7_init 32 = .ok (.sipush 3472, 3) := by decide +kernel
theorem dX7_init_35 : decode cX7_init 35 = .ok (.newarray .int, 2) := by decide +kernel
theorem dX7_init_37 : decode cX7_init 37 = .ok (.putfield 19, 3) := by decide +kernel
theorem dX7_init_40 : decode cX7_init 40 = .ok (.aload_n 0, 1) := by decide +kernel
theorem dX7_init_41 : decode cX7_init 41 = .ok (.sipush 19600, 3) := by decide +kernel
theorem dX7_init_44 : decode cX7_init 44 = .ok (.newarray .int, 2) := by decide +kernel
theorem dX7_init_46 : decode cX7_init 46 = .ok (.putfield 22, 3) := by decide +kernel
theorem dX7_init_49 : decode cX7_init 49 = .ok (.aload_n 0, 1) := by decide +kernel
theorem dX7_init_50 : decode cX7_init 50 = .ok (.sipush 140, 3) := by decide +kernel
theorem dX7_init_53 : decode cX7_init 53 = .ok (.newarray .int, 2) := by decide +kernel
theorem dX7_init_55 : decode cX7_init 55 = .ok (.putfield 25, 3) := by decide +kernel
theorem dX7_init_58 : decode cX7_init 58 = .ok (.aload_n 0, 1) := by decide +kernel
theorem dX7_init_59 : decode cX7_init 59 = .ok (.sipush 140, 3) := by decide +kernel
theorem dX7_init_62 : decode cX7_init 62 = .ok (.newarray .boolean, 2) := by decide +kernel
theorem dX7_init_64 : decode cX7_init 64 = .ok (.putfield 28, 3) := by decide +kernel
theorem dX7_init_67 : decode cX7_init 67 = .ok (.aload_n 0, 1) := by decide +kernel
theorem dX7_init_68 : decode cX7_init 68 = .ok (.sipush 140, 3) := by decide +kernel
theorem dX7_init_71 : decode cX7_init 71 = .ok (.newarray .boolean, 2) := by decide +kernel
theorem dX7_init_73 : decode cX7_init 73 = .ok (.putfield 32, 3) := by decide +kernel
theorem dX7_init_76 : decode cX7_init 76 = .ok (.aload_n 0, 1) := by decide +kernel
theorem dX7_init_77 : decode cX7_init 77 = .ok (.bipush 16, 2) := by decide +kernel
theorem dX7_init_79 : decode cX7_init 79 = .ok (.newarray .boolean, 2) := by decide +kernel
theorem dX7_init_81 : decode cX7_init 81 = .ok (.putfield 35, 3) := by decide +kernel
theorem dX7_init_84 : decode cX7_init 84 = .ok (.aload_n 0, 1) := by decide +kernel
theorem dX7_init_85 : decode cX7_init 85 = .ok (.bipush 16, 2) := by decide +kernel
theorem dX7_init_87 : decode cX7_init 87 = .ok (.newarray .boolean, 2) := by decide +kernel
theorem dX7_init_89 : decode cX7_init 89 = .ok (.putfield 38, 3) := by decide +kernel
theorem dX7_init_92 : decode cX7_init 92 = .ok (.aload_n 0, 1) := by decide +kernel
theorem dX7_init_93 : decode cX7_init 93 = .ok (.sipush 150, 3) := by decide +kernel
theorem dX7_init_96 : decode cX7_init 96 = .ok (.newarray .int, 2) := by decide +kernel
theorem dX7_init_98 : decode cX7_init 98 = .ok (.putfield 41, 3) := by decide +kernel
theorem dX7_init_101 : decode cX7_init 101 = .ok (.aload_n 0, 1) := by decide +kernel
theorem dX7_init_102 : decode cX7_init 102 = .ok (.sipush 140, 3) := by decide +kernel
theorem dX7_init_105 : decode cX7_init 105 = .ok (.newarray .int, 2) := by decide +kernel
theorem dX7_init_107 : decode cX7_init 107 = .ok (.putfield 44, 3) := by decide +kernel
theorem dX7_init_110 : decode cX7_init 110 = .ok (.iconst 0, 1) := by decide +kernel
theorem dX7_init_111 : decode cX7_init 111 = .ok (.istore_n 1, 1) := by decide +kernel
theorem dX7_init_112 : decode cX7_init 112 = .ok (.iload_n 1, 1) := by decide +kernel
theorem dX7_init_113 : decode cX7_init 113 = .ok (.sipush 140, 3) := by decide +kernel
theorem dX7_init_116 : decode cX7_init 116 = .ok (.if_icmp .ge 18, 3) := by decide +kernel
theorem dX7_init_119 : decode cX7_init 119 = .ok (.aload_n 0, 1) := by decide +kernel
theorem dX7_init_120 : decode cX7_init 120 = .ok (.getfield 9, 3) := by decide +kernel
theorem dX7_init_123 : decode cX7_init 123 = .ok (.iconst 0, 1) := by decide +kernel
theorem dX7_init_124 : decode cX7_init 124 = .ok (.iload_n 1, 1) := by decide +kernel
theorem dX7_init_125 : decode cX7_init 125 = .ok (.iadd, 1) := by decide +kernel
theorem dX7_init_126 : decode cX7_init 126 = .ok (.iconst 1, 1) := by decide +kernel
theorem dX7_init_127 : decode cX7_init 127 = .ok (.iastore, 1) := by decide +kernel
theorem dX7_init_128 : decode cX7_init 128 = .ok (.iinc 1 1, 3) := by decide +kernel
theorem dX7_init_131 : decode cX7_init 131 = .ok (.goto (-19), 3) := by decide +kernel
theorem dX7_init_134 : decode cX7_init 134 = .ok (.iconst 0, 1) := by decide +kernel
theorem dX7_init_135 : decode cX7_init 135 = .ok (.istore_n 1, 1) := by decide +kernel
theorem dX7_init_136 : decode cX7_init 136 = .ok (.iload_n 1, 1) := by decide +kernel
theorem dX7_init_137 : decode cX7_init 137 = .ok (.iconst 4, 1) := by decide +kernel
theorem dX7_init_138 : decode cX7_init 138 = .ok (.if_icmp .ge 20, 3) := by decide +kernel
theorem dX7_init_141 : decode cX7_init 141 = .ok (.aload_n 0, 1) := by decide +kernel
theorem dX7_init_142 : decode cX7_init 142 = .ok (.getfield 9, 3) := by decide +kernel
theorem dX7_init_145 : decode cX7_init 145 = .ok (.sipush 280, 3) := by decide +kernel
theorem dX7_init_148 : decode cX7_init 148 = .ok (.iload_n 1, 1) := by decide +kernel
theorem dX7_init_149 : decode cX7_init 149 = .ok (.iadd, 1) := by decide +kernel
theorem dX7_init_150 : decode cX7_init 150 = .ok (.iconst (-1), 1) := by decide +kernel
theorem dX7_init_151 : decode cX7_init 151 = .ok (.iastore, 1) := by decide +kernel
theorem dX7_init_152 : decode cX7_init 152 = .ok (.iinc 1 1, 3) := by decide +kernel
theorem dX7_init_155 : decode cX7_init 155 = .ok (.goto (-19), 3) := by decide +kernel
theorem dX7_init_158 : decode cX7_init 158 = .ok (.aload_n 0, 1) := by decide +kernel
theorem dX7_init_159 : decode cX7_init 159 = .ok (.getfield 9, 3) := by decide +kernel
theorem dX7_init_162 : decode cX7_init 162 = .ok (.sipush 284, 3) := by decide +kernel
theorem dX7_init_165 : decode cX7_init 165 = .ok (.iconst 3, 1) := by decide +kernel
theorem dX7_init_166 : decode cX7_init 166 = .ok (.iastore, 1) := by decide +kernel
theorem dX7_init_167 : decode cX7_init 167 = .ok (.return_, 1) := by decide +kernel
theorem dX7_thrown_0 : decode cX7_thrown 0 = .ok (.aload_n 0, 1) := by decide +kernel
theorem dX7_thrown_1 : decode cX7_thrown 1 = .ok (.getfield 47, 3) := by decide +kernel
theorem dX7_thrown_4 : decode cX7_thrown 4 = .ok (.ireturn, 1) := by decide +kernel
theorem dX7_isIn_0 : decode cX7_isIn 0 = .ok (.iload_n 0, 1) := by decide +kernel
theorem dX7_isIn_1 : decode cX7_isIn 1 = .ok (.iload_n 1, 1) := by decide +kernel
theorem dX7_isIn_2 : decode cX7_isIn 2 = .ok (.if_icmp .lt 12, 3) := by decide +kernel
theorem dX7_isIn_5 : decode cX7_isIn 5 = .ok (.iload_n 0, 1) := by decide +kernel
theorem dX7_isIn_6 : decode cX7_isIn 6 = .ok (.iload_n 2, 1) := by decide +kernel
theorem dX7_isIn_7 : decode cX7_isIn 7 = .ok (.if_icmp .gt 7, 3) := by decide +kernel
theorem dX7_isIn_10 : decode cX7_isIn 10 = .ok (.iconst 1, 1) := by decide +kernel
theorem dX7_isIn_11 : decode cX7_isIn 11 = .ok (.goto 4, 3) := by decide +kernel
theorem dX7_isIn_14 : decode cX7_isIn 14 = .ok (.iconst 0, 1) := by decide +kernel
theorem dX7_isIn_15 : decode cX7_isIn 15 = .ok (.ireturn, 1) := by decide +kernel
theorem dX7_isCell_0 : decode cX7_isCell 0 = .ok (.iload_n 0, 1) := by decide +kernel
theorem dX7_isCell_1 : decode cX7_isCell 1 = .ok (.iconst 0, 1) := by decide +kernel
theorem dX7_isCell_2 : decode cX7_isCell 2 = .ok (.bipush 13, 2) := by decide +kernel
theorem dX7_isCell_4 : decode cX7_isCell 4 = .ok (.invokestatic 51, 3) := by decide +kernel
theorem dX7_isCell_7 : decode cX7_isCell 7 = .ok (.ifCond .eq 17, 3) := by decide +kernel
theorem dX7_isCell_10 : decode cX7_isCell 10 = .ok (.iload_n 1, 1) := by decide +kernel
theorem dX7_isCell_11 : decode cX7_isCell 11 = .ok (.iconst 0, 1) := by decide +kernel
theorem dX7_isCell_12 : decode cX7_isCell 12 = .ok (.bipush 9, 2) := by decide +kernel
theorem dX7_isCell_14 : decode cX7_isCell 14 = .ok (.invokestatic 51, 3) := by decide +kernel
theorem dX7_isCell_17 : decode cX7_isCell 17 = .ok (.ifCond .eq 7, 3) := by decide +kernel
theorem dX7_isCell_20 : decode cX7_isCell 20 = .ok (.iconst 1, 1) := by decide +kernel
theorem dX7_isCell_21 : decode cX7_isCell 21 = .ok (.goto 4, 3) := by decide +kernel
theorem dX7_isCell_24 : decode cX7_isCell 24 = .ok (.iconst 0, 1) := by decide +kernel
theorem dX7_isCell_25 : decode cX7_isCell 25 = .ok (.ireturn, 1) := by decide +kernel
theorem dX7_cellAt_0 : decode cX7_cellAt 0 = .ok (.bipush 14, 2) := by decide +kernel
theorem dX7_cellAt_2 : decode cX7_cellAt 2 = .ok (.iload_n 1, 1) := by decide +kernel
theorem dX7_cellAt_3 : decode cX7_cellAt 3 = .ok (.imul, 1) := by decide +kernel
theorem dX7_cellAt_4 : decode cX7_cellAt 4 = .ok (.iload_n 0, 1) := by decide +kernel
theorem dX7_cellAt_5 : decode cX7_cellAt 5 = .ok (.iadd, 1) := by decide +kernel
theorem dX7_cellAt_6 : decode cX7_cellAt 6 = .ok (.ireturn, 1) := by decide +kernel
theorem dX7_columnOf_0 : decode cX7_columnOf 0 = .ok (.iload_n 0, 1) := by decide +kernel
theorem dX7_columnOf_1 : decode cX7_columnOf 1 = .ok (.bipush 14, 2) := by decide +kernel
theorem dX7_columnOf_3 : decode cX7_columnOf 3 = .ok (.irem, 1) := by decide +kernel
theorem dX7_columnOf_4 : decode cX7_columnOf 4 = .ok (.ireturn, 1) := by decide +kernel
theorem dX7_rowOf_0 : decode cX7_rowOf 0 = .ok (.iload_n 0, 1) := by decide +kernel
theorem dX7_rowOf_1 : decode cX7_rowOf 1 = .ok (.bipush 14, 2) := by decide +kernel
theorem dX7_rowOf_3 : decode cX7_rowOf 3 = .ok (.idiv, 1) := by decide +kernel
theorem dX7_rowOf_4 : decode cX7_rowOf 4 = .ok (.ireturn, 1) := by decide +kernel
theorem dX7_neighbor_0 : decode cX7_neighbor 0 = .ok (.iload_n 0, 1) := by decide +kernel
theorem dX7_neighbor_1 : decode cX7_neighbor 1 = .ok (.invokestatic 55, 3) := by decide +kernel
theorem dX7_neighbor_4 : decode cX7_neighbor 4 = .ok (.iload_n 1, 1) := by decide +kernel
theorem dX7_neighbor_5 : decode cX7_neighbor 5 = .ok (.iconst 1, 1) := by decide +kernel
theorem dX7_neighbor_6 : decode cX7_neighbor 6 = .ok (.if_icmp .ne 7, 3) := by decide +kernel
theorem dX7_neighbor_9 : decode cX7_neighbor 9 = .ok (.iconst 1, 1) := by decide +kernel
theorem dX7_neighbor_10 : decode cX7_neighbor 10 = .ok (.goto 13, 3) := by decide +kernel
theorem dX7_neighbor_13 : decode cX7_neighbor 13 = .ok (.iload_n 1, 1) := by decide +kernel
theorem dX7_neighbor_14 : decode cX7_neighbor 14 = .ok (.iconst 3, 1) := by decide +kernel
theorem dX7_neighbor_15 : decode cX7_neighbor 15 = .ok (.if_icmp .ne 7, 3) := by decide +kernel
theorem dX7_neighbor_18 : decode cX7_neighbor 18 = .ok (.iconst (-1), 1) := by decide +kernel
theorem dX7_neighbor_19 : decode cX7_neighbor 19 = .ok (.goto 4, 3) := by decide +kernel
theorem dX7_neighbor_22 : decode cX7_neighbor 22 = .ok (.iconst 0, 1) := by decide +kernel
theorem dX7_neighbor_23 : decode cX7_neighbor 23 = .ok (.iadd, 1) := by decide +kernel
theorem dX7_neighbor_24 : decode cX7_neighbor 24 = .ok (.istore_n 2, 1) := by decide +kernel
theorem dX7_neighbor_25 : decode cX7_neighbor 25 = .ok (.iload_n 0, 1) := by decide +kernel
theorem dX7_neighbor_26 : decode cX7_neighbor 26 = .ok (.invokestatic 59, 3) := by decide +kernel
theorem dX7_neighbor_29 : decode cX7_neighbor 29 = .ok (.iload_n 1, 1) := by decide +kernel
theorem dX7_neighbor_30 : decode cX7_neighbor 30 = .ok (.iconst 2, 1) := by decide +kernel
theorem dX7_neighbor_31 : decode cX7_neighbor 31 = .ok (.if_icmp .ne 7, 3) := by decide +kernel
theorem dX7_neighbor_34 : decode cX7_neighbor 34 = .ok (.iconst 1, 1) := by decide +kernel
theorem dX7_neighbor_35 : decode cX7_neighbor 35 = .ok (.goto 12, 3) := by decide +kernel
theorem dX7_neighbor_38 : decode cX7_neighbor 38 = .ok (.iload_n 1, 1) := by decide +kernel
theorem dX7_neighbor_39 : decode cX7_neighbor 39 = .ok (.ifCond .ne 7, 3) := by decide +kernel
theorem dX7_neighbor_42 : decode cX7_neighbor 42 = .ok (.iconst (-1), 1) := by decide +kernel
theorem dX7_neighbor_43 : decode cX7_neighbor 43 = .ok (.goto 4, 3) := by decide +kernel
theorem dX7_neighbor_46 : decode cX7_neighbor 46 = .ok (.iconst 0, 1) := by decide +kernel
theorem dX7_neighbor_47 : decode cX7_neighbor 47 = .ok (.iadd, 1) := by decide +kernel
theorem dX7_neighbor_48 : decode cX7_neighbor 48 = .ok (.istore_n 3, 1) := by decide +kernel
theorem dX7_neighbor_49 : decode cX7_neighbor 49 = .ok (.iload_n 2, 1) := by decide +kernel
theorem dX7_neighbor_50 : decode cX7_neighbor 50 = .ok (.iload_n 3, 1) := by decide +kernel
theorem dX7_neighbor_51 : decode cX7_neighbor 51 = .ok (.invokestatic 62, 3) := by decide +kernel
theorem dX7_neighbor_54 : decode cX7_neighbor 54 = .ok (.ifCond .eq 11, 3) := by decide +kernel
theorem dX7_neighbor_57 : decode cX7_neighbor 57 = .ok (.iload_n 2, 1) := by decide +kernel
theorem dX7_neighbor_58 : decode cX7_neighbor 58 = .ok (.iload_n 3, 1) := by decide +kernel
theorem dX7_neighbor_59 : decode cX7_neighbor 59 = .ok (.invokestatic 66, 3) := by decide +kernel
theorem dX7_neighbor_62 : decode cX7_neighbor 62 = .ok (.goto 4, 3) := by decide +kernel
theorem dX7_neighbor_65 : decode cX7_neighbor 65 = .ok (.iconst (-1), 1) := by decide +kernel
theorem dX7_neighbor_66 : decode cX7_neighbor 66 = .ok (.ireturn, 1) := by decide +kernel
theorem dX7_isFree_0 : decode cX7_isFree 0 = .ok (.iload_n 1, 1) := by decide +kernel
theorem dX7_isFree_1 : decode cX7_isFree 1 = .ok (.ifCond .lt 18, 3) := by decide +kernel
theorem dX7_isFree_4 : decode cX7_isFree 4 = .ok (.aload_n 0, 1) := by decide +kernel
theorem dX7_isFree_5 : decode cX7_isFree 5 = .ok (.getfield 9, 3) := by decide +kernel
theorem dX7_isFree_8 : decode cX7_isFree 8 = .ok (.iconst 0, 1) := by decide +kernel
theorem dX7_isFree_9 : decode cX7_isFree 9 = .ok (.iload_n 1, 1) := by decide +kernel
theorem dX7_isFree_10 : decode cX7_isFree 10 = .ok (.iadd, 1) := by decide +kernel
theorem dX7_isFree_11 : decode cX7_isFree 11 = .ok (.iaload, 1) := by decide +kernel
theorem dX7_isFree_12 : decode cX7_isFree 12 = .ok (.ifCond .le 7, 3) := by decide +kernel
theorem dX7_isFree_15 : decode cX7_isFree 15 = .ok (.iconst 1, 1) := by decide +kernel
theorem dX7_isFree_16 : decode cX7_isFree 16 = .ok (.goto 4, 3) := by decide +kernel
theorem dX7_isFree_19 : decode cX7_isFree 19 = .ok (.iconst 0, 1) := by decide +kernel
theorem dX7_isFree_20 : decode cX7_isFree 20 = .ok (.ireturn, 1) := by decide +kernel
theorem dX7_keeps_0 : decode cX7_keeps 0 = .ok (.aload_n 0, 1) := by decide +kernel
theorem dX7_keeps_1 : decode cX7_keeps 1 = .ok (.getfield 70, 3) := by decide +kernel
theorem dX7_keeps_4 : decode cX7_keeps 4 = .ok (.bipush 8, 2) := by decide +kernel
theorem dX7_keeps_6 : decode cX7_keeps 6 = .ok (.if_icmp .ne 46, 3) := by decide +kernel
theorem dX7_keeps_9 : decode cX7_keeps 9 = .ok (.sipush 434, 3) := by decide +kernel
theorem dX7_keeps_12 : decode cX7_keeps 12 = .ok (.istore_n 1, 1) := by decide +kernel
theorem dX7_keeps_13 : decode cX7_keeps 13 = .ok (.iload_n 1, 1) := by decide +kernel
theorem dX7_keeps_14 : decode cX7_keeps 14 = .ok (.sipush 3472, 3) := by decide +kernel
theorem dX7_keeps_17 : decode cX7_keeps 17 = .ok (.if_icmp .ge 25, 3) := by decide +kernel
theorem dX7_keeps_20 : decode cX7_keeps 20 = .ok (.aload_n 0, 1) := by decide +kernel
theorem dX7_keeps_21 : decode cX7_keeps 21 = .ok (.getfield 19, 3) := by decide +kernel
theorem dX7_keeps_24 : decode cX7_keeps 24 = .ok (.iload_n 1, 1) := by decide +kernel
theorem dX7_keeps_25 : decode cX7_keeps 25 = .ok (.sipush 434, 3) := by decide +kernel
theorem dX7_keeps_28 : decode cX7_keeps 28 = .ok (.isub, 1) := by decide +kernel
theorem dX7_keeps_29 : decode cX7_keeps 29 = .ok (.aload_n 0, 1) := by decide +kernel
theorem dX7_keeps_30 : decode cX7_keeps 30 = .ok (.getfield 19, 3) := by decide +kernel
theorem dX7_keeps_33 : decode cX7_keeps 33 = .ok (.iload_n 1, 1) := by decide +kernel
theorem dX7_keeps_34 : decode cX7_keeps 34 = .ok (.iaload, 1) := by decide +kernel
theorem dX7_keeps_35 : decode cX7_keeps 35 = .ok (.iastore, 1) := by decide +kernel
theorem dX7_keeps_36 : decode cX7_keeps 36 = .ok (.iinc 1 1, 3) := by decide +kernel
theorem dX7_keeps_39 : decode cX7_keeps 39 = .ok (.goto (-26), 3) := by decide +kernel
theorem dX7_keeps_42 : decode cX7_keeps 42 = .ok (.aload_n 0, 1) := by decide +kernel
theorem dX7_keeps_43 : decode cX7_keeps 43 = .ok (.dup, 1) := by decide +kernel
theorem dX7_keeps_44 : decode cX7_keeps 44 = .ok (.getfield 70, 3) := by decide +kernel
theorem dX7_keeps_47 : decode cX7_keeps 47 = .ok (.iconst 1, 1) := by decide +kernel
theorem dX7_keeps_48 : decode cX7_keeps 48 = .ok (.isub, 1) := by decide +kernel
theorem dX7_keeps_49 : decode cX7_keeps 49 = .ok (.putfield 70, 3) := by decide +kernel
theorem dX7_keeps_52 : decode cX7_keeps 52 = .ok (.iconst 0, 1) := by decide +kernel
theorem dX7_keeps_53 : decode cX7_keeps 53 = .ok (.istore_n 1, 1) := by decide +kernel
theorem dX7_keeps_54 : decode cX7_keeps 54 = .ok (.iload_n 1, 1) := by decide +kernel
theorem dX7_keeps_55 : decode cX7_keeps 55 = .ok (.sipush 434, 3) := by decide +kernel
theorem dX7_keeps_58 : decode cX7_keeps 58 = .ok (.if_icmp .ge 30, 3) := by decide +kernel
theorem dX7_keeps_61 : decode cX7_keeps 61 = .ok (.aload_n 0, 1) := by decide +kernel
theorem dX7_keeps_62 : decode cX7_keeps 62 = .ok (.getfield 19, 3) := by decide +kernel
theorem dX7_keeps_65 : decode cX7_keeps 65 = .ok (.sipush 434, 3) := by decide +kernel
theorem dX7_keeps_68 : decode cX7_keeps 68 = .ok (.aload_n 0, 1) := by decide +kernel
theorem dX7_keeps_69 : decode cX7_keeps 69 = .ok (.getfield 70, 3) := by decide +kernel
theorem dX7_keeps_72 : decode cX7_keeps 72 = .ok (.imul, 1) := by decide +kernel
theorem dX7_keeps_73 : decode cX7_keeps 73 = .ok (.iload_n 1, 1) := by decide +kernel
theorem dX7_keeps_74 : decode cX7_keeps 74 = .ok (.iadd, 1) := by decide +kernel
theorem dX7_keeps_75 : decode cX7_keeps 75 = .ok (.aload_n 0, 1) := by decide +kernel
theorem dX7_keeps_76 : decode cX7_keeps 76 = .ok (.getfield 9, 3) := by decide +kernel
theorem dX7_keeps_79 : decode cX7_keeps 79 = .ok (.iload_n 1, 1) := by decide +kernel
theorem dX7_keeps_80 : decode cX7_keeps 80 = .ok (.iaload, 1) := by decide +kernel
theorem dX7_keeps_81 : decode cX7_keeps 81 = .ok (.iastore, 1) := by decide +kernel
theorem dX7_keeps_82 : decode cX7_keeps 82 = .ok (.iinc 1 1, 3) := by decide +kernel
theorem dX7_keeps_85 : decode cX7_keeps 85 = .ok (.goto (-31), 3) := by decide +kernel
theorem dX7_keeps_88 : decode cX7_keeps 88 = .ok (.aload_n 0, 1) := by decide +kernel
theorem dX7_keeps_89 : decode cX7_keeps 89 = .ok (.dup, 1) := by decide +kernel
theorem dX7_keeps_90 : decode cX7_keeps 90 = .ok (.getfield 70, 3) := by decide +kernel
theorem dX7_keeps_93 : decode cX7_keeps 93 = .ok (.iconst 1, 1) := by decide +kernel
theorem dX7_keeps_94 : decode cX7_keeps 94 = .ok (.iadd, 1) := by decide +kernel
theorem dX7_keeps_95 : decode cX7_keeps 95 = .ok (.putfield 70, 3) := by decide +kernel
theorem dX7_keeps_98 : decode cX7_keeps 98 = .ok (.return_, 1) := by decide +kernel
theorem dX7_undo_0 : decode cX7_undo 0 = .ok (.aload_n 0, 1) := by decide +kernel
theorem dX7_undo_1 : decode cX7_undo 1 = .ok (.aload_n 0, 1) := by decide +kernel
theorem dX7_undo_2 : decode cX7_undo 2 = .ok (.getfield 70, 3) := by decide +kernel
theorem dX7_undo_5 : decode cX7_undo 5 = .ok (.ifCond .ne 7, 3) := by decide +kernel
theorem dX7_undo_8 : decode cX7_undo 8 = .ok (.iconst 1, 1) := by decide +kernel
theorem dX7_undo_9 : decode cX7_undo 9 = .ok (.goto 4, 3) := by decide +kernel
theorem dX7_undo_12 : decode cX7_undo 12 = .ok (.iconst 0, 1) := by decide +kernel
theorem dX7_undo_13 : decode cX7_undo 13 = .ok (.putfield 47, 3) := by decide +kernel
theorem dX7_undo_16 : decode cX7_undo 16 = .ok (.aload_n 0, 1) := by decide +kernel
theorem dX7_undo_17 : decode cX7_undo 17 = .ok (.getfield 47, 3) := by decide +kernel
theorem dX7_undo_20 : decode cX7_undo 20 = .ok (.ifCond .eq 5, 3) := by decide +kernel
theorem dX7_undo_23 : decode cX7_undo 23 = .ok (.iconst 0, 1) := by decide +kernel
theorem dX7_undo_24 : decode cX7_undo 24 = .ok (.ireturn, 1) := by decide +kernel
theorem dX7_undo_25 : decode cX7_undo 25 = .ok (.aload_n 0, 1) := by decide +kernel
theorem dX7_undo_26 : decode cX7_undo 26 = .ok (.dup, 1) := by decide +kernel
theorem dX7_undo_27 : decode cX7_undo 27 = .ok (.getfield 70, 3) := by decide +kernel
theorem dX7_undo_30 : decode cX7_undo 30 = .ok (.iconst 1, 1) := by decide +kernel
theorem dX7_undo_31 : decode cX7_undo 31 = .ok (.isub, 1) := by decide +kernel
theorem dX7_undo_32 : decode cX7_undo 32 = .ok (.putfield 70, 3) := by decide +kernel
theorem dX7_undo_35 : decode cX7_undo 35 = .ok (.iconst 0, 1) := by decide +kernel
theorem dX7_undo_36 : decode cX7_undo 36 = .ok (.istore_n 1, 1) := by decide +kernel
theorem dX7_undo_37 : decode cX7_undo 37 = .ok (.iload_n 1, 1) := by decide +kernel
theorem dX7_undo_38 : decode cX7_undo 38 = .ok (.sipush 434, 3) := by decide +kernel
theorem dX7_undo_41 : decode cX7_undo 41 = .ok (.if_icmp .ge 30, 3) := by decide +kernel
theorem dX7_undo_44 : decode cX7_undo 44 = .ok (.aload_n 0, 1) := by decide +kernel
theorem dX7_undo_45 : decode cX7_undo 45 = .ok (.getfield 9, 3) := by decide +kernel
theorem dX7_undo_48 : decode cX7_undo 48 = .ok (.iload_n 1, 1) := by decide +kernel
theorem dX7_undo_49 : decode cX7_undo 49 = .ok (.aload_n 0, 1) := by decide +kernel
theorem dX7_undo_50 : decode cX7_undo 50 = .ok (.getfield 19, 3) := by decide +kernel
theorem dX7_undo_53 : decode cX7_undo 53 = .ok (.sipush 434, 3) := by decide +kernel
theorem dX7_undo_56 : decode cX7_undo 56 = .ok (.aload_n 0, 1) := by decide +kernel
theorem dX7_undo_57 : decode cX7_undo 57 = .ok (.getfield 70, 3) := by decide +kernel
theorem dX7_undo_60 : decode cX7_undo 60 = .ok (.imul, 1) := by decide +kernel
theorem dX7_undo_61 : decode cX7_undo 61 = .ok (.iload_n 1, 1) := by decide +kernel
theorem dX7_undo_62 : decode cX7_undo 62 = .ok (.iadd, 1) := by decide +kernel
theorem dX7_undo_63 : decode cX7_undo 63 = .ok (.iaload, 1) := by decide +kernel
theorem dX7_undo_64 : decode cX7_undo 64 = .ok (.iastore, 1) := by decide +kernel
theorem dX7_undo_65 : decode cX7_undo 65 = .ok (.iinc 1 1, 3) := by decide +kernel
theorem dX7_undo_68 : decode cX7_undo 68 = .ok (.goto (-31), 3) := by decide +kernel
theorem dX7_undo_71 : decode cX7_undo 71 = .ok (.aload_n 0, 1) := by decide +kernel
theorem dX7_undo_72 : decode cX7_undo 72 = .ok (.invokevirtual 73, 3) := by decide +kernel
theorem dX7_undo_75 : decode cX7_undo 75 = .ok (.aload_n 0, 1) := by decide +kernel
theorem dX7_undo_76 : decode cX7_undo 76 = .ok (.getfield 70, 3) := by decide +kernel
theorem dX7_undo_79 : decode cX7_undo 79 = .ok (.ireturn, 1) := by decide +kernel
theorem dX7_forgets_0 : decode cX7_forgets 0 = .ok (.iconst 0, 1) := by decide +kernel
theorem dX7_forgets_1 : decode cX7_forgets 1 = .ok (.istore_n 1, 1) := by decide +kernel
theorem dX7_forgets_2 : decode cX7_forgets 2 = .ok (.iload_n 1, 1) := by decide +kernel
theorem dX7_forgets_3 : decode cX7_forgets 3 = .ok (.sipush 140, 3) := by decide +kernel
theorem dX7_forgets_6 : decode cX7_forgets 6 = .ok (.if_icmp .ge 16, 3) := by decide +kernel
theorem dX7_forgets_9 : decode cX7_forgets 9 = .ok (.aload_n 0, 1) := by decide +kernel
theorem dX7_forgets_10 : decode cX7_forgets 10 = .ok (.getfield 28, 3) := by decide +kernel
theorem dX7_forgets_13 : decode cX7_forgets 13 = .ok (.iload_n 1, 1) := by decide +kernel
theorem dX7_forgets_14 : decode cX7_forgets 14 = .ok (.iconst 0, 1) := by decide +kernel
theorem dX7_forgets_15 : decode cX7_forgets 15 = .ok (.bastore, 1) := by decide +kernel
theorem dX7_forgets_16 : decode cX7_forgets 16 = .ok (.iinc 1 1, 3) := by decide +kernel
theorem dX7_forgets_19 : decode cX7_forgets 19 = .ok (.goto (-17), 3) := by decide +kernel
theorem dX7_forgets_22 : decode cX7_forgets 22 = .ok (.return_, 1) := by decide +kernel
theorem dX7_measures_0 : decode cX7_measures 0 = .ok (.iconst 0, 1) := by decide +kernel
theorem dX7_measures_1 : decode cX7_measures 1 = .ok (.istore_n 2, 1) := by decide +kernel
theorem dX7_measures_2 : decode cX7_measures 2 = .ok (.iload_n 2, 1) := by decide +kernel
theorem dX7_measures_3 : decode cX7_measures 3 = .ok (.sipush 140, 3) := by decide +kernel
theorem dX7_measures_6 : decode cX7_measures 6 = .ok (.if_icmp .ge 29, 3) := by decide +kernel
theorem dX7_measures_9 : decode cX7_measures 9 = .ok (.aload_n 0, 1) := by decide +kernel
theorem dX7_measures_10 : decode cX7_measures 10 = .ok (.getfield 22, 3) := by decide +kernel
theorem dX7_measures_13 : decode cX7_measures 13 = .ok (.sipush 140, 3) := by decide +kernel
theorem dX7_measures_16 : decode cX7_measures 16 = .ok (.iload_n 1, 1) := by decide +kernel
theorem dX7_measures_17 : decode cX7_measures 17 = .ok (.imul, 1) := by decide +kernel
theorem dX7_measures_18 : decode cX7_measures 18 = .ok (.iload_n 2, 1) := by decide +kernel
theorem dX7_measures_19 : decode cX7_measures 19 = .ok (.iadd, 1) := by decide +kernel
theorem dX7_measures_20 : decode cX7_measures 20 = .ok (.iconst (-1), 1) := by decide +kernel
theorem dX7_measures_21 : decode cX7_measures 21 = .ok (.iastore, 1) := by decide +kernel
theorem dX7_measures_22 : decode cX7_measures 22 = .ok (.aload_n 0, 1) := by decide +kernel
theorem dX7_measures_23 : decode cX7_measures 23 = .ok (.getfield 32, 3) := by decide +kernel
theorem dX7_measures_26 : decode cX7_measures 26 = .ok (.iload_n 2, 1) := by decide +kernel
theorem dX7_measures_27 : decode cX7_measures 27 = .ok (.iconst 0, 1) := by decide +kernel
theorem dX7_measures_28 : decode cX7_measures 28 = .ok (.bastore, 1) := by decide +kernel
theorem dX7_measures_29 : decode cX7_measures 29 = .ok (.iinc 2 1, 3) := by decide +kernel
theorem dX7_measures_32 : decode cX7_measures 32 = .ok (.goto (-30), 3) := by decide +kernel
theorem dX7_measures_35 : decode cX7_measures 35 = .ok (.aload_n 0, 1) := by decide +kernel
theorem dX7_measures_36 : decode cX7_measures 36 = .ok (.getfield 22, 3) := by decide +kernel
theorem dX7_measures_39 : decode cX7_measures 39 = .ok (.sipush 140, 3) := by decide +kernel
theorem dX7_measures_42 : decode cX7_measures 42 = .ok (.iload_n 1, 1) := by decide +kernel
theorem dX7_measures_43 : decode cX7_measures 43 = .ok (.imul, 1) := by decide +kernel
theorem dX7_measures_44 : decode cX7_measures 44 = .ok (.iload_n 1, 1) := by decide +kernel
theorem dX7_measures_45 : decode cX7_measures 45 = .ok (.iadd, 1) := by decide +kernel
theorem dX7_measures_46 : decode cX7_measures 46 = .ok (.iconst 0, 1) := by decide +kernel
theorem dX7_measures_47 : decode cX7_measures 47 = .ok (.iastore, 1) := by decide +kernel
theorem dX7_measures_48 : decode cX7_measures 48 = .ok (.aload_n 0, 1) := by decide +kernel
theorem dX7_measures_49 : decode cX7_measures 49 = .ok (.getfield 25, 3) := by decide +kernel
theorem dX7_measures_52 : decode cX7_measures 52 = .ok (.iconst 0, 1) := by decide +kernel
theorem dX7_measures_53 : decode cX7_measures 53 = .ok (.iload_n 1, 1) := by decide +kernel
theorem dX7_measures_54 : decode cX7_measures 54 = .ok (.iastore, 1) := by decide +kernel
theorem dX7_measures_55 : decode cX7_measures 55 = .ok (.iconst 0, 1) := by decide +kernel
theorem dX7_measures_56 : decode cX7_measures 56 = .ok (.istore_n 2, 1) := by decide +kernel
theorem dX7_measures_57 : decode cX7_measures 57 = .ok (.iconst 1, 1) := by decide +kernel
theorem dX7_measures_58 : decode cX7_measures 58 = .ok (.istore_n 3, 1) := by decide +kernel
theorem dX7_measures_59 : decode cX7_measures 59 = .ok (.iload_n 3, 1) := by decide +kernel
theorem dX7_measures_60 : decode cX7_measures 60 = .ok (.ifCond .le 171, 3) := by decide +kernel
theorem dX7_measures_63 : decode cX7_measures 63 = .ok (.aload_n 0, 1) := by decide +kernel
theorem dX7_measures_64 : decode cX7_measures 64 = .ok (.getfield 25, 3) := by decide +kernel
theorem dX7_measures_67 : decode cX7_measures 67 = .ok (.iload_n 2, 1) := by decide +kernel
theorem dX7_measures_68 : decode cX7_measures 68 = .ok (.iaload, 1) := by decide +kernel
theorem dX7_measures_69 : decode cX7_measures 69 = .ok (.istore 4, 2) := by decide +kernel
theorem dX7_measures_71 : decode cX7_measures 71 = .ok (.iload_n 2, 1) := by decide +kernel
theorem dX7_measures_72 : decode cX7_measures 72 = .ok (.iconst 1, 1) := by decide +kernel
theorem dX7_measures_73 : decode cX7_measures 73 = .ok (.iadd, 1) := by decide +kernel
theorem dX7_measures_74 : decode cX7_measures 74 = .ok (.sipush 140, 3) := by decide +kernel
theorem dX7_measures_77 : decode cX7_measures 77 = .ok (.irem, 1) := by decide +kernel
theorem dX7_measures_78 : decode cX7_measures 78 = .ok (.istore_n 2, 1) := by decide +kernel
theorem dX7_measures_79 : decode cX7_measures 79 = .ok (.iinc 3 (-1), 3) := by decide +kernel
theorem dX7_measures_82 : decode cX7_measures 82 = .ok (.aload_n 0, 1) := by decide +kernel
theorem dX7_measures_83 : decode cX7_measures 83 = .ok (.getfield 32, 3) := by decide +kernel
theorem dX7_measures_86 : decode cX7_measures 86 = .ok (.iload 4, 2) := by decide +kernel
theorem dX7_measures_88 : decode cX7_measures 88 = .ok (.iconst 0, 1) := by decide +kernel
theorem dX7_measures_89 : decode cX7_measures 89 = .ok (.bastore, 1) := by decide +kernel
theorem dX7_measures_90 : decode cX7_measures 90 = .ok (.aload_n 0, 1) := by decide +kernel
theorem dX7_measures_91 : decode cX7_measures 91 = .ok (.getfield 22, 3) := by decide +kernel
theorem dX7_measures_94 : decode cX7_measures 94 = .ok (.sipush 140, 3) := by decide +kernel
theorem dX7_measures_97 : decode cX7_measures 97 = .ok (.iload_n 1, 1) := by decide +kernel
theorem dX7_measures_98 : decode cX7_measures 98 = .ok (.imul, 1) := by decide +kernel
theorem dX7_measures_99 : decode cX7_measures 99 = .ok (.iload 4, 2) := by decide +kernel
theorem dX7_measures_101 : decode cX7_measures 101 = .ok (.iadd, 1) := by decide +kernel
theorem dX7_measures_102 : decode cX7_measures 102 = .ok (.iaload, 1) := by decide +kernel
theorem dX7_measures_103 : decode cX7_measures 103 = .ok (.aload_n 0, 1) := by decide +kernel
theorem dX7_measures_104 : decode cX7_measures 104 = .ok (.getfield 9, 3) := by decide +kernel
theorem dX7_measures_107 : decode cX7_measures 107 = .ok (.iconst 0, 1) := by decide +kernel
theorem dX7_measures_108 : decode cX7_measures 108 = .ok (.iload 4, 2) := by decide +kernel
theorem dX7_measures_110 : decode cX7_measures 110 = .ok (.iadd, 1) := by decide +kernel
theorem dX7_measures_111 : decode cX7_measures 111 = .ok (.iaload, 1) := by decide +kernel
theorem dX7_measures_112 : decode cX7_measures 112 = .ok (.iadd, 1) := by decide +kernel
theorem dX7_measures_113 : decode cX7_measures 113 = .ok (.istore 5, 2) := by decide +kernel
theorem dX7_measures_115 : decode cX7_measures 115 = .ok (.iconst 0, 1) := by decide +kernel
theorem dX7_measures_116 : decode cX7_measures 116 = .ok (.istore 6, 2) := by decide +kernel
theorem dX7_measures_118 : decode cX7_measures 118 = .ok (.iload 6, 2) := by decide +kernel
theorem dX7_measures_120 : decode cX7_measures 120 = .ok (.iconst 4, 1) := by decide +kernel
theorem dX7_measures_121 : decode cX7_measures 121 = .ok (.if_icmp .ge 107, 3) := by decide +kernel
theorem dX7_measures_124 : decode cX7_measures 124 = .ok (.iload 4, 2) := by decide +kernel
theorem dX7_measures_126 : decode cX7_measures 126 = .ok (.iload 6, 2) := by decide +kernel
theorem dX7_measures_128 : decode cX7_measures 128 = .ok (.invokestatic 76, 3) := by decide +kernel
theorem dX7_measures_131 : decode cX7_measures 131 = .ok (.istore 7, 2) := by decide +kernel
theorem dX7_measures_133 : decode cX7_measures 133 = .ok (.aload_n 0, 1) := by decide +kernel
theorem dX7_measures_134 : decode cX7_measures 134 = .ok (.iload 7, 2) := by decide +kernel
theorem dX7_measures_136 : decode cX7_measures 136 = .ok (.invokevirtual 79, 3) := by decide +kernel
theorem dX7_measures_139 : decode cX7_measures 139 = .ok (.ifCond .ne 6, 3) := by decide +kernel
theorem dX7_measures_142 : decode cX7_measures 142 = .ok (.goto 80, 3) := by decide +kernel
theorem dX7_measures_145 : decode cX7_measures 145 = .ok (.aload_n 0, 1) := by decide +kernel
theorem dX7_measures_146 : decode cX7_measures 146 = .ok (.getfield 22, 3) := by decide +kernel
theorem dX7_measures_149 : decode cX7_measures 149 = .ok (.sipush 140, 3) := by decide +kernel
theorem dX7_measures_152 : decode cX7_measures 152 = .ok (.iload_n 1, 1) := by decide +kernel
theorem dX7_measures_153 : decode cX7_measures 153 = .ok (.imul, 1) := by decide +kernel
theorem dX7_measures_154 : decode cX7_measures 154 = .ok (.iload 7, 2) := by decide +kernel
theorem dX7_measures_156 : decode cX7_measures 156 = .ok (.iadd, 1) := by decide +kernel
theorem dX7_measures_157 : decode cX7_measures 157 = .ok (.iaload, 1) := by decide +kernel
theorem dX7_measures_158 : decode cX7_measures 158 = .ok (.istore 8, 2) := by decide +kernel
theorem dX7_measures_160 : decode cX7_measures 160 = .ok (.iload 8, 2) := by decide +kernel
theorem dX7_measures_162 : decode cX7_measures 162 = .ok (.ifCond .lt 10, 3) := by decide +kernel
theorem dX7_measures_165 : decode cX7_measures 165 = .ok (.iload 5, 2) := by decide +kernel
theorem dX7_measures_167 : decode cX7_measures 167 = .ok (.iload 8, 2) := by decide +kernel
theorem dX7_measures_169 : decode cX7_measures 169 = .ok (.if_icmp .ge 53, 3) := by decide +kernel
theorem dX7_measures_172 : decode cX7_measures 172 = .ok (.aload_n 0, 1) := by decide +kernel
theorem dX7_measures_173 : decode cX7_measures 173 = .ok (.getfield 22, 3) := by decide +kernel
theorem dX7_measures_176 : decode cX7_measures 176 = .ok (.sipush 140, 3) := by decide +kernel
theorem dX7_measures_179 : decode cX7_measures 179 = .ok (.iload_n 1, 1) := by decide +kernel
theorem dX7_measures_180 : decode cX7_measures 180 = .ok (.imul, 1) := by decide +kernel
theorem dX7_measures_181 : decode cX7_measures 181 = .ok (.iload 7, 2) := by decide +kernel
theorem dX7_measures_183 : decode cX7_measures 183 = .ok (.iadd, 1) := by decide +kernel
theorem dX7_measures_184 : decode cX7_measures 184 = .ok (.iload 5, 2) := by decide +kernel
theorem dX7_measures_186 : decode cX7_measures 186 = .ok (.iastore, 1) := by decide +kernel
theorem dX7_measures_187 : decode cX7_measures 187 = .ok (.aload_n 0, 1) := by decide +kernel
theorem dX7_measures_188 : decode cX7_measures 188 = .ok (.getfield 32, 3) := by decide +kernel
theorem dX7_measures_191 : decode cX7_measures 191 = .ok (.iload 7, 2) := by decide +kernel
theorem dX7_measures_193 : decode cX7_measures 193 = .ok (.baload, 1) := by decide +kernel
theorem dX7_measures_194 : decode cX7_measures 194 = .ok (.ifCond .ne 28, 3) := by decide +kernel
theorem dX7_measures_197 : decode cX7_measures 197 = .ok (.aload_n 0, 1) := by decide +kernel
theorem dX7_measures_198 : decode cX7_measures 198 = .ok (.getfield 25, 3) := by decide +kernel
theorem dX7_measures_201 : decode cX7_measures 201 = .ok (.iload_n 2, 1) := by decide +kernel
theorem dX7_measures_202 : decode cX7_measures 202 = .ok (.iload_n 3, 1) := by decide +kernel
theorem dX7_measures_203 : decode cX7_measures 203 = .ok (.iadd, 1) := by decide +kernel
theorem dX7_measures_204 : decode cX7_measures 204 = .ok (.sipush 140, 3) := by decide +kernel
theorem dX7_measures_207 : decode cX7_measures 207 = .ok (.irem, 1) := by decide +kernel
theorem dX7_measures_208 : decode cX7_measures 208 = .ok (.iload 7, 2) := by decide +kernel
theorem dX7_measures_210 : decode cX7_measures 210 = .ok (.iastore, 1) := by decide +kernel
theorem dX7_measures_211 : decode cX7_measures 211 = .ok (.aload_n 0, 1) := by decide +kernel
theorem dX7_measures_212 : decode cX7_measures 212 = .ok (.getfield 32, 3) := by decide +kernel
theorem dX7_measures_215 : decode cX7_measures 215 = .ok (.iload 7, 2) := by decide +kernel
theorem dX7_measures_217 : decode cX7_measures 217 = .ok (.iconst 1, 1) := by decide +kernel
theorem dX7_measures_218 : decode cX7_measures 218 = .ok (.bastore, 1) := by decide +kernel
theorem dX7_measures_219 : decode cX7_measures 219 = .ok (.iinc 3 1, 3) := by decide +kernel
theorem dX7_measures_222 : decode cX7_measures 222 = .ok (.iinc 6 1, 3) := by decide +kernel
theorem dX7_measures_225 : decode cX7_measures 225 = .ok (.goto (-107), 3) := by decide +kernel
theorem dX7_measures_228 : decode cX7_measures 228 = .ok (.goto (-169), 3) := by decide +kernel
theorem dX7_measures_231 : decode cX7_measures 231 = .ok (.aload_n 0, 1) := by decide +kernel
theorem dX7_measures_232 : decode cX7_measures 232 = .ok (.getfield 28, 3) := by decide +kernel
theorem dX7_measures_235 : decode cX7_measures 235 = .ok (.iload_n 1, 1) := by decide +kernel
theorem dX7_measures_236 : decode cX7_measures 236 = .ok (.iconst 1, 1) := by decide +kernel
theorem dX7_measures_237 : decode cX7_measures 237 = .ok (.bastore, 1) := by decide +kernel
theorem dX7_measures_238 : decode cX7_measures 238 = .ok (.return_, 1) := by decide +kernel
theorem dX7_far_0 : decode cX7_far 0 = .ok (.aload_n 0, 1) := by decide +kernel
theorem dX7_far_1 : decode cX7_far 1 = .ok (.getfield 28, 3) := by decide +kernel
theorem dX7_far_4 : decode cX7_far 4 = .ok (.iload_n 1, 1) := by decide +kernel
theorem dX7_far_5 : decode cX7_far 5 = .ok (.baload, 1) := by decide +kernel
theorem dX7_far_6 : decode cX7_far 6 = .ok (.ifCond .ne 8, 3) := by decide +kernel
theorem dX7_far_9 : decode cX7_far 9 = .ok (.aload_n 0, 1) := by decide +kernel
theorem dX7_far_10 : decode cX7_far 10 = .ok (.iload_n 1, 1) := by decide +kernel
theorem dX7_far_11 : decode cX7_far 11 = .ok (.invokevirtual 83, 3) := by decide +kernel
theorem dX7_far_14 : decode cX7_far 14 = .ok (.aload_n 0, 1) := by decide +kernel
theorem dX7_far_15 : decode cX7_far 15 = .ok (.getfield 22, 3) := by decide +kernel
theorem dX7_far_18 : decode cX7_far 18 = .ok (.sipush 140, 3) := by decide +kernel
theorem dX7_far_21 : decode cX7_far 21 = .ok (.iload_n 1, 1) := by decide +kernel
theorem dX7_far_22 : decode cX7_far 22 = .ok (.imul, 1) := by decide +kernel
theorem dX7_far_23 : decode cX7_far 23 = .ok (.iload_n 2, 1) := by decide +kernel
theorem dX7_far_24 : decode cX7_far 24 = .ok (.iadd, 1) := by decide +kernel
theorem dX7_far_25 : decode cX7_far 25 = .ok (.iaload, 1) := by decide +kernel
theorem dX7_far_26 : decode cX7_far 26 = .ok (.ireturn, 1) := by decide +kernel
theorem dX7_flowOf_0 : decode cX7_flowOf 0 = .ok (.aload_n 0, 1) := by decide +kernel
theorem dX7_flowOf_1 : decode cX7_flowOf 1 = .ok (.iload_n 1, 1) := by decide +kernel
theorem dX7_flowOf_2 : decode cX7_flowOf 2 = .ok (.iload_n 2, 1) := by decide +kernel
theorem dX7_flowOf_3 : decode cX7_flowOf 3 = .ok (.invokevirtual 87, 3) := by decide +kernel
theorem dX7_flowOf_6 : decode cX7_flowOf 6 = .ok (.istore_n 3, 1) := by decide +kernel
theorem dX7_flowOf_7 : decode cX7_flowOf 7 = .ok (.iconst 0, 1) := by decide +kernel
theorem dX7_flowOf_8 : decode cX7_flowOf 8 = .ok (.istore 4, 2) := by decide +kernel
theorem dX7_flowOf_10 : decode cX7_flowOf 10 = .ok (.iload 4, 2) := by decide +kernel
theorem dX7_flowOf_12 : decode cX7_flowOf 12 = .ok (.iconst 4, 1) := by decide +kernel
theorem dX7_flowOf_13 : decode cX7_flowOf 13 = .ok (.if_icmp .ge 64, 3) := by decide +kernel
theorem dX7_flowOf_16 : decode cX7_flowOf 16 = .ok (.iload_n 3, 1) := by decide +kernel
theorem dX7_flowOf_17 : decode cX7_flowOf 17 = .ok (.ifCond .le 60, 3) := by decide +kernel
theorem dX7_flowOf_20 : decode cX7_flowOf 20 = .ok (.iload_n 2, 1) := by decide +kernel
theorem dX7_flowOf_21 : decode cX7_flowOf 21 = .ok (.iload 4, 2) := by decide +kernel
theorem dX7_flowOf_23 : decode cX7_flowOf 23 = .ok (.invokestatic 76, 3) := by decide +kernel
theorem dX7_flowOf_26 : decode cX7_flowOf 26 = .ok (.istore 5, 2) := by decide +kernel
theorem dX7_flowOf_28 : decode cX7_flowOf 28 = .ok (.aload_n 0, 1) := by decide +kernel
theorem dX7_flowOf_29 : decode cX7_flowOf 29 = .ok (.iload 5, 2) := by decide +kernel
theorem dX7_flowOf_31 : decode cX7_flowOf 31 = .ok (.invokevirtual 79, 3) := by decide +kernel
theorem dX7_flowOf_34 : decode cX7_flowOf 34 = .ok (.ifCond .eq 37, 3) := by decide +kernel
theorem dX7_flowOf_37 : decode cX7_flowOf 37 = .ok (.aload_n 0, 1) := by decide +kernel
theorem dX7_flowOf_38 : decode cX7_flowOf 38 = .ok (.iload_n 1, 1) := by decide +kernel
theorem dX7_flowOf_39 : decode cX7_flowOf 39 = .ok (.iload 5, 2) := by decide +kernel
theorem dX7_flowOf_41 : decode cX7_flowOf 41 = .ok (.invokevirtual 87, 3) := by decide +kernel
theorem dX7_flowOf_44 : decode cX7_flowOf 44 = .ok (.ifCond .lt 27, 3) := by decide +kernel
theorem dX7_flowOf_47 : decode cX7_flowOf 47 = .ok (.aload_n 0, 1) := by decide +kernel
theorem dX7_flowOf_48 : decode cX7_flowOf 48 = .ok (.iload_n 1, 1) := by decide +kernel
theorem dX7_flowOf_49 : decode cX7_flowOf 49 = .ok (.iload 5, 2) := by decide +kernel
theorem dX7_flowOf_51 : decode cX7_flowOf 51 = .ok (.invokevirtual 87, 3) := by decide +kernel
theorem dX7_flowOf_54 : decode cX7_flowOf 54 = .ok (.aload_n 0, 1) := by decide +kernel
theorem dX7_flowOf_55 : decode cX7_flowOf 55 = .ok (.getfield 9, 3) := by decide +kernel
theorem dX7_flowOf_58 : decode cX7_flowOf 58 = .ok (.iconst 0, 1) := by decide +kernel
theorem dX7_flowOf_59 : decode cX7_flowOf 59 = .ok (.iload 5, 2) := by decide +kernel
theorem dX7_flowOf_61 : decode cX7_flowOf 61 = .ok (.iadd, 1) := by decide +kernel
theorem dX7_flowOf_62 : decode cX7_flowOf 62 = .ok (.iaload, 1) := by decide +kernel
theorem dX7_flowOf_63 : decode cX7_flowOf 63 = .ok (.iadd, 1) := by decide +kernel
theorem dX7_flowOf_64 : decode cX7_flowOf 64 = .ok (.iload_n 3, 1) := by decide +kernel
theorem dX7_flowOf_65 : decode cX7_flowOf 65 = .ok (.if_icmp .ne 6, 3) := by decide +kernel
theorem dX7_flowOf_68 : decode cX7_flowOf 68 = .ok (.iload 4, 2) := by decide +kernel
theorem dX7_flowOf_70 : decode cX7_flowOf 70 = .ok (.ireturn, 1) := by decide +kernel
theorem dX7_flowOf_71 : decode cX7_flowOf 71 = .ok (.iinc 4 1, 3) := by decide +kernel
theorem dX7_flowOf_74 : decode cX7_flowOf 74 = .ok (.goto (-64), 3) := by decide +kernel
theorem dX7_flowOf_77 : decode cX7_flowOf 77 = .ok (.iconst (-1), 1) := by decide +kernel
theorem dX7_flowOf_78 : decode cX7_flowOf 78 = .ok (.ireturn, 1) := by decide +kernel
theorem dX7_hasGoal_0 : decode cX7_hasGoal 0 = .ok (.iconst 0, 1) := by decide +kernel
theorem dX7_hasGoal_1 : decode cX7_hasGoal 1 = .ok (.istore_n 2, 1) := by decide +kernel
theorem dX7_hasGoal_2 : decode cX7_hasGoal 2 = .ok (.iload_n 2, 1) := by decide +kernel
theorem dX7_hasGoal_3 : decode cX7_hasGoal 3 = .ok (.iconst 4, 1) := by decide +kernel
theorem dX7_hasGoal_4 : decode cX7_hasGoal 4 = .ok (.if_icmp .ge 25, 3) := by decide +kernel
theorem dX7_hasGoal_7 : decode cX7_hasGoal 7 = .ok (.aload_n 0, 1) := by decide +kernel
theorem dX7_hasGoal_8 : decode cX7_hasGoal 8 = .ok (.getfield 9, 3) := by decide +kernel
theorem dX7_hasGoal_11 : decode cX7_hasGoal 11 = .ok (.sipush 280, 3) := by decide +kernel
theorem dX7_hasGoal_14 : decode cX7_hasGoal 14 = .ok (.iload_n 2, 1) := by decide +kernel
theorem dX7_hasGoal_15 : decode cX7_hasGoal 15 = .ok (.iadd, 1) := by decide +kernel
theorem dX7_hasGoal_16 : decode cX7_hasGoal 16 = .ok (.iaload, 1) := by decide +kernel
theorem dX7_hasGoal_17 : decode cX7_hasGoal 17 = .ok (.iload_n 1, 1) := by decide +kernel
theorem dX7_hasGoal_18 : decode cX7_hasGoal 18 = .ok (.if_icmp .ne 5, 3) := by decide +kernel
theorem dX7_hasGoal_21 : decode cX7_hasGoal 21 = .ok (.iconst 1, 1) := by decide +kernel
theorem dX7_hasGoal_22 : decode cX7_hasGoal 22 = .ok (.ireturn, 1) := by decide +kernel
theorem dX7_hasGoal_23 : decode cX7_hasGoal 23 = .ok (.iinc 2 1, 3) := by decide +kernel
theorem dX7_hasGoal_26 : decode cX7_hasGoal 26 = .ok (.goto (-24), 3) := by decide +kernel
theorem dX7_hasGoal_29 : decode cX7_hasGoal 29 = .ok (.iconst 0, 1) := by decide +kernel
theorem dX7_hasGoal_30 : decode cX7_hasGoal 30 = .ok (.ireturn, 1) := by decide +kernel
theorem dX7_setCell_0 : decode cX7_setCell 0 = .ok (.aload_n 0, 1) := by decide +kernel
theorem dX7_setCell_1 : decode cX7_setCell 1 = .ok (.iload_n 1, 1) := by decide +kernel
theorem dX7_setCell_2 : decode cX7_setCell 2 = .ok (.iload_n 2, 1) := by decide +kernel
theorem dX7_setCell_3 : decode cX7_setCell 3 = .ok (.invokestatic 62, 3) := by decide +kernel
theorem dX7_setCell_6 : decode cX7_setCell 6 = .ok (.ifCond .ne 7, 3) := by decide +kernel
theorem dX7_setCell_9 : decode cX7_setCell 9 = .ok (.iconst 1, 1) := by decide +kernel
theorem dX7_setCell_10 : decode cX7_setCell 10 = .ok (.goto 18, 3) := by decide +kernel
theorem dX7_setCell_13 : decode cX7_setCell 13 = .ok (.iload_n 3, 1) := by decide +kernel
theorem dX7_setCell_14 : decode cX7_setCell 14 = .ok (.iconst 0, 1) := by decide +kernel
theorem dX7_setCell_15 : decode cX7_setCell 15 = .ok (.bipush 9, 2) := by decide +kernel
theorem dX7_setCell_17 : decode cX7_setCell 17 = .ok (.invokestatic 51, 3) := by decide +kernel
theorem dX7_setCell_20 : decode cX7_setCell 20 = .ok (.ifCond .ne 7, 3) := by decide +kernel
theorem dX7_setCell_23 : decode cX7_setCell 23 = .ok (.iconst 2, 1) := by decide +kernel
theorem dX7_setCell_24 : decode cX7_setCell 24 = .ok (.goto 4, 3) := by decide +kernel
theorem dX7_setCell_27 : decode cX7_setCell 27 = .ok (.iconst 0, 1) := by decide +kernel
theorem dX7_setCell_28 : decode cX7_setCell 28 = .ok (.putfield 47, 3) := by decide +kernel
theorem dX7_setCell_31 : decode cX7_setCell 31 = .ok (.aload_n 0, 1) := by decide +kernel
theorem dX7_setCell_32 : decode cX7_setCell 32 = .ok (.getfield 47, 3) := by decide +kernel
theorem dX7_setCell_35 : decode cX7_setCell 35 = .ok (.ifCond .eq 5, 3) := by decide +kernel
theorem dX7_setCell_38 : decode cX7_setCell 38 = .ok (.iconst 0, 1) := by decide +kernel
theorem dX7_setCell_39 : decode cX7_setCell 39 = .ok (.ireturn, 1) := by decide +kernel
theorem dX7_setCell_40 : decode cX7_setCell 40 = .ok (.iload_n 1, 1) := by decide +kernel
theorem dX7_setCell_41 : decode cX7_setCell 41 = .ok (.iload_n 2, 1) := by decide +kernel
theorem dX7_setCell_42 : decode cX7_setCell 42 = .ok (.invokestatic 66, 3) := by decide +kernel
theorem dX7_setCell_45 : decode cX7_setCell 45 = .ok (.istore 4, 2) := by decide +kernel
theorem dX7_setCell_47 : decode cX7_setCell 47 = .ok (.aload_n 0, 1) := by decide +kernel
theorem dX7_setCell_48 : decode cX7_setCell 48 = .ok (.iload_n 3, 1) := by decide +kernel
theorem dX7_setCell_49 : decode cX7_setCell 49 = .ok (.ifCond .ne 25, 3) := by decide +kernel
theorem dX7_setCell_52 : decode cX7_setCell 52 = .ok (.aload_n 0, 1) := by decide +kernel
theorem dX7_setCell_53 : decode cX7_setCell 53 = .ok (.iload 4, 2) := by decide +kernel
theorem dX7_setCell_55 : decode cX7_setCell 55 = .ok (.invokevirtual 90, 3) := by decide +kernel
theorem dX7_setCell_58 : decode cX7_setCell 58 = .ok (.ifCond .ne 12, 3) := by decide +kernel
theorem dX7_setCell_61 : decode cX7_setCell 61 = .ok (.aload_n 0, 1) := by decide +kernel
theorem dX7_setCell_62 : decode cX7_setCell 62 = .ok (.iload 4, 2) := by decide +kernel
theorem dX7_setCell_64 : decode cX7_setCell 64 = .ok (.invokevirtual 93, 3) := by decide +kernel
theorem dX7_setCell_67 : decode cX7_setCell 67 = .ok (.ifCond .lt 7, 3) := by decide +kernel
theorem dX7_setCell_70 : decode cX7_setCell 70 = .ok (.iconst 3, 1) := by decide +kernel
theorem dX7_setCell_71 : decode cX7_setCell 71 = .ok (.goto 4, 3) := by decide +kernel
theorem dX7_setCell_74 : decode cX7_setCell 74 = .ok (.iconst 0, 1) := by decide +kernel
theorem dX7_setCell_75 : decode cX7_setCell 75 = .ok (.putfield 47, 3) := by decide +kernel
theorem dX7_setCell_78 : decode cX7_setCell 78 = .ok (.aload_n 0, 1) := by decide +kernel
theorem dX7_setCell_79 : decode cX7_setCell 79 = .ok (.getfield 47, 3) := by decide +kernel
theorem dX7_setCell_82 : decode cX7_setCell 82 = .ok (.ifCond .eq 5, 3) := by decide +kernel
theorem dX7_setCell_85 : decode cX7_setCell 85 = .ok (.iconst 0, 1) := by decide +kernel
theorem dX7_setCell_86 : decode cX7_setCell 86 = .ok (.ireturn, 1) := by decide +kernel
theorem dX7_setCell_87 : decode cX7_setCell 87 = .ok (.aload_n 0, 1) := by decide +kernel
theorem dX7_setCell_88 : decode cX7_setCell 88 = .ok (.invokevirtual 96, 3) := by decide +kernel
theorem dX7_setCell_91 : decode cX7_setCell 91 = .ok (.aload_n 0, 1) := by decide +kernel
theorem dX7_setCell_92 : decode cX7_setCell 92 = .ok (.getfield 9, 3) := by decide +kernel
theorem dX7_setCell_95 : decode cX7_setCell 95 = .ok (.iconst 0, 1) := by decide +kernel
theorem dX7_setCell_96 : decode cX7_setCell 96 = .ok (.iload 4, 2) := by decide +kernel
theorem dX7_setCell_98 : decode cX7_setCell 98 = .ok (.iadd, 1) := by decide +kernel
theorem dX7_setCell_99 : decode cX7_setCell 99 = .ok (.iaload, 1) := by decide +kernel
theorem dX7_setCell_100 : decode cX7_setCell 100 = .ok (.istore 5, 2) := by decide +kernel
theorem dX7_setCell_102 : decode cX7_setCell 102 = .ok (.aload_n 0, 1) := by decide +kernel
theorem dX7_setCell_103 : decode cX7_setCell 103 = .ok (.getfield 9, 3) := by decide +kernel
theorem dX7_setCell_106 : decode cX7_setCell 106 = .ok (.iconst 0, 1) := by decide +kernel
theorem dX7_setCell_107 : decode cX7_setCell 107 = .ok (.iload 4, 2) := by decide +kernel
theorem dX7_setCell_109 : decode cX7_setCell 109 = .ok (.iadd, 1) := by decide +kernel
theorem dX7_setCell_110 : decode cX7_setCell 110 = .ok (.iload_n 3, 1) := by decide +kernel
theorem dX7_setCell_111 : decode cX7_setCell 111 = .ok (.iastore, 1) := by decide +kernel
theorem dX7_setCell_112 : decode cX7_setCell 112 = .ok (.aload_n 0, 1) := by decide +kernel
theorem dX7_setCell_113 : decode cX7_setCell 113 = .ok (.invokevirtual 73, 3) := by decide +kernel
theorem dX7_setCell_116 : decode cX7_setCell 116 = .ok (.iload 5, 2) := by decide +kernel
theorem dX7_setCell_118 : decode cX7_setCell 118 = .ok (.ireturn, 1) := by decide +kernel
theorem dX7_cell_0 : decode cX7_cell 0 = .ok (.aload_n 0, 1) := by decide +kernel
theorem dX7_cell_1 : decode cX7_cell 1 = .ok (.iload_n 1, 1) := by decide +kernel
theorem dX7_cell_2 : decode cX7_cell 2 = .ok (.iload_n 2, 1) := by decide +kernel
theorem dX7_cell_3 : decode cX7_cell 3 = .ok (.invokestatic 62, 3) := by decide +kernel
theorem dX7_cell_6 : decode cX7_cell 6 = .ok (.ifCond .ne 7, 3) := by decide +kernel
theorem dX7_cell_9 : decode cX7_cell 9 = .ok (.iconst 1, 1) := by decide +kernel
theorem dX7_cell_10 : decode cX7_cell 10 = .ok (.goto 17, 3) := by decide +kernel
theorem dX7_cell_13 : decode cX7_cell 13 = .ok (.iload_n 3, 1) := by decide +kernel
theorem dX7_cell_14 : decode cX7_cell 14 = .ok (.iconst 0, 1) := by decide +kernel
theorem dX7_cell_15 : decode cX7_cell 15 = .ok (.iconst 3, 1) := by decide +kernel
theorem dX7_cell_16 : decode cX7_cell 16 = .ok (.invokestatic 51, 3) := by decide +kernel
theorem dX7_cell_19 : decode cX7_cell 19 = .ok (.ifCond .eq 7, 3) := by decide +kernel
theorem dX7_cell_22 : decode cX7_cell 22 = .ok (.iconst 0, 1) := by decide +kernel
theorem dX7_cell_23 : decode cX7_cell 23 = .ok (.goto 4, 3) := by decide +kernel
theorem dX7_cell_26 : decode cX7_cell 26 = .ok (.iconst 2, 1) := by decide +kernel
theorem dX7_cell_27 : decode cX7_cell 27 = .ok (.putfield 47, 3) := by decide +kernel
theorem dX7_cell_30 : decode cX7_cell 30 = .ok (.aload_n 0, 1) := by decide +kernel
theorem dX7_cell_31 : decode cX7_cell 31 = .ok (.getfield 47, 3) := by decide +kernel
theorem dX7_cell_34 : decode cX7_cell 34 = .ok (.ifCond .eq 5, 3) := by decide +kernel
theorem dX7_cell_37 : decode cX7_cell 37 = .ok (.iconst 0, 1) := by decide +kernel
theorem dX7_cell_38 : decode cX7_cell 38 = .ok (.ireturn, 1) := by decide +kernel
theorem dX7_cell_39 : decode cX7_cell 39 = .ok (.iload_n 1, 1) := by decide +kernel
theorem dX7_cell_40 : decode cX7_cell 40 = .ok (.iload_n 2, 1) := by decide +kernel
theorem dX7_cell_41 : decode cX7_cell 41 = .ok (.invokestatic 66, 3) := by decide +kernel
theorem dX7_cell_44 : decode cX7_cell 44 = .ok (.istore 4, 2) := by decide +kernel
theorem dX7_cell_46 : decode cX7_cell 46 = .ok (.iload_n 3, 1) := by decide +kernel
theorem dX7_cell_47 : decode cX7_cell 47 = .ok (.iconst 3, 1) := by decide +kernel
theorem dX7_cell_48 : decode cX7_cell 48 = .ok (.if_icmp .ne 47, 3) := by decide +kernel
theorem dX7_cell_51 : decode cX7_cell 51 = .ok (.iconst 0, 1) := by decide +kernel
theorem dX7_cell_52 : decode cX7_cell 52 = .ok (.istore 5, 2) := by decide +kernel
theorem dX7_cell_54 : decode cX7_cell 54 = .ok (.iload 5, 2) := by decide +kernel
theorem dX7_cell_56 : decode cX7_cell 56 = .ok (.iconst 4, 1) := by decide +kernel
theorem dX7_cell_57 : decode cX7_cell 57 = .ok (.if_icmp .ge 25, 3) := by decide +kernel
theorem dX7_cell_60 : decode cX7_cell 60 = .ok (.aload_n 0, 1) := by decide +kernel
theorem dX7_cell_61 : decode cX7_cell 61 = .ok (.getfield 9, 3) := by decide +kernel
theorem dX7_cell_64 : decode cX7_cell 64 = .ok (.sipush 280, 3) := by decide +kernel
theorem dX7_cell_67 : decode cX7_cell 67 = .ok (.iload 5, 2) := by decide +kernel
theorem dX7_cell_69 : decode cX7_cell 69 = .ok (.iadd, 1) := by decide +kernel
theorem dX7_cell_70 : decode cX7_cell 70 = .ok (.iaload, 1) := by decide +kernel
theorem dX7_cell_71 : decode cX7_cell 71 = .ok (.iload 4, 2) := by decide +kernel
theorem dX7_cell_73 : decode cX7_cell 73 = .ok (.if_icmp .eq 9, 3) := by decide +kernel
theorem dX7_cell_76 : decode cX7_cell 76 = .ok (.iinc 5 1, 3) := by decide +kernel
theorem dX7_cell_79 : decode cX7_cell 79 = .ok (.goto (-25), 3) := by decide +kernel
theorem dX7_cell_82 : decode cX7_cell 82 = .ok (.iload 5, 2) := by decide +kernel
theorem dX7_cell_84 : decode cX7_cell 84 = .ok (.iconst 4, 1) := by decide +kernel
theorem dX7_cell_85 : decode cX7_cell 85 = .ok (.if_icmp .ge 8, 3) := by decide +kernel
theorem dX7_cell_88 : decode cX7_cell 88 = .ok (.iload 5, 2) := by decide +kernel
theorem dX7_cell_90 : decode cX7_cell 90 = .ok (.goto 4, 3) := by decide +kernel
theorem dX7_cell_93 : decode cX7_cell 93 = .ok (.iconst (-1), 1) := by decide +kernel
theorem dX7_cell_94 : decode cX7_cell 94 = .ok (.ireturn, 1) := by decide +kernel
theorem dX7_cell_95 : decode cX7_cell 95 = .ok (.iload_n 3, 1) := by decide +kernel
theorem dX7_cell_96 : decode cX7_cell 96 = .ok (.ifCond .ne 15, 3) := by decide +kernel
theorem dX7_cell_99 : decode cX7_cell 99 = .ok (.aload_n 0, 1) := by decide +kernel
theorem dX7_cell_100 : decode cX7_cell 100 = .ok (.getfield 9, 3) := by decide +kernel
theorem dX7_cell_103 : decode cX7_cell 103 = .ok (.iconst 0, 1) := by decide +kernel
theorem dX7_cell_104 : decode cX7_cell 104 = .ok (.iload 4, 2) := by decide +kernel
theorem dX7_cell_106 : decode cX7_cell 106 = .ok (.iadd, 1) := by decide +kernel
theorem dX7_cell_107 : decode cX7_cell 107 = .ok (.iaload, 1) := by decide +kernel
theorem dX7_cell_108 : decode cX7_cell 108 = .ok (.goto 28, 3) := by decide +kernel
theorem dX7_cell_111 : decode cX7_cell 111 = .ok (.iload_n 3, 1) := by decide +kernel
theorem dX7_cell_112 : decode cX7_cell 112 = .ok (.iconst 1, 1) := by decide +kernel
theorem dX7_cell_113 : decode cX7_cell 113 = .ok (.if_icmp .ne 12, 3) := by decide +kernel
theorem dX7_cell_116 : decode cX7_cell 116 = .ok (.aload_n 0, 1) := by decide +kernel
theorem dX7_cell_117 : decode cX7_cell 117 = .ok (.iload 4, 2) := by decide +kernel
theorem dX7_cell_119 : decode cX7_cell 119 = .ok (.invokevirtual 93, 3) := by decide +kernel
theorem dX7_cell_122 : decode cX7_cell 122 = .ok (.goto 14, 3) := by decide +kernel
theorem dX7_cell_125 : decode cX7_cell 125 = .ok (.aload_n 0, 1) := by decide +kernel
theorem dX7_cell_126 : decode cX7_cell 126 = .ok (.getfield 9, 3) := by decide +kernel
theorem dX7_cell_129 : decode cX7_cell 129 = .ok (.sipush 140, 3) := by decide +kernel
theorem dX7_cell_132 : decode cX7_cell 132 = .ok (.iload 4, 2) := by decide +kernel
theorem dX7_cell_134 : decode cX7_cell 134 = .ok (.iadd, 1) := by decide +kernel
theorem dX7_cell_135 : decode cX7_cell 135 = .ok (.iaload, 1) := by decide +kernel
theorem dX7_cell_136 : decode cX7_cell 136 = .ok (.ireturn, 1) := by decide +kernel
theorem dX7_isGoal_0 : decode cX7_isGoal 0 = .ok (.iload_n 0, 1) := by decide +kernel
theorem dX7_isGoal_1 : decode cX7_isGoal 1 = .ok (.iconst 0, 1) := by decide +kernel
theorem dX7_isGoal_2 : decode cX7_isGoal 2 = .ok (.iconst 3, 1) := by decide +kernel
theorem dX7_isGoal_3 : decode cX7_isGoal 3 = .ok (.invokestatic 51, 3) := by decide +kernel
theorem dX7_isGoal_6 : decode cX7_isGoal 6 = .ok (.ireturn, 1) := by decide +kernel
theorem dX7_setGoal_0 : decode cX7_setGoal 0 = .ok (.aload_n 0, 1) := by decide +kernel
theorem dX7_setGoal_1 : decode cX7_setGoal 1 = .ok (.iload_n 1, 1) := by decide +kernel
theorem dX7_setGoal_2 : decode cX7_setGoal 2 = .ok (.invokestatic 99, 3) := by decide +kernel
theorem dX7_setGoal_5 : decode cX7_setGoal 5 = .ok (.ifCond .eq 11, 3) := by decide +kernel
theorem dX7_setGoal_8 : decode cX7_setGoal 8 = .ok (.iload_n 2, 1) := by decide +kernel
theorem dX7_setGoal_9 : decode cX7_setGoal 9 = .ok (.iload_n 3, 1) := by decide +kernel
theorem dX7_setGoal_10 : decode cX7_setGoal 10 = .ok (.invokestatic 62, 3) := by decide +kernel
theorem dX7_setGoal_13 : decode cX7_setGoal 13 = .ok (.ifCond .ne 7, 3) := by decide +kernel
theorem dX7_setGoal_16 : decode cX7_setGoal 16 = .ok (.iconst 1, 1) := by decide +kernel
theorem dX7_setGoal_17 : decode cX7_setGoal 17 = .ok (.goto 20, 3) := by decide +kernel
theorem dX7_setGoal_20 : decode cX7_setGoal 20 = .ok (.aload_n 0, 1) := by decide +kernel
theorem dX7_setGoal_21 : decode cX7_setGoal 21 = .ok (.iload_n 2, 1) := by decide +kernel
theorem dX7_setGoal_22 : decode cX7_setGoal 22 = .ok (.iload_n 3, 1) := by decide +kernel
theorem dX7_setGoal_23 : decode cX7_setGoal 23 = .ok (.invokestatic 66, 3) := by decide +kernel
theorem dX7_setGoal_26 : decode cX7_setGoal 26 = .ok (.invokevirtual 79, 3) := by decide +kernel
theorem dX7_setGoal_29 : decode cX7_setGoal 29 = .ok (.ifCond .eq 7, 3) := by decide +kernel
theorem dX7_setGoal_32 : decode cX7_setGoal 32 = .ok (.iconst 0, 1) := by decide +kernel
theorem dX7_setGoal_33 : decode cX7_setGoal 33 = .ok (.goto 4, 3) := by decide +kernel
theorem dX7_setGoal_36 : decode cX7_setGoal 36 = .ok (.iconst 2, 1) := by decide +kernel
theorem dX7_setGoal_37 : decode cX7_setGoal 37 = .ok (.putfield 47, 3) := by decide +kernel
theorem dX7_setGoal_40 : decode cX7_setGoal 40 = .ok (.aload_n 0, 1) := by decide +kernel
theorem dX7_setGoal_41 : decode cX7_setGoal 41 = .ok (.getfield 47, 3) := by decide +kernel
theorem dX7_setGoal_44 : decode cX7_setGoal 44 = .ok (.ifCond .eq 5, 3) := by decide +kernel
theorem dX7_setGoal_47 : decode cX7_setGoal 47 = .ok (.iconst 0, 1) := by decide +kernel
theorem dX7_setGoal_48 : decode cX7_setGoal 48 = .ok (.ireturn, 1) := by decide +kernel
theorem dX7_setGoal_49 : decode cX7_setGoal 49 = .ok (.aload_n 0, 1) := by decide +kernel
theorem dX7_setGoal_50 : decode cX7_setGoal 50 = .ok (.invokevirtual 96, 3) := by decide +kernel
theorem dX7_setGoal_53 : decode cX7_setGoal 53 = .ok (.iload_n 2, 1) := by decide +kernel
theorem dX7_setGoal_54 : decode cX7_setGoal 54 = .ok (.iload_n 3, 1) := by decide +kernel
theorem dX7_setGoal_55 : decode cX7_setGoal 55 = .ok (.invokestatic 66, 3) := by decide +kernel
theorem dX7_setGoal_58 : decode cX7_setGoal 58 = .ok (.istore 4, 2) := by decide +kernel
theorem dX7_setGoal_60 : decode cX7_setGoal 60 = .ok (.aload_n 0, 1) := by decide +kernel
theorem dX7_setGoal_61 : decode cX7_setGoal 61 = .ok (.getfield 9, 3) := by decide +kernel
theorem dX7_setGoal_64 : decode cX7_setGoal 64 = .ok (.sipush 280, 3) := by decide +kernel
theorem dX7_setGoal_67 : decode cX7_setGoal 67 = .ok (.iload_n 1, 1) := by decide +kernel
theorem dX7_setGoal_68 : decode cX7_setGoal 68 = .ok (.iadd, 1) := by decide +kernel
theorem dX7_setGoal_69 : decode cX7_setGoal 69 = .ok (.iload 4, 2) := by decide +kernel
theorem dX7_setGoal_71 : decode cX7_setGoal 71 = .ok (.iastore, 1) := by decide +kernel
theorem dX7_setGoal_72 : decode cX7_setGoal 72 = .ok (.iconst 0, 1) := by decide +kernel
theorem dX7_setGoal_73 : decode cX7_setGoal 73 = .ok (.istore 5, 2) := by decide +kernel
theorem dX7_setGoal_75 : decode cX7_setGoal 75 = .ok (.iconst 0, 1) := by decide +kernel
theorem dX7_setGoal_76 : decode cX7_setGoal 76 = .ok (.istore 6, 2) := by decide +kernel
theorem dX7_setGoal_78 : decode cX7_setGoal 78 = .ok (.iload 6, 2) := by decide +kernel
theorem dX7_setGoal_80 : decode cX7_setGoal 80 = .ok (.sipush 140, 3) := by decide +kernel
theorem dX7_setGoal_83 : decode cX7_setGoal 83 = .ok (.if_icmp .ge 30, 3) := by decide +kernel
theorem dX7_setGoal_86 : decode cX7_setGoal 86 = .ok (.iload 5, 2) := by decide +kernel
theorem dX7_setGoal_88 : decode cX7_setGoal 88 = .ok (.aload_n 0, 1) := by decide +kernel
theorem dX7_setGoal_89 : decode cX7_setGoal 89 = .ok (.iload 4, 2) := by decide +kernel
theorem dX7_setGoal_91 : decode cX7_setGoal 91 = .ok (.iload 6, 2) := by decide +kernel
theorem dX7_setGoal_93 : decode cX7_setGoal 93 = .ok (.invokevirtual 87, 3) := by decide +kernel
theorem dX7_setGoal_96 : decode cX7_setGoal 96 = .ok (.ifCond .lt 7, 3) := by decide +kernel
theorem dX7_setGoal_99 : decode cX7_setGoal 99 = .ok (.iconst 1, 1) := by decide +kernel
theorem dX7_setGoal_100 : decode cX7_setGoal 100 = .ok (.goto 4, 3) := by decide +kernel
theorem dX7_setGoal_103 : decode cX7_setGoal 103 = .ok (.iconst 0, 1) := by decide +kernel
theorem dX7_setGoal_104 : decode cX7_setGoal 104 = .ok (.iadd, 1) := by decide +kernel
theorem dX7_setGoal_105 : decode cX7_setGoal 105 = .ok (.istore 5, 2) := by decide +kernel
theorem dX7_setGoal_107 : decode cX7_setGoal 107 = .ok (.iinc 6 1, 3) := by decide +kernel
theorem dX7_setGoal_110 : decode cX7_setGoal 110 = .ok (.goto (-32), 3) := by decide +kernel
theorem dX7_setGoal_113 : decode cX7_setGoal 113 = .ok (.iload 5, 2) := by decide +kernel
theorem dX7_setGoal_115 : decode cX7_setGoal 115 = .ok (.ireturn, 1) := by decide +kernel
theorem dX7_dropGoal_0 : decode cX7_dropGoal 0 = .ok (.aload_n 0, 1) := by decide +kernel
theorem dX7_dropGoal_1 : decode cX7_dropGoal 1 = .ok (.iload_n 1, 1) := by decide +kernel
theorem dX7_dropGoal_2 : decode cX7_dropGoal 2 = .ok (.invokestatic 99, 3) := by decide +kernel
theorem dX7_dropGoal_5 : decode cX7_dropGoal 5 = .ok (.ifCond .ne 7, 3) := by decide +kernel
theorem dX7_dropGoal_8 : decode cX7_dropGoal 8 = .ok (.iconst 1, 1) := by decide +kernel
theorem dX7_dropGoal_9 : decode cX7_dropGoal 9 = .ok (.goto 21, 3) := by decide +kernel
theorem dX7_dropGoal_12 : decode cX7_dropGoal 12 = .ok (.aload_n 0, 1) := by decide +kernel
theorem dX7_dropGoal_13 : decode cX7_dropGoal 13 = .ok (.getfield 9, 3) := by decide +kernel
theorem dX7_dropGoal_16 : decode cX7_dropGoal 16 = .ok (.sipush 280, 3) := by decide +kernel
theorem dX7_dropGoal_19 : decode cX7_dropGoal 19 = .ok (.iload_n 1, 1) := by decide +kernel
theorem dX7_dropGoal_20 : decode cX7_dropGoal 20 = .ok (.iadd, 1) := by decide +kernel
theorem dX7_dropGoal_21 : decode cX7_dropGoal 21 = .ok (.iaload, 1) := by decide +kernel
theorem dX7_dropGoal_22 : decode cX7_dropGoal 22 = .ok (.ifCond .ge 7, 3) := by decide +kernel
theorem dX7_dropGoal_25 : decode cX7_dropGoal 25 = .ok (.iconst 2, 1) := by decide +kernel
theorem dX7_dropGoal_26 : decode cX7_dropGoal 26 = .ok (.goto 4, 3) := by decide +kernel
theorem dX7_dropGoal_29 : decode cX7_dropGoal 29 = .ok (.iconst 0, 1) := by decide +kernel
theorem dX7_dropGoal_30 : decode cX7_dropGoal 30 = .ok (.putfield 47, 3) := by decide +kernel
theorem dX7_dropGoal_33 : decode cX7_dropGoal 33 = .ok (.aload_n 0, 1) := by decide +kernel
theorem dX7_dropGoal_34 : decode cX7_dropGoal 34 = .ok (.getfield 47, 3) := by decide +kernel
theorem dX7_dropGoal_37 : decode cX7_dropGoal 37 = .ok (.ifCond .eq 5, 3) := by decide +kernel
theorem dX7_dropGoal_40 : decode cX7_dropGoal 40 = .ok (.iconst 0, 1) := by decide +kernel
theorem dX7_dropGoal_41 : decode cX7_dropGoal 41 = .ok (.ireturn, 1) := by decide +kernel
theorem dX7_dropGoal_42 : decode cX7_dropGoal 42 = .ok (.aload_n 0, 1) := by decide +kernel
theorem dX7_dropGoal_43 : decode cX7_dropGoal 43 = .ok (.invokevirtual 96, 3) := by decide +kernel
theorem dX7_dropGoal_46 : decode cX7_dropGoal 46 = .ok (.aload_n 0, 1) := by decide +kernel
theorem dX7_dropGoal_47 : decode cX7_dropGoal 47 = .ok (.getfield 9, 3) := by decide +kernel
theorem dX7_dropGoal_50 : decode cX7_dropGoal 50 = .ok (.sipush 280, 3) := by decide +kernel
theorem dX7_dropGoal_53 : decode cX7_dropGoal 53 = .ok (.iload_n 1, 1) := by decide +kernel
theorem dX7_dropGoal_54 : decode cX7_dropGoal 54 = .ok (.iadd, 1) := by decide +kernel
theorem dX7_dropGoal_55 : decode cX7_dropGoal 55 = .ok (.iconst (-1), 1) := by decide +kernel
theorem dX7_dropGoal_56 : decode cX7_dropGoal 56 = .ok (.iastore, 1) := by decide +kernel
theorem dX7_dropGoal_57 : decode cX7_dropGoal 57 = .ok (.iconst 0, 1) := by decide +kernel
theorem dX7_dropGoal_58 : decode cX7_dropGoal 58 = .ok (.istore_n 2, 1) := by decide +kernel
theorem dX7_dropGoal_59 : decode cX7_dropGoal 59 = .ok (.iconst 0, 1) := by decide +kernel
theorem dX7_dropGoal_60 : decode cX7_dropGoal 60 = .ok (.istore_n 3, 1) := by decide +kernel
theorem dX7_dropGoal_61 : decode cX7_dropGoal 61 = .ok (.iload_n 3, 1) := by decide +kernel
theorem dX7_dropGoal_62 : decode cX7_dropGoal 62 = .ok (.bipush 16, 2) := by decide +kernel
theorem dX7_dropGoal_64 : decode cX7_dropGoal 64 = .ok (.if_icmp .ge 35, 3) := by decide +kernel
theorem dX7_dropGoal_67 : decode cX7_dropGoal 67 = .ok (.iload_n 2, 1) := by decide +kernel
theorem dX7_dropGoal_68 : decode cX7_dropGoal 68 = .ok (.aload_n 0, 1) := by decide +kernel
theorem dX7_dropGoal_69 : decode cX7_dropGoal 69 = .ok (.iload_n 3, 1) := by decide +kernel
theorem dX7_dropGoal_70 : decode cX7_dropGoal 70 = .ok (.invokevirtual 102, 3) := by decide +kernel
theorem dX7_dropGoal_73 : decode cX7_dropGoal 73 = .ok (.ifCond .eq 17, 3) := by decide +kernel
theorem dX7_dropGoal_76 : decode cX7_dropGoal 76 = .ok (.aload_n 0, 1) := by decide +kernel
theorem dX7_dropGoal_77 : decode cX7_dropGoal 77 = .ok (.iload_n 3, 1) := by decide +kernel
theorem dX7_dropGoal_78 : decode cX7_dropGoal 78 = .ok (.iconst 2, 1) := by decide +kernel
theorem dX7_dropGoal_79 : decode cX7_dropGoal 79 = .ok (.invokevirtual 105, 3) := by decide +kernel
theorem dX7_dropGoal_82 : decode cX7_dropGoal 82 = .ok (.iload_n 1, 1) := by decide +kernel
theorem dX7_dropGoal_83 : decode cX7_dropGoal 83 = .ok (.if_icmp .ne 7, 3) := by decide +kernel
theorem dX7_dropGoal_86 : decode cX7_dropGoal 86 = .ok (.iconst 1, 1) := by decide +kernel
theorem dX7_dropGoal_87 : decode cX7_dropGoal 87 = .ok (.goto 4, 3) := by decide +kernel
theorem dX7_dropGoal_90 : decode cX7_dropGoal 90 = .ok (.iconst 0, 1) := by decide +kernel
theorem dX7_dropGoal_91 : decode cX7_dropGoal 91 = .ok (.iadd, 1) := by decide +kernel
theorem dX7_dropGoal_92 : decode cX7_dropGoal 92 = .ok (.istore_n 2, 1) := by decide +kernel
theorem dX7_dropGoal_93 : decode cX7_dropGoal 93 = .ok (.iinc 3 1, 3) := by decide +kernel
theorem dX7_dropGoal_96 : decode cX7_dropGoal 96 = .ok (.goto (-35), 3) := by decide +kernel
theorem dX7_dropGoal_99 : decode cX7_dropGoal 99 = .ok (.iload_n 2, 1) := by decide +kernel
theorem dX7_dropGoal_100 : decode cX7_dropGoal 100 = .ok (.ireturn, 1) := by decide +kernel
theorem dX7_wrongGoal_0 : decode cX7_wrongGoal 0 = .ok (.iload_n 1, 1) := by decide +kernel
theorem dX7_wrongGoal_1 : decode cX7_wrongGoal 1 = .ok (.invokestatic 99, 3) := by decide +kernel
theorem dX7_wrongGoal_4 : decode cX7_wrongGoal 4 = .ok (.ifCond .eq 11, 3) := by decide +kernel
theorem dX7_wrongGoal_7 : decode cX7_wrongGoal 7 = .ok (.iload_n 2, 1) := by decide +kernel
theorem dX7_wrongGoal_8 : decode cX7_wrongGoal 8 = .ok (.iload_n 3, 1) := by decide +kernel
theorem dX7_wrongGoal_9 : decode cX7_wrongGoal 9 = .ok (.invokestatic 62, 3) := by decide +kernel
theorem dX7_wrongGoal_12 : decode cX7_wrongGoal 12 = .ok (.ifCond .ne 7, 3) := by decide +kernel
theorem dX7_wrongGoal_15 : decode cX7_wrongGoal 15 = .ok (.iconst 1, 1) := by decide +kernel
theorem dX7_wrongGoal_16 : decode cX7_wrongGoal 16 = .ok (.goto 21, 3) := by decide +kernel
theorem dX7_wrongGoal_19 : decode cX7_wrongGoal 19 = .ok (.aload_n 0, 1) := by decide +kernel
theorem dX7_wrongGoal_20 : decode cX7_wrongGoal 20 = .ok (.getfield 9, 3) := by decide +kernel
theorem dX7_wrongGoal_23 : decode cX7_wrongGoal 23 = .ok (.sipush 280, 3) := by decide +kernel
theorem dX7_wrongGoal_26 : decode cX7_wrongGoal 26 = .ok (.iload_n 1, 1) := by decide +kernel
theorem dX7_wrongGoal_27 : decode cX7_wrongGoal 27 = .ok (.iadd, 1) := by decide +kernel
theorem dX7_wrongGoal_28 : decode cX7_wrongGoal 28 = .ok (.iaload, 1) := by decide +kernel
theorem dX7_wrongGoal_29 : decode cX7_wrongGoal 29 = .ok (.ifCond .ge 7, 3) := by decide +kernel
theorem dX7_wrongGoal_32 : decode cX7_wrongGoal 32 = .ok (.iconst 2, 1) := by decide +kernel
theorem dX7_wrongGoal_33 : decode cX7_wrongGoal 33 = .ok (.goto 4, 3) := by decide +kernel
theorem dX7_wrongGoal_36 : decode cX7_wrongGoal 36 = .ok (.iconst 0, 1) := by decide +kernel
theorem dX7_wrongGoal_37 : decode cX7_wrongGoal 37 = .ok (.ireturn, 1) := by decide +kernel
theorem dX7_distance_0 : decode cX7_distance 0 = .ok (.aload_n 0, 1) := by decide +kernel
theorem dX7_distance_1 : decode cX7_distance 1 = .ok (.aload_n 0, 1) := by decide +kernel
theorem dX7_distance_2 : decode cX7_distance 2 = .ok (.iload_n 1, 1) := by decide +kernel
theorem dX7_distance_3 : decode cX7_distance 3 = .ok (.iload_n 2, 1) := by decide +kernel
theorem dX7_distance_4 : decode cX7_distance 4 = .ok (.iload_n 3, 1) := by decide +kernel
theorem dX7_distance_5 : decode cX7_distance 5 = .ok (.invokevirtual 108, 3) := by decide +kernel
theorem dX7_distance_8 : decode cX7_distance 8 = .ok (.putfield 47, 3) := by decide +kernel
theorem dX7_distance_11 : decode cX7_distance 11 = .ok (.aload_n 0, 1) := by decide +kernel
theorem dX7_distance_12 : decode cX7_distance 12 = .ok (.getfield 47, 3) := by decide +kernel
theorem dX7_distance_15 : decode cX7_distance 15 = .ok (.ifCond .ne 25, 3) := by decide +kernel
theorem dX7_distance_18 : decode cX7_distance 18 = .ok (.aload_n 0, 1) := by decide +kernel
theorem dX7_distance_19 : decode cX7_distance 19 = .ok (.aload_n 0, 1) := by decide +kernel
theorem dX7_distance_20 : decode cX7_distance 20 = .ok (.getfield 9, 3) := by decide +kernel
theorem dX7_distance_23 : decode cX7_distance 23 = .ok (.sipush 280, 3) := by decide +kernel
theorem dX7_distance_26 : decode cX7_distance 26 = .ok (.iload_n 1, 1) := by decide +kernel
theorem dX7_distance_27 : decode cX7_distance 27 = .ok (.iadd, 1) := by decide +kernel
theorem dX7_distance_28 : decode cX7_distance 28 = .ok (.iaload, 1) := by decide +kernel
theorem dX7_distance_29 : decode cX7_distance 29 = .ok (.iload_n 2, 1) := by decide +kernel
theorem dX7_distance_30 : decode cX7_distance 30 = .ok (.iload_n 3, 1) := by decide +kernel
theorem dX7_distance_31 : decode cX7_distance 31 = .ok (.invokestatic 66, 3) := by decide +kernel
theorem dX7_distance_34 : decode cX7_distance 34 = .ok (.invokevirtual 87, 3) := by decide +kernel
theorem dX7_distance_37 : decode cX7_distance 37 = .ok (.goto 4, 3) := by decide +kernel
theorem dX7_distance_40 : decode cX7_distance 40 = .ok (.iconst 0, 1) := by decide +kernel
theorem dX7_distance_41 : decode cX7_distance 41 = .ok (.ireturn, 1) := by decide +kernel
theorem dX7_flow_0 : decode cX7_flow 0 = .ok (.aload_n 0, 1) := by decide +kernel
theorem dX7_flow_1 : decode cX7_flow 1 = .ok (.aload_n 0, 1) := by decide +kernel
theorem dX7_flow_2 : decode cX7_flow 2 = .ok (.iload_n 1, 1) := by decide +kernel
theorem dX7_flow_3 : decode cX7_flow 3 = .ok (.iload_n 2, 1) := by decide +kernel
theorem dX7_flow_4 : decode cX7_flow 4 = .ok (.iload_n 3, 1) := by decide +kernel
theorem dX7_flow_5 : decode cX7_flow 5 = .ok (.invokevirtual 108, 3) := by decide +kernel
theorem dX7_flow_8 : decode cX7_flow 8 = .ok (.putfield 47, 3) := by decide +kernel
theorem dX7_flow_11 : decode cX7_flow 11 = .ok (.aload_n 0, 1) := by decide +kernel
theorem dX7_flow_12 : decode cX7_flow 12 = .ok (.getfield 47, 3) := by decide +kernel
theorem dX7_flow_15 : decode cX7_flow 15 = .ok (.ifCond .ne 25, 3) := by decide +kernel
theorem dX7_flow_18 : decode cX7_flow 18 = .ok (.aload_n 0, 1) := by decide +kernel
theorem dX7_flow_19 : decode cX7_flow 19 = .ok (.aload_n 0, 1) := by decide +kernel
theorem dX7_flow_20 : decode cX7_flow 20 = .ok (.getfield 9, 3) := by decide +kernel
theorem dX7_flow_23 : decode cX7_flow 23 = .ok (.sipush 280, 3) := by decide +kernel
theorem dX7_flow_26 : decode cX7_flow 26 = .ok (.iload_n 1, 1) := by decide +kernel
theorem dX7_flow_27 : decode cX7_flow 27 = .ok (.iadd, 1) := by decide +kernel
theorem dX7_flow_28 : decode cX7_flow 28 = .ok (.iaload, 1) := by decide +kernel
theorem dX7_flow_29 : decode cX7_flow 29 = .ok (.iload_n 2, 1) := by decide +kernel
theorem dX7_flow_30 : decode cX7_flow 30 = .ok (.iload_n 3, 1) := by decide +kernel
theorem dX7_flow_31 : decode cX7_flow 31 = .ok (.invokestatic 66, 3) := by decide +kernel
theorem dX7_flow_34 : decode cX7_flow 34 = .ok (.invokevirtual 112, 3) := by decide +kernel
theorem dX7_flow_37 : decode cX7_flow 37 = .ok (.goto 4, 3) := by decide +kernel
theorem dX7_flow_40 : decode cX7_flow 40 = .ok (.iconst 0, 1) := by decide +kernel
theorem dX7_flow_41 : decode cX7_flow 41 = .ok (.ireturn, 1) := by decide +kernel
theorem dX7_steps_0 : decode cX7_steps 0 = .ok (.aload_n 0, 1) := by decide +kernel
theorem dX7_steps_1 : decode cX7_steps 1 = .ok (.aload_n 0, 1) := by decide +kernel
theorem dX7_steps_2 : decode cX7_steps 2 = .ok (.iload_n 1, 1) := by decide +kernel
theorem dX7_steps_3 : decode cX7_steps 3 = .ok (.iload_n 2, 1) := by decide +kernel
theorem dX7_steps_4 : decode cX7_steps 4 = .ok (.iload_n 3, 1) := by decide +kernel
theorem dX7_steps_5 : decode cX7_steps 5 = .ok (.invokevirtual 108, 3) := by decide +kernel
theorem dX7_steps_8 : decode cX7_steps 8 = .ok (.putfield 47, 3) := by decide +kernel
theorem dX7_steps_11 : decode cX7_steps 11 = .ok (.aload_n 0, 1) := by decide +kernel
theorem dX7_steps_12 : decode cX7_steps 12 = .ok (.getfield 47, 3) := by decide +kernel
theorem dX7_steps_15 : decode cX7_steps 15 = .ok (.ifCond .eq 5, 3) := by decide +kernel
theorem dX7_steps_18 : decode cX7_steps 18 = .ok (.iconst 0, 1) := by decide +kernel
theorem dX7_steps_19 : decode cX7_steps 19 = .ok (.ireturn, 1) := by decide +kernel
theorem dX7_steps_20 : decode cX7_steps 20 = .ok (.iload_n 2, 1) := by decide +kernel
theorem dX7_steps_21 : decode cX7_steps 21 = .ok (.iload_n 3, 1) := by decide +kernel
theorem dX7_steps_22 : decode cX7_steps 22 = .ok (.invokestatic 66, 3) := by decide +kernel
theorem dX7_steps_25 : decode cX7_steps 25 = .ok (.istore 4, 2) := by decide +kernel
theorem dX7_steps_27 : decode cX7_steps 27 = .ok (.aload_n 0, 1) := by decide +kernel
theorem dX7_steps_28 : decode cX7_steps 28 = .ok (.getfield 9, 3) := by decide +kernel
theorem dX7_steps_31 : decode cX7_steps 31 = .ok (.sipush 280, 3) := by decide +kernel
theorem dX7_steps_34 : decode cX7_steps 34 = .ok (.iload_n 1, 1) := by decide +kernel
theorem dX7_steps_35 : decode cX7_steps 35 = .ok (.iadd, 1) := by decide +kernel
theorem dX7_steps_36 : decode cX7_steps 36 = .ok (.iaload, 1) := by decide +kernel
theorem dX7_steps_37 : decode cX7_steps 37 = .ok (.istore 5, 2) := by decide +kernel
theorem dX7_steps_39 : decode cX7_steps 39 = .ok (.aload_n 0, 1) := by decide +kernel
theorem dX7_steps_40 : decode cX7_steps 40 = .ok (.iload 5, 2) := by decide +kernel
theorem dX7_steps_42 : decode cX7_steps 42 = .ok (.iload 4, 2) := by decide +kernel
theorem dX7_steps_44 : decode cX7_steps 44 = .ok (.invokevirtual 87, 3) := by decide +kernel
theorem dX7_steps_47 : decode cX7_steps 47 = .ok (.ifCond .ge 5, 3) := by decide +kernel
theorem dX7_steps_50 : decode cX7_steps 50 = .ok (.iconst (-1), 1) := by decide +kernel
theorem dX7_steps_51 : decode cX7_steps 51 = .ok (.ireturn, 1) := by decide +kernel
theorem dX7_steps_52 : decode cX7_steps 52 = .ok (.iconst 0, 1) := by decide +kernel
theorem dX7_steps_53 : decode cX7_steps 53 = .ok (.istore 6, 2) := by decide +kernel
theorem dX7_steps_55 : decode cX7_steps 55 = .ok (.iload 4, 2) := by decide +kernel
theorem dX7_steps_57 : decode cX7_steps 57 = .ok (.iload 5, 2) := by decide +kernel
theorem dX7_steps_59 : decode cX7_steps 59 = .ok (.if_icmp .eq 24, 3) := by decide +kernel
theorem dX7_steps_62 : decode cX7_steps 62 = .ok (.iload 4, 2) := by decide +kernel
theorem dX7_steps_64 : decode cX7_steps 64 = .ok (.aload_n 0, 1) := by decide +kernel
theorem dX7_steps_65 : decode cX7_steps 65 = .ok (.iload 5, 2) := by decide +kernel
theorem dX7_steps_67 : decode cX7_steps 67 = .ok (.iload 4, 2) := by decide +kernel
theorem dX7_steps_69 : decode cX7_steps 69 = .ok (.invokevirtual 112, 3) := by decide +kernel
theorem dX7_steps_72 : decode cX7_steps 72 = .ok (.invokestatic 76, 3) := by decide +kernel
theorem dX7_steps_75 : decode cX7_steps 75 = .ok (.istore 4, 2) := by decide +kernel
theorem dX7_steps_77 : decode cX7_steps 77 = .ok (.iinc 6 1, 3) := by decide +kernel
theorem dX7_steps_80 : decode cX7_steps 80 = .ok (.goto (-25), 3) := by decide +kernel
theorem dX7_steps_83 : decode cX7_steps 83 = .ok (.iload 6, 2) := by decide +kernel
theorem dX7_steps_85 : decode cX7_steps 85 = .ok (.ireturn, 1) := by decide +kernel
theorem dX7_setPatience_0 : decode cX7_setPatience 0 = .ok (.aload_n 0, 1) := by decide +kernel
theorem dX7_setPatience_1 : decode cX7_setPatience 1 = .ok (.iload_n 1, 1) := by decide +kernel
theorem dX7_setPatience_2 : decode cX7_setPatience 2 = .ok (.iconst 0, 1) := by decide +kernel
theorem dX7_setPatience_3 : decode cX7_setPatience 3 = .ok (.bipush 9, 2) := by decide +kernel
theorem dX7_setPatience_5 : decode cX7_setPatience 5 = .ok (.invokestatic 51, 3) := by decide +kernel
theorem dX7_setPatience_8 : decode cX7_setPatience 8 = .ok (.ifCond .eq 7, 3) := by decide +kernel
theorem dX7_setPatience_11 : decode cX7_setPatience 11 = .ok (.iconst 0, 1) := by decide +kernel
theorem dX7_setPatience_12 : decode cX7_setPatience 12 = .ok (.goto 4, 3) := by decide +kernel
theorem dX7_setPatience_15 : decode cX7_setPatience 15 = .ok (.iconst 1, 1) := by decide +kernel
theorem dX7_setPatience_16 : decode cX7_setPatience 16 = .ok (.putfield 47, 3) := by decide +kernel
theorem dX7_setPatience_19 : decode cX7_setPatience 19 = .ok (.aload_n 0, 1) := by decide +kernel
theorem dX7_setPatience_20 : decode cX7_setPatience 20 = .ok (.getfield 47, 3) := by decide +kernel
theorem dX7_setPatience_23 : decode cX7_setPatience 23 = .ok (.ifCond .eq 5, 3) := by decide +kernel
theorem dX7_setPatience_26 : decode cX7_setPatience 26 = .ok (.iconst 0, 1) := by decide +kernel
theorem dX7_setPatience_27 : decode cX7_setPatience 27 = .ok (.ireturn, 1) := by decide +kernel
theorem dX7_setPatience_28 : decode cX7_setPatience 28 = .ok (.aload_n 0, 1) := by decide +kernel
theorem dX7_setPatience_29 : decode cX7_setPatience 29 = .ok (.invokevirtual 96, 3) := by decide +kernel
theorem dX7_setPatience_32 : decode cX7_setPatience 32 = .ok (.aload_n 0, 1) := by decide +kernel
theorem dX7_setPatience_33 : decode cX7_setPatience 33 = .ok (.getfield 9, 3) := by decide +kernel
theorem dX7_setPatience_36 : decode cX7_setPatience 36 = .ok (.sipush 284, 3) := by decide +kernel
theorem dX7_setPatience_39 : decode cX7_setPatience 39 = .ok (.iaload, 1) := by decide +kernel
theorem dX7_setPatience_40 : decode cX7_setPatience 40 = .ok (.istore_n 2, 1) := by decide +kernel
theorem dX7_setPatience_41 : decode cX7_setPatience 41 = .ok (.aload_n 0, 1) := by decide +kernel
theorem dX7_setPatience_42 : decode cX7_setPatience 42 = .ok (.getfield 9, 3) := by decide +kernel
theorem dX7_setPatience_45 : decode cX7_setPatience 45 = .ok (.sipush 284, 3) := by decide +kernel
theorem dX7_setPatience_48 : decode cX7_setPatience 48 = .ok (.iload_n 1, 1) := by decide +kernel
theorem dX7_setPatience_49 : decode cX7_setPatience 49 = .ok (.iastore, 1) := by decide +kernel
theorem dX7_setPatience_50 : decode cX7_setPatience 50 = .ok (.iload_n 2, 1) := by decide +kernel
theorem dX7_setPatience_51 : decode cX7_setPatience 51 = .ok (.ireturn, 1) := by decide +kernel
theorem dX7_at_0 : decode cX7_at 0 = .ok (.aload_n 0, 1) := by decide +kernel
theorem dX7_at_1 : decode cX7_at 1 = .ok (.getfield 9, 3) := by decide +kernel
theorem dX7_at_4 : decode cX7_at 4 = .ok (.sipush 290, 3) := by decide +kernel
theorem dX7_at_7 : decode cX7_at 7 = .ok (.bipush 9, 2) := by decide +kernel
theorem dX7_at_9 : decode cX7_at 9 = .ok (.iload_n 1, 1) := by decide +kernel
theorem dX7_at_10 : decode cX7_at 10 = .ok (.imul, 1) := by decide +kernel
theorem dX7_at_11 : decode cX7_at 11 = .ok (.iadd, 1) := by decide +kernel
theorem dX7_at_12 : decode cX7_at 12 = .ok (.iload_n 2, 1) := by decide +kernel
theorem dX7_at_13 : decode cX7_at 13 = .ok (.iadd, 1) := by decide +kernel
theorem dX7_at_14 : decode cX7_at 14 = .ok (.iaload, 1) := by decide +kernel
theorem dX7_at_15 : decode cX7_at 15 = .ok (.ireturn, 1) := by decide +kernel
theorem dX7_put_0 : decode cX7_put 0 = .ok (.aload_n 0, 1) := by decide +kernel
theorem dX7_put_1 : decode cX7_put 1 = .ok (.getfield 9, 3) := by decide +kernel
theorem dX7_put_4 : decode cX7_put 4 = .ok (.sipush 290, 3) := by decide +kernel
theorem dX7_put_7 : decode cX7_put 7 = .ok (.bipush 9, 2) := by decide +kernel
theorem dX7_put_9 : decode cX7_put 9 = .ok (.iload_n 1, 1) := by decide +kernel
theorem dX7_put_10 : decode cX7_put 10 = .ok (.imul, 1) := by decide +kernel
theorem dX7_put_11 : decode cX7_put 11 = .ok (.iadd, 1) := by decide +kernel
theorem dX7_put_12 : decode cX7_put 12 = .ok (.iload_n 2, 1) := by decide +kernel
theorem dX7_put_13 : decode cX7_put 13 = .ok (.iadd, 1) := by decide +kernel
theorem dX7_put_14 : decode cX7_put 14 = .ok (.iload_n 3, 1) := by decide +kernel
theorem dX7_put_15 : decode cX7_put 15 = .ok (.iastore, 1) := by decide +kernel
theorem dX7_put_16 : decode cX7_put 16 = .ok (.return_, 1) := by decide +kernel
theorem dX7_isAgent_0 : decode cX7_isAgent 0 = .ok (.iload_n 1, 1) := by decide +kernel
theorem dX7_isAgent_1 : decode cX7_isAgent 1 = .ok (.iconst 0, 1) := by decide +kernel
theorem dX7_isAgent_2 : decode cX7_isAgent 2 = .ok (.bipush 15, 2) := by decide +kernel
theorem dX7_isAgent_4 : decode cX7_isAgent 4 = .ok (.invokestatic 51, 3) := by decide +kernel
theorem dX7_isAgent_7 : decode cX7_isAgent 7 = .ok (.ifCond .eq 17, 3) := by decide +kernel
theorem dX7_isAgent_10 : decode cX7_isAgent 10 = .ok (.aload_n 0, 1) := by decide +kernel
theorem dX7_isAgent_11 : decode cX7_isAgent 11 = .ok (.iload_n 1, 1) := by decide +kernel
theorem dX7_isAgent_12 : decode cX7_isAgent 12 = .ok (.iconst 0, 1) := by decide +kernel
theorem dX7_isAgent_13 : decode cX7_isAgent 13 = .ok (.invokevirtual 105, 3) := by decide +kernel
theorem dX7_isAgent_16 : decode cX7_isAgent 16 = .ok (.iconst 1, 1) := by decide +kernel
theorem dX7_isAgent_17 : decode cX7_isAgent 17 = .ok (.if_icmp .ne 7, 3) := by decide +kernel
theorem dX7_isAgent_20 : decode cX7_isAgent 20 = .ok (.iconst 1, 1) := by decide +kernel
theorem dX7_isAgent_21 : decode cX7_isAgent 21 = .ok (.goto 4, 3) := by decide +kernel
theorem dX7_isAgent_24 : decode cX7_isAgent 24 = .ok (.iconst 0, 1) := by decide +kernel
theorem dX7_isAgent_25 : decode cX7_isAgent 25 = .ok (.ireturn, 1) := by decide +kernel
theorem dX7_agentOn_0 : decode cX7_agentOn 0 = .ok (.iconst 0, 1) := by decide +kernel
theorem dX7_agentOn_1 : decode cX7_agentOn 1 = .ok (.istore_n 2, 1) := by decide +kernel
theorem dX7_agentOn_2 : decode cX7_agentOn 2 = .ok (.iload_n 2, 1) := by decide +kernel
theorem dX7_agentOn_3 : decode cX7_agentOn 3 = .ok (.bipush 16, 2) := by decide +kernel
theorem dX7_agentOn_5 : decode cX7_agentOn 5 = .ok (.if_icmp .ge 29, 3) := by decide +kernel
theorem dX7_agentOn_8 : decode cX7_agentOn 8 = .ok (.aload_n 0, 1) := by decide +kernel
theorem dX7_agentOn_9 : decode cX7_agentOn 9 = .ok (.iload_n 2, 1) := by decide +kernel
theorem dX7_agentOn_10 : decode cX7_agentOn 10 = .ok (.invokevirtual 102, 3) := by decide +kernel
theorem dX7_agentOn_13 : decode cX7_agentOn 13 = .ok (.ifCond .eq 15, 3) := by decide +kernel
theorem dX7_agentOn_16 : decode cX7_agentOn 16 = .ok (.aload_n 0, 1) := by decide +kernel
theorem dX7_agentOn_17 : decode cX7_agentOn 17 = .ok (.iload_n 2, 1) := by decide +kernel
theorem dX7_agentOn_18 : decode cX7_agentOn 18 = .ok (.iconst 1, 1) := by decide +kernel
theorem dX7_agentOn_19 : decode cX7_agentOn 19 = .ok (.invokevirtual 105, 3) := by decide +kernel
theorem dX7_agentOn_22 : decode cX7_agentOn 22 = .ok (.iload_n 1, 1) := by decide +kernel
theorem dX7_agentOn_23 : decode cX7_agentOn 23 = .ok (.if_icmp .ne 5, 3) := by decide +kernel
theorem dX7_agentOn_26 : decode cX7_agentOn 26 = .ok (.iload_n 2, 1) := by decide +kernel
theorem dX7_agentOn_27 : decode cX7_agentOn 27 = .ok (.ireturn, 1) := by decide +kernel
theorem dX7_agentOn_28 : decode cX7_agentOn 28 = .ok (.iinc 2 1, 3) := by decide +kernel
theorem dX7_agentOn_31 : decode cX7_agentOn 31 = .ok (.goto (-29), 3) := by decide +kernel
theorem dX7_agentOn_34 : decode cX7_agentOn 34 = .ok (.iconst (-1), 1) := by decide +kernel
theorem dX7_agentOn_35 : decode cX7_agentOn 35 = .ok (.ireturn, 1) := by decide +kernel
theorem dX7_many_0 : decode cX7_many 0 = .ok (.iconst 0, 1) := by decide +kernel
theorem dX7_many_1 : decode cX7_many 1 = .ok (.istore_n 1, 1) := by decide +kernel
theorem dX7_many_2 : decode cX7_many 2 = .ok (.iconst 0, 1) := by decide +kernel
theorem dX7_many_3 : decode cX7_many 3 = .ok (.istore_n 2, 1) := by decide +kernel
theorem dX7_many_4 : decode cX7_many 4 = .ok (.iload_n 2, 1) := by decide +kernel
theorem dX7_many_5 : decode cX7_many 5 = .ok (.bipush 16, 2) := by decide +kernel
theorem dX7_many_7 : decode cX7_many 7 = .ok (.if_icmp .ge 25, 3) := by decide +kernel
theorem dX7_many_10 : decode cX7_many 10 = .ok (.iload_n 1, 1) := by decide +kernel
theorem dX7_many_11 : decode cX7_many 11 = .ok (.aload_n 0, 1) := by decide +kernel
theorem dX7_many_12 : decode cX7_many 12 = .ok (.iload_n 2, 1) := by decide +kernel
theorem dX7_many_13 : decode cX7_many 13 = .ok (.invokevirtual 102, 3) := by decide +kernel
theorem dX7_many_16 : decode cX7_many 16 = .ok (.ifCond .eq 7, 3) := by decide +kernel
theorem dX7_many_19 : decode cX7_many 19 = .ok (.iconst 1, 1) := by decide +kernel
theorem dX7_many_20 : decode cX7_many 20 = .ok (.goto 4, 3) := by decide +kernel
theorem dX7_many_23 : decode cX7_many 23 = .ok (.iconst 0, 1) := by decide +kernel
theorem dX7_many_24 : decode cX7_many 24 = .ok (.iadd, 1) := by decide +kernel
theorem dX7_many_25 : decode cX7_many 25 = .ok (.istore_n 1, 1) := by decide +kernel
theorem dX7_many_26 : decode cX7_many 26 = .ok (.iinc 2 1, 3) := by decide +kernel
theorem dX7_many_29 : decode cX7_many 29 = .ok (.goto (-25), 3) := by decide +kernel
theorem dX7_many_32 : decode cX7_many 32 = .ok (.iload_n 1, 1) := by decide +kernel
theorem dX7_many_33 : decode cX7_many 33 = .ok (.ireturn, 1) := by decide +kernel
theorem dX7_add_0 : decode cX7_add 0 = .ok (.aload_n 0, 1) := by decide +kernel
theorem dX7_add_1 : decode cX7_add 1 = .ok (.iload_n 1, 1) := by decide +kernel
theorem dX7_add_2 : decode cX7_add 2 = .ok (.iload_n 2, 1) := by decide +kernel
theorem dX7_add_3 : decode cX7_add 3 = .ok (.invokestatic 62, 3) := by decide +kernel
theorem dX7_add_6 : decode cX7_add 6 = .ok (.ifCond .ne 7, 3) := by decide +kernel
theorem dX7_add_9 : decode cX7_add 9 = .ok (.iconst 1, 1) := by decide +kernel
theorem dX7_add_10 : decode cX7_add 10 = .ok (.goto 28, 3) := by decide +kernel
theorem dX7_add_13 : decode cX7_add 13 = .ok (.iload_n 3, 1) := by decide +kernel
theorem dX7_add_14 : decode cX7_add 14 = .ok (.iconst (-1), 1) := by decide +kernel
theorem dX7_add_15 : decode cX7_add 15 = .ok (.iconst 3, 1) := by decide +kernel
theorem dX7_add_16 : decode cX7_add 16 = .ok (.invokestatic 51, 3) := by decide +kernel
theorem dX7_add_19 : decode cX7_add 19 = .ok (.ifCond .eq 14, 3) := by decide +kernel
theorem dX7_add_22 : decode cX7_add 22 = .ok (.iload 4, 2) := by decide +kernel
theorem dX7_add_24 : decode cX7_add 24 = .ok (.iconst 0, 1) := by decide +kernel
theorem dX7_add_25 : decode cX7_add 25 = .ok (.bipush 9, 2) := by decide +kernel
theorem dX7_add_27 : decode cX7_add 27 = .ok (.invokestatic 51, 3) := by decide +kernel
theorem dX7_add_30 : decode cX7_add 30 = .ok (.ifCond .ne 7, 3) := by decide +kernel
theorem dX7_add_33 : decode cX7_add 33 = .ok (.iconst 2, 1) := by decide +kernel
theorem dX7_add_34 : decode cX7_add 34 = .ok (.goto 4, 3) := by decide +kernel
theorem dX7_add_37 : decode cX7_add 37 = .ok (.iconst 0, 1) := by decide +kernel
theorem dX7_add_38 : decode cX7_add 38 = .ok (.putfield 47, 3) := by decide +kernel
theorem dX7_add_41 : decode cX7_add 41 = .ok (.aload_n 0, 1) := by decide +kernel
theorem dX7_add_42 : decode cX7_add 42 = .ok (.getfield 47, 3) := by decide +kernel
theorem dX7_add_45 : decode cX7_add 45 = .ok (.ifCond .eq 5, 3) := by decide +kernel
theorem dX7_add_48 : decode cX7_add 48 = .ok (.iconst 0, 1) := by decide +kernel
theorem dX7_add_49 : decode cX7_add 49 = .ok (.ireturn, 1) := by decide +kernel
theorem dX7_add_50 : decode cX7_add 50 = .ok (.iload_n 1, 1) := by decide +kernel
theorem dX7_add_51 : decode cX7_add 51 = .ok (.iload_n 2, 1) := by decide +kernel
theorem dX7_add_52 : decode cX7_add 52 = .ok (.invokestatic 66, 3) := by decide +kernel
theorem dX7_add_55 : decode cX7_add 55 = .ok (.istore 5, 2) := by decide +kernel
theorem dX7_add_57 : decode cX7_add 57 = .ok (.aload_n 0, 1) := by decide +kernel
theorem dX7_add_58 : decode cX7_add 58 = .ok (.aload_n 0, 1) := by decide +kernel
theorem dX7_add_59 : decode cX7_add 59 = .ok (.iload 5, 2) := by decide +kernel
theorem dX7_add_61 : decode cX7_add 61 = .ok (.invokevirtual 79, 3) := by decide +kernel
theorem dX7_add_64 : decode cX7_add 64 = .ok (.ifCond .eq 21, 3) := by decide +kernel
theorem dX7_add_67 : decode cX7_add 67 = .ok (.aload_n 0, 1) := by decide +kernel
theorem dX7_add_68 : decode cX7_add 68 = .ok (.iload 5, 2) := by decide +kernel
theorem dX7_add_70 : decode cX7_add 70 = .ok (.invokevirtual 93, 3) := by decide +kernel
theorem dX7_add_73 : decode cX7_add 73 = .ok (.ifCond .ge 12, 3) := by decide +kernel
theorem dX7_add_76 : decode cX7_add 76 = .ok (.aload_n 0, 1) := by decide +kernel
theorem dX7_add_77 : decode cX7_add 77 = .ok (.invokevirtual 115, 3) := by decide +kernel
theorem dX7_add_80 : decode cX7_add 80 = .ok (.bipush 16, 2) := by decide +kernel
theorem dX7_add_82 : decode cX7_add 82 = .ok (.if_icmp .ne 7, 3) := by decide +kernel
theorem dX7_add_85 : decode cX7_add 85 = .ok (.iconst 3, 1) := by decide +kernel
theorem dX7_add_86 : decode cX7_add 86 = .ok (.goto 4, 3) := by decide +kernel
theorem dX7_add_89 : decode cX7_add 89 = .ok (.iconst 0, 1) := by decide +kernel
theorem dX7_add_90 : decode cX7_add 90 = .ok (.putfield 47, 3) := by decide +kernel
theorem dX7_add_93 : decode cX7_add 93 = .ok (.aload_n 0, 1) := by decide +kernel
theorem dX7_add_94 : decode cX7_add 94 = .ok (.getfield 47, 3) := by decide +kernel
theorem dX7_add_97 : decode cX7_add 97 = .ok (.ifCond .eq 5, 3) := by decide +kernel
theorem dX7_add_100 : decode cX7_add 100 = .ok (.iconst 0, 1) := by decide +kernel
theorem dX7_add_101 : decode cX7_add 101 = .ok (.ireturn, 1) := by decide +kernel
theorem dX7_add_102 : decode cX7_add 102 = .ok (.aload_n 0, 1) := by decide +kernel
theorem dX7_add_103 : decode cX7_add 103 = .ok (.invokevirtual 96, 3) := by decide +kernel
theorem dX7_add_106 : decode cX7_add 106 = .ok (.iconst 0, 1) := by decide +kernel
theorem dX7_add_107 : decode cX7_add 107 = .ok (.istore 6, 2) := by decide +kernel
theorem dX7_add_109 : decode cX7_add 109 = .ok (.aload_n 0, 1) := by decide +kernel
theorem dX7_add_110 : decode cX7_add 110 = .ok (.iload 6, 2) := by decide +kernel
theorem dX7_add_112 : decode cX7_add 112 = .ok (.invokevirtual 102, 3) := by decide +kernel
theorem dX7_add_115 : decode cX7_add 115 = .ok (.ifCond .eq 9, 3) := by decide +kernel
theorem dX7_add_118 : decode cX7_add 118 = .ok (.iinc 6 1, 3) := by decide +kernel
theorem dX7_add_121 : decode cX7_add 121 = .ok (.goto (-12), 3) := by decide +kernel
theorem dX7_add_124 : decode cX7_add 124 = .ok (.iconst 0, 1) := by decide +kernel
theorem dX7_add_125 : decode cX7_add 125 = .ok (.istore 7, 2) := by decide +kernel
theorem dX7_add_127 : decode cX7_add 127 = .ok (.iload 7, 2) := by decide +kernel
theorem dX7_add_129 : decode cX7_add 129 = .ok (.bipush 9, 2) := by decide +kernel
theorem dX7_add_131 : decode cX7_add 131 = .ok (.if_icmp .ge 18, 3) := by decide +kernel
theorem dX7_add_134 : decode cX7_add 134 = .ok (.aload_n 0, 1) := by decide +kernel
theorem dX7_add_135 : decode cX7_add 135 = .ok (.iload 6, 2) := by decide +kernel
theorem dX7_add_137 : decode cX7_add 137 = .ok (.iload 7, 2) := by decide +kernel
theorem dX7_add_139 : decode cX7_add 139 = .ok (.iconst 0, 1) := by decide +kernel
theorem dX7_add_140 : decode cX7_add 140 = .ok (.invokevirtual 119, 3) := by decide +kernel
theorem dX7_add_143 : decode cX7_add 143 = .ok (.iinc 7 1, 3) := by decide +kernel
theorem dX7_add_146 : decode cX7_add 146 = .ok (.goto (-19), 3) := by decide +kernel
theorem dX7_add_149 : decode cX7_add 149 = .ok (.aload_n 0, 1) := by decide +kernel
theorem dX7_add_150 : decode cX7_add 150 = .ok (.iload 6, 2) := by decide +kernel
theorem dX7_add_152 : decode cX7_add 152 = .ok (.iconst 0, 1) := by decide +kernel
theorem dX7_add_153 : decode cX7_add 153 = .ok (.iconst 1, 1) := by decide +kernel
theorem dX7_add_154 : decode cX7_add 154 = .ok (.invokevirtual 119, 3) := by decide +kernel
theorem dX7_add_157 : decode cX7_add 157 = .ok (.aload_n 0, 1) := by decide +kernel
theorem dX7_add_158 : decode cX7_add 158 = .ok (.iload 6, 2) := by decide +kernel
theorem dX7_add_160 : decode cX7_add 160 = .ok (.iconst 1, 1) := by decide +kernel
theorem dX7_add_161 : decode cX7_add 161 = .ok (.iload 5, 2) := by decide +kernel
theorem dX7_add_163 : decode cX7_add 163 = .ok (.invokevirtual 119, 3) := by decide +kernel
theorem dX7_add_166 : decode cX7_add 166 = .ok (.aload_n 0, 1) := by decide +kernel
theorem dX7_add_167 : decode cX7_add 167 = .ok (.iload 6, 2) := by decide +kernel
theorem dX7_add_169 : decode cX7_add 169 = .ok (.iconst 2, 1) := by decide +kernel
theorem dX7_add_170 : decode cX7_add 170 = .ok (.iload_n 3, 1) := by decide +kernel
theorem dX7_add_171 : decode cX7_add 171 = .ok (.invokevirtual 119, 3) := by decide +kernel
theorem dX7_add_174 : decode cX7_add 174 = .ok (.aload_n 0, 1) := by decide +kernel
theorem dX7_add_175 : decode cX7_add 175 = .ok (.iload 6, 2) := by decide +kernel
theorem dX7_add_177 : decode cX7_add 177 = .ok (.iconst 3, 1) := by decide +kernel
theorem dX7_add_178 : decode cX7_add 178 = .ok (.iload 4, 2) := by decide +kernel
theorem dX7_add_180 : decode cX7_add 180 = .ok (.invokevirtual 119, 3) := by decide +kernel
theorem dX7_add_183 : decode cX7_add 183 = .ok (.aload_n 0, 1) := by decide +kernel
theorem dX7_add_184 : decode cX7_add 184 = .ok (.iload 6, 2) := by decide +kernel
theorem dX7_add_186 : decode cX7_add 186 = .ok (.bipush 6, 2) := by decide +kernel
theorem dX7_add_188 : decode cX7_add 188 = .ok (.iconst (-1), 1) := by decide +kernel
theorem dX7_add_189 : decode cX7_add 189 = .ok (.invokevirtual 119, 3) := by decide +kernel
theorem dX7_add_192 : decode cX7_add 192 = .ok (.iload 6, 2) := by decide +kernel
theorem dX7_add_194 : decode cX7_add 194 = .ok (.ireturn, 1) := by decide +kernel
theorem dX7_members_0 : decode cX7_members 0 = .ok (.iconst 0, 1) := by decide +kernel
theorem dX7_members_1 : decode cX7_members 1 = .ok (.istore_n 2, 1) := by decide +kernel
theorem dX7_members_2 : decode cX7_members 2 = .ok (.iconst 0, 1) := by decide +kernel
theorem dX7_members_3 : decode cX7_members 3 = .ok (.istore_n 3, 1) := by decide +kernel
theorem dX7_members_4 : decode cX7_members 4 = .ok (.iload_n 3, 1) := by decide +kernel
theorem dX7_members_5 : decode cX7_members 5 = .ok (.bipush 16, 2) := by decide +kernel
theorem dX7_members_7 : decode cX7_members 7 = .ok (.if_icmp .ge 36, 3) := by decide +kernel
theorem dX7_members_10 : decode cX7_members 10 = .ok (.iload_n 2, 1) := by decide +kernel
theorem dX7_members_11 : decode cX7_members 11 = .ok (.aload_n 0, 1) := by decide +kernel
theorem dX7_members_12 : decode cX7_members 12 = .ok (.iload_n 3, 1) := by decide +kernel
theorem dX7_members_13 : decode cX7_members 13 = .ok (.invokevirtual 102, 3) := by decide +kernel
theorem dX7_members_16 : decode cX7_members 16 = .ok (.ifCond .eq 18, 3) := by decide +kernel
theorem dX7_members_19 : decode cX7_members 19 = .ok (.aload_n 0, 1) := by decide +kernel
theorem dX7_members_20 : decode cX7_members 20 = .ok (.iload_n 3, 1) := by decide +kernel
theorem dX7_members_21 : decode cX7_members 21 = .ok (.bipush 6, 2) := by decide +kernel
theorem dX7_members_23 : decode cX7_members 23 = .ok (.invokevirtual 105, 3) := by decide +kernel
theorem dX7_members_26 : decode cX7_members 26 = .ok (.iload_n 1, 1) := by decide +kernel
theorem dX7_members_27 : decode cX7_members 27 = .ok (.if_icmp .ne 7, 3) := by decide +kernel
theorem dX7_members_30 : decode cX7_members 30 = .ok (.iconst 1, 1) := by decide +kernel
theorem dX7_members_31 : decode cX7_members 31 = .ok (.goto 4, 3) := by decide +kernel
theorem dX7_members_34 : decode cX7_members 34 = .ok (.iconst 0, 1) := by decide +kernel
theorem dX7_members_35 : decode cX7_members 35 = .ok (.iadd, 1) := by decide +kernel
theorem dX7_members_36 : decode cX7_members 36 = .ok (.istore_n 2, 1) := by decide +kernel
theorem dX7_members_37 : decode cX7_members 37 = .ok (.iinc 3 1, 3) := by decide +kernel
theorem dX7_members_40 : decode cX7_members 40 = .ok (.goto (-36), 3) := by decide +kernel
theorem dX7_members_43 : decode cX7_members 43 = .ok (.iload_n 2, 1) := by decide +kernel
theorem dX7_members_44 : decode cX7_members 44 = .ok (.ireturn, 1) := by decide +kernel
theorem dX7_remove_0 : decode cX7_remove 0 = .ok (.aload_n 0, 1) := by decide +kernel
theorem dX7_remove_1 : decode cX7_remove 1 = .ok (.aload_n 0, 1) := by decide +kernel
theorem dX7_remove_2 : decode cX7_remove 2 = .ok (.iload_n 1, 1) := by decide +kernel
theorem dX7_remove_3 : decode cX7_remove 3 = .ok (.invokevirtual 102, 3) := by decide +kernel
theorem dX7_remove_6 : decode cX7_remove 6 = .ok (.ifCond .eq 7, 3) := by decide +kernel
theorem dX7_remove_9 : decode cX7_remove 9 = .ok (.iconst 0, 1) := by decide +kernel
theorem dX7_remove_10 : decode cX7_remove 10 = .ok (.goto 4, 3) := by decide +kernel
theorem dX7_remove_13 : decode cX7_remove 13 = .ok (.iconst 1, 1) := by decide +kernel
theorem dX7_remove_14 : decode cX7_remove 14 = .ok (.putfield 47, 3) := by decide +kernel
theorem dX7_remove_17 : decode cX7_remove 17 = .ok (.aload_n 0, 1) := by decide +kernel
theorem dX7_remove_18 : decode cX7_remove 18 = .ok (.getfield 47, 3) := by decide +kernel
theorem dX7_remove_21 : decode cX7_remove 21 = .ok (.ifCond .eq 5, 3) := by decide +kernel
theorem dX7_remove_24 : decode cX7_remove 24 = .ok (.iconst 0, 1) := by decide +kernel
theorem dX7_remove_25 : decode cX7_remove 25 = .ok (.ireturn, 1) := by decide +kernel
theorem dX7_remove_26 : decode cX7_remove 26 = .ok (.aload_n 0, 1) := by decide +kernel
theorem dX7_remove_27 : decode cX7_remove 27 = .ok (.invokevirtual 96, 3) := by decide +kernel
theorem dX7_remove_30 : decode cX7_remove 30 = .ok (.aload_n 0, 1) := by decide +kernel
theorem dX7_remove_31 : decode cX7_remove 31 = .ok (.iload_n 1, 1) := by decide +kernel
theorem dX7_remove_32 : decode cX7_remove 32 = .ok (.iconst 0, 1) := by decide +kernel
theorem dX7_remove_33 : decode cX7_remove 33 = .ok (.iconst 0, 1) := by decide +kernel
theorem dX7_remove_34 : decode cX7_remove 34 = .ok (.invokevirtual 119, 3) := by decide +kernel
theorem dX7_remove_37 : decode cX7_remove 37 = .ok (.iconst 0, 1) := by decide +kernel
theorem dX7_remove_38 : decode cX7_remove 38 = .ok (.istore_n 2, 1) := by decide +kernel
theorem dX7_remove_39 : decode cX7_remove 39 = .ok (.iload_n 2, 1) := by decide +kernel
theorem dX7_remove_40 : decode cX7_remove 40 = .ok (.bipush 16, 2) := by decide +kernel
theorem dX7_remove_42 : decode cX7_remove 42 = .ok (.if_icmp .ge 36, 3) := by decide +kernel
theorem dX7_remove_45 : decode cX7_remove 45 = .ok (.aload_n 0, 1) := by decide +kernel
theorem dX7_remove_46 : decode cX7_remove 46 = .ok (.iload_n 2, 1) := by decide +kernel
theorem dX7_remove_47 : decode cX7_remove 47 = .ok (.invokevirtual 102, 3) := by decide +kernel
theorem dX7_remove_50 : decode cX7_remove 50 = .ok (.ifCond .eq 22, 3) := by decide +kernel
theorem dX7_remove_53 : decode cX7_remove 53 = .ok (.aload_n 0, 1) := by decide +kernel
theorem dX7_remove_54 : decode cX7_remove 54 = .ok (.iload_n 2, 1) := by decide +kernel
theorem dX7_remove_55 : decode cX7_remove 55 = .ok (.bipush 6, 2) := by decide +kernel
theorem dX7_remove_57 : decode cX7_remove 57 = .ok (.invokevirtual 105, 3) := by decide +kernel
theorem dX7_remove_60 : decode cX7_remove 60 = .ok (.iload_n 1, 1) := by decide +kernel
theorem dX7_remove_61 : decode cX7_remove 61 = .ok (.if_icmp .ne 11, 3) := by decide +kernel
theorem dX7_remove_64 : decode cX7_remove 64 = .ok (.aload_n 0, 1) := by decide +kernel
theorem dX7_remove_65 : decode cX7_remove 65 = .ok (.iload_n 2, 1) := by decide +kernel
theorem dX7_remove_66 : decode cX7_remove 66 = .ok (.bipush 6, 2) := by decide +kernel
theorem dX7_remove_68 : decode cX7_remove 68 = .ok (.iconst (-1), 1) := by decide +kernel
theorem dX7_remove_69 : decode cX7_remove 69 = .ok (.invokevirtual 119, 3) := by decide +kernel
theorem dX7_remove_72 : decode cX7_remove 72 = .ok (.iinc 2 1, 3) := by decide +kernel
theorem dX7_remove_75 : decode cX7_remove 75 = .ok (.goto (-36), 3) := by decide +kernel
theorem dX7_remove_78 : decode cX7_remove 78 = .ok (.aload_n 0, 1) := by decide +kernel
theorem dX7_remove_79 : decode cX7_remove 79 = .ok (.invokevirtual 115, 3) := by decide +kernel
theorem dX7_remove_82 : decode cX7_remove 82 = .ok (.ireturn, 1) := by decide +kernel
theorem dX7_change_0 : decode cX7_change 0 = .ok (.aload_n 0, 1) := by decide +kernel
theorem dX7_change_1 : decode cX7_change 1 = .ok (.aload_n 0, 1) := by decide +kernel
theorem dX7_change_2 : decode cX7_change 2 = .ok (.iload_n 1, 1) := by decide +kernel
theorem dX7_change_3 : decode cX7_change 3 = .ok (.invokevirtual 102, 3) := by decide +kernel
theorem dX7_change_6 : decode cX7_change 6 = .ok (.ifCond .ne 7, 3) := by decide +kernel
theorem dX7_change_9 : decode cX7_change 9 = .ok (.iconst 1, 1) := by decide +kernel
theorem dX7_change_10 : decode cX7_change 10 = .ok (.goto 34, 3) := by decide +kernel
theorem dX7_change_13 : decode cX7_change 13 = .ok (.iload_n 2, 1) := by decide +kernel
theorem dX7_change_14 : decode cX7_change 14 = .ok (.ifCond .eq 15, 3) := by decide +kernel
theorem dX7_change_17 : decode cX7_change 17 = .ok (.iload_n 3, 1) := by decide +kernel
theorem dX7_change_18 : decode cX7_change 18 = .ok (.iconst (-1), 1) := by decide +kernel
theorem dX7_change_19 : decode cX7_change 19 = .ok (.iconst 3, 1) := by decide +kernel
theorem dX7_change_20 : decode cX7_change 20 = .ok (.invokestatic 51, 3) := by decide +kernel
theorem dX7_change_23 : decode cX7_change 23 = .ok (.ifCond .eq 20, 3) := by decide +kernel
theorem dX7_change_26 : decode cX7_change 26 = .ok (.goto 13, 3) := by decide +kernel
theorem dX7_change_29 : decode cX7_change 29 = .ok (.iload_n 3, 1) := by decide +kernel
theorem dX7_change_30 : decode cX7_change 30 = .ok (.iconst 0, 1) := by decide +kernel
theorem dX7_change_31 : decode cX7_change 31 = .ok (.bipush 9, 2) := by decide +kernel
theorem dX7_change_33 : decode cX7_change 33 = .ok (.invokestatic 51, 3) := by decide +kernel
theorem dX7_change_36 : decode cX7_change 36 = .ok (.ifCond .eq 7, 3) := by decide +kernel
theorem dX7_change_39 : decode cX7_change 39 = .ok (.iconst 0, 1) := by decide +kernel
theorem dX7_change_40 : decode cX7_change 40 = .ok (.goto 4, 3) := by decide +kernel
theorem dX7_change_43 : decode cX7_change 43 = .ok (.iconst 2, 1) := by decide +kernel
theorem dX7_change_44 : decode cX7_change 44 = .ok (.putfield 47, 3) := by decide +kernel
theorem dX7_change_47 : decode cX7_change 47 = .ok (.aload_n 0, 1) := by decide +kernel
theorem dX7_change_48 : decode cX7_change 48 = .ok (.getfield 47, 3) := by decide +kernel
theorem dX7_change_51 : decode cX7_change 51 = .ok (.ifCond .eq 5, 3) := by decide +kernel
theorem dX7_change_54 : decode cX7_change 54 = .ok (.iconst 0, 1) := by decide +kernel
theorem dX7_change_55 : decode cX7_change 55 = .ok (.ireturn, 1) := by decide +kernel
theorem dX7_change_56 : decode cX7_change 56 = .ok (.aload_n 0, 1) := by decide +kernel
theorem dX7_change_57 : decode cX7_change 57 = .ok (.invokevirtual 96, 3) := by decide +kernel
theorem dX7_change_60 : decode cX7_change 60 = .ok (.iload_n 2, 1) := by decide +kernel
theorem dX7_change_61 : decode cX7_change 61 = .ok (.ifCond .eq 7, 3) := by decide +kernel
theorem dX7_change_64 : decode cX7_change 64 = .ok (.iconst 2, 1) := by decide +kernel
theorem dX7_change_65 : decode cX7_change 65 = .ok (.goto 4, 3) := by decide +kernel
theorem dX7_change_68 : decode cX7_change 68 = .ok (.iconst 3, 1) := by decide +kernel
theorem dX7_change_69 : decode cX7_change 69 = .ok (.istore 4, 2) := by decide +kernel
theorem dX7_change_71 : decode cX7_change 71 = .ok (.aload_n 0, 1) := by decide +kernel
theorem dX7_change_72 : decode cX7_change 72 = .ok (.iload_n 1, 1) := by decide +kernel
theorem dX7_change_73 : decode cX7_change 73 = .ok (.iload 4, 2) := by decide +kernel
theorem dX7_change_75 : decode cX7_change 75 = .ok (.invokevirtual 105, 3) := by decide +kernel
theorem dX7_change_78 : decode cX7_change 78 = .ok (.istore 5, 2) := by decide +kernel
theorem dX7_change_80 : decode cX7_change 80 = .ok (.aload_n 0, 1) := by decide +kernel
theorem dX7_change_81 : decode cX7_change 81 = .ok (.iload_n 1, 1) := by decide +kernel
theorem dX7_change_82 : decode cX7_change 82 = .ok (.iload 4, 2) := by decide +kernel
theorem dX7_change_84 : decode cX7_change 84 = .ok (.iload_n 3, 1) := by decide +kernel
theorem dX7_change_85 : decode cX7_change 85 = .ok (.invokevirtual 119, 3) := by decide +kernel
theorem dX7_change_88 : decode cX7_change 88 = .ok (.iload 5, 2) := by decide +kernel
theorem dX7_change_90 : decode cX7_change 90 = .ok (.ireturn, 1) := by decide +kernel
theorem dX7_target_0 : decode cX7_target 0 = .ok (.aload_n 0, 1) := by decide +kernel
theorem dX7_target_1 : decode cX7_target 1 = .ok (.iload_n 1, 1) := by decide +kernel
theorem dX7_target_2 : decode cX7_target 2 = .ok (.bipush 6, 2) := by decide +kernel
theorem dX7_target_4 : decode cX7_target 4 = .ok (.invokevirtual 105, 3) := by decide +kernel
theorem dX7_target_7 : decode cX7_target 7 = .ok (.istore_n 2, 1) := by decide +kernel
theorem dX7_target_8 : decode cX7_target 8 = .ok (.iload_n 2, 1) := by decide +kernel
theorem dX7_target_9 : decode cX7_target 9 = .ok (.ifCond .ge 32, 3) := by decide +kernel
theorem dX7_target_12 : decode cX7_target 12 = .ok (.aload_n 0, 1) := by decide +kernel
theorem dX7_target_13 : decode cX7_target 13 = .ok (.iload_n 1, 1) := by decide +kernel
theorem dX7_target_14 : decode cX7_target 14 = .ok (.iconst 2, 1) := by decide +kernel
theorem dX7_target_15 : decode cX7_target 15 = .ok (.invokevirtual 105, 3) := by decide +kernel
theorem dX7_target_18 : decode cX7_target 18 = .ok (.ifCond .ge 7, 3) := by decide +kernel
theorem dX7_target_21 : decode cX7_target 21 = .ok (.iconst (-1), 1) := by decide +kernel
theorem dX7_target_22 : decode cX7_target 22 = .ok (.goto 18, 3) := by decide +kernel
theorem dX7_target_25 : decode cX7_target 25 = .ok (.aload_n 0, 1) := by decide +kernel
theorem dX7_target_26 : decode cX7_target 26 = .ok (.getfield 9, 3) := by decide +kernel
theorem dX7_target_29 : decode cX7_target 29 = .ok (.sipush 280, 3) := by decide +kernel
theorem dX7_target_32 : decode cX7_target 32 = .ok (.aload_n 0, 1) := by decide +kernel
theorem dX7_target_33 : decode cX7_target 33 = .ok (.iload_n 1, 1) := by decide +kernel
theorem dX7_target_34 : decode cX7_target 34 = .ok (.iconst 2, 1) := by decide +kernel
theorem dX7_target_35 : decode cX7_target 35 = .ok (.invokevirtual 105, 3) := by decide +kernel
theorem dX7_target_38 : decode cX7_target 38 = .ok (.iadd, 1) := by decide +kernel
theorem dX7_target_39 : decode cX7_target 39 = .ok (.iaload, 1) := by decide +kernel
theorem dX7_target_40 : decode cX7_target 40 = .ok (.ireturn, 1) := by decide +kernel
theorem dX7_target_41 : decode cX7_target 41 = .ok (.aload_n 0, 1) := by decide +kernel
theorem dX7_target_42 : decode cX7_target 42 = .ok (.iload_n 1, 1) := by decide +kernel
theorem dX7_target_43 : decode cX7_target 43 = .ok (.bipush 7, 2) := by decide +kernel
theorem dX7_target_45 : decode cX7_target 45 = .ok (.invokevirtual 105, 3) := by decide +kernel
theorem dX7_target_48 : decode cX7_target 48 = .ok (.istore_n 3, 1) := by decide +kernel
theorem dX7_target_49 : decode cX7_target 49 = .ok (.aload_n 0, 1) := by decide +kernel
theorem dX7_target_50 : decode cX7_target 50 = .ok (.iload_n 1, 1) := by decide +kernel
theorem dX7_target_51 : decode cX7_target 51 = .ok (.bipush 8, 2) := by decide +kernel
theorem dX7_target_53 : decode cX7_target 53 = .ok (.invokevirtual 105, 3) := by decide +kernel
theorem dX7_target_56 : decode cX7_target 56 = .ok (.istore 4, 2) := by decide +kernel
theorem dX7_target_58 : decode cX7_target 58 = .ok (.aload_n 0, 1) := by decide +kernel
theorem dX7_target_59 : decode cX7_target 59 = .ok (.iload_n 2, 1) := by decide +kernel
theorem dX7_target_60 : decode cX7_target 60 = .ok (.iconst 4, 1) := by decide +kernel
theorem dX7_target_61 : decode cX7_target 61 = .ok (.invokevirtual 105, 3) := by decide +kernel
theorem dX7_target_64 : decode cX7_target 64 = .ok (.istore 5, 2) := by decide +kernel
theorem dX7_target_66 : decode cX7_target 66 = .ok (.iload 5, 2) := by decide +kernel
theorem dX7_target_68 : decode cX7_target 68 = .ok (.ifCond .ne 7, 3) := by decide +kernel
theorem dX7_target_71 : decode cX7_target 71 = .ok (.iload_n 3, 1) := by decide +kernel
theorem dX7_target_72 : decode cX7_target 72 = .ok (.goto 28, 3) := by decide +kernel
theorem dX7_target_75 : decode cX7_target 75 = .ok (.iload 5, 2) := by decide +kernel
theorem dX7_target_77 : decode cX7_target 77 = .ok (.iconst 1, 1) := by decide +kernel
theorem dX7_target_78 : decode cX7_target 78 = .ok (.if_icmp .ne 9, 3) := by decide +kernel
theorem dX7_target_81 : decode cX7_target 81 = .ok (.iload 4, 2) := by decide +kernel
theorem dX7_target_83 : decode cX7_target 83 = .ok (.ineg, 1) := by decide +kernel
theorem dX7_target_84 : decode cX7_target 84 = .ok (.goto 16, 3) := by decide +kernel
theorem dX7_target_87 : decode cX7_target 87 = .ok (.iload 5, 2) := by decide +kernel
theorem dX7_target_89 : decode cX7_target 89 = .ok (.iconst 2, 1) := by decide +kernel
theorem dX7_target_90 : decode cX7_target 90 = .ok (.if_icmp .ne 8, 3) := by decide +kernel
theorem dX7_target_93 : decode cX7_target 93 = .ok (.iload_n 3, 1) := by decide +kernel
theorem dX7_target_94 : decode cX7_target 94 = .ok (.ineg, 1) := by decide +kernel
theorem dX7_target_95 : decode cX7_target 95 = .ok (.goto 5, 3) := by decide +kernel
theorem dX7_target_98 : decode cX7_target 98 = .ok (.iload 4, 2) := by decide +kernel
theorem dX7_target_100 : decode cX7_target 100 = .ok (.istore 6, 2) := by decide +kernel
theorem dX7_target_102 : decode cX7_target 102 = .ok (.iload 5, 2) := by decide +kernel
theorem dX7_target_104 : decode cX7_target 104 = .ok (.ifCond .ne 8, 3) := by decide +kernel
theorem dX7_target_107 : decode cX7_target 107 = .ok (.iload 4, 2) := by decide +kernel
theorem dX7_target_109 : decode cX7_target 109 = .ok (.goto 27, 3) := by decide +kernel
theorem dX7_target_112 : decode cX7_target 112 = .ok (.iload 5, 2) := by decide +kernel
theorem dX7_target_114 : decode cX7_target 114 = .ok (.iconst 1, 1) := by decide +kernel
theorem dX7_target_115 : decode cX7_target 115 = .ok (.if_icmp .ne 7, 3) := by decide +kernel
theorem dX7_target_118 : decode cX7_target 118 = .ok (.iload_n 3, 1) := by decide +kernel
theorem dX7_target_119 : decode cX7_target 119 = .ok (.goto 17, 3) := by decide +kernel
theorem dX7_target_122 : decode cX7_target 122 = .ok (.iload 5, 2) := by decide +kernel
theorem dX7_target_124 : decode cX7_target 124 = .ok (.iconst 2, 1) := by decide +kernel
theorem dX7_target_125 : decode cX7_target 125 = .ok (.if_icmp .ne 9, 3) := by decide +kernel
theorem dX7_target_128 : decode cX7_target 128 = .ok (.iload 4, 2) := by decide +kernel
theorem dX7_target_130 : decode cX7_target 130 = .ok (.ineg, 1) := by decide +kernel
theorem dX7_target_131 : decode cX7_target 131 = .ok (.goto 5, 3) := by decide +kernel
theorem dX7_target_134 : decode cX7_target 134 = .ok (.iload_n 3, 1) := by decide +kernel
theorem dX7_target_135 : decode cX7_target 135 = .ok (.ineg, 1) := by decide +kernel
theorem dX7_target_136 : decode cX7_target 136 = .ok (.istore 7, 2) := by decide +kernel
theorem dX7_target_138 : decode cX7_target 138 = .ok (.aload_n 0, 1) := by decide +kernel
theorem dX7_target_139 : decode cX7_target 139 = .ok (.iload_n 2, 1) := by decide +kernel
theorem dX7_target_140 : decode cX7_target 140 = .ok (.iconst 1, 1) := by decide +kernel
theorem dX7_target_141 : decode cX7_target 141 = .ok (.invokevirtual 105, 3) := by decide +kernel
theorem dX7_target_144 : decode cX7_target 144 = .ok (.istore 8, 2) := by decide +kernel
theorem dX7_target_146 : decode cX7_target 146 = .ok (.iload 8, 2) := by decide +kernel
theorem dX7_target_148 : decode cX7_target 148 = .ok (.invokestatic 55, 3) := by decide +kernel
theorem dX7_target_151 : decode cX7_target 151 = .ok (.iload 6, 2) := by decide +kernel
theorem dX7_target_153 : decode cX7_target 153 = .ok (.iadd, 1) := by decide +kernel
theorem dX7_target_154 : decode cX7_target 154 = .ok (.istore 9, 2) := by decide +kernel
theorem dX7_target_156 : decode cX7_target 156 = .ok (.iload 8, 2) := by decide +kernel
theorem dX7_target_158 : decode cX7_target 158 = .ok (.invokestatic 59, 3) := by decide +kernel
theorem dX7_target_161 : decode cX7_target 161 = .ok (.iload 7, 2) := by decide +kernel
theorem dX7_target_163 : decode cX7_target 163 = .ok (.iadd, 1) := by decide +kernel
theorem dX7_target_164 : decode cX7_target 164 = .ok (.istore 10, 2) := by decide +kernel
theorem dX7_target_166 : decode cX7_target 166 = .ok (.iload 9, 2) := by decide +kernel
theorem dX7_target_168 : decode cX7_target 168 = .ok (.iload 10, 2) := by decide +kernel
theorem dX7_target_170 : decode cX7_target 170 = .ok (.invokestatic 62, 3) := by decide +kernel
theorem dX7_target_173 : decode cX7_target 173 = .ok (.ifCond .eq 27, 3) := by decide +kernel
theorem dX7_target_176 : decode cX7_target 176 = .ok (.aload_n 0, 1) := by decide +kernel
theorem dX7_target_177 : decode cX7_target 177 = .ok (.iload 9, 2) := by decide +kernel
theorem dX7_target_179 : decode cX7_target 179 = .ok (.iload 10, 2) := by decide +kernel
theorem dX7_target_181 : decode cX7_target 181 = .ok (.invokestatic 66, 3) := by decide +kernel
theorem dX7_target_184 : decode cX7_target 184 = .ok (.invokevirtual 79, 3) := by decide +kernel
theorem dX7_target_187 : decode cX7_target 187 = .ok (.ifCond .eq 13, 3) := by decide +kernel
theorem dX7_target_190 : decode cX7_target 190 = .ok (.iload 9, 2) := by decide +kernel
theorem dX7_target_192 : decode cX7_target 192 = .ok (.iload 10, 2) := by decide +kernel
theorem dX7_target_194 : decode cX7_target 194 = .ok (.invokestatic 66, 3) := by decide +kernel
theorem dX7_target_197 : decode cX7_target 197 = .ok (.goto 5, 3) := by decide +kernel
theorem dX7_target_200 : decode cX7_target 200 = .ok (.iload 8, 2) := by decide +kernel
theorem dX7_target_202 : decode cX7_target 202 = .ok (.ireturn, 1) := by decide +kernel
theorem dX7_isSettled_0 : decode cX7_isSettled 0 = .ok (.aload_n 0, 1) := by decide +kernel
theorem dX7_isSettled_1 : decode cX7_isSettled 1 = .ok (.iload_n 1, 1) := by decide +kernel
theorem dX7_isSettled_2 : decode cX7_isSettled 2 = .ok (.invokevirtual 123, 3) := by decide +kernel
theorem dX7_isSettled_5 : decode cX7_isSettled 5 = .ok (.istore_n 2, 1) := by decide +kernel
theorem dX7_isSettled_6 : decode cX7_isSettled 6 = .ok (.iload_n 2, 1) := by decide +kernel
theorem dX7_isSettled_7 : decode cX7_isSettled 7 = .ok (.ifCond .lt 13, 3) := by decide +kernel
theorem dX7_isSettled_10 : decode cX7_isSettled 10 = .ok (.iload_n 2, 1) := by decide +kernel
theorem dX7_isSettled_11 : decode cX7_isSettled 11 = .ok (.aload_n 0, 1) := by decide +kernel
theorem dX7_isSettled_12 : decode cX7_isSettled 12 = .ok (.iload_n 1, 1) := by decide +kernel
theorem dX7_isSettled_13 : decode cX7_isSettled 13 = .ok (.iconst 1, 1) := by decide +kernel
theorem dX7_isSettled_14 : decode cX7_isSettled 14 = .ok (.invokevirtual 105, 3) := by decide +kernel
theorem dX7_isSettled_17 : decode cX7_isSettled 17 = .ok (.if_icmp .ne 7, 3) := by decide +kernel
theorem dX7_isSettled_20 : decode cX7_isSettled 20 = .ok (.iconst 1, 1) := by decide +kernel
theorem dX7_isSettled_21 : decode cX7_isSettled 21 = .ok (.goto 4, 3) := by decide +kernel
theorem dX7_isSettled_24 : decode cX7_isSettled 24 = .ok (.iconst 0, 1) := by decide +kernel
theorem dX7_isSettled_25 : decode cX7_isSettled 25 = .ok (.ireturn, 1) := by decide +kernel
theorem dX7_farFor_0 : decode cX7_farFor 0 = .ok (.aload_n 0, 1) := by decide +kernel
theorem dX7_farFor_1 : decode cX7_farFor 1 = .ok (.iload_n 1, 1) := by decide +kernel
theorem dX7_farFor_2 : decode cX7_farFor 2 = .ok (.invokevirtual 123, 3) := by decide +kernel
theorem dX7_farFor_5 : decode cX7_farFor 5 = .ok (.istore_n 3, 1) := by decide +kernel
theorem dX7_farFor_6 : decode cX7_farFor 6 = .ok (.iload_n 3, 1) := by decide +kernel
theorem dX7_farFor_7 : decode cX7_farFor 7 = .ok (.ifCond .ge 7, 3) := by decide +kernel
theorem dX7_farFor_10 : decode cX7_farFor 10 = .ok (.iconst (-1), 1) := by decide +kernel
theorem dX7_farFor_11 : decode cX7_farFor 11 = .ok (.goto 9, 3) := by decide +kernel
theorem dX7_farFor_14 : decode cX7_farFor 14 = .ok (.aload_n 0, 1) := by decide +kernel
theorem dX7_farFor_15 : decode cX7_farFor 15 = .ok (.iload_n 3, 1) := by decide +kernel
theorem dX7_farFor_16 : decode cX7_farFor 16 = .ok (.iload_n 2, 1) := by decide +kernel
theorem dX7_farFor_17 : decode cX7_farFor 17 = .ok (.invokevirtual 87, 3) := by decide +kernel
theorem dX7_farFor_20 : decode cX7_farFor 20 = .ok (.ireturn, 1) := by decide +kernel
theorem dX7_agent_0 : decode cX7_agent 0 = .ok (.aload_n 0, 1) := by decide +kernel
theorem dX7_agent_1 : decode cX7_agent 1 = .ok (.aload_n 0, 1) := by decide +kernel
theorem dX7_agent_2 : decode cX7_agent 2 = .ok (.iload_n 1, 1) := by decide +kernel
theorem dX7_agent_3 : decode cX7_agent 3 = .ok (.invokevirtual 102, 3) := by decide +kernel
theorem dX7_agent_6 : decode cX7_agent 6 = .ok (.ifCond .ne 7, 3) := by decide +kernel
theorem dX7_agent_9 : decode cX7_agent 9 = .ok (.iconst 1, 1) := by decide +kernel
theorem dX7_agent_10 : decode cX7_agent 10 = .ok (.goto 18, 3) := by decide +kernel
theorem dX7_agent_13 : decode cX7_agent 13 = .ok (.iload_n 2, 1) := by decide +kernel
theorem dX7_agent_14 : decode cX7_agent 14 = .ok (.iconst 0, 1) := by decide +kernel
theorem dX7_agent_15 : decode cX7_agent 15 = .ok (.bipush 10, 2) := by decide +kernel
theorem dX7_agent_17 : decode cX7_agent 17 = .ok (.invokestatic 51, 3) := by decide +kernel
theorem dX7_agent_20 : decode cX7_agent 20 = .ok (.ifCond .eq 7, 3) := by decide +kernel
theorem dX7_agent_23 : decode cX7_agent 23 = .ok (.iconst 0, 1) := by decide +kernel
theorem dX7_agent_24 : decode cX7_agent 24 = .ok (.goto 4, 3) := by decide +kernel
theorem dX7_agent_27 : decode cX7_agent 27 = .ok (.iconst 2, 1) := by decide +kernel
theorem dX7_agent_28 : decode cX7_agent 28 = .ok (.putfield 47, 3) := by decide +kernel
theorem dX7_agent_31 : decode cX7_agent 31 = .ok (.aload_n 0, 1) := by decide +kernel
theorem dX7_agent_32 : decode cX7_agent 32 = .ok (.getfield 47, 3) := by decide +kernel
theorem dX7_agent_35 : decode cX7_agent 35 = .ok (.ifCond .eq 5, 3) := by decide +kernel
theorem dX7_agent_38 : decode cX7_agent 38 = .ok (.iconst 0, 1) := by decide +kernel
theorem dX7_agent_39 : decode cX7_agent 39 = .ok (.ireturn, 1) := by decide +kernel
theorem dX7_agent_40 : decode cX7_agent 40 = .ok (.aload_n 0, 1) := by decide +kernel
theorem dX7_agent_41 : decode cX7_agent 41 = .ok (.iload_n 1, 1) := by decide +kernel
theorem dX7_agent_42 : decode cX7_agent 42 = .ok (.invokevirtual 123, 3) := by decide +kernel
theorem dX7_agent_45 : decode cX7_agent 45 = .ok (.istore_n 3, 1) := by decide +kernel
theorem dX7_agent_46 : decode cX7_agent 46 = .ok (.iload_n 2, 1) := by decide +kernel
theorem dX7_agent_47 : decode cX7_agent 47 = .ok (.tableswitch 129 0 10 #[57, 67, 129, 129, 129, 129, 129, 77, 90, 103, 115], 57) := by decide +kernel
theorem dX7_agent_104 : decode cX7_agent 104 = .ok (.aload_n 0, 1) := by decide +kernel
theorem dX7_agent_105 : decode cX7_agent 105 = .ok (.iload_n 1, 1) := by decide +kernel
theorem dX7_agent_106 : decode cX7_agent 106 = .ok (.iconst 1, 1) := by decide +kernel
theorem dX7_agent_107 : decode cX7_agent 107 = .ok (.invokevirtual 105, 3) := by decide +kernel
theorem dX7_agent_110 : decode cX7_agent 110 = .ok (.invokestatic 55, 3) := by decide +kernel
theorem dX7_agent_113 : decode cX7_agent 113 = .ok (.ireturn, 1) := by decide +kernel
theorem dX7_agent_114 : decode cX7_agent 114 = .ok (.aload_n 0, 1) := by decide +kernel
theorem dX7_agent_115 : decode cX7_agent 115 = .ok (.iload_n 1, 1) := by decide +kernel
theorem dX7_agent_116 : decode cX7_agent 116 = .ok (.iconst 1, 1) := by decide +kernel
theorem dX7_agent_117 : decode cX7_agent 117 = .ok (.invokevirtual 105, 3) := by decide +kernel
theorem dX7_agent_120 : decode cX7_agent 120 = .ok (.invokestatic 59, 3) := by decide +kernel
theorem dX7_agent_123 : decode cX7_agent 123 = .ok (.ireturn, 1) := by decide +kernel
theorem dX7_agent_124 : decode cX7_agent 124 = .ok (.iload_n 3, 1) := by decide +kernel
theorem dX7_agent_125 : decode cX7_agent 125 = .ok (.ifCond .ge 7, 3) := by decide +kernel
theorem dX7_agent_128 : decode cX7_agent 128 = .ok (.iconst (-1), 1) := by decide +kernel
theorem dX7_agent_129 : decode cX7_agent 129 = .ok (.goto 7, 3) := by decide +kernel
theorem dX7_agent_132 : decode cX7_agent 132 = .ok (.iload_n 3, 1) := by decide +kernel
theorem dX7_agent_133 : decode cX7_agent 133 = .ok (.invokestatic 55, 3) := by decide +kernel
theorem dX7_agent_136 : decode cX7_agent 136 = .ok (.ireturn, 1) := by decide +kernel
theorem dX7_agent_137 : decode cX7_agent 137 = .ok (.iload_n 3, 1) := by decide +kernel
theorem dX7_agent_138 : decode cX7_agent 138 = .ok (.ifCond .ge 7, 3) := by decide +kernel
theorem dX7_agent_141 : decode cX7_agent 141 = .ok (.iconst (-1), 1) := by decide +kernel
theorem dX7_agent_142 : decode cX7_agent 142 = .ok (.goto 7, 3) := by decide +kernel
theorem dX7_agent_145 : decode cX7_agent 145 = .ok (.iload_n 3, 1) := by decide +kernel
theorem dX7_agent_146 : decode cX7_agent 146 = .ok (.invokestatic 59, 3) := by decide +kernel
theorem dX7_agent_149 : decode cX7_agent 149 = .ok (.ireturn, 1) := by decide +kernel
theorem dX7_agent_150 : decode cX7_agent 150 = .ok (.aload_n 0, 1) := by decide +kernel
theorem dX7_agent_151 : decode cX7_agent 151 = .ok (.iload_n 1, 1) := by decide +kernel
theorem dX7_agent_152 : decode cX7_agent 152 = .ok (.aload_n 0, 1) := by decide +kernel
theorem dX7_agent_153 : decode cX7_agent 153 = .ok (.iload_n 1, 1) := by decide +kernel
theorem dX7_agent_154 : decode cX7_agent 154 = .ok (.iconst 1, 1) := by decide +kernel
theorem dX7_agent_155 : decode cX7_agent 155 = .ok (.invokevirtual 105, 3) := by decide +kernel
theorem dX7_agent_158 : decode cX7_agent 158 = .ok (.invokevirtual 126, 3) := by decide +kernel
theorem dX7_agent_161 : decode cX7_agent 161 = .ok (.ireturn, 1) := by decide +kernel
theorem dX7_agent_162 : decode cX7_agent 162 = .ok (.aload_n 0, 1) := by decide +kernel
theorem dX7_agent_163 : decode cX7_agent 163 = .ok (.iload_n 1, 1) := by decide +kernel
theorem dX7_agent_164 : decode cX7_agent 164 = .ok (.invokevirtual 129, 3) := by decide +kernel
theorem dX7_agent_167 : decode cX7_agent 167 = .ok (.ifCond .eq 7, 3) := by decide +kernel
theorem dX7_agent_170 : decode cX7_agent 170 = .ok (.iconst 1, 1) := by decide +kernel
theorem dX7_agent_171 : decode cX7_agent 171 = .ok (.goto 4, 3) := by decide +kernel
theorem dX7_agent_174 : decode cX7_agent 174 = .ok (.iconst 0, 1) := by decide +kernel
theorem dX7_agent_175 : decode cX7_agent 175 = .ok (.ireturn, 1) := by decide +kernel
theorem dX7_agent_176 : decode cX7_agent 176 = .ok (.aload_n 0, 1) := by decide +kernel
theorem dX7_agent_177 : decode cX7_agent 177 = .ok (.iload_n 1, 1) := by decide +kernel
theorem dX7_agent_178 : decode cX7_agent 178 = .ok (.iload_n 2, 1) := by decide +kernel
theorem dX7_agent_179 : decode cX7_agent 179 = .ok (.invokevirtual 105, 3) := by decide +kernel
theorem dX7_agent_182 : decode cX7_agent 182 = .ok (.ireturn, 1) := by decide +kernel
theorem dX7_isStuck_0 : decode cX7_isStuck 0 = .ok (.aload_n 0, 1) := by decide +kernel
theorem dX7_isStuck_1 : decode cX7_isStuck 1 = .ok (.iload_n 1, 1) := by decide +kernel
theorem dX7_isStuck_2 : decode cX7_isStuck 2 = .ok (.invokevirtual 102, 3) := by decide +kernel
theorem dX7_isStuck_5 : decode cX7_isStuck 5 = .ok (.ifCond .eq 17, 3) := by decide +kernel
theorem dX7_isStuck_8 : decode cX7_isStuck 8 = .ok (.aload_n 0, 1) := by decide +kernel
theorem dX7_isStuck_9 : decode cX7_isStuck 9 = .ok (.iload_n 1, 1) := by decide +kernel
theorem dX7_isStuck_10 : decode cX7_isStuck 10 = .ok (.iconst 5, 1) := by decide +kernel
theorem dX7_isStuck_11 : decode cX7_isStuck 11 = .ok (.invokevirtual 105, 3) := by decide +kernel
theorem dX7_isStuck_14 : decode cX7_isStuck 14 = .ok (.iconst 2, 1) := by decide +kernel
theorem dX7_isStuck_15 : decode cX7_isStuck 15 = .ok (.if_icmp .lt 7, 3) := by decide +kernel
theorem dX7_isStuck_18 : decode cX7_isStuck 18 = .ok (.iconst 1, 1) := by decide +kernel
theorem dX7_isStuck_19 : decode cX7_isStuck 19 = .ok (.goto 4, 3) := by decide +kernel
theorem dX7_isStuck_22 : decode cX7_isStuck 22 = .ok (.iconst 0, 1) := by decide +kernel
theorem dX7_isStuck_23 : decode cX7_isStuck 23 = .ok (.ireturn, 1) := by decide +kernel
theorem dX7_agents_0 : decode cX7_agents 0 = .ok (.aload_n 0, 1) := by decide +kernel
theorem dX7_agents_1 : decode cX7_agents 1 = .ok (.iload_n 1, 1) := by decide +kernel
theorem dX7_agents_2 : decode cX7_agents 2 = .ok (.iconst 0, 1) := by decide +kernel
theorem dX7_agents_3 : decode cX7_agents 3 = .ok (.iconst 4, 1) := by decide +kernel
theorem dX7_agents_4 : decode cX7_agents 4 = .ok (.invokestatic 51, 3) := by decide +kernel
theorem dX7_agents_7 : decode cX7_agents 7 = .ok (.ifCond .eq 7, 3) := by decide +kernel
theorem dX7_agents_10 : decode cX7_agents 10 = .ok (.iconst 0, 1) := by decide +kernel
theorem dX7_agents_11 : decode cX7_agents 11 = .ok (.goto 4, 3) := by decide +kernel
theorem dX7_agents_14 : decode cX7_agents 14 = .ok (.iconst 1, 1) := by decide +kernel
theorem dX7_agents_15 : decode cX7_agents 15 = .ok (.putfield 47, 3) := by decide +kernel
theorem dX7_agents_18 : decode cX7_agents 18 = .ok (.iconst 0, 1) := by decide +kernel
theorem dX7_agents_19 : decode cX7_agents 19 = .ok (.istore_n 2, 1) := by decide +kernel
theorem dX7_agents_20 : decode cX7_agents 20 = .ok (.iconst 0, 1) := by decide +kernel
theorem dX7_agents_21 : decode cX7_agents 21 = .ok (.istore_n 3, 1) := by decide +kernel
theorem dX7_agents_22 : decode cX7_agents 22 = .ok (.iload_n 3, 1) := by decide +kernel
theorem dX7_agents_23 : decode cX7_agents 23 = .ok (.bipush 16, 2) := by decide +kernel
theorem dX7_agents_25 : decode cX7_agents 25 = .ok (.if_icmp .ge 104, 3) := by decide +kernel
theorem dX7_agents_28 : decode cX7_agents 28 = .ok (.aload_n 0, 1) := by decide +kernel
theorem dX7_agents_29 : decode cX7_agents 29 = .ok (.getfield 47, 3) := by decide +kernel
theorem dX7_agents_32 : decode cX7_agents 32 = .ok (.ifCond .ne 97, 3) := by decide +kernel
theorem dX7_agents_35 : decode cX7_agents 35 = .ok (.aload_n 0, 1) := by decide +kernel
theorem dX7_agents_36 : decode cX7_agents 36 = .ok (.iload_n 3, 1) := by decide +kernel
theorem dX7_agents_37 : decode cX7_agents 37 = .ok (.invokevirtual 102, 3) := by decide +kernel
theorem dX7_agents_40 : decode cX7_agents 40 = .ok (.ifCond .eq 65, 3) := by decide +kernel
theorem dX7_agents_43 : decode cX7_agents 43 = .ok (.iload_n 1, 1) := by decide +kernel
theorem dX7_agents_44 : decode cX7_agents 44 = .ok (.ifCond .eq 57, 3) := by decide +kernel
theorem dX7_agents_47 : decode cX7_agents 47 = .ok (.iload_n 1, 1) := by decide +kernel
theorem dX7_agents_48 : decode cX7_agents 48 = .ok (.iconst 1, 1) := by decide +kernel
theorem dX7_agents_49 : decode cX7_agents 49 = .ok (.if_icmp .ne 11, 3) := by decide +kernel
theorem dX7_agents_52 : decode cX7_agents 52 = .ok (.aload_n 0, 1) := by decide +kernel
theorem dX7_agents_53 : decode cX7_agents 53 = .ok (.iload_n 3, 1) := by decide +kernel
theorem dX7_agents_54 : decode cX7_agents 54 = .ok (.invokevirtual 129, 3) := by decide +kernel
theorem dX7_agents_57 : decode cX7_agents 57 = .ok (.ifCond .ne 44, 3) := by decide +kernel
theorem dX7_agents_60 : decode cX7_agents 60 = .ok (.iload_n 1, 1) := by decide +kernel
theorem dX7_agents_61 : decode cX7_agents 61 = .ok (.iconst 2, 1) := by decide +kernel
theorem dX7_agents_62 : decode cX7_agents 62 = .ok (.if_icmp .ne 11, 3) := by decide +kernel
theorem dX7_agents_65 : decode cX7_agents 65 = .ok (.aload_n 0, 1) := by decide +kernel
theorem dX7_agents_66 : decode cX7_agents 66 = .ok (.iload_n 3, 1) := by decide +kernel
theorem dX7_agents_67 : decode cX7_agents 67 = .ok (.invokevirtual 132, 3) := by decide +kernel
theorem dX7_agents_70 : decode cX7_agents 70 = .ok (.ifCond .ne 31, 3) := by decide +kernel
theorem dX7_agents_73 : decode cX7_agents 73 = .ok (.iload_n 1, 1) := by decide +kernel
theorem dX7_agents_74 : decode cX7_agents 74 = .ok (.iconst 3, 1) := by decide +kernel
theorem dX7_agents_75 : decode cX7_agents 75 = .ok (.if_icmp .ne 11, 3) := by decide +kernel
theorem dX7_agents_78 : decode cX7_agents 78 = .ok (.aload_n 0, 1) := by decide +kernel
theorem dX7_agents_79 : decode cX7_agents 79 = .ok (.iload_n 3, 1) := by decide +kernel
theorem dX7_agents_80 : decode cX7_agents 80 = .ok (.invokevirtual 135, 3) := by decide +kernel
theorem dX7_agents_83 : decode cX7_agents 83 = .ok (.ifCond .gt 18, 3) := by decide +kernel
theorem dX7_agents_86 : decode cX7_agents 86 = .ok (.iload_n 1, 1) := by decide +kernel
theorem dX7_agents_87 : decode cX7_agents 87 = .ok (.iconst 4, 1) := by decide +kernel
theorem dX7_agents_88 : decode cX7_agents 88 = .ok (.if_icmp .ne 17, 3) := by decide +kernel
theorem dX7_agents_91 : decode cX7_agents 91 = .ok (.aload_n 0, 1) := by decide +kernel
theorem dX7_agents_92 : decode cX7_agents 92 = .ok (.iload_n 3, 1) := by decide +kernel
theorem dX7_agents_93 : decode cX7_agents 93 = .ok (.bipush 6, 2) := by decide +kernel
theorem dX7_agents_95 : decode cX7_agents 95 = .ok (.invokevirtual 105, 3) := by decide +kernel
theorem dX7_agents_98 : decode cX7_agents 98 = .ok (.ifCond .lt 7, 3) := by decide +kernel
theorem dX7_agents_101 : decode cX7_agents 101 = .ok (.iconst 1, 1) := by decide +kernel
theorem dX7_agents_102 : decode cX7_agents 102 = .ok (.goto 4, 3) := by decide +kernel
theorem dX7_agents_105 : decode cX7_agents 105 = .ok (.iconst 0, 1) := by decide +kernel
theorem dX7_agents_106 : decode cX7_agents 106 = .ok (.istore 4, 2) := by decide +kernel
theorem dX7_agents_108 : decode cX7_agents 108 = .ok (.iload_n 2, 1) := by decide +kernel
theorem dX7_agents_109 : decode cX7_agents 109 = .ok (.iload 4, 2) := by decide +kernel
theorem dX7_agents_111 : decode cX7_agents 111 = .ok (.ifCond .eq 9, 3) := by decide +kernel
theorem dX7_agents_114 : decode cX7_agents 114 = .ok (.iconst 1, 1) := by decide +kernel
theorem dX7_agents_115 : decode cX7_agents 115 = .ok (.iload_n 3, 1) := by decide +kernel
theorem dX7_agents_116 : decode cX7_agents 116 = .ok (.ishl, 1) := by decide +kernel
theorem dX7_agents_117 : decode cX7_agents 117 = .ok (.goto 4, 3) := by decide +kernel
theorem dX7_agents_120 : decode cX7_agents 120 = .ok (.iconst 0, 1) := by decide +kernel
theorem dX7_agents_121 : decode cX7_agents 121 = .ok (.ior, 1) := by decide +kernel
theorem dX7_agents_122 : decode cX7_agents 122 = .ok (.istore_n 2, 1) := by decide +kernel
theorem dX7_agents_123 : decode cX7_agents 123 = .ok (.iinc 3 1, 3) := by decide +kernel
theorem dX7_agents_126 : decode cX7_agents 126 = .ok (.goto (-104), 3) := by decide +kernel
theorem dX7_agents_129 : decode cX7_agents 129 = .ok (.iload_n 2, 1) := by decide +kernel
theorem dX7_agents_130 : decode cX7_agents 130 = .ok (.ireturn, 1) := by decide +kernel
theorem dX7_join_0 : decode cX7_join 0 = .ok (.aload_n 0, 1) := by decide +kernel
theorem dX7_join_1 : decode cX7_join 1 = .ok (.aload_n 0, 1) := by decide +kernel
theorem dX7_join_2 : decode cX7_join 2 = .ok (.iload_n 1, 1) := by decide +kernel
theorem dX7_join_3 : decode cX7_join 3 = .ok (.invokevirtual 102, 3) := by decide +kernel
theorem dX7_join_6 : decode cX7_join 6 = .ok (.ifCond .eq 11, 3) := by decide +kernel
theorem dX7_join_9 : decode cX7_join 9 = .ok (.aload_n 0, 1) := by decide +kernel
theorem dX7_join_10 : decode cX7_join 10 = .ok (.iload_n 2, 1) := by decide +kernel
theorem dX7_join_11 : decode cX7_join 11 = .ok (.invokevirtual 102, 3) := by decide +kernel
theorem dX7_join_14 : decode cX7_join 14 = .ok (.ifCond .ne 7, 3) := by decide +kernel
theorem dX7_join_17 : decode cX7_join 17 = .ok (.iconst 1, 1) := by decide +kernel
theorem dX7_join_18 : decode cX7_join 18 = .ok (.goto 65, 3) := by decide +kernel
theorem dX7_join_21 : decode cX7_join 21 = .ok (.iload_n 1, 1) := by decide +kernel
theorem dX7_join_22 : decode cX7_join 22 = .ok (.iload_n 2, 1) := by decide +kernel
theorem dX7_join_23 : decode cX7_join 23 = .ok (.if_icmp .eq 33, 3) := by decide +kernel
theorem dX7_join_26 : decode cX7_join 26 = .ok (.iload_n 3, 1) := by decide +kernel
theorem dX7_join_27 : decode cX7_join 27 = .ok (.bipush (-3), 2) := by decide +kernel
theorem dX7_join_29 : decode cX7_join 29 = .ok (.iconst 3, 1) := by decide +kernel
theorem dX7_join_30 : decode cX7_join 30 = .ok (.invokestatic 51, 3) := by decide +kernel
theorem dX7_join_33 : decode cX7_join 33 = .ok (.ifCond .eq 23, 3) := by decide +kernel
theorem dX7_join_36 : decode cX7_join 36 = .ok (.iload 4, 2) := by decide +kernel
theorem dX7_join_38 : decode cX7_join 38 = .ok (.bipush (-3), 2) := by decide +kernel
theorem dX7_join_40 : decode cX7_join 40 = .ok (.iconst 3, 1) := by decide +kernel
theorem dX7_join_41 : decode cX7_join 41 = .ok (.invokestatic 51, 3) := by decide +kernel
theorem dX7_join_44 : decode cX7_join 44 = .ok (.ifCond .eq 12, 3) := by decide +kernel
theorem dX7_join_47 : decode cX7_join 47 = .ok (.iload_n 3, 1) := by decide +kernel
theorem dX7_join_48 : decode cX7_join 48 = .ok (.ifCond .ne 12, 3) := by decide +kernel
theorem dX7_join_51 : decode cX7_join 51 = .ok (.iload 4, 2) := by decide +kernel
theorem dX7_join_53 : decode cX7_join 53 = .ok (.ifCond .ne 7, 3) := by decide +kernel
theorem dX7_join_56 : decode cX7_join 56 = .ok (.iconst 2, 1) := by decide +kernel
theorem dX7_join_57 : decode cX7_join 57 = .ok (.goto 26, 3) := by decide +kernel
theorem dX7_join_60 : decode cX7_join 60 = .ok (.aload_n 0, 1) := by decide +kernel
theorem dX7_join_61 : decode cX7_join 61 = .ok (.iload_n 1, 1) := by decide +kernel
theorem dX7_join_62 : decode cX7_join 62 = .ok (.invokevirtual 135, 3) := by decide +kernel
theorem dX7_join_65 : decode cX7_join 65 = .ok (.ifCond .gt 13, 3) := by decide +kernel
theorem dX7_join_68 : decode cX7_join 68 = .ok (.aload_n 0, 1) := by decide +kernel
theorem dX7_join_69 : decode cX7_join 69 = .ok (.iload_n 2, 1) := by decide +kernel
theorem dX7_join_70 : decode cX7_join 70 = .ok (.bipush 6, 2) := by decide +kernel
theorem dX7_join_72 : decode cX7_join 72 = .ok (.invokevirtual 105, 3) := by decide +kernel
theorem dX7_join_75 : decode cX7_join 75 = .ok (.ifCond .lt 7, 3) := by decide +kernel
theorem dX7_join_78 : decode cX7_join 78 = .ok (.iconst 3, 1) := by decide +kernel
theorem dX7_join_79 : decode cX7_join 79 = .ok (.goto 4, 3) := by decide +kernel
theorem dX7_join_82 : decode cX7_join 82 = .ok (.iconst 0, 1) := by decide +kernel
theorem dX7_join_83 : decode cX7_join 83 = .ok (.putfield 47, 3) := by decide +kernel
theorem dX7_join_86 : decode cX7_join 86 = .ok (.aload_n 0, 1) := by decide +kernel
theorem dX7_join_87 : decode cX7_join 87 = .ok (.getfield 47, 3) := by decide +kernel
theorem dX7_join_90 : decode cX7_join 90 = .ok (.ifCond .eq 5, 3) := by decide +kernel
theorem dX7_join_93 : decode cX7_join 93 = .ok (.iconst 0, 1) := by decide +kernel
theorem dX7_join_94 : decode cX7_join 94 = .ok (.ireturn, 1) := by decide +kernel
theorem dX7_join_95 : decode cX7_join 95 = .ok (.aload_n 0, 1) := by decide +kernel
theorem dX7_join_96 : decode cX7_join 96 = .ok (.invokevirtual 96, 3) := by decide +kernel
theorem dX7_join_99 : decode cX7_join 99 = .ok (.aload_n 0, 1) := by decide +kernel
theorem dX7_join_100 : decode cX7_join 100 = .ok (.iload_n 1, 1) := by decide +kernel
theorem dX7_join_101 : decode cX7_join 101 = .ok (.bipush 6, 2) := by decide +kernel
theorem dX7_join_103 : decode cX7_join 103 = .ok (.iload_n 2, 1) := by decide +kernel
theorem dX7_join_104 : decode cX7_join 104 = .ok (.invokevirtual 119, 3) := by decide +kernel
theorem dX7_join_107 : decode cX7_join 107 = .ok (.aload_n 0, 1) := by decide +kernel
theorem dX7_join_108 : decode cX7_join 108 = .ok (.iload_n 1, 1) := by decide +kernel
theorem dX7_join_109 : decode cX7_join 109 = .ok (.bipush 7, 2) := by decide +kernel
theorem dX7_join_111 : decode cX7_join 111 = .ok (.iload_n 3, 1) := by decide +kernel
theorem dX7_join_112 : decode cX7_join 112 = .ok (.invokevirtual 119, 3) := by decide +kernel
theorem dX7_join_115 : decode cX7_join 115 = .ok (.aload_n 0, 1) := by decide +kernel
theorem dX7_join_116 : decode cX7_join 116 = .ok (.iload_n 1, 1) := by decide +kernel
theorem dX7_join_117 : decode cX7_join 117 = .ok (.bipush 8, 2) := by decide +kernel
theorem dX7_join_119 : decode cX7_join 119 = .ok (.iload 4, 2) := by decide +kernel
theorem dX7_join_121 : decode cX7_join 121 = .ok (.invokevirtual 119, 3) := by decide +kernel
theorem dX7_join_124 : decode cX7_join 124 = .ok (.aload_n 0, 1) := by decide +kernel
theorem dX7_join_125 : decode cX7_join 125 = .ok (.iload_n 2, 1) := by decide +kernel
theorem dX7_join_126 : decode cX7_join 126 = .ok (.invokevirtual 135, 3) := by decide +kernel
theorem dX7_join_129 : decode cX7_join 129 = .ok (.ireturn, 1) := by decide +kernel
theorem dX7_leave_0 : decode cX7_leave 0 = .ok (.aload_n 0, 1) := by decide +kernel
theorem dX7_leave_1 : decode cX7_leave 1 = .ok (.aload_n 0, 1) := by decide +kernel
theorem dX7_leave_2 : decode cX7_leave 2 = .ok (.iload_n 1, 1) := by decide +kernel
theorem dX7_leave_3 : decode cX7_leave 3 = .ok (.invokevirtual 102, 3) := by decide +kernel
theorem dX7_leave_6 : decode cX7_leave 6 = .ok (.ifCond .ne 7, 3) := by decide +kernel
theorem dX7_leave_9 : decode cX7_leave 9 = .ok (.iconst 1, 1) := by decide +kernel
theorem dX7_leave_10 : decode cX7_leave 10 = .ok (.goto 18, 3) := by decide +kernel
theorem dX7_leave_13 : decode cX7_leave 13 = .ok (.aload_n 0, 1) := by decide +kernel
theorem dX7_leave_14 : decode cX7_leave 14 = .ok (.iload_n 1, 1) := by decide +kernel
theorem dX7_leave_15 : decode cX7_leave 15 = .ok (.bipush 6, 2) := by decide +kernel
theorem dX7_leave_17 : decode cX7_leave 17 = .ok (.invokevirtual 105, 3) := by decide +kernel
theorem dX7_leave_20 : decode cX7_leave 20 = .ok (.ifCond .ge 7, 3) := by decide +kernel
theorem dX7_leave_23 : decode cX7_leave 23 = .ok (.iconst 2, 1) := by decide +kernel
theorem dX7_leave_24 : decode cX7_leave 24 = .ok (.goto 4, 3) := by decide +kernel
theorem dX7_leave_27 : decode cX7_leave 27 = .ok (.iconst 0, 1) := by decide +kernel
theorem dX7_leave_28 : decode cX7_leave 28 = .ok (.putfield 47, 3) := by decide +kernel
theorem dX7_leave_31 : decode cX7_leave 31 = .ok (.aload_n 0, 1) := by decide +kernel
theorem dX7_leave_32 : decode cX7_leave 32 = .ok (.getfield 47, 3) := by decide +kernel
theorem dX7_leave_35 : decode cX7_leave 35 = .ok (.ifCond .eq 5, 3) := by decide +kernel
theorem dX7_leave_38 : decode cX7_leave 38 = .ok (.iconst 0, 1) := by decide +kernel
theorem dX7_leave_39 : decode cX7_leave 39 = .ok (.ireturn, 1) := by decide +kernel
theorem dX7_leave_40 : decode cX7_leave 40 = .ok (.aload_n 0, 1) := by decide +kernel
theorem dX7_leave_41 : decode cX7_leave 41 = .ok (.invokevirtual 96, 3) := by decide +kernel
theorem dX7_leave_44 : decode cX7_leave 44 = .ok (.aload_n 0, 1) := by decide +kernel
theorem dX7_leave_45 : decode cX7_leave 45 = .ok (.iload_n 1, 1) := by decide +kernel
theorem dX7_leave_46 : decode cX7_leave 46 = .ok (.bipush 6, 2) := by decide +kernel
theorem dX7_leave_48 : decode cX7_leave 48 = .ok (.invokevirtual 105, 3) := by decide +kernel
theorem dX7_leave_51 : decode cX7_leave 51 = .ok (.istore_n 2, 1) := by decide +kernel
theorem dX7_leave_52 : decode cX7_leave 52 = .ok (.aload_n 0, 1) := by decide +kernel
theorem dX7_leave_53 : decode cX7_leave 53 = .ok (.iload_n 1, 1) := by decide +kernel
theorem dX7_leave_54 : decode cX7_leave 54 = .ok (.bipush 6, 2) := by decide +kernel
theorem dX7_leave_56 : decode cX7_leave 56 = .ok (.iconst (-1), 1) := by decide +kernel
theorem dX7_leave_57 : decode cX7_leave 57 = .ok (.invokevirtual 119, 3) := by decide +kernel
theorem dX7_leave_60 : decode cX7_leave 60 = .ok (.iload_n 2, 1) := by decide +kernel
theorem dX7_leave_61 : decode cX7_leave 61 = .ok (.ireturn, 1) := by decide +kernel
theorem dX7_apart_0 : decode cX7_apart 0 = .ok (.iload_n 0, 1) := by decide +kernel
theorem dX7_apart_1 : decode cX7_apart 1 = .ok (.invokestatic 55, 3) := by decide +kernel
theorem dX7_apart_4 : decode cX7_apart 4 = .ok (.iload_n 1, 1) := by decide +kernel
theorem dX7_apart_5 : decode cX7_apart 5 = .ok (.invokestatic 55, 3) := by decide +kernel
theorem dX7_apart_8 : decode cX7_apart 8 = .ok (.isub, 1) := by decide +kernel
theorem dX7_apart_9 : decode cX7_apart 9 = .ok (.invokestatic 138, 3) := by decide +kernel
theorem dX7_apart_12 : decode cX7_apart 12 = .ok (.iload_n 0, 1) := by decide +kernel
theorem dX7_apart_13 : decode cX7_apart 13 = .ok (.invokestatic 59, 3) := by decide +kernel
theorem dX7_apart_16 : decode cX7_apart 16 = .ok (.iload_n 1, 1) := by decide +kernel
theorem dX7_apart_17 : decode cX7_apart 17 = .ok (.invokestatic 59, 3) := by decide +kernel
theorem dX7_apart_20 : decode cX7_apart 20 = .ok (.isub, 1) := by decide +kernel
theorem dX7_apart_21 : decode cX7_apart 21 = .ok (.invokestatic 138, 3) := by decide +kernel
theorem dX7_apart_24 : decode cX7_apart 24 = .ok (.iadd, 1) := by decide +kernel
theorem dX7_apart_25 : decode cX7_apart 25 = .ok (.ireturn, 1) := by decide +kernel
theorem dX7_disorder_0 : decode cX7_disorder 0 = .ok (.aload_n 0, 1) := by decide +kernel
theorem dX7_disorder_1 : decode cX7_disorder 1 = .ok (.aload_n 0, 1) := by decide +kernel
theorem dX7_disorder_2 : decode cX7_disorder 2 = .ok (.iload_n 1, 1) := by decide +kernel
theorem dX7_disorder_3 : decode cX7_disorder 3 = .ok (.invokevirtual 102, 3) := by decide +kernel
theorem dX7_disorder_6 : decode cX7_disorder 6 = .ok (.ifCond .ne 7, 3) := by decide +kernel
theorem dX7_disorder_9 : decode cX7_disorder 9 = .ok (.iconst 1, 1) := by decide +kernel
theorem dX7_disorder_10 : decode cX7_disorder 10 = .ok (.goto 16, 3) := by decide +kernel
theorem dX7_disorder_13 : decode cX7_disorder 13 = .ok (.aload_n 0, 1) := by decide +kernel
theorem dX7_disorder_14 : decode cX7_disorder 14 = .ok (.iload_n 1, 1) := by decide +kernel
theorem dX7_disorder_15 : decode cX7_disorder 15 = .ok (.invokevirtual 135, 3) := by decide +kernel
theorem dX7_disorder_18 : decode cX7_disorder 18 = .ok (.ifCond .ne 7, 3) := by decide +kernel
theorem dX7_disorder_21 : decode cX7_disorder 21 = .ok (.iconst 2, 1) := by decide +kernel
theorem dX7_disorder_22 : decode cX7_disorder 22 = .ok (.goto 4, 3) := by decide +kernel
theorem dX7_disorder_25 : decode cX7_disorder 25 = .ok (.iconst 0, 1) := by decide +kernel
theorem dX7_disorder_26 : decode cX7_disorder 26 = .ok (.putfield 47, 3) := by decide +kernel
theorem dX7_disorder_29 : decode cX7_disorder 29 = .ok (.iconst 0, 1) := by decide +kernel
theorem dX7_disorder_30 : decode cX7_disorder 30 = .ok (.istore_n 2, 1) := by decide +kernel
theorem dX7_disorder_31 : decode cX7_disorder 31 = .ok (.iconst 0, 1) := by decide +kernel
theorem dX7_disorder_32 : decode cX7_disorder 32 = .ok (.istore_n 3, 1) := by decide +kernel
theorem dX7_disorder_33 : decode cX7_disorder 33 = .ok (.iload_n 3, 1) := by decide +kernel
theorem dX7_disorder_34 : decode cX7_disorder 34 = .ok (.bipush 16, 2) := by decide +kernel
theorem dX7_disorder_36 : decode cX7_disorder 36 = .ok (.if_icmp .ge 56, 3) := by decide +kernel
theorem dX7_disorder_39 : decode cX7_disorder 39 = .ok (.aload_n 0, 1) := by decide +kernel
theorem dX7_disorder_40 : decode cX7_disorder 40 = .ok (.getfield 47, 3) := by decide +kernel
theorem dX7_disorder_43 : decode cX7_disorder 43 = .ok (.ifCond .ne 49, 3) := by decide +kernel
theorem dX7_disorder_46 : decode cX7_disorder 46 = .ok (.iload_n 2, 1) := by decide +kernel
theorem dX7_disorder_47 : decode cX7_disorder 47 = .ok (.aload_n 0, 1) := by decide +kernel
theorem dX7_disorder_48 : decode cX7_disorder 48 = .ok (.iload_n 3, 1) := by decide +kernel
theorem dX7_disorder_49 : decode cX7_disorder 49 = .ok (.invokevirtual 102, 3) := by decide +kernel
theorem dX7_disorder_52 : decode cX7_disorder 52 = .ok (.ifCond .eq 31, 3) := by decide +kernel
theorem dX7_disorder_55 : decode cX7_disorder 55 = .ok (.aload_n 0, 1) := by decide +kernel
theorem dX7_disorder_56 : decode cX7_disorder 56 = .ok (.iload_n 3, 1) := by decide +kernel
theorem dX7_disorder_57 : decode cX7_disorder 57 = .ok (.bipush 6, 2) := by decide +kernel
theorem dX7_disorder_59 : decode cX7_disorder 59 = .ok (.invokevirtual 105, 3) := by decide +kernel
theorem dX7_disorder_62 : decode cX7_disorder 62 = .ok (.iload_n 1, 1) := by decide +kernel
theorem dX7_disorder_63 : decode cX7_disorder 63 = .ok (.if_icmp .ne 20, 3) := by decide +kernel
theorem dX7_disorder_66 : decode cX7_disorder 66 = .ok (.aload_n 0, 1) := by decide +kernel
theorem dX7_disorder_67 : decode cX7_disorder 67 = .ok (.iload_n 3, 1) := by decide +kernel
theorem dX7_disorder_68 : decode cX7_disorder 68 = .ok (.iconst 1, 1) := by decide +kernel
theorem dX7_disorder_69 : decode cX7_disorder 69 = .ok (.invokevirtual 105, 3) := by decide +kernel
theorem dX7_disorder_72 : decode cX7_disorder 72 = .ok (.aload_n 0, 1) := by decide +kernel
theorem dX7_disorder_73 : decode cX7_disorder 73 = .ok (.iload_n 3, 1) := by decide +kernel
theorem dX7_disorder_74 : decode cX7_disorder 74 = .ok (.invokevirtual 123, 3) := by decide +kernel
theorem dX7_disorder_77 : decode cX7_disorder 77 = .ok (.invokestatic 143, 3) := by decide +kernel
theorem dX7_disorder_80 : decode cX7_disorder 80 = .ok (.goto 4, 3) := by decide +kernel
theorem dX7_disorder_83 : decode cX7_disorder 83 = .ok (.iconst 0, 1) := by decide +kernel
theorem dX7_disorder_84 : decode cX7_disorder 84 = .ok (.iadd, 1) := by decide +kernel
theorem dX7_disorder_85 : decode cX7_disorder 85 = .ok (.istore_n 2, 1) := by decide +kernel
theorem dX7_disorder_86 : decode cX7_disorder 86 = .ok (.iinc 3 1, 3) := by decide +kernel
theorem dX7_disorder_89 : decode cX7_disorder 89 = .ok (.goto (-56), 3) := by decide +kernel
theorem dX7_disorder_92 : decode cX7_disorder 92 = .ok (.iload_n 2, 1) := by decide +kernel
theorem dX7_disorder_93 : decode cX7_disorder 93 = .ok (.ireturn, 1) := by decide +kernel
theorem dX7_moves_0 : decode cX7_moves 0 = .ok (.aload_n 0, 1) := by decide +kernel
theorem dX7_moves_1 : decode cX7_moves 1 = .ok (.iload_n 1, 1) := by decide +kernel
theorem dX7_moves_2 : decode cX7_moves 2 = .ok (.iconst 1, 1) := by decide +kernel
theorem dX7_moves_3 : decode cX7_moves 3 = .ok (.invokevirtual 105, 3) := by decide +kernel
theorem dX7_moves_6 : decode cX7_moves 6 = .ok (.iload_n 2, 1) := by decide +kernel
theorem dX7_moves_7 : decode cX7_moves 7 = .ok (.invokestatic 76, 3) := by decide +kernel
theorem dX7_moves_10 : decode cX7_moves 10 = .ok (.istore_n 3, 1) := by decide +kernel
theorem dX7_moves_11 : decode cX7_moves 11 = .ok (.aload_n 0, 1) := by decide +kernel
theorem dX7_moves_12 : decode cX7_moves 12 = .ok (.iload_n 1, 1) := by decide +kernel
theorem dX7_moves_13 : decode cX7_moves 13 = .ok (.iconst 1, 1) := by decide +kernel
theorem dX7_moves_14 : decode cX7_moves 14 = .ok (.iload_n 3, 1) := by decide +kernel
theorem dX7_moves_15 : decode cX7_moves 15 = .ok (.invokevirtual 119, 3) := by decide +kernel
theorem dX7_moves_18 : decode cX7_moves 18 = .ok (.aload_n 0, 1) := by decide +kernel
theorem dX7_moves_19 : decode cX7_moves 19 = .ok (.iload_n 1, 1) := by decide +kernel
theorem dX7_moves_20 : decode cX7_moves 20 = .ok (.iconst 4, 1) := by decide +kernel
theorem dX7_moves_21 : decode cX7_moves 21 = .ok (.iload_n 2, 1) := by decide +kernel
theorem dX7_moves_22 : decode cX7_moves 22 = .ok (.invokevirtual 119, 3) := by decide +kernel
theorem dX7_moves_25 : decode cX7_moves 25 = .ok (.aload_n 0, 1) := by decide +kernel
theorem dX7_moves_26 : decode cX7_moves 26 = .ok (.getfield 9, 3) := by decide +kernel
theorem dX7_moves_29 : decode cX7_moves 29 = .ok (.sipush 140, 3) := by decide +kernel
theorem dX7_moves_32 : decode cX7_moves 32 = .ok (.iload_n 3, 1) := by decide +kernel
theorem dX7_moves_33 : decode cX7_moves 33 = .ok (.iadd, 1) := by decide +kernel
theorem dX7_moves_34 : decode cX7_moves 34 = .ok (.dup2, 1) := by decide +kernel
theorem dX7_moves_35 : decode cX7_moves 35 = .ok (.iaload, 1) := by decide +kernel
theorem dX7_moves_36 : decode cX7_moves 36 = .ok (.iconst 1, 1) := by decide +kernel
theorem dX7_moves_37 : decode cX7_moves 37 = .ok (.iadd, 1) := by decide +kernel
theorem dX7_moves_38 : decode cX7_moves 38 = .ok (.iastore, 1) := by decide +kernel
theorem dX7_moves_39 : decode cX7_moves 39 = .ok (.return_, 1) := by decide +kernel
theorem dX7_movesItself_0 : decode cX7_movesItself 0 = .ok (.aload_n 0, 1) := by decide +kernel
theorem dX7_movesItself_1 : decode cX7_movesItself 1 = .ok (.iload_n 1, 1) := by decide +kernel
theorem dX7_movesItself_2 : decode cX7_movesItself 2 = .ok (.iload_n 2, 1) := by decide +kernel
theorem dX7_movesItself_3 : decode cX7_movesItself 3 = .ok (.invokevirtual 146, 3) := by decide +kernel
theorem dX7_movesItself_6 : decode cX7_movesItself 6 = .ok (.aload_n 0, 1) := by decide +kernel
theorem dX7_movesItself_7 : decode cX7_movesItself 7 = .ok (.iload_n 1, 1) := by decide +kernel
theorem dX7_movesItself_8 : decode cX7_movesItself 8 = .ok (.iconst 5, 1) := by decide +kernel
theorem dX7_movesItself_9 : decode cX7_movesItself 9 = .ok (.iconst 0, 1) := by decide +kernel
theorem dX7_movesItself_10 : decode cX7_movesItself 10 = .ok (.invokevirtual 119, 3) := by decide +kernel
theorem dX7_movesItself_13 : decode cX7_movesItself 13 = .ok (.aload_n 0, 1) := by decide +kernel
theorem dX7_movesItself_14 : decode cX7_movesItself 14 = .ok (.getfield 9, 3) := by decide +kernel
theorem dX7_movesItself_17 : decode cX7_movesItself 17 = .ok (.sipush 286, 3) := by decide +kernel
theorem dX7_movesItself_20 : decode cX7_movesItself 20 = .ok (.dup2, 1) := by decide +kernel
theorem dX7_movesItself_21 : decode cX7_movesItself 21 = .ok (.iaload, 1) := by decide +kernel
theorem dX7_movesItself_22 : decode cX7_movesItself 22 = .ok (.iconst 1, 1) := by decide +kernel
theorem dX7_movesItself_23 : decode cX7_movesItself 23 = .ok (.iadd, 1) := by decide +kernel
theorem dX7_movesItself_24 : decode cX7_movesItself 24 = .ok (.iastore, 1) := by decide +kernel
theorem dX7_movesItself_25 : decode cX7_movesItself 25 = .ok (.return_, 1) := by decide +kernel
theorem dX7_isEmpty_0 : decode cX7_isEmpty 0 = .ok (.aload_n 0, 1) := by decide +kernel
theorem dX7_isEmpty_1 : decode cX7_isEmpty 1 = .ok (.iload_n 1, 1) := by decide +kernel
theorem dX7_isEmpty_2 : decode cX7_isEmpty 2 = .ok (.invokevirtual 79, 3) := by decide +kernel
theorem dX7_isEmpty_5 : decode cX7_isEmpty 5 = .ok (.ifCond .eq 15, 3) := by decide +kernel
theorem dX7_isEmpty_8 : decode cX7_isEmpty 8 = .ok (.aload_n 0, 1) := by decide +kernel
theorem dX7_isEmpty_9 : decode cX7_isEmpty 9 = .ok (.iload_n 1, 1) := by decide +kernel
theorem dX7_isEmpty_10 : decode cX7_isEmpty 10 = .ok (.invokevirtual 93, 3) := by decide +kernel
theorem dX7_isEmpty_13 : decode cX7_isEmpty 13 = .ok (.ifCond .ge 7, 3) := by decide +kernel
theorem dX7_isEmpty_16 : decode cX7_isEmpty 16 = .ok (.iconst 1, 1) := by decide +kernel
theorem dX7_isEmpty_17 : decode cX7_isEmpty 17 = .ok (.goto 4, 3) := by decide +kernel
theorem dX7_isEmpty_20 : decode cX7_isEmpty 20 = .ok (.iconst 0, 1) := by decide +kernel
theorem dX7_isEmpty_21 : decode cX7_isEmpty 21 = .ok (.ireturn, 1) := by decide +kernel
theorem dX7_isPushed_0 : decode cX7_isPushed 0 = .ok (.iconst (-1), 1) := by decide +kernel
theorem dX7_isPushed_1 : decode cX7_isPushed 1 = .ok (.istore_n 2, 1) := by decide +kernel
theorem dX7_isPushed_2 : decode cX7_isPushed 2 = .ok (.iconst 0, 1) := by decide +kernel
theorem dX7_isPushed_3 : decode cX7_isPushed 3 = .ok (.istore_n 3, 1) := by decide +kernel
theorem dX7_isPushed_4 : decode cX7_isPushed 4 = .ok (.iconst 0, 1) := by decide +kernel
theorem dX7_isPushed_5 : decode cX7_isPushed 5 = .ok (.istore 4, 2) := by decide +kernel
theorem dX7_isPushed_7 : decode cX7_isPushed 7 = .ok (.iload 4, 2) := by decide +kernel
theorem dX7_isPushed_9 : decode cX7_isPushed 9 = .ok (.iconst 4, 1) := by decide +kernel
theorem dX7_isPushed_10 : decode cX7_isPushed 10 = .ok (.if_icmp .ge 74, 3) := by decide +kernel
theorem dX7_isPushed_13 : decode cX7_isPushed 13 = .ok (.aload_n 0, 1) := by decide +kernel
theorem dX7_isPushed_14 : decode cX7_isPushed 14 = .ok (.iload_n 1, 1) := by decide +kernel
theorem dX7_isPushed_15 : decode cX7_isPushed 15 = .ok (.iconst 1, 1) := by decide +kernel
theorem dX7_isPushed_16 : decode cX7_isPushed 16 = .ok (.invokevirtual 105, 3) := by decide +kernel
theorem dX7_isPushed_19 : decode cX7_isPushed 19 = .ok (.iload 4, 2) := by decide +kernel
theorem dX7_isPushed_21 : decode cX7_isPushed 21 = .ok (.invokestatic 76, 3) := by decide +kernel
theorem dX7_isPushed_24 : decode cX7_isPushed 24 = .ok (.istore 5, 2) := by decide +kernel
theorem dX7_isPushed_26 : decode cX7_isPushed 26 = .ok (.aload_n 0, 1) := by decide +kernel
theorem dX7_isPushed_27 : decode cX7_isPushed 27 = .ok (.iload 5, 2) := by decide +kernel
theorem dX7_isPushed_29 : decode cX7_isPushed 29 = .ok (.invokevirtual 150, 3) := by decide +kernel
theorem dX7_isPushed_32 : decode cX7_isPushed 32 = .ok (.ifCond .ne 6, 3) := by decide +kernel
theorem dX7_isPushed_35 : decode cX7_isPushed 35 = .ok (.goto 43, 3) := by decide +kernel
theorem dX7_isPushed_38 : decode cX7_isPushed 38 = .ok (.aload_n 0, 1) := by decide +kernel
theorem dX7_isPushed_39 : decode cX7_isPushed 39 = .ok (.iload_n 1, 1) := by decide +kernel
theorem dX7_isPushed_40 : decode cX7_isPushed 40 = .ok (.iload 5, 2) := by decide +kernel
theorem dX7_isPushed_42 : decode cX7_isPushed 42 = .ok (.invokevirtual 126, 3) := by decide +kernel
theorem dX7_isPushed_45 : decode cX7_isPushed 45 = .ok (.istore 6, 2) := by decide +kernel
theorem dX7_isPushed_47 : decode cX7_isPushed 47 = .ok (.iload 6, 2) := by decide +kernel
theorem dX7_isPushed_49 : decode cX7_isPushed 49 = .ok (.ifCond .ge 9, 3) := by decide +kernel
theorem dX7_isPushed_52 : decode cX7_isPushed 52 = .ok (.sipush 9999, 3) := by decide +kernel
theorem dX7_isPushed_55 : decode cX7_isPushed 55 = .ok (.goto 5, 3) := by decide +kernel
theorem dX7_isPushed_58 : decode cX7_isPushed 58 = .ok (.iload 6, 2) := by decide +kernel
theorem dX7_isPushed_60 : decode cX7_isPushed 60 = .ok (.istore 6, 2) := by decide +kernel
theorem dX7_isPushed_62 : decode cX7_isPushed 62 = .ok (.iload_n 2, 1) := by decide +kernel
theorem dX7_isPushed_63 : decode cX7_isPushed 63 = .ok (.ifCond .lt 9, 3) := by decide +kernel
theorem dX7_isPushed_66 : decode cX7_isPushed 66 = .ok (.iload 6, 2) := by decide +kernel
theorem dX7_isPushed_68 : decode cX7_isPushed 68 = .ok (.iload_n 3, 1) := by decide +kernel
theorem dX7_isPushed_69 : decode cX7_isPushed 69 = .ok (.if_icmp .ge 9, 3) := by decide +kernel
theorem dX7_isPushed_72 : decode cX7_isPushed 72 = .ok (.iload 4, 2) := by decide +kernel
theorem dX7_isPushed_74 : decode cX7_isPushed 74 = .ok (.istore_n 2, 1) := by decide +kernel
theorem dX7_isPushed_75 : decode cX7_isPushed 75 = .ok (.iload 6, 2) := by decide +kernel
theorem dX7_isPushed_77 : decode cX7_isPushed 77 = .ok (.istore_n 3, 1) := by decide +kernel
theorem dX7_isPushed_78 : decode cX7_isPushed 78 = .ok (.iinc 4 1, 3) := by decide +kernel
theorem dX7_isPushed_81 : decode cX7_isPushed 81 = .ok (.goto (-74), 3) := by decide +kernel
theorem dX7_isPushed_84 : decode cX7_isPushed 84 = .ok (.iload_n 2, 1) := by decide +kernel
theorem dX7_isPushed_85 : decode cX7_isPushed 85 = .ok (.ifCond .ge 5, 3) := by decide +kernel
theorem dX7_isPushed_88 : decode cX7_isPushed 88 = .ok (.iconst 0, 1) := by decide +kernel
theorem dX7_isPushed_89 : decode cX7_isPushed 89 = .ok (.ireturn, 1) := by decide +kernel
theorem dX7_isPushed_90 : decode cX7_isPushed 90 = .ok (.aload_n 0, 1) := by decide +kernel
theorem dX7_isPushed_91 : decode cX7_isPushed 91 = .ok (.iload_n 1, 1) := by decide +kernel
theorem dX7_isPushed_92 : decode cX7_isPushed 92 = .ok (.iload_n 2, 1) := by decide +kernel
theorem dX7_isPushed_93 : decode cX7_isPushed 93 = .ok (.invokevirtual 146, 3) := by decide +kernel
theorem dX7_isPushed_96 : decode cX7_isPushed 96 = .ok (.aload_n 0, 1) := by decide +kernel
theorem dX7_isPushed_97 : decode cX7_isPushed 97 = .ok (.getfield 38, 3) := by decide +kernel
theorem dX7_isPushed_100 : decode cX7_isPushed 100 = .ok (.iload_n 1, 1) := by decide +kernel
theorem dX7_isPushed_101 : decode cX7_isPushed 101 = .ok (.iconst 1, 1) := by decide +kernel
theorem dX7_isPushed_102 : decode cX7_isPushed 102 = .ok (.bastore, 1) := by decide +kernel
theorem dX7_isPushed_103 : decode cX7_isPushed 103 = .ok (.aload_n 0, 1) := by decide +kernel
theorem dX7_isPushed_104 : decode cX7_isPushed 104 = .ok (.getfield 9, 3) := by decide +kernel
theorem dX7_isPushed_107 : decode cX7_isPushed 107 = .ok (.sipush 287, 3) := by decide +kernel
theorem dX7_isPushed_110 : decode cX7_isPushed 110 = .ok (.dup2, 1) := by decide +kernel
theorem dX7_isPushed_111 : decode cX7_isPushed 111 = .ok (.iaload, 1) := by decide +kernel
theorem dX7_isPushed_112 : decode cX7_isPushed 112 = .ok (.iconst 1, 1) := by decide +kernel
theorem dX7_isPushed_113 : decode cX7_isPushed 113 = .ok (.iadd, 1) := by decide +kernel
theorem dX7_isPushed_114 : decode cX7_isPushed 114 = .ok (.iastore, 1) := by decide +kernel
theorem dX7_isPushed_115 : decode cX7_isPushed 115 = .ok (.iconst 1, 1) := by decide +kernel
theorem dX7_isPushed_116 : decode cX7_isPushed 116 = .ok (.ireturn, 1) := by decide +kernel
theorem dX7_detour_0 : decode cX7_detour 0 = .ok (.iconst (-1), 1) := by decide +kernel
theorem dX7_detour_1 : decode cX7_detour 1 = .ok (.istore 4, 2) := by decide +kernel
theorem dX7_detour_3 : decode cX7_detour 3 = .ok (.iload_n 3, 1) := by decide +kernel
theorem dX7_detour_4 : decode cX7_detour 4 = .ok (.iconst 3, 1) := by decide +kernel
theorem dX7_detour_5 : decode cX7_detour 5 = .ok (.iadd, 1) := by decide +kernel
theorem dX7_detour_6 : decode cX7_detour 6 = .ok (.istore 5, 2) := by decide +kernel
theorem dX7_detour_8 : decode cX7_detour 8 = .ok (.iconst 0, 1) := by decide +kernel
theorem dX7_detour_9 : decode cX7_detour 9 = .ok (.istore 6, 2) := by decide +kernel
theorem dX7_detour_11 : decode cX7_detour 11 = .ok (.iload 6, 2) := by decide +kernel
theorem dX7_detour_13 : decode cX7_detour 13 = .ok (.iconst 4, 1) := by decide +kernel
theorem dX7_detour_14 : decode cX7_detour 14 = .ok (.if_icmp .ge 66, 3) := by decide +kernel
theorem dX7_detour_17 : decode cX7_detour 17 = .ok (.aload_n 0, 1) := by decide +kernel
theorem dX7_detour_18 : decode cX7_detour 18 = .ok (.iload_n 1, 1) := by decide +kernel
theorem dX7_detour_19 : decode cX7_detour 19 = .ok (.iconst 1, 1) := by decide +kernel
theorem dX7_detour_20 : decode cX7_detour 20 = .ok (.invokevirtual 105, 3) := by decide +kernel
theorem dX7_detour_23 : decode cX7_detour 23 = .ok (.iload 6, 2) := by decide +kernel
theorem dX7_detour_25 : decode cX7_detour 25 = .ok (.invokestatic 76, 3) := by decide +kernel
theorem dX7_detour_28 : decode cX7_detour 28 = .ok (.istore 7, 2) := by decide +kernel
theorem dX7_detour_30 : decode cX7_detour 30 = .ok (.aload_n 0, 1) := by decide +kernel
theorem dX7_detour_31 : decode cX7_detour 31 = .ok (.iload 7, 2) := by decide +kernel
theorem dX7_detour_33 : decode cX7_detour 33 = .ok (.invokevirtual 150, 3) := by decide +kernel
theorem dX7_detour_36 : decode cX7_detour 36 = .ok (.ifCond .eq 38, 3) := by decide +kernel
theorem dX7_detour_39 : decode cX7_detour 39 = .ok (.aload_n 0, 1) := by decide +kernel
theorem dX7_detour_40 : decode cX7_detour 40 = .ok (.iload_n 2, 1) := by decide +kernel
theorem dX7_detour_41 : decode cX7_detour 41 = .ok (.iload 7, 2) := by decide +kernel
theorem dX7_detour_43 : decode cX7_detour 43 = .ok (.invokevirtual 87, 3) := by decide +kernel
theorem dX7_detour_46 : decode cX7_detour 46 = .ok (.ifCond .lt 28, 3) := by decide +kernel
theorem dX7_detour_49 : decode cX7_detour 49 = .ok (.aload_n 0, 1) := by decide +kernel
theorem dX7_detour_50 : decode cX7_detour 50 = .ok (.iload_n 2, 1) := by decide +kernel
theorem dX7_detour_51 : decode cX7_detour 51 = .ok (.iload 7, 2) := by decide +kernel
theorem dX7_detour_53 : decode cX7_detour 53 = .ok (.invokevirtual 87, 3) := by decide +kernel
theorem dX7_detour_56 : decode cX7_detour 56 = .ok (.iload 5, 2) := by decide +kernel
theorem dX7_detour_58 : decode cX7_detour 58 = .ok (.if_icmp .ge 16, 3) := by decide +kernel
theorem dX7_detour_61 : decode cX7_detour 61 = .ok (.iload 6, 2) := by decide +kernel
theorem dX7_detour_63 : decode cX7_detour 63 = .ok (.istore 4, 2) := by decide +kernel
theorem dX7_detour_65 : decode cX7_detour 65 = .ok (.aload_n 0, 1) := by decide +kernel
theorem dX7_detour_66 : decode cX7_detour 66 = .ok (.iload_n 2, 1) := by decide +kernel
theorem dX7_detour_67 : decode cX7_detour 67 = .ok (.iload 7, 2) := by decide +kernel
theorem dX7_detour_69 : decode cX7_detour 69 = .ok (.invokevirtual 87, 3) := by decide +kernel
theorem dX7_detour_72 : decode cX7_detour 72 = .ok (.istore 5, 2) := by decide +kernel
theorem dX7_detour_74 : decode cX7_detour 74 = .ok (.iinc 6 1, 3) := by decide +kernel
theorem dX7_detour_77 : decode cX7_detour 77 = .ok (.goto (-66), 3) := by decide +kernel
theorem dX7_detour_80 : decode cX7_detour 80 = .ok (.iload 4, 2) := by decide +kernel
theorem dX7_detour_82 : decode cX7_detour 82 = .ok (.ireturn, 1) := by decide +kernel
theorem dX7_waits_0 : decode cX7_waits 0 = .ok (.aload_n 0, 1) := by decide +kernel
theorem dX7_waits_1 : decode cX7_waits 1 = .ok (.iload_n 1, 1) := by decide +kernel
theorem dX7_waits_2 : decode cX7_waits 2 = .ok (.iconst 5, 1) := by decide +kernel
theorem dX7_waits_3 : decode cX7_waits 3 = .ok (.aload_n 0, 1) := by decide +kernel
theorem dX7_waits_4 : decode cX7_waits 4 = .ok (.iload_n 1, 1) := by decide +kernel
theorem dX7_waits_5 : decode cX7_waits 5 = .ok (.iconst 5, 1) := by decide +kernel
theorem dX7_waits_6 : decode cX7_waits 6 = .ok (.invokevirtual 105, 3) := by decide +kernel
theorem dX7_waits_9 : decode cX7_waits 9 = .ok (.iconst 1, 1) := by decide +kernel
theorem dX7_waits_10 : decode cX7_waits 10 = .ok (.iadd, 1) := by decide +kernel
theorem dX7_waits_11 : decode cX7_waits 11 = .ok (.invokevirtual 119, 3) := by decide +kernel
theorem dX7_waits_14 : decode cX7_waits 14 = .ok (.aload_n 0, 1) := by decide +kernel
theorem dX7_waits_15 : decode cX7_waits 15 = .ok (.getfield 9, 3) := by decide +kernel
theorem dX7_waits_18 : decode cX7_waits 18 = .ok (.sipush 289, 3) := by decide +kernel
theorem dX7_waits_21 : decode cX7_waits 21 = .ok (.dup2, 1) := by decide +kernel
theorem dX7_waits_22 : decode cX7_waits 22 = .ok (.iaload, 1) := by decide +kernel
theorem dX7_waits_23 : decode cX7_waits 23 = .ok (.iconst 1, 1) := by decide +kernel
theorem dX7_waits_24 : decode cX7_waits 24 = .ok (.iadd, 1) := by decide +kernel
theorem dX7_waits_25 : decode cX7_waits 25 = .ok (.iastore, 1) := by decide +kernel
theorem dX7_waits_26 : decode cX7_waits 26 = .ok (.return_, 1) := by decide +kernel
theorem dX7_turns_0 : decode cX7_turns 0 = .ok (.aload_n 0, 1) := by decide +kernel
theorem dX7_turns_1 : decode cX7_turns 1 = .ok (.iload_n 1, 1) := by decide +kernel
theorem dX7_turns_2 : decode cX7_turns 2 = .ok (.invokevirtual 129, 3) := by decide +kernel
theorem dX7_turns_5 : decode cX7_turns 5 = .ok (.ifCond .eq 11, 3) := by decide +kernel
theorem dX7_turns_8 : decode cX7_turns 8 = .ok (.aload_n 0, 1) := by decide +kernel
theorem dX7_turns_9 : decode cX7_turns 9 = .ok (.iload_n 1, 1) := by decide +kernel
theorem dX7_turns_10 : decode cX7_turns 10 = .ok (.iconst 5, 1) := by decide +kernel
theorem dX7_turns_11 : decode cX7_turns 11 = .ok (.iconst 0, 1) := by decide +kernel
theorem dX7_turns_12 : decode cX7_turns 12 = .ok (.invokevirtual 119, 3) := by decide +kernel
theorem dX7_turns_15 : decode cX7_turns 15 = .ok (.return_, 1) := by decide +kernel
theorem dX7_turns_16 : decode cX7_turns 16 = .ok (.aload_n 0, 1) := by decide +kernel
theorem dX7_turns_17 : decode cX7_turns 17 = .ok (.getfield 38, 3) := by decide +kernel
theorem dX7_turns_20 : decode cX7_turns 20 = .ok (.iload_n 1, 1) := by decide +kernel
theorem dX7_turns_21 : decode cX7_turns 21 = .ok (.baload, 1) := by decide +kernel
theorem dX7_turns_22 : decode cX7_turns 22 = .ok (.ifCond .eq 4, 3) := by decide +kernel
theorem dX7_turns_25 : decode cX7_turns 25 = .ok (.return_, 1) := by decide +kernel
theorem dX7_turns_26 : decode cX7_turns 26 = .ok (.aload_n 0, 1) := by decide +kernel
theorem dX7_turns_27 : decode cX7_turns 27 = .ok (.iload_n 1, 1) := by decide +kernel
theorem dX7_turns_28 : decode cX7_turns 28 = .ok (.invokevirtual 123, 3) := by decide +kernel
theorem dX7_turns_31 : decode cX7_turns 31 = .ok (.istore_n 2, 1) := by decide +kernel
theorem dX7_turns_32 : decode cX7_turns 32 = .ok (.aload_n 0, 1) := by decide +kernel
theorem dX7_turns_33 : decode cX7_turns 33 = .ok (.iload_n 2, 1) := by decide +kernel
theorem dX7_turns_34 : decode cX7_turns 34 = .ok (.aload_n 0, 1) := by decide +kernel
theorem dX7_turns_35 : decode cX7_turns 35 = .ok (.iload_n 1, 1) := by decide +kernel
theorem dX7_turns_36 : decode cX7_turns 36 = .ok (.iconst 1, 1) := by decide +kernel
theorem dX7_turns_37 : decode cX7_turns 37 = .ok (.invokevirtual 105, 3) := by decide +kernel
theorem dX7_turns_40 : decode cX7_turns 40 = .ok (.invokevirtual 87, 3) := by decide +kernel
theorem dX7_turns_43 : decode cX7_turns 43 = .ok (.istore_n 3, 1) := by decide +kernel
theorem dX7_turns_44 : decode cX7_turns 44 = .ok (.iload_n 3, 1) := by decide +kernel
theorem dX7_turns_45 : decode cX7_turns 45 = .ok (.ifCond .ge 9, 3) := by decide +kernel
theorem dX7_turns_48 : decode cX7_turns 48 = .ok (.aload_n 0, 1) := by decide +kernel
theorem dX7_turns_49 : decode cX7_turns 49 = .ok (.iload_n 1, 1) := by decide +kernel
theorem dX7_turns_50 : decode cX7_turns 50 = .ok (.invokevirtual 153, 3) := by decide +kernel
theorem dX7_turns_53 : decode cX7_turns 53 = .ok (.return_, 1) := by decide +kernel
theorem dX7_turns_54 : decode cX7_turns 54 = .ok (.aload_n 0, 1) := by decide +kernel
theorem dX7_turns_55 : decode cX7_turns 55 = .ok (.iload_n 2, 1) := by decide +kernel
theorem dX7_turns_56 : decode cX7_turns 56 = .ok (.aload_n 0, 1) := by decide +kernel
theorem dX7_turns_57 : decode cX7_turns 57 = .ok (.iload_n 1, 1) := by decide +kernel
theorem dX7_turns_58 : decode cX7_turns 58 = .ok (.iconst 1, 1) := by decide +kernel
theorem dX7_turns_59 : decode cX7_turns 59 = .ok (.invokevirtual 105, 3) := by decide +kernel
theorem dX7_turns_62 : decode cX7_turns 62 = .ok (.invokevirtual 112, 3) := by decide +kernel
theorem dX7_turns_65 : decode cX7_turns 65 = .ok (.istore 4, 2) := by decide +kernel
theorem dX7_turns_67 : decode cX7_turns 67 = .ok (.aload_n 0, 1) := by decide +kernel
theorem dX7_turns_68 : decode cX7_turns 68 = .ok (.aload_n 0, 1) := by decide +kernel
theorem dX7_turns_69 : decode cX7_turns 69 = .ok (.iload_n 1, 1) := by decide +kernel
theorem dX7_turns_70 : decode cX7_turns 70 = .ok (.iconst 1, 1) := by decide +kernel
theorem dX7_turns_71 : decode cX7_turns 71 = .ok (.invokevirtual 105, 3) := by decide +kernel
theorem dX7_turns_74 : decode cX7_turns 74 = .ok (.iload 4, 2) := by decide +kernel
theorem dX7_turns_76 : decode cX7_turns 76 = .ok (.invokestatic 76, 3) := by decide +kernel
theorem dX7_turns_79 : decode cX7_turns 79 = .ok (.invokevirtual 93, 3) := by decide +kernel
theorem dX7_turns_82 : decode cX7_turns 82 = .ok (.istore 5, 2) := by decide +kernel
theorem dX7_turns_84 : decode cX7_turns 84 = .ok (.iload 5, 2) := by decide +kernel
theorem dX7_turns_86 : decode cX7_turns 86 = .ok (.ifCond .lt 43, 3) := by decide +kernel
theorem dX7_turns_89 : decode cX7_turns 89 = .ok (.aload_n 0, 1) := by decide +kernel
theorem dX7_turns_90 : decode cX7_turns 90 = .ok (.iload 5, 2) := by decide +kernel
theorem dX7_turns_92 : decode cX7_turns 92 = .ok (.iconst 3, 1) := by decide +kernel
theorem dX7_turns_93 : decode cX7_turns 93 = .ok (.invokevirtual 105, 3) := by decide +kernel
theorem dX7_turns_96 : decode cX7_turns 96 = .ok (.aload_n 0, 1) := by decide +kernel
theorem dX7_turns_97 : decode cX7_turns 97 = .ok (.iload_n 1, 1) := by decide +kernel
theorem dX7_turns_98 : decode cX7_turns 98 = .ok (.iconst 3, 1) := by decide +kernel
theorem dX7_turns_99 : decode cX7_turns 99 = .ok (.invokevirtual 105, 3) := by decide +kernel
theorem dX7_turns_102 : decode cX7_turns 102 = .ok (.if_icmp .ge 27, 3) := by decide +kernel
theorem dX7_turns_105 : decode cX7_turns 105 = .ok (.aload_n 0, 1) := by decide +kernel
theorem dX7_turns_106 : decode cX7_turns 106 = .ok (.getfield 35, 3) := by decide +kernel
theorem dX7_turns_109 : decode cX7_turns 109 = .ok (.iload 5, 2) := by decide +kernel
theorem dX7_turns_111 : decode cX7_turns 111 = .ok (.baload, 1) := by decide +kernel
theorem dX7_turns_112 : decode cX7_turns 112 = .ok (.ifCond .ne 17, 3) := by decide +kernel
theorem dX7_turns_115 : decode cX7_turns 115 = .ok (.aload_n 0, 1) := by decide +kernel
theorem dX7_turns_116 : decode cX7_turns 116 = .ok (.getfield 38, 3) := by decide +kernel
theorem dX7_turns_119 : decode cX7_turns 119 = .ok (.iload 5, 2) := by decide +kernel
theorem dX7_turns_121 : decode cX7_turns 121 = .ok (.baload, 1) := by decide +kernel
theorem dX7_turns_122 : decode cX7_turns 122 = .ok (.ifCond .ne 7, 3) := by decide +kernel
theorem dX7_turns_125 : decode cX7_turns 125 = .ok (.iconst 1, 1) := by decide +kernel
theorem dX7_turns_126 : decode cX7_turns 126 = .ok (.goto 4, 3) := by decide +kernel
theorem dX7_turns_129 : decode cX7_turns 129 = .ok (.iconst 0, 1) := by decide +kernel
theorem dX7_turns_130 : decode cX7_turns 130 = .ok (.istore 6, 2) := by decide +kernel
theorem dX7_turns_132 : decode cX7_turns 132 = .ok (.iload 5, 2) := by decide +kernel
theorem dX7_turns_134 : decode cX7_turns 134 = .ok (.ifCond .lt 17, 3) := by decide +kernel
theorem dX7_turns_137 : decode cX7_turns 137 = .ok (.iload 6, 2) := by decide +kernel
theorem dX7_turns_139 : decode cX7_turns 139 = .ok (.ifCond .eq 20, 3) := by decide +kernel
theorem dX7_turns_142 : decode cX7_turns 142 = .ok (.aload_n 0, 1) := by decide +kernel
theorem dX7_turns_143 : decode cX7_turns 143 = .ok (.iload 5, 2) := by decide +kernel
theorem dX7_turns_145 : decode cX7_turns 145 = .ok (.invokevirtual 156, 3) := by decide +kernel
theorem dX7_turns_148 : decode cX7_turns 148 = .ok (.ifCond .eq 11, 3) := by decide +kernel
theorem dX7_turns_151 : decode cX7_turns 151 = .ok (.aload_n 0, 1) := by decide +kernel
theorem dX7_turns_152 : decode cX7_turns 152 = .ok (.iload_n 1, 1) := by decide +kernel
theorem dX7_turns_153 : decode cX7_turns 153 = .ok (.iload 4, 2) := by decide +kernel
theorem dX7_turns_155 : decode cX7_turns 155 = .ok (.invokevirtual 159, 3) := by decide +kernel
theorem dX7_turns_158 : decode cX7_turns 158 = .ok (.return_, 1) := by decide +kernel
theorem dX7_turns_159 : decode cX7_turns 159 = .ok (.aload_n 0, 1) := by decide +kernel
theorem dX7_turns_160 : decode cX7_turns 160 = .ok (.iload_n 1, 1) := by decide +kernel
theorem dX7_turns_161 : decode cX7_turns 161 = .ok (.iconst 5, 1) := by decide +kernel
theorem dX7_turns_162 : decode cX7_turns 162 = .ok (.invokevirtual 105, 3) := by decide +kernel
theorem dX7_turns_165 : decode cX7_turns 165 = .ok (.aload_n 0, 1) := by decide +kernel
theorem dX7_turns_166 : decode cX7_turns 166 = .ok (.getfield 9, 3) := by decide +kernel
theorem dX7_turns_169 : decode cX7_turns 169 = .ok (.sipush 284, 3) := by decide +kernel
theorem dX7_turns_172 : decode cX7_turns 172 = .ok (.iaload, 1) := by decide +kernel
theorem dX7_turns_173 : decode cX7_turns 173 = .ok (.if_icmp .lt 13, 3) := by decide +kernel
theorem dX7_turns_176 : decode cX7_turns 176 = .ok (.aload_n 0, 1) := by decide +kernel
theorem dX7_turns_177 : decode cX7_turns 177 = .ok (.iload_n 1, 1) := by decide +kernel
theorem dX7_turns_178 : decode cX7_turns 178 = .ok (.iload_n 2, 1) := by decide +kernel
theorem dX7_turns_179 : decode cX7_turns 179 = .ok (.iload_n 3, 1) := by decide +kernel
theorem dX7_turns_180 : decode cX7_turns 180 = .ok (.invokevirtual 162, 3) := by decide +kernel
theorem dX7_turns_183 : decode cX7_turns 183 = .ok (.goto 4, 3) := by decide +kernel
theorem dX7_turns_186 : decode cX7_turns 186 = .ok (.iconst (-1), 1) := by decide +kernel
theorem dX7_turns_187 : decode cX7_turns 187 = .ok (.istore 7, 2) := by decide +kernel
theorem dX7_turns_189 : decode cX7_turns 189 = .ok (.iload 7, 2) := by decide +kernel
theorem dX7_turns_191 : decode cX7_turns 191 = .ok (.ifCond .ge 9, 3) := by decide +kernel
theorem dX7_turns_194 : decode cX7_turns 194 = .ok (.aload_n 0, 1) := by decide +kernel
theorem dX7_turns_195 : decode cX7_turns 195 = .ok (.iload_n 1, 1) := by decide +kernel
theorem dX7_turns_196 : decode cX7_turns 196 = .ok (.invokevirtual 153, 3) := by decide +kernel
theorem dX7_turns_199 : decode cX7_turns 199 = .ok (.return_, 1) := by decide +kernel
theorem dX7_turns_200 : decode cX7_turns 200 = .ok (.aload_n 0, 1) := by decide +kernel
theorem dX7_turns_201 : decode cX7_turns 201 = .ok (.iload_n 1, 1) := by decide +kernel
theorem dX7_turns_202 : decode cX7_turns 202 = .ok (.iload 7, 2) := by decide +kernel
theorem dX7_turns_204 : decode cX7_turns 204 = .ok (.invokevirtual 159, 3) := by decide +kernel
theorem dX7_turns_207 : decode cX7_turns 207 = .ok (.aload_n 0, 1) := by decide +kernel
theorem dX7_turns_208 : decode cX7_turns 208 = .ok (.getfield 9, 3) := by decide +kernel
theorem dX7_turns_211 : decode cX7_turns 211 = .ok (.sipush 288, 3) := by decide +kernel
theorem dX7_turns_214 : decode cX7_turns 214 = .ok (.dup2, 1) := by decide +kernel
theorem dX7_turns_215 : decode cX7_turns 215 = .ok (.iaload, 1) := by decide +kernel
theorem dX7_turns_216 : decode cX7_turns 216 = .ok (.iconst 1, 1) := by decide +kernel
theorem dX7_turns_217 : decode cX7_turns 217 = .ok (.iadd, 1) := by decide +kernel
theorem dX7_turns_218 : decode cX7_turns 218 = .ok (.iastore, 1) := by decide +kernel
theorem dX7_turns_219 : decode cX7_turns 219 = .ok (.return_, 1) := by decide +kernel
theorem dX7_nextInTurn_0 : decode cX7_nextInTurn 0 = .ok (.iconst (-1), 1) := by decide +kernel
theorem dX7_nextInTurn_1 : decode cX7_nextInTurn 1 = .ok (.istore_n 1, 1) := by decide +kernel
theorem dX7_nextInTurn_2 : decode cX7_nextInTurn 2 = .ok (.iconst 0, 1) := by decide +kernel
theorem dX7_nextInTurn_3 : decode cX7_nextInTurn 3 = .ok (.istore_n 2, 1) := by decide +kernel
theorem dX7_nextInTurn_4 : decode cX7_nextInTurn 4 = .ok (.iload_n 2, 1) := by decide +kernel
theorem dX7_nextInTurn_5 : decode cX7_nextInTurn 5 = .ok (.bipush 16, 2) := by decide +kernel
theorem dX7_nextInTurn_7 : decode cX7_nextInTurn 7 = .ok (.if_icmp .ge 47, 3) := by decide +kernel
theorem dX7_nextInTurn_10 : decode cX7_nextInTurn 10 = .ok (.aload_n 0, 1) := by decide +kernel
theorem dX7_nextInTurn_11 : decode cX7_nextInTurn 11 = .ok (.iload_n 2, 1) := by decide +kernel
theorem dX7_nextInTurn_12 : decode cX7_nextInTurn 12 = .ok (.invokevirtual 102, 3) := by decide +kernel
theorem dX7_nextInTurn_15 : decode cX7_nextInTurn 15 = .ok (.ifCond .eq 33, 3) := by decide +kernel
theorem dX7_nextInTurn_18 : decode cX7_nextInTurn 18 = .ok (.aload_n 0, 1) := by decide +kernel
theorem dX7_nextInTurn_19 : decode cX7_nextInTurn 19 = .ok (.getfield 35, 3) := by decide +kernel
theorem dX7_nextInTurn_22 : decode cX7_nextInTurn 22 = .ok (.iload_n 2, 1) := by decide +kernel
theorem dX7_nextInTurn_23 : decode cX7_nextInTurn 23 = .ok (.baload, 1) := by decide +kernel
theorem dX7_nextInTurn_24 : decode cX7_nextInTurn 24 = .ok (.ifCond .ne 24, 3) := by decide +kernel
theorem dX7_nextInTurn_27 : decode cX7_nextInTurn 27 = .ok (.iload_n 1, 1) := by decide +kernel
theorem dX7_nextInTurn_28 : decode cX7_nextInTurn 28 = .ok (.ifCond .lt 18, 3) := by decide +kernel
theorem dX7_nextInTurn_31 : decode cX7_nextInTurn 31 = .ok (.aload_n 0, 1) := by decide +kernel
theorem dX7_nextInTurn_32 : decode cX7_nextInTurn 32 = .ok (.iload_n 2, 1) := by decide +kernel
theorem dX7_nextInTurn_33 : decode cX7_nextInTurn 33 = .ok (.iconst 3, 1) := by decide +kernel
theorem dX7_nextInTurn_34 : decode cX7_nextInTurn 34 = .ok (.invokevirtual 105, 3) := by decide +kernel
theorem dX7_nextInTurn_37 : decode cX7_nextInTurn 37 = .ok (.aload_n 0, 1) := by decide +kernel
theorem dX7_nextInTurn_38 : decode cX7_nextInTurn 38 = .ok (.iload_n 1, 1) := by decide +kernel
theorem dX7_nextInTurn_39 : decode cX7_nextInTurn 39 = .ok (.iconst 3, 1) := by decide +kernel
theorem dX7_nextInTurn_40 : decode cX7_nextInTurn 40 = .ok (.invokevirtual 105, 3) := by decide +kernel
theorem dX7_nextInTurn_43 : decode cX7_nextInTurn 43 = .ok (.if_icmp .le 5, 3) := by decide +kernel
theorem dX7_nextInTurn_46 : decode cX7_nextInTurn 46 = .ok (.iload_n 2, 1) := by decide +kernel
theorem dX7_nextInTurn_47 : decode cX7_nextInTurn 47 = .ok (.istore_n 1, 1) := by decide +kernel
theorem dX7_nextInTurn_48 : decode cX7_nextInTurn 48 = .ok (.iinc 2 1, 3) := by decide +kernel
theorem dX7_nextInTurn_51 : decode cX7_nextInTurn 51 = .ok (.goto (-47), 3) := by decide +kernel
theorem dX7_nextInTurn_54 : decode cX7_nextInTurn 54 = .ok (.iload_n 1, 1) := by decide +kernel
theorem dX7_nextInTurn_55 : decode cX7_nextInTurn 55 = .ok (.ireturn, 1) := by decide +kernel
theorem dX7_ticks_0 : decode cX7_ticks 0 = .ok (.aload_n 0, 1) := by decide +kernel
theorem dX7_ticks_1 : decode cX7_ticks 1 = .ok (.getfield 9, 3) := by decide +kernel
theorem dX7_ticks_4 : decode cX7_ticks 4 = .ok (.sipush 285, 3) := by decide +kernel
theorem dX7_ticks_7 : decode cX7_ticks 7 = .ok (.dup2, 1) := by decide +kernel
theorem dX7_ticks_8 : decode cX7_ticks 8 = .ok (.iaload, 1) := by decide +kernel
theorem dX7_ticks_9 : decode cX7_ticks 9 = .ok (.iconst 1, 1) := by decide +kernel
theorem dX7_ticks_10 : decode cX7_ticks 10 = .ok (.iadd, 1) := by decide +kernel
theorem dX7_ticks_11 : decode cX7_ticks 11 = .ok (.iastore, 1) := by decide +kernel
theorem dX7_ticks_12 : decode cX7_ticks 12 = .ok (.iconst 0, 1) := by decide +kernel
theorem dX7_ticks_13 : decode cX7_ticks 13 = .ok (.istore_n 1, 1) := by decide +kernel
theorem dX7_ticks_14 : decode cX7_ticks 14 = .ok (.iload_n 1, 1) := by decide +kernel
theorem dX7_ticks_15 : decode cX7_ticks 15 = .ok (.bipush 16, 2) := by decide +kernel
theorem dX7_ticks_17 : decode cX7_ticks 17 = .ok (.if_icmp .ge 23, 3) := by decide +kernel
theorem dX7_ticks_20 : decode cX7_ticks 20 = .ok (.aload_n 0, 1) := by decide +kernel
theorem dX7_ticks_21 : decode cX7_ticks 21 = .ok (.getfield 35, 3) := by decide +kernel
theorem dX7_ticks_24 : decode cX7_ticks 24 = .ok (.iload_n 1, 1) := by decide +kernel
theorem dX7_ticks_25 : decode cX7_ticks 25 = .ok (.iconst 0, 1) := by decide +kernel
theorem dX7_ticks_26 : decode cX7_ticks 26 = .ok (.bastore, 1) := by decide +kernel
theorem dX7_ticks_27 : decode cX7_ticks 27 = .ok (.aload_n 0, 1) := by decide +kernel
theorem dX7_ticks_28 : decode cX7_ticks 28 = .ok (.getfield 38, 3) := by decide +kernel
theorem dX7_ticks_31 : decode cX7_ticks 31 = .ok (.iload_n 1, 1) := by decide +kernel
theorem dX7_ticks_32 : decode cX7_ticks 32 = .ok (.iconst 0, 1) := by decide +kernel
theorem dX7_ticks_33 : decode cX7_ticks 33 = .ok (.bastore, 1) := by decide +kernel
theorem dX7_ticks_34 : decode cX7_ticks 34 = .ok (.iinc 1 1, 3) := by decide +kernel
theorem dX7_ticks_37 : decode cX7_ticks 37 = .ok (.goto (-23), 3) := by decide +kernel
theorem dX7_ticks_40 : decode cX7_ticks 40 = .ok (.aload_n 0, 1) := by decide +kernel
theorem dX7_ticks_41 : decode cX7_ticks 41 = .ok (.invokevirtual 165, 3) := by decide +kernel
theorem dX7_ticks_44 : decode cX7_ticks 44 = .ok (.istore_n 1, 1) := by decide +kernel
theorem dX7_ticks_45 : decode cX7_ticks 45 = .ok (.iload_n 1, 1) := by decide +kernel
theorem dX7_ticks_46 : decode cX7_ticks 46 = .ok (.ifCond .lt 23, 3) := by decide +kernel
theorem dX7_ticks_49 : decode cX7_ticks 49 = .ok (.aload_n 0, 1) := by decide +kernel
theorem dX7_ticks_50 : decode cX7_ticks 50 = .ok (.getfield 35, 3) := by decide +kernel
theorem dX7_ticks_53 : decode cX7_ticks 53 = .ok (.iload_n 1, 1) := by decide +kernel
theorem dX7_ticks_54 : decode cX7_ticks 54 = .ok (.iconst 1, 1) := by decide +kernel
theorem dX7_ticks_55 : decode cX7_ticks 55 = .ok (.bastore, 1) := by decide +kernel
theorem dX7_ticks_56 : decode cX7_ticks 56 = .ok (.aload_n 0, 1) := by decide +kernel
theorem dX7_ticks_57 : decode cX7_ticks 57 = .ok (.iload_n 1, 1) := by decide +kernel
theorem dX7_ticks_58 : decode cX7_ticks 58 = .ok (.invokevirtual 168, 3) := by decide +kernel
theorem dX7_ticks_61 : decode cX7_ticks 61 = .ok (.aload_n 0, 1) := by decide +kernel
theorem dX7_ticks_62 : decode cX7_ticks 62 = .ok (.invokevirtual 165, 3) := by decide +kernel
theorem dX7_ticks_65 : decode cX7_ticks 65 = .ok (.istore_n 1, 1) := by decide +kernel
theorem dX7_ticks_66 : decode cX7_ticks 66 = .ok (.goto (-21), 3) := by decide +kernel
theorem dX7_ticks_69 : decode cX7_ticks 69 = .ok (.return_, 1) := by decide +kernel
theorem dX7_tick_0 : decode cX7_tick 0 = .ok (.aload_n 0, 1) := by decide +kernel
theorem dX7_tick_1 : decode cX7_tick 1 = .ok (.iload_n 1, 1) := by decide +kernel
theorem dX7_tick_2 : decode cX7_tick 2 = .ok (.iconst 1, 1) := by decide +kernel
theorem dX7_tick_3 : decode cX7_tick 3 = .ok (.bipush 50, 2) := by decide +kernel
theorem dX7_tick_5 : decode cX7_tick 5 = .ok (.invokestatic 51, 3) := by decide +kernel
theorem dX7_tick_8 : decode cX7_tick 8 = .ok (.ifCond .eq 7, 3) := by decide +kernel
theorem dX7_tick_11 : decode cX7_tick 11 = .ok (.iconst 0, 1) := by decide +kernel
theorem dX7_tick_12 : decode cX7_tick 12 = .ok (.goto 4, 3) := by decide +kernel
theorem dX7_tick_15 : decode cX7_tick 15 = .ok (.iconst 1, 1) := by decide +kernel
theorem dX7_tick_16 : decode cX7_tick 16 = .ok (.putfield 47, 3) := by decide +kernel
theorem dX7_tick_19 : decode cX7_tick 19 = .ok (.aload_n 0, 1) := by decide +kernel
theorem dX7_tick_20 : decode cX7_tick 20 = .ok (.getfield 47, 3) := by decide +kernel
theorem dX7_tick_23 : decode cX7_tick 23 = .ok (.ifCond .eq 5, 3) := by decide +kernel
theorem dX7_tick_26 : decode cX7_tick 26 = .ok (.iconst 0, 1) := by decide +kernel
theorem dX7_tick_27 : decode cX7_tick 27 = .ok (.ireturn, 1) := by decide +kernel
theorem dX7_tick_28 : decode cX7_tick 28 = .ok (.aload_n 0, 1) := by decide +kernel
theorem dX7_tick_29 : decode cX7_tick 29 = .ok (.invokevirtual 96, 3) := by decide +kernel
theorem dX7_tick_32 : decode cX7_tick 32 = .ok (.iconst 0, 1) := by decide +kernel
theorem dX7_tick_33 : decode cX7_tick 33 = .ok (.istore_n 2, 1) := by decide +kernel
theorem dX7_tick_34 : decode cX7_tick 34 = .ok (.iload_n 2, 1) := by decide +kernel
theorem dX7_tick_35 : decode cX7_tick 35 = .ok (.iload_n 1, 1) := by decide +kernel
theorem dX7_tick_36 : decode cX7_tick 36 = .ok (.if_icmp .ge 13, 3) := by decide +kernel
theorem dX7_tick_39 : decode cX7_tick 39 = .ok (.aload_n 0, 1) := by decide +kernel
theorem dX7_tick_40 : decode cX7_tick 40 = .ok (.invokevirtual 171, 3) := by decide +kernel
theorem dX7_tick_43 : decode cX7_tick 43 = .ok (.iinc 2 1, 3) := by decide +kernel
theorem dX7_tick_46 : decode cX7_tick 46 = .ok (.goto (-12), 3) := by decide +kernel
theorem dX7_tick_49 : decode cX7_tick 49 = .ok (.aload_n 0, 1) := by decide +kernel
theorem dX7_tick_50 : decode cX7_tick 50 = .ok (.getfield 9, 3) := by decide +kernel
theorem dX7_tick_53 : decode cX7_tick 53 = .ok (.sipush 285, 3) := by decide +kernel
theorem dX7_tick_56 : decode cX7_tick 56 = .ok (.iaload, 1) := by decide +kernel
theorem dX7_tick_57 : decode cX7_tick 57 = .ok (.ireturn, 1) := by decide +kernel
theorem dX7_statistic_0 : decode cX7_statistic 0 = .ok (.aload_n 0, 1) := by decide +kernel
theorem dX7_statistic_1 : decode cX7_statistic 1 = .ok (.iload_n 1, 1) := by decide +kernel
theorem dX7_statistic_2 : decode cX7_statistic 2 = .ok (.iconst 0, 1) := by decide +kernel
theorem dX7_statistic_3 : decode cX7_statistic 3 = .ok (.iconst 4, 1) := by decide +kernel
theorem dX7_statistic_4 : decode cX7_statistic 4 = .ok (.invokestatic 51, 3) := by decide +kernel
theorem dX7_statistic_7 : decode cX7_statistic 7 = .ok (.ifCond .eq 7, 3) := by decide +kernel
theorem dX7_statistic_10 : decode cX7_statistic 10 = .ok (.iconst 0, 1) := by decide +kernel
theorem dX7_statistic_11 : decode cX7_statistic 11 = .ok (.goto 4, 3) := by decide +kernel
theorem dX7_statistic_14 : decode cX7_statistic 14 = .ok (.iconst 1, 1) := by decide +kernel
theorem dX7_statistic_15 : decode cX7_statistic 15 = .ok (.putfield 47, 3) := by decide +kernel
theorem dX7_statistic_18 : decode cX7_statistic 18 = .ok (.aload_n 0, 1) := by decide +kernel
theorem dX7_statistic_19 : decode cX7_statistic 19 = .ok (.getfield 47, 3) := by decide +kernel
theorem dX7_statistic_22 : decode cX7_statistic 22 = .ok (.ifCond .ne 16, 3) := by decide +kernel
theorem dX7_statistic_25 : decode cX7_statistic 25 = .ok (.aload_n 0, 1) := by decide +kernel
theorem dX7_statistic_26 : decode cX7_statistic 26 = .ok (.getfield 9, 3) := by decide +kernel
theorem dX7_statistic_29 : decode cX7_statistic 29 = .ok (.sipush 285, 3) := by decide +kernel
theorem dX7_statistic_32 : decode cX7_statistic 32 = .ok (.iload_n 1, 1) := by decide +kernel
theorem dX7_statistic_33 : decode cX7_statistic 33 = .ok (.iadd, 1) := by decide +kernel
theorem dX7_statistic_34 : decode cX7_statistic 34 = .ok (.iaload, 1) := by decide +kernel
theorem dX7_statistic_35 : decode cX7_statistic 35 = .ok (.goto 4, 3) := by decide +kernel
theorem dX7_statistic_38 : decode cX7_statistic 38 = .ok (.iconst 0, 1) := by decide +kernel
theorem dX7_statistic_39 : decode cX7_statistic 39 = .ok (.ireturn, 1) := by decide +kernel
theorem dX7_forecast_0 : decode cX7_forecast 0 = .ok (.aload_n 0, 1) := by decide +kernel
theorem dX7_forecast_1 : decode cX7_forecast 1 = .ok (.aload_n 0, 1) := by decide +kernel
theorem dX7_forecast_2 : decode cX7_forecast 2 = .ok (.iload_n 1, 1) := by decide +kernel
theorem dX7_forecast_3 : decode cX7_forecast 3 = .ok (.invokevirtual 102, 3) := by decide +kernel
theorem dX7_forecast_6 : decode cX7_forecast 6 = .ok (.ifCond .eq 7, 3) := by decide +kernel
theorem dX7_forecast_9 : decode cX7_forecast 9 = .ok (.iconst 0, 1) := by decide +kernel
theorem dX7_forecast_10 : decode cX7_forecast 10 = .ok (.goto 4, 3) := by decide +kernel
theorem dX7_forecast_13 : decode cX7_forecast 13 = .ok (.iconst 1, 1) := by decide +kernel
theorem dX7_forecast_14 : decode cX7_forecast 14 = .ok (.putfield 47, 3) := by decide +kernel
theorem dX7_forecast_17 : decode cX7_forecast 17 = .ok (.aload_n 0, 1) := by decide +kernel
theorem dX7_forecast_18 : decode cX7_forecast 18 = .ok (.getfield 47, 3) := by decide +kernel
theorem dX7_forecast_21 : decode cX7_forecast 21 = .ok (.ifCond .eq 5, 3) := by decide +kernel
theorem dX7_forecast_24 : decode cX7_forecast 24 = .ok (.iconst 0, 1) := by decide +kernel
theorem dX7_forecast_25 : decode cX7_forecast 25 = .ok (.ireturn, 1) := by decide +kernel
theorem dX7_forecast_26 : decode cX7_forecast 26 = .ok (.iconst 0, 1) := by decide +kernel
theorem dX7_forecast_27 : decode cX7_forecast 27 = .ok (.istore_n 2, 1) := by decide +kernel
theorem dX7_forecast_28 : decode cX7_forecast 28 = .ok (.iload_n 2, 1) := by decide +kernel
theorem dX7_forecast_29 : decode cX7_forecast 29 = .ok (.sipush 434, 3) := by decide +kernel
theorem dX7_forecast_32 : decode cX7_forecast 32 = .ok (.if_icmp .ge 21, 3) := by decide +kernel
theorem dX7_forecast_35 : decode cX7_forecast 35 = .ok (.aload_n 0, 1) := by decide +kernel
theorem dX7_forecast_36 : decode cX7_forecast 36 = .ok (.getfield 16, 3) := by decide +kernel
theorem dX7_forecast_39 : decode cX7_forecast 39 = .ok (.iload_n 2, 1) := by decide +kernel
theorem dX7_forecast_40 : decode cX7_forecast 40 = .ok (.aload_n 0, 1) := by decide +kernel
theorem dX7_forecast_41 : decode cX7_forecast 41 = .ok (.getfield 9, 3) := by decide +kernel
theorem dX7_forecast_44 : decode cX7_forecast 44 = .ok (.iload_n 2, 1) := by decide +kernel
theorem dX7_forecast_45 : decode cX7_forecast 45 = .ok (.iaload, 1) := by decide +kernel
theorem dX7_forecast_46 : decode cX7_forecast 46 = .ok (.iastore, 1) := by decide +kernel
theorem dX7_forecast_47 : decode cX7_forecast 47 = .ok (.iinc 2 1, 3) := by decide +kernel
theorem dX7_forecast_50 : decode cX7_forecast 50 = .ok (.goto (-22), 3) := by decide +kernel
theorem dX7_forecast_53 : decode cX7_forecast 53 = .ok (.iconst 0, 1) := by decide +kernel
theorem dX7_forecast_54 : decode cX7_forecast 54 = .ok (.istore_n 2, 1) := by decide +kernel
theorem dX7_forecast_55 : decode cX7_forecast 55 = .ok (.iload_n 2, 1) := by decide +kernel
theorem dX7_forecast_56 : decode cX7_forecast 56 = .ok (.bipush 100, 2) := by decide +kernel
theorem dX7_forecast_58 : decode cX7_forecast 58 = .ok (.if_icmp .ge 21, 3) := by decide +kernel
theorem dX7_forecast_61 : decode cX7_forecast 61 = .ok (.aload_n 0, 1) := by decide +kernel
theorem dX7_forecast_62 : decode cX7_forecast 62 = .ok (.iload_n 1, 1) := by decide +kernel
theorem dX7_forecast_63 : decode cX7_forecast 63 = .ok (.invokevirtual 129, 3) := by decide +kernel
theorem dX7_forecast_66 : decode cX7_forecast 66 = .ok (.ifCond .ne 13, 3) := by decide +kernel
theorem dX7_forecast_69 : decode cX7_forecast 69 = .ok (.aload_n 0, 1) := by decide +kernel
theorem dX7_forecast_70 : decode cX7_forecast 70 = .ok (.invokevirtual 171, 3) := by decide +kernel
theorem dX7_forecast_73 : decode cX7_forecast 73 = .ok (.iinc 2 1, 3) := by decide +kernel
theorem dX7_forecast_76 : decode cX7_forecast 76 = .ok (.goto (-21), 3) := by decide +kernel
theorem dX7_forecast_79 : decode cX7_forecast 79 = .ok (.aload_n 0, 1) := by decide +kernel
theorem dX7_forecast_80 : decode cX7_forecast 80 = .ok (.aload_n 0, 1) := by decide +kernel
theorem dX7_forecast_81 : decode cX7_forecast 81 = .ok (.iload_n 1, 1) := by decide +kernel
theorem dX7_forecast_82 : decode cX7_forecast 82 = .ok (.invokevirtual 129, 3) := by decide +kernel
theorem dX7_forecast_85 : decode cX7_forecast 85 = .ok (.ifCond .eq 7, 3) := by decide +kernel
theorem dX7_forecast_88 : decode cX7_forecast 88 = .ok (.iconst 0, 1) := by decide +kernel
theorem dX7_forecast_89 : decode cX7_forecast 89 = .ok (.goto 4, 3) := by decide +kernel
theorem dX7_forecast_92 : decode cX7_forecast 92 = .ok (.iconst 2, 1) := by decide +kernel
theorem dX7_forecast_93 : decode cX7_forecast 93 = .ok (.putfield 47, 3) := by decide +kernel
theorem dX7_forecast_96 : decode cX7_forecast 96 = .ok (.iconst 0, 1) := by decide +kernel
theorem dX7_forecast_97 : decode cX7_forecast 97 = .ok (.istore_n 3, 1) := by decide +kernel
theorem dX7_forecast_98 : decode cX7_forecast 98 = .ok (.iload_n 3, 1) := by decide +kernel
theorem dX7_forecast_99 : decode cX7_forecast 99 = .ok (.sipush 434, 3) := by decide +kernel
theorem dX7_forecast_102 : decode cX7_forecast 102 = .ok (.if_icmp .ge 21, 3) := by decide +kernel
theorem dX7_forecast_105 : decode cX7_forecast 105 = .ok (.aload_n 0, 1) := by decide +kernel
theorem dX7_forecast_106 : decode cX7_forecast 106 = .ok (.getfield 9, 3) := by decide +kernel
theorem dX7_forecast_109 : decode cX7_forecast 109 = .ok (.iload_n 3, 1) := by decide +kernel
theorem dX7_forecast_110 : decode cX7_forecast 110 = .ok (.aload_n 0, 1) := by decide +kernel
theorem dX7_forecast_111 : decode cX7_forecast 111 = .ok (.getfield 16, 3) := by decide +kernel
theorem dX7_forecast_114 : decode cX7_forecast 114 = .ok (.iload_n 3, 1) := by decide +kernel
theorem dX7_forecast_115 : decode cX7_forecast 115 = .ok (.iaload, 1) := by decide +kernel
theorem dX7_forecast_116 : decode cX7_forecast 116 = .ok (.iastore, 1) := by decide +kernel
theorem dX7_forecast_117 : decode cX7_forecast 117 = .ok (.iinc 3 1, 3) := by decide +kernel
theorem dX7_forecast_120 : decode cX7_forecast 120 = .ok (.goto (-22), 3) := by decide +kernel
theorem dX7_forecast_123 : decode cX7_forecast 123 = .ok (.aload_n 0, 1) := by decide +kernel
theorem dX7_forecast_124 : decode cX7_forecast 124 = .ok (.getfield 47, 3) := by decide +kernel
theorem dX7_forecast_127 : decode cX7_forecast 127 = .ok (.ifCond .ne 7, 3) := by decide +kernel
theorem dX7_forecast_130 : decode cX7_forecast 130 = .ok (.iload_n 2, 1) := by decide +kernel
theorem dX7_forecast_131 : decode cX7_forecast 131 = .ok (.goto 4, 3) := by decide +kernel
theorem dX7_forecast_134 : decode cX7_forecast 134 = .ok (.iconst 0, 1) := by decide +kernel
theorem dX7_forecast_135 : decode cX7_forecast 135 = .ok (.ireturn, 1) := by decide +kernel
theorem dX7_bottleneck_0 : decode cX7_bottleneck 0 = .ok (.iconst 0, 1) := by decide +kernel
theorem dX7_bottleneck_1 : decode cX7_bottleneck 1 = .ok (.istore_n 1, 1) := by decide +kernel
theorem dX7_bottleneck_2 : decode cX7_bottleneck 2 = .ok (.iconst 1, 1) := by decide +kernel
theorem dX7_bottleneck_3 : decode cX7_bottleneck 3 = .ok (.istore_n 2, 1) := by decide +kernel
theorem dX7_bottleneck_4 : decode cX7_bottleneck 4 = .ok (.iload_n 2, 1) := by decide +kernel
theorem dX7_bottleneck_5 : decode cX7_bottleneck 5 = .ok (.sipush 140, 3) := by decide +kernel
theorem dX7_bottleneck_8 : decode cX7_bottleneck 8 = .ok (.if_icmp .ge 38, 3) := by decide +kernel
theorem dX7_bottleneck_11 : decode cX7_bottleneck 11 = .ok (.aload_n 0, 1) := by decide +kernel
theorem dX7_bottleneck_12 : decode cX7_bottleneck 12 = .ok (.getfield 9, 3) := by decide +kernel
theorem dX7_bottleneck_15 : decode cX7_bottleneck 15 = .ok (.sipush 140, 3) := by decide +kernel
theorem dX7_bottleneck_18 : decode cX7_bottleneck 18 = .ok (.iload_n 2, 1) := by decide +kernel
theorem dX7_bottleneck_19 : decode cX7_bottleneck 19 = .ok (.iadd, 1) := by decide +kernel
theorem dX7_bottleneck_20 : decode cX7_bottleneck 20 = .ok (.iaload, 1) := by decide +kernel
theorem dX7_bottleneck_21 : decode cX7_bottleneck 21 = .ok (.aload_n 0, 1) := by decide +kernel
theorem dX7_bottleneck_22 : decode cX7_bottleneck 22 = .ok (.getfield 9, 3) := by decide +kernel
theorem dX7_bottleneck_25 : decode cX7_bottleneck 25 = .ok (.sipush 140, 3) := by decide +kernel
theorem dX7_bottleneck_28 : decode cX7_bottleneck 28 = .ok (.iload_n 1, 1) := by decide +kernel
theorem dX7_bottleneck_29 : decode cX7_bottleneck 29 = .ok (.iadd, 1) := by decide +kernel
theorem dX7_bottleneck_30 : decode cX7_bottleneck 30 = .ok (.iaload, 1) := by decide +kernel
theorem dX7_bottleneck_31 : decode cX7_bottleneck 31 = .ok (.if_icmp .le 7, 3) := by decide +kernel
theorem dX7_bottleneck_34 : decode cX7_bottleneck 34 = .ok (.iload_n 2, 1) := by decide +kernel
theorem dX7_bottleneck_35 : decode cX7_bottleneck 35 = .ok (.goto 4, 3) := by decide +kernel
theorem dX7_bottleneck_38 : decode cX7_bottleneck 38 = .ok (.iload_n 1, 1) := by decide +kernel
theorem dX7_bottleneck_39 : decode cX7_bottleneck 39 = .ok (.istore_n 1, 1) := by decide +kernel
theorem dX7_bottleneck_40 : decode cX7_bottleneck 40 = .ok (.iinc 2 1, 3) := by decide +kernel
theorem dX7_bottleneck_43 : decode cX7_bottleneck 43 = .ok (.goto (-39), 3) := by decide +kernel
theorem dX7_bottleneck_46 : decode cX7_bottleneck 46 = .ok (.aload_n 0, 1) := by decide +kernel
theorem dX7_bottleneck_47 : decode cX7_bottleneck 47 = .ok (.aload_n 0, 1) := by decide +kernel
theorem dX7_bottleneck_48 : decode cX7_bottleneck 48 = .ok (.getfield 9, 3) := by decide +kernel
theorem dX7_bottleneck_51 : decode cX7_bottleneck 51 = .ok (.sipush 140, 3) := by decide +kernel
theorem dX7_bottleneck_54 : decode cX7_bottleneck 54 = .ok (.iload_n 1, 1) := by decide +kernel
theorem dX7_bottleneck_55 : decode cX7_bottleneck 55 = .ok (.iadd, 1) := by decide +kernel
theorem dX7_bottleneck_56 : decode cX7_bottleneck 56 = .ok (.iaload, 1) := by decide +kernel
theorem dX7_bottleneck_57 : decode cX7_bottleneck 57 = .ok (.ifCond .ne 7, 3) := by decide +kernel
theorem dX7_bottleneck_60 : decode cX7_bottleneck 60 = .ok (.iconst 1, 1) := by decide +kernel
theorem dX7_bottleneck_61 : decode cX7_bottleneck 61 = .ok (.goto 4, 3) := by decide +kernel
theorem dX7_bottleneck_64 : decode cX7_bottleneck 64 = .ok (.iconst 0, 1) := by decide +kernel
theorem dX7_bottleneck_65 : decode cX7_bottleneck 65 = .ok (.putfield 47, 3) := by decide +kernel
theorem dX7_bottleneck_68 : decode cX7_bottleneck 68 = .ok (.aload_n 0, 1) := by decide +kernel
theorem dX7_bottleneck_69 : decode cX7_bottleneck 69 = .ok (.getfield 47, 3) := by decide +kernel
theorem dX7_bottleneck_72 : decode cX7_bottleneck 72 = .ok (.ifCond .ne 18, 3) := by decide +kernel
theorem dX7_bottleneck_75 : decode cX7_bottleneck 75 = .ok (.bipush 100, 2) := by decide +kernel
theorem dX7_bottleneck_77 : decode cX7_bottleneck 77 = .ok (.iload_n 1, 1) := by decide +kernel
theorem dX7_bottleneck_78 : decode cX7_bottleneck 78 = .ok (.invokestatic 59, 3) := by decide +kernel
theorem dX7_bottleneck_81 : decode cX7_bottleneck 81 = .ok (.imul, 1) := by decide +kernel
theorem dX7_bottleneck_82 : decode cX7_bottleneck 82 = .ok (.iload_n 1, 1) := by decide +kernel
theorem dX7_bottleneck_83 : decode cX7_bottleneck 83 = .ok (.invokestatic 55, 3) := by decide +kernel
theorem dX7_bottleneck_86 : decode cX7_bottleneck 86 = .ok (.iadd, 1) := by decide +kernel
theorem dX7_bottleneck_87 : decode cX7_bottleneck 87 = .ok (.goto 4, 3) := by decide +kernel
theorem dX7_bottleneck_90 : decode cX7_bottleneck 90 = .ok (.iconst 0, 1) := by decide +kernel
theorem dX7_bottleneck_91 : decode cX7_bottleneck 91 = .ok (.ireturn, 1) := by decide +kernel
theorem dX7_bits_0 : decode cX7_bits 0 = .ok (.iconst 0, 1) := by decide +kernel
theorem dX7_bits_1 : decode cX7_bits 1 = .ok (.istore_n 1, 1) := by decide +kernel
theorem dX7_bits_2 : decode cX7_bits 2 = .ok (.iload_n 0, 1) := by decide +kernel
theorem dX7_bits_3 : decode cX7_bits 3 = .ok (.istore_n 2, 1) := by decide +kernel
theorem dX7_bits_4 : decode cX7_bits 4 = .ok (.iload_n 2, 1) := by decide +kernel
theorem dX7_bits_5 : decode cX7_bits 5 = .ok (.ifCond .eq 15, 3) := by decide +kernel
theorem dX7_bits_8 : decode cX7_bits 8 = .ok (.iinc 1 1, 3) := by decide +kernel
theorem dX7_bits_11 : decode cX7_bits 11 = .ok (.iload_n 2, 1) := by decide +kernel
theorem dX7_bits_12 : decode cX7_bits 12 = .ok (.iload_n 2, 1) := by decide +kernel
theorem dX7_bits_13 : decode cX7_bits 13 = .ok (.iconst 1, 1) := by decide +kernel
theorem dX7_bits_14 : decode cX7_bits 14 = .ok (.isub, 1) := by decide +kernel
theorem dX7_bits_15 : decode cX7_bits 15 = .ok (.iand, 1) := by decide +kernel
theorem dX7_bits_16 : decode cX7_bits 16 = .ok (.istore_n 2, 1) := by decide +kernel
theorem dX7_bits_17 : decode cX7_bits 17 = .ok (.goto (-13), 3) := by decide +kernel
theorem dX7_bits_20 : decode cX7_bits 20 = .ok (.iload_n 1, 1) := by decide +kernel
theorem dX7_bits_21 : decode cX7_bits 21 = .ok (.ireturn, 1) := by decide +kernel
theorem dX7_connected_0 : decode cX7_connected 0 = .ok (.iconst 1, 1) := by decide +kernel
theorem dX7_connected_1 : decode cX7_connected 1 = .ok (.iload_n 1, 1) := by decide +kernel
theorem dX7_connected_2 : decode cX7_connected 2 = .ok (.ishl, 1) := by decide +kernel
theorem dX7_connected_3 : decode cX7_connected 3 = .ok (.istore_n 2, 1) := by decide +kernel
theorem dX7_connected_4 : decode cX7_connected 4 = .ok (.iconst 0, 1) := by decide +kernel
theorem dX7_connected_5 : decode cX7_connected 5 = .ok (.istore_n 3, 1) := by decide +kernel
theorem dX7_connected_6 : decode cX7_connected 6 = .ok (.iload_n 2, 1) := by decide +kernel
theorem dX7_connected_7 : decode cX7_connected 7 = .ok (.iload_n 3, 1) := by decide +kernel
theorem dX7_connected_8 : decode cX7_connected 8 = .ok (.if_icmp .eq 91, 3) := by decide +kernel
theorem dX7_connected_11 : decode cX7_connected 11 = .ok (.iload_n 2, 1) := by decide +kernel
theorem dX7_connected_12 : decode cX7_connected 12 = .ok (.istore_n 3, 1) := by decide +kernel
theorem dX7_connected_13 : decode cX7_connected 13 = .ok (.iconst 0, 1) := by decide +kernel
theorem dX7_connected_14 : decode cX7_connected 14 = .ok (.istore 4, 2) := by decide +kernel
theorem dX7_connected_16 : decode cX7_connected 16 = .ok (.iload 4, 2) := by decide +kernel
theorem dX7_connected_18 : decode cX7_connected 18 = .ok (.bipush 16, 2) := by decide +kernel
theorem dX7_connected_20 : decode cX7_connected 20 = .ok (.if_icmp .ge 76, 3) := by decide +kernel
theorem dX7_connected_23 : decode cX7_connected 23 = .ok (.iconst 0, 1) := by decide +kernel
theorem dX7_connected_24 : decode cX7_connected 24 = .ok (.istore 5, 2) := by decide +kernel
theorem dX7_connected_26 : decode cX7_connected 26 = .ok (.iload 5, 2) := by decide +kernel
theorem dX7_connected_28 : decode cX7_connected 28 = .ok (.bipush 16, 2) := by decide +kernel
theorem dX7_connected_30 : decode cX7_connected 30 = .ok (.if_icmp .ge 60, 3) := by decide +kernel
theorem dX7_connected_33 : decode cX7_connected 33 = .ok (.iload_n 3, 1) := by decide +kernel
theorem dX7_connected_34 : decode cX7_connected 34 = .ok (.iload 4, 2) := by decide +kernel
theorem dX7_connected_36 : decode cX7_connected 36 = .ok (.ishr, 1) := by decide +kernel
theorem dX7_connected_37 : decode cX7_connected 37 = .ok (.iconst 1, 1) := by decide +kernel
theorem dX7_connected_38 : decode cX7_connected 38 = .ok (.iand, 1) := by decide +kernel
theorem dX7_connected_39 : decode cX7_connected 39 = .ok (.iconst 1, 1) := by decide +kernel
theorem dX7_connected_40 : decode cX7_connected 40 = .ok (.if_icmp .ne 50, 3) := by decide +kernel
theorem dX7_connected_43 : decode cX7_connected 43 = .ok (.iload_n 2, 1) := by decide +kernel
theorem dX7_connected_44 : decode cX7_connected 44 = .ok (.aload_n 0, 1) := by decide +kernel
theorem dX7_connected_45 : decode cX7_connected 45 = .ok (.iload 5, 2) := by decide +kernel
theorem dX7_connected_47 : decode cX7_connected 47 = .ok (.invokevirtual 132, 3) := by decide +kernel
theorem dX7_connected_50 : decode cX7_connected 50 = .ok (.ifCond .eq 31, 3) := by decide +kernel
theorem dX7_connected_53 : decode cX7_connected 53 = .ok (.aload_n 0, 1) := by decide +kernel
theorem dX7_connected_54 : decode cX7_connected 54 = .ok (.iload 4, 2) := by decide +kernel
theorem dX7_connected_56 : decode cX7_connected 56 = .ok (.iconst 1, 1) := by decide +kernel
theorem dX7_connected_57 : decode cX7_connected 57 = .ok (.invokevirtual 105, 3) := by decide +kernel
theorem dX7_connected_60 : decode cX7_connected 60 = .ok (.aload_n 0, 1) := by decide +kernel
theorem dX7_connected_61 : decode cX7_connected 61 = .ok (.iload 5, 2) := by decide +kernel
theorem dX7_connected_63 : decode cX7_connected 63 = .ok (.iconst 1, 1) := by decide +kernel
theorem dX7_connected_64 : decode cX7_connected 64 = .ok (.invokevirtual 105, 3) := by decide +kernel
theorem dX7_connected_67 : decode cX7_connected 67 = .ok (.invokestatic 143, 3) := by decide +kernel
theorem dX7_connected_70 : decode cX7_connected 70 = .ok (.iconst 1, 1) := by decide +kernel
theorem dX7_connected_71 : decode cX7_connected 71 = .ok (.if_icmp .ne 10, 3) := by decide +kernel
theorem dX7_connected_74 : decode cX7_connected 74 = .ok (.iconst 1, 1) := by decide +kernel
theorem dX7_connected_75 : decode cX7_connected 75 = .ok (.iload 5, 2) := by decide +kernel
theorem dX7_connected_77 : decode cX7_connected 77 = .ok (.ishl, 1) := by decide +kernel
theorem dX7_connected_78 : decode cX7_connected 78 = .ok (.goto 4, 3) := by decide +kernel
theorem dX7_connected_81 : decode cX7_connected 81 = .ok (.iconst 0, 1) := by decide +kernel
theorem dX7_connected_82 : decode cX7_connected 82 = .ok (.ior, 1) := by decide +kernel
theorem dX7_connected_83 : decode cX7_connected 83 = .ok (.istore_n 2, 1) := by decide +kernel
theorem dX7_connected_84 : decode cX7_connected 84 = .ok (.iinc 5 1, 3) := by decide +kernel
theorem dX7_connected_87 : decode cX7_connected 87 = .ok (.goto (-61), 3) := by decide +kernel
theorem dX7_connected_90 : decode cX7_connected 90 = .ok (.iinc 4 1, 3) := by decide +kernel
theorem dX7_connected_93 : decode cX7_connected 93 = .ok (.goto (-77), 3) := by decide +kernel
theorem dX7_connected_96 : decode cX7_connected 96 = .ok (.goto (-90), 3) := by decide +kernel
theorem dX7_connected_99 : decode cX7_connected 99 = .ok (.iload_n 2, 1) := by decide +kernel
theorem dX7_connected_100 : decode cX7_connected 100 = .ok (.ireturn, 1) := by decide +kernel
theorem dX7_jamOf_0 : decode cX7_jamOf 0 = .ok (.iconst 0, 1) := by decide +kernel
theorem dX7_jamOf_1 : decode cX7_jamOf 1 = .ok (.istore_n 2, 1) := by decide +kernel
theorem dX7_jamOf_2 : decode cX7_jamOf 2 = .ok (.iconst 0, 1) := by decide +kernel
theorem dX7_jamOf_3 : decode cX7_jamOf 3 = .ok (.istore_n 3, 1) := by decide +kernel
theorem dX7_jamOf_4 : decode cX7_jamOf 4 = .ok (.iconst 0, 1) := by decide +kernel
theorem dX7_jamOf_5 : decode cX7_jamOf 5 = .ok (.istore 4, 2) := by decide +kernel
theorem dX7_jamOf_7 : decode cX7_jamOf 7 = .ok (.iload 4, 2) := by decide +kernel
theorem dX7_jamOf_9 : decode cX7_jamOf 9 = .ok (.bipush 16, 2) := by decide +kernel
theorem dX7_jamOf_11 : decode cX7_jamOf 11 = .ok (.if_icmp .ge 64, 3) := by decide +kernel
theorem dX7_jamOf_14 : decode cX7_jamOf 14 = .ok (.aload_n 0, 1) := by decide +kernel
theorem dX7_jamOf_15 : decode cX7_jamOf 15 = .ok (.iload 4, 2) := by decide +kernel
theorem dX7_jamOf_17 : decode cX7_jamOf 17 = .ok (.invokevirtual 132, 3) := by decide +kernel
theorem dX7_jamOf_20 : decode cX7_jamOf 20 = .ok (.ifCond .eq 49, 3) := by decide +kernel
theorem dX7_jamOf_23 : decode cX7_jamOf 23 = .ok (.iload_n 2, 1) := by decide +kernel
theorem dX7_jamOf_24 : decode cX7_jamOf 24 = .ok (.iload 4, 2) := by decide +kernel
theorem dX7_jamOf_26 : decode cX7_jamOf 26 = .ok (.ishr, 1) := by decide +kernel
theorem dX7_jamOf_27 : decode cX7_jamOf 27 = .ok (.iconst 1, 1) := by decide +kernel
theorem dX7_jamOf_28 : decode cX7_jamOf 28 = .ok (.iand, 1) := by decide +kernel
theorem dX7_jamOf_29 : decode cX7_jamOf 29 = .ok (.iconst 1, 1) := by decide +kernel
theorem dX7_jamOf_30 : decode cX7_jamOf 30 = .ok (.if_icmp .ne 6, 3) := by decide +kernel
theorem dX7_jamOf_33 : decode cX7_jamOf 33 = .ok (.goto 36, 3) := by decide +kernel
theorem dX7_jamOf_36 : decode cX7_jamOf 36 = .ok (.aload_n 0, 1) := by decide +kernel
theorem dX7_jamOf_37 : decode cX7_jamOf 37 = .ok (.iload 4, 2) := by decide +kernel
theorem dX7_jamOf_39 : decode cX7_jamOf 39 = .ok (.invokevirtual 174, 3) := by decide +kernel
theorem dX7_jamOf_42 : decode cX7_jamOf 42 = .ok (.istore 5, 2) := by decide +kernel
theorem dX7_jamOf_44 : decode cX7_jamOf 44 = .ok (.iload_n 2, 1) := by decide +kernel
theorem dX7_jamOf_45 : decode cX7_jamOf 45 = .ok (.iload 5, 2) := by decide +kernel
theorem dX7_jamOf_47 : decode cX7_jamOf 47 = .ok (.ior, 1) := by decide +kernel
theorem dX7_jamOf_48 : decode cX7_jamOf 48 = .ok (.istore_n 2, 1) := by decide +kernel
theorem dX7_jamOf_49 : decode cX7_jamOf 49 = .ok (.iload 5, 2) := by decide +kernel
theorem dX7_jamOf_51 : decode cX7_jamOf 51 = .ok (.invokestatic 177, 3) := by decide +kernel
theorem dX7_jamOf_54 : decode cX7_jamOf 54 = .ok (.iconst 1, 1) := by decide +kernel
theorem dX7_jamOf_55 : decode cX7_jamOf 55 = .ok (.if_icmp .le 14, 3) := by decide +kernel
theorem dX7_jamOf_58 : decode cX7_jamOf 58 = .ok (.iload_n 3, 1) := by decide +kernel
theorem dX7_jamOf_59 : decode cX7_jamOf 59 = .ok (.iload_n 1, 1) := by decide +kernel
theorem dX7_jamOf_60 : decode cX7_jamOf 60 = .ok (.if_icmp .ne 6, 3) := by decide +kernel
theorem dX7_jamOf_63 : decode cX7_jamOf 63 = .ok (.iload 5, 2) := by decide +kernel
theorem dX7_jamOf_65 : decode cX7_jamOf 65 = .ok (.ireturn, 1) := by decide +kernel
theorem dX7_jamOf_66 : decode cX7_jamOf 66 = .ok (.iinc 3 1, 3) := by decide +kernel
theorem dX7_jamOf_69 : decode cX7_jamOf 69 = .ok (.iinc 4 1, 3) := by decide +kernel
theorem dX7_jamOf_72 : decode cX7_jamOf 72 = .ok (.goto (-65), 3) := by decide +kernel
theorem dX7_jamOf_75 : decode cX7_jamOf 75 = .ok (.iload_n 1, 1) := by decide +kernel
theorem dX7_jamOf_76 : decode cX7_jamOf 76 = .ok (.ifCond .ge 7, 3) := by decide +kernel
theorem dX7_jamOf_79 : decode cX7_jamOf 79 = .ok (.iload_n 3, 1) := by decide +kernel
theorem dX7_jamOf_80 : decode cX7_jamOf 80 = .ok (.goto 4, 3) := by decide +kernel
theorem dX7_jamOf_83 : decode cX7_jamOf 83 = .ok (.iconst 0, 1) := by decide +kernel
theorem dX7_jamOf_84 : decode cX7_jamOf 84 = .ok (.ireturn, 1) := by decide +kernel
theorem dX7_jams_0 : decode cX7_jams 0 = .ok (.aload_n 0, 1) := by decide +kernel
theorem dX7_jams_1 : decode cX7_jams 1 = .ok (.iconst 0, 1) := by decide +kernel
theorem dX7_jams_2 : decode cX7_jams 2 = .ok (.putfield 47, 3) := by decide +kernel
theorem dX7_jams_5 : decode cX7_jams 5 = .ok (.aload_n 0, 1) := by decide +kernel
theorem dX7_jams_6 : decode cX7_jams 6 = .ok (.iconst (-1), 1) := by decide +kernel
theorem dX7_jams_7 : decode cX7_jams 7 = .ok (.invokevirtual 180, 3) := by decide +kernel
theorem dX7_jams_10 : decode cX7_jams 10 = .ok (.ireturn, 1) := by decide +kernel
theorem dX7_freeAround_0 : decode cX7_freeAround 0 = .ok (.iconst 0, 1) := by decide +kernel
theorem dX7_freeAround_1 : decode cX7_freeAround 1 = .ok (.istore_n 2, 1) := by decide +kernel
theorem dX7_freeAround_2 : decode cX7_freeAround 2 = .ok (.iconst 0, 1) := by decide +kernel
theorem dX7_freeAround_3 : decode cX7_freeAround 3 = .ok (.istore_n 3, 1) := by decide +kernel
theorem dX7_freeAround_4 : decode cX7_freeAround 4 = .ok (.iload_n 3, 1) := by decide +kernel
theorem dX7_freeAround_5 : decode cX7_freeAround 5 = .ok (.sipush 140, 3) := by decide +kernel
theorem dX7_freeAround_8 : decode cX7_freeAround 8 = .ok (.if_icmp .ge 84, 3) := by decide +kernel
theorem dX7_freeAround_11 : decode cX7_freeAround 11 = .ok (.iconst 0, 1) := by decide +kernel
theorem dX7_freeAround_12 : decode cX7_freeAround 12 = .ok (.istore 4, 2) := by decide +kernel
theorem dX7_freeAround_14 : decode cX7_freeAround 14 = .ok (.iconst 0, 1) := by decide +kernel
theorem dX7_freeAround_15 : decode cX7_freeAround 15 = .ok (.istore 5, 2) := by decide +kernel
theorem dX7_freeAround_17 : decode cX7_freeAround 17 = .ok (.iload 5, 2) := by decide +kernel
theorem dX7_freeAround_19 : decode cX7_freeAround 19 = .ok (.bipush 16, 2) := by decide +kernel
theorem dX7_freeAround_21 : decode cX7_freeAround 21 = .ok (.if_icmp .ge 52, 3) := by decide +kernel
theorem dX7_freeAround_24 : decode cX7_freeAround 24 = .ok (.aload_n 0, 1) := by decide +kernel
theorem dX7_freeAround_25 : decode cX7_freeAround 25 = .ok (.iload_n 3, 1) := by decide +kernel
theorem dX7_freeAround_26 : decode cX7_freeAround 26 = .ok (.invokevirtual 150, 3) := by decide +kernel
theorem dX7_freeAround_29 : decode cX7_freeAround 29 = .ok (.ifCond .eq 44, 3) := by decide +kernel
theorem dX7_freeAround_32 : decode cX7_freeAround 32 = .ok (.iload 4, 2) := by decide +kernel
theorem dX7_freeAround_34 : decode cX7_freeAround 34 = .ok (.iload_n 1, 1) := by decide +kernel
theorem dX7_freeAround_35 : decode cX7_freeAround 35 = .ok (.iload 5, 2) := by decide +kernel
theorem dX7_freeAround_37 : decode cX7_freeAround 37 = .ok (.ishr, 1) := by decide +kernel
theorem dX7_freeAround_38 : decode cX7_freeAround 38 = .ok (.iconst 1, 1) := by decide +kernel
theorem dX7_freeAround_39 : decode cX7_freeAround 39 = .ok (.iand, 1) := by decide +kernel
theorem dX7_freeAround_40 : decode cX7_freeAround 40 = .ok (.iconst 1, 1) := by decide +kernel
theorem dX7_freeAround_41 : decode cX7_freeAround 41 = .ok (.if_icmp .ne 22, 3) := by decide +kernel
theorem dX7_freeAround_44 : decode cX7_freeAround 44 = .ok (.aload_n 0, 1) := by decide +kernel
theorem dX7_freeAround_45 : decode cX7_freeAround 45 = .ok (.iload 5, 2) := by decide +kernel
theorem dX7_freeAround_47 : decode cX7_freeAround 47 = .ok (.iconst 1, 1) := by decide +kernel
theorem dX7_freeAround_48 : decode cX7_freeAround 48 = .ok (.invokevirtual 105, 3) := by decide +kernel
theorem dX7_freeAround_51 : decode cX7_freeAround 51 = .ok (.iload_n 3, 1) := by decide +kernel
theorem dX7_freeAround_52 : decode cX7_freeAround 52 = .ok (.invokestatic 143, 3) := by decide +kernel
theorem dX7_freeAround_55 : decode cX7_freeAround 55 = .ok (.iconst 1, 1) := by decide +kernel
theorem dX7_freeAround_56 : decode cX7_freeAround 56 = .ok (.if_icmp .ne 7, 3) := by decide +kernel
theorem dX7_freeAround_59 : decode cX7_freeAround 59 = .ok (.iconst 1, 1) := by decide +kernel
theorem dX7_freeAround_60 : decode cX7_freeAround 60 = .ok (.goto 4, 3) := by decide +kernel
theorem dX7_freeAround_63 : decode cX7_freeAround 63 = .ok (.iconst 0, 1) := by decide +kernel
theorem dX7_freeAround_64 : decode cX7_freeAround 64 = .ok (.ior, 1) := by decide +kernel
theorem dX7_freeAround_65 : decode cX7_freeAround 65 = .ok (.istore 4, 2) := by decide +kernel
theorem dX7_freeAround_67 : decode cX7_freeAround 67 = .ok (.iinc 5 1, 3) := by decide +kernel
theorem dX7_freeAround_70 : decode cX7_freeAround 70 = .ok (.goto (-53), 3) := by decide +kernel
theorem dX7_freeAround_73 : decode cX7_freeAround 73 = .ok (.iload_n 2, 1) := by decide +kernel
theorem dX7_freeAround_74 : decode cX7_freeAround 74 = .ok (.iload 4, 2) := by decide +kernel
theorem dX7_freeAround_76 : decode cX7_freeAround 76 = .ok (.ifCond .eq 7, 3) := by decide +kernel
theorem dX7_freeAround_79 : decode cX7_freeAround 79 = .ok (.iconst 1, 1) := by decide +kernel
theorem dX7_freeAround_80 : decode cX7_freeAround 80 = .ok (.goto 4, 3) := by decide +kernel
theorem dX7_freeAround_83 : decode cX7_freeAround 83 = .ok (.iconst 0, 1) := by decide +kernel
theorem dX7_freeAround_84 : decode cX7_freeAround 84 = .ok (.iadd, 1) := by decide +kernel
theorem dX7_freeAround_85 : decode cX7_freeAround 85 = .ok (.istore_n 2, 1) := by decide +kernel
theorem dX7_freeAround_86 : decode cX7_freeAround 86 = .ok (.iinc 3 1, 3) := by decide +kernel
theorem dX7_freeAround_89 : decode cX7_freeAround 89 = .ok (.goto (-85), 3) := by decide +kernel
theorem dX7_freeAround_92 : decode cX7_freeAround 92 = .ok (.iload_n 2, 1) := by decide +kernel
theorem dX7_freeAround_93 : decode cX7_freeAround 93 = .ok (.ireturn, 1) := by decide +kernel
theorem dX7_waitsOf_0 : decode cX7_waitsOf 0 = .ok (.iconst 0, 1) := by decide +kernel
theorem dX7_waitsOf_1 : decode cX7_waitsOf 1 = .ok (.istore_n 2, 1) := by decide +kernel
theorem dX7_waitsOf_2 : decode cX7_waitsOf 2 = .ok (.iconst 0, 1) := by decide +kernel
theorem dX7_waitsOf_3 : decode cX7_waitsOf 3 = .ok (.istore_n 3, 1) := by decide +kernel
theorem dX7_waitsOf_4 : decode cX7_waitsOf 4 = .ok (.iload_n 3, 1) := by decide +kernel
theorem dX7_waitsOf_5 : decode cX7_waitsOf 5 = .ok (.bipush 16, 2) := by decide +kernel
theorem dX7_waitsOf_7 : decode cX7_waitsOf 7 = .ok (.if_icmp .ge 31, 3) := by decide +kernel
theorem dX7_waitsOf_10 : decode cX7_waitsOf 10 = .ok (.iload_n 2, 1) := by decide +kernel
theorem dX7_waitsOf_11 : decode cX7_waitsOf 11 = .ok (.iload_n 1, 1) := by decide +kernel
theorem dX7_waitsOf_12 : decode cX7_waitsOf 12 = .ok (.iload_n 3, 1) := by decide +kernel
theorem dX7_waitsOf_13 : decode cX7_waitsOf 13 = .ok (.ishr, 1) := by decide +kernel
theorem dX7_waitsOf_14 : decode cX7_waitsOf 14 = .ok (.iconst 1, 1) := by decide +kernel
theorem dX7_waitsOf_15 : decode cX7_waitsOf 15 = .ok (.iand, 1) := by decide +kernel
theorem dX7_waitsOf_16 : decode cX7_waitsOf 16 = .ok (.iconst 1, 1) := by decide +kernel
theorem dX7_waitsOf_17 : decode cX7_waitsOf 17 = .ok (.if_icmp .ne 12, 3) := by decide +kernel
theorem dX7_waitsOf_20 : decode cX7_waitsOf 20 = .ok (.aload_n 0, 1) := by decide +kernel
theorem dX7_waitsOf_21 : decode cX7_waitsOf 21 = .ok (.iload_n 3, 1) := by decide +kernel
theorem dX7_waitsOf_22 : decode cX7_waitsOf 22 = .ok (.iconst 5, 1) := by decide +kernel
theorem dX7_waitsOf_23 : decode cX7_waitsOf 23 = .ok (.invokevirtual 105, 3) := by decide +kernel
theorem dX7_waitsOf_26 : decode cX7_waitsOf 26 = .ok (.goto 4, 3) := by decide +kernel
theorem dX7_waitsOf_29 : decode cX7_waitsOf 29 = .ok (.iconst 0, 1) := by decide +kernel
theorem dX7_waitsOf_30 : decode cX7_waitsOf 30 = .ok (.iadd, 1) := by decide +kernel
theorem dX7_waitsOf_31 : decode cX7_waitsOf 31 = .ok (.istore_n 2, 1) := by decide +kernel
theorem dX7_waitsOf_32 : decode cX7_waitsOf 32 = .ok (.iinc 3 1, 3) := by decide +kernel
theorem dX7_waitsOf_35 : decode cX7_waitsOf 35 = .ok (.goto (-31), 3) := by decide +kernel
theorem dX7_waitsOf_38 : decode cX7_waitsOf 38 = .ok (.iload_n 2, 1) := by decide +kernel
theorem dX7_waitsOf_39 : decode cX7_waitsOf 39 = .ok (.ireturn, 1) := by decide +kernel
theorem dX7_jam_0 : decode cX7_jam 0 = .ok (.iload_n 1, 1) := by decide +kernel
theorem dX7_jam_1 : decode cX7_jam 1 = .ok (.ifCond .ge 7, 3) := by decide +kernel
theorem dX7_jam_4 : decode cX7_jam 4 = .ok (.iconst 0, 1) := by decide +kernel
theorem dX7_jam_5 : decode cX7_jam 5 = .ok (.goto 8, 3) := by decide +kernel
theorem dX7_jam_8 : decode cX7_jam 8 = .ok (.aload_n 0, 1) := by decide +kernel
theorem dX7_jam_9 : decode cX7_jam 9 = .ok (.iload_n 1, 1) := by decide +kernel
theorem dX7_jam_10 : decode cX7_jam 10 = .ok (.invokevirtual 180, 3) := by decide +kernel
theorem dX7_jam_13 : decode cX7_jam 13 = .ok (.istore_n 3, 1) := by decide +kernel
theorem dX7_jam_14 : decode cX7_jam 14 = .ok (.aload_n 0, 1) := by decide +kernel
theorem dX7_jam_15 : decode cX7_jam 15 = .ok (.iload_n 3, 1) := by decide +kernel
theorem dX7_jam_16 : decode cX7_jam 16 = .ok (.ifCond .ne 7, 3) := by decide +kernel
theorem dX7_jam_19 : decode cX7_jam 19 = .ok (.iconst 1, 1) := by decide +kernel
theorem dX7_jam_20 : decode cX7_jam 20 = .ok (.goto 17, 3) := by decide +kernel
theorem dX7_jam_23 : decode cX7_jam 23 = .ok (.iload_n 2, 1) := by decide +kernel
theorem dX7_jam_24 : decode cX7_jam 24 = .ok (.iconst 0, 1) := by decide +kernel
theorem dX7_jam_25 : decode cX7_jam 25 = .ok (.iconst 3, 1) := by decide +kernel
theorem dX7_jam_26 : decode cX7_jam 26 = .ok (.invokestatic 51, 3) := by decide +kernel
theorem dX7_jam_29 : decode cX7_jam 29 = .ok (.ifCond .eq 7, 3) := by decide +kernel
theorem dX7_jam_32 : decode cX7_jam 32 = .ok (.iconst 0, 1) := by decide +kernel
theorem dX7_jam_33 : decode cX7_jam 33 = .ok (.goto 4, 3) := by decide +kernel
theorem dX7_jam_36 : decode cX7_jam 36 = .ok (.iconst 2, 1) := by decide +kernel
theorem dX7_jam_37 : decode cX7_jam 37 = .ok (.putfield 47, 3) := by decide +kernel
theorem dX7_jam_40 : decode cX7_jam 40 = .ok (.aload_n 0, 1) := by decide +kernel
theorem dX7_jam_41 : decode cX7_jam 41 = .ok (.getfield 47, 3) := by decide +kernel
theorem dX7_jam_44 : decode cX7_jam 44 = .ok (.ifCond .eq 5, 3) := by decide +kernel
theorem dX7_jam_47 : decode cX7_jam 47 = .ok (.iconst 0, 1) := by decide +kernel
theorem dX7_jam_48 : decode cX7_jam 48 = .ok (.ireturn, 1) := by decide +kernel
theorem dX7_jam_49 : decode cX7_jam 49 = .ok (.iload_n 2, 1) := by decide +kernel
theorem dX7_jam_50 : decode cX7_jam 50 = .ok (.ifCond .ne 7, 3) := by decide +kernel
theorem dX7_jam_53 : decode cX7_jam 53 = .ok (.iload_n 3, 1) := by decide +kernel
theorem dX7_jam_54 : decode cX7_jam 54 = .ok (.goto 33, 3) := by decide +kernel
theorem dX7_jam_57 : decode cX7_jam 57 = .ok (.iload_n 2, 1) := by decide +kernel
theorem dX7_jam_58 : decode cX7_jam 58 = .ok (.iconst 1, 1) := by decide +kernel
theorem dX7_jam_59 : decode cX7_jam 59 = .ok (.if_icmp .ne 10, 3) := by decide +kernel
theorem dX7_jam_62 : decode cX7_jam 62 = .ok (.iload_n 3, 1) := by decide +kernel
theorem dX7_jam_63 : decode cX7_jam 63 = .ok (.invokestatic 177, 3) := by decide +kernel
theorem dX7_jam_66 : decode cX7_jam 66 = .ok (.goto 21, 3) := by decide +kernel
theorem dX7_jam_69 : decode cX7_jam 69 = .ok (.iload_n 2, 1) := by decide +kernel
theorem dX7_jam_70 : decode cX7_jam 70 = .ok (.iconst 2, 1) := by decide +kernel
theorem dX7_jam_71 : decode cX7_jam 71 = .ok (.if_icmp .ne 11, 3) := by decide +kernel
theorem dX7_jam_74 : decode cX7_jam 74 = .ok (.aload_n 0, 1) := by decide +kernel
theorem dX7_jam_75 : decode cX7_jam 75 = .ok (.iload_n 3, 1) := by decide +kernel
theorem dX7_jam_76 : decode cX7_jam 76 = .ok (.invokevirtual 183, 3) := by decide +kernel
theorem dX7_jam_79 : decode cX7_jam 79 = .ok (.goto 8, 3) := by decide +kernel
theorem dX7_jam_82 : decode cX7_jam 82 = .ok (.aload_n 0, 1) := by decide +kernel
theorem dX7_jam_83 : decode cX7_jam 83 = .ok (.iload_n 3, 1) := by decide +kernel
theorem dX7_jam_84 : decode cX7_jam 84 = .ok (.invokevirtual 186, 3) := by decide +kernel
theorem dX7_jam_87 : decode cX7_jam 87 = .ok (.ireturn, 1) := by decide +kernel
theorem dX7_meanDistance_0 : decode cX7_meanDistance 0 = .ok (.iconst 0, 1) := by decide +kernel
theorem dX7_meanDistance_1 : decode cX7_meanDistance 1 = .ok (.istore_n 1, 1) := by decide +kernel
theorem dX7_meanDistance_2 : decode cX7_meanDistance 2 = .ok (.iconst 0, 1) := by decide +kernel
theorem dX7_meanDistance_3 : decode cX7_meanDistance 3 = .ok (.istore_n 2, 1) := by decide +kernel
theorem dX7_meanDistance_4 : decode cX7_meanDistance 4 = .ok (.iconst 0, 1) := by decide +kernel
theorem dX7_meanDistance_5 : decode cX7_meanDistance 5 = .ok (.istore_n 3, 1) := by decide +kernel
theorem dX7_meanDistance_6 : decode cX7_meanDistance 6 = .ok (.iload_n 3, 1) := by decide +kernel
theorem dX7_meanDistance_7 : decode cX7_meanDistance 7 = .ok (.bipush 16, 2) := by decide +kernel
theorem dX7_meanDistance_9 : decode cX7_meanDistance 9 = .ok (.if_icmp .ge 56, 3) := by decide +kernel
theorem dX7_meanDistance_12 : decode cX7_meanDistance 12 = .ok (.aload_n 0, 1) := by decide +kernel
theorem dX7_meanDistance_13 : decode cX7_meanDistance 13 = .ok (.iload_n 3, 1) := by decide +kernel
theorem dX7_meanDistance_14 : decode cX7_meanDistance 14 = .ok (.invokevirtual 102, 3) := by decide +kernel
theorem dX7_meanDistance_17 : decode cX7_meanDistance 17 = .ok (.ifCond .eq 17, 3) := by decide +kernel
theorem dX7_meanDistance_20 : decode cX7_meanDistance 20 = .ok (.aload_n 0, 1) := by decide +kernel
theorem dX7_meanDistance_21 : decode cX7_meanDistance 21 = .ok (.iload_n 3, 1) := by decide +kernel
theorem dX7_meanDistance_22 : decode cX7_meanDistance 22 = .ok (.aload_n 0, 1) := by decide +kernel
theorem dX7_meanDistance_23 : decode cX7_meanDistance 23 = .ok (.iload_n 3, 1) := by decide +kernel
theorem dX7_meanDistance_24 : decode cX7_meanDistance 24 = .ok (.iconst 1, 1) := by decide +kernel
theorem dX7_meanDistance_25 : decode cX7_meanDistance 25 = .ok (.invokevirtual 105, 3) := by decide +kernel
theorem dX7_meanDistance_28 : decode cX7_meanDistance 28 = .ok (.invokevirtual 126, 3) := by decide +kernel
theorem dX7_meanDistance_31 : decode cX7_meanDistance 31 = .ok (.goto 4, 3) := by decide +kernel
theorem dX7_meanDistance_34 : decode cX7_meanDistance 34 = .ok (.iconst (-1), 1) := by decide +kernel
theorem dX7_meanDistance_35 : decode cX7_meanDistance 35 = .ok (.istore 4, 2) := by decide +kernel
theorem dX7_meanDistance_37 : decode cX7_meanDistance 37 = .ok (.iload_n 1, 1) := by decide +kernel
theorem dX7_meanDistance_38 : decode cX7_meanDistance 38 = .ok (.iload 4, 2) := by decide +kernel
theorem dX7_meanDistance_40 : decode cX7_meanDistance 40 = .ok (.ifCond .ge 7, 3) := by decide +kernel
theorem dX7_meanDistance_43 : decode cX7_meanDistance 43 = .ok (.iconst 0, 1) := by decide +kernel
theorem dX7_meanDistance_44 : decode cX7_meanDistance 44 = .ok (.goto 4, 3) := by decide +kernel
theorem dX7_meanDistance_47 : decode cX7_meanDistance 47 = .ok (.iconst 1, 1) := by decide +kernel
theorem dX7_meanDistance_48 : decode cX7_meanDistance 48 = .ok (.iadd, 1) := by decide +kernel
theorem dX7_meanDistance_49 : decode cX7_meanDistance 49 = .ok (.istore_n 1, 1) := by decide +kernel
theorem dX7_meanDistance_50 : decode cX7_meanDistance 50 = .ok (.iload_n 2, 1) := by decide +kernel
theorem dX7_meanDistance_51 : decode cX7_meanDistance 51 = .ok (.iconst 0, 1) := by decide +kernel
theorem dX7_meanDistance_52 : decode cX7_meanDistance 52 = .ok (.iload 4, 2) := by decide +kernel
theorem dX7_meanDistance_54 : decode cX7_meanDistance 54 = .ok (.invokestatic 189, 3) := by decide +kernel
theorem dX7_meanDistance_57 : decode cX7_meanDistance 57 = .ok (.iadd, 1) := by decide +kernel
theorem dX7_meanDistance_58 : decode cX7_meanDistance 58 = .ok (.istore_n 2, 1) := by decide +kernel
theorem dX7_meanDistance_59 : decode cX7_meanDistance 59 = .ok (.iinc 3 1, 3) := by decide +kernel
theorem dX7_meanDistance_62 : decode cX7_meanDistance 62 = .ok (.goto (-56), 3) := by decide +kernel
theorem dX7_meanDistance_65 : decode cX7_meanDistance 65 = .ok (.aload_n 0, 1) := by decide +kernel
theorem dX7_meanDistance_66 : decode cX7_meanDistance 66 = .ok (.iload_n 1, 1) := by decide +kernel
theorem dX7_meanDistance_67 : decode cX7_meanDistance 67 = .ok (.ifCond .ne 7, 3) := by decide +kernel
theorem dX7_meanDistance_70 : decode cX7_meanDistance 70 = .ok (.iconst 1, 1) := by decide +kernel
theorem dX7_meanDistance_71 : decode cX7_meanDistance 71 = .ok (.goto 4, 3) := by decide +kernel
theorem dX7_meanDistance_74 : decode cX7_meanDistance 74 = .ok (.iconst 0, 1) := by decide +kernel
theorem dX7_meanDistance_75 : decode cX7_meanDistance 75 = .ok (.putfield 47, 3) := by decide +kernel
theorem dX7_meanDistance_78 : decode cX7_meanDistance 78 = .ok (.aload_n 0, 1) := by decide +kernel
theorem dX7_meanDistance_79 : decode cX7_meanDistance 79 = .ok (.getfield 47, 3) := by decide +kernel
theorem dX7_meanDistance_82 : decode cX7_meanDistance 82 = .ok (.ifCond .ne 11, 3) := by decide +kernel
theorem dX7_meanDistance_85 : decode cX7_meanDistance 85 = .ok (.iload_n 2, 1) := by decide +kernel
theorem dX7_meanDistance_86 : decode cX7_meanDistance 86 = .ok (.i2d, 1) := by decide +kernel
theorem dX7_meanDistance_87 : decode cX7_meanDistance 87 = .ok (.iload_n 1, 1) := by decide +kernel
theorem dX7_meanDistance_88 : decode cX7_meanDistance 88 = .ok (.i2d, 1) := by decide +kernel
theorem dX7_meanDistance_89 : decode cX7_meanDistance 89 = .ok (.ddiv, 1) := by decide +kernel
theorem dX7_meanDistance_90 : decode cX7_meanDistance 90 = .ok (.goto 4, 3) := by decide +kernel
theorem dX7_meanDistance_93 : decode cX7_meanDistance 93 = .ok (.dconst 0, 1) := by decide +kernel
theorem dX7_meanDistance_94 : decode cX7_meanDistance 94 = .ok (.dreturn, 1) := by decide +kernel
theorem dX7_density_0 : decode cX7_density 0 = .ok (.iconst 0, 1) := by decide +kernel
theorem dX7_density_1 : decode cX7_density 1 = .ok (.istore_n 1, 1) := by decide +kernel
theorem dX7_density_2 : decode cX7_density 2 = .ok (.iconst 0, 1) := by decide +kernel
theorem dX7_density_3 : decode cX7_density 3 = .ok (.istore_n 2, 1) := by decide +kernel
theorem dX7_density_4 : decode cX7_density 4 = .ok (.iload_n 2, 1) := by decide +kernel
theorem dX7_density_5 : decode cX7_density 5 = .ok (.sipush 140, 3) := by decide +kernel
theorem dX7_density_8 : decode cX7_density 8 = .ok (.if_icmp .ge 25, 3) := by decide +kernel
theorem dX7_density_11 : decode cX7_density 11 = .ok (.iload_n 1, 1) := by decide +kernel
theorem dX7_density_12 : decode cX7_density 12 = .ok (.aload_n 0, 1) := by decide +kernel
theorem dX7_density_13 : decode cX7_density 13 = .ok (.iload_n 2, 1) := by decide +kernel
theorem dX7_density_14 : decode cX7_density 14 = .ok (.invokevirtual 79, 3) := by decide +kernel
theorem dX7_density_17 : decode cX7_density 17 = .ok (.ifCond .eq 7, 3) := by decide +kernel
theorem dX7_density_20 : decode cX7_density 20 = .ok (.iconst 1, 1) := by decide +kernel
theorem dX7_density_21 : decode cX7_density 21 = .ok (.goto 4, 3) := by decide +kernel
theorem dX7_density_24 : decode cX7_density 24 = .ok (.iconst 0, 1) := by decide +kernel
theorem dX7_density_25 : decode cX7_density 25 = .ok (.iadd, 1) := by decide +kernel
theorem dX7_density_26 : decode cX7_density 26 = .ok (.istore_n 1, 1) := by decide +kernel
theorem dX7_density_27 : decode cX7_density 27 = .ok (.iinc 2 1, 3) := by decide +kernel
theorem dX7_density_30 : decode cX7_density 30 = .ok (.goto (-26), 3) := by decide +kernel
theorem dX7_density_33 : decode cX7_density 33 = .ok (.aload_n 0, 1) := by decide +kernel
theorem dX7_density_34 : decode cX7_density 34 = .ok (.iload_n 1, 1) := by decide +kernel
theorem dX7_density_35 : decode cX7_density 35 = .ok (.ifCond .ne 7, 3) := by decide +kernel
theorem dX7_density_38 : decode cX7_density 38 = .ok (.iconst 1, 1) := by decide +kernel
theorem dX7_density_39 : decode cX7_density 39 = .ok (.goto 4, 3) := by decide +kernel
theorem dX7_density_42 : decode cX7_density 42 = .ok (.iconst 0, 1) := by decide +kernel
theorem dX7_density_43 : decode cX7_density 43 = .ok (.putfield 47, 3) := by decide +kernel
theorem dX7_density_46 : decode cX7_density 46 = .ok (.aload_n 0, 1) := by decide +kernel
theorem dX7_density_47 : decode cX7_density 47 = .ok (.getfield 47, 3) := by decide +kernel
theorem dX7_density_50 : decode cX7_density 50 = .ok (.ifCond .ne 14, 3) := by decide +kernel
theorem dX7_density_53 : decode cX7_density 53 = .ok (.aload_n 0, 1) := by decide +kernel
theorem dX7_density_54 : decode cX7_density 54 = .ok (.invokevirtual 115, 3) := by decide +kernel
theorem dX7_density_57 : decode cX7_density 57 = .ok (.i2f, 1) := by decide +kernel
theorem dX7_density_58 : decode cX7_density 58 = .ok (.iload_n 1, 1) := by decide +kernel
theorem dX7_density_59 : decode cX7_density 59 = .ok (.i2f, 1) := by decide +kernel
theorem dX7_density_60 : decode cX7_density 60 = .ok (.fdiv, 1) := by decide +kernel
theorem dX7_density_61 : decode cX7_density 61 = .ok (.goto 4, 3) := by decide +kernel
theorem dX7_density_64 : decode cX7_density 64 = .ok (.fconst 0, 1) := by decide +kernel
theorem dX7_density_65 : decode cX7_density 65 = .ok (.freturn, 1) := by decide +kernel
theorem dX7_feed_0 : decode cX7_feed 0 = .ok (.aload_n 0, 1) := by decide +kernel
theorem dX7_feed_1 : decode cX7_feed 1 = .ok (.aload_n 0, 1) := by decide +kernel
theorem dX7_feed_2 : decode cX7_feed 2 = .ok (.getfield 192, 3) := by decide +kernel
theorem dX7_feed_5 : decode cX7_feed 5 = .ok (.sipush 150, 3) := by decide +kernel
theorem dX7_feed_8 : decode cX7_feed 8 = .ok (.if_icmp .ne 7, 3) := by decide +kernel
theorem dX7_feed_11 : decode cX7_feed 11 = .ok (.iconst 1, 1) := by decide +kernel
theorem dX7_feed_12 : decode cX7_feed 12 = .ok (.goto 4, 3) := by decide +kernel
theorem dX7_feed_15 : decode cX7_feed 15 = .ok (.iconst 0, 1) := by decide +kernel
theorem dX7_feed_16 : decode cX7_feed 16 = .ok (.putfield 47, 3) := by decide +kernel
theorem dX7_feed_19 : decode cX7_feed 19 = .ok (.aload_n 0, 1) := by decide +kernel
theorem dX7_feed_20 : decode cX7_feed 20 = .ok (.getfield 47, 3) := by decide +kernel
theorem dX7_feed_23 : decode cX7_feed 23 = .ok (.ifCond .eq 5, 3) := by decide +kernel
theorem dX7_feed_26 : decode cX7_feed 26 = .ok (.iconst 0, 1) := by decide +kernel
theorem dX7_feed_27 : decode cX7_feed 27 = .ok (.ireturn, 1) := by decide +kernel
theorem dX7_feed_28 : decode cX7_feed 28 = .ok (.aload_n 0, 1) := by decide +kernel
theorem dX7_feed_29 : decode cX7_feed 29 = .ok (.getfield 41, 3) := by decide +kernel
theorem dX7_feed_32 : decode cX7_feed 32 = .ok (.aload_n 0, 1) := by decide +kernel
theorem dX7_feed_33 : decode cX7_feed 33 = .ok (.getfield 192, 3) := by decide +kernel
theorem dX7_feed_36 : decode cX7_feed 36 = .ok (.iload_n 1, 1) := by decide +kernel
theorem dX7_feed_37 : decode cX7_feed 37 = .ok (.iastore, 1) := by decide +kernel
theorem dX7_feed_38 : decode cX7_feed 38 = .ok (.aload_n 0, 1) := by decide +kernel
theorem dX7_feed_39 : decode cX7_feed 39 = .ok (.dup, 1) := by decide +kernel
theorem dX7_feed_40 : decode cX7_feed 40 = .ok (.getfield 192, 3) := by decide +kernel
theorem dX7_feed_43 : decode cX7_feed 43 = .ok (.iconst 1, 1) := by decide +kernel
theorem dX7_feed_44 : decode cX7_feed 44 = .ok (.iadd, 1) := by decide +kernel
theorem dX7_feed_45 : decode cX7_feed 45 = .ok (.putfield 192, 3) := by decide +kernel
theorem dX7_feed_48 : decode cX7_feed 48 = .ok (.aload_n 0, 1) := by decide +kernel
theorem dX7_feed_49 : decode cX7_feed 49 = .ok (.getfield 192, 3) := by decide +kernel
theorem dX7_feed_52 : decode cX7_feed 52 = .ok (.ireturn, 1) := by decide +kernel
theorem dX7_reads_0 : decode cX7_reads 0 = .ok (.iconst 0, 1) := by decide +kernel
theorem dX7_reads_1 : decode cX7_reads 1 = .ok (.istore_n 1, 1) := by decide +kernel
theorem dX7_reads_2 : decode cX7_reads 2 = .ok (.iconst 0, 1) := by decide +kernel
theorem dX7_reads_3 : decode cX7_reads 3 = .ok (.istore_n 2, 1) := by decide +kernel
theorem dX7_reads_4 : decode cX7_reads 4 = .ok (.iconst 0, 1) := by decide +kernel
theorem dX7_reads_5 : decode cX7_reads 5 = .ok (.istore_n 3, 1) := by decide +kernel
theorem dX7_reads_6 : decode cX7_reads 6 = .ok (.iload_n 3, 1) := by decide +kernel
theorem dX7_reads_7 : decode cX7_reads 7 = .ok (.sipush 140, 3) := by decide +kernel
theorem dX7_reads_10 : decode cX7_reads 10 = .ok (.if_icmp .ge 16, 3) := by decide +kernel
theorem dX7_reads_13 : decode cX7_reads 13 = .ok (.aload_n 0, 1) := by decide +kernel
theorem dX7_reads_14 : decode cX7_reads 14 = .ok (.getfield 44, 3) := by decide +kernel
theorem dX7_reads_17 : decode cX7_reads 17 = .ok (.iload_n 3, 1) := by decide +kernel
theorem dX7_reads_18 : decode cX7_reads 18 = .ok (.iconst (-1), 1) := by decide +kernel
theorem dX7_reads_19 : decode cX7_reads 19 = .ok (.iastore, 1) := by decide +kernel
theorem dX7_reads_20 : decode cX7_reads 20 = .ok (.iinc 3 1, 3) := by decide +kernel
theorem dX7_reads_23 : decode cX7_reads 23 = .ok (.goto (-17), 3) := by decide +kernel
theorem dX7_reads_26 : decode cX7_reads 26 = .ok (.iconst 0, 1) := by decide +kernel
theorem dX7_reads_27 : decode cX7_reads 27 = .ok (.istore_n 3, 1) := by decide +kernel
theorem dX7_reads_28 : decode cX7_reads 28 = .ok (.iload_n 3, 1) := by decide +kernel
theorem dX7_reads_29 : decode cX7_reads 29 = .ok (.aload_n 0, 1) := by decide +kernel
theorem dX7_reads_30 : decode cX7_reads 30 = .ok (.getfield 192, 3) := by decide +kernel
theorem dX7_reads_33 : decode cX7_reads 33 = .ok (.if_icmp .ge 109, 3) := by decide +kernel
theorem dX7_reads_36 : decode cX7_reads 36 = .ok (.aload_n 0, 1) := by decide +kernel
theorem dX7_reads_37 : decode cX7_reads 37 = .ok (.getfield 41, 3) := by decide +kernel
theorem dX7_reads_40 : decode cX7_reads 40 = .ok (.iload_n 3, 1) := by decide +kernel
theorem dX7_reads_41 : decode cX7_reads 41 = .ok (.iaload, 1) := by decide +kernel
theorem dX7_reads_42 : decode cX7_reads 42 = .ok (.bipush 47, 2) := by decide +kernel
theorem dX7_reads_44 : decode cX7_reads 44 = .ok (.if_icmp .ne 17, 3) := by decide +kernel
theorem dX7_reads_47 : decode cX7_reads 47 = .ok (.iload_n 2, 1) := by decide +kernel
theorem dX7_reads_48 : decode cX7_reads 48 = .ok (.bipush 9, 2) := by decide +kernel
theorem dX7_reads_50 : decode cX7_reads 50 = .ok (.if_icmp .ge 11, 3) := by decide +kernel
theorem dX7_reads_53 : decode cX7_reads 53 = .ok (.iinc 2 1, 3) := by decide +kernel
theorem dX7_reads_56 : decode cX7_reads 56 = .ok (.iconst 0, 1) := by decide +kernel
theorem dX7_reads_57 : decode cX7_reads 57 = .ok (.istore_n 1, 1) := by decide +kernel
theorem dX7_reads_58 : decode cX7_reads 58 = .ok (.goto 78, 3) := by decide +kernel
theorem dX7_reads_61 : decode cX7_reads 61 = .ok (.aload_n 0, 1) := by decide +kernel
theorem dX7_reads_62 : decode cX7_reads 62 = .ok (.getfield 41, 3) := by decide +kernel
theorem dX7_reads_65 : decode cX7_reads 65 = .ok (.iload_n 3, 1) := by decide +kernel
theorem dX7_reads_66 : decode cX7_reads 66 = .ok (.iaload, 1) := by decide +kernel
theorem dX7_reads_67 : decode cX7_reads 67 = .ok (.bipush 35, 2) := by decide +kernel
theorem dX7_reads_69 : decode cX7_reads 69 = .ok (.if_icmp .eq 19, 3) := by decide +kernel
theorem dX7_reads_72 : decode cX7_reads 72 = .ok (.aload_n 0, 1) := by decide +kernel
theorem dX7_reads_73 : decode cX7_reads 73 = .ok (.getfield 41, 3) := by decide +kernel
theorem dX7_reads_76 : decode cX7_reads 76 = .ok (.iload_n 3, 1) := by decide +kernel
theorem dX7_reads_77 : decode cX7_reads 77 = .ok (.iaload, 1) := by decide +kernel
theorem dX7_reads_78 : decode cX7_reads 78 = .ok (.bipush 49, 2) := by decide +kernel
theorem dX7_reads_80 : decode cX7_reads 80 = .ok (.bipush 57, 2) := by decide +kernel
theorem dX7_reads_82 : decode cX7_reads 82 = .ok (.invokestatic 51, 3) := by decide +kernel
theorem dX7_reads_85 : decode cX7_reads 85 = .ok (.ifCond .eq 49, 3) := by decide +kernel
theorem dX7_reads_88 : decode cX7_reads 88 = .ok (.iload_n 1, 1) := by decide +kernel
theorem dX7_reads_89 : decode cX7_reads 89 = .ok (.bipush 14, 2) := by decide +kernel
theorem dX7_reads_91 : decode cX7_reads 91 = .ok (.if_icmp .ge 43, 3) := by decide +kernel
theorem dX7_reads_94 : decode cX7_reads 94 = .ok (.aload_n 0, 1) := by decide +kernel
theorem dX7_reads_95 : decode cX7_reads 95 = .ok (.getfield 44, 3) := by decide +kernel
theorem dX7_reads_98 : decode cX7_reads 98 = .ok (.iload_n 1, 1) := by decide +kernel
theorem dX7_reads_99 : decode cX7_reads 99 = .ok (.iload_n 2, 1) := by decide +kernel
theorem dX7_reads_100 : decode cX7_reads 100 = .ok (.invokestatic 66, 3) := by decide +kernel
theorem dX7_reads_103 : decode cX7_reads 103 = .ok (.aload_n 0, 1) := by decide +kernel
theorem dX7_reads_104 : decode cX7_reads 104 = .ok (.getfield 41, 3) := by decide +kernel
theorem dX7_reads_107 : decode cX7_reads 107 = .ok (.iload_n 3, 1) := by decide +kernel
theorem dX7_reads_108 : decode cX7_reads 108 = .ok (.iaload, 1) := by decide +kernel
theorem dX7_reads_109 : decode cX7_reads 109 = .ok (.bipush 35, 2) := by decide +kernel
theorem dX7_reads_111 : decode cX7_reads 111 = .ok (.if_icmp .ne 7, 3) := by decide +kernel
theorem dX7_reads_114 : decode cX7_reads 114 = .ok (.iconst 0, 1) := by decide +kernel
theorem dX7_reads_115 : decode cX7_reads 115 = .ok (.goto 12, 3) := by decide +kernel
theorem dX7_reads_118 : decode cX7_reads 118 = .ok (.aload_n 0, 1) := by decide +kernel
theorem dX7_reads_119 : decode cX7_reads 119 = .ok (.getfield 41, 3) := by decide +kernel
theorem dX7_reads_122 : decode cX7_reads 122 = .ok (.iload_n 3, 1) := by decide +kernel
theorem dX7_reads_123 : decode cX7_reads 123 = .ok (.iaload, 1) := by decide +kernel
theorem dX7_reads_124 : decode cX7_reads 124 = .ok (.bipush 48, 2) := by decide +kernel
theorem dX7_reads_126 : decode cX7_reads 126 = .ok (.isub, 1) := by decide +kernel
theorem dX7_reads_127 : decode cX7_reads 127 = .ok (.iastore, 1) := by decide +kernel
theorem dX7_reads_128 : decode cX7_reads 128 = .ok (.iinc 1 1, 3) := by decide +kernel
theorem dX7_reads_131 : decode cX7_reads 131 = .ok (.goto 5, 3) := by decide +kernel
theorem dX7_reads_134 : decode cX7_reads 134 = .ok (.iload_n 3, 1) := by decide +kernel
theorem dX7_reads_135 : decode cX7_reads 135 = .ok (.ireturn, 1) := by decide +kernel
theorem dX7_reads_136 : decode cX7_reads 136 = .ok (.iinc 3 1, 3) := by decide +kernel
theorem dX7_reads_139 : decode cX7_reads 139 = .ok (.goto (-111), 3) := by decide +kernel
theorem dX7_reads_142 : decode cX7_reads 142 = .ok (.iconst (-1), 1) := by decide +kernel
theorem dX7_reads_143 : decode cX7_reads 143 = .ok (.ireturn, 1) := by decide +kernel
theorem dX7_readMap_0 : decode cX7_readMap 0 = .ok (.aload_n 0, 1) := by decide +kernel
theorem dX7_readMap_1 : decode cX7_readMap 1 = .ok (.iconst 0, 1) := by decide +kernel
theorem dX7_readMap_2 : decode cX7_readMap 2 = .ok (.putfield 47, 3) := by decide +kernel
theorem dX7_readMap_5 : decode cX7_readMap 5 = .ok (.aload_n 0, 1) := by decide +kernel
theorem dX7_readMap_6 : decode cX7_readMap 6 = .ok (.invokevirtual 195, 3) := by decide +kernel
theorem dX7_readMap_9 : decode cX7_readMap 9 = .ok (.istore_n 1, 1) := by decide +kernel
theorem dX7_readMap_10 : decode cX7_readMap 10 = .ok (.aload_n 0, 1) := by decide +kernel
theorem dX7_readMap_11 : decode cX7_readMap 11 = .ok (.iconst 0, 1) := by decide +kernel
theorem dX7_readMap_12 : decode cX7_readMap 12 = .ok (.putfield 192, 3) := by decide +kernel
theorem dX7_readMap_15 : decode cX7_readMap 15 = .ok (.iload_n 1, 1) := by decide +kernel
theorem dX7_readMap_16 : decode cX7_readMap 16 = .ok (.ifCond .lt 8, 3) := by decide +kernel
theorem dX7_readMap_19 : decode cX7_readMap 19 = .ok (.bipush (-100), 2) := by decide +kernel
theorem dX7_readMap_21 : decode cX7_readMap 21 = .ok (.iload_n 1, 1) := by decide +kernel
theorem dX7_readMap_22 : decode cX7_readMap 22 = .ok (.isub, 1) := by decide +kernel
theorem dX7_readMap_23 : decode cX7_readMap 23 = .ok (.ireturn, 1) := by decide +kernel
theorem dX7_readMap_24 : decode cX7_readMap 24 = .ok (.iconst 0, 1) := by decide +kernel
theorem dX7_readMap_25 : decode cX7_readMap 25 = .ok (.istore_n 2, 1) := by decide +kernel
theorem dX7_readMap_26 : decode cX7_readMap 26 = .ok (.iconst 0, 1) := by decide +kernel
theorem dX7_readMap_27 : decode cX7_readMap 27 = .ok (.istore_n 3, 1) := by decide +kernel
theorem dX7_readMap_28 : decode cX7_readMap 28 = .ok (.iload_n 3, 1) := by decide +kernel
theorem dX7_readMap_29 : decode cX7_readMap 29 = .ok (.sipush 140, 3) := by decide +kernel
theorem dX7_readMap_32 : decode cX7_readMap 32 = .ok (.if_icmp .ge 63, 3) := by decide +kernel
theorem dX7_readMap_35 : decode cX7_readMap 35 = .ok (.iload_n 2, 1) := by decide +kernel
theorem dX7_readMap_36 : decode cX7_readMap 36 = .ok (.aload_n 0, 1) := by decide +kernel
theorem dX7_readMap_37 : decode cX7_readMap 37 = .ok (.getfield 44, 3) := by decide +kernel
theorem dX7_readMap_40 : decode cX7_readMap 40 = .ok (.iload_n 3, 1) := by decide +kernel
theorem dX7_readMap_41 : decode cX7_readMap 41 = .ok (.iaload, 1) := by decide +kernel
theorem dX7_readMap_42 : decode cX7_readMap 42 = .ok (.ifCond .lt 7, 3) := by decide +kernel
theorem dX7_readMap_45 : decode cX7_readMap 45 = .ok (.iconst 1, 1) := by decide +kernel
theorem dX7_readMap_46 : decode cX7_readMap 46 = .ok (.goto 4, 3) := by decide +kernel
theorem dX7_readMap_49 : decode cX7_readMap 49 = .ok (.iconst 0, 1) := by decide +kernel
theorem dX7_readMap_50 : decode cX7_readMap 50 = .ok (.iadd, 1) := by decide +kernel
theorem dX7_readMap_51 : decode cX7_readMap 51 = .ok (.istore_n 2, 1) := by decide +kernel
theorem dX7_readMap_52 : decode cX7_readMap 52 = .ok (.aload_n 0, 1) := by decide +kernel
theorem dX7_readMap_53 : decode cX7_readMap 53 = .ok (.aload_n 0, 1) := by decide +kernel
theorem dX7_readMap_54 : decode cX7_readMap 54 = .ok (.getfield 44, 3) := by decide +kernel
theorem dX7_readMap_57 : decode cX7_readMap 57 = .ok (.iload_n 3, 1) := by decide +kernel
theorem dX7_readMap_58 : decode cX7_readMap 58 = .ok (.iaload, 1) := by decide +kernel
theorem dX7_readMap_59 : decode cX7_readMap 59 = .ok (.ifCond .ne 23, 3) := by decide +kernel
theorem dX7_readMap_62 : decode cX7_readMap 62 = .ok (.aload_n 0, 1) := by decide +kernel
theorem dX7_readMap_63 : decode cX7_readMap 63 = .ok (.iload_n 3, 1) := by decide +kernel
theorem dX7_readMap_64 : decode cX7_readMap 64 = .ok (.invokevirtual 90, 3) := by decide +kernel
theorem dX7_readMap_67 : decode cX7_readMap 67 = .ok (.ifCond .ne 11, 3) := by decide +kernel
theorem dX7_readMap_70 : decode cX7_readMap 70 = .ok (.aload_n 0, 1) := by decide +kernel
theorem dX7_readMap_71 : decode cX7_readMap 71 = .ok (.iload_n 3, 1) := by decide +kernel
theorem dX7_readMap_72 : decode cX7_readMap 72 = .ok (.invokevirtual 93, 3) := by decide +kernel
theorem dX7_readMap_75 : decode cX7_readMap 75 = .ok (.ifCond .lt 7, 3) := by decide +kernel
theorem dX7_readMap_78 : decode cX7_readMap 78 = .ok (.iconst 1, 1) := by decide +kernel
theorem dX7_readMap_79 : decode cX7_readMap 79 = .ok (.goto 7, 3) := by decide +kernel
theorem dX7_readMap_82 : decode cX7_readMap 82 = .ok (.aload_n 0, 1) := by decide +kernel
theorem dX7_readMap_83 : decode cX7_readMap 83 = .ok (.getfield 47, 3) := by decide +kernel
theorem dX7_readMap_86 : decode cX7_readMap 86 = .ok (.putfield 47, 3) := by decide +kernel
theorem dX7_readMap_89 : decode cX7_readMap 89 = .ok (.iinc 3 1, 3) := by decide +kernel
theorem dX7_readMap_92 : decode cX7_readMap 92 = .ok (.goto (-64), 3) := by decide +kernel
theorem dX7_readMap_95 : decode cX7_readMap 95 = .ok (.aload_n 0, 1) := by decide +kernel
theorem dX7_readMap_96 : decode cX7_readMap 96 = .ok (.getfield 47, 3) := by decide +kernel
theorem dX7_readMap_99 : decode cX7_readMap 99 = .ok (.ifCond .eq 5, 3) := by decide +kernel
theorem dX7_readMap_102 : decode cX7_readMap 102 = .ok (.iconst 0, 1) := by decide +kernel
theorem dX7_readMap_103 : decode cX7_readMap 103 = .ok (.ireturn, 1) := by decide +kernel
theorem dX7_readMap_104 : decode cX7_readMap 104 = .ok (.aload_n 0, 1) := by decide +kernel
theorem dX7_readMap_105 : decode cX7_readMap 105 = .ok (.invokevirtual 96, 3) := by decide +kernel
theorem dX7_readMap_108 : decode cX7_readMap 108 = .ok (.iconst 0, 1) := by decide +kernel
theorem dX7_readMap_109 : decode cX7_readMap 109 = .ok (.istore_n 3, 1) := by decide +kernel
theorem dX7_readMap_110 : decode cX7_readMap 110 = .ok (.iload_n 3, 1) := by decide +kernel
theorem dX7_readMap_111 : decode cX7_readMap 111 = .ok (.sipush 140, 3) := by decide +kernel
theorem dX7_readMap_114 : decode cX7_readMap 114 = .ok (.if_icmp .ge 43, 3) := by decide +kernel
theorem dX7_readMap_117 : decode cX7_readMap 117 = .ok (.aload_n 0, 1) := by decide +kernel
theorem dX7_readMap_118 : decode cX7_readMap 118 = .ok (.getfield 9, 3) := by decide +kernel
theorem dX7_readMap_121 : decode cX7_readMap 121 = .ok (.iconst 0, 1) := by decide +kernel
theorem dX7_readMap_122 : decode cX7_readMap 122 = .ok (.iload_n 3, 1) := by decide +kernel
theorem dX7_readMap_123 : decode cX7_readMap 123 = .ok (.iadd, 1) := by decide +kernel
theorem dX7_readMap_124 : decode cX7_readMap 124 = .ok (.aload_n 0, 1) := by decide +kernel
theorem dX7_readMap_125 : decode cX7_readMap 125 = .ok (.getfield 44, 3) := by decide +kernel
theorem dX7_readMap_128 : decode cX7_readMap 128 = .ok (.iload_n 3, 1) := by decide +kernel
theorem dX7_readMap_129 : decode cX7_readMap 129 = .ok (.iaload, 1) := by decide +kernel
theorem dX7_readMap_130 : decode cX7_readMap 130 = .ok (.ifCond .lt 12, 3) := by decide +kernel
theorem dX7_readMap_133 : decode cX7_readMap 133 = .ok (.aload_n 0, 1) := by decide +kernel
theorem dX7_readMap_134 : decode cX7_readMap 134 = .ok (.getfield 44, 3) := by decide +kernel
theorem dX7_readMap_137 : decode cX7_readMap 137 = .ok (.iload_n 3, 1) := by decide +kernel
theorem dX7_readMap_138 : decode cX7_readMap 138 = .ok (.iaload, 1) := by decide +kernel
theorem dX7_readMap_139 : decode cX7_readMap 139 = .ok (.goto 11, 3) := by decide +kernel
theorem dX7_readMap_142 : decode cX7_readMap 142 = .ok (.aload_n 0, 1) := by decide +kernel
theorem dX7_readMap_143 : decode cX7_readMap 143 = .ok (.getfield 9, 3) := by decide +kernel
theorem dX7_readMap_146 : decode cX7_readMap 146 = .ok (.iconst 0, 1) := by decide +kernel
theorem dX7_readMap_147 : decode cX7_readMap 147 = .ok (.iload_n 3, 1) := by decide +kernel
theorem dX7_readMap_148 : decode cX7_readMap 148 = .ok (.iadd, 1) := by decide +kernel
theorem dX7_readMap_149 : decode cX7_readMap 149 = .ok (.iaload, 1) := by decide +kernel
theorem dX7_readMap_150 : decode cX7_readMap 150 = .ok (.iastore, 1) := by decide +kernel
theorem dX7_readMap_151 : decode cX7_readMap 151 = .ok (.iinc 3 1, 3) := by decide +kernel
theorem dX7_readMap_154 : decode cX7_readMap 154 = .ok (.goto (-44), 3) := by decide +kernel
theorem dX7_readMap_157 : decode cX7_readMap 157 = .ok (.aload_n 0, 1) := by decide +kernel
theorem dX7_readMap_158 : decode cX7_readMap 158 = .ok (.invokevirtual 73, 3) := by decide +kernel
theorem dX7_readMap_161 : decode cX7_readMap 161 = .ok (.iload_n 2, 1) := by decide +kernel
theorem dX7_readMap_162 : decode cX7_readMap 162 = .ok (.ireturn, 1) := by decide +kernel
theorem dX7_map_0 : decode cX7_map 0 = .ok (.aload_n 0, 1) := by decide +kernel
theorem dX7_map_1 : decode cX7_map 1 = .ok (.iload_n 1, 1) := by decide +kernel
theorem dX7_map_2 : decode cX7_map 2 = .ok (.iconst 0, 1) := by decide +kernel
theorem dX7_map_3 : decode cX7_map 3 = .ok (.sipush 148, 3) := by decide +kernel
theorem dX7_map_6 : decode cX7_map 6 = .ok (.invokestatic 51, 3) := by decide +kernel
theorem dX7_map_9 : decode cX7_map 9 = .ok (.ifCond .eq 7, 3) := by decide +kernel
theorem dX7_map_12 : decode cX7_map 12 = .ok (.iconst 0, 1) := by decide +kernel
theorem dX7_map_13 : decode cX7_map 13 = .ok (.goto 4, 3) := by decide +kernel
theorem dX7_map_16 : decode cX7_map 16 = .ok (.iconst 1, 1) := by decide +kernel
theorem dX7_map_17 : decode cX7_map 17 = .ok (.putfield 47, 3) := by decide +kernel
theorem dX7_map_20 : decode cX7_map 20 = .ok (.aload_n 0, 1) := by decide +kernel
theorem dX7_map_21 : decode cX7_map 21 = .ok (.getfield 47, 3) := by decide +kernel
theorem dX7_map_24 : decode cX7_map 24 = .ok (.ifCond .eq 5, 3) := by decide +kernel
theorem dX7_map_27 : decode cX7_map 27 = .ok (.iconst 0, 1) := by decide +kernel
theorem dX7_map_28 : decode cX7_map 28 = .ok (.ireturn, 1) := by decide +kernel
theorem dX7_map_29 : decode cX7_map 29 = .ok (.iload_n 1, 1) := by decide +kernel
theorem dX7_map_30 : decode cX7_map 30 = .ok (.bipush 15, 2) := by decide +kernel
theorem dX7_map_32 : decode cX7_map 32 = .ok (.irem, 1) := by decide +kernel
theorem dX7_map_33 : decode cX7_map 33 = .ok (.istore_n 2, 1) := by decide +kernel
theorem dX7_map_34 : decode cX7_map 34 = .ok (.iload_n 2, 1) := by decide +kernel
theorem dX7_map_35 : decode cX7_map 35 = .ok (.bipush 14, 2) := by decide +kernel
theorem dX7_map_37 : decode cX7_map 37 = .ok (.if_icmp .ne 7, 3) := by decide +kernel
theorem dX7_map_40 : decode cX7_map 40 = .ok (.iconst (-1), 1) := by decide +kernel
theorem dX7_map_41 : decode cX7_map 41 = .ok (.goto 18, 3) := by decide +kernel
theorem dX7_map_44 : decode cX7_map 44 = .ok (.aload_n 0, 1) := by decide +kernel
theorem dX7_map_45 : decode cX7_map 45 = .ok (.getfield 9, 3) := by decide +kernel
theorem dX7_map_48 : decode cX7_map 48 = .ok (.iconst 0, 1) := by decide +kernel
theorem dX7_map_49 : decode cX7_map 49 = .ok (.iload_n 2, 1) := by decide +kernel
theorem dX7_map_50 : decode cX7_map 50 = .ok (.iload_n 1, 1) := by decide +kernel
theorem dX7_map_51 : decode cX7_map 51 = .ok (.bipush 15, 2) := by decide +kernel
theorem dX7_map_53 : decode cX7_map 53 = .ok (.idiv, 1) := by decide +kernel
theorem dX7_map_54 : decode cX7_map 54 = .ok (.invokestatic 66, 3) := by decide +kernel
theorem dX7_map_57 : decode cX7_map 57 = .ok (.iadd, 1) := by decide +kernel
theorem dX7_map_58 : decode cX7_map 58 = .ok (.iaload, 1) := by decide +kernel
theorem dX7_map_59 : decode cX7_map 59 = .ok (.istore_n 3, 1) := by decide +kernel
theorem dX7_map_60 : decode cX7_map 60 = .ok (.iload_n 3, 1) := by decide +kernel
theorem dX7_map_61 : decode cX7_map 61 = .ok (.ifCond .ge 8, 3) := by decide +kernel
theorem dX7_map_64 : decode cX7_map 64 = .ok (.bipush 47, 2) := by decide +kernel
theorem dX7_map_66 : decode cX7_map 66 = .ok (.goto 17, 3) := by decide +kernel
theorem dX7_map_69 : decode cX7_map 69 = .ok (.iload_n 3, 1) := by decide +kernel
theorem dX7_map_70 : decode cX7_map 70 = .ok (.ifCond .ne 8, 3) := by decide +kernel
theorem dX7_map_73 : decode cX7_map 73 = .ok (.bipush 35, 2) := by decide +kernel
theorem dX7_map_75 : decode cX7_map 75 = .ok (.goto 8, 3) := by decide +kernel
theorem dX7_map_78 : decode cX7_map 78 = .ok (.bipush 48, 2) := by decide +kernel
theorem dX7_map_80 : decode cX7_map 80 = .ok (.iload_n 3, 1) := by decide +kernel
theorem dX7_map_81 : decode cX7_map 81 = .ok (.iadd, 1) := by decide +kernel
theorem dX7_map_82 : decode cX7_map 82 = .ok (.i2c, 1) := by decide +kernel
theorem dX7_map_83 : decode cX7_map 83 = .ok (.ireturn, 1) := by decide +kernel
theorem dX7_save_0 : decode cX7_save 0 = .ok (.aload_n 0, 1) := by decide +kernel
theorem dX7_save_1 : decode cX7_save 1 = .ok (.iconst 0, 1) := by decide +kernel
theorem dX7_save_2 : decode cX7_save 2 = .ok (.putfield 47, 3) := by decide +kernel
theorem dX7_save_5 : decode cX7_save 5 = .ok (.iconst 0, 1) := by decide +kernel
theorem dX7_save_6 : decode cX7_save 6 = .ok (.istore_n 1, 1) := by decide +kernel
theorem dX7_save_7 : decode cX7_save 7 = .ok (.iload_n 1, 1) := by decide +kernel
theorem dX7_save_8 : decode cX7_save 8 = .ok (.sipush 434, 3) := by decide +kernel
theorem dX7_save_11 : decode cX7_save 11 = .ok (.if_icmp .ge 21, 3) := by decide +kernel
theorem dX7_save_14 : decode cX7_save 14 = .ok (.aload_n 0, 1) := by decide +kernel
theorem dX7_save_15 : decode cX7_save 15 = .ok (.getfield 13, 3) := by decide +kernel
theorem dX7_save_18 : decode cX7_save 18 = .ok (.iload_n 1, 1) := by decide +kernel
theorem dX7_save_19 : decode cX7_save 19 = .ok (.aload_n 0, 1) := by decide +kernel
theorem dX7_save_20 : decode cX7_save 20 = .ok (.getfield 9, 3) := by decide +kernel
theorem dX7_save_23 : decode cX7_save 23 = .ok (.iload_n 1, 1) := by decide +kernel
theorem dX7_save_24 : decode cX7_save 24 = .ok (.iaload, 1) := by decide +kernel
theorem dX7_save_25 : decode cX7_save 25 = .ok (.iastore, 1) := by decide +kernel
theorem dX7_save_26 : decode cX7_save 26 = .ok (.iinc 1 1, 3) := by decide +kernel
theorem dX7_save_29 : decode cX7_save 29 = .ok (.goto (-22), 3) := by decide +kernel
theorem dX7_save_32 : decode cX7_save 32 = .ok (.aload_n 0, 1) := by decide +kernel
theorem dX7_save_33 : decode cX7_save 33 = .ok (.iconst 1, 1) := by decide +kernel
theorem dX7_save_34 : decode cX7_save 34 = .ok (.putfield 198, 3) := by decide +kernel
theorem dX7_save_37 : decode cX7_save 37 = .ok (.aload_n 0, 1) := by decide +kernel
theorem dX7_save_38 : decode cX7_save 38 = .ok (.invokevirtual 115, 3) := by decide +kernel
theorem dX7_save_41 : decode cX7_save 41 = .ok (.ireturn, 1) := by decide +kernel
theorem dX7_restore_0 : decode cX7_restore 0 = .ok (.aload_n 0, 1) := by decide +kernel
theorem dX7_restore_1 : decode cX7_restore 1 = .ok (.aload_n 0, 1) := by decide +kernel
theorem dX7_restore_2 : decode cX7_restore 2 = .ok (.getfield 198, 3) := by decide +kernel
theorem dX7_restore_5 : decode cX7_restore 5 = .ok (.ifCond .eq 7, 3) := by decide +kernel
theorem dX7_restore_8 : decode cX7_restore 8 = .ok (.iconst 0, 1) := by decide +kernel
theorem dX7_restore_9 : decode cX7_restore 9 = .ok (.goto 4, 3) := by decide +kernel
theorem dX7_restore_12 : decode cX7_restore 12 = .ok (.iconst 1, 1) := by decide +kernel
theorem dX7_restore_13 : decode cX7_restore 13 = .ok (.putfield 47, 3) := by decide +kernel
theorem dX7_restore_16 : decode cX7_restore 16 = .ok (.aload_n 0, 1) := by decide +kernel
theorem dX7_restore_17 : decode cX7_restore 17 = .ok (.getfield 47, 3) := by decide +kernel
theorem dX7_restore_20 : decode cX7_restore 20 = .ok (.ifCond .eq 5, 3) := by decide +kernel
theorem dX7_restore_23 : decode cX7_restore 23 = .ok (.iconst 0, 1) := by decide +kernel
theorem dX7_restore_24 : decode cX7_restore 24 = .ok (.ireturn, 1) := by decide +kernel
theorem dX7_restore_25 : decode cX7_restore 25 = .ok (.iconst 0, 1) := by decide +kernel
theorem dX7_restore_26 : decode cX7_restore 26 = .ok (.istore_n 1, 1) := by decide +kernel
theorem dX7_restore_27 : decode cX7_restore 27 = .ok (.iload_n 1, 1) := by decide +kernel
theorem dX7_restore_28 : decode cX7_restore 28 = .ok (.sipush 434, 3) := by decide +kernel
theorem dX7_restore_31 : decode cX7_restore 31 = .ok (.if_icmp .ge 21, 3) := by decide +kernel
theorem dX7_restore_34 : decode cX7_restore 34 = .ok (.aload_n 0, 1) := by decide +kernel
theorem dX7_restore_35 : decode cX7_restore 35 = .ok (.getfield 9, 3) := by decide +kernel
theorem dX7_restore_38 : decode cX7_restore 38 = .ok (.iload_n 1, 1) := by decide +kernel
theorem dX7_restore_39 : decode cX7_restore 39 = .ok (.aload_n 0, 1) := by decide +kernel
theorem dX7_restore_40 : decode cX7_restore 40 = .ok (.getfield 13, 3) := by decide +kernel
theorem dX7_restore_43 : decode cX7_restore 43 = .ok (.iload_n 1, 1) := by decide +kernel
theorem dX7_restore_44 : decode cX7_restore 44 = .ok (.iaload, 1) := by decide +kernel
theorem dX7_restore_45 : decode cX7_restore 45 = .ok (.iastore, 1) := by decide +kernel
theorem dX7_restore_46 : decode cX7_restore 46 = .ok (.iinc 1 1, 3) := by decide +kernel
theorem dX7_restore_49 : decode cX7_restore 49 = .ok (.goto (-22), 3) := by decide +kernel
theorem dX7_restore_52 : decode cX7_restore 52 = .ok (.aload_n 0, 1) := by decide +kernel
theorem dX7_restore_53 : decode cX7_restore 53 = .ok (.iconst 0, 1) := by decide +kernel
theorem dX7_restore_54 : decode cX7_restore 54 = .ok (.putfield 70, 3) := by decide +kernel
theorem dX7_restore_57 : decode cX7_restore 57 = .ok (.aload_n 0, 1) := by decide +kernel
theorem dX7_restore_58 : decode cX7_restore 58 = .ok (.invokevirtual 73, 3) := by decide +kernel
theorem dX7_restore_61 : decode cX7_restore 61 = .ok (.aload_n 0, 1) := by decide +kernel
theorem dX7_restore_62 : decode cX7_restore 62 = .ok (.invokevirtual 115, 3) := by decide +kernel
theorem dX7_restore_65 : decode cX7_restore 65 = .ok (.ireturn, 1) := by decide +kernel
