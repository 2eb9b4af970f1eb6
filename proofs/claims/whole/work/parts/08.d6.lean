theorem dX6_init_0 : decode cX6_init 0 = .ok (.aload_n 0, 1) := by decide +kernel
theorem dX6_init_1 : decode cX6_init 1 = .ok (.invokespecial 3, 3) := by decide +kernel
theorem dX6_init_4 : decode cX6_init 4 = .ok (.aload_n 0, 1) := by decide +kernel
theorem dX6_init_5 : decode cX6_init 5 = .ok (.new 9, 3) := by decide +kernel
theorem dX6_init_8 : decode cX6_init 8 = .ok (.dup, 1) := by decide +kernel
theorem dX6_init_9 : decode cX6_init 9 = .ok (.invokespecial 11, 3) := by decide +kernel
theorem dX6_init_12 : decode cX6_init 12 = .ok (.putfield 12, 3) := by decide +kernel
theorem dX6_init_15 : decode cX6_init 15 = .ok (.aload_n 0, 1) := by decide +kernel
theorem dX6_init_16 : decode cX6_init 16 = .ok (.new 16, 3) := by decide +kernel
theorem dX6_init_19 : decode cX6_init 19 = .ok (.dup, 1) := by decide +kernel
theorem dX6_init_20 : decode cX6_init 20 = .ok (.invokespecial 18, 3) := by decide +kernel
theorem dX6_init_23 : decode cX6_init 23 = .ok (.putfield 19, 3) := by decide +kernel
theorem dX6_init_26 : decode cX6_init 26 = .ok (.aload_n 0, 1) := by decide +kernel
theorem dX6_init_27 : decode cX6_init 27 = .ok (.new 23, 3) := by decide +kernel
theorem dX6_init_30 : decode cX6_init 30 = .ok (.dup, 1) := by decide +kernel
theorem dX6_init_31 : decode cX6_init 31 = .ok (.aload_n 0, 1) := by decide +kernel
theorem dX6_init_32 : decode cX6_init 32 = .ok (.getfield 12, 3) := by decide +kernel
theorem dX6_init_35 : decode cX6_init 35 = .ok (.aload_n 0, 1) := by decide +kernel
theorem dX6_init_36 : decode cX6_init 36 = .ok (.getfield 19, 3) := by decide +kernel
theorem dX6_init_39 : decode cX6_init 39 = .ok (.invokespecial 25, 3) := by decide +kernel
theorem dX6_init_42 : decode cX6_init 42 = .ok (.putfield 28, 3) := by decide +kernel
theorem dX6_init_45 : decode cX6_init 45 = .ok (.aload_n 0, 1) := by decide +kernel
theorem dX6_init_46 : decode cX6_init 46 = .ok (.new 23, 3) := by decide +kernel
theorem dX6_init_49 : decode cX6_init 49 = .ok (.dup, 1) := by decide +kernel
theorem dX6_init_50 : decode cX6_init 50 = .ok (.new 9, 3) := by decide +kernel
theorem dX6_init_53 : decode cX6_init 53 = .ok (.dup, 1) := by decide +kernel
theorem dX6_init_54 : decode cX6_init 54 = .ok (.invokespecial 11, 3) := by decide +kernel
theorem dX6_init_57 : decode cX6_init 57 = .ok (.aload_n 0, 1) := by decide +kernel
theorem dX6_init_58 : decode cX6_init 58 = .ok (.getfield 19, 3) := by decide +kernel
theorem dX6_init_61 : decode cX6_init 61 = .ok (.invokespecial 25, 3) := by decide +kernel
theorem dX6_init_64 : decode cX6_init 64 = .ok (.putfield 32, 3) := by decide +kernel
theorem dX6_init_67 : decode cX6_init 67 = .ok (.aload_n 0, 1) := by decide +kernel
theorem dX6_init_68 : decode cX6_init 68 = .ok (.new 35, 3) := by decide +kernel
theorem dX6_init_71 : decode cX6_init 71 = .ok (.dup, 1) := by decide +kernel
theorem dX6_init_72 : decode cX6_init 72 = .ok (.invokespecial 37, 3) := by decide +kernel
theorem dX6_init_75 : decode cX6_init 75 = .ok (.putfield 38, 3) := by decide +kernel
theorem dX6_init_78 : decode cX6_init 78 = .ok (.aload_n 0, 1) := by decide +kernel
theorem dX6_init_79 : decode cX6_init 79 = .ok (.new 9, 3) := by decide +kernel
theorem dX6_init_82 : decode cX6_init 82 = .ok (.dup, 1) := by decide +kernel
theorem dX6_init_83 : decode cX6_init 83 = .ok (.invokespecial 11, 3) := by decide +kernel
theorem dX6_init_86 : decode cX6_init 86 = .ok (.putfield 42, 3) := by decide +kernel
theorem dX6_init_89 : decode cX6_init 89 = .ok (.aload_n 0, 1) := by decide +kernel
theorem dX6_init_90 : decode cX6_init 90 = .ok (.iconst 0, 1) := by decide +kernel
theorem dX6_init_91 : decode cX6_init 91 = .ok (.putfield 45, 3) := by decide +kernel
theorem dX6_init_94 : decode cX6_init 94 = .ok (.aload_n 0, 1) := by decide +kernel
theorem dX6_init_95 : decode cX6_init 95 = .ok (.new 49, 3) := by decide +kernel
theorem dX6_init_98 : decode cX6_init 98 = .ok (.dup, 1) := by decide +kernel
theorem dX6_init_99 : decode cX6_init 99 = .ok (.invokespecial 51, 3) := by decide +kernel
theorem dX6_init_102 : decode cX6_init 102 = .ok (.putfield 52, 3) := by decide +kernel
theorem dX6_init_105 : decode cX6_init 105 = .ok (.return_, 1) := by decide +kernel
theorem dX6_setCell_0 : decode cX6_setCell 0 = .ok (.iload_n 1, 1) := by decide +kernel
theorem dX6_setCell_1 : decode cX6_setCell 1 = .ok (.iload_n 2, 1) := by decide +kernel
theorem dX6_setCell_2 : decode cX6_setCell 2 = .ok (.invokestatic 56, 3) := by decide +kernel
theorem dX6_setCell_5 : decode cX6_setCell 5 = .ok (.iload_n 3, 1) := by decide +kernel
theorem dX6_setCell_6 : decode cX6_setCell 6 = .ok (.ifCond .lt 13, 3) := by decide +kernel
theorem dX6_setCell_9 : decode cX6_setCell 9 = .ok (.iload_n 3, 1) := by decide +kernel
theorem dX6_setCell_10 : decode cX6_setCell 10 = .ok (.bipush 9, 2) := by decide +kernel
theorem dX6_setCell_12 : decode cX6_setCell 12 = .ok (.if_icmp .gt 7, 3) := by decide +kernel
theorem dX6_setCell_15 : decode cX6_setCell 15 = .ok (.iconst 1, 1) := by decide +kernel
theorem dX6_setCell_16 : decode cX6_setCell 16 = .ok (.goto 4, 3) := by decide +kernel
theorem dX6_setCell_19 : decode cX6_setCell 19 = .ok (.iconst 0, 1) := by decide +kernel
theorem dX6_setCell_20 : decode cX6_setCell 20 = .ok (.invokestatic 60, 3) := by decide +kernel
theorem dX6_setCell_23 : decode cX6_setCell 23 = .ok (.iload_n 1, 1) := by decide +kernel
theorem dX6_setCell_24 : decode cX6_setCell 24 = .ok (.iload_n 2, 1) := by decide +kernel
theorem dX6_setCell_25 : decode cX6_setCell 25 = .ok (.invokestatic 64, 3) := by decide +kernel
theorem dX6_setCell_28 : decode cX6_setCell 28 = .ok (.istore 4, 2) := by decide +kernel
theorem dX6_setCell_30 : decode cX6_setCell 30 = .ok (.iload_n 3, 1) := by decide +kernel
theorem dX6_setCell_31 : decode cX6_setCell 31 = .ok (.ifCond .ne 25, 3) := by decide +kernel
theorem dX6_setCell_34 : decode cX6_setCell 34 = .ok (.aload_n 0, 1) := by decide +kernel
theorem dX6_setCell_35 : decode cX6_setCell 35 = .ok (.getfield 28, 3) := by decide +kernel
theorem dX6_setCell_38 : decode cX6_setCell 38 = .ok (.iload 4, 2) := by decide +kernel
theorem dX6_setCell_40 : decode cX6_setCell 40 = .ok (.invokevirtual 68, 3) := by decide +kernel
theorem dX6_setCell_43 : decode cX6_setCell 43 = .ok (.ifCond .eq 13, 3) := by decide +kernel
theorem dX6_setCell_46 : decode cX6_setCell 46 = .ok (.new 72, 3) := by decide +kernel
theorem dX6_setCell_49 : decode cX6_setCell 49 = .ok (.dup, 1) := by decide +kernel
theorem dX6_setCell_50 : decode cX6_setCell 50 = .ok (.ldc 74, 2) := by decide +kernel
theorem dX6_setCell_52 : decode cX6_setCell 52 = .ok (.invokespecial 76, 3) := by decide +kernel
theorem dX6_setCell_55 : decode cX6_setCell 55 = .ok (.athrow, 1) := by decide +kernel
theorem dX6_setCell_56 : decode cX6_setCell 56 = .ok (.aload_n 0, 1) := by decide +kernel
theorem dX6_setCell_57 : decode cX6_setCell 57 = .ok (.getfield 38, 3) := by decide +kernel
theorem dX6_setCell_60 : decode cX6_setCell 60 = .ok (.aload_n 0, 1) := by decide +kernel
theorem dX6_setCell_61 : decode cX6_setCell 61 = .ok (.getfield 12, 3) := by decide +kernel
theorem dX6_setCell_64 : decode cX6_setCell 64 = .ok (.invokevirtual 79, 3) := by decide +kernel
theorem dX6_setCell_67 : decode cX6_setCell 67 = .ok (.aload_n 0, 1) := by decide +kernel
theorem dX6_setCell_68 : decode cX6_setCell 68 = .ok (.getfield 12, 3) := by decide +kernel
theorem dX6_setCell_71 : decode cX6_setCell 71 = .ok (.getfield 83, 3) := by decide +kernel
theorem dX6_setCell_74 : decode cX6_setCell 74 = .ok (.iload 4, 2) := by decide +kernel
theorem dX6_setCell_76 : decode cX6_setCell 76 = .ok (.iaload, 1) := by decide +kernel
theorem dX6_setCell_77 : decode cX6_setCell 77 = .ok (.istore 5, 2) := by decide +kernel
theorem dX6_setCell_79 : decode cX6_setCell 79 = .ok (.aload_n 0, 1) := by decide +kernel
theorem dX6_setCell_80 : decode cX6_setCell 80 = .ok (.getfield 12, 3) := by decide +kernel
theorem dX6_setCell_83 : decode cX6_setCell 83 = .ok (.getfield 83, 3) := by decide +kernel
theorem dX6_setCell_86 : decode cX6_setCell 86 = .ok (.iload 4, 2) := by decide +kernel
theorem dX6_setCell_88 : decode cX6_setCell 88 = .ok (.iload_n 3, 1) := by decide +kernel
theorem dX6_setCell_89 : decode cX6_setCell 89 = .ok (.iastore, 1) := by decide +kernel
theorem dX6_setCell_90 : decode cX6_setCell 90 = .ok (.aload_n 0, 1) := by decide +kernel
theorem dX6_setCell_91 : decode cX6_setCell 91 = .ok (.getfield 19, 3) := by decide +kernel
theorem dX6_setCell_94 : decode cX6_setCell 94 = .ok (.invokevirtual 87, 3) := by decide +kernel
theorem dX6_setCell_97 : decode cX6_setCell 97 = .ok (.iload 5, 2) := by decide +kernel
theorem dX6_setCell_99 : decode cX6_setCell 99 = .ok (.ireturn, 1) := by decide +kernel
theorem dX6_cell_0 : decode cX6_cell 0 = .ok (.iload_n 1, 1) := by decide +kernel
theorem dX6_cell_1 : decode cX6_cell 1 = .ok (.iload_n 2, 1) := by decide +kernel
theorem dX6_cell_2 : decode cX6_cell 2 = .ok (.invokestatic 56, 3) := by decide +kernel
theorem dX6_cell_5 : decode cX6_cell 5 = .ok (.iload_n 1, 1) := by decide +kernel
theorem dX6_cell_6 : decode cX6_cell 6 = .ok (.iload_n 2, 1) := by decide +kernel
theorem dX6_cell_7 : decode cX6_cell 7 = .ok (.invokestatic 64, 3) := by decide +kernel
theorem dX6_cell_10 : decode cX6_cell 10 = .ok (.istore 4, 2) := by decide +kernel
theorem dX6_cell_12 : decode cX6_cell 12 = .ok (.iload_n 3, 1) := by decide +kernel
theorem dX6_cell_13 : decode cX6_cell 13 = .ok (.tableswitch 73 0 3 #[31, 42, 52, 63], 31) := by decide +kernel
theorem dX6_cell_44 : decode cX6_cell 44 = .ok (.aload_n 0, 1) := by decide +kernel
theorem dX6_cell_45 : decode cX6_cell 45 = .ok (.getfield 12, 3) := by decide +kernel
theorem dX6_cell_48 : decode cX6_cell 48 = .ok (.getfield 83, 3) := by decide +kernel
theorem dX6_cell_51 : decode cX6_cell 51 = .ok (.iload 4, 2) := by decide +kernel
theorem dX6_cell_53 : decode cX6_cell 53 = .ok (.iaload, 1) := by decide +kernel
theorem dX6_cell_54 : decode cX6_cell 54 = .ok (.ireturn, 1) := by decide +kernel
theorem dX6_cell_55 : decode cX6_cell 55 = .ok (.aload_n 0, 1) := by decide +kernel
theorem dX6_cell_56 : decode cX6_cell 56 = .ok (.getfield 28, 3) := by decide +kernel
theorem dX6_cell_59 : decode cX6_cell 59 = .ok (.iload 4, 2) := by decide +kernel
theorem dX6_cell_61 : decode cX6_cell 61 = .ok (.invokevirtual 90, 3) := by decide +kernel
theorem dX6_cell_64 : decode cX6_cell 64 = .ok (.ireturn, 1) := by decide +kernel
theorem dX6_cell_65 : decode cX6_cell 65 = .ok (.aload_n 0, 1) := by decide +kernel
theorem dX6_cell_66 : decode cX6_cell 66 = .ok (.getfield 12, 3) := by decide +kernel
theorem dX6_cell_69 : decode cX6_cell 69 = .ok (.getfield 94, 3) := by decide +kernel
theorem dX6_cell_72 : decode cX6_cell 72 = .ok (.iload 4, 2) := by decide +kernel
theorem dX6_cell_74 : decode cX6_cell 74 = .ok (.iaload, 1) := by decide +kernel
theorem dX6_cell_75 : decode cX6_cell 75 = .ok (.ireturn, 1) := by decide +kernel
theorem dX6_cell_76 : decode cX6_cell 76 = .ok (.aload_n 0, 1) := by decide +kernel
theorem dX6_cell_77 : decode cX6_cell 77 = .ok (.getfield 28, 3) := by decide +kernel
theorem dX6_cell_80 : decode cX6_cell 80 = .ok (.iload 4, 2) := by decide +kernel
theorem dX6_cell_82 : decode cX6_cell 82 = .ok (.invokevirtual 97, 3) := by decide +kernel
theorem dX6_cell_85 : decode cX6_cell 85 = .ok (.ireturn, 1) := by decide +kernel
theorem dX6_cell_86 : decode cX6_cell 86 = .ok (.new 100, 3) := by decide +kernel
theorem dX6_cell_89 : decode cX6_cell 89 = .ok (.dup, 1) := by decide +kernel
theorem dX6_cell_90 : decode cX6_cell 90 = .ok (.ldc 102, 2) := by decide +kernel
theorem dX6_cell_92 : decode cX6_cell 92 = .ok (.invokespecial 104, 3) := by decide +kernel
theorem dX6_cell_95 : decode cX6_cell 95 = .ok (.athrow, 1) := by decide +kernel
theorem dX6_setGoal_0 : decode cX6_setGoal 0 = .ok (.iload_n 1, 1) := by decide +kernel
theorem dX6_setGoal_1 : decode cX6_setGoal 1 = .ok (.invokestatic 105, 3) := by decide +kernel
theorem dX6_setGoal_4 : decode cX6_setGoal 4 = .ok (.iload_n 2, 1) := by decide +kernel
theorem dX6_setGoal_5 : decode cX6_setGoal 5 = .ok (.iload_n 3, 1) := by decide +kernel
theorem dX6_setGoal_6 : decode cX6_setGoal 6 = .ok (.invokestatic 56, 3) := by decide +kernel
theorem dX6_setGoal_9 : decode cX6_setGoal 9 = .ok (.iload_n 2, 1) := by decide +kernel
theorem dX6_setGoal_10 : decode cX6_setGoal 10 = .ok (.iload_n 3, 1) := by decide +kernel
theorem dX6_setGoal_11 : decode cX6_setGoal 11 = .ok (.invokestatic 64, 3) := by decide +kernel
theorem dX6_setGoal_14 : decode cX6_setGoal 14 = .ok (.istore 4, 2) := by decide +kernel
theorem dX6_setGoal_16 : decode cX6_setGoal 16 = .ok (.aload_n 0, 1) := by decide +kernel
theorem dX6_setGoal_17 : decode cX6_setGoal 17 = .ok (.getfield 12, 3) := by decide +kernel
theorem dX6_setGoal_20 : decode cX6_setGoal 20 = .ok (.getfield 83, 3) := by decide +kernel
theorem dX6_setGoal_23 : decode cX6_setGoal 23 = .ok (.iload 4, 2) := by decide +kernel
theorem dX6_setGoal_25 : decode cX6_setGoal 25 = .ok (.iaload, 1) := by decide +kernel
theorem dX6_setGoal_26 : decode cX6_setGoal 26 = .ok (.ifCond .ne 13, 3) := by decide +kernel
theorem dX6_setGoal_29 : decode cX6_setGoal 29 = .ok (.new 72, 3) := by decide +kernel
theorem dX6_setGoal_32 : decode cX6_setGoal 32 = .ok (.dup, 1) := by decide +kernel
theorem dX6_setGoal_33 : decode cX6_setGoal 33 = .ok (.ldc 109, 2) := by decide +kernel
theorem dX6_setGoal_35 : decode cX6_setGoal 35 = .ok (.invokespecial 76, 3) := by decide +kernel
theorem dX6_setGoal_38 : decode cX6_setGoal 38 = .ok (.athrow, 1) := by decide +kernel
theorem dX6_setGoal_39 : decode cX6_setGoal 39 = .ok (.aload_n 0, 1) := by decide +kernel
theorem dX6_setGoal_40 : decode cX6_setGoal 40 = .ok (.getfield 38, 3) := by decide +kernel
theorem dX6_setGoal_43 : decode cX6_setGoal 43 = .ok (.aload_n 0, 1) := by decide +kernel
theorem dX6_setGoal_44 : decode cX6_setGoal 44 = .ok (.getfield 12, 3) := by decide +kernel
theorem dX6_setGoal_47 : decode cX6_setGoal 47 = .ok (.invokevirtual 79, 3) := by decide +kernel
theorem dX6_setGoal_50 : decode cX6_setGoal 50 = .ok (.aload_n 0, 1) := by decide +kernel
theorem dX6_setGoal_51 : decode cX6_setGoal 51 = .ok (.getfield 12, 3) := by decide +kernel
theorem dX6_setGoal_54 : decode cX6_setGoal 54 = .ok (.getfield 111, 3) := by decide +kernel
theorem dX6_setGoal_57 : decode cX6_setGoal 57 = .ok (.iload_n 1, 1) := by decide +kernel
theorem dX6_setGoal_58 : decode cX6_setGoal 58 = .ok (.iload 4, 2) := by decide +kernel
theorem dX6_setGoal_60 : decode cX6_setGoal 60 = .ok (.iastore, 1) := by decide +kernel
theorem dX6_setGoal_61 : decode cX6_setGoal 61 = .ok (.aload_n 0, 1) := by decide +kernel
theorem dX6_setGoal_62 : decode cX6_setGoal 62 = .ok (.getfield 19, 3) := by decide +kernel
theorem dX6_setGoal_65 : decode cX6_setGoal 65 = .ok (.iload 4, 2) := by decide +kernel
theorem dX6_setGoal_67 : decode cX6_setGoal 67 = .ok (.aload_n 0, 1) := by decide +kernel
theorem dX6_setGoal_68 : decode cX6_setGoal 68 = .ok (.getfield 12, 3) := by decide +kernel
theorem dX6_setGoal_71 : decode cX6_setGoal 71 = .ok (.getfield 83, 3) := by decide +kernel
theorem dX6_setGoal_74 : decode cX6_setGoal 74 = .ok (.invokevirtual 114, 3) := by decide +kernel
theorem dX6_setGoal_77 : decode cX6_setGoal 77 = .ok (.invokevirtual 118, 3) := by decide +kernel
theorem dX6_setGoal_80 : decode cX6_setGoal 80 = .ok (.ireturn, 1) := by decide +kernel
theorem dX6_dropGoal_0 : decode cX6_dropGoal 0 = .ok (.iload_n 1, 1) := by decide +kernel
theorem dX6_dropGoal_1 : decode cX6_dropGoal 1 = .ok (.invokestatic 105, 3) := by decide +kernel
theorem dX6_dropGoal_4 : decode cX6_dropGoal 4 = .ok (.aload_n 0, 1) := by decide +kernel
theorem dX6_dropGoal_5 : decode cX6_dropGoal 5 = .ok (.iload_n 1, 1) := by decide +kernel
theorem dX6_dropGoal_6 : decode cX6_dropGoal 6 = .ok (.invokevirtual 124, 3) := by decide +kernel
theorem dX6_dropGoal_9 : decode cX6_dropGoal 9 = .ok (.aload_n 0, 1) := by decide +kernel
theorem dX6_dropGoal_10 : decode cX6_dropGoal 10 = .ok (.getfield 38, 3) := by decide +kernel
theorem dX6_dropGoal_13 : decode cX6_dropGoal 13 = .ok (.aload_n 0, 1) := by decide +kernel
theorem dX6_dropGoal_14 : decode cX6_dropGoal 14 = .ok (.getfield 12, 3) := by decide +kernel
theorem dX6_dropGoal_17 : decode cX6_dropGoal 17 = .ok (.invokevirtual 79, 3) := by decide +kernel
theorem dX6_dropGoal_20 : decode cX6_dropGoal 20 = .ok (.aload_n 0, 1) := by decide +kernel
theorem dX6_dropGoal_21 : decode cX6_dropGoal 21 = .ok (.getfield 12, 3) := by decide +kernel
theorem dX6_dropGoal_24 : decode cX6_dropGoal 24 = .ok (.getfield 111, 3) := by decide +kernel
theorem dX6_dropGoal_27 : decode cX6_dropGoal 27 = .ok (.iload_n 1, 1) := by decide +kernel
theorem dX6_dropGoal_28 : decode cX6_dropGoal 28 = .ok (.iconst (-1), 1) := by decide +kernel
theorem dX6_dropGoal_29 : decode cX6_dropGoal 29 = .ok (.iastore, 1) := by decide +kernel
theorem dX6_dropGoal_30 : decode cX6_dropGoal 30 = .ok (.iconst 0, 1) := by decide +kernel
theorem dX6_dropGoal_31 : decode cX6_dropGoal 31 = .ok (.istore_n 2, 1) := by decide +kernel
theorem dX6_dropGoal_32 : decode cX6_dropGoal 32 = .ok (.iconst 0, 1) := by decide +kernel
theorem dX6_dropGoal_33 : decode cX6_dropGoal 33 = .ok (.istore_n 3, 1) := by decide +kernel
theorem dX6_dropGoal_34 : decode cX6_dropGoal 34 = .ok (.iload_n 3, 1) := by decide +kernel
theorem dX6_dropGoal_35 : decode cX6_dropGoal 35 = .ok (.bipush 16, 2) := by decide +kernel
theorem dX6_dropGoal_37 : decode cX6_dropGoal 37 = .ok (.if_icmp .ge 36, 3) := by decide +kernel
theorem dX6_dropGoal_40 : decode cX6_dropGoal 40 = .ok (.aload_n 0, 1) := by decide +kernel
theorem dX6_dropGoal_41 : decode cX6_dropGoal 41 = .ok (.getfield 28, 3) := by decide +kernel
theorem dX6_dropGoal_44 : decode cX6_dropGoal 44 = .ok (.iload_n 3, 1) := by decide +kernel
theorem dX6_dropGoal_45 : decode cX6_dropGoal 45 = .ok (.invokevirtual 127, 3) := by decide +kernel
theorem dX6_dropGoal_48 : decode cX6_dropGoal 48 = .ok (.ifCond .eq 19, 3) := by decide +kernel
theorem dX6_dropGoal_51 : decode cX6_dropGoal 51 = .ok (.aload_n 0, 1) := by decide +kernel
theorem dX6_dropGoal_52 : decode cX6_dropGoal 52 = .ok (.getfield 12, 3) := by decide +kernel
theorem dX6_dropGoal_55 : decode cX6_dropGoal 55 = .ok (.getfield 130, 3) := by decide +kernel
theorem dX6_dropGoal_58 : decode cX6_dropGoal 58 = .ok (.iload_n 3, 1) := by decide +kernel
theorem dX6_dropGoal_59 : decode cX6_dropGoal 59 = .ok (.iaload, 1) := by decide +kernel
theorem dX6_dropGoal_60 : decode cX6_dropGoal 60 = .ok (.iload_n 1, 1) := by decide +kernel
theorem dX6_dropGoal_61 : decode cX6_dropGoal 61 = .ok (.if_icmp .ne 6, 3) := by decide +kernel
theorem dX6_dropGoal_64 : decode cX6_dropGoal 64 = .ok (.iinc 2 1, 3) := by decide +kernel
theorem dX6_dropGoal_67 : decode cX6_dropGoal 67 = .ok (.iinc 3 1, 3) := by decide +kernel
theorem dX6_dropGoal_70 : decode cX6_dropGoal 70 = .ok (.goto (-36), 3) := by decide +kernel
theorem dX6_dropGoal_73 : decode cX6_dropGoal 73 = .ok (.iload_n 2, 1) := by decide +kernel
theorem dX6_dropGoal_74 : decode cX6_dropGoal 74 = .ok (.ireturn, 1) := by decide +kernel
theorem dX6_distance_0 : decode cX6_distance 0 = .ok (.aload_n 0, 1) := by decide +kernel
theorem dX6_distance_1 : decode cX6_distance 1 = .ok (.iload_n 1, 1) := by decide +kernel
theorem dX6_distance_2 : decode cX6_distance 2 = .ok (.iload_n 2, 1) := by decide +kernel
theorem dX6_distance_3 : decode cX6_distance 3 = .ok (.iload_n 3, 1) := by decide +kernel
theorem dX6_distance_4 : decode cX6_distance 4 = .ok (.invokevirtual 133, 3) := by decide +kernel
theorem dX6_distance_7 : decode cX6_distance 7 = .ok (.iload_n 2, 1) := by decide +kernel
theorem dX6_distance_8 : decode cX6_distance 8 = .ok (.iload_n 3, 1) := by decide +kernel
theorem dX6_distance_9 : decode cX6_distance 9 = .ok (.invokestatic 64, 3) := by decide +kernel
theorem dX6_distance_12 : decode cX6_distance 12 = .ok (.invokevirtual 137, 3) := by decide +kernel
theorem dX6_distance_15 : decode cX6_distance 15 = .ok (.ireturn, 1) := by decide +kernel
theorem dX6_flow_0 : decode cX6_flow 0 = .ok (.aload_n 0, 1) := by decide +kernel
theorem dX6_flow_1 : decode cX6_flow 1 = .ok (.iload_n 1, 1) := by decide +kernel
theorem dX6_flow_2 : decode cX6_flow 2 = .ok (.iload_n 2, 1) := by decide +kernel
theorem dX6_flow_3 : decode cX6_flow 3 = .ok (.iload_n 3, 1) := by decide +kernel
theorem dX6_flow_4 : decode cX6_flow 4 = .ok (.invokevirtual 133, 3) := by decide +kernel
theorem dX6_flow_7 : decode cX6_flow 7 = .ok (.iload_n 2, 1) := by decide +kernel
theorem dX6_flow_8 : decode cX6_flow 8 = .ok (.iload_n 3, 1) := by decide +kernel
theorem dX6_flow_9 : decode cX6_flow 9 = .ok (.invokestatic 64, 3) := by decide +kernel
theorem dX6_flow_12 : decode cX6_flow 12 = .ok (.aload_n 0, 1) := by decide +kernel
theorem dX6_flow_13 : decode cX6_flow 13 = .ok (.getfield 12, 3) := by decide +kernel
theorem dX6_flow_16 : decode cX6_flow 16 = .ok (.getfield 83, 3) := by decide +kernel
theorem dX6_flow_19 : decode cX6_flow 19 = .ok (.invokevirtual 140, 3) := by decide +kernel
theorem dX6_flow_22 : decode cX6_flow 22 = .ok (.ireturn, 1) := by decide +kernel
theorem dX6_steps_0 : decode cX6_steps 0 = .ok (.aload_n 0, 1) := by decide +kernel
theorem dX6_steps_1 : decode cX6_steps 1 = .ok (.iload_n 1, 1) := by decide +kernel
theorem dX6_steps_2 : decode cX6_steps 2 = .ok (.iload_n 2, 1) := by decide +kernel
theorem dX6_steps_3 : decode cX6_steps 3 = .ok (.iload_n 3, 1) := by decide +kernel
theorem dX6_steps_4 : decode cX6_steps 4 = .ok (.invokevirtual 133, 3) := by decide +kernel
theorem dX6_steps_7 : decode cX6_steps 7 = .ok (.iload_n 2, 1) := by decide +kernel
theorem dX6_steps_8 : decode cX6_steps 8 = .ok (.iload_n 3, 1) := by decide +kernel
theorem dX6_steps_9 : decode cX6_steps 9 = .ok (.invokestatic 64, 3) := by decide +kernel
theorem dX6_steps_12 : decode cX6_steps 12 = .ok (.aload_n 0, 1) := by decide +kernel
theorem dX6_steps_13 : decode cX6_steps 13 = .ok (.getfield 12, 3) := by decide +kernel
theorem dX6_steps_16 : decode cX6_steps 16 = .ok (.getfield 83, 3) := by decide +kernel
theorem dX6_steps_19 : decode cX6_steps 19 = .ok (.invokevirtual 144, 3) := by decide +kernel
theorem dX6_steps_22 : decode cX6_steps 22 = .ok (.ireturn, 1) := by decide +kernel
theorem dX6_setPatience_0 : decode cX6_setPatience 0 = .ok (.iload_n 1, 1) := by decide +kernel
theorem dX6_setPatience_1 : decode cX6_setPatience 1 = .ok (.ifCond .lt 13, 3) := by decide +kernel
theorem dX6_setPatience_4 : decode cX6_setPatience 4 = .ok (.iload_n 1, 1) := by decide +kernel
theorem dX6_setPatience_5 : decode cX6_setPatience 5 = .ok (.bipush 9, 2) := by decide +kernel
theorem dX6_setPatience_7 : decode cX6_setPatience 7 = .ok (.if_icmp .gt 7, 3) := by decide +kernel
theorem dX6_setPatience_10 : decode cX6_setPatience 10 = .ok (.iconst 1, 1) := by decide +kernel
theorem dX6_setPatience_11 : decode cX6_setPatience 11 = .ok (.goto 4, 3) := by decide +kernel
theorem dX6_setPatience_14 : decode cX6_setPatience 14 = .ok (.iconst 0, 1) := by decide +kernel
theorem dX6_setPatience_15 : decode cX6_setPatience 15 = .ok (.invokestatic 60, 3) := by decide +kernel
theorem dX6_setPatience_18 : decode cX6_setPatience 18 = .ok (.aload_n 0, 1) := by decide +kernel
theorem dX6_setPatience_19 : decode cX6_setPatience 19 = .ok (.getfield 38, 3) := by decide +kernel
theorem dX6_setPatience_22 : decode cX6_setPatience 22 = .ok (.aload_n 0, 1) := by decide +kernel
theorem dX6_setPatience_23 : decode cX6_setPatience 23 = .ok (.getfield 12, 3) := by decide +kernel
theorem dX6_setPatience_26 : decode cX6_setPatience 26 = .ok (.invokevirtual 79, 3) := by decide +kernel
theorem dX6_setPatience_29 : decode cX6_setPatience 29 = .ok (.aload_n 0, 1) := by decide +kernel
theorem dX6_setPatience_30 : decode cX6_setPatience 30 = .ok (.getfield 12, 3) := by decide +kernel
theorem dX6_setPatience_33 : decode cX6_setPatience 33 = .ok (.getfield 147, 3) := by decide +kernel
theorem dX6_setPatience_36 : decode cX6_setPatience 36 = .ok (.istore_n 2, 1) := by decide +kernel
theorem dX6_setPatience_37 : decode cX6_setPatience 37 = .ok (.aload_n 0, 1) := by decide +kernel
theorem dX6_setPatience_38 : decode cX6_setPatience 38 = .ok (.getfield 12, 3) := by decide +kernel
theorem dX6_setPatience_41 : decode cX6_setPatience 41 = .ok (.iload_n 1, 1) := by decide +kernel
theorem dX6_setPatience_42 : decode cX6_setPatience 42 = .ok (.putfield 147, 3) := by decide +kernel
theorem dX6_setPatience_45 : decode cX6_setPatience 45 = .ok (.iload_n 2, 1) := by decide +kernel
theorem dX6_setPatience_46 : decode cX6_setPatience 46 = .ok (.ireturn, 1) := by decide +kernel
theorem dX6_add_0 : decode cX6_add 0 = .ok (.iload_n 1, 1) := by decide +kernel
theorem dX6_add_1 : decode cX6_add 1 = .ok (.iload_n 2, 1) := by decide +kernel
theorem dX6_add_2 : decode cX6_add 2 = .ok (.invokestatic 56, 3) := by decide +kernel
theorem dX6_add_5 : decode cX6_add 5 = .ok (.iload_n 3, 1) := by decide +kernel
theorem dX6_add_6 : decode cX6_add 6 = .ok (.invokestatic 151, 3) := by decide +kernel
theorem dX6_add_9 : decode cX6_add 9 = .ok (.ifCond .eq 15, 3) := by decide +kernel
theorem dX6_add_12 : decode cX6_add 12 = .ok (.iload 4, 2) := by decide +kernel
theorem dX6_add_14 : decode cX6_add 14 = .ok (.invokestatic 154, 3) := by decide +kernel
theorem dX6_add_17 : decode cX6_add 17 = .ok (.ifCond .eq 7, 3) := by decide +kernel
theorem dX6_add_20 : decode cX6_add 20 = .ok (.iconst 1, 1) := by decide +kernel
theorem dX6_add_21 : decode cX6_add 21 = .ok (.goto 4, 3) := by decide +kernel
theorem dX6_add_24 : decode cX6_add 24 = .ok (.iconst 0, 1) := by decide +kernel
theorem dX6_add_25 : decode cX6_add 25 = .ok (.invokestatic 60, 3) := by decide +kernel
theorem dX6_add_28 : decode cX6_add 28 = .ok (.iload_n 1, 1) := by decide +kernel
theorem dX6_add_29 : decode cX6_add 29 = .ok (.iload_n 2, 1) := by decide +kernel
theorem dX6_add_30 : decode cX6_add 30 = .ok (.invokestatic 64, 3) := by decide +kernel
theorem dX6_add_33 : decode cX6_add 33 = .ok (.istore 5, 2) := by decide +kernel
theorem dX6_add_35 : decode cX6_add 35 = .ok (.aload_n 0, 1) := by decide +kernel
theorem dX6_add_36 : decode cX6_add 36 = .ok (.getfield 28, 3) := by decide +kernel
theorem dX6_add_39 : decode cX6_add 39 = .ok (.iload 5, 2) := by decide +kernel
theorem dX6_add_41 : decode cX6_add 41 = .ok (.invokevirtual 157, 3) := by decide +kernel
theorem dX6_add_44 : decode cX6_add 44 = .ok (.ifCond .ne 13, 3) := by decide +kernel
theorem dX6_add_47 : decode cX6_add 47 = .ok (.new 72, 3) := by decide +kernel
theorem dX6_add_50 : decode cX6_add 50 = .ok (.dup, 1) := by decide +kernel
theorem dX6_add_51 : decode cX6_add 51 = .ok (.ldc 160, 2) := by decide +kernel
theorem dX6_add_53 : decode cX6_add 53 = .ok (.invokespecial 76, 3) := by decide +kernel
theorem dX6_add_56 : decode cX6_add 56 = .ok (.athrow, 1) := by decide +kernel
theorem dX6_add_57 : decode cX6_add 57 = .ok (.aload_n 0, 1) := by decide +kernel
theorem dX6_add_58 : decode cX6_add 58 = .ok (.getfield 28, 3) := by decide +kernel
theorem dX6_add_61 : decode cX6_add 61 = .ok (.invokevirtual 162, 3) := by decide +kernel
theorem dX6_add_64 : decode cX6_add 64 = .ok (.istore 6, 2) := by decide +kernel
theorem dX6_add_66 : decode cX6_add 66 = .ok (.iload 6, 2) := by decide +kernel
theorem dX6_add_68 : decode cX6_add 68 = .ok (.iconst (-1), 1) := by decide +kernel
theorem dX6_add_69 : decode cX6_add 69 = .ok (.if_icmp .ne 13, 3) := by decide +kernel
theorem dX6_add_72 : decode cX6_add 72 = .ok (.new 72, 3) := by decide +kernel
theorem dX6_add_75 : decode cX6_add 75 = .ok (.dup, 1) := by decide +kernel
theorem dX6_add_76 : decode cX6_add 76 = .ok (.ldc 165, 2) := by decide +kernel
theorem dX6_add_78 : decode cX6_add 78 = .ok (.invokespecial 76, 3) := by decide +kernel
theorem dX6_add_81 : decode cX6_add 81 = .ok (.athrow, 1) := by decide +kernel
theorem dX6_add_82 : decode cX6_add 82 = .ok (.aload_n 0, 1) := by decide +kernel
theorem dX6_add_83 : decode cX6_add 83 = .ok (.getfield 38, 3) := by decide +kernel
theorem dX6_add_86 : decode cX6_add 86 = .ok (.aload_n 0, 1) := by decide +kernel
theorem dX6_add_87 : decode cX6_add 87 = .ok (.getfield 12, 3) := by decide +kernel
theorem dX6_add_90 : decode cX6_add 90 = .ok (.invokevirtual 79, 3) := by decide +kernel
theorem dX6_add_93 : decode cX6_add 93 = .ok (.aload_n 0, 1) := by decide +kernel
theorem dX6_add_94 : decode cX6_add 94 = .ok (.getfield 12, 3) := by decide +kernel
theorem dX6_add_97 : decode cX6_add 97 = .ok (.iload 6, 2) := by decide +kernel
theorem dX6_add_99 : decode cX6_add 99 = .ok (.iload 5, 2) := by decide +kernel
theorem dX6_add_101 : decode cX6_add 101 = .ok (.iload_n 3, 1) := by decide +kernel
theorem dX6_add_102 : decode cX6_add 102 = .ok (.iload 4, 2) := by decide +kernel
theorem dX6_add_104 : decode cX6_add 104 = .ok (.invokevirtual 167, 3) := by decide +kernel
theorem dX6_add_107 : decode cX6_add 107 = .ok (.iload 6, 2) := by decide +kernel
theorem dX6_add_109 : decode cX6_add 109 = .ok (.ireturn, 1) := by decide +kernel
theorem dX6_remove_0 : decode cX6_remove 0 = .ok (.aload_n 0, 1) := by decide +kernel
theorem dX6_remove_1 : decode cX6_remove 1 = .ok (.iload_n 1, 1) := by decide +kernel
theorem dX6_remove_2 : decode cX6_remove 2 = .ok (.invokevirtual 171, 3) := by decide +kernel
theorem dX6_remove_5 : decode cX6_remove 5 = .ok (.aload_n 0, 1) := by decide +kernel
theorem dX6_remove_6 : decode cX6_remove 6 = .ok (.getfield 38, 3) := by decide +kernel
theorem dX6_remove_9 : decode cX6_remove 9 = .ok (.aload_n 0, 1) := by decide +kernel
theorem dX6_remove_10 : decode cX6_remove 10 = .ok (.getfield 12, 3) := by decide +kernel
theorem dX6_remove_13 : decode cX6_remove 13 = .ok (.invokevirtual 79, 3) := by decide +kernel
theorem dX6_remove_16 : decode cX6_remove 16 = .ok (.aload_n 0, 1) := by decide +kernel
theorem dX6_remove_17 : decode cX6_remove 17 = .ok (.getfield 12, 3) := by decide +kernel
theorem dX6_remove_20 : decode cX6_remove 20 = .ok (.iload_n 1, 1) := by decide +kernel
theorem dX6_remove_21 : decode cX6_remove 21 = .ok (.invokevirtual 174, 3) := by decide +kernel
theorem dX6_remove_24 : decode cX6_remove 24 = .ok (.aload_n 0, 1) := by decide +kernel
theorem dX6_remove_25 : decode cX6_remove 25 = .ok (.getfield 28, 3) := by decide +kernel
theorem dX6_remove_28 : decode cX6_remove 28 = .ok (.invokevirtual 177, 3) := by decide +kernel
theorem dX6_remove_31 : decode cX6_remove 31 = .ok (.invokestatic 180, 3) := by decide +kernel
theorem dX6_remove_34 : decode cX6_remove 34 = .ok (.ireturn, 1) := by decide +kernel
theorem dX6_change_0 : decode cX6_change 0 = .ok (.aload_n 0, 1) := by decide +kernel
theorem dX6_change_1 : decode cX6_change 1 = .ok (.iload_n 1, 1) := by decide +kernel
theorem dX6_change_2 : decode cX6_change 2 = .ok (.invokevirtual 171, 3) := by decide +kernel
theorem dX6_change_5 : decode cX6_change 5 = .ok (.iload_n 2, 1) := by decide +kernel
theorem dX6_change_6 : decode cX6_change 6 = .ok (.ifCond .eq 10, 3) := by decide +kernel
theorem dX6_change_9 : decode cX6_change 9 = .ok (.iload_n 3, 1) := by decide +kernel
theorem dX6_change_10 : decode cX6_change 10 = .ok (.invokestatic 151, 3) := by decide +kernel
theorem dX6_change_13 : decode cX6_change 13 = .ok (.goto 7, 3) := by decide +kernel
theorem dX6_change_16 : decode cX6_change 16 = .ok (.iload_n 3, 1) := by decide +kernel
theorem dX6_change_17 : decode cX6_change 17 = .ok (.invokestatic 154, 3) := by decide +kernel
theorem dX6_change_20 : decode cX6_change 20 = .ok (.invokestatic 60, 3) := by decide +kernel
theorem dX6_change_23 : decode cX6_change 23 = .ok (.aload_n 0, 1) := by decide +kernel
theorem dX6_change_24 : decode cX6_change 24 = .ok (.getfield 38, 3) := by decide +kernel
theorem dX6_change_27 : decode cX6_change 27 = .ok (.aload_n 0, 1) := by decide +kernel
theorem dX6_change_28 : decode cX6_change 28 = .ok (.getfield 12, 3) := by decide +kernel
theorem dX6_change_31 : decode cX6_change 31 = .ok (.invokevirtual 79, 3) := by decide +kernel
theorem dX6_change_34 : decode cX6_change 34 = .ok (.iload_n 2, 1) := by decide +kernel
theorem dX6_change_35 : decode cX6_change 35 = .ok (.ifCond .eq 13, 3) := by decide +kernel
theorem dX6_change_38 : decode cX6_change 38 = .ok (.aload_n 0, 1) := by decide +kernel
theorem dX6_change_39 : decode cX6_change 39 = .ok (.getfield 12, 3) := by decide +kernel
theorem dX6_change_42 : decode cX6_change 42 = .ok (.getfield 130, 3) := by decide +kernel
theorem dX6_change_45 : decode cX6_change 45 = .ok (.goto 10, 3) := by decide +kernel
theorem dX6_change_48 : decode cX6_change 48 = .ok (.aload_n 0, 1) := by decide +kernel
theorem dX6_change_49 : decode cX6_change 49 = .ok (.getfield 12, 3) := by decide +kernel
theorem dX6_change_52 : decode cX6_change 52 = .ok (.getfield 185, 3) := by decide +kernel
theorem dX6_change_55 : decode cX6_change 55 = .ok (.astore 4, 2) := by decide +kernel
theorem dX6_change_57 : decode cX6_change 57 = .ok (.aload 4, 2) := by decide +kernel
theorem dX6_change_59 : decode cX6_change 59 = .ok (.iload_n 1, 1) := by decide +kernel
theorem dX6_change_60 : decode cX6_change 60 = .ok (.iaload, 1) := by decide +kernel
theorem dX6_change_61 : decode cX6_change 61 = .ok (.istore 5, 2) := by decide +kernel
theorem dX6_change_63 : decode cX6_change 63 = .ok (.aload 4, 2) := by decide +kernel
theorem dX6_change_65 : decode cX6_change 65 = .ok (.iload_n 1, 1) := by decide +kernel
theorem dX6_change_66 : decode cX6_change 66 = .ok (.iload_n 3, 1) := by decide +kernel
theorem dX6_change_67 : decode cX6_change 67 = .ok (.iastore, 1) := by decide +kernel
theorem dX6_change_68 : decode cX6_change 68 = .ok (.iload 5, 2) := by decide +kernel
theorem dX6_change_70 : decode cX6_change 70 = .ok (.ireturn, 1) := by decide +kernel
theorem dX6_agent_0 : decode cX6_agent 0 = .ok (.aload_n 0, 1) := by decide +kernel
theorem dX6_agent_1 : decode cX6_agent 1 = .ok (.iload_n 1, 1) := by decide +kernel
theorem dX6_agent_2 : decode cX6_agent 2 = .ok (.invokevirtual 171, 3) := by decide +kernel
theorem dX6_agent_5 : decode cX6_agent 5 = .ok (.iload_n 2, 1) := by decide +kernel
theorem dX6_agent_6 : decode cX6_agent 6 = .ok (.tableswitch 184 0 10 #[58, 71, 84, 94, 104, 114, 124, 134, 146, 158, 167], 58) := by decide +kernel
theorem dX6_agent_64 : decode cX6_agent 64 = .ok (.aload_n 0, 1) := by decide +kernel
theorem dX6_agent_65 : decode cX6_agent 65 = .ok (.getfield 12, 3) := by decide +kernel
theorem dX6_agent_68 : decode cX6_agent 68 = .ok (.getfield 188, 3) := by decide +kernel
theorem dX6_agent_71 : decode cX6_agent 71 = .ok (.iload_n 1, 1) := by decide +kernel
theorem dX6_agent_72 : decode cX6_agent 72 = .ok (.iaload, 1) := by decide +kernel
theorem dX6_agent_73 : decode cX6_agent 73 = .ok (.invokestatic 191, 3) := by decide +kernel
theorem dX6_agent_76 : decode cX6_agent 76 = .ok (.ireturn, 1) := by decide +kernel
theorem dX6_agent_77 : decode cX6_agent 77 = .ok (.aload_n 0, 1) := by decide +kernel
theorem dX6_agent_78 : decode cX6_agent 78 = .ok (.getfield 12, 3) := by decide +kernel
theorem dX6_agent_81 : decode cX6_agent 81 = .ok (.getfield 188, 3) := by decide +kernel
theorem dX6_agent_84 : decode cX6_agent 84 = .ok (.iload_n 1, 1) := by decide +kernel
theorem dX6_agent_85 : decode cX6_agent 85 = .ok (.iaload, 1) := by decide +kernel
theorem dX6_agent_86 : decode cX6_agent 86 = .ok (.invokestatic 194, 3) := by decide +kernel
theorem dX6_agent_89 : decode cX6_agent 89 = .ok (.ireturn, 1) := by decide +kernel
theorem dX6_agent_90 : decode cX6_agent 90 = .ok (.aload_n 0, 1) := by decide +kernel
theorem dX6_agent_91 : decode cX6_agent 91 = .ok (.getfield 12, 3) := by decide +kernel
theorem dX6_agent_94 : decode cX6_agent 94 = .ok (.getfield 130, 3) := by decide +kernel
theorem dX6_agent_97 : decode cX6_agent 97 = .ok (.iload_n 1, 1) := by decide +kernel
theorem dX6_agent_98 : decode cX6_agent 98 = .ok (.iaload, 1) := by decide +kernel
theorem dX6_agent_99 : decode cX6_agent 99 = .ok (.ireturn, 1) := by decide +kernel
theorem dX6_agent_100 : decode cX6_agent 100 = .ok (.aload_n 0, 1) := by decide +kernel
theorem dX6_agent_101 : decode cX6_agent 101 = .ok (.getfield 12, 3) := by decide +kernel
theorem dX6_agent_104 : decode cX6_agent 104 = .ok (.getfield 185, 3) := by decide +kernel
theorem dX6_agent_107 : decode cX6_agent 107 = .ok (.iload_n 1, 1) := by decide +kernel
theorem dX6_agent_108 : decode cX6_agent 108 = .ok (.iaload, 1) := by decide +kernel
theorem dX6_agent_109 : decode cX6_agent 109 = .ok (.ireturn, 1) := by decide +kernel
theorem dX6_agent_110 : decode cX6_agent 110 = .ok (.aload_n 0, 1) := by decide +kernel
theorem dX6_agent_111 : decode cX6_agent 111 = .ok (.getfield 12, 3) := by decide +kernel
theorem dX6_agent_114 : decode cX6_agent 114 = .ok (.getfield 197, 3) := by decide +kernel
theorem dX6_agent_117 : decode cX6_agent 117 = .ok (.iload_n 1, 1) := by decide +kernel
theorem dX6_agent_118 : decode cX6_agent 118 = .ok (.iaload, 1) := by decide +kernel
theorem dX6_agent_119 : decode cX6_agent 119 = .ok (.ireturn, 1) := by decide +kernel
theorem dX6_agent_120 : decode cX6_agent 120 = .ok (.aload_n 0, 1) := by decide +kernel
theorem dX6_agent_121 : decode cX6_agent 121 = .ok (.getfield 12, 3) := by decide +kernel
theorem dX6_agent_124 : decode cX6_agent 124 = .ok (.getfield 200, 3) := by decide +kernel
theorem dX6_agent_127 : decode cX6_agent 127 = .ok (.iload_n 1, 1) := by decide +kernel
theorem dX6_agent_128 : decode cX6_agent 128 = .ok (.iaload, 1) := by decide +kernel
theorem dX6_agent_129 : decode cX6_agent 129 = .ok (.ireturn, 1) := by decide +kernel
theorem dX6_agent_130 : decode cX6_agent 130 = .ok (.aload_n 0, 1) := by decide +kernel
theorem dX6_agent_131 : decode cX6_agent 131 = .ok (.getfield 12, 3) := by decide +kernel
theorem dX6_agent_134 : decode cX6_agent 134 = .ok (.getfield 203, 3) := by decide +kernel
theorem dX6_agent_137 : decode cX6_agent 137 = .ok (.iload_n 1, 1) := by decide +kernel
theorem dX6_agent_138 : decode cX6_agent 138 = .ok (.iaload, 1) := by decide +kernel
theorem dX6_agent_139 : decode cX6_agent 139 = .ok (.ireturn, 1) := by decide +kernel
theorem dX6_agent_140 : decode cX6_agent 140 = .ok (.aload_n 0, 1) := by decide +kernel
theorem dX6_agent_141 : decode cX6_agent 141 = .ok (.getfield 28, 3) := by decide +kernel
theorem dX6_agent_144 : decode cX6_agent 144 = .ok (.iload_n 1, 1) := by decide +kernel
theorem dX6_agent_145 : decode cX6_agent 145 = .ok (.invokevirtual 206, 3) := by decide +kernel
theorem dX6_agent_148 : decode cX6_agent 148 = .ok (.invokestatic 191, 3) := by decide +kernel
theorem dX6_agent_151 : decode cX6_agent 151 = .ok (.ireturn, 1) := by decide +kernel
theorem dX6_agent_152 : decode cX6_agent 152 = .ok (.aload_n 0, 1) := by decide +kernel
theorem dX6_agent_153 : decode cX6_agent 153 = .ok (.getfield 28, 3) := by decide +kernel
theorem dX6_agent_156 : decode cX6_agent 156 = .ok (.iload_n 1, 1) := by decide +kernel
theorem dX6_agent_157 : decode cX6_agent 157 = .ok (.invokevirtual 206, 3) := by decide +kernel
theorem dX6_agent_160 : decode cX6_agent 160 = .ok (.invokestatic 194, 3) := by decide +kernel
theorem dX6_agent_163 : decode cX6_agent 163 = .ok (.ireturn, 1) := by decide +kernel
theorem dX6_agent_164 : decode cX6_agent 164 = .ok (.aload_n 0, 1) := by decide +kernel
theorem dX6_agent_165 : decode cX6_agent 165 = .ok (.getfield 28, 3) := by decide +kernel
theorem dX6_agent_168 : decode cX6_agent 168 = .ok (.iload_n 1, 1) := by decide +kernel
theorem dX6_agent_169 : decode cX6_agent 169 = .ok (.invokevirtual 209, 3) := by decide +kernel
theorem dX6_agent_172 : decode cX6_agent 172 = .ok (.ireturn, 1) := by decide +kernel
theorem dX6_agent_173 : decode cX6_agent 173 = .ok (.aload_n 0, 1) := by decide +kernel
theorem dX6_agent_174 : decode cX6_agent 174 = .ok (.getfield 28, 3) := by decide +kernel
theorem dX6_agent_177 : decode cX6_agent 177 = .ok (.iload_n 1, 1) := by decide +kernel
theorem dX6_agent_178 : decode cX6_agent 178 = .ok (.invokevirtual 212, 3) := by decide +kernel
theorem dX6_agent_181 : decode cX6_agent 181 = .ok (.ifCond .eq 7, 3) := by decide +kernel
theorem dX6_agent_184 : decode cX6_agent 184 = .ok (.iconst 1, 1) := by decide +kernel
theorem dX6_agent_185 : decode cX6_agent 185 = .ok (.goto 4, 3) := by decide +kernel
theorem dX6_agent_188 : decode cX6_agent 188 = .ok (.iconst 0, 1) := by decide +kernel
theorem dX6_agent_189 : decode cX6_agent 189 = .ok (.ireturn, 1) := by decide +kernel
theorem dX6_agent_190 : decode cX6_agent 190 = .ok (.new 100, 3) := by decide +kernel
theorem dX6_agent_193 : decode cX6_agent 193 = .ok (.dup, 1) := by decide +kernel
theorem dX6_agent_194 : decode cX6_agent 194 = .ok (.ldc 215, 2) := by decide +kernel
theorem dX6_agent_196 : decode cX6_agent 196 = .ok (.invokespecial 104, 3) := by decide +kernel
theorem dX6_agent_199 : decode cX6_agent 199 = .ok (.athrow, 1) := by decide +kernel
theorem dX6_agents_0 : decode cX6_agents 0 = .ok (.iload_n 1, 1) := by decide +kernel
theorem dX6_agents_1 : decode cX6_agents 1 = .ok (.tableswitch 75 0 4 #[35, 43, 51, 59, 67], 35) := by decide +kernel
theorem dX6_agents_36 : decode cX6_agents 36 = .ok (.aload_n 0, 1) := by decide +kernel
theorem dX6_agents_37 : decode cX6_agents 37 = .ok (.getfield 28, 3) := by decide +kernel
theorem dX6_agents_40 : decode cX6_agents 40 = .ok (.invokevirtual 177, 3) := by decide +kernel
theorem dX6_agents_43 : decode cX6_agents 43 = .ok (.ireturn, 1) := by decide +kernel
theorem dX6_agents_44 : decode cX6_agents 44 = .ok (.aload_n 0, 1) := by decide +kernel
theorem dX6_agents_45 : decode cX6_agents 45 = .ok (.getfield 28, 3) := by decide +kernel
theorem dX6_agents_48 : decode cX6_agents 48 = .ok (.invokevirtual 217, 3) := by decide +kernel
theorem dX6_agents_51 : decode cX6_agents 51 = .ok (.ireturn, 1) := by decide +kernel
theorem dX6_agents_52 : decode cX6_agents 52 = .ok (.aload_n 0, 1) := by decide +kernel
theorem dX6_agents_53 : decode cX6_agents 53 = .ok (.getfield 28, 3) := by decide +kernel
theorem dX6_agents_56 : decode cX6_agents 56 = .ok (.invokevirtual 220, 3) := by decide +kernel
theorem dX6_agents_59 : decode cX6_agents 59 = .ok (.ireturn, 1) := by decide +kernel
theorem dX6_agents_60 : decode cX6_agents 60 = .ok (.aload_n 0, 1) := by decide +kernel
theorem dX6_agents_61 : decode cX6_agents 61 = .ok (.getfield 28, 3) := by decide +kernel
theorem dX6_agents_64 : decode cX6_agents 64 = .ok (.invokevirtual 223, 3) := by decide +kernel
theorem dX6_agents_67 : decode cX6_agents 67 = .ok (.ireturn, 1) := by decide +kernel
theorem dX6_agents_68 : decode cX6_agents 68 = .ok (.aload_n 0, 1) := by decide +kernel
theorem dX6_agents_69 : decode cX6_agents 69 = .ok (.getfield 28, 3) := by decide +kernel
theorem dX6_agents_72 : decode cX6_agents 72 = .ok (.invokevirtual 226, 3) := by decide +kernel
theorem dX6_agents_75 : decode cX6_agents 75 = .ok (.ireturn, 1) := by decide +kernel
theorem dX6_agents_76 : decode cX6_agents 76 = .ok (.new 100, 3) := by decide +kernel
theorem dX6_agents_79 : decode cX6_agents 79 = .ok (.dup, 1) := by decide +kernel
theorem dX6_agents_80 : decode cX6_agents 80 = .ok (.ldc 229, 2) := by decide +kernel
theorem dX6_agents_82 : decode cX6_agents 82 = .ok (.invokespecial 104, 3) := by decide +kernel
theorem dX6_agents_85 : decode cX6_agents 85 = .ok (.athrow, 1) := by decide +kernel
theorem dX6_join_0 : decode cX6_join 0 = .ok (.aload_n 0, 1) := by decide +kernel
theorem dX6_join_1 : decode cX6_join 1 = .ok (.iload_n 1, 1) := by decide +kernel
theorem dX6_join_2 : decode cX6_join 2 = .ok (.invokevirtual 171, 3) := by decide +kernel
theorem dX6_join_5 : decode cX6_join 5 = .ok (.aload_n 0, 1) := by decide +kernel
theorem dX6_join_6 : decode cX6_join 6 = .ok (.iload_n 2, 1) := by decide +kernel
theorem dX6_join_7 : decode cX6_join 7 = .ok (.invokevirtual 171, 3) := by decide +kernel
theorem dX6_join_10 : decode cX6_join 10 = .ok (.iload_n 1, 1) := by decide +kernel
theorem dX6_join_11 : decode cX6_join 11 = .ok (.iload_n 2, 1) := by decide +kernel
theorem dX6_join_12 : decode cX6_join 12 = .ok (.if_icmp .eq 31, 3) := by decide +kernel
theorem dX6_join_15 : decode cX6_join 15 = .ok (.iload_n 3, 1) := by decide +kernel
theorem dX6_join_16 : decode cX6_join 16 = .ok (.invokestatic 231, 3) := by decide +kernel
theorem dX6_join_19 : decode cX6_join 19 = .ok (.ifCond .eq 24, 3) := by decide +kernel
theorem dX6_join_22 : decode cX6_join 22 = .ok (.iload 4, 2) := by decide +kernel
theorem dX6_join_24 : decode cX6_join 24 = .ok (.invokestatic 231, 3) := by decide +kernel
theorem dX6_join_27 : decode cX6_join 27 = .ok (.ifCond .eq 16, 3) := by decide +kernel
theorem dX6_join_30 : decode cX6_join 30 = .ok (.iload_n 3, 1) := by decide +kernel
theorem dX6_join_31 : decode cX6_join 31 = .ok (.ifCond .ne 8, 3) := by decide +kernel
theorem dX6_join_34 : decode cX6_join 34 = .ok (.iload 4, 2) := by decide +kernel
theorem dX6_join_36 : decode cX6_join 36 = .ok (.ifCond .eq 7, 3) := by decide +kernel
theorem dX6_join_39 : decode cX6_join 39 = .ok (.iconst 1, 1) := by decide +kernel
theorem dX6_join_40 : decode cX6_join 40 = .ok (.goto 4, 3) := by decide +kernel
theorem dX6_join_43 : decode cX6_join 43 = .ok (.iconst 0, 1) := by decide +kernel
theorem dX6_join_44 : decode cX6_join 44 = .ok (.invokestatic 60, 3) := by decide +kernel
theorem dX6_join_47 : decode cX6_join 47 = .ok (.aload_n 0, 1) := by decide +kernel
theorem dX6_join_48 : decode cX6_join 48 = .ok (.getfield 28, 3) := by decide +kernel
theorem dX6_join_51 : decode cX6_join 51 = .ok (.iload_n 1, 1) := by decide +kernel
theorem dX6_join_52 : decode cX6_join 52 = .ok (.invokevirtual 234, 3) := by decide +kernel
theorem dX6_join_55 : decode cX6_join 55 = .ok (.ifCond .ne 14, 3) := by decide +kernel
theorem dX6_join_58 : decode cX6_join 58 = .ok (.aload_n 0, 1) := by decide +kernel
theorem dX6_join_59 : decode cX6_join 59 = .ok (.getfield 28, 3) := by decide +kernel
theorem dX6_join_62 : decode cX6_join 62 = .ok (.iload_n 2, 1) := by decide +kernel
theorem dX6_join_63 : decode cX6_join 63 = .ok (.invokevirtual 237, 3) := by decide +kernel
theorem dX6_join_66 : decode cX6_join 66 = .ok (.ifCond .eq 13, 3) := by decide +kernel
theorem dX6_join_69 : decode cX6_join 69 = .ok (.new 72, 3) := by decide +kernel
theorem dX6_join_72 : decode cX6_join 72 = .ok (.dup, 1) := by decide +kernel
theorem dX6_join_73 : decode cX6_join 73 = .ok (.ldc 240, 2) := by decide +kernel
theorem dX6_join_75 : decode cX6_join 75 = .ok (.invokespecial 76, 3) := by decide +kernel
theorem dX6_join_78 : decode cX6_join 78 = .ok (.athrow, 1) := by decide +kernel
theorem dX6_join_79 : decode cX6_join 79 = .ok (.aload_n 0, 1) := by decide +kernel
theorem dX6_join_80 : decode cX6_join 80 = .ok (.getfield 38, 3) := by decide +kernel
theorem dX6_join_83 : decode cX6_join 83 = .ok (.aload_n 0, 1) := by decide +kernel
theorem dX6_join_84 : decode cX6_join 84 = .ok (.getfield 12, 3) := by decide +kernel
theorem dX6_join_87 : decode cX6_join 87 = .ok (.invokevirtual 79, 3) := by decide +kernel
theorem dX6_join_90 : decode cX6_join 90 = .ok (.aload_n 0, 1) := by decide +kernel
theorem dX6_join_91 : decode cX6_join 91 = .ok (.getfield 12, 3) := by decide +kernel
theorem dX6_join_94 : decode cX6_join 94 = .ok (.getfield 203, 3) := by decide +kernel
theorem dX6_join_97 : decode cX6_join 97 = .ok (.iload_n 1, 1) := by decide +kernel
theorem dX6_join_98 : decode cX6_join 98 = .ok (.iload_n 2, 1) := by decide +kernel
theorem dX6_join_99 : decode cX6_join 99 = .ok (.iastore, 1) := by decide +kernel
theorem dX6_join_100 : decode cX6_join 100 = .ok (.aload_n 0, 1) := by decide +kernel
theorem dX6_join_101 : decode cX6_join 101 = .ok (.getfield 12, 3) := by decide +kernel
theorem dX6_join_104 : decode cX6_join 104 = .ok (.getfield 242, 3) := by decide +kernel
theorem dX6_join_107 : decode cX6_join 107 = .ok (.iload_n 1, 1) := by decide +kernel
theorem dX6_join_108 : decode cX6_join 108 = .ok (.iload_n 3, 1) := by decide +kernel
theorem dX6_join_109 : decode cX6_join 109 = .ok (.iastore, 1) := by decide +kernel
theorem dX6_join_110 : decode cX6_join 110 = .ok (.aload_n 0, 1) := by decide +kernel
theorem dX6_join_111 : decode cX6_join 111 = .ok (.getfield 12, 3) := by decide +kernel
theorem dX6_join_114 : decode cX6_join 114 = .ok (.getfield 245, 3) := by decide +kernel
theorem dX6_join_117 : decode cX6_join 117 = .ok (.iload_n 1, 1) := by decide +kernel
theorem dX6_join_118 : decode cX6_join 118 = .ok (.iload 4, 2) := by decide +kernel
theorem dX6_join_120 : decode cX6_join 120 = .ok (.iastore, 1) := by decide +kernel
theorem dX6_join_121 : decode cX6_join 121 = .ok (.aload_n 0, 1) := by decide +kernel
theorem dX6_join_122 : decode cX6_join 122 = .ok (.getfield 28, 3) := by decide +kernel
theorem dX6_join_125 : decode cX6_join 125 = .ok (.iload_n 2, 1) := by decide +kernel
theorem dX6_join_126 : decode cX6_join 126 = .ok (.invokevirtual 248, 3) := by decide +kernel
theorem dX6_join_129 : decode cX6_join 129 = .ok (.invokestatic 180, 3) := by decide +kernel
theorem dX6_join_132 : decode cX6_join 132 = .ok (.ireturn, 1) := by decide +kernel
theorem dX6_leave_0 : decode cX6_leave 0 = .ok (.aload_n 0, 1) := by decide +kernel
theorem dX6_leave_1 : decode cX6_leave 1 = .ok (.iload_n 1, 1) := by decide +kernel
theorem dX6_leave_2 : decode cX6_leave 2 = .ok (.invokevirtual 171, 3) := by decide +kernel
theorem dX6_leave_5 : decode cX6_leave 5 = .ok (.aload_n 0, 1) := by decide +kernel
theorem dX6_leave_6 : decode cX6_leave 6 = .ok (.getfield 28, 3) := by decide +kernel
theorem dX6_leave_9 : decode cX6_leave 9 = .ok (.iload_n 1, 1) := by decide +kernel
theorem dX6_leave_10 : decode cX6_leave 10 = .ok (.invokevirtual 237, 3) := by decide +kernel
theorem dX6_leave_13 : decode cX6_leave 13 = .ok (.ifCond .ne 13, 3) := by decide +kernel
theorem dX6_leave_16 : decode cX6_leave 16 = .ok (.new 72, 3) := by decide +kernel
theorem dX6_leave_19 : decode cX6_leave 19 = .ok (.dup, 1) := by decide +kernel
theorem dX6_leave_20 : decode cX6_leave 20 = .ok (.ldc 251, 2) := by decide +kernel
theorem dX6_leave_22 : decode cX6_leave 22 = .ok (.invokespecial 76, 3) := by decide +kernel
theorem dX6_leave_25 : decode cX6_leave 25 = .ok (.athrow, 1) := by decide +kernel
theorem dX6_leave_26 : decode cX6_leave 26 = .ok (.aload_n 0, 1) := by decide +kernel
theorem dX6_leave_27 : decode cX6_leave 27 = .ok (.getfield 38, 3) := by decide +kernel
theorem dX6_leave_30 : decode cX6_leave 30 = .ok (.aload_n 0, 1) := by decide +kernel
theorem dX6_leave_31 : decode cX6_leave 31 = .ok (.getfield 12, 3) := by decide +kernel
theorem dX6_leave_34 : decode cX6_leave 34 = .ok (.invokevirtual 79, 3) := by decide +kernel
theorem dX6_leave_37 : decode cX6_leave 37 = .ok (.aload_n 0, 1) := by decide +kernel
theorem dX6_leave_38 : decode cX6_leave 38 = .ok (.getfield 12, 3) := by decide +kernel
theorem dX6_leave_41 : decode cX6_leave 41 = .ok (.getfield 203, 3) := by decide +kernel
theorem dX6_leave_44 : decode cX6_leave 44 = .ok (.iload_n 1, 1) := by decide +kernel
theorem dX6_leave_45 : decode cX6_leave 45 = .ok (.iaload, 1) := by decide +kernel
theorem dX6_leave_46 : decode cX6_leave 46 = .ok (.istore_n 2, 1) := by decide +kernel
theorem dX6_leave_47 : decode cX6_leave 47 = .ok (.aload_n 0, 1) := by decide +kernel
theorem dX6_leave_48 : decode cX6_leave 48 = .ok (.getfield 12, 3) := by decide +kernel
theorem dX6_leave_51 : decode cX6_leave 51 = .ok (.getfield 203, 3) := by decide +kernel
theorem dX6_leave_54 : decode cX6_leave 54 = .ok (.iload_n 1, 1) := by decide +kernel
theorem dX6_leave_55 : decode cX6_leave 55 = .ok (.iconst (-1), 1) := by decide +kernel
theorem dX6_leave_56 : decode cX6_leave 56 = .ok (.iastore, 1) := by decide +kernel
theorem dX6_leave_57 : decode cX6_leave 57 = .ok (.iload_n 2, 1) := by decide +kernel
theorem dX6_leave_58 : decode cX6_leave 58 = .ok (.ireturn, 1) := by decide +kernel
theorem dX6_disorder_0 : decode cX6_disorder 0 = .ok (.aload_n 0, 1) := by decide +kernel
theorem dX6_disorder_1 : decode cX6_disorder 1 = .ok (.iload_n 1, 1) := by decide +kernel
theorem dX6_disorder_2 : decode cX6_disorder 2 = .ok (.invokevirtual 171, 3) := by decide +kernel
theorem dX6_disorder_5 : decode cX6_disorder 5 = .ok (.aload_n 0, 1) := by decide +kernel
theorem dX6_disorder_6 : decode cX6_disorder 6 = .ok (.getfield 28, 3) := by decide +kernel
theorem dX6_disorder_9 : decode cX6_disorder 9 = .ok (.iload_n 1, 1) := by decide +kernel
theorem dX6_disorder_10 : decode cX6_disorder 10 = .ok (.invokevirtual 248, 3) := by decide +kernel
theorem dX6_disorder_13 : decode cX6_disorder 13 = .ok (.istore_n 2, 1) := by decide +kernel
theorem dX6_disorder_14 : decode cX6_disorder 14 = .ok (.iload_n 2, 1) := by decide +kernel
theorem dX6_disorder_15 : decode cX6_disorder 15 = .ok (.ifCond .ne 13, 3) := by decide +kernel
theorem dX6_disorder_18 : decode cX6_disorder 18 = .ok (.new 72, 3) := by decide +kernel
theorem dX6_disorder_21 : decode cX6_disorder 21 = .ok (.dup, 1) := by decide +kernel
theorem dX6_disorder_22 : decode cX6_disorder 22 = .ok (.ldc 253, 2) := by decide +kernel
theorem dX6_disorder_24 : decode cX6_disorder 24 = .ok (.invokespecial 76, 3) := by decide +kernel
theorem dX6_disorder_27 : decode cX6_disorder 27 = .ok (.athrow, 1) := by decide +kernel
theorem dX6_disorder_28 : decode cX6_disorder 28 = .ok (.iconst 0, 1) := by decide +kernel
theorem dX6_disorder_29 : decode cX6_disorder 29 = .ok (.istore_n 3, 1) := by decide +kernel
theorem dX6_disorder_30 : decode cX6_disorder 30 = .ok (.iconst 0, 1) := by decide +kernel
theorem dX6_disorder_31 : decode cX6_disorder 31 = .ok (.istore 4, 2) := by decide +kernel
theorem dX6_disorder_33 : decode cX6_disorder 33 = .ok (.iload 4, 2) := by decide +kernel
theorem dX6_disorder_35 : decode cX6_disorder 35 = .ok (.bipush 16, 2) := by decide +kernel
theorem dX6_disorder_37 : decode cX6_disorder 37 = .ok (.if_icmp .ge 75, 3) := by decide +kernel
theorem dX6_disorder_40 : decode cX6_disorder 40 = .ok (.iload_n 2, 1) := by decide +kernel
theorem dX6_disorder_41 : decode cX6_disorder 41 = .ok (.iload 4, 2) := by decide +kernel
theorem dX6_disorder_43 : decode cX6_disorder 43 = .ok (.invokestatic 255, 3) := by decide +kernel
theorem dX6_disorder_46 : decode cX6_disorder 46 = .ok (.ifCond .eq 60, 3) := by decide +kernel
theorem dX6_disorder_49 : decode cX6_disorder 49 = .ok (.aload_n 0, 1) := by decide +kernel
theorem dX6_disorder_50 : decode cX6_disorder 50 = .ok (.getfield 12, 3) := by decide +kernel
theorem dX6_disorder_53 : decode cX6_disorder 53 = .ok (.getfield 188, 3) := by decide +kernel
theorem dX6_disorder_56 : decode cX6_disorder 56 = .ok (.iload 4, 2) := by decide +kernel
theorem dX6_disorder_58 : decode cX6_disorder 58 = .ok (.iaload, 1) := by decide +kernel
theorem dX6_disorder_59 : decode cX6_disorder 59 = .ok (.istore 5, 2) := by decide +kernel
theorem dX6_disorder_61 : decode cX6_disorder 61 = .ok (.aload_n 0, 1) := by decide +kernel
theorem dX6_disorder_62 : decode cX6_disorder 62 = .ok (.getfield 28, 3) := by decide +kernel
theorem dX6_disorder_65 : decode cX6_disorder 65 = .ok (.iload 4, 2) := by decide +kernel
theorem dX6_disorder_67 : decode cX6_disorder 67 = .ok (.invokevirtual 206, 3) := by decide +kernel
theorem dX6_disorder_70 : decode cX6_disorder 70 = .ok (.istore 6, 2) := by decide +kernel
theorem dX6_disorder_72 : decode cX6_disorder 72 = .ok (.iload_n 3, 1) := by decide +kernel
theorem dX6_disorder_73 : decode cX6_disorder 73 = .ok (.iload 5, 2) := by decide +kernel
theorem dX6_disorder_75 : decode cX6_disorder 75 = .ok (.invokestatic 191, 3) := by decide +kernel
theorem dX6_disorder_78 : decode cX6_disorder 78 = .ok (.iload 6, 2) := by decide +kernel
theorem dX6_disorder_80 : decode cX6_disorder 80 = .ok (.invokestatic 191, 3) := by decide +kernel
theorem dX6_disorder_83 : decode cX6_disorder 83 = .ok (.isub, 1) := by decide +kernel
theorem dX6_disorder_84 : decode cX6_disorder 84 = .ok (.invokestatic 259, 3) := by decide +kernel
theorem dX6_disorder_87 : decode cX6_disorder 87 = .ok (.iadd, 1) := by decide +kernel
theorem dX6_disorder_88 : decode cX6_disorder 88 = .ok (.istore_n 3, 1) := by decide +kernel
theorem dX6_disorder_89 : decode cX6_disorder 89 = .ok (.iload_n 3, 1) := by decide +kernel
theorem dX6_disorder_90 : decode cX6_disorder 90 = .ok (.iload 5, 2) := by decide +kernel
theorem dX6_disorder_92 : decode cX6_disorder 92 = .ok (.invokestatic 194, 3) := by decide +kernel
theorem dX6_disorder_95 : decode cX6_disorder 95 = .ok (.iload 6, 2) := by decide +kernel
theorem dX6_disorder_97 : decode cX6_disorder 97 = .ok (.invokestatic 194, 3) := by decide +kernel
theorem dX6_disorder_100 : decode cX6_disorder 100 = .ok (.isub, 1) := by decide +kernel
theorem dX6_disorder_101 : decode cX6_disorder 101 = .ok (.invokestatic 259, 3) := by decide +kernel
theorem dX6_disorder_104 : decode cX6_disorder 104 = .ok (.iadd, 1) := by decide +kernel
theorem dX6_disorder_105 : decode cX6_disorder 105 = .ok (.istore_n 3, 1) := by decide +kernel
theorem dX6_disorder_106 : decode cX6_disorder 106 = .ok (.iinc 4 1, 3) := by decide +kernel
theorem dX6_disorder_109 : decode cX6_disorder 109 = .ok (.goto (-76), 3) := by decide +kernel
theorem dX6_disorder_112 : decode cX6_disorder 112 = .ok (.iload_n 3, 1) := by decide +kernel
theorem dX6_disorder_113 : decode cX6_disorder 113 = .ok (.ireturn, 1) := by decide +kernel
theorem dX6_tick_0 : decode cX6_tick 0 = .ok (.iload_n 1, 1) := by decide +kernel
theorem dX6_tick_1 : decode cX6_tick 1 = .ok (.iconst 1, 1) := by decide +kernel
theorem dX6_tick_2 : decode cX6_tick 2 = .ok (.if_icmp .lt 13, 3) := by decide +kernel
theorem dX6_tick_5 : decode cX6_tick 5 = .ok (.iload_n 1, 1) := by decide +kernel
theorem dX6_tick_6 : decode cX6_tick 6 = .ok (.bipush 50, 2) := by decide +kernel
theorem dX6_tick_8 : decode cX6_tick 8 = .ok (.if_icmp .gt 7, 3) := by decide +kernel
theorem dX6_tick_11 : decode cX6_tick 11 = .ok (.iconst 1, 1) := by decide +kernel
theorem dX6_tick_12 : decode cX6_tick 12 = .ok (.goto 4, 3) := by decide +kernel
theorem dX6_tick_15 : decode cX6_tick 15 = .ok (.iconst 0, 1) := by decide +kernel
theorem dX6_tick_16 : decode cX6_tick 16 = .ok (.invokestatic 60, 3) := by decide +kernel
theorem dX6_tick_19 : decode cX6_tick 19 = .ok (.aload_n 0, 1) := by decide +kernel
theorem dX6_tick_20 : decode cX6_tick 20 = .ok (.getfield 38, 3) := by decide +kernel
theorem dX6_tick_23 : decode cX6_tick 23 = .ok (.aload_n 0, 1) := by decide +kernel
theorem dX6_tick_24 : decode cX6_tick 24 = .ok (.getfield 12, 3) := by decide +kernel
theorem dX6_tick_27 : decode cX6_tick 27 = .ok (.invokevirtual 79, 3) := by decide +kernel
theorem dX6_tick_30 : decode cX6_tick 30 = .ok (.iconst 0, 1) := by decide +kernel
theorem dX6_tick_31 : decode cX6_tick 31 = .ok (.istore_n 2, 1) := by decide +kernel
theorem dX6_tick_32 : decode cX6_tick 32 = .ok (.iload_n 2, 1) := by decide +kernel
theorem dX6_tick_33 : decode cX6_tick 33 = .ok (.iload_n 1, 1) := by decide +kernel
theorem dX6_tick_34 : decode cX6_tick 34 = .ok (.if_icmp .ge 16, 3) := by decide +kernel
theorem dX6_tick_37 : decode cX6_tick 37 = .ok (.aload_n 0, 1) := by decide +kernel
theorem dX6_tick_38 : decode cX6_tick 38 = .ok (.getfield 28, 3) := by decide +kernel
theorem dX6_tick_41 : decode cX6_tick 41 = .ok (.invokevirtual 264, 3) := by decide +kernel
theorem dX6_tick_44 : decode cX6_tick 44 = .ok (.iinc 2 1, 3) := by decide +kernel
theorem dX6_tick_47 : decode cX6_tick 47 = .ok (.goto (-15), 3) := by decide +kernel
theorem dX6_tick_50 : decode cX6_tick 50 = .ok (.aload_n 0, 1) := by decide +kernel
theorem dX6_tick_51 : decode cX6_tick 51 = .ok (.getfield 12, 3) := by decide +kernel
theorem dX6_tick_54 : decode cX6_tick 54 = .ok (.getfield 267, 3) := by decide +kernel
theorem dX6_tick_57 : decode cX6_tick 57 = .ok (.iconst 0, 1) := by decide +kernel
theorem dX6_tick_58 : decode cX6_tick 58 = .ok (.iaload, 1) := by decide +kernel
theorem dX6_tick_59 : decode cX6_tick 59 = .ok (.ireturn, 1) := by decide +kernel
theorem dX6_statistic_0 : decode cX6_statistic 0 = .ok (.iload_n 1, 1) := by decide +kernel
theorem dX6_statistic_1 : decode cX6_statistic 1 = .ok (.ifCond .lt 12, 3) := by decide +kernel
theorem dX6_statistic_4 : decode cX6_statistic 4 = .ok (.iload_n 1, 1) := by decide +kernel
theorem dX6_statistic_5 : decode cX6_statistic 5 = .ok (.iconst 5, 1) := by decide +kernel
theorem dX6_statistic_6 : decode cX6_statistic 6 = .ok (.if_icmp .ge 7, 3) := by decide +kernel
theorem dX6_statistic_9 : decode cX6_statistic 9 = .ok (.iconst 1, 1) := by decide +kernel
theorem dX6_statistic_10 : decode cX6_statistic 10 = .ok (.goto 4, 3) := by decide +kernel
theorem dX6_statistic_13 : decode cX6_statistic 13 = .ok (.iconst 0, 1) := by decide +kernel
theorem dX6_statistic_14 : decode cX6_statistic 14 = .ok (.invokestatic 60, 3) := by decide +kernel
theorem dX6_statistic_17 : decode cX6_statistic 17 = .ok (.aload_n 0, 1) := by decide +kernel
theorem dX6_statistic_18 : decode cX6_statistic 18 = .ok (.getfield 12, 3) := by decide +kernel
theorem dX6_statistic_21 : decode cX6_statistic 21 = .ok (.getfield 267, 3) := by decide +kernel
theorem dX6_statistic_24 : decode cX6_statistic 24 = .ok (.iload_n 1, 1) := by decide +kernel
theorem dX6_statistic_25 : decode cX6_statistic 25 = .ok (.iaload, 1) := by decide +kernel
theorem dX6_statistic_26 : decode cX6_statistic 26 = .ok (.ireturn, 1) := by decide +kernel
theorem dX6_forecast_0 : decode cX6_forecast 0 = .ok (.aload_n 0, 1) := by decide +kernel
theorem dX6_forecast_1 : decode cX6_forecast 1 = .ok (.iload_n 1, 1) := by decide +kernel
theorem dX6_forecast_2 : decode cX6_forecast 2 = .ok (.invokevirtual 171, 3) := by decide +kernel
theorem dX6_forecast_5 : decode cX6_forecast 5 = .ok (.aload_n 0, 1) := by decide +kernel
theorem dX6_forecast_6 : decode cX6_forecast 6 = .ok (.getfield 32, 3) := by decide +kernel
theorem dX6_forecast_9 : decode cX6_forecast 9 = .ok (.getfield 270, 3) := by decide +kernel
theorem dX6_forecast_12 : decode cX6_forecast 12 = .ok (.aload_n 0, 1) := by decide +kernel
theorem dX6_forecast_13 : decode cX6_forecast 13 = .ok (.getfield 12, 3) := by decide +kernel
theorem dX6_forecast_16 : decode cX6_forecast 16 = .ok (.invokevirtual 271, 3) := by decide +kernel
theorem dX6_forecast_19 : decode cX6_forecast 19 = .ok (.iconst 0, 1) := by decide +kernel
theorem dX6_forecast_20 : decode cX6_forecast 20 = .ok (.istore_n 2, 1) := by decide +kernel
theorem dX6_forecast_21 : decode cX6_forecast 21 = .ok (.iload_n 2, 1) := by decide +kernel
theorem dX6_forecast_22 : decode cX6_forecast 22 = .ok (.bipush 100, 2) := by decide +kernel
theorem dX6_forecast_24 : decode cX6_forecast 24 = .ok (.if_icmp .ge 29, 3) := by decide +kernel
theorem dX6_forecast_27 : decode cX6_forecast 27 = .ok (.aload_n 0, 1) := by decide +kernel
theorem dX6_forecast_28 : decode cX6_forecast 28 = .ok (.getfield 32, 3) := by decide +kernel
theorem dX6_forecast_31 : decode cX6_forecast 31 = .ok (.iload_n 1, 1) := by decide +kernel
theorem dX6_forecast_32 : decode cX6_forecast 32 = .ok (.invokevirtual 212, 3) := by decide +kernel
theorem dX6_forecast_35 : decode cX6_forecast 35 = .ok (.ifCond .eq 5, 3) := by decide +kernel
theorem dX6_forecast_38 : decode cX6_forecast 38 = .ok (.iload_n 2, 1) := by decide +kernel
theorem dX6_forecast_39 : decode cX6_forecast 39 = .ok (.ireturn, 1) := by decide +kernel
theorem dX6_forecast_40 : decode cX6_forecast 40 = .ok (.aload_n 0, 1) := by decide +kernel
theorem dX6_forecast_41 : decode cX6_forecast 41 = .ok (.getfield 32, 3) := by decide +kernel
theorem dX6_forecast_44 : decode cX6_forecast 44 = .ok (.invokevirtual 264, 3) := by decide +kernel
theorem dX6_forecast_47 : decode cX6_forecast 47 = .ok (.iinc 2 1, 3) := by decide +kernel
theorem dX6_forecast_50 : decode cX6_forecast 50 = .ok (.goto (-29), 3) := by decide +kernel
theorem dX6_forecast_53 : decode cX6_forecast 53 = .ok (.aload_n 0, 1) := by decide +kernel
theorem dX6_forecast_54 : decode cX6_forecast 54 = .ok (.getfield 32, 3) := by decide +kernel
theorem dX6_forecast_57 : decode cX6_forecast 57 = .ok (.iload_n 1, 1) := by decide +kernel
theorem dX6_forecast_58 : decode cX6_forecast 58 = .ok (.invokevirtual 212, 3) := by decide +kernel
theorem dX6_forecast_61 : decode cX6_forecast 61 = .ok (.ifCond .ne 14, 3) := by decide +kernel
theorem dX6_forecast_64 : decode cX6_forecast 64 = .ok (.new 274, 3) := by decide +kernel
theorem dX6_forecast_67 : decode cX6_forecast 67 = .ok (.dup, 1) := by decide +kernel
theorem dX6_forecast_68 : decode cX6_forecast 68 = .ok (.ldc_w 276, 3) := by decide +kernel
theorem dX6_forecast_71 : decode cX6_forecast 71 = .ok (.invokespecial 278, 3) := by decide +kernel
theorem dX6_forecast_74 : decode cX6_forecast 74 = .ok (.athrow, 1) := by decide +kernel
theorem dX6_forecast_75 : decode cX6_forecast 75 = .ok (.bipush 100, 2) := by decide +kernel
theorem dX6_forecast_77 : decode cX6_forecast 77 = .ok (.ireturn, 1) := by decide +kernel
theorem dX6_bottleneck_0 : decode cX6_bottleneck 0 = .ok (.iconst (-1), 1) := by decide +kernel
theorem dX6_bottleneck_1 : decode cX6_bottleneck 1 = .ok (.istore_n 1, 1) := by decide +kernel
theorem dX6_bottleneck_2 : decode cX6_bottleneck 2 = .ok (.iconst 0, 1) := by decide +kernel
theorem dX6_bottleneck_3 : decode cX6_bottleneck 3 = .ok (.istore_n 2, 1) := by decide +kernel
theorem dX6_bottleneck_4 : decode cX6_bottleneck 4 = .ok (.iconst 0, 1) := by decide +kernel
theorem dX6_bottleneck_5 : decode cX6_bottleneck 5 = .ok (.istore_n 3, 1) := by decide +kernel
theorem dX6_bottleneck_6 : decode cX6_bottleneck 6 = .ok (.iload_n 3, 1) := by decide +kernel
theorem dX6_bottleneck_7 : decode cX6_bottleneck 7 = .ok (.sipush 140, 3) := by decide +kernel
theorem dX6_bottleneck_10 : decode cX6_bottleneck 10 = .ok (.if_icmp .ge 34, 3) := by decide +kernel
theorem dX6_bottleneck_13 : decode cX6_bottleneck 13 = .ok (.aload_n 0, 1) := by decide +kernel
theorem dX6_bottleneck_14 : decode cX6_bottleneck 14 = .ok (.getfield 12, 3) := by decide +kernel
theorem dX6_bottleneck_17 : decode cX6_bottleneck 17 = .ok (.getfield 94, 3) := by decide +kernel
theorem dX6_bottleneck_20 : decode cX6_bottleneck 20 = .ok (.iload_n 3, 1) := by decide +kernel
theorem dX6_bottleneck_21 : decode cX6_bottleneck 21 = .ok (.iaload, 1) := by decide +kernel
theorem dX6_bottleneck_22 : decode cX6_bottleneck 22 = .ok (.iload_n 2, 1) := by decide +kernel
theorem dX6_bottleneck_23 : decode cX6_bottleneck 23 = .ok (.if_icmp .le 15, 3) := by decide +kernel
theorem dX6_bottleneck_26 : decode cX6_bottleneck 26 = .ok (.iload_n 3, 1) := by decide +kernel
theorem dX6_bottleneck_27 : decode cX6_bottleneck 27 = .ok (.istore_n 1, 1) := by decide +kernel
theorem dX6_bottleneck_28 : decode cX6_bottleneck 28 = .ok (.aload_n 0, 1) := by decide +kernel
theorem dX6_bottleneck_29 : decode cX6_bottleneck 29 = .ok (.getfield 12, 3) := by decide +kernel
theorem dX6_bottleneck_32 : decode cX6_bottleneck 32 = .ok (.getfield 94, 3) := by decide +kernel
theorem dX6_bottleneck_35 : decode cX6_bottleneck 35 = .ok (.iload_n 3, 1) := by decide +kernel
theorem dX6_bottleneck_36 : decode cX6_bottleneck 36 = .ok (.iaload, 1) := by decide +kernel
theorem dX6_bottleneck_37 : decode cX6_bottleneck 37 = .ok (.istore_n 2, 1) := by decide +kernel
theorem dX6_bottleneck_38 : decode cX6_bottleneck 38 = .ok (.iinc 3 1, 3) := by decide +kernel
theorem dX6_bottleneck_41 : decode cX6_bottleneck 41 = .ok (.goto (-35), 3) := by decide +kernel
theorem dX6_bottleneck_44 : decode cX6_bottleneck 44 = .ok (.iload_n 1, 1) := by decide +kernel
theorem dX6_bottleneck_45 : decode cX6_bottleneck 45 = .ok (.iconst (-1), 1) := by decide +kernel
theorem dX6_bottleneck_46 : decode cX6_bottleneck 46 = .ok (.if_icmp .ne 14, 3) := by decide +kernel
theorem dX6_bottleneck_49 : decode cX6_bottleneck 49 = .ok (.new 274, 3) := by decide +kernel
theorem dX6_bottleneck_52 : decode cX6_bottleneck 52 = .ok (.dup, 1) := by decide +kernel
theorem dX6_bottleneck_53 : decode cX6_bottleneck 53 = .ok (.ldc_w 279, 3) := by decide +kernel
theorem dX6_bottleneck_56 : decode cX6_bottleneck 56 = .ok (.invokespecial 278, 3) := by decide +kernel
theorem dX6_bottleneck_59 : decode cX6_bottleneck 59 = .ok (.athrow, 1) := by decide +kernel
theorem dX6_bottleneck_60 : decode cX6_bottleneck 60 = .ok (.bipush 100, 2) := by decide +kernel
theorem dX6_bottleneck_62 : decode cX6_bottleneck 62 = .ok (.iload_n 1, 1) := by decide +kernel
theorem dX6_bottleneck_63 : decode cX6_bottleneck 63 = .ok (.invokestatic 194, 3) := by decide +kernel
theorem dX6_bottleneck_66 : decode cX6_bottleneck 66 = .ok (.imul, 1) := by decide +kernel
theorem dX6_bottleneck_67 : decode cX6_bottleneck 67 = .ok (.iload_n 1, 1) := by decide +kernel
theorem dX6_bottleneck_68 : decode cX6_bottleneck 68 = .ok (.invokestatic 191, 3) := by decide +kernel
theorem dX6_bottleneck_71 : decode cX6_bottleneck 71 = .ok (.iadd, 1) := by decide +kernel
theorem dX6_bottleneck_72 : decode cX6_bottleneck 72 = .ok (.ireturn, 1) := by decide +kernel
theorem dX6_jams_0 : decode cX6_jams 0 = .ok (.aload_n 0, 1) := by decide +kernel
theorem dX6_jams_1 : decode cX6_jams 1 = .ok (.getfield 28, 3) := by decide +kernel
theorem dX6_jams_4 : decode cX6_jams 4 = .ok (.invokevirtual 220, 3) := by decide +kernel
theorem dX6_jams_7 : decode cX6_jams 7 = .ok (.istore_n 1, 1) := by decide +kernel
theorem dX6_jams_8 : decode cX6_jams 8 = .ok (.iconst 0, 1) := by decide +kernel
theorem dX6_jams_9 : decode cX6_jams 9 = .ok (.istore_n 2, 1) := by decide +kernel
theorem dX6_jams_10 : decode cX6_jams 10 = .ok (.iconst 0, 1) := by decide +kernel
theorem dX6_jams_11 : decode cX6_jams 11 = .ok (.istore_n 3, 1) := by decide +kernel
theorem dX6_jams_12 : decode cX6_jams 12 = .ok (.iload_n 3, 1) := by decide +kernel
theorem dX6_jams_13 : decode cX6_jams 13 = .ok (.bipush 16, 2) := by decide +kernel
theorem dX6_jams_15 : decode cX6_jams 15 = .ok (.if_icmp .ge 24, 3) := by decide +kernel
theorem dX6_jams_18 : decode cX6_jams 18 = .ok (.aload_n 0, 1) := by decide +kernel
theorem dX6_jams_19 : decode cX6_jams 19 = .ok (.getfield 28, 3) := by decide +kernel
theorem dX6_jams_22 : decode cX6_jams 22 = .ok (.iload_n 3, 1) := by decide +kernel
theorem dX6_jams_23 : decode cX6_jams 23 = .ok (.iload_n 1, 1) := by decide +kernel
theorem dX6_jams_24 : decode cX6_jams 24 = .ok (.invokevirtual 281, 3) := by decide +kernel
theorem dX6_jams_27 : decode cX6_jams 27 = .ok (.ifCond .eq 6, 3) := by decide +kernel
theorem dX6_jams_30 : decode cX6_jams 30 = .ok (.iinc 2 1, 3) := by decide +kernel
theorem dX6_jams_33 : decode cX6_jams 33 = .ok (.iinc 3 1, 3) := by decide +kernel
theorem dX6_jams_36 : decode cX6_jams 36 = .ok (.goto (-24), 3) := by decide +kernel
theorem dX6_jams_39 : decode cX6_jams 39 = .ok (.iload_n 2, 1) := by decide +kernel
theorem dX6_jams_40 : decode cX6_jams 40 = .ok (.ireturn, 1) := by decide +kernel
theorem dX6_jam_0 : decode cX6_jam 0 = .ok (.aload_n 0, 1) := by decide +kernel
theorem dX6_jam_1 : decode cX6_jam 1 = .ok (.getfield 28, 3) := by decide +kernel
theorem dX6_jam_4 : decode cX6_jam 4 = .ok (.iload_n 1, 1) := by decide +kernel
theorem dX6_jam_5 : decode cX6_jam 5 = .ok (.invokevirtual 284, 3) := by decide +kernel
theorem dX6_jam_8 : decode cX6_jam 8 = .ok (.istore_n 3, 1) := by decide +kernel
theorem dX6_jam_9 : decode cX6_jam 9 = .ok (.iload_n 3, 1) := by decide +kernel
theorem dX6_jam_10 : decode cX6_jam 10 = .ok (.ifCond .ne 14, 3) := by decide +kernel
theorem dX6_jam_13 : decode cX6_jam 13 = .ok (.new 287, 3) := by decide +kernel
theorem dX6_jam_16 : decode cX6_jam 16 = .ok (.dup, 1) := by decide +kernel
theorem dX6_jam_17 : decode cX6_jam 17 = .ok (.ldc_w 289, 3) := by decide +kernel
theorem dX6_jam_20 : decode cX6_jam 20 = .ok (.invokespecial 291, 3) := by decide +kernel
theorem dX6_jam_23 : decode cX6_jam 23 = .ok (.athrow, 1) := by decide +kernel
theorem dX6_jam_24 : decode cX6_jam 24 = .ok (.iload_n 2, 1) := by decide +kernel
theorem dX6_jam_25 : decode cX6_jam 25 = .ok (.tableswitch 56 0 3 #[31, 33, 38, 47], 31) := by decide +kernel
theorem dX6_jam_56 : decode cX6_jam 56 = .ok (.iload_n 3, 1) := by decide +kernel
theorem dX6_jam_57 : decode cX6_jam 57 = .ok (.ireturn, 1) := by decide +kernel
theorem dX6_jam_58 : decode cX6_jam 58 = .ok (.iload_n 3, 1) := by decide +kernel
theorem dX6_jam_59 : decode cX6_jam 59 = .ok (.invokestatic 180, 3) := by decide +kernel
theorem dX6_jam_62 : decode cX6_jam 62 = .ok (.ireturn, 1) := by decide +kernel
theorem dX6_jam_63 : decode cX6_jam 63 = .ok (.aload_n 0, 1) := by decide +kernel
theorem dX6_jam_64 : decode cX6_jam 64 = .ok (.getfield 28, 3) := by decide +kernel
theorem dX6_jam_67 : decode cX6_jam 67 = .ok (.iload_n 3, 1) := by decide +kernel
theorem dX6_jam_68 : decode cX6_jam 68 = .ok (.invokevirtual 292, 3) := by decide +kernel
theorem dX6_jam_71 : decode cX6_jam 71 = .ok (.ireturn, 1) := by decide +kernel
theorem dX6_jam_72 : decode cX6_jam 72 = .ok (.aload_n 0, 1) := by decide +kernel
theorem dX6_jam_73 : decode cX6_jam 73 = .ok (.getfield 28, 3) := by decide +kernel
theorem dX6_jam_76 : decode cX6_jam 76 = .ok (.iload_n 3, 1) := by decide +kernel
theorem dX6_jam_77 : decode cX6_jam 77 = .ok (.invokevirtual 295, 3) := by decide +kernel
theorem dX6_jam_80 : decode cX6_jam 80 = .ok (.ireturn, 1) := by decide +kernel
theorem dX6_jam_81 : decode cX6_jam 81 = .ok (.new 100, 3) := by decide +kernel
theorem dX6_jam_84 : decode cX6_jam 84 = .ok (.dup, 1) := by decide +kernel
theorem dX6_jam_85 : decode cX6_jam 85 = .ok (.ldc_w 298, 3) := by decide +kernel
theorem dX6_jam_88 : decode cX6_jam 88 = .ok (.invokespecial 104, 3) := by decide +kernel
theorem dX6_jam_91 : decode cX6_jam 91 = .ok (.athrow, 1) := by decide +kernel
theorem dX6_meanDistance_0 : decode cX6_meanDistance 0 = .ok (.iconst 0, 1) := by decide +kernel
theorem dX6_meanDistance_1 : decode cX6_meanDistance 1 = .ok (.istore_n 1, 1) := by decide +kernel
theorem dX6_meanDistance_2 : decode cX6_meanDistance 2 = .ok (.iconst 0, 1) := by decide +kernel
theorem dX6_meanDistance_3 : decode cX6_meanDistance 3 = .ok (.istore_n 2, 1) := by decide +kernel
theorem dX6_meanDistance_4 : decode cX6_meanDistance 4 = .ok (.iconst 0, 1) := by decide +kernel
theorem dX6_meanDistance_5 : decode cX6_meanDistance 5 = .ok (.istore_n 3, 1) := by decide +kernel
theorem dX6_meanDistance_6 : decode cX6_meanDistance 6 = .ok (.iload_n 3, 1) := by decide +kernel
theorem dX6_meanDistance_7 : decode cX6_meanDistance 7 = .ok (.bipush 16, 2) := by decide +kernel
theorem dX6_meanDistance_9 : decode cX6_meanDistance 9 = .ok (.if_icmp .ge 48, 3) := by decide +kernel
theorem dX6_meanDistance_12 : decode cX6_meanDistance 12 = .ok (.aload_n 0, 1) := by decide +kernel
theorem dX6_meanDistance_13 : decode cX6_meanDistance 13 = .ok (.getfield 28, 3) := by decide +kernel
theorem dX6_meanDistance_16 : decode cX6_meanDistance 16 = .ok (.iload_n 3, 1) := by decide +kernel
theorem dX6_meanDistance_17 : decode cX6_meanDistance 17 = .ok (.invokevirtual 127, 3) := by decide +kernel
theorem dX6_meanDistance_20 : decode cX6_meanDistance 20 = .ok (.ifCond .eq 14, 3) := by decide +kernel
theorem dX6_meanDistance_23 : decode cX6_meanDistance 23 = .ok (.aload_n 0, 1) := by decide +kernel
theorem dX6_meanDistance_24 : decode cX6_meanDistance 24 = .ok (.getfield 28, 3) := by decide +kernel
theorem dX6_meanDistance_27 : decode cX6_meanDistance 27 = .ok (.iload_n 3, 1) := by decide +kernel
theorem dX6_meanDistance_28 : decode cX6_meanDistance 28 = .ok (.invokevirtual 209, 3) := by decide +kernel
theorem dX6_meanDistance_31 : decode cX6_meanDistance 31 = .ok (.goto 4, 3) := by decide +kernel
theorem dX6_meanDistance_34 : decode cX6_meanDistance 34 = .ok (.iconst (-1), 1) := by decide +kernel
theorem dX6_meanDistance_35 : decode cX6_meanDistance 35 = .ok (.istore 4, 2) := by decide +kernel
theorem dX6_meanDistance_37 : decode cX6_meanDistance 37 = .ok (.iload 4, 2) := by decide +kernel
theorem dX6_meanDistance_39 : decode cX6_meanDistance 39 = .ok (.iconst (-1), 1) := by decide +kernel
theorem dX6_meanDistance_40 : decode cX6_meanDistance 40 = .ok (.if_icmp .eq 11, 3) := by decide +kernel
theorem dX6_meanDistance_43 : decode cX6_meanDistance 43 = .ok (.iload_n 1, 1) := by decide +kernel
theorem dX6_meanDistance_44 : decode cX6_meanDistance 44 = .ok (.iload 4, 2) := by decide +kernel
theorem dX6_meanDistance_46 : decode cX6_meanDistance 46 = .ok (.iadd, 1) := by decide +kernel
theorem dX6_meanDistance_47 : decode cX6_meanDistance 47 = .ok (.istore_n 1, 1) := by decide +kernel
theorem dX6_meanDistance_48 : decode cX6_meanDistance 48 = .ok (.iinc 2 1, 3) := by decide +kernel
theorem dX6_meanDistance_51 : decode cX6_meanDistance 51 = .ok (.iinc 3 1, 3) := by decide +kernel
theorem dX6_meanDistance_54 : decode cX6_meanDistance 54 = .ok (.goto (-48), 3) := by decide +kernel
theorem dX6_meanDistance_57 : decode cX6_meanDistance 57 = .ok (.iload_n 2, 1) := by decide +kernel
theorem dX6_meanDistance_58 : decode cX6_meanDistance 58 = .ok (.ifCond .ne 14, 3) := by decide +kernel
theorem dX6_meanDistance_61 : decode cX6_meanDistance 61 = .ok (.new 300, 3) := by decide +kernel
theorem dX6_meanDistance_64 : decode cX6_meanDistance 64 = .ok (.dup, 1) := by decide +kernel
theorem dX6_meanDistance_65 : decode cX6_meanDistance 65 = .ok (.ldc_w 302, 3) := by decide +kernel
theorem dX6_meanDistance_68 : decode cX6_meanDistance 68 = .ok (.invokespecial 304, 3) := by decide +kernel
theorem dX6_meanDistance_71 : decode cX6_meanDistance 71 = .ok (.athrow, 1) := by decide +kernel
theorem dX6_meanDistance_72 : decode cX6_meanDistance 72 = .ok (.iload_n 1, 1) := by decide +kernel
theorem dX6_meanDistance_73 : decode cX6_meanDistance 73 = .ok (.i2d, 1) := by decide +kernel
theorem dX6_meanDistance_74 : decode cX6_meanDistance 74 = .ok (.iload_n 2, 1) := by decide +kernel
theorem dX6_meanDistance_75 : decode cX6_meanDistance 75 = .ok (.i2d, 1) := by decide +kernel
theorem dX6_meanDistance_76 : decode cX6_meanDistance 76 = .ok (.ddiv, 1) := by decide +kernel
theorem dX6_meanDistance_77 : decode cX6_meanDistance 77 = .ok (.dreturn, 1) := by decide +kernel
theorem dX6_density_0 : decode cX6_density 0 = .ok (.iconst 0, 1) := by decide +kernel
theorem dX6_density_1 : decode cX6_density 1 = .ok (.istore_n 1, 1) := by decide +kernel
theorem dX6_density_2 : decode cX6_density 2 = .ok (.iconst 0, 1) := by decide +kernel
theorem dX6_density_3 : decode cX6_density 3 = .ok (.istore_n 2, 1) := by decide +kernel
theorem dX6_density_4 : decode cX6_density 4 = .ok (.iload_n 2, 1) := by decide +kernel
theorem dX6_density_5 : decode cX6_density 5 = .ok (.sipush 140, 3) := by decide +kernel
theorem dX6_density_8 : decode cX6_density 8 = .ok (.if_icmp .ge 24, 3) := by decide +kernel
theorem dX6_density_11 : decode cX6_density 11 = .ok (.aload_n 0, 1) := by decide +kernel
theorem dX6_density_12 : decode cX6_density 12 = .ok (.getfield 12, 3) := by decide +kernel
theorem dX6_density_15 : decode cX6_density 15 = .ok (.getfield 83, 3) := by decide +kernel
theorem dX6_density_18 : decode cX6_density 18 = .ok (.iload_n 2, 1) := by decide +kernel
theorem dX6_density_19 : decode cX6_density 19 = .ok (.iaload, 1) := by decide +kernel
theorem dX6_density_20 : decode cX6_density 20 = .ok (.ifCond .eq 6, 3) := by decide +kernel
theorem dX6_density_23 : decode cX6_density 23 = .ok (.iinc 1 1, 3) := by decide +kernel
theorem dX6_density_26 : decode cX6_density 26 = .ok (.iinc 2 1, 3) := by decide +kernel
theorem dX6_density_29 : decode cX6_density 29 = .ok (.goto (-25), 3) := by decide +kernel
theorem dX6_density_32 : decode cX6_density 32 = .ok (.iload_n 1, 1) := by decide +kernel
theorem dX6_density_33 : decode cX6_density 33 = .ok (.ifCond .ne 14, 3) := by decide +kernel
theorem dX6_density_36 : decode cX6_density 36 = .ok (.new 300, 3) := by decide +kernel
theorem dX6_density_39 : decode cX6_density 39 = .ok (.dup, 1) := by decide +kernel
theorem dX6_density_40 : decode cX6_density 40 = .ok (.ldc_w 305, 3) := by decide +kernel
theorem dX6_density_43 : decode cX6_density 43 = .ok (.invokespecial 304, 3) := by decide +kernel
theorem dX6_density_46 : decode cX6_density 46 = .ok (.athrow, 1) := by decide +kernel
theorem dX6_density_47 : decode cX6_density 47 = .ok (.aload_n 0, 1) := by decide +kernel
theorem dX6_density_48 : decode cX6_density 48 = .ok (.getfield 28, 3) := by decide +kernel
theorem dX6_density_51 : decode cX6_density 51 = .ok (.invokevirtual 177, 3) := by decide +kernel
theorem dX6_density_54 : decode cX6_density 54 = .ok (.invokestatic 180, 3) := by decide +kernel
theorem dX6_density_57 : decode cX6_density 57 = .ok (.i2f, 1) := by decide +kernel
theorem dX6_density_58 : decode cX6_density 58 = .ok (.iload_n 1, 1) := by decide +kernel
theorem dX6_density_59 : decode cX6_density 59 = .ok (.i2f, 1) := by decide +kernel
theorem dX6_density_60 : decode cX6_density 60 = .ok (.fdiv, 1) := by decide +kernel
theorem dX6_density_61 : decode cX6_density 61 = .ok (.freturn, 1) := by decide +kernel
theorem dX6_feed_0 : decode cX6_feed 0 = .ok (.aload_n 0, 1) := by decide +kernel
theorem dX6_feed_1 : decode cX6_feed 1 = .ok (.getfield 52, 3) := by decide +kernel
theorem dX6_feed_4 : decode cX6_feed 4 = .ok (.invokevirtual 307, 3) := by decide +kernel
theorem dX6_feed_7 : decode cX6_feed 7 = .ok (.ifCond .eq 14, 3) := by decide +kernel
theorem dX6_feed_10 : decode cX6_feed 10 = .ok (.new 72, 3) := by decide +kernel
theorem dX6_feed_13 : decode cX6_feed 13 = .ok (.dup, 1) := by decide +kernel
theorem dX6_feed_14 : decode cX6_feed 14 = .ok (.ldc_w 311, 3) := by decide +kernel
theorem dX6_feed_17 : decode cX6_feed 17 = .ok (.invokespecial 76, 3) := by decide +kernel
theorem dX6_feed_20 : decode cX6_feed 20 = .ok (.athrow, 1) := by decide +kernel
theorem dX6_feed_21 : decode cX6_feed 21 = .ok (.aload_n 0, 1) := by decide +kernel
theorem dX6_feed_22 : decode cX6_feed 22 = .ok (.getfield 52, 3) := by decide +kernel
theorem dX6_feed_25 : decode cX6_feed 25 = .ok (.iload_n 1, 1) := by decide +kernel
theorem dX6_feed_26 : decode cX6_feed 26 = .ok (.invokevirtual 313, 3) := by decide +kernel
theorem dX6_feed_29 : decode cX6_feed 29 = .ok (.ireturn, 1) := by decide +kernel
theorem dX6_readMap_0 : decode cX6_readMap 0 = .ok (.aload_n 0, 1) := by decide +kernel
theorem dX6_readMap_1 : decode cX6_readMap 1 = .ok (.getfield 52, 3) := by decide +kernel
theorem dX6_readMap_4 : decode cX6_readMap 4 = .ok (.invokevirtual 317, 3) := by decide +kernel
theorem dX6_readMap_7 : decode cX6_readMap 7 = .ok (.istore_n 1, 1) := by decide +kernel
theorem dX6_readMap_8 : decode cX6_readMap 8 = .ok (.aload_n 0, 1) := by decide +kernel
theorem dX6_readMap_9 : decode cX6_readMap 9 = .ok (.getfield 52, 3) := by decide +kernel
theorem dX6_readMap_12 : decode cX6_readMap 12 = .ok (.invokevirtual 320, 3) := by decide +kernel
theorem dX6_readMap_15 : decode cX6_readMap 15 = .ok (.iload_n 1, 1) := by decide +kernel
theorem dX6_readMap_16 : decode cX6_readMap 16 = .ok (.iconst (-1), 1) := by decide +kernel
theorem dX6_readMap_17 : decode cX6_readMap 17 = .ok (.if_icmp .eq 8, 3) := by decide +kernel
theorem dX6_readMap_20 : decode cX6_readMap 20 = .ok (.bipush (-100), 2) := by decide +kernel
theorem dX6_readMap_22 : decode cX6_readMap 22 = .ok (.iload_n 1, 1) := by decide +kernel
theorem dX6_readMap_23 : decode cX6_readMap 23 = .ok (.isub, 1) := by decide +kernel
theorem dX6_readMap_24 : decode cX6_readMap 24 = .ok (.ireturn, 1) := by decide +kernel
theorem dX6_readMap_25 : decode cX6_readMap 25 = .ok (.iconst 0, 1) := by decide +kernel
theorem dX6_readMap_26 : decode cX6_readMap 26 = .ok (.istore_n 2, 1) := by decide +kernel
theorem dX6_readMap_27 : decode cX6_readMap 27 = .ok (.iload_n 2, 1) := by decide +kernel
theorem dX6_readMap_28 : decode cX6_readMap 28 = .ok (.sipush 140, 3) := by decide +kernel
theorem dX6_readMap_31 : decode cX6_readMap 31 = .ok (.if_icmp .ge 43, 3) := by decide +kernel
theorem dX6_readMap_34 : decode cX6_readMap 34 = .ok (.aload_n 0, 1) := by decide +kernel
theorem dX6_readMap_35 : decode cX6_readMap 35 = .ok (.getfield 52, 3) := by decide +kernel
theorem dX6_readMap_38 : decode cX6_readMap 38 = .ok (.getfield 323, 3) := by decide +kernel
theorem dX6_readMap_41 : decode cX6_readMap 41 = .ok (.iload_n 2, 1) := by decide +kernel
theorem dX6_readMap_42 : decode cX6_readMap 42 = .ok (.iaload, 1) := by decide +kernel
theorem dX6_readMap_43 : decode cX6_readMap 43 = .ok (.ifCond .ne 25, 3) := by decide +kernel
theorem dX6_readMap_46 : decode cX6_readMap 46 = .ok (.aload_n 0, 1) := by decide +kernel
theorem dX6_readMap_47 : decode cX6_readMap 47 = .ok (.getfield 28, 3) := by decide +kernel
theorem dX6_readMap_50 : decode cX6_readMap 50 = .ok (.iload_n 2, 1) := by decide +kernel
theorem dX6_readMap_51 : decode cX6_readMap 51 = .ok (.invokevirtual 68, 3) := by decide +kernel
theorem dX6_readMap_54 : decode cX6_readMap 54 = .ok (.ifCond .eq 14, 3) := by decide +kernel
theorem dX6_readMap_57 : decode cX6_readMap 57 = .ok (.new 72, 3) := by decide +kernel
theorem dX6_readMap_60 : decode cX6_readMap 60 = .ok (.dup, 1) := by decide +kernel
theorem dX6_readMap_61 : decode cX6_readMap 61 = .ok (.ldc_w 324, 3) := by decide +kernel
theorem dX6_readMap_64 : decode cX6_readMap 64 = .ok (.invokespecial 76, 3) := by decide +kernel
theorem dX6_readMap_67 : decode cX6_readMap 67 = .ok (.athrow, 1) := by decide +kernel
theorem dX6_readMap_68 : decode cX6_readMap 68 = .ok (.iinc 2 1, 3) := by decide +kernel
theorem dX6_readMap_71 : decode cX6_readMap 71 = .ok (.goto (-44), 3) := by decide +kernel
theorem dX6_readMap_74 : decode cX6_readMap 74 = .ok (.aload_n 0, 1) := by decide +kernel
theorem dX6_readMap_75 : decode cX6_readMap 75 = .ok (.getfield 38, 3) := by decide +kernel
theorem dX6_readMap_78 : decode cX6_readMap 78 = .ok (.aload_n 0, 1) := by decide +kernel
theorem dX6_readMap_79 : decode cX6_readMap 79 = .ok (.getfield 12, 3) := by decide +kernel
theorem dX6_readMap_82 : decode cX6_readMap 82 = .ok (.invokevirtual 79, 3) := by decide +kernel
theorem dX6_readMap_85 : decode cX6_readMap 85 = .ok (.iconst 0, 1) := by decide +kernel
theorem dX6_readMap_86 : decode cX6_readMap 86 = .ok (.istore_n 2, 1) := by decide +kernel
theorem dX6_readMap_87 : decode cX6_readMap 87 = .ok (.iconst 0, 1) := by decide +kernel
theorem dX6_readMap_88 : decode cX6_readMap 88 = .ok (.istore_n 3, 1) := by decide +kernel
theorem dX6_readMap_89 : decode cX6_readMap 89 = .ok (.iload_n 3, 1) := by decide +kernel
theorem dX6_readMap_90 : decode cX6_readMap 90 = .ok (.sipush 140, 3) := by decide +kernel
theorem dX6_readMap_93 : decode cX6_readMap 93 = .ok (.if_icmp .ge 43, 3) := by decide +kernel
theorem dX6_readMap_96 : decode cX6_readMap 96 = .ok (.aload_n 0, 1) := by decide +kernel
theorem dX6_readMap_97 : decode cX6_readMap 97 = .ok (.getfield 52, 3) := by decide +kernel
theorem dX6_readMap_100 : decode cX6_readMap 100 = .ok (.getfield 323, 3) := by decide +kernel
theorem dX6_readMap_103 : decode cX6_readMap 103 = .ok (.iload_n 3, 1) := by decide +kernel
theorem dX6_readMap_104 : decode cX6_readMap 104 = .ok (.iaload, 1) := by decide +kernel
theorem dX6_readMap_105 : decode cX6_readMap 105 = .ok (.iconst (-1), 1) := by decide +kernel
theorem dX6_readMap_106 : decode cX6_readMap 106 = .ok (.if_icmp .eq 24, 3) := by decide +kernel
theorem dX6_readMap_109 : decode cX6_readMap 109 = .ok (.aload_n 0, 1) := by decide +kernel
theorem dX6_readMap_110 : decode cX6_readMap 110 = .ok (.getfield 12, 3) := by decide +kernel
theorem dX6_readMap_113 : decode cX6_readMap 113 = .ok (.getfield 83, 3) := by decide +kernel
theorem dX6_readMap_116 : decode cX6_readMap 116 = .ok (.iload_n 3, 1) := by decide +kernel
theorem dX6_readMap_117 : decode cX6_readMap 117 = .ok (.aload_n 0, 1) := by decide +kernel
theorem dX6_readMap_118 : decode cX6_readMap 118 = .ok (.getfield 52, 3) := by decide +kernel
theorem dX6_readMap_121 : decode cX6_readMap 121 = .ok (.getfield 323, 3) := by decide +kernel
theorem dX6_readMap_124 : decode cX6_readMap 124 = .ok (.iload_n 3, 1) := by decide +kernel
theorem dX6_readMap_125 : decode cX6_readMap 125 = .ok (.iaload, 1) := by decide +kernel
theorem dX6_readMap_126 : decode cX6_readMap 126 = .ok (.iastore, 1) := by decide +kernel
theorem dX6_readMap_127 : decode cX6_readMap 127 = .ok (.iinc 2 1, 3) := by decide +kernel
theorem dX6_readMap_130 : decode cX6_readMap 130 = .ok (.iinc 3 1, 3) := by decide +kernel
theorem dX6_readMap_133 : decode cX6_readMap 133 = .ok (.goto (-44), 3) := by decide +kernel
theorem dX6_readMap_136 : decode cX6_readMap 136 = .ok (.aload_n 0, 1) := by decide +kernel
theorem dX6_readMap_137 : decode cX6_readMap 137 = .ok (.getfield 19, 3) := by decide +kernel
theorem dX6_readMap_140 : decode cX6_readMap 140 = .ok (.invokevirtual 87, 3) := by decide +kernel
theorem dX6_readMap_143 : decode cX6_readMap 143 = .ok (.iload_n 2, 1) := by decide +kernel
theorem dX6_readMap_144 : decode cX6_readMap 144 = .ok (.ireturn, 1) := by decide +kernel
theorem dX6_map_0 : decode cX6_map 0 = .ok (.iload_n 1, 1) := by decide +kernel
theorem dX6_map_1 : decode cX6_map 1 = .ok (.ifCond .lt 10, 3) := by decide +kernel
theorem dX6_map_4 : decode cX6_map 4 = .ok (.iload_n 1, 1) := by decide +kernel
theorem dX6_map_5 : decode cX6_map 5 = .ok (.sipush 149, 3) := by decide +kernel
theorem dX6_map_8 : decode cX6_map 8 = .ok (.if_icmp .lt 14, 3) := by decide +kernel
theorem dX6_map_11 : decode cX6_map 11 = .ok (.new 287, 3) := by decide +kernel
theorem dX6_map_14 : decode cX6_map 14 = .ok (.dup, 1) := by decide +kernel
theorem dX6_map_15 : decode cX6_map 15 = .ok (.ldc_w 326, 3) := by decide +kernel
theorem dX6_map_18 : decode cX6_map 18 = .ok (.invokespecial 291, 3) := by decide +kernel
theorem dX6_map_21 : decode cX6_map 21 = .ok (.athrow, 1) := by decide +kernel
theorem dX6_map_22 : decode cX6_map 22 = .ok (.iload_n 1, 1) := by decide +kernel
theorem dX6_map_23 : decode cX6_map 23 = .ok (.bipush 15, 2) := by decide +kernel
theorem dX6_map_25 : decode cX6_map 25 = .ok (.irem, 1) := by decide +kernel
theorem dX6_map_26 : decode cX6_map 26 = .ok (.istore_n 2, 1) := by decide +kernel
theorem dX6_map_27 : decode cX6_map 27 = .ok (.iload_n 2, 1) := by decide +kernel
theorem dX6_map_28 : decode cX6_map 28 = .ok (.bipush 14, 2) := by decide +kernel
theorem dX6_map_30 : decode cX6_map 30 = .ok (.if_icmp .ne 6, 3) := by decide +kernel
theorem dX6_map_33 : decode cX6_map 33 = .ok (.bipush 47, 2) := by decide +kernel
theorem dX6_map_35 : decode cX6_map 35 = .ok (.ireturn, 1) := by decide +kernel
theorem dX6_map_36 : decode cX6_map 36 = .ok (.aload_n 0, 1) := by decide +kernel
theorem dX6_map_37 : decode cX6_map 37 = .ok (.getfield 12, 3) := by decide +kernel
theorem dX6_map_40 : decode cX6_map 40 = .ok (.getfield 83, 3) := by decide +kernel
theorem dX6_map_43 : decode cX6_map 43 = .ok (.iload_n 2, 1) := by decide +kernel
theorem dX6_map_44 : decode cX6_map 44 = .ok (.iload_n 1, 1) := by decide +kernel
theorem dX6_map_45 : decode cX6_map 45 = .ok (.bipush 15, 2) := by decide +kernel
theorem dX6_map_47 : decode cX6_map 47 = .ok (.idiv, 1) := by decide +kernel
theorem dX6_map_48 : decode cX6_map 48 = .ok (.invokestatic 64, 3) := by decide +kernel
theorem dX6_map_51 : decode cX6_map 51 = .ok (.iaload, 1) := by decide +kernel
theorem dX6_map_52 : decode cX6_map 52 = .ok (.istore_n 3, 1) := by decide +kernel
theorem dX6_map_53 : decode cX6_map 53 = .ok (.iload_n 3, 1) := by decide +kernel
theorem dX6_map_54 : decode cX6_map 54 = .ok (.ifCond .ne 8, 3) := by decide +kernel
theorem dX6_map_57 : decode cX6_map 57 = .ok (.bipush 35, 2) := by decide +kernel
theorem dX6_map_59 : decode cX6_map 59 = .ok (.goto 8, 3) := by decide +kernel
theorem dX6_map_62 : decode cX6_map 62 = .ok (.bipush 48, 2) := by decide +kernel
theorem dX6_map_64 : decode cX6_map 64 = .ok (.iload_n 3, 1) := by decide +kernel
theorem dX6_map_65 : decode cX6_map 65 = .ok (.iadd, 1) := by decide +kernel
theorem dX6_map_66 : decode cX6_map 66 = .ok (.i2c, 1) := by decide +kernel
theorem dX6_map_67 : decode cX6_map 67 = .ok (.ireturn, 1) := by decide +kernel
theorem dX6_undo_0 : decode cX6_undo 0 = .ok (.aload_n 0, 1) := by decide +kernel
theorem dX6_undo_1 : decode cX6_undo 1 = .ok (.getfield 38, 3) := by decide +kernel
theorem dX6_undo_4 : decode cX6_undo 4 = .ok (.getfield 328, 3) := by decide +kernel
theorem dX6_undo_7 : decode cX6_undo 7 = .ok (.ifCond .ne 14, 3) := by decide +kernel
theorem dX6_undo_10 : decode cX6_undo 10 = .ok (.new 72, 3) := by decide +kernel
theorem dX6_undo_13 : decode cX6_undo 13 = .ok (.dup, 1) := by decide +kernel
theorem dX6_undo_14 : decode cX6_undo 14 = .ok (.ldc_w 331, 3) := by decide +kernel
theorem dX6_undo_17 : decode cX6_undo 17 = .ok (.invokespecial 76, 3) := by decide +kernel
theorem dX6_undo_20 : decode cX6_undo 20 = .ok (.athrow, 1) := by decide +kernel
theorem dX6_undo_21 : decode cX6_undo 21 = .ok (.aload_n 0, 1) := by decide +kernel
theorem dX6_undo_22 : decode cX6_undo 22 = .ok (.getfield 38, 3) := by decide +kernel
theorem dX6_undo_25 : decode cX6_undo 25 = .ok (.aload_n 0, 1) := by decide +kernel
theorem dX6_undo_26 : decode cX6_undo 26 = .ok (.getfield 12, 3) := by decide +kernel
theorem dX6_undo_29 : decode cX6_undo 29 = .ok (.invokevirtual 333, 3) := by decide +kernel
theorem dX6_undo_32 : decode cX6_undo 32 = .ok (.aload_n 0, 1) := by decide +kernel
theorem dX6_undo_33 : decode cX6_undo 33 = .ok (.getfield 19, 3) := by decide +kernel
theorem dX6_undo_36 : decode cX6_undo 36 = .ok (.invokevirtual 87, 3) := by decide +kernel
theorem dX6_undo_39 : decode cX6_undo 39 = .ok (.aload_n 0, 1) := by decide +kernel
theorem dX6_undo_40 : decode cX6_undo 40 = .ok (.getfield 38, 3) := by decide +kernel
theorem dX6_undo_43 : decode cX6_undo 43 = .ok (.getfield 328, 3) := by decide +kernel
theorem dX6_undo_46 : decode cX6_undo 46 = .ok (.ireturn, 1) := by decide +kernel
theorem dX6_save_0 : decode cX6_save 0 = .ok (.aload_n 0, 1) := by decide +kernel
theorem dX6_save_1 : decode cX6_save 1 = .ok (.getfield 42, 3) := by decide +kernel
theorem dX6_save_4 : decode cX6_save 4 = .ok (.aload_n 0, 1) := by decide +kernel
theorem dX6_save_5 : decode cX6_save 5 = .ok (.getfield 12, 3) := by decide +kernel
theorem dX6_save_8 : decode cX6_save 8 = .ok (.invokevirtual 271, 3) := by decide +kernel
theorem dX6_save_11 : decode cX6_save 11 = .ok (.aload_n 0, 1) := by decide +kernel
theorem dX6_save_12 : decode cX6_save 12 = .ok (.iconst 1, 1) := by decide +kernel
theorem dX6_save_13 : decode cX6_save 13 = .ok (.putfield 45, 3) := by decide +kernel
theorem dX6_save_16 : decode cX6_save 16 = .ok (.aload_n 0, 1) := by decide +kernel
theorem dX6_save_17 : decode cX6_save 17 = .ok (.getfield 28, 3) := by decide +kernel
theorem dX6_save_20 : decode cX6_save 20 = .ok (.invokevirtual 177, 3) := by decide +kernel
theorem dX6_save_23 : decode cX6_save 23 = .ok (.invokestatic 180, 3) := by decide +kernel
theorem dX6_save_26 : decode cX6_save 26 = .ok (.ireturn, 1) := by decide +kernel
theorem dX6_restore_0 : decode cX6_restore 0 = .ok (.aload_n 0, 1) := by decide +kernel
theorem dX6_restore_1 : decode cX6_restore 1 = .ok (.getfield 45, 3) := by decide +kernel
theorem dX6_restore_4 : decode cX6_restore 4 = .ok (.ifCond .ne 14, 3) := by decide +kernel
theorem dX6_restore_7 : decode cX6_restore 7 = .ok (.new 72, 3) := by decide +kernel
theorem dX6_restore_10 : decode cX6_restore 10 = .ok (.dup, 1) := by decide +kernel
theorem dX6_restore_11 : decode cX6_restore 11 = .ok (.ldc_w 336, 3) := by decide +kernel
theorem dX6_restore_14 : decode cX6_restore 14 = .ok (.invokespecial 76, 3) := by decide +kernel
theorem dX6_restore_17 : decode cX6_restore 17 = .ok (.athrow, 1) := by decide +kernel
theorem dX6_restore_18 : decode cX6_restore 18 = .ok (.aload_n 0, 1) := by decide +kernel
theorem dX6_restore_19 : decode cX6_restore 19 = .ok (.getfield 12, 3) := by decide +kernel
theorem dX6_restore_22 : decode cX6_restore 22 = .ok (.aload_n 0, 1) := by decide +kernel
theorem dX6_restore_23 : decode cX6_restore 23 = .ok (.getfield 42, 3) := by decide +kernel
theorem dX6_restore_26 : decode cX6_restore 26 = .ok (.invokevirtual 271, 3) := by decide +kernel
theorem dX6_restore_29 : decode cX6_restore 29 = .ok (.aload_n 0, 1) := by decide +kernel
theorem dX6_restore_30 : decode cX6_restore 30 = .ok (.getfield 38, 3) := by decide +kernel
theorem dX6_restore_33 : decode cX6_restore 33 = .ok (.invokevirtual 338, 3) := by decide +kernel
theorem dX6_restore_36 : decode cX6_restore 36 = .ok (.aload_n 0, 1) := by decide +kernel
theorem dX6_restore_37 : decode cX6_restore 37 = .ok (.getfield 19, 3) := by decide +kernel
theorem dX6_restore_40 : decode cX6_restore 40 = .ok (.invokevirtual 87, 3) := by decide +kernel
theorem dX6_restore_43 : decode cX6_restore 43 = .ok (.aload_n 0, 1) := by decide +kernel
theorem dX6_restore_44 : decode cX6_restore 44 = .ok (.getfield 28, 3) := by decide +kernel
theorem dX6_restore_47 : decode cX6_restore 47 = .ok (.invokevirtual 177, 3) := by decide +kernel
theorem dX6_restore_50 : decode cX6_restore 50 = .ok (.invokestatic 180, 3) := by decide +kernel
theorem dX6_restore_53 : decode cX6_restore 53 = .ok (.ireturn, 1) := by decide +kernel
theorem dX6_requireCell_0 : decode cX6_requireCell 0 = .ok (.iload_n 0, 1) := by decide +kernel
theorem dX6_requireCell_1 : decode cX6_requireCell 1 = .ok (.iload_n 1, 1) := by decide +kernel
theorem dX6_requireCell_2 : decode cX6_requireCell 2 = .ok (.invokestatic 64, 3) := by decide +kernel
theorem dX6_requireCell_5 : decode cX6_requireCell 5 = .ok (.iconst (-1), 1) := by decide +kernel
theorem dX6_requireCell_6 : decode cX6_requireCell 6 = .ok (.if_icmp .ne 14, 3) := by decide +kernel
theorem dX6_requireCell_9 : decode cX6_requireCell 9 = .ok (.new 287, 3) := by decide +kernel
theorem dX6_requireCell_12 : decode cX6_requireCell 12 = .ok (.dup, 1) := by decide +kernel
theorem dX6_requireCell_13 : decode cX6_requireCell 13 = .ok (.ldc_w 341, 3) := by decide +kernel
theorem dX6_requireCell_16 : decode cX6_requireCell 16 = .ok (.invokespecial 291, 3) := by decide +kernel
theorem dX6_requireCell_19 : decode cX6_requireCell 19 = .ok (.athrow, 1) := by decide +kernel
theorem dX6_requireCell_20 : decode cX6_requireCell 20 = .ok (.return_, 1) := by decide +kernel
theorem dX6_requireGoal_0 : decode cX6_requireGoal 0 = .ok (.iload_n 0, 1) := by decide +kernel
theorem dX6_requireGoal_1 : decode cX6_requireGoal 1 = .ok (.ifCond .lt 8, 3) := by decide +kernel
theorem dX6_requireGoal_4 : decode cX6_requireGoal 4 = .ok (.iload_n 0, 1) := by decide +kernel
theorem dX6_requireGoal_5 : decode cX6_requireGoal 5 = .ok (.iconst 4, 1) := by decide +kernel
theorem dX6_requireGoal_6 : decode cX6_requireGoal 6 = .ok (.if_icmp .lt 14, 3) := by decide +kernel
theorem dX6_requireGoal_9 : decode cX6_requireGoal 9 = .ok (.new 287, 3) := by decide +kernel
theorem dX6_requireGoal_12 : decode cX6_requireGoal 12 = .ok (.dup, 1) := by decide +kernel
theorem dX6_requireGoal_13 : decode cX6_requireGoal 13 = .ok (.ldc_w 343, 3) := by decide +kernel
theorem dX6_requireGoal_16 : decode cX6_requireGoal 16 = .ok (.invokespecial 291, 3) := by decide +kernel
theorem dX6_requireGoal_19 : decode cX6_requireGoal 19 = .ok (.athrow, 1) := by decide +kernel
theorem dX6_requireGoal_20 : decode cX6_requireGoal 20 = .ok (.return_, 1) := by decide +kernel
theorem dX6_requireSetGoal_0 : decode cX6_requireSetGoal 0 = .ok (.aload_n 0, 1) := by decide +kernel
theorem dX6_requireSetGoal_1 : decode cX6_requireSetGoal 1 = .ok (.getfield 12, 3) := by decide +kernel
theorem dX6_requireSetGoal_4 : decode cX6_requireSetGoal 4 = .ok (.getfield 111, 3) := by decide +kernel
theorem dX6_requireSetGoal_7 : decode cX6_requireSetGoal 7 = .ok (.iload_n 1, 1) := by decide +kernel
theorem dX6_requireSetGoal_8 : decode cX6_requireSetGoal 8 = .ok (.iaload, 1) := by decide +kernel
theorem dX6_requireSetGoal_9 : decode cX6_requireSetGoal 9 = .ok (.iconst (-1), 1) := by decide +kernel
theorem dX6_requireSetGoal_10 : decode cX6_requireSetGoal 10 = .ok (.if_icmp .ne 14, 3) := by decide +kernel
theorem dX6_requireSetGoal_13 : decode cX6_requireSetGoal 13 = .ok (.new 274, 3) := by decide +kernel
theorem dX6_requireSetGoal_16 : decode cX6_requireSetGoal 16 = .ok (.dup, 1) := by decide +kernel
theorem dX6_requireSetGoal_17 : decode cX6_requireSetGoal 17 = .ok (.ldc_w 345, 3) := by decide +kernel
theorem dX6_requireSetGoal_20 : decode cX6_requireSetGoal 20 = .ok (.invokespecial 278, 3) := by decide +kernel
theorem dX6_requireSetGoal_23 : decode cX6_requireSetGoal 23 = .ok (.athrow, 1) := by decide +kernel
theorem dX6_requireSetGoal_24 : decode cX6_requireSetGoal 24 = .ok (.return_, 1) := by decide +kernel
theorem dX6_requireAgent_0 : decode cX6_requireAgent 0 = .ok (.aload_n 0, 1) := by decide +kernel
theorem dX6_requireAgent_1 : decode cX6_requireAgent 1 = .ok (.getfield 28, 3) := by decide +kernel
theorem dX6_requireAgent_4 : decode cX6_requireAgent 4 = .ok (.iload_n 1, 1) := by decide +kernel
theorem dX6_requireAgent_5 : decode cX6_requireAgent 5 = .ok (.invokevirtual 127, 3) := by decide +kernel
theorem dX6_requireAgent_8 : decode cX6_requireAgent 8 = .ok (.ifCond .ne 14, 3) := by decide +kernel
theorem dX6_requireAgent_11 : decode cX6_requireAgent 11 = .ok (.new 287, 3) := by decide +kernel
theorem dX6_requireAgent_14 : decode cX6_requireAgent 14 = .ok (.dup, 1) := by decide +kernel
theorem dX6_requireAgent_15 : decode cX6_requireAgent 15 = .ok (.ldc_w 347, 3) := by decide +kernel
theorem dX6_requireAgent_18 : decode cX6_requireAgent 18 = .ok (.invokespecial 291, 3) := by decide +kernel
theorem dX6_requireAgent_21 : decode cX6_requireAgent 21 = .ok (.athrow, 1) := by decide +kernel
theorem dX6_requireAgent_22 : decode cX6_requireAgent 22 = .ok (.return_, 1) := by decide +kernel
theorem dX6_requireArgument_0 : decode cX6_requireArgument 0 = .ok (.iload_n 0, 1) := by decide +kernel
theorem dX6_requireArgument_1 : decode cX6_requireArgument 1 = .ok (.ifCond .ne 14, 3) := by decide +kernel
theorem dX6_requireArgument_4 : decode cX6_requireArgument 4 = .ok (.new 100, 3) := by decide +kernel
theorem dX6_requireArgument_7 : decode cX6_requireArgument 7 = .ok (.dup, 1) := by decide +kernel
theorem dX6_requireArgument_8 : decode cX6_requireArgument 8 = .ok (.ldc_w 349, 3) := by decide +kernel
theorem dX6_requireArgument_11 : decode cX6_requireArgument 11 = .ok (.invokespecial 104, 3) := by decide +kernel
theorem dX6_requireArgument_14 : decode cX6_requireArgument 14 = .ok (.athrow, 1) := by decide +kernel
theorem dX6_requireArgument_15 : decode cX6_requireArgument 15 = .ok (.return_, 1) := by decide +kernel
theorem dX6_isGoalOrNone_0 : decode cX6_isGoalOrNone 0 = .ok (.iload_n 0, 1) := by decide +kernel
theorem dX6_isGoalOrNone_1 : decode cX6_isGoalOrNone 1 = .ok (.iconst (-1), 1) := by decide +kernel
theorem dX6_isGoalOrNone_2 : decode cX6_isGoalOrNone 2 = .ok (.if_icmp .lt 12, 3) := by decide +kernel
theorem dX6_isGoalOrNone_5 : decode cX6_isGoalOrNone 5 = .ok (.iload_n 0, 1) := by decide +kernel
theorem dX6_isGoalOrNone_6 : decode cX6_isGoalOrNone 6 = .ok (.iconst 4, 1) := by decide +kernel
theorem dX6_isGoalOrNone_7 : decode cX6_isGoalOrNone 7 = .ok (.if_icmp .ge 7, 3) := by decide +kernel
theorem dX6_isGoalOrNone_10 : decode cX6_isGoalOrNone 10 = .ok (.iconst 1, 1) := by decide +kernel
theorem dX6_isGoalOrNone_11 : decode cX6_isGoalOrNone 11 = .ok (.goto 4, 3) := by decide +kernel
theorem dX6_isGoalOrNone_14 : decode cX6_isGoalOrNone 14 = .ok (.iconst 0, 1) := by decide +kernel
theorem dX6_isGoalOrNone_15 : decode cX6_isGoalOrNone 15 = .ok (.ireturn, 1) := by decide +kernel
theorem dX6_isPriority_0 : decode cX6_isPriority 0 = .ok (.iload_n 0, 1) := by decide +kernel
theorem dX6_isPriority_1 : decode cX6_isPriority 1 = .ok (.ifCond .lt 13, 3) := by decide +kernel
theorem dX6_isPriority_4 : decode cX6_isPriority 4 = .ok (.iload_n 0, 1) := by decide +kernel
theorem dX6_isPriority_5 : decode cX6_isPriority 5 = .ok (.bipush 9, 2) := by decide +kernel
theorem dX6_isPriority_7 : decode cX6_isPriority 7 = .ok (.if_icmp .gt 7, 3) := by decide +kernel
theorem dX6_isPriority_10 : decode cX6_isPriority 10 = .ok (.iconst 1, 1) := by decide +kernel
theorem dX6_isPriority_11 : decode cX6_isPriority 11 = .ok (.goto 4, 3) := by decide +kernel
theorem dX6_isPriority_14 : decode cX6_isPriority 14 = .ok (.iconst 0, 1) := by decide +kernel
theorem dX6_isPriority_15 : decode cX6_isPriority 15 = .ok (.ireturn, 1) := by decide +kernel
theorem dX6_isOffset_0 : decode cX6_isOffset 0 = .ok (.iload_n 0, 1) := by decide +kernel
theorem dX6_isOffset_1 : decode cX6_isOffset 1 = .ok (.bipush (-3), 2) := by decide +kernel
theorem dX6_isOffset_3 : decode cX6_isOffset 3 = .ok (.if_icmp .lt 12, 3) := by decide +kernel
theorem dX6_isOffset_6 : decode cX6_isOffset 6 = .ok (.iload_n 0, 1) := by decide +kernel
theorem dX6_isOffset_7 : decode cX6_isOffset 7 = .ok (.iconst 3, 1) := by decide +kernel
theorem dX6_isOffset_8 : decode cX6_isOffset 8 = .ok (.if_icmp .gt 7, 3) := by decide +kernel
theorem dX6_isOffset_11 : decode cX6_isOffset 11 = .ok (.iconst 1, 1) := by decide +kernel
theorem dX6_isOffset_12 : decode cX6_isOffset 12 = .ok (.goto 4, 3) := by decide +kernel
theorem dX6_isOffset_15 : decode cX6_isOffset 15 = .ok (.iconst 0, 1) := by decide +kernel
theorem dX6_isOffset_16 : decode cX6_isOffset 16 = .ok (.ireturn, 1) := by decide +kernel
theorem dX6_fieldOfGoal_0 : decode cX6_fieldOfGoal 0 = .ok (.iload_n 1, 1) := by decide +kernel
theorem dX6_fieldOfGoal_1 : decode cX6_fieldOfGoal 1 = .ok (.invokestatic 105, 3) := by decide +kernel
theorem dX6_fieldOfGoal_4 : decode cX6_fieldOfGoal 4 = .ok (.iload_n 2, 1) := by decide +kernel
theorem dX6_fieldOfGoal_5 : decode cX6_fieldOfGoal 5 = .ok (.iload_n 3, 1) := by decide +kernel
theorem dX6_fieldOfGoal_6 : decode cX6_fieldOfGoal 6 = .ok (.invokestatic 56, 3) := by decide +kernel
theorem dX6_fieldOfGoal_9 : decode cX6_fieldOfGoal 9 = .ok (.aload_n 0, 1) := by decide +kernel
theorem dX6_fieldOfGoal_10 : decode cX6_fieldOfGoal 10 = .ok (.iload_n 1, 1) := by decide +kernel
theorem dX6_fieldOfGoal_11 : decode cX6_fieldOfGoal 11 = .ok (.invokevirtual 124, 3) := by decide +kernel
theorem dX6_fieldOfGoal_14 : decode cX6_fieldOfGoal 14 = .ok (.aload_n 0, 1) := by decide +kernel
theorem dX6_fieldOfGoal_15 : decode cX6_fieldOfGoal 15 = .ok (.getfield 19, 3) := by decide +kernel
theorem dX6_fieldOfGoal_18 : decode cX6_fieldOfGoal 18 = .ok (.aload_n 0, 1) := by decide +kernel
theorem dX6_fieldOfGoal_19 : decode cX6_fieldOfGoal 19 = .ok (.getfield 12, 3) := by decide +kernel
theorem dX6_fieldOfGoal_22 : decode cX6_fieldOfGoal 22 = .ok (.getfield 111, 3) := by decide +kernel
theorem dX6_fieldOfGoal_25 : decode cX6_fieldOfGoal 25 = .ok (.iload_n 1, 1) := by decide +kernel
theorem dX6_fieldOfGoal_26 : decode cX6_fieldOfGoal 26 = .ok (.iaload, 1) := by decide +kernel
theorem dX6_fieldOfGoal_27 : decode cX6_fieldOfGoal 27 = .ok (.aload_n 0, 1) := by decide +kernel
theorem dX6_fieldOfGoal_28 : decode cX6_fieldOfGoal 28 = .ok (.getfield 12, 3) := by decide +kernel
theorem dX6_fieldOfGoal_31 : decode cX6_fieldOfGoal 31 = .ok (.getfield 83, 3) := by decide +kernel
theorem dX6_fieldOfGoal_34 : decode cX6_fieldOfGoal 34 = .ok (.invokevirtual 114, 3) := by decide +kernel
theorem dX6_fieldOfGoal_37 : decode cX6_fieldOfGoal 37 = .ok (.areturn, 1) := by decide +kernel
theorem dX6_cellAt_0 : decode cX6_cellAt 0 = .ok (.iload_n 0, 1) := by decide +kernel
theorem dX6_cellAt_1 : decode cX6_cellAt 1 = .ok (.ifCond .lt 23, 3) := by decide +kernel
theorem dX6_cellAt_4 : decode cX6_cellAt 4 = .ok (.iload_n 0, 1) := by decide +kernel
theorem dX6_cellAt_5 : decode cX6_cellAt 5 = .ok (.bipush 14, 2) := by decide +kernel
theorem dX6_cellAt_7 : decode cX6_cellAt 7 = .ok (.if_icmp .ge 17, 3) := by decide +kernel
theorem dX6_cellAt_10 : decode cX6_cellAt 10 = .ok (.iload_n 1, 1) := by decide +kernel
theorem dX6_cellAt_11 : decode cX6_cellAt 11 = .ok (.ifCond .lt 13, 3) := by decide +kernel
theorem dX6_cellAt_14 : decode cX6_cellAt 14 = .ok (.iload_n 1, 1) := by decide +kernel
theorem dX6_cellAt_15 : decode cX6_cellAt 15 = .ok (.bipush 10, 2) := by decide +kernel
theorem dX6_cellAt_17 : decode cX6_cellAt 17 = .ok (.if_icmp .ge 7, 3) := by decide +kernel
theorem dX6_cellAt_20 : decode cX6_cellAt 20 = .ok (.iconst 1, 1) := by decide +kernel
theorem dX6_cellAt_21 : decode cX6_cellAt 21 = .ok (.goto 4, 3) := by decide +kernel
theorem dX6_cellAt_24 : decode cX6_cellAt 24 = .ok (.iconst 0, 1) := by decide +kernel
theorem dX6_cellAt_25 : decode cX6_cellAt 25 = .ok (.istore_n 2, 1) := by decide +kernel
theorem dX6_cellAt_26 : decode cX6_cellAt 26 = .ok (.iload_n 2, 1) := by decide +kernel
theorem dX6_cellAt_27 : decode cX6_cellAt 27 = .ok (.ifCond .eq 12, 3) := by decide +kernel
theorem dX6_cellAt_30 : decode cX6_cellAt 30 = .ok (.iload_n 1, 1) := by decide +kernel
theorem dX6_cellAt_31 : decode cX6_cellAt 31 = .ok (.bipush 14, 2) := by decide +kernel
theorem dX6_cellAt_33 : decode cX6_cellAt 33 = .ok (.imul, 1) := by decide +kernel
theorem dX6_cellAt_34 : decode cX6_cellAt 34 = .ok (.iload_n 0, 1) := by decide +kernel
theorem dX6_cellAt_35 : decode cX6_cellAt 35 = .ok (.iadd, 1) := by decide +kernel
theorem dX6_cellAt_36 : decode cX6_cellAt 36 = .ok (.goto 4, 3) := by decide +kernel
theorem dX6_cellAt_39 : decode cX6_cellAt 39 = .ok (.iconst (-1), 1) := by decide +kernel
theorem dX6_cellAt_40 : decode cX6_cellAt 40 = .ok (.ireturn, 1) := by decide +kernel
theorem dX6_columnOf_0 : decode cX6_columnOf 0 = .ok (.iload_n 0, 1) := by decide +kernel
theorem dX6_columnOf_1 : decode cX6_columnOf 1 = .ok (.iconst (-1), 1) := by decide +kernel
theorem dX6_columnOf_2 : decode cX6_columnOf 2 = .ok (.if_icmp .ne 7, 3) := by decide +kernel
theorem dX6_columnOf_5 : decode cX6_columnOf 5 = .ok (.iconst (-1), 1) := by decide +kernel
theorem dX6_columnOf_6 : decode cX6_columnOf 6 = .ok (.goto 7, 3) := by decide +kernel
theorem dX6_columnOf_9 : decode cX6_columnOf 9 = .ok (.iload_n 0, 1) := by decide +kernel
theorem dX6_columnOf_10 : decode cX6_columnOf 10 = .ok (.bipush 14, 2) := by decide +kernel
theorem dX6_columnOf_12 : decode cX6_columnOf 12 = .ok (.irem, 1) := by decide +kernel
theorem dX6_columnOf_13 : decode cX6_columnOf 13 = .ok (.ireturn, 1) := by decide +kernel
theorem dX6_rowOf_0 : decode cX6_rowOf 0 = .ok (.iload_n 0, 1) := by decide +kernel
theorem dX6_rowOf_1 : decode cX6_rowOf 1 = .ok (.iconst (-1), 1) := by decide +kernel
theorem dX6_rowOf_2 : decode cX6_rowOf 2 = .ok (.if_icmp .ne 7, 3) := by decide +kernel
theorem dX6_rowOf_5 : decode cX6_rowOf 5 = .ok (.iconst (-1), 1) := by decide +kernel
theorem dX6_rowOf_6 : decode cX6_rowOf 6 = .ok (.goto 7, 3) := by decide +kernel
theorem dX6_rowOf_9 : decode cX6_rowOf 9 = .ok (.iload_n 0, 1) := by decide +kernel
theorem dX6_rowOf_10 : decode cX6_rowOf 10 = .ok (.bipush 14, 2) := by decide +kernel
theorem dX6_rowOf_12 : decode cX6_rowOf 12 = .ok (.idiv, 1) := by decide +kernel
theorem dX6_rowOf_13 : decode cX6_rowOf 13 = .ok (.ireturn, 1) := by decide +kernel
theorem dX6_neighborOf_0 : decode cX6_neighborOf 0 = .ok (.iload_n 0, 1) := by decide +kernel
theorem dX6_neighborOf_1 : decode cX6_neighborOf 1 = .ok (.ifCond .lt 10, 3) := by decide +kernel
theorem dX6_neighborOf_4 : decode cX6_neighborOf 4 = .ok (.iload_n 0, 1) := by decide +kernel
theorem dX6_neighborOf_5 : decode cX6_neighborOf 5 = .ok (.sipush 140, 3) := by decide +kernel
theorem dX6_neighborOf_8 : decode cX6_neighborOf 8 = .ok (.if_icmp .lt 5, 3) := by decide +kernel
theorem dX6_neighborOf_11 : decode cX6_neighborOf 11 = .ok (.iconst (-1), 1) := by decide +kernel
theorem dX6_neighborOf_12 : decode cX6_neighborOf 12 = .ok (.ireturn, 1) := by decide +kernel
theorem dX6_neighborOf_13 : decode cX6_neighborOf 13 = .ok (.iload_n 1, 1) := by decide +kernel
theorem dX6_neighborOf_14 : decode cX6_neighborOf 14 = .ok (.tableswitch 92 0 3 #[30, 45, 62, 77], 30) := by decide +kernel
theorem dX6_neighborOf_44 : decode cX6_neighborOf 44 = .ok (.iload_n 0, 1) := by decide +kernel
theorem dX6_neighborOf_45 : decode cX6_neighborOf 45 = .ok (.bipush 14, 2) := by decide +kernel
theorem dX6_neighborOf_47 : decode cX6_neighborOf 47 = .ok (.if_icmp .lt 10, 3) := by decide +kernel
theorem dX6_neighborOf_50 : decode cX6_neighborOf 50 = .ok (.iload_n 0, 1) := by decide +kernel
theorem dX6_neighborOf_51 : decode cX6_neighborOf 51 = .ok (.bipush 14, 2) := by decide +kernel
theorem dX6_neighborOf_53 : decode cX6_neighborOf 53 = .ok (.isub, 1) := by decide +kernel
theorem dX6_neighborOf_54 : decode cX6_neighborOf 54 = .ok (.goto 4, 3) := by decide +kernel
theorem dX6_neighborOf_57 : decode cX6_neighborOf 57 = .ok (.iconst (-1), 1) := by decide +kernel
theorem dX6_neighborOf_58 : decode cX6_neighborOf 58 = .ok (.ireturn, 1) := by decide +kernel
theorem dX6_neighborOf_59 : decode cX6_neighborOf 59 = .ok (.iload_n 0, 1) := by decide +kernel
theorem dX6_neighborOf_60 : decode cX6_neighborOf 60 = .ok (.bipush 14, 2) := by decide +kernel
theorem dX6_neighborOf_62 : decode cX6_neighborOf 62 = .ok (.irem, 1) := by decide +kernel
theorem dX6_neighborOf_63 : decode cX6_neighborOf 63 = .ok (.bipush 13, 2) := by decide +kernel
theorem dX6_neighborOf_65 : decode cX6_neighborOf 65 = .ok (.if_icmp .ge 9, 3) := by decide +kernel
theorem dX6_neighborOf_68 : decode cX6_neighborOf 68 = .ok (.iload_n 0, 1) := by decide +kernel
theorem dX6_neighborOf_69 : decode cX6_neighborOf 69 = .ok (.iconst 1, 1) := by decide +kernel
theorem dX6_neighborOf_70 : decode cX6_neighborOf 70 = .ok (.iadd, 1) := by decide +kernel
theorem dX6_neighborOf_71 : decode cX6_neighborOf 71 = .ok (.goto 4, 3) := by decide +kernel
theorem dX6_neighborOf_74 : decode cX6_neighborOf 74 = .ok (.iconst (-1), 1) := by decide +kernel
theorem dX6_neighborOf_75 : decode cX6_neighborOf 75 = .ok (.ireturn, 1) := by decide +kernel
theorem dX6_neighborOf_76 : decode cX6_neighborOf 76 = .ok (.iload_n 0, 1) := by decide +kernel
theorem dX6_neighborOf_77 : decode cX6_neighborOf 77 = .ok (.bipush 126, 2) := by decide +kernel
theorem dX6_neighborOf_79 : decode cX6_neighborOf 79 = .ok (.if_icmp .ge 10, 3) := by decide +kernel
theorem dX6_neighborOf_82 : decode cX6_neighborOf 82 = .ok (.iload_n 0, 1) := by decide +kernel
theorem dX6_neighborOf_83 : decode cX6_neighborOf 83 = .ok (.bipush 14, 2) := by decide +kernel
theorem dX6_neighborOf_85 : decode cX6_neighborOf 85 = .ok (.iadd, 1) := by decide +kernel
theorem dX6_neighborOf_86 : decode cX6_neighborOf 86 = .ok (.goto 4, 3) := by decide +kernel
theorem dX6_neighborOf_89 : decode cX6_neighborOf 89 = .ok (.iconst (-1), 1) := by decide +kernel
theorem dX6_neighborOf_90 : decode cX6_neighborOf 90 = .ok (.ireturn, 1) := by decide +kernel
theorem dX6_neighborOf_91 : decode cX6_neighborOf 91 = .ok (.iload_n 0, 1) := by decide +kernel
theorem dX6_neighborOf_92 : decode cX6_neighborOf 92 = .ok (.bipush 14, 2) := by decide +kernel
theorem dX6_neighborOf_94 : decode cX6_neighborOf 94 = .ok (.irem, 1) := by decide +kernel
theorem dX6_neighborOf_95 : decode cX6_neighborOf 95 = .ok (.ifCond .le 9, 3) := by decide +kernel
theorem dX6_neighborOf_98 : decode cX6_neighborOf 98 = .ok (.iload_n 0, 1) := by decide +kernel
theorem dX6_neighborOf_99 : decode cX6_neighborOf 99 = .ok (.iconst 1, 1) := by decide +kernel
theorem dX6_neighborOf_100 : decode cX6_neighborOf 100 = .ok (.isub, 1) := by decide +kernel
theorem dX6_neighborOf_101 : decode cX6_neighborOf 101 = .ok (.goto 4, 3) := by decide +kernel
theorem dX6_neighborOf_104 : decode cX6_neighborOf 104 = .ok (.iconst (-1), 1) := by decide +kernel
theorem dX6_neighborOf_105 : decode cX6_neighborOf 105 = .ok (.ireturn, 1) := by decide +kernel
theorem dX6_neighborOf_106 : decode cX6_neighborOf 106 = .ok (.iconst (-1), 1) := by decide +kernel
theorem dX6_neighborOf_107 : decode cX6_neighborOf 107 = .ok (.ireturn, 1) := by decide +kernel
theorem dX6_isIn_0 : decode cX6_isIn 0 = .ok (.iload_n 0, 1) := by decide +kernel
theorem dX6_isIn_1 : decode cX6_isIn 1 = .ok (.iconst 1, 1) := by decide +kernel
theorem dX6_isIn_2 : decode cX6_isIn 2 = .ok (.iload_n 1, 1) := by decide +kernel
theorem dX6_isIn_3 : decode cX6_isIn 3 = .ok (.ishl, 1) := by decide +kernel
theorem dX6_isIn_4 : decode cX6_isIn 4 = .ok (.iand, 1) := by decide +kernel
theorem dX6_isIn_5 : decode cX6_isIn 5 = .ok (.ifCond .eq 7, 3) := by decide +kernel
theorem dX6_isIn_8 : decode cX6_isIn 8 = .ok (.iconst 1, 1) := by decide +kernel
theorem dX6_isIn_9 : decode cX6_isIn 9 = .ok (.goto 4, 3) := by decide +kernel
theorem dX6_isIn_12 : decode cX6_isIn 12 = .ok (.iconst 0, 1) := by decide +kernel
theorem dX6_isIn_13 : decode cX6_isIn 13 = .ok (.ireturn, 1) := by decide +kernel
