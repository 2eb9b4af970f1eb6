theorem dX0_init_0 : decode cX0_init 0 = .ok (.aload_n 0, 1) := by decide +kernel
theorem dX0_init_1 : decode cX0_init 1 = .ok (.invokespecial 3, 3) := by decide +kernel
theorem dX0_init_4 : decode cX0_init 4 = .ok (.aload_n 0, 1) := by decide +kernel
theorem dX0_init_5 : decode cX0_init 5 = .ok (.aload_n 1, 1) := by decide +kernel
theorem dX0_init_6 : decode cX0_init 6 = .ok (.putfield 9, 3) := by decide +kernel
theorem dX0_init_9 : decode cX0_init 9 = .ok (.aload_n 0, 1) := by decide +kernel
theorem dX0_init_10 : decode cX0_init 10 = .ok (.aload_n 2, 1) := by decide +kernel
theorem dX0_init_11 : decode cX0_init 11 = .ok (.putfield 15, 3) := by decide +kernel
theorem dX0_init_14 : decode cX0_init 14 = .ok (.return_, 1) := by decide +kernel
theorem dX0_exists_0 : decode cX0_exists 0 = .ok (.iload_n 1, 1) := by decide +kernel
theorem dX0_exists_1 : decode cX0_exists 1 = .ok (.ifCond .lt 26, 3) := by decide +kernel
theorem dX0_exists_4 : decode cX0_exists 4 = .ok (.iload_n 1, 1) := by decide +kernel
theorem dX0_exists_5 : decode cX0_exists 5 = .ok (.bipush 16, 2) := by decide +kernel
theorem dX0_exists_7 : decode cX0_exists 7 = .ok (.if_icmp .ge 20, 3) := by decide +kernel
theorem dX0_exists_10 : decode cX0_exists 10 = .ok (.aload_n 0, 1) := by decide +kernel
theorem dX0_exists_11 : decode cX0_exists 11 = .ok (.getfield 9, 3) := by decide +kernel
theorem dX0_exists_14 : decode cX0_exists 14 = .ok (.getfield 19, 3) := by decide +kernel
theorem dX0_exists_17 : decode cX0_exists 17 = .ok (.iload_n 1, 1) := by decide +kernel
theorem dX0_exists_18 : decode cX0_exists 18 = .ok (.iaload, 1) := by decide +kernel
theorem dX0_exists_19 : decode cX0_exists 19 = .ok (.iconst (-1), 1) := by decide +kernel
theorem dX0_exists_20 : decode cX0_exists 20 = .ok (.if_icmp .eq 7, 3) := by decide +kernel
theorem dX0_exists_23 : decode cX0_exists 23 = .ok (.iconst 1, 1) := by decide +kernel
theorem dX0_exists_24 : decode cX0_exists 24 = .ok (.goto 4, 3) := by decide +kernel
theorem dX0_exists_27 : decode cX0_exists 27 = .ok (.iconst 0, 1) := by decide +kernel
theorem dX0_exists_28 : decode cX0_exists 28 = .ok (.ireturn, 1) := by decide +kernel
theorem dX0_lowestUnused_0 : decode cX0_lowestUnused 0 = .ok (.iconst 0, 1) := by decide +kernel
theorem dX0_lowestUnused_1 : decode cX0_lowestUnused 1 = .ok (.istore_n 1, 1) := by decide +kernel
theorem dX0_lowestUnused_2 : decode cX0_lowestUnused 2 = .ok (.iload_n 1, 1) := by decide +kernel
theorem dX0_lowestUnused_3 : decode cX0_lowestUnused 3 = .ok (.bipush 16, 2) := by decide +kernel
theorem dX0_lowestUnused_5 : decode cX0_lowestUnused 5 = .ok (.if_icmp .ge 19, 3) := by decide +kernel
theorem dX0_lowestUnused_8 : decode cX0_lowestUnused 8 = .ok (.aload_n 0, 1) := by decide +kernel
theorem dX0_lowestUnused_9 : decode cX0_lowestUnused 9 = .ok (.iload_n 1, 1) := by decide +kernel
theorem dX0_lowestUnused_10 : decode cX0_lowestUnused 10 = .ok (.invokevirtual 25, 3) := by decide +kernel
theorem dX0_lowestUnused_13 : decode cX0_lowestUnused 13 = .ok (.ifCond .ne 5, 3) := by decide +kernel
theorem dX0_lowestUnused_16 : decode cX0_lowestUnused 16 = .ok (.iload_n 1, 1) := by decide +kernel
theorem dX0_lowestUnused_17 : decode cX0_lowestUnused 17 = .ok (.ireturn, 1) := by decide +kernel
theorem dX0_lowestUnused_18 : decode cX0_lowestUnused 18 = .ok (.iinc 1 1, 3) := by decide +kernel
theorem dX0_lowestUnused_21 : decode cX0_lowestUnused 21 = .ok (.goto (-19), 3) := by decide +kernel
theorem dX0_lowestUnused_24 : decode cX0_lowestUnused 24 = .ok (.iconst (-1), 1) := by decide +kernel
theorem dX0_lowestUnused_25 : decode cX0_lowestUnused 25 = .ok (.ireturn, 1) := by decide +kernel
theorem dX0_agentOn_0 : decode cX0_agentOn 0 = .ok (.iconst 0, 1) := by decide +kernel
theorem dX0_agentOn_1 : decode cX0_agentOn 1 = .ok (.istore_n 2, 1) := by decide +kernel
theorem dX0_agentOn_2 : decode cX0_agentOn 2 = .ok (.iload_n 1, 1) := by decide +kernel
theorem dX0_agentOn_3 : decode cX0_agentOn 3 = .ok (.iconst (-1), 1) := by decide +kernel
theorem dX0_agentOn_4 : decode cX0_agentOn 4 = .ok (.if_icmp .eq 30, 3) := by decide +kernel
theorem dX0_agentOn_7 : decode cX0_agentOn 7 = .ok (.iload_n 2, 1) := by decide +kernel
theorem dX0_agentOn_8 : decode cX0_agentOn 8 = .ok (.bipush 16, 2) := by decide +kernel
theorem dX0_agentOn_10 : decode cX0_agentOn 10 = .ok (.if_icmp .ge 24, 3) := by decide +kernel
theorem dX0_agentOn_13 : decode cX0_agentOn 13 = .ok (.aload_n 0, 1) := by decide +kernel
theorem dX0_agentOn_14 : decode cX0_agentOn 14 = .ok (.getfield 9, 3) := by decide +kernel
theorem dX0_agentOn_17 : decode cX0_agentOn 17 = .ok (.getfield 19, 3) := by decide +kernel
theorem dX0_agentOn_20 : decode cX0_agentOn 20 = .ok (.iload_n 2, 1) := by decide +kernel
theorem dX0_agentOn_21 : decode cX0_agentOn 21 = .ok (.iaload, 1) := by decide +kernel
theorem dX0_agentOn_22 : decode cX0_agentOn 22 = .ok (.iload_n 1, 1) := by decide +kernel
theorem dX0_agentOn_23 : decode cX0_agentOn 23 = .ok (.if_icmp .ne 5, 3) := by decide +kernel
theorem dX0_agentOn_26 : decode cX0_agentOn 26 = .ok (.iload_n 2, 1) := by decide +kernel
theorem dX0_agentOn_27 : decode cX0_agentOn 27 = .ok (.ireturn, 1) := by decide +kernel
theorem dX0_agentOn_28 : decode cX0_agentOn 28 = .ok (.iinc 2 1, 3) := by decide +kernel
theorem dX0_agentOn_31 : decode cX0_agentOn 31 = .ok (.goto (-29), 3) := by decide +kernel
theorem dX0_agentOn_34 : decode cX0_agentOn 34 = .ok (.iconst (-1), 1) := by decide +kernel
theorem dX0_agentOn_35 : decode cX0_agentOn 35 = .ok (.ireturn, 1) := by decide +kernel
theorem dX0_goalOn_0 : decode cX0_goalOn 0 = .ok (.iconst 0, 1) := by decide +kernel
theorem dX0_goalOn_1 : decode cX0_goalOn 1 = .ok (.istore_n 2, 1) := by decide +kernel
theorem dX0_goalOn_2 : decode cX0_goalOn 2 = .ok (.iload_n 1, 1) := by decide +kernel
theorem dX0_goalOn_3 : decode cX0_goalOn 3 = .ok (.iconst (-1), 1) := by decide +kernel
theorem dX0_goalOn_4 : decode cX0_goalOn 4 = .ok (.if_icmp .eq 29, 3) := by decide +kernel
theorem dX0_goalOn_7 : decode cX0_goalOn 7 = .ok (.iload_n 2, 1) := by decide +kernel
theorem dX0_goalOn_8 : decode cX0_goalOn 8 = .ok (.iconst 4, 1) := by decide +kernel
theorem dX0_goalOn_9 : decode cX0_goalOn 9 = .ok (.if_icmp .ge 24, 3) := by decide +kernel
theorem dX0_goalOn_12 : decode cX0_goalOn 12 = .ok (.aload_n 0, 1) := by decide +kernel
theorem dX0_goalOn_13 : decode cX0_goalOn 13 = .ok (.getfield 9, 3) := by decide +kernel
theorem dX0_goalOn_16 : decode cX0_goalOn 16 = .ok (.getfield 29, 3) := by decide +kernel
theorem dX0_goalOn_19 : decode cX0_goalOn 19 = .ok (.iload_n 2, 1) := by decide +kernel
theorem dX0_goalOn_20 : decode cX0_goalOn 20 = .ok (.iaload, 1) := by decide +kernel
theorem dX0_goalOn_21 : decode cX0_goalOn 21 = .ok (.iload_n 1, 1) := by decide +kernel
theorem dX0_goalOn_22 : decode cX0_goalOn 22 = .ok (.if_icmp .ne 5, 3) := by decide +kernel
theorem dX0_goalOn_25 : decode cX0_goalOn 25 = .ok (.iload_n 2, 1) := by decide +kernel
theorem dX0_goalOn_26 : decode cX0_goalOn 26 = .ok (.ireturn, 1) := by decide +kernel
theorem dX0_goalOn_27 : decode cX0_goalOn 27 = .ok (.iinc 2 1, 3) := by decide +kernel
theorem dX0_goalOn_30 : decode cX0_goalOn 30 = .ok (.goto (-28), 3) := by decide +kernel
theorem dX0_goalOn_33 : decode cX0_goalOn 33 = .ok (.iconst (-1), 1) := by decide +kernel
theorem dX0_goalOn_34 : decode cX0_goalOn 34 = .ok (.ireturn, 1) := by decide +kernel
theorem dX0_isInUse_0 : decode cX0_isInUse 0 = .ok (.aload_n 0, 1) := by decide +kernel
theorem dX0_isInUse_1 : decode cX0_isInUse 1 = .ok (.iload_n 1, 1) := by decide +kernel
theorem dX0_isInUse_2 : decode cX0_isInUse 2 = .ok (.invokevirtual 32, 3) := by decide +kernel
theorem dX0_isInUse_5 : decode cX0_isInUse 5 = .ok (.iconst (-1), 1) := by decide +kernel
theorem dX0_isInUse_6 : decode cX0_isInUse 6 = .ok (.if_icmp .ne 12, 3) := by decide +kernel
theorem dX0_isInUse_9 : decode cX0_isInUse 9 = .ok (.aload_n 0, 1) := by decide +kernel
theorem dX0_isInUse_10 : decode cX0_isInUse 10 = .ok (.iload_n 1, 1) := by decide +kernel
theorem dX0_isInUse_11 : decode cX0_isInUse 11 = .ok (.invokevirtual 36, 3) := by decide +kernel
theorem dX0_isInUse_14 : decode cX0_isInUse 14 = .ok (.iconst (-1), 1) := by decide +kernel
theorem dX0_isInUse_15 : decode cX0_isInUse 15 = .ok (.if_icmp .eq 7, 3) := by decide +kernel
theorem dX0_isInUse_18 : decode cX0_isInUse 18 = .ok (.iconst 1, 1) := by decide +kernel
theorem dX0_isInUse_19 : decode cX0_isInUse 19 = .ok (.goto 4, 3) := by decide +kernel
theorem dX0_isInUse_22 : decode cX0_isInUse 22 = .ok (.iconst 0, 1) := by decide +kernel
theorem dX0_isInUse_23 : decode cX0_isInUse 23 = .ok (.ireturn, 1) := by decide +kernel
theorem dX0_isFree_0 : decode cX0_isFree 0 = .ok (.aload_n 0, 1) := by decide +kernel
theorem dX0_isFree_1 : decode cX0_isFree 1 = .ok (.iload_n 1, 1) := by decide +kernel
theorem dX0_isFree_2 : decode cX0_isFree 2 = .ok (.invokevirtual 39, 3) := by decide +kernel
theorem dX0_isFree_5 : decode cX0_isFree 5 = .ok (.ifCond .eq 16, 3) := by decide +kernel
theorem dX0_isFree_8 : decode cX0_isFree 8 = .ok (.aload_n 0, 1) := by decide +kernel
theorem dX0_isFree_9 : decode cX0_isFree 9 = .ok (.iload_n 1, 1) := by decide +kernel
theorem dX0_isFree_10 : decode cX0_isFree 10 = .ok (.invokevirtual 32, 3) := by decide +kernel
theorem dX0_isFree_13 : decode cX0_isFree 13 = .ok (.iconst (-1), 1) := by decide +kernel
theorem dX0_isFree_14 : decode cX0_isFree 14 = .ok (.if_icmp .ne 7, 3) := by decide +kernel
theorem dX0_isFree_17 : decode cX0_isFree 17 = .ok (.iconst 1, 1) := by decide +kernel
theorem dX0_isFree_18 : decode cX0_isFree 18 = .ok (.goto 4, 3) := by decide +kernel
theorem dX0_isFree_21 : decode cX0_isFree 21 = .ok (.iconst 0, 1) := by decide +kernel
theorem dX0_isFree_22 : decode cX0_isFree 22 = .ok (.ireturn, 1) := by decide +kernel
theorem dX0_isOpen_0 : decode cX0_isOpen 0 = .ok (.iload_n 1, 1) := by decide +kernel
theorem dX0_isOpen_1 : decode cX0_isOpen 1 = .ok (.ifCond .lt 26, 3) := by decide +kernel
theorem dX0_isOpen_4 : decode cX0_isOpen 4 = .ok (.iload_n 1, 1) := by decide +kernel
theorem dX0_isOpen_5 : decode cX0_isOpen 5 = .ok (.sipush 140, 3) := by decide +kernel
theorem dX0_isOpen_8 : decode cX0_isOpen 8 = .ok (.if_icmp .ge 19, 3) := by decide +kernel
theorem dX0_isOpen_11 : decode cX0_isOpen 11 = .ok (.aload_n 0, 1) := by decide +kernel
theorem dX0_isOpen_12 : decode cX0_isOpen 12 = .ok (.getfield 9, 3) := by decide +kernel
theorem dX0_isOpen_15 : decode cX0_isOpen 15 = .ok (.getfield 42, 3) := by decide +kernel
theorem dX0_isOpen_18 : decode cX0_isOpen 18 = .ok (.iload_n 1, 1) := by decide +kernel
theorem dX0_isOpen_19 : decode cX0_isOpen 19 = .ok (.iaload, 1) := by decide +kernel
theorem dX0_isOpen_20 : decode cX0_isOpen 20 = .ok (.ifCond .eq 7, 3) := by decide +kernel
theorem dX0_isOpen_23 : decode cX0_isOpen 23 = .ok (.iconst 1, 1) := by decide +kernel
theorem dX0_isOpen_24 : decode cX0_isOpen 24 = .ok (.goto 4, 3) := by decide +kernel
theorem dX0_isOpen_27 : decode cX0_isOpen 27 = .ok (.iconst 0, 1) := by decide +kernel
theorem dX0_isOpen_28 : decode cX0_isOpen 28 = .ok (.ireturn, 1) := by decide +kernel
theorem dX0_isMember_0 : decode cX0_isMember 0 = .ok (.aload_n 0, 1) := by decide +kernel
theorem dX0_isMember_1 : decode cX0_isMember 1 = .ok (.getfield 9, 3) := by decide +kernel
theorem dX0_isMember_4 : decode cX0_isMember 4 = .ok (.getfield 45, 3) := by decide +kernel
theorem dX0_isMember_7 : decode cX0_isMember 7 = .ok (.iload_n 1, 1) := by decide +kernel
theorem dX0_isMember_8 : decode cX0_isMember 8 = .ok (.iaload, 1) := by decide +kernel
theorem dX0_isMember_9 : decode cX0_isMember 9 = .ok (.iconst (-1), 1) := by decide +kernel
theorem dX0_isMember_10 : decode cX0_isMember 10 = .ok (.if_icmp .eq 7, 3) := by decide +kernel
theorem dX0_isMember_13 : decode cX0_isMember 13 = .ok (.iconst 1, 1) := by decide +kernel
theorem dX0_isMember_14 : decode cX0_isMember 14 = .ok (.goto 4, 3) := by decide +kernel
theorem dX0_isMember_17 : decode cX0_isMember 17 = .ok (.iconst 0, 1) := by decide +kernel
theorem dX0_isMember_18 : decode cX0_isMember 18 = .ok (.ireturn, 1) := by decide +kernel
theorem dX0_isLeader_0 : decode cX0_isLeader 0 = .ok (.aload_n 0, 1) := by decide +kernel
theorem dX0_isLeader_1 : decode cX0_isLeader 1 = .ok (.iload_n 1, 1) := by decide +kernel
theorem dX0_isLeader_2 : decode cX0_isLeader 2 = .ok (.invokevirtual 48, 3) := by decide +kernel
theorem dX0_isLeader_5 : decode cX0_isLeader 5 = .ok (.ifCond .eq 7, 3) := by decide +kernel
theorem dX0_isLeader_8 : decode cX0_isLeader 8 = .ok (.iconst 1, 1) := by decide +kernel
theorem dX0_isLeader_9 : decode cX0_isLeader 9 = .ok (.goto 4, 3) := by decide +kernel
theorem dX0_isLeader_12 : decode cX0_isLeader 12 = .ok (.iconst 0, 1) := by decide +kernel
theorem dX0_isLeader_13 : decode cX0_isLeader 13 = .ok (.ireturn, 1) := by decide +kernel
theorem dX0_targetOf_0 : decode cX0_targetOf 0 = .ok (.aload_n 0, 1) := by decide +kernel
theorem dX0_targetOf_1 : decode cX0_targetOf 1 = .ok (.getfield 9, 3) := by decide +kernel
theorem dX0_targetOf_4 : decode cX0_targetOf 4 = .ok (.getfield 45, 3) := by decide +kernel
theorem dX0_targetOf_7 : decode cX0_targetOf 7 = .ok (.iload_n 1, 1) := by decide +kernel
theorem dX0_targetOf_8 : decode cX0_targetOf 8 = .ok (.iaload, 1) := by decide +kernel
theorem dX0_targetOf_9 : decode cX0_targetOf 9 = .ok (.istore_n 2, 1) := by decide +kernel
theorem dX0_targetOf_10 : decode cX0_targetOf 10 = .ok (.aload_n 0, 1) := by decide +kernel
theorem dX0_targetOf_11 : decode cX0_targetOf 11 = .ok (.iload_n 2, 1) := by decide +kernel
theorem dX0_targetOf_12 : decode cX0_targetOf 12 = .ok (.invokevirtual 25, 3) := by decide +kernel
theorem dX0_targetOf_15 : decode cX0_targetOf 15 = .ok (.ifCond .eq 32, 3) := by decide +kernel
theorem dX0_targetOf_18 : decode cX0_targetOf 18 = .ok (.aload_n 0, 1) := by decide +kernel
theorem dX0_targetOf_19 : decode cX0_targetOf 19 = .ok (.iload_n 1, 1) := by decide +kernel
theorem dX0_targetOf_20 : decode cX0_targetOf 20 = .ok (.iload_n 2, 1) := by decide +kernel
theorem dX0_targetOf_21 : decode cX0_targetOf 21 = .ok (.invokevirtual 51, 3) := by decide +kernel
theorem dX0_targetOf_24 : decode cX0_targetOf 24 = .ok (.istore_n 3, 1) := by decide +kernel
theorem dX0_targetOf_25 : decode cX0_targetOf 25 = .ok (.aload_n 0, 1) := by decide +kernel
theorem dX0_targetOf_26 : decode cX0_targetOf 26 = .ok (.iload_n 3, 1) := by decide +kernel
theorem dX0_targetOf_27 : decode cX0_targetOf 27 = .ok (.invokevirtual 39, 3) := by decide +kernel
theorem dX0_targetOf_30 : decode cX0_targetOf 30 = .ok (.ifCond .eq 7, 3) := by decide +kernel
theorem dX0_targetOf_33 : decode cX0_targetOf 33 = .ok (.iload_n 3, 1) := by decide +kernel
theorem dX0_targetOf_34 : decode cX0_targetOf 34 = .ok (.goto 12, 3) := by decide +kernel
theorem dX0_targetOf_37 : decode cX0_targetOf 37 = .ok (.aload_n 0, 1) := by decide +kernel
theorem dX0_targetOf_38 : decode cX0_targetOf 38 = .ok (.getfield 9, 3) := by decide +kernel
theorem dX0_targetOf_41 : decode cX0_targetOf 41 = .ok (.getfield 19, 3) := by decide +kernel
theorem dX0_targetOf_44 : decode cX0_targetOf 44 = .ok (.iload_n 2, 1) := by decide +kernel
theorem dX0_targetOf_45 : decode cX0_targetOf 45 = .ok (.iaload, 1) := by decide +kernel
theorem dX0_targetOf_46 : decode cX0_targetOf 46 = .ok (.ireturn, 1) := by decide +kernel
theorem dX0_targetOf_47 : decode cX0_targetOf 47 = .ok (.aload_n 0, 1) := by decide +kernel
theorem dX0_targetOf_48 : decode cX0_targetOf 48 = .ok (.getfield 9, 3) := by decide +kernel
theorem dX0_targetOf_51 : decode cX0_targetOf 51 = .ok (.getfield 55, 3) := by decide +kernel
theorem dX0_targetOf_54 : decode cX0_targetOf 54 = .ok (.iload_n 1, 1) := by decide +kernel
theorem dX0_targetOf_55 : decode cX0_targetOf 55 = .ok (.iaload, 1) := by decide +kernel
theorem dX0_targetOf_56 : decode cX0_targetOf 56 = .ok (.istore_n 3, 1) := by decide +kernel
theorem dX0_targetOf_57 : decode cX0_targetOf 57 = .ok (.iload_n 3, 1) := by decide +kernel
theorem dX0_targetOf_58 : decode cX0_targetOf 58 = .ok (.ifCond .lt 20, 3) := by decide +kernel
theorem dX0_targetOf_61 : decode cX0_targetOf 61 = .ok (.iload_n 3, 1) := by decide +kernel
theorem dX0_targetOf_62 : decode cX0_targetOf 62 = .ok (.iconst 4, 1) := by decide +kernel
theorem dX0_targetOf_63 : decode cX0_targetOf 63 = .ok (.if_icmp .ge 15, 3) := by decide +kernel
theorem dX0_targetOf_66 : decode cX0_targetOf 66 = .ok (.aload_n 0, 1) := by decide +kernel
theorem dX0_targetOf_67 : decode cX0_targetOf 67 = .ok (.getfield 9, 3) := by decide +kernel
theorem dX0_targetOf_70 : decode cX0_targetOf 70 = .ok (.getfield 29, 3) := by decide +kernel
theorem dX0_targetOf_73 : decode cX0_targetOf 73 = .ok (.iload_n 3, 1) := by decide +kernel
theorem dX0_targetOf_74 : decode cX0_targetOf 74 = .ok (.iaload, 1) := by decide +kernel
theorem dX0_targetOf_75 : decode cX0_targetOf 75 = .ok (.goto 4, 3) := by decide +kernel
theorem dX0_targetOf_78 : decode cX0_targetOf 78 = .ok (.iconst (-1), 1) := by decide +kernel
theorem dX0_targetOf_79 : decode cX0_targetOf 79 = .ok (.ireturn, 1) := by decide +kernel
theorem dX0_slotOf_0 : decode cX0_slotOf 0 = .ok (.aload_n 0, 1) := by decide +kernel
theorem dX0_slotOf_1 : decode cX0_slotOf 1 = .ok (.getfield 9, 3) := by decide +kernel
theorem dX0_slotOf_4 : decode cX0_slotOf 4 = .ok (.getfield 58, 3) := by decide +kernel
theorem dX0_slotOf_7 : decode cX0_slotOf 7 = .ok (.iload_n 1, 1) := by decide +kernel
theorem dX0_slotOf_8 : decode cX0_slotOf 8 = .ok (.iaload, 1) := by decide +kernel
theorem dX0_slotOf_9 : decode cX0_slotOf 9 = .ok (.istore_n 3, 1) := by decide +kernel
theorem dX0_slotOf_10 : decode cX0_slotOf 10 = .ok (.aload_n 0, 1) := by decide +kernel
theorem dX0_slotOf_11 : decode cX0_slotOf 11 = .ok (.getfield 9, 3) := by decide +kernel
theorem dX0_slotOf_14 : decode cX0_slotOf 14 = .ok (.getfield 61, 3) := by decide +kernel
theorem dX0_slotOf_17 : decode cX0_slotOf 17 = .ok (.iload_n 1, 1) := by decide +kernel
theorem dX0_slotOf_18 : decode cX0_slotOf 18 = .ok (.iaload, 1) := by decide +kernel
theorem dX0_slotOf_19 : decode cX0_slotOf 19 = .ok (.istore 4, 2) := by decide +kernel
theorem dX0_slotOf_21 : decode cX0_slotOf 21 = .ok (.aload_n 0, 1) := by decide +kernel
theorem dX0_slotOf_22 : decode cX0_slotOf 22 = .ok (.getfield 9, 3) := by decide +kernel
theorem dX0_slotOf_25 : decode cX0_slotOf 25 = .ok (.getfield 19, 3) := by decide +kernel
theorem dX0_slotOf_28 : decode cX0_slotOf 28 = .ok (.iload_n 2, 1) := by decide +kernel
theorem dX0_slotOf_29 : decode cX0_slotOf 29 = .ok (.iaload, 1) := by decide +kernel
theorem dX0_slotOf_30 : decode cX0_slotOf 30 = .ok (.invokestatic 64, 3) := by decide +kernel
theorem dX0_slotOf_33 : decode cX0_slotOf 33 = .ok (.istore 5, 2) := by decide +kernel
theorem dX0_slotOf_35 : decode cX0_slotOf 35 = .ok (.aload_n 0, 1) := by decide +kernel
theorem dX0_slotOf_36 : decode cX0_slotOf 36 = .ok (.getfield 9, 3) := by decide +kernel
theorem dX0_slotOf_39 : decode cX0_slotOf 39 = .ok (.getfield 19, 3) := by decide +kernel
theorem dX0_slotOf_42 : decode cX0_slotOf 42 = .ok (.iload_n 2, 1) := by decide +kernel
theorem dX0_slotOf_43 : decode cX0_slotOf 43 = .ok (.iaload, 1) := by decide +kernel
theorem dX0_slotOf_44 : decode cX0_slotOf 44 = .ok (.invokestatic 67, 3) := by decide +kernel
theorem dX0_slotOf_47 : decode cX0_slotOf 47 = .ok (.istore 6, 2) := by decide +kernel
theorem dX0_slotOf_49 : decode cX0_slotOf 49 = .ok (.aload_n 0, 1) := by decide +kernel
theorem dX0_slotOf_50 : decode cX0_slotOf 50 = .ok (.getfield 9, 3) := by decide +kernel
theorem dX0_slotOf_53 : decode cX0_slotOf 53 = .ok (.getfield 70, 3) := by decide +kernel
theorem dX0_slotOf_56 : decode cX0_slotOf 56 = .ok (.iload_n 2, 1) := by decide +kernel
theorem dX0_slotOf_57 : decode cX0_slotOf 57 = .ok (.iaload, 1) := by decide +kernel
theorem dX0_slotOf_58 : decode cX0_slotOf 58 = .ok (.tableswitch 65 1 3 #[26, 39, 52], 26) := by decide +kernel
theorem dX0_slotOf_84 : decode cX0_slotOf 84 = .ok (.iload 5, 2) := by decide +kernel
theorem dX0_slotOf_86 : decode cX0_slotOf 86 = .ok (.iload 4, 2) := by decide +kernel
theorem dX0_slotOf_88 : decode cX0_slotOf 88 = .ok (.isub, 1) := by decide +kernel
theorem dX0_slotOf_89 : decode cX0_slotOf 89 = .ok (.iload 6, 2) := by decide +kernel
theorem dX0_slotOf_91 : decode cX0_slotOf 91 = .ok (.iload_n 3, 1) := by decide +kernel
theorem dX0_slotOf_92 : decode cX0_slotOf 92 = .ok (.iadd, 1) := by decide +kernel
theorem dX0_slotOf_93 : decode cX0_slotOf 93 = .ok (.invokestatic 73, 3) := by decide +kernel
theorem dX0_slotOf_96 : decode cX0_slotOf 96 = .ok (.ireturn, 1) := by decide +kernel
theorem dX0_slotOf_97 : decode cX0_slotOf 97 = .ok (.iload 5, 2) := by decide +kernel
theorem dX0_slotOf_99 : decode cX0_slotOf 99 = .ok (.iload_n 3, 1) := by decide +kernel
theorem dX0_slotOf_100 : decode cX0_slotOf 100 = .ok (.isub, 1) := by decide +kernel
theorem dX0_slotOf_101 : decode cX0_slotOf 101 = .ok (.iload 6, 2) := by decide +kernel
theorem dX0_slotOf_103 : decode cX0_slotOf 103 = .ok (.iload 4, 2) := by decide +kernel
theorem dX0_slotOf_105 : decode cX0_slotOf 105 = .ok (.isub, 1) := by decide +kernel
theorem dX0_slotOf_106 : decode cX0_slotOf 106 = .ok (.invokestatic 73, 3) := by decide +kernel
theorem dX0_slotOf_109 : decode cX0_slotOf 109 = .ok (.ireturn, 1) := by decide +kernel
theorem dX0_slotOf_110 : decode cX0_slotOf 110 = .ok (.iload 5, 2) := by decide +kernel
theorem dX0_slotOf_112 : decode cX0_slotOf 112 = .ok (.iload 4, 2) := by decide +kernel
theorem dX0_slotOf_114 : decode cX0_slotOf 114 = .ok (.iadd, 1) := by decide +kernel
theorem dX0_slotOf_115 : decode cX0_slotOf 115 = .ok (.iload 6, 2) := by decide +kernel
theorem dX0_slotOf_117 : decode cX0_slotOf 117 = .ok (.iload_n 3, 1) := by decide +kernel
theorem dX0_slotOf_118 : decode cX0_slotOf 118 = .ok (.isub, 1) := by decide +kernel
theorem dX0_slotOf_119 : decode cX0_slotOf 119 = .ok (.invokestatic 73, 3) := by decide +kernel
theorem dX0_slotOf_122 : decode cX0_slotOf 122 = .ok (.ireturn, 1) := by decide +kernel
theorem dX0_slotOf_123 : decode cX0_slotOf 123 = .ok (.iload 5, 2) := by decide +kernel
theorem dX0_slotOf_125 : decode cX0_slotOf 125 = .ok (.iload_n 3, 1) := by decide +kernel
theorem dX0_slotOf_126 : decode cX0_slotOf 126 = .ok (.iadd, 1) := by decide +kernel
theorem dX0_slotOf_127 : decode cX0_slotOf 127 = .ok (.iload 6, 2) := by decide +kernel
theorem dX0_slotOf_129 : decode cX0_slotOf 129 = .ok (.iload 4, 2) := by decide +kernel
theorem dX0_slotOf_131 : decode cX0_slotOf 131 = .ok (.iadd, 1) := by decide +kernel
theorem dX0_slotOf_132 : decode cX0_slotOf 132 = .ok (.invokestatic 73, 3) := by decide +kernel
theorem dX0_slotOf_135 : decode cX0_slotOf 135 = .ok (.ireturn, 1) := by decide +kernel
theorem dX0_isSettled_0 : decode cX0_isSettled 0 = .ok (.aload_n 0, 1) := by decide +kernel
theorem dX0_isSettled_1 : decode cX0_isSettled 1 = .ok (.iload_n 1, 1) := by decide +kernel
theorem dX0_isSettled_2 : decode cX0_isSettled 2 = .ok (.invokevirtual 76, 3) := by decide +kernel
theorem dX0_isSettled_5 : decode cX0_isSettled 5 = .ok (.istore_n 2, 1) := by decide +kernel
theorem dX0_isSettled_6 : decode cX0_isSettled 6 = .ok (.iload_n 2, 1) := by decide +kernel
theorem dX0_isSettled_7 : decode cX0_isSettled 7 = .ok (.iconst (-1), 1) := by decide +kernel
theorem dX0_isSettled_8 : decode cX0_isSettled 8 = .ok (.if_icmp .eq 16, 3) := by decide +kernel
theorem dX0_isSettled_11 : decode cX0_isSettled 11 = .ok (.iload_n 2, 1) := by decide +kernel
theorem dX0_isSettled_12 : decode cX0_isSettled 12 = .ok (.aload_n 0, 1) := by decide +kernel
theorem dX0_isSettled_13 : decode cX0_isSettled 13 = .ok (.getfield 9, 3) := by decide +kernel
theorem dX0_isSettled_16 : decode cX0_isSettled 16 = .ok (.getfield 19, 3) := by decide +kernel
theorem dX0_isSettled_19 : decode cX0_isSettled 19 = .ok (.iload_n 1, 1) := by decide +kernel
theorem dX0_isSettled_20 : decode cX0_isSettled 20 = .ok (.iaload, 1) := by decide +kernel
theorem dX0_isSettled_21 : decode cX0_isSettled 21 = .ok (.if_icmp .ne 7, 3) := by decide +kernel
theorem dX0_isSettled_24 : decode cX0_isSettled 24 = .ok (.iconst 1, 1) := by decide +kernel
theorem dX0_isSettled_25 : decode cX0_isSettled 25 = .ok (.goto 4, 3) := by decide +kernel
theorem dX0_isSettled_28 : decode cX0_isSettled 28 = .ok (.iconst 0, 1) := by decide +kernel
theorem dX0_isSettled_29 : decode cX0_isSettled 29 = .ok (.ireturn, 1) := by decide +kernel
theorem dX0_distanceLeft_0 : decode cX0_distanceLeft 0 = .ok (.aload_n 0, 1) := by decide +kernel
theorem dX0_distanceLeft_1 : decode cX0_distanceLeft 1 = .ok (.getfield 15, 3) := by decide +kernel
theorem dX0_distanceLeft_4 : decode cX0_distanceLeft 4 = .ok (.aload_n 0, 1) := by decide +kernel
theorem dX0_distanceLeft_5 : decode cX0_distanceLeft 5 = .ok (.iload_n 1, 1) := by decide +kernel
theorem dX0_distanceLeft_6 : decode cX0_distanceLeft 6 = .ok (.invokevirtual 76, 3) := by decide +kernel
theorem dX0_distanceLeft_9 : decode cX0_distanceLeft 9 = .ok (.aload_n 0, 1) := by decide +kernel
theorem dX0_distanceLeft_10 : decode cX0_distanceLeft 10 = .ok (.getfield 9, 3) := by decide +kernel
theorem dX0_distanceLeft_13 : decode cX0_distanceLeft 13 = .ok (.getfield 42, 3) := by decide +kernel
theorem dX0_distanceLeft_16 : decode cX0_distanceLeft 16 = .ok (.invokevirtual 79, 3) := by decide +kernel
theorem dX0_distanceLeft_19 : decode cX0_distanceLeft 19 = .ok (.aload_n 0, 1) := by decide +kernel
theorem dX0_distanceLeft_20 : decode cX0_distanceLeft 20 = .ok (.getfield 9, 3) := by decide +kernel
theorem dX0_distanceLeft_23 : decode cX0_distanceLeft 23 = .ok (.getfield 19, 3) := by decide +kernel
theorem dX0_distanceLeft_26 : decode cX0_distanceLeft 26 = .ok (.iload_n 1, 1) := by decide +kernel
theorem dX0_distanceLeft_27 : decode cX0_distanceLeft 27 = .ok (.iaload, 1) := by decide +kernel
theorem dX0_distanceLeft_28 : decode cX0_distanceLeft 28 = .ok (.invokevirtual 85, 3) := by decide +kernel
theorem dX0_distanceLeft_31 : decode cX0_distanceLeft 31 = .ok (.ireturn, 1) := by decide +kernel
theorem dX0_all_0 : decode cX0_all 0 = .ok (.iconst 0, 1) := by decide +kernel
theorem dX0_all_1 : decode cX0_all 1 = .ok (.istore_n 1, 1) := by decide +kernel
theorem dX0_all_2 : decode cX0_all 2 = .ok (.iconst 0, 1) := by decide +kernel
theorem dX0_all_3 : decode cX0_all 3 = .ok (.istore_n 2, 1) := by decide +kernel
theorem dX0_all_4 : decode cX0_all 4 = .ok (.iload_n 2, 1) := by decide +kernel
theorem dX0_all_5 : decode cX0_all 5 = .ok (.bipush 16, 2) := by decide +kernel
theorem dX0_all_7 : decode cX0_all 7 = .ok (.if_icmp .ge 23, 3) := by decide +kernel
theorem dX0_all_10 : decode cX0_all 10 = .ok (.aload_n 0, 1) := by decide +kernel
theorem dX0_all_11 : decode cX0_all 11 = .ok (.iload_n 2, 1) := by decide +kernel
theorem dX0_all_12 : decode cX0_all 12 = .ok (.invokevirtual 25, 3) := by decide +kernel
theorem dX0_all_15 : decode cX0_all 15 = .ok (.ifCond .eq 9, 3) := by decide +kernel
theorem dX0_all_18 : decode cX0_all 18 = .ok (.iload_n 1, 1) := by decide +kernel
theorem dX0_all_19 : decode cX0_all 19 = .ok (.iconst 1, 1) := by decide +kernel
theorem dX0_all_20 : decode cX0_all 20 = .ok (.iload_n 2, 1) := by decide +kernel
theorem dX0_all_21 : decode cX0_all 21 = .ok (.ishl, 1) := by decide +kernel
theorem dX0_all_22 : decode cX0_all 22 = .ok (.ior, 1) := by decide +kernel
theorem dX0_all_23 : decode cX0_all 23 = .ok (.istore_n 1, 1) := by decide +kernel
theorem dX0_all_24 : decode cX0_all 24 = .ok (.iinc 2 1, 3) := by decide +kernel
theorem dX0_all_27 : decode cX0_all 27 = .ok (.goto (-23), 3) := by decide +kernel
theorem dX0_all_30 : decode cX0_all 30 = .ok (.iload_n 1, 1) := by decide +kernel
theorem dX0_all_31 : decode cX0_all 31 = .ok (.ireturn, 1) := by decide +kernel
theorem dX0_settledOnes_0 : decode cX0_settledOnes 0 = .ok (.iconst 0, 1) := by decide +kernel
theorem dX0_settledOnes_1 : decode cX0_settledOnes 1 = .ok (.istore_n 1, 1) := by decide +kernel
theorem dX0_settledOnes_2 : decode cX0_settledOnes 2 = .ok (.iconst 0, 1) := by decide +kernel
theorem dX0_settledOnes_3 : decode cX0_settledOnes 3 = .ok (.istore_n 2, 1) := by decide +kernel
theorem dX0_settledOnes_4 : decode cX0_settledOnes 4 = .ok (.iload_n 2, 1) := by decide +kernel
theorem dX0_settledOnes_5 : decode cX0_settledOnes 5 = .ok (.bipush 16, 2) := by decide +kernel
theorem dX0_settledOnes_7 : decode cX0_settledOnes 7 = .ok (.if_icmp .ge 31, 3) := by decide +kernel
theorem dX0_settledOnes_10 : decode cX0_settledOnes 10 = .ok (.aload_n 0, 1) := by decide +kernel
theorem dX0_settledOnes_11 : decode cX0_settledOnes 11 = .ok (.iload_n 2, 1) := by decide +kernel
theorem dX0_settledOnes_12 : decode cX0_settledOnes 12 = .ok (.invokevirtual 25, 3) := by decide +kernel
theorem dX0_settledOnes_15 : decode cX0_settledOnes 15 = .ok (.ifCond .eq 17, 3) := by decide +kernel
theorem dX0_settledOnes_18 : decode cX0_settledOnes 18 = .ok (.aload_n 0, 1) := by decide +kernel
theorem dX0_settledOnes_19 : decode cX0_settledOnes 19 = .ok (.iload_n 2, 1) := by decide +kernel
theorem dX0_settledOnes_20 : decode cX0_settledOnes 20 = .ok (.invokevirtual 90, 3) := by decide +kernel
theorem dX0_settledOnes_23 : decode cX0_settledOnes 23 = .ok (.ifCond .eq 9, 3) := by decide +kernel
theorem dX0_settledOnes_26 : decode cX0_settledOnes 26 = .ok (.iload_n 1, 1) := by decide +kernel
theorem dX0_settledOnes_27 : decode cX0_settledOnes 27 = .ok (.iconst 1, 1) := by decide +kernel
theorem dX0_settledOnes_28 : decode cX0_settledOnes 28 = .ok (.iload_n 2, 1) := by decide +kernel
theorem dX0_settledOnes_29 : decode cX0_settledOnes 29 = .ok (.ishl, 1) := by decide +kernel
theorem dX0_settledOnes_30 : decode cX0_settledOnes 30 = .ok (.ior, 1) := by decide +kernel
theorem dX0_settledOnes_31 : decode cX0_settledOnes 31 = .ok (.istore_n 1, 1) := by decide +kernel
theorem dX0_settledOnes_32 : decode cX0_settledOnes 32 = .ok (.iinc 2 1, 3) := by decide +kernel
theorem dX0_settledOnes_35 : decode cX0_settledOnes 35 = .ok (.goto (-31), 3) := by decide +kernel
theorem dX0_settledOnes_38 : decode cX0_settledOnes 38 = .ok (.iload_n 1, 1) := by decide +kernel
theorem dX0_settledOnes_39 : decode cX0_settledOnes 39 = .ok (.ireturn, 1) := by decide +kernel
theorem dX0_stuckOnes_0 : decode cX0_stuckOnes 0 = .ok (.iconst 0, 1) := by decide +kernel
theorem dX0_stuckOnes_1 : decode cX0_stuckOnes 1 = .ok (.istore_n 1, 1) := by decide +kernel
theorem dX0_stuckOnes_2 : decode cX0_stuckOnes 2 = .ok (.iconst 0, 1) := by decide +kernel
theorem dX0_stuckOnes_3 : decode cX0_stuckOnes 3 = .ok (.istore_n 2, 1) := by decide +kernel
theorem dX0_stuckOnes_4 : decode cX0_stuckOnes 4 = .ok (.iload_n 2, 1) := by decide +kernel
theorem dX0_stuckOnes_5 : decode cX0_stuckOnes 5 = .ok (.bipush 16, 2) := by decide +kernel
theorem dX0_stuckOnes_7 : decode cX0_stuckOnes 7 = .ok (.if_icmp .ge 36, 3) := by decide +kernel
theorem dX0_stuckOnes_10 : decode cX0_stuckOnes 10 = .ok (.aload_n 0, 1) := by decide +kernel
theorem dX0_stuckOnes_11 : decode cX0_stuckOnes 11 = .ok (.iload_n 2, 1) := by decide +kernel
theorem dX0_stuckOnes_12 : decode cX0_stuckOnes 12 = .ok (.invokevirtual 25, 3) := by decide +kernel
theorem dX0_stuckOnes_15 : decode cX0_stuckOnes 15 = .ok (.ifCond .eq 22, 3) := by decide +kernel
theorem dX0_stuckOnes_18 : decode cX0_stuckOnes 18 = .ok (.aload_n 0, 1) := by decide +kernel
theorem dX0_stuckOnes_19 : decode cX0_stuckOnes 19 = .ok (.getfield 9, 3) := by decide +kernel
theorem dX0_stuckOnes_22 : decode cX0_stuckOnes 22 = .ok (.getfield 93, 3) := by decide +kernel
theorem dX0_stuckOnes_25 : decode cX0_stuckOnes 25 = .ok (.iload_n 2, 1) := by decide +kernel
theorem dX0_stuckOnes_26 : decode cX0_stuckOnes 26 = .ok (.iaload, 1) := by decide +kernel
theorem dX0_stuckOnes_27 : decode cX0_stuckOnes 27 = .ok (.iconst 2, 1) := by decide +kernel
theorem dX0_stuckOnes_28 : decode cX0_stuckOnes 28 = .ok (.if_icmp .lt 9, 3) := by decide +kernel
theorem dX0_stuckOnes_31 : decode cX0_stuckOnes 31 = .ok (.iload_n 1, 1) := by decide +kernel
theorem dX0_stuckOnes_32 : decode cX0_stuckOnes 32 = .ok (.iconst 1, 1) := by decide +kernel
theorem dX0_stuckOnes_33 : decode cX0_stuckOnes 33 = .ok (.iload_n 2, 1) := by decide +kernel
theorem dX0_stuckOnes_34 : decode cX0_stuckOnes 34 = .ok (.ishl, 1) := by decide +kernel
theorem dX0_stuckOnes_35 : decode cX0_stuckOnes 35 = .ok (.ior, 1) := by decide +kernel
theorem dX0_stuckOnes_36 : decode cX0_stuckOnes 36 = .ok (.istore_n 1, 1) := by decide +kernel
theorem dX0_stuckOnes_37 : decode cX0_stuckOnes 37 = .ok (.iinc 2 1, 3) := by decide +kernel
theorem dX0_stuckOnes_40 : decode cX0_stuckOnes 40 = .ok (.goto (-36), 3) := by decide +kernel
theorem dX0_stuckOnes_43 : decode cX0_stuckOnes 43 = .ok (.iload_n 1, 1) := by decide +kernel
theorem dX0_stuckOnes_44 : decode cX0_stuckOnes 44 = .ok (.ireturn, 1) := by decide +kernel
theorem dX0_leadingOnes_0 : decode cX0_leadingOnes 0 = .ok (.iconst 0, 1) := by decide +kernel
theorem dX0_leadingOnes_1 : decode cX0_leadingOnes 1 = .ok (.istore_n 1, 1) := by decide +kernel
theorem dX0_leadingOnes_2 : decode cX0_leadingOnes 2 = .ok (.iconst 0, 1) := by decide +kernel
theorem dX0_leadingOnes_3 : decode cX0_leadingOnes 3 = .ok (.istore_n 2, 1) := by decide +kernel
theorem dX0_leadingOnes_4 : decode cX0_leadingOnes 4 = .ok (.iload_n 2, 1) := by decide +kernel
theorem dX0_leadingOnes_5 : decode cX0_leadingOnes 5 = .ok (.bipush 16, 2) := by decide +kernel
theorem dX0_leadingOnes_7 : decode cX0_leadingOnes 7 = .ok (.if_icmp .ge 31, 3) := by decide +kernel
theorem dX0_leadingOnes_10 : decode cX0_leadingOnes 10 = .ok (.aload_n 0, 1) := by decide +kernel
theorem dX0_leadingOnes_11 : decode cX0_leadingOnes 11 = .ok (.iload_n 2, 1) := by decide +kernel
theorem dX0_leadingOnes_12 : decode cX0_leadingOnes 12 = .ok (.invokevirtual 96, 3) := by decide +kernel
theorem dX0_leadingOnes_15 : decode cX0_leadingOnes 15 = .ok (.ifCond .eq 17, 3) := by decide +kernel
theorem dX0_leadingOnes_18 : decode cX0_leadingOnes 18 = .ok (.iload_n 1, 1) := by decide +kernel
theorem dX0_leadingOnes_19 : decode cX0_leadingOnes 19 = .ok (.iconst 1, 1) := by decide +kernel
theorem dX0_leadingOnes_20 : decode cX0_leadingOnes 20 = .ok (.aload_n 0, 1) := by decide +kernel
theorem dX0_leadingOnes_21 : decode cX0_leadingOnes 21 = .ok (.getfield 9, 3) := by decide +kernel
theorem dX0_leadingOnes_24 : decode cX0_leadingOnes 24 = .ok (.getfield 45, 3) := by decide +kernel
theorem dX0_leadingOnes_27 : decode cX0_leadingOnes 27 = .ok (.iload_n 2, 1) := by decide +kernel
theorem dX0_leadingOnes_28 : decode cX0_leadingOnes 28 = .ok (.iaload, 1) := by decide +kernel
theorem dX0_leadingOnes_29 : decode cX0_leadingOnes 29 = .ok (.ishl, 1) := by decide +kernel
theorem dX0_leadingOnes_30 : decode cX0_leadingOnes 30 = .ok (.ior, 1) := by decide +kernel
theorem dX0_leadingOnes_31 : decode cX0_leadingOnes 31 = .ok (.istore_n 1, 1) := by decide +kernel
theorem dX0_leadingOnes_32 : decode cX0_leadingOnes 32 = .ok (.iinc 2 1, 3) := by decide +kernel
theorem dX0_leadingOnes_35 : decode cX0_leadingOnes 35 = .ok (.goto (-31), 3) := by decide +kernel
theorem dX0_leadingOnes_38 : decode cX0_leadingOnes 38 = .ok (.iload_n 1, 1) := by decide +kernel
theorem dX0_leadingOnes_39 : decode cX0_leadingOnes 39 = .ok (.ireturn, 1) := by decide +kernel
theorem dX0_memberOnes_0 : decode cX0_memberOnes 0 = .ok (.iconst 0, 1) := by decide +kernel
theorem dX0_memberOnes_1 : decode cX0_memberOnes 1 = .ok (.istore_n 1, 1) := by decide +kernel
theorem dX0_memberOnes_2 : decode cX0_memberOnes 2 = .ok (.iconst 0, 1) := by decide +kernel
theorem dX0_memberOnes_3 : decode cX0_memberOnes 3 = .ok (.istore_n 2, 1) := by decide +kernel
theorem dX0_memberOnes_4 : decode cX0_memberOnes 4 = .ok (.iload_n 2, 1) := by decide +kernel
theorem dX0_memberOnes_5 : decode cX0_memberOnes 5 = .ok (.bipush 16, 2) := by decide +kernel
theorem dX0_memberOnes_7 : decode cX0_memberOnes 7 = .ok (.if_icmp .ge 23, 3) := by decide +kernel
theorem dX0_memberOnes_10 : decode cX0_memberOnes 10 = .ok (.aload_n 0, 1) := by decide +kernel
theorem dX0_memberOnes_11 : decode cX0_memberOnes 11 = .ok (.iload_n 2, 1) := by decide +kernel
theorem dX0_memberOnes_12 : decode cX0_memberOnes 12 = .ok (.invokevirtual 96, 3) := by decide +kernel
theorem dX0_memberOnes_15 : decode cX0_memberOnes 15 = .ok (.ifCond .eq 9, 3) := by decide +kernel
theorem dX0_memberOnes_18 : decode cX0_memberOnes 18 = .ok (.iload_n 1, 1) := by decide +kernel
theorem dX0_memberOnes_19 : decode cX0_memberOnes 19 = .ok (.iconst 1, 1) := by decide +kernel
theorem dX0_memberOnes_20 : decode cX0_memberOnes 20 = .ok (.iload_n 2, 1) := by decide +kernel
theorem dX0_memberOnes_21 : decode cX0_memberOnes 21 = .ok (.ishl, 1) := by decide +kernel
theorem dX0_memberOnes_22 : decode cX0_memberOnes 22 = .ok (.ior, 1) := by decide +kernel
theorem dX0_memberOnes_23 : decode cX0_memberOnes 23 = .ok (.istore_n 1, 1) := by decide +kernel
theorem dX0_memberOnes_24 : decode cX0_memberOnes 24 = .ok (.iinc 2 1, 3) := by decide +kernel
theorem dX0_memberOnes_27 : decode cX0_memberOnes 27 = .ok (.goto (-23), 3) := by decide +kernel
theorem dX0_memberOnes_30 : decode cX0_memberOnes 30 = .ok (.iload_n 1, 1) := by decide +kernel
theorem dX0_memberOnes_31 : decode cX0_memberOnes 31 = .ok (.ireturn, 1) := by decide +kernel
theorem dX0_membersOf_0 : decode cX0_membersOf 0 = .ok (.iconst 0, 1) := by decide +kernel
theorem dX0_membersOf_1 : decode cX0_membersOf 1 = .ok (.istore_n 2, 1) := by decide +kernel
theorem dX0_membersOf_2 : decode cX0_membersOf 2 = .ok (.iconst 0, 1) := by decide +kernel
theorem dX0_membersOf_3 : decode cX0_membersOf 3 = .ok (.istore_n 3, 1) := by decide +kernel
theorem dX0_membersOf_4 : decode cX0_membersOf 4 = .ok (.iload_n 3, 1) := by decide +kernel
theorem dX0_membersOf_5 : decode cX0_membersOf 5 = .ok (.bipush 16, 2) := by decide +kernel
theorem dX0_membersOf_7 : decode cX0_membersOf 7 = .ok (.if_icmp .ge 28, 3) := by decide +kernel
theorem dX0_membersOf_10 : decode cX0_membersOf 10 = .ok (.aload_n 0, 1) := by decide +kernel
theorem dX0_membersOf_11 : decode cX0_membersOf 11 = .ok (.getfield 9, 3) := by decide +kernel
theorem dX0_membersOf_14 : decode cX0_membersOf 14 = .ok (.getfield 45, 3) := by decide +kernel
theorem dX0_membersOf_17 : decode cX0_membersOf 17 = .ok (.iload_n 3, 1) := by decide +kernel
theorem dX0_membersOf_18 : decode cX0_membersOf 18 = .ok (.iaload, 1) := by decide +kernel
theorem dX0_membersOf_19 : decode cX0_membersOf 19 = .ok (.iload_n 1, 1) := by decide +kernel
theorem dX0_membersOf_20 : decode cX0_membersOf 20 = .ok (.if_icmp .ne 9, 3) := by decide +kernel
theorem dX0_membersOf_23 : decode cX0_membersOf 23 = .ok (.iload_n 2, 1) := by decide +kernel
theorem dX0_membersOf_24 : decode cX0_membersOf 24 = .ok (.iconst 1, 1) := by decide +kernel
theorem dX0_membersOf_25 : decode cX0_membersOf 25 = .ok (.iload_n 3, 1) := by decide +kernel
theorem dX0_membersOf_26 : decode cX0_membersOf 26 = .ok (.ishl, 1) := by decide +kernel
theorem dX0_membersOf_27 : decode cX0_membersOf 27 = .ok (.ior, 1) := by decide +kernel
theorem dX0_membersOf_28 : decode cX0_membersOf 28 = .ok (.istore_n 2, 1) := by decide +kernel
theorem dX0_membersOf_29 : decode cX0_membersOf 29 = .ok (.iinc 3 1, 3) := by decide +kernel
theorem dX0_membersOf_32 : decode cX0_membersOf 32 = .ok (.goto (-28), 3) := by decide +kernel
theorem dX0_membersOf_35 : decode cX0_membersOf 35 = .ok (.iload_n 2, 1) := by decide +kernel
theorem dX0_membersOf_36 : decode cX0_membersOf 36 = .ok (.ireturn, 1) := by decide +kernel
theorem dX0_passTick_0 : decode cX0_passTick 0 = .ok (.aload_n 0, 1) := by decide +kernel
theorem dX0_passTick_1 : decode cX0_passTick 1 = .ok (.getfield 9, 3) := by decide +kernel
theorem dX0_passTick_4 : decode cX0_passTick 4 = .ok (.getfield 99, 3) := by decide +kernel
theorem dX0_passTick_7 : decode cX0_passTick 7 = .ok (.iconst 0, 1) := by decide +kernel
theorem dX0_passTick_8 : decode cX0_passTick 8 = .ok (.dup2, 1) := by decide +kernel
theorem dX0_passTick_9 : decode cX0_passTick 9 = .ok (.iaload, 1) := by decide +kernel
theorem dX0_passTick_10 : decode cX0_passTick 10 = .ok (.iconst 1, 1) := by decide +kernel
theorem dX0_passTick_11 : decode cX0_passTick 11 = .ok (.iadd, 1) := by decide +kernel
theorem dX0_passTick_12 : decode cX0_passTick 12 = .ok (.iastore, 1) := by decide +kernel
theorem dX0_passTick_13 : decode cX0_passTick 13 = .ok (.aload_n 0, 1) := by decide +kernel
theorem dX0_passTick_14 : decode cX0_passTick 14 = .ok (.iconst 0, 1) := by decide +kernel
theorem dX0_passTick_15 : decode cX0_passTick 15 = .ok (.putfield 102, 3) := by decide +kernel
theorem dX0_passTick_18 : decode cX0_passTick 18 = .ok (.bipush 9, 2) := by decide +kernel
theorem dX0_passTick_20 : decode cX0_passTick 20 = .ok (.istore_n 1, 1) := by decide +kernel
theorem dX0_passTick_21 : decode cX0_passTick 21 = .ok (.iload_n 1, 1) := by decide +kernel
theorem dX0_passTick_22 : decode cX0_passTick 22 = .ok (.ifCond .lt 49, 3) := by decide +kernel
theorem dX0_passTick_25 : decode cX0_passTick 25 = .ok (.iconst 0, 1) := by decide +kernel
theorem dX0_passTick_26 : decode cX0_passTick 26 = .ok (.istore_n 2, 1) := by decide +kernel
theorem dX0_passTick_27 : decode cX0_passTick 27 = .ok (.iload_n 2, 1) := by decide +kernel
theorem dX0_passTick_28 : decode cX0_passTick 28 = .ok (.bipush 16, 2) := by decide +kernel
theorem dX0_passTick_30 : decode cX0_passTick 30 = .ok (.if_icmp .ge 35, 3) := by decide +kernel
theorem dX0_passTick_33 : decode cX0_passTick 33 = .ok (.aload_n 0, 1) := by decide +kernel
theorem dX0_passTick_34 : decode cX0_passTick 34 = .ok (.iload_n 2, 1) := by decide +kernel
theorem dX0_passTick_35 : decode cX0_passTick 35 = .ok (.invokevirtual 25, 3) := by decide +kernel
theorem dX0_passTick_38 : decode cX0_passTick 38 = .ok (.ifCond .eq 21, 3) := by decide +kernel
theorem dX0_passTick_41 : decode cX0_passTick 41 = .ok (.aload_n 0, 1) := by decide +kernel
theorem dX0_passTick_42 : decode cX0_passTick 42 = .ok (.getfield 9, 3) := by decide +kernel
theorem dX0_passTick_45 : decode cX0_passTick 45 = .ok (.getfield 106, 3) := by decide +kernel
theorem dX0_passTick_48 : decode cX0_passTick 48 = .ok (.iload_n 2, 1) := by decide +kernel
theorem dX0_passTick_49 : decode cX0_passTick 49 = .ok (.iaload, 1) := by decide +kernel
theorem dX0_passTick_50 : decode cX0_passTick 50 = .ok (.iload_n 1, 1) := by decide +kernel
theorem dX0_passTick_51 : decode cX0_passTick 51 = .ok (.if_icmp .ne 8, 3) := by decide +kernel
theorem dX0_passTick_54 : decode cX0_passTick 54 = .ok (.aload_n 0, 1) := by decide +kernel
theorem dX0_passTick_55 : decode cX0_passTick 55 = .ok (.iload_n 2, 1) := by decide +kernel
theorem dX0_passTick_56 : decode cX0_passTick 56 = .ok (.invokevirtual 109, 3) := by decide +kernel
theorem dX0_passTick_59 : decode cX0_passTick 59 = .ok (.iinc 2 1, 3) := by decide +kernel
theorem dX0_passTick_62 : decode cX0_passTick 62 = .ok (.goto (-35), 3) := by decide +kernel
theorem dX0_passTick_65 : decode cX0_passTick 65 = .ok (.iinc 1 (-1), 3) := by decide +kernel
theorem dX0_passTick_68 : decode cX0_passTick 68 = .ok (.goto (-47), 3) := by decide +kernel
theorem dX0_passTick_71 : decode cX0_passTick 71 = .ok (.return_, 1) := by decide +kernel
theorem dX0_takeTurn_0 : decode cX0_takeTurn 0 = .ok (.aload_n 0, 1) := by decide +kernel
theorem dX0_takeTurn_1 : decode cX0_takeTurn 1 = .ok (.iload_n 1, 1) := by decide +kernel
theorem dX0_takeTurn_2 : decode cX0_takeTurn 2 = .ok (.invokevirtual 76, 3) := by decide +kernel
theorem dX0_takeTurn_5 : decode cX0_takeTurn 5 = .ok (.istore_n 2, 1) := by decide +kernel
theorem dX0_takeTurn_6 : decode cX0_takeTurn 6 = .ok (.aload_n 0, 1) := by decide +kernel
theorem dX0_takeTurn_7 : decode cX0_takeTurn 7 = .ok (.getfield 9, 3) := by decide +kernel
theorem dX0_takeTurn_10 : decode cX0_takeTurn 10 = .ok (.getfield 19, 3) := by decide +kernel
theorem dX0_takeTurn_13 : decode cX0_takeTurn 13 = .ok (.iload_n 1, 1) := by decide +kernel
theorem dX0_takeTurn_14 : decode cX0_takeTurn 14 = .ok (.iaload, 1) := by decide +kernel
theorem dX0_takeTurn_15 : decode cX0_takeTurn 15 = .ok (.istore_n 3, 1) := by decide +kernel
theorem dX0_takeTurn_16 : decode cX0_takeTurn 16 = .ok (.iload_n 2, 1) := by decide +kernel
theorem dX0_takeTurn_17 : decode cX0_takeTurn 17 = .ok (.iconst (-1), 1) := by decide +kernel
theorem dX0_takeTurn_18 : decode cX0_takeTurn 18 = .ok (.if_icmp .eq 8, 3) := by decide +kernel
theorem dX0_takeTurn_21 : decode cX0_takeTurn 21 = .ok (.iload_n 2, 1) := by decide +kernel
theorem dX0_takeTurn_22 : decode cX0_takeTurn 22 = .ok (.iload_n 3, 1) := by decide +kernel
theorem dX0_takeTurn_23 : decode cX0_takeTurn 23 = .ok (.if_icmp .ne 14, 3) := by decide +kernel
theorem dX0_takeTurn_26 : decode cX0_takeTurn 26 = .ok (.aload_n 0, 1) := by decide +kernel
theorem dX0_takeTurn_27 : decode cX0_takeTurn 27 = .ok (.getfield 9, 3) := by decide +kernel
theorem dX0_takeTurn_30 : decode cX0_takeTurn 30 = .ok (.getfield 93, 3) := by decide +kernel
theorem dX0_takeTurn_33 : decode cX0_takeTurn 33 = .ok (.iload_n 1, 1) := by decide +kernel
theorem dX0_takeTurn_34 : decode cX0_takeTurn 34 = .ok (.iconst 0, 1) := by decide +kernel
theorem dX0_takeTurn_35 : decode cX0_takeTurn 35 = .ok (.iastore, 1) := by decide +kernel
theorem dX0_takeTurn_36 : decode cX0_takeTurn 36 = .ok (.return_, 1) := by decide +kernel
theorem dX0_takeTurn_37 : decode cX0_takeTurn 37 = .ok (.aload_n 0, 1) := by decide +kernel
theorem dX0_takeTurn_38 : decode cX0_takeTurn 38 = .ok (.getfield 102, 3) := by decide +kernel
theorem dX0_takeTurn_41 : decode cX0_takeTurn 41 = .ok (.iload_n 1, 1) := by decide +kernel
theorem dX0_takeTurn_42 : decode cX0_takeTurn 42 = .ok (.invokestatic 113, 3) := by decide +kernel
theorem dX0_takeTurn_45 : decode cX0_takeTurn 45 = .ok (.ifCond .eq 4, 3) := by decide +kernel
theorem dX0_takeTurn_48 : decode cX0_takeTurn 48 = .ok (.return_, 1) := by decide +kernel
theorem dX0_takeTurn_49 : decode cX0_takeTurn 49 = .ok (.aload_n 0, 1) := by decide +kernel
theorem dX0_takeTurn_50 : decode cX0_takeTurn 50 = .ok (.getfield 15, 3) := by decide +kernel
theorem dX0_takeTurn_53 : decode cX0_takeTurn 53 = .ok (.iload_n 2, 1) := by decide +kernel
theorem dX0_takeTurn_54 : decode cX0_takeTurn 54 = .ok (.aload_n 0, 1) := by decide +kernel
theorem dX0_takeTurn_55 : decode cX0_takeTurn 55 = .ok (.getfield 9, 3) := by decide +kernel
theorem dX0_takeTurn_58 : decode cX0_takeTurn 58 = .ok (.getfield 42, 3) := by decide +kernel
theorem dX0_takeTurn_61 : decode cX0_takeTurn 61 = .ok (.invokevirtual 79, 3) := by decide +kernel
theorem dX0_takeTurn_64 : decode cX0_takeTurn 64 = .ok (.astore 4, 2) := by decide +kernel
theorem dX0_takeTurn_66 : decode cX0_takeTurn 66 = .ok (.aload 4, 2) := by decide +kernel
theorem dX0_takeTurn_68 : decode cX0_takeTurn 68 = .ok (.iload_n 3, 1) := by decide +kernel
theorem dX0_takeTurn_69 : decode cX0_takeTurn 69 = .ok (.aload_n 0, 1) := by decide +kernel
theorem dX0_takeTurn_70 : decode cX0_takeTurn 70 = .ok (.getfield 9, 3) := by decide +kernel
theorem dX0_takeTurn_73 : decode cX0_takeTurn 73 = .ok (.getfield 42, 3) := by decide +kernel
theorem dX0_takeTurn_76 : decode cX0_takeTurn 76 = .ok (.invokevirtual 117, 3) := by decide +kernel
theorem dX0_takeTurn_79 : decode cX0_takeTurn 79 = .ok (.istore 5, 2) := by decide +kernel
theorem dX0_takeTurn_81 : decode cX0_takeTurn 81 = .ok (.iload 5, 2) := by decide +kernel
theorem dX0_takeTurn_83 : decode cX0_takeTurn 83 = .ok (.iconst (-1), 1) := by decide +kernel
theorem dX0_takeTurn_84 : decode cX0_takeTurn 84 = .ok (.if_icmp .ne 9, 3) := by decide +kernel
theorem dX0_takeTurn_87 : decode cX0_takeTurn 87 = .ok (.aload_n 0, 1) := by decide +kernel
theorem dX0_takeTurn_88 : decode cX0_takeTurn 88 = .ok (.iload_n 1, 1) := by decide +kernel
theorem dX0_takeTurn_89 : decode cX0_takeTurn 89 = .ok (.invokevirtual 121, 3) := by decide +kernel
theorem dX0_takeTurn_92 : decode cX0_takeTurn 92 = .ok (.return_, 1) := by decide +kernel
theorem dX0_takeTurn_93 : decode cX0_takeTurn 93 = .ok (.aload_n 0, 1) := by decide +kernel
theorem dX0_takeTurn_94 : decode cX0_takeTurn 94 = .ok (.iload_n 3, 1) := by decide +kernel
theorem dX0_takeTurn_95 : decode cX0_takeTurn 95 = .ok (.iload 5, 2) := by decide +kernel
theorem dX0_takeTurn_97 : decode cX0_takeTurn 97 = .ok (.invokestatic 124, 3) := by decide +kernel
theorem dX0_takeTurn_100 : decode cX0_takeTurn 100 = .ok (.invokevirtual 32, 3) := by decide +kernel
theorem dX0_takeTurn_103 : decode cX0_takeTurn 103 = .ok (.istore 6, 2) := by decide +kernel
theorem dX0_takeTurn_105 : decode cX0_takeTurn 105 = .ok (.iload 6, 2) := by decide +kernel
theorem dX0_takeTurn_107 : decode cX0_takeTurn 107 = .ok (.iconst (-1), 1) := by decide +kernel
theorem dX0_takeTurn_108 : decode cX0_takeTurn 108 = .ok (.if_icmp .eq 13, 3) := by decide +kernel
theorem dX0_takeTurn_111 : decode cX0_takeTurn 111 = .ok (.aload_n 0, 1) := by decide +kernel
theorem dX0_takeTurn_112 : decode cX0_takeTurn 112 = .ok (.iload 6, 2) := by decide +kernel
theorem dX0_takeTurn_114 : decode cX0_takeTurn 114 = .ok (.iload_n 1, 1) := by decide +kernel
theorem dX0_takeTurn_115 : decode cX0_takeTurn 115 = .ok (.invokevirtual 127, 3) := by decide +kernel
theorem dX0_takeTurn_118 : decode cX0_takeTurn 118 = .ok (.ifCond .eq 11, 3) := by decide +kernel
theorem dX0_takeTurn_121 : decode cX0_takeTurn 121 = .ok (.aload_n 0, 1) := by decide +kernel
theorem dX0_takeTurn_122 : decode cX0_takeTurn 122 = .ok (.iload_n 1, 1) := by decide +kernel
theorem dX0_takeTurn_123 : decode cX0_takeTurn 123 = .ok (.iload 5, 2) := by decide +kernel
theorem dX0_takeTurn_125 : decode cX0_takeTurn 125 = .ok (.invokevirtual 130, 3) := by decide +kernel
theorem dX0_takeTurn_128 : decode cX0_takeTurn 128 = .ok (.return_, 1) := by decide +kernel
theorem dX0_takeTurn_129 : decode cX0_takeTurn 129 = .ok (.aload_n 0, 1) := by decide +kernel
theorem dX0_takeTurn_130 : decode cX0_takeTurn 130 = .ok (.iload_n 1, 1) := by decide +kernel
theorem dX0_takeTurn_131 : decode cX0_takeTurn 131 = .ok (.aload 4, 2) := by decide +kernel
theorem dX0_takeTurn_133 : decode cX0_takeTurn 133 = .ok (.invokevirtual 134, 3) := by decide +kernel
theorem dX0_takeTurn_136 : decode cX0_takeTurn 136 = .ok (.istore 7, 2) := by decide +kernel
theorem dX0_takeTurn_138 : decode cX0_takeTurn 138 = .ok (.iload 7, 2) := by decide +kernel
theorem dX0_takeTurn_140 : decode cX0_takeTurn 140 = .ok (.iconst (-1), 1) := by decide +kernel
theorem dX0_takeTurn_141 : decode cX0_takeTurn 141 = .ok (.if_icmp .ne 9, 3) := by decide +kernel
theorem dX0_takeTurn_144 : decode cX0_takeTurn 144 = .ok (.aload_n 0, 1) := by decide +kernel
theorem dX0_takeTurn_145 : decode cX0_takeTurn 145 = .ok (.iload_n 1, 1) := by decide +kernel
theorem dX0_takeTurn_146 : decode cX0_takeTurn 146 = .ok (.invokevirtual 121, 3) := by decide +kernel
theorem dX0_takeTurn_149 : decode cX0_takeTurn 149 = .ok (.return_, 1) := by decide +kernel
theorem dX0_takeTurn_150 : decode cX0_takeTurn 150 = .ok (.aload_n 0, 1) := by decide +kernel
theorem dX0_takeTurn_151 : decode cX0_takeTurn 151 = .ok (.iload_n 1, 1) := by decide +kernel
theorem dX0_takeTurn_152 : decode cX0_takeTurn 152 = .ok (.iload 7, 2) := by decide +kernel
theorem dX0_takeTurn_154 : decode cX0_takeTurn 154 = .ok (.invokevirtual 130, 3) := by decide +kernel
theorem dX0_takeTurn_157 : decode cX0_takeTurn 157 = .ok (.aload_n 0, 1) := by decide +kernel
theorem dX0_takeTurn_158 : decode cX0_takeTurn 158 = .ok (.getfield 9, 3) := by decide +kernel
theorem dX0_takeTurn_161 : decode cX0_takeTurn 161 = .ok (.getfield 99, 3) := by decide +kernel
theorem dX0_takeTurn_164 : decode cX0_takeTurn 164 = .ok (.iconst 3, 1) := by decide +kernel
theorem dX0_takeTurn_165 : decode cX0_takeTurn 165 = .ok (.dup2, 1) := by decide +kernel
theorem dX0_takeTurn_166 : decode cX0_takeTurn 166 = .ok (.iaload, 1) := by decide +kernel
theorem dX0_takeTurn_167 : decode cX0_takeTurn 167 = .ok (.iconst 1, 1) := by decide +kernel
theorem dX0_takeTurn_168 : decode cX0_takeTurn 168 = .ok (.iadd, 1) := by decide +kernel
theorem dX0_takeTurn_169 : decode cX0_takeTurn 169 = .ok (.iastore, 1) := by decide +kernel
theorem dX0_takeTurn_170 : decode cX0_takeTurn 170 = .ok (.return_, 1) := by decide +kernel
theorem dX0_delay_0 : decode cX0_delay 0 = .ok (.aload_n 0, 1) := by decide +kernel
theorem dX0_delay_1 : decode cX0_delay 1 = .ok (.getfield 9, 3) := by decide +kernel
theorem dX0_delay_4 : decode cX0_delay 4 = .ok (.getfield 93, 3) := by decide +kernel
theorem dX0_delay_7 : decode cX0_delay 7 = .ok (.iload_n 1, 1) := by decide +kernel
theorem dX0_delay_8 : decode cX0_delay 8 = .ok (.dup2, 1) := by decide +kernel
theorem dX0_delay_9 : decode cX0_delay 9 = .ok (.iaload, 1) := by decide +kernel
theorem dX0_delay_10 : decode cX0_delay 10 = .ok (.iconst 1, 1) := by decide +kernel
theorem dX0_delay_11 : decode cX0_delay 11 = .ok (.iadd, 1) := by decide +kernel
theorem dX0_delay_12 : decode cX0_delay 12 = .ok (.iastore, 1) := by decide +kernel
theorem dX0_delay_13 : decode cX0_delay 13 = .ok (.aload_n 0, 1) := by decide +kernel
theorem dX0_delay_14 : decode cX0_delay 14 = .ok (.getfield 9, 3) := by decide +kernel
theorem dX0_delay_17 : decode cX0_delay 17 = .ok (.getfield 99, 3) := by decide +kernel
theorem dX0_delay_20 : decode cX0_delay 20 = .ok (.iconst 4, 1) := by decide +kernel
theorem dX0_delay_21 : decode cX0_delay 21 = .ok (.dup2, 1) := by decide +kernel
theorem dX0_delay_22 : decode cX0_delay 22 = .ok (.iaload, 1) := by decide +kernel
theorem dX0_delay_23 : decode cX0_delay 23 = .ok (.iconst 1, 1) := by decide +kernel
theorem dX0_delay_24 : decode cX0_delay 24 = .ok (.iadd, 1) := by decide +kernel
theorem dX0_delay_25 : decode cX0_delay 25 = .ok (.iastore, 1) := by decide +kernel
theorem dX0_delay_26 : decode cX0_delay 26 = .ok (.return_, 1) := by decide +kernel
theorem dX0_advance_0 : decode cX0_advance 0 = .ok (.aload_n 0, 1) := by decide +kernel
theorem dX0_advance_1 : decode cX0_advance 1 = .ok (.iload_n 1, 1) := by decide +kernel
theorem dX0_advance_2 : decode cX0_advance 2 = .ok (.iload_n 2, 1) := by decide +kernel
theorem dX0_advance_3 : decode cX0_advance 3 = .ok (.invokevirtual 138, 3) := by decide +kernel
theorem dX0_advance_6 : decode cX0_advance 6 = .ok (.aload_n 0, 1) := by decide +kernel
theorem dX0_advance_7 : decode cX0_advance 7 = .ok (.getfield 9, 3) := by decide +kernel
theorem dX0_advance_10 : decode cX0_advance 10 = .ok (.getfield 93, 3) := by decide +kernel
theorem dX0_advance_13 : decode cX0_advance 13 = .ok (.iload_n 1, 1) := by decide +kernel
theorem dX0_advance_14 : decode cX0_advance 14 = .ok (.iconst 0, 1) := by decide +kernel
theorem dX0_advance_15 : decode cX0_advance 15 = .ok (.iastore, 1) := by decide +kernel
theorem dX0_advance_16 : decode cX0_advance 16 = .ok (.aload_n 0, 1) := by decide +kernel
theorem dX0_advance_17 : decode cX0_advance 17 = .ok (.getfield 9, 3) := by decide +kernel
theorem dX0_advance_20 : decode cX0_advance 20 = .ok (.getfield 99, 3) := by decide +kernel
theorem dX0_advance_23 : decode cX0_advance 23 = .ok (.iconst 1, 1) := by decide +kernel
theorem dX0_advance_24 : decode cX0_advance 24 = .ok (.dup2, 1) := by decide +kernel
theorem dX0_advance_25 : decode cX0_advance 25 = .ok (.iaload, 1) := by decide +kernel
theorem dX0_advance_26 : decode cX0_advance 26 = .ok (.iconst 1, 1) := by decide +kernel
theorem dX0_advance_27 : decode cX0_advance 27 = .ok (.iadd, 1) := by decide +kernel
theorem dX0_advance_28 : decode cX0_advance 28 = .ok (.iastore, 1) := by decide +kernel
theorem dX0_advance_29 : decode cX0_advance 29 = .ok (.return_, 1) := by decide +kernel
theorem dX0_shift_0 : decode cX0_shift 0 = .ok (.aload_n 0, 1) := by decide +kernel
theorem dX0_shift_1 : decode cX0_shift 1 = .ok (.getfield 9, 3) := by decide +kernel
theorem dX0_shift_4 : decode cX0_shift 4 = .ok (.getfield 19, 3) := by decide +kernel
theorem dX0_shift_7 : decode cX0_shift 7 = .ok (.iload_n 1, 1) := by decide +kernel
theorem dX0_shift_8 : decode cX0_shift 8 = .ok (.iaload, 1) := by decide +kernel
theorem dX0_shift_9 : decode cX0_shift 9 = .ok (.iload_n 2, 1) := by decide +kernel
theorem dX0_shift_10 : decode cX0_shift 10 = .ok (.invokestatic 124, 3) := by decide +kernel
theorem dX0_shift_13 : decode cX0_shift 13 = .ok (.istore_n 3, 1) := by decide +kernel
theorem dX0_shift_14 : decode cX0_shift 14 = .ok (.iload_n 3, 1) := by decide +kernel
theorem dX0_shift_15 : decode cX0_shift 15 = .ok (.iconst (-1), 1) := by decide +kernel
theorem dX0_shift_16 : decode cX0_shift 16 = .ok (.if_icmp .eq 36, 3) := by decide +kernel
theorem dX0_shift_19 : decode cX0_shift 19 = .ok (.aload_n 0, 1) := by decide +kernel
theorem dX0_shift_20 : decode cX0_shift 20 = .ok (.getfield 9, 3) := by decide +kernel
theorem dX0_shift_23 : decode cX0_shift 23 = .ok (.getfield 19, 3) := by decide +kernel
theorem dX0_shift_26 : decode cX0_shift 26 = .ok (.iload_n 1, 1) := by decide +kernel
theorem dX0_shift_27 : decode cX0_shift 27 = .ok (.iload_n 3, 1) := by decide +kernel
theorem dX0_shift_28 : decode cX0_shift 28 = .ok (.iastore, 1) := by decide +kernel
theorem dX0_shift_29 : decode cX0_shift 29 = .ok (.aload_n 0, 1) := by decide +kernel
theorem dX0_shift_30 : decode cX0_shift 30 = .ok (.getfield 9, 3) := by decide +kernel
theorem dX0_shift_33 : decode cX0_shift 33 = .ok (.getfield 70, 3) := by decide +kernel
theorem dX0_shift_36 : decode cX0_shift 36 = .ok (.iload_n 1, 1) := by decide +kernel
theorem dX0_shift_37 : decode cX0_shift 37 = .ok (.iload_n 2, 1) := by decide +kernel
theorem dX0_shift_38 : decode cX0_shift 38 = .ok (.iastore, 1) := by decide +kernel
theorem dX0_shift_39 : decode cX0_shift 39 = .ok (.aload_n 0, 1) := by decide +kernel
theorem dX0_shift_40 : decode cX0_shift 40 = .ok (.getfield 9, 3) := by decide +kernel
theorem dX0_shift_43 : decode cX0_shift 43 = .ok (.getfield 141, 3) := by decide +kernel
theorem dX0_shift_46 : decode cX0_shift 46 = .ok (.iload_n 3, 1) := by decide +kernel
theorem dX0_shift_47 : decode cX0_shift 47 = .ok (.dup2, 1) := by decide +kernel
theorem dX0_shift_48 : decode cX0_shift 48 = .ok (.iaload, 1) := by decide +kernel
theorem dX0_shift_49 : decode cX0_shift 49 = .ok (.iconst 1, 1) := by decide +kernel
theorem dX0_shift_50 : decode cX0_shift 50 = .ok (.iadd, 1) := by decide +kernel
theorem dX0_shift_51 : decode cX0_shift 51 = .ok (.iastore, 1) := by decide +kernel
theorem dX0_shift_52 : decode cX0_shift 52 = .ok (.return_, 1) := by decide +kernel
theorem dX0_pushAside_0 : decode cX0_pushAside 0 = .ok (.aload_n 0, 1) := by decide +kernel
theorem dX0_pushAside_1 : decode cX0_pushAside 1 = .ok (.getfield 9, 3) := by decide +kernel
theorem dX0_pushAside_4 : decode cX0_pushAside 4 = .ok (.getfield 106, 3) := by decide +kernel
theorem dX0_pushAside_7 : decode cX0_pushAside 7 = .ok (.iload_n 1, 1) := by decide +kernel
theorem dX0_pushAside_8 : decode cX0_pushAside 8 = .ok (.iaload, 1) := by decide +kernel
theorem dX0_pushAside_9 : decode cX0_pushAside 9 = .ok (.aload_n 0, 1) := by decide +kernel
theorem dX0_pushAside_10 : decode cX0_pushAside 10 = .ok (.getfield 9, 3) := by decide +kernel
theorem dX0_pushAside_13 : decode cX0_pushAside 13 = .ok (.getfield 106, 3) := by decide +kernel
theorem dX0_pushAside_16 : decode cX0_pushAside 16 = .ok (.iload_n 2, 1) := by decide +kernel
theorem dX0_pushAside_17 : decode cX0_pushAside 17 = .ok (.iaload, 1) := by decide +kernel
theorem dX0_pushAside_18 : decode cX0_pushAside 18 = .ok (.if_icmp .ge 14, 3) := by decide +kernel
theorem dX0_pushAside_21 : decode cX0_pushAside 21 = .ok (.aload_n 0, 1) := by decide +kernel
theorem dX0_pushAside_22 : decode cX0_pushAside 22 = .ok (.getfield 102, 3) := by decide +kernel
theorem dX0_pushAside_25 : decode cX0_pushAside 25 = .ok (.iload_n 1, 1) := by decide +kernel
theorem dX0_pushAside_26 : decode cX0_pushAside 26 = .ok (.invokestatic 113, 3) := by decide +kernel
theorem dX0_pushAside_29 : decode cX0_pushAside 29 = .ok (.ifCond .eq 5, 3) := by decide +kernel
theorem dX0_pushAside_32 : decode cX0_pushAside 32 = .ok (.iconst 0, 1) := by decide +kernel
theorem dX0_pushAside_33 : decode cX0_pushAside 33 = .ok (.ireturn, 1) := by decide +kernel
theorem dX0_pushAside_34 : decode cX0_pushAside 34 = .ok (.aload_n 0, 1) := by decide +kernel
theorem dX0_pushAside_35 : decode cX0_pushAside 35 = .ok (.getfield 15, 3) := by decide +kernel
theorem dX0_pushAside_38 : decode cX0_pushAside 38 = .ok (.aload_n 0, 1) := by decide +kernel
theorem dX0_pushAside_39 : decode cX0_pushAside 39 = .ok (.iload_n 1, 1) := by decide +kernel
theorem dX0_pushAside_40 : decode cX0_pushAside 40 = .ok (.invokevirtual 76, 3) := by decide +kernel
theorem dX0_pushAside_43 : decode cX0_pushAside 43 = .ok (.aload_n 0, 1) := by decide +kernel
theorem dX0_pushAside_44 : decode cX0_pushAside 44 = .ok (.getfield 9, 3) := by decide +kernel
theorem dX0_pushAside_47 : decode cX0_pushAside 47 = .ok (.getfield 42, 3) := by decide +kernel
theorem dX0_pushAside_50 : decode cX0_pushAside 50 = .ok (.invokevirtual 79, 3) := by decide +kernel
theorem dX0_pushAside_53 : decode cX0_pushAside 53 = .ok (.astore_n 3, 1) := by decide +kernel
theorem dX0_pushAside_54 : decode cX0_pushAside 54 = .ok (.aload_n 0, 1) := by decide +kernel
theorem dX0_pushAside_55 : decode cX0_pushAside 55 = .ok (.aload_n 0, 1) := by decide +kernel
theorem dX0_pushAside_56 : decode cX0_pushAside 56 = .ok (.getfield 9, 3) := by decide +kernel
theorem dX0_pushAside_59 : decode cX0_pushAside 59 = .ok (.getfield 19, 3) := by decide +kernel
theorem dX0_pushAside_62 : decode cX0_pushAside 62 = .ok (.iload_n 1, 1) := by decide +kernel
theorem dX0_pushAside_63 : decode cX0_pushAside 63 = .ok (.iaload, 1) := by decide +kernel
theorem dX0_pushAside_64 : decode cX0_pushAside 64 = .ok (.aload_n 3, 1) := by decide +kernel
theorem dX0_pushAside_65 : decode cX0_pushAside 65 = .ok (.sipush 9999, 3) := by decide +kernel
theorem dX0_pushAside_68 : decode cX0_pushAside 68 = .ok (.invokevirtual 144, 3) := by decide +kernel
theorem dX0_pushAside_71 : decode cX0_pushAside 71 = .ok (.istore 4, 2) := by decide +kernel
theorem dX0_pushAside_73 : decode cX0_pushAside 73 = .ok (.iload 4, 2) := by decide +kernel
theorem dX0_pushAside_75 : decode cX0_pushAside 75 = .ok (.iconst (-1), 1) := by decide +kernel
theorem dX0_pushAside_76 : decode cX0_pushAside 76 = .ok (.if_icmp .ne 5, 3) := by decide +kernel
theorem dX0_pushAside_79 : decode cX0_pushAside 79 = .ok (.iconst 0, 1) := by decide +kernel
theorem dX0_pushAside_80 : decode cX0_pushAside 80 = .ok (.ireturn, 1) := by decide +kernel
theorem dX0_pushAside_81 : decode cX0_pushAside 81 = .ok (.aload_n 0, 1) := by decide +kernel
theorem dX0_pushAside_82 : decode cX0_pushAside 82 = .ok (.iload_n 1, 1) := by decide +kernel
theorem dX0_pushAside_83 : decode cX0_pushAside 83 = .ok (.iload 4, 2) := by decide +kernel
theorem dX0_pushAside_85 : decode cX0_pushAside 85 = .ok (.invokevirtual 138, 3) := by decide +kernel
theorem dX0_pushAside_88 : decode cX0_pushAside 88 = .ok (.aload_n 0, 1) := by decide +kernel
theorem dX0_pushAside_89 : decode cX0_pushAside 89 = .ok (.dup, 1) := by decide +kernel
theorem dX0_pushAside_90 : decode cX0_pushAside 90 = .ok (.getfield 102, 3) := by decide +kernel
theorem dX0_pushAside_93 : decode cX0_pushAside 93 = .ok (.iconst 1, 1) := by decide +kernel
theorem dX0_pushAside_94 : decode cX0_pushAside 94 = .ok (.iload_n 1, 1) := by decide +kernel
theorem dX0_pushAside_95 : decode cX0_pushAside 95 = .ok (.ishl, 1) := by decide +kernel
theorem dX0_pushAside_96 : decode cX0_pushAside 96 = .ok (.ior, 1) := by decide +kernel
theorem dX0_pushAside_97 : decode cX0_pushAside 97 = .ok (.putfield 102, 3) := by decide +kernel
theorem dX0_pushAside_100 : decode cX0_pushAside 100 = .ok (.aload_n 0, 1) := by decide +kernel
theorem dX0_pushAside_101 : decode cX0_pushAside 101 = .ok (.getfield 9, 3) := by decide +kernel
theorem dX0_pushAside_104 : decode cX0_pushAside 104 = .ok (.getfield 99, 3) := by decide +kernel
theorem dX0_pushAside_107 : decode cX0_pushAside 107 = .ok (.iconst 2, 1) := by decide +kernel
theorem dX0_pushAside_108 : decode cX0_pushAside 108 = .ok (.dup2, 1) := by decide +kernel
theorem dX0_pushAside_109 : decode cX0_pushAside 109 = .ok (.iaload, 1) := by decide +kernel
theorem dX0_pushAside_110 : decode cX0_pushAside 110 = .ok (.iconst 1, 1) := by decide +kernel
theorem dX0_pushAside_111 : decode cX0_pushAside 111 = .ok (.iadd, 1) := by decide +kernel
theorem dX0_pushAside_112 : decode cX0_pushAside 112 = .ok (.iastore, 1) := by decide +kernel
theorem dX0_pushAside_113 : decode cX0_pushAside 113 = .ok (.iconst 1, 1) := by decide +kernel
theorem dX0_pushAside_114 : decode cX0_pushAside 114 = .ok (.ireturn, 1) := by decide +kernel
theorem dX0_detourOf_0 : decode cX0_detourOf 0 = .ok (.aload_n 0, 1) := by decide +kernel
theorem dX0_detourOf_1 : decode cX0_detourOf 1 = .ok (.getfield 9, 3) := by decide +kernel
theorem dX0_detourOf_4 : decode cX0_detourOf 4 = .ok (.getfield 93, 3) := by decide +kernel
theorem dX0_detourOf_7 : decode cX0_detourOf 7 = .ok (.iload_n 1, 1) := by decide +kernel
theorem dX0_detourOf_8 : decode cX0_detourOf 8 = .ok (.iaload, 1) := by decide +kernel
theorem dX0_detourOf_9 : decode cX0_detourOf 9 = .ok (.aload_n 0, 1) := by decide +kernel
theorem dX0_detourOf_10 : decode cX0_detourOf 10 = .ok (.getfield 9, 3) := by decide +kernel
theorem dX0_detourOf_13 : decode cX0_detourOf 13 = .ok (.getfield 148, 3) := by decide +kernel
theorem dX0_detourOf_16 : decode cX0_detourOf 16 = .ok (.if_icmp .ge 5, 3) := by decide +kernel
theorem dX0_detourOf_19 : decode cX0_detourOf 19 = .ok (.iconst (-1), 1) := by decide +kernel
theorem dX0_detourOf_20 : decode cX0_detourOf 20 = .ok (.ireturn, 1) := by decide +kernel
theorem dX0_detourOf_21 : decode cX0_detourOf 21 = .ok (.aload_n 0, 1) := by decide +kernel
theorem dX0_detourOf_22 : decode cX0_detourOf 22 = .ok (.getfield 9, 3) := by decide +kernel
theorem dX0_detourOf_25 : decode cX0_detourOf 25 = .ok (.getfield 19, 3) := by decide +kernel
theorem dX0_detourOf_28 : decode cX0_detourOf 28 = .ok (.iload_n 1, 1) := by decide +kernel
theorem dX0_detourOf_29 : decode cX0_detourOf 29 = .ok (.iaload, 1) := by decide +kernel
theorem dX0_detourOf_30 : decode cX0_detourOf 30 = .ok (.istore_n 3, 1) := by decide +kernel
theorem dX0_detourOf_31 : decode cX0_detourOf 31 = .ok (.aload_n 0, 1) := by decide +kernel
theorem dX0_detourOf_32 : decode cX0_detourOf 32 = .ok (.iload_n 3, 1) := by decide +kernel
theorem dX0_detourOf_33 : decode cX0_detourOf 33 = .ok (.aload_n 2, 1) := by decide +kernel
theorem dX0_detourOf_34 : decode cX0_detourOf 34 = .ok (.aload_n 2, 1) := by decide +kernel
theorem dX0_detourOf_35 : decode cX0_detourOf 35 = .ok (.iload_n 3, 1) := by decide +kernel
theorem dX0_detourOf_36 : decode cX0_detourOf 36 = .ok (.invokevirtual 85, 3) := by decide +kernel
theorem dX0_detourOf_39 : decode cX0_detourOf 39 = .ok (.iconst 2, 1) := by decide +kernel
theorem dX0_detourOf_40 : decode cX0_detourOf 40 = .ok (.iadd, 1) := by decide +kernel
theorem dX0_detourOf_41 : decode cX0_detourOf 41 = .ok (.invokevirtual 144, 3) := by decide +kernel
theorem dX0_detourOf_44 : decode cX0_detourOf 44 = .ok (.ireturn, 1) := by decide +kernel
theorem dX0_bestFreeDirection_0 : decode cX0_bestFreeDirection 0 = .ok (.iconst (-1), 1) := by decide +kernel
theorem dX0_bestFreeDirection_1 : decode cX0_bestFreeDirection 1 = .ok (.istore 4, 2) := by decide +kernel
theorem dX0_bestFreeDirection_3 : decode cX0_bestFreeDirection 3 = .ok (.iload_n 3, 1) := by decide +kernel
theorem dX0_bestFreeDirection_4 : decode cX0_bestFreeDirection 4 = .ok (.iconst 1, 1) := by decide +kernel
theorem dX0_bestFreeDirection_5 : decode cX0_bestFreeDirection 5 = .ok (.iadd, 1) := by decide +kernel
theorem dX0_bestFreeDirection_6 : decode cX0_bestFreeDirection 6 = .ok (.istore 5, 2) := by decide +kernel
theorem dX0_bestFreeDirection_8 : decode cX0_bestFreeDirection 8 = .ok (.iconst 0, 1) := by decide +kernel
theorem dX0_bestFreeDirection_9 : decode cX0_bestFreeDirection 9 = .ok (.istore 6, 2) := by decide +kernel
theorem dX0_bestFreeDirection_11 : decode cX0_bestFreeDirection 11 = .ok (.iload 6, 2) := by decide +kernel
theorem dX0_bestFreeDirection_13 : decode cX0_bestFreeDirection 13 = .ok (.iconst 4, 1) := by decide +kernel
theorem dX0_bestFreeDirection_14 : decode cX0_bestFreeDirection 14 = .ok (.if_icmp .ge 65, 3) := by decide +kernel
theorem dX0_bestFreeDirection_17 : decode cX0_bestFreeDirection 17 = .ok (.iload_n 1, 1) := by decide +kernel
theorem dX0_bestFreeDirection_18 : decode cX0_bestFreeDirection 18 = .ok (.iload 6, 2) := by decide +kernel
theorem dX0_bestFreeDirection_20 : decode cX0_bestFreeDirection 20 = .ok (.invokestatic 124, 3) := by decide +kernel
theorem dX0_bestFreeDirection_23 : decode cX0_bestFreeDirection 23 = .ok (.istore 7, 2) := by decide +kernel
theorem dX0_bestFreeDirection_25 : decode cX0_bestFreeDirection 25 = .ok (.aload_n 0, 1) := by decide +kernel
theorem dX0_bestFreeDirection_26 : decode cX0_bestFreeDirection 26 = .ok (.iload 7, 2) := by decide +kernel
theorem dX0_bestFreeDirection_28 : decode cX0_bestFreeDirection 28 = .ok (.invokevirtual 151, 3) := by decide +kernel
theorem dX0_bestFreeDirection_31 : decode cX0_bestFreeDirection 31 = .ok (.ifCond .eq 42, 3) := by decide +kernel
theorem dX0_bestFreeDirection_34 : decode cX0_bestFreeDirection 34 = .ok (.aload_n 2, 1) := by decide +kernel
theorem dX0_bestFreeDirection_35 : decode cX0_bestFreeDirection 35 = .ok (.iload 7, 2) := by decide +kernel
theorem dX0_bestFreeDirection_37 : decode cX0_bestFreeDirection 37 = .ok (.invokevirtual 85, 3) := by decide +kernel
theorem dX0_bestFreeDirection_40 : decode cX0_bestFreeDirection 40 = .ok (.istore 8, 2) := by decide +kernel
theorem dX0_bestFreeDirection_42 : decode cX0_bestFreeDirection 42 = .ok (.iload 8, 2) := by decide +kernel
theorem dX0_bestFreeDirection_44 : decode cX0_bestFreeDirection 44 = .ok (.iconst (-1), 1) := by decide +kernel
theorem dX0_bestFreeDirection_45 : decode cX0_bestFreeDirection 45 = .ok (.if_icmp .ne 9, 3) := by decide +kernel
theorem dX0_bestFreeDirection_48 : decode cX0_bestFreeDirection 48 = .ok (.sipush 9999, 3) := by decide +kernel
theorem dX0_bestFreeDirection_51 : decode cX0_bestFreeDirection 51 = .ok (.goto 5, 3) := by decide +kernel
theorem dX0_bestFreeDirection_54 : decode cX0_bestFreeDirection 54 = .ok (.iload 8, 2) := by decide +kernel
theorem dX0_bestFreeDirection_56 : decode cX0_bestFreeDirection 56 = .ok (.istore 8, 2) := by decide +kernel
theorem dX0_bestFreeDirection_58 : decode cX0_bestFreeDirection 58 = .ok (.iload 8, 2) := by decide +kernel
theorem dX0_bestFreeDirection_60 : decode cX0_bestFreeDirection 60 = .ok (.iload 5, 2) := by decide +kernel
theorem dX0_bestFreeDirection_62 : decode cX0_bestFreeDirection 62 = .ok (.if_icmp .ge 11, 3) := by decide +kernel
theorem dX0_bestFreeDirection_65 : decode cX0_bestFreeDirection 65 = .ok (.iload 6, 2) := by decide +kernel
theorem dX0_bestFreeDirection_67 : decode cX0_bestFreeDirection 67 = .ok (.istore 4, 2) := by decide +kernel
theorem dX0_bestFreeDirection_69 : decode cX0_bestFreeDirection 69 = .ok (.iload 8, 2) := by decide +kernel
theorem dX0_bestFreeDirection_71 : decode cX0_bestFreeDirection 71 = .ok (.istore 5, 2) := by decide +kernel
theorem dX0_bestFreeDirection_73 : decode cX0_bestFreeDirection 73 = .ok (.iinc 6 1, 3) := by decide +kernel
theorem dX0_bestFreeDirection_76 : decode cX0_bestFreeDirection 76 = .ok (.goto (-65), 3) := by decide +kernel
theorem dX0_bestFreeDirection_79 : decode cX0_bestFreeDirection 79 = .ok (.iload 4, 2) := by decide +kernel
theorem dX0_bestFreeDirection_81 : decode cX0_bestFreeDirection 81 = .ok (.ireturn, 1) := by decide +kernel
theorem dX0_jamFrom_0 : decode cX0_jamFrom 0 = .ok (.iload_n 2, 1) := by decide +kernel
theorem dX0_jamFrom_1 : decode cX0_jamFrom 1 = .ok (.iload_n 1, 1) := by decide +kernel
theorem dX0_jamFrom_2 : decode cX0_jamFrom 2 = .ok (.invokestatic 113, 3) := by decide +kernel
theorem dX0_jamFrom_5 : decode cX0_jamFrom 5 = .ok (.ifCond .ne 5, 3) := by decide +kernel
theorem dX0_jamFrom_8 : decode cX0_jamFrom 8 = .ok (.iconst 0, 1) := by decide +kernel
theorem dX0_jamFrom_9 : decode cX0_jamFrom 9 = .ok (.ireturn, 1) := by decide +kernel
theorem dX0_jamFrom_10 : decode cX0_jamFrom 10 = .ok (.iconst 1, 1) := by decide +kernel
theorem dX0_jamFrom_11 : decode cX0_jamFrom 11 = .ok (.iload_n 1, 1) := by decide +kernel
theorem dX0_jamFrom_12 : decode cX0_jamFrom 12 = .ok (.ishl, 1) := by decide +kernel
theorem dX0_jamFrom_13 : decode cX0_jamFrom 13 = .ok (.istore_n 3, 1) := by decide +kernel
theorem dX0_jamFrom_14 : decode cX0_jamFrom 14 = .ok (.iconst 1, 1) := by decide +kernel
theorem dX0_jamFrom_15 : decode cX0_jamFrom 15 = .ok (.istore 4, 2) := by decide +kernel
theorem dX0_jamFrom_17 : decode cX0_jamFrom 17 = .ok (.iload 4, 2) := by decide +kernel
theorem dX0_jamFrom_19 : decode cX0_jamFrom 19 = .ok (.bipush 16, 2) := by decide +kernel
theorem dX0_jamFrom_21 : decode cX0_jamFrom 21 = .ok (.if_icmp .ge 32, 3) := by decide +kernel
theorem dX0_jamFrom_24 : decode cX0_jamFrom 24 = .ok (.iload_n 3, 1) := by decide +kernel
theorem dX0_jamFrom_25 : decode cX0_jamFrom 25 = .ok (.aload_n 0, 1) := by decide +kernel
theorem dX0_jamFrom_26 : decode cX0_jamFrom 26 = .ok (.iload_n 3, 1) := by decide +kernel
theorem dX0_jamFrom_27 : decode cX0_jamFrom 27 = .ok (.invokevirtual 154, 3) := by decide +kernel
theorem dX0_jamFrom_30 : decode cX0_jamFrom 30 = .ok (.iload_n 2, 1) := by decide +kernel
theorem dX0_jamFrom_31 : decode cX0_jamFrom 31 = .ok (.iand, 1) := by decide +kernel
theorem dX0_jamFrom_32 : decode cX0_jamFrom 32 = .ok (.ior, 1) := by decide +kernel
theorem dX0_jamFrom_33 : decode cX0_jamFrom 33 = .ok (.istore 5, 2) := by decide +kernel
theorem dX0_jamFrom_35 : decode cX0_jamFrom 35 = .ok (.iload 5, 2) := by decide +kernel
theorem dX0_jamFrom_37 : decode cX0_jamFrom 37 = .ok (.iload_n 3, 1) := by decide +kernel
theorem dX0_jamFrom_38 : decode cX0_jamFrom 38 = .ok (.if_icmp .ne 6, 3) := by decide +kernel
theorem dX0_jamFrom_41 : decode cX0_jamFrom 41 = .ok (.goto 12, 3) := by decide +kernel
theorem dX0_jamFrom_44 : decode cX0_jamFrom 44 = .ok (.iload 5, 2) := by decide +kernel
theorem dX0_jamFrom_46 : decode cX0_jamFrom 46 = .ok (.istore_n 3, 1) := by decide +kernel
theorem dX0_jamFrom_47 : decode cX0_jamFrom 47 = .ok (.iinc 4 1, 3) := by decide +kernel
theorem dX0_jamFrom_50 : decode cX0_jamFrom 50 = .ok (.goto (-33), 3) := by decide +kernel
theorem dX0_jamFrom_53 : decode cX0_jamFrom 53 = .ok (.iload_n 3, 1) := by decide +kernel
theorem dX0_jamFrom_54 : decode cX0_jamFrom 54 = .ok (.iconst 1, 1) := by decide +kernel
theorem dX0_jamFrom_55 : decode cX0_jamFrom 55 = .ok (.iload_n 1, 1) := by decide +kernel
theorem dX0_jamFrom_56 : decode cX0_jamFrom 56 = .ok (.ishl, 1) := by decide +kernel
theorem dX0_jamFrom_57 : decode cX0_jamFrom 57 = .ok (.iconst 1, 1) := by decide +kernel
theorem dX0_jamFrom_58 : decode cX0_jamFrom 58 = .ok (.isub, 1) := by decide +kernel
theorem dX0_jamFrom_59 : decode cX0_jamFrom 59 = .ok (.iand, 1) := by decide +kernel
theorem dX0_jamFrom_60 : decode cX0_jamFrom 60 = .ok (.ifCond .ne 7, 3) := by decide +kernel
theorem dX0_jamFrom_63 : decode cX0_jamFrom 63 = .ok (.iconst 1, 1) := by decide +kernel
theorem dX0_jamFrom_64 : decode cX0_jamFrom 64 = .ok (.goto 4, 3) := by decide +kernel
theorem dX0_jamFrom_67 : decode cX0_jamFrom 67 = .ok (.iconst 0, 1) := by decide +kernel
theorem dX0_jamFrom_68 : decode cX0_jamFrom 68 = .ok (.istore 4, 2) := by decide +kernel
theorem dX0_jamFrom_70 : decode cX0_jamFrom 70 = .ok (.iload 4, 2) := by decide +kernel
theorem dX0_jamFrom_72 : decode cX0_jamFrom 72 = .ok (.ifCond .eq 15, 3) := by decide +kernel
theorem dX0_jamFrom_75 : decode cX0_jamFrom 75 = .ok (.iload_n 3, 1) := by decide +kernel
theorem dX0_jamFrom_76 : decode cX0_jamFrom 76 = .ok (.invokestatic 157, 3) := by decide +kernel
theorem dX0_jamFrom_79 : decode cX0_jamFrom 79 = .ok (.iconst 2, 1) := by decide +kernel
theorem dX0_jamFrom_80 : decode cX0_jamFrom 80 = .ok (.if_icmp .lt 7, 3) := by decide +kernel
theorem dX0_jamFrom_83 : decode cX0_jamFrom 83 = .ok (.iload_n 3, 1) := by decide +kernel
theorem dX0_jamFrom_84 : decode cX0_jamFrom 84 = .ok (.goto 4, 3) := by decide +kernel
theorem dX0_jamFrom_87 : decode cX0_jamFrom 87 = .ok (.iconst 0, 1) := by decide +kernel
theorem dX0_jamFrom_88 : decode cX0_jamFrom 88 = .ok (.ireturn, 1) := by decide +kernel
theorem dX0_jamNumber_0 : decode cX0_jamNumber 0 = .ok (.aload_n 0, 1) := by decide +kernel
theorem dX0_jamNumber_1 : decode cX0_jamNumber 1 = .ok (.invokevirtual 162, 3) := by decide +kernel
theorem dX0_jamNumber_4 : decode cX0_jamNumber 4 = .ok (.istore_n 2, 1) := by decide +kernel
theorem dX0_jamNumber_5 : decode cX0_jamNumber 5 = .ok (.iconst 0, 1) := by decide +kernel
theorem dX0_jamNumber_6 : decode cX0_jamNumber 6 = .ok (.istore_n 3, 1) := by decide +kernel
theorem dX0_jamNumber_7 : decode cX0_jamNumber 7 = .ok (.iconst 0, 1) := by decide +kernel
theorem dX0_jamNumber_8 : decode cX0_jamNumber 8 = .ok (.istore 4, 2) := by decide +kernel
theorem dX0_jamNumber_10 : decode cX0_jamNumber 10 = .ok (.iload 4, 2) := by decide +kernel
theorem dX0_jamNumber_12 : decode cX0_jamNumber 12 = .ok (.bipush 16, 2) := by decide +kernel
theorem dX0_jamNumber_14 : decode cX0_jamNumber 14 = .ok (.if_icmp .ge 34, 3) := by decide +kernel
theorem dX0_jamNumber_17 : decode cX0_jamNumber 17 = .ok (.aload_n 0, 1) := by decide +kernel
theorem dX0_jamNumber_18 : decode cX0_jamNumber 18 = .ok (.iload 4, 2) := by decide +kernel
theorem dX0_jamNumber_20 : decode cX0_jamNumber 20 = .ok (.iload_n 2, 1) := by decide +kernel
theorem dX0_jamNumber_21 : decode cX0_jamNumber 21 = .ok (.invokevirtual 166, 3) := by decide +kernel
theorem dX0_jamNumber_24 : decode cX0_jamNumber 24 = .ok (.istore 5, 2) := by decide +kernel
theorem dX0_jamNumber_26 : decode cX0_jamNumber 26 = .ok (.iload 5, 2) := by decide +kernel
theorem dX0_jamNumber_28 : decode cX0_jamNumber 28 = .ok (.ifCond .eq 14, 3) := by decide +kernel
theorem dX0_jamNumber_31 : decode cX0_jamNumber 31 = .ok (.iload_n 3, 1) := by decide +kernel
theorem dX0_jamNumber_32 : decode cX0_jamNumber 32 = .ok (.iload_n 1, 1) := by decide +kernel
theorem dX0_jamNumber_33 : decode cX0_jamNumber 33 = .ok (.if_icmp .ne 6, 3) := by decide +kernel
theorem dX0_jamNumber_36 : decode cX0_jamNumber 36 = .ok (.iload 5, 2) := by decide +kernel
theorem dX0_jamNumber_38 : decode cX0_jamNumber 38 = .ok (.ireturn, 1) := by decide +kernel
theorem dX0_jamNumber_39 : decode cX0_jamNumber 39 = .ok (.iinc 3 1, 3) := by decide +kernel
theorem dX0_jamNumber_42 : decode cX0_jamNumber 42 = .ok (.iinc 4 1, 3) := by decide +kernel
theorem dX0_jamNumber_45 : decode cX0_jamNumber 45 = .ok (.goto (-35), 3) := by decide +kernel
theorem dX0_jamNumber_48 : decode cX0_jamNumber 48 = .ok (.iconst 0, 1) := by decide +kernel
theorem dX0_jamNumber_49 : decode cX0_jamNumber 49 = .ok (.ireturn, 1) := by decide +kernel
theorem dX0_sumOfWaits_0 : decode cX0_sumOfWaits 0 = .ok (.iconst 0, 1) := by decide +kernel
theorem dX0_sumOfWaits_1 : decode cX0_sumOfWaits 1 = .ok (.istore_n 2, 1) := by decide +kernel
theorem dX0_sumOfWaits_2 : decode cX0_sumOfWaits 2 = .ok (.iconst 0, 1) := by decide +kernel
theorem dX0_sumOfWaits_3 : decode cX0_sumOfWaits 3 = .ok (.istore_n 3, 1) := by decide +kernel
theorem dX0_sumOfWaits_4 : decode cX0_sumOfWaits 4 = .ok (.iload_n 3, 1) := by decide +kernel
theorem dX0_sumOfWaits_5 : decode cX0_sumOfWaits 5 = .ok (.bipush 16, 2) := by decide +kernel
theorem dX0_sumOfWaits_7 : decode cX0_sumOfWaits 7 = .ok (.if_icmp .ge 29, 3) := by decide +kernel
theorem dX0_sumOfWaits_10 : decode cX0_sumOfWaits 10 = .ok (.iload_n 1, 1) := by decide +kernel
theorem dX0_sumOfWaits_11 : decode cX0_sumOfWaits 11 = .ok (.iload_n 3, 1) := by decide +kernel
theorem dX0_sumOfWaits_12 : decode cX0_sumOfWaits 12 = .ok (.invokestatic 113, 3) := by decide +kernel
theorem dX0_sumOfWaits_15 : decode cX0_sumOfWaits 15 = .ok (.ifCond .eq 15, 3) := by decide +kernel
theorem dX0_sumOfWaits_18 : decode cX0_sumOfWaits 18 = .ok (.iload_n 2, 1) := by decide +kernel
theorem dX0_sumOfWaits_19 : decode cX0_sumOfWaits 19 = .ok (.aload_n 0, 1) := by decide +kernel
theorem dX0_sumOfWaits_20 : decode cX0_sumOfWaits 20 = .ok (.getfield 9, 3) := by decide +kernel
theorem dX0_sumOfWaits_23 : decode cX0_sumOfWaits 23 = .ok (.getfield 93, 3) := by decide +kernel
theorem dX0_sumOfWaits_26 : decode cX0_sumOfWaits 26 = .ok (.iload_n 3, 1) := by decide +kernel
theorem dX0_sumOfWaits_27 : decode cX0_sumOfWaits 27 = .ok (.iaload, 1) := by decide +kernel
theorem dX0_sumOfWaits_28 : decode cX0_sumOfWaits 28 = .ok (.iadd, 1) := by decide +kernel
theorem dX0_sumOfWaits_29 : decode cX0_sumOfWaits 29 = .ok (.istore_n 2, 1) := by decide +kernel
theorem dX0_sumOfWaits_30 : decode cX0_sumOfWaits 30 = .ok (.iinc 3 1, 3) := by decide +kernel
theorem dX0_sumOfWaits_33 : decode cX0_sumOfWaits 33 = .ok (.goto (-29), 3) := by decide +kernel
theorem dX0_sumOfWaits_36 : decode cX0_sumOfWaits 36 = .ok (.iload_n 2, 1) := by decide +kernel
theorem dX0_sumOfWaits_37 : decode cX0_sumOfWaits 37 = .ok (.ireturn, 1) := by decide +kernel
theorem dX0_freeCellsAround_0 : decode cX0_freeCellsAround 0 = .ok (.iconst 0, 1) := by decide +kernel
theorem dX0_freeCellsAround_1 : decode cX0_freeCellsAround 1 = .ok (.istore_n 2, 1) := by decide +kernel
theorem dX0_freeCellsAround_2 : decode cX0_freeCellsAround 2 = .ok (.iconst 0, 1) := by decide +kernel
theorem dX0_freeCellsAround_3 : decode cX0_freeCellsAround 3 = .ok (.istore_n 3, 1) := by decide +kernel
theorem dX0_freeCellsAround_4 : decode cX0_freeCellsAround 4 = .ok (.iload_n 3, 1) := by decide +kernel
theorem dX0_freeCellsAround_5 : decode cX0_freeCellsAround 5 = .ok (.sipush 140, 3) := by decide +kernel
theorem dX0_freeCellsAround_8 : decode cX0_freeCellsAround 8 = .ok (.if_icmp .ge 30, 3) := by decide +kernel
theorem dX0_freeCellsAround_11 : decode cX0_freeCellsAround 11 = .ok (.aload_n 0, 1) := by decide +kernel
theorem dX0_freeCellsAround_12 : decode cX0_freeCellsAround 12 = .ok (.iload_n 3, 1) := by decide +kernel
theorem dX0_freeCellsAround_13 : decode cX0_freeCellsAround 13 = .ok (.invokevirtual 151, 3) := by decide +kernel
theorem dX0_freeCellsAround_16 : decode cX0_freeCellsAround 16 = .ok (.ifCond .eq 16, 3) := by decide +kernel
theorem dX0_freeCellsAround_19 : decode cX0_freeCellsAround 19 = .ok (.aload_n 0, 1) := by decide +kernel
theorem dX0_freeCellsAround_20 : decode cX0_freeCellsAround 20 = .ok (.iload_n 3, 1) := by decide +kernel
theorem dX0_freeCellsAround_21 : decode cX0_freeCellsAround 21 = .ok (.invokevirtual 169, 3) := by decide +kernel
theorem dX0_freeCellsAround_24 : decode cX0_freeCellsAround 24 = .ok (.iload_n 1, 1) := by decide +kernel
theorem dX0_freeCellsAround_25 : decode cX0_freeCellsAround 25 = .ok (.iand, 1) := by decide +kernel
theorem dX0_freeCellsAround_26 : decode cX0_freeCellsAround 26 = .ok (.ifCond .eq 6, 3) := by decide +kernel
theorem dX0_freeCellsAround_29 : decode cX0_freeCellsAround 29 = .ok (.iinc 2 1, 3) := by decide +kernel
theorem dX0_freeCellsAround_32 : decode cX0_freeCellsAround 32 = .ok (.iinc 3 1, 3) := by decide +kernel
theorem dX0_freeCellsAround_35 : decode cX0_freeCellsAround 35 = .ok (.goto (-31), 3) := by decide +kernel
theorem dX0_freeCellsAround_38 : decode cX0_freeCellsAround 38 = .ok (.iload_n 2, 1) := by decide +kernel
theorem dX0_freeCellsAround_39 : decode cX0_freeCellsAround 39 = .ok (.ireturn, 1) := by decide +kernel
theorem dX0_neighborsOf_0 : decode cX0_neighborsOf 0 = .ok (.iconst 0, 1) := by decide +kernel
theorem dX0_neighborsOf_1 : decode cX0_neighborsOf 1 = .ok (.istore_n 2, 1) := by decide +kernel
theorem dX0_neighborsOf_2 : decode cX0_neighborsOf 2 = .ok (.iconst 0, 1) := by decide +kernel
theorem dX0_neighborsOf_3 : decode cX0_neighborsOf 3 = .ok (.istore_n 3, 1) := by decide +kernel
theorem dX0_neighborsOf_4 : decode cX0_neighborsOf 4 = .ok (.iload_n 3, 1) := by decide +kernel
theorem dX0_neighborsOf_5 : decode cX0_neighborsOf 5 = .ok (.bipush 16, 2) := by decide +kernel
theorem dX0_neighborsOf_7 : decode cX0_neighborsOf 7 = .ok (.if_icmp .ge 33, 3) := by decide +kernel
theorem dX0_neighborsOf_10 : decode cX0_neighborsOf 10 = .ok (.iload_n 1, 1) := by decide +kernel
theorem dX0_neighborsOf_11 : decode cX0_neighborsOf 11 = .ok (.iload_n 3, 1) := by decide +kernel
theorem dX0_neighborsOf_12 : decode cX0_neighborsOf 12 = .ok (.invokestatic 113, 3) := by decide +kernel
theorem dX0_neighborsOf_15 : decode cX0_neighborsOf 15 = .ok (.ifCond .eq 19, 3) := by decide +kernel
theorem dX0_neighborsOf_18 : decode cX0_neighborsOf 18 = .ok (.iload_n 2, 1) := by decide +kernel
theorem dX0_neighborsOf_19 : decode cX0_neighborsOf 19 = .ok (.aload_n 0, 1) := by decide +kernel
theorem dX0_neighborsOf_20 : decode cX0_neighborsOf 20 = .ok (.aload_n 0, 1) := by decide +kernel
theorem dX0_neighborsOf_21 : decode cX0_neighborsOf 21 = .ok (.getfield 9, 3) := by decide +kernel
theorem dX0_neighborsOf_24 : decode cX0_neighborsOf 24 = .ok (.getfield 19, 3) := by decide +kernel
theorem dX0_neighborsOf_27 : decode cX0_neighborsOf 27 = .ok (.iload_n 3, 1) := by decide +kernel
theorem dX0_neighborsOf_28 : decode cX0_neighborsOf 28 = .ok (.iaload, 1) := by decide +kernel
theorem dX0_neighborsOf_29 : decode cX0_neighborsOf 29 = .ok (.invokevirtual 169, 3) := by decide +kernel
theorem dX0_neighborsOf_32 : decode cX0_neighborsOf 32 = .ok (.ior, 1) := by decide +kernel
theorem dX0_neighborsOf_33 : decode cX0_neighborsOf 33 = .ok (.istore_n 2, 1) := by decide +kernel
theorem dX0_neighborsOf_34 : decode cX0_neighborsOf 34 = .ok (.iinc 3 1, 3) := by decide +kernel
theorem dX0_neighborsOf_37 : decode cX0_neighborsOf 37 = .ok (.goto (-33), 3) := by decide +kernel
theorem dX0_neighborsOf_40 : decode cX0_neighborsOf 40 = .ok (.iload_n 2, 1) := by decide +kernel
theorem dX0_neighborsOf_41 : decode cX0_neighborsOf 41 = .ok (.ireturn, 1) := by decide +kernel
theorem dX0_agentsBeside_0 : decode cX0_agentsBeside 0 = .ok (.iconst 0, 1) := by decide +kernel
theorem dX0_agentsBeside_1 : decode cX0_agentsBeside 1 = .ok (.istore_n 2, 1) := by decide +kernel
theorem dX0_agentsBeside_2 : decode cX0_agentsBeside 2 = .ok (.iconst 0, 1) := by decide +kernel
theorem dX0_agentsBeside_3 : decode cX0_agentsBeside 3 = .ok (.istore_n 3, 1) := by decide +kernel
theorem dX0_agentsBeside_4 : decode cX0_agentsBeside 4 = .ok (.iload_n 3, 1) := by decide +kernel
theorem dX0_agentsBeside_5 : decode cX0_agentsBeside 5 = .ok (.iconst 4, 1) := by decide +kernel
theorem dX0_agentsBeside_6 : decode cX0_agentsBeside 6 = .ok (.if_icmp .ge 33, 3) := by decide +kernel
theorem dX0_agentsBeside_9 : decode cX0_agentsBeside 9 = .ok (.aload_n 0, 1) := by decide +kernel
theorem dX0_agentsBeside_10 : decode cX0_agentsBeside 10 = .ok (.iload_n 1, 1) := by decide +kernel
theorem dX0_agentsBeside_11 : decode cX0_agentsBeside 11 = .ok (.iload_n 3, 1) := by decide +kernel
theorem dX0_agentsBeside_12 : decode cX0_agentsBeside 12 = .ok (.invokestatic 124, 3) := by decide +kernel
theorem dX0_agentsBeside_15 : decode cX0_agentsBeside 15 = .ok (.invokevirtual 32, 3) := by decide +kernel
theorem dX0_agentsBeside_18 : decode cX0_agentsBeside 18 = .ok (.istore 4, 2) := by decide +kernel
theorem dX0_agentsBeside_20 : decode cX0_agentsBeside 20 = .ok (.iload 4, 2) := by decide +kernel
theorem dX0_agentsBeside_22 : decode cX0_agentsBeside 22 = .ok (.iconst (-1), 1) := by decide +kernel
theorem dX0_agentsBeside_23 : decode cX0_agentsBeside 23 = .ok (.if_icmp .eq 10, 3) := by decide +kernel
theorem dX0_agentsBeside_26 : decode cX0_agentsBeside 26 = .ok (.iload_n 2, 1) := by decide +kernel
theorem dX0_agentsBeside_27 : decode cX0_agentsBeside 27 = .ok (.iconst 1, 1) := by decide +kernel
theorem dX0_agentsBeside_28 : decode cX0_agentsBeside 28 = .ok (.iload 4, 2) := by decide +kernel
theorem dX0_agentsBeside_30 : decode cX0_agentsBeside 30 = .ok (.ishl, 1) := by decide +kernel
theorem dX0_agentsBeside_31 : decode cX0_agentsBeside 31 = .ok (.ior, 1) := by decide +kernel
theorem dX0_agentsBeside_32 : decode cX0_agentsBeside 32 = .ok (.istore_n 2, 1) := by decide +kernel
theorem dX0_agentsBeside_33 : decode cX0_agentsBeside 33 = .ok (.iinc 3 1, 3) := by decide +kernel
theorem dX0_agentsBeside_36 : decode cX0_agentsBeside 36 = .ok (.goto (-32), 3) := by decide +kernel
theorem dX0_agentsBeside_39 : decode cX0_agentsBeside 39 = .ok (.iload_n 2, 1) := by decide +kernel
theorem dX0_agentsBeside_40 : decode cX0_agentsBeside 40 = .ok (.ireturn, 1) := by decide +kernel
theorem dX1_init_0 : decode cX1_init 0 = .ok (.aload_n 0, 1) := by decide +kernel
theorem dX1_init_1 : decode cX1_init 1 = .ok (.invokespecial 3, 3) := by decide +kernel
theorem dX1_init_4 : decode cX1_init 4 = .ok (.aload_n 0, 1) := by decide +kernel
theorem dX1_init_5 : decode cX1_init 5 = .ok (.sipush 140, 3) := by decide +kernel
theorem dX1_init_8 : decode cX1_init 8 = .ok (.newarray .int, 2) := by decide +kernel
theorem dX1_init_10 : decode cX1_init 10 = .ok (.putfield 9, 3) := by decide +kernel
theorem dX1_init_13 : decode cX1_init 13 = .ok (.aload_n 0, 1) := by decide +kernel
theorem dX1_init_14 : decode cX1_init 14 = .ok (.getfield 9, 3) := by decide +kernel
theorem dX1_init_17 : decode cX1_init 17 = .ok (.iconst (-1), 1) := by decide +kernel
theorem dX1_init_18 : decode cX1_init 18 = .ok (.invokestatic 15, 3) := by decide +kernel
theorem dX1_init_21 : decode cX1_init 21 = .ok (.aload_n 0, 1) := by decide +kernel
theorem dX1_init_22 : decode cX1_init 22 = .ok (.iconst 0, 1) := by decide +kernel
theorem dX1_init_23 : decode cX1_init 23 = .ok (.putfield 21, 3) := by decide +kernel
theorem dX1_init_26 : decode cX1_init 26 = .ok (.return_, 1) := by decide +kernel
theorem dX1_distanceOf_0 : decode cX1_distanceOf 0 = .ok (.iload_n 1, 1) := by decide +kernel
theorem dX1_distanceOf_1 : decode cX1_distanceOf 1 = .ok (.ifCond .lt 19, 3) := by decide +kernel
theorem dX1_distanceOf_4 : decode cX1_distanceOf 4 = .ok (.iload_n 1, 1) := by decide +kernel
theorem dX1_distanceOf_5 : decode cX1_distanceOf 5 = .ok (.sipush 140, 3) := by decide +kernel
theorem dX1_distanceOf_8 : decode cX1_distanceOf 8 = .ok (.if_icmp .ge 12, 3) := by decide +kernel
theorem dX1_distanceOf_11 : decode cX1_distanceOf 11 = .ok (.aload_n 0, 1) := by decide +kernel
theorem dX1_distanceOf_12 : decode cX1_distanceOf 12 = .ok (.getfield 9, 3) := by decide +kernel
theorem dX1_distanceOf_15 : decode cX1_distanceOf 15 = .ok (.iload_n 1, 1) := by decide +kernel
theorem dX1_distanceOf_16 : decode cX1_distanceOf 16 = .ok (.iaload, 1) := by decide +kernel
theorem dX1_distanceOf_17 : decode cX1_distanceOf 17 = .ok (.goto 4, 3) := by decide +kernel
theorem dX1_distanceOf_20 : decode cX1_distanceOf 20 = .ok (.iconst (-1), 1) := by decide +kernel
theorem dX1_distanceOf_21 : decode cX1_distanceOf 21 = .ok (.ireturn, 1) := by decide +kernel
theorem dX1_flowOf_0 : decode cX1_flowOf 0 = .ok (.aload_n 0, 1) := by decide +kernel
theorem dX1_flowOf_1 : decode cX1_flowOf 1 = .ok (.iload_n 1, 1) := by decide +kernel
theorem dX1_flowOf_2 : decode cX1_flowOf 2 = .ok (.invokevirtual 25, 3) := by decide +kernel
theorem dX1_flowOf_5 : decode cX1_flowOf 5 = .ok (.istore_n 3, 1) := by decide +kernel
theorem dX1_flowOf_6 : decode cX1_flowOf 6 = .ok (.iload_n 3, 1) := by decide +kernel
theorem dX1_flowOf_7 : decode cX1_flowOf 7 = .ok (.ifCond .gt 5, 3) := by decide +kernel
theorem dX1_flowOf_10 : decode cX1_flowOf 10 = .ok (.iconst (-1), 1) := by decide +kernel
theorem dX1_flowOf_11 : decode cX1_flowOf 11 = .ok (.ireturn, 1) := by decide +kernel
theorem dX1_flowOf_12 : decode cX1_flowOf 12 = .ok (.iconst 0, 1) := by decide +kernel
theorem dX1_flowOf_13 : decode cX1_flowOf 13 = .ok (.istore 4, 2) := by decide +kernel
theorem dX1_flowOf_15 : decode cX1_flowOf 15 = .ok (.iload 4, 2) := by decide +kernel
theorem dX1_flowOf_17 : decode cX1_flowOf 17 = .ok (.iconst 4, 1) := by decide +kernel
theorem dX1_flowOf_18 : decode cX1_flowOf 18 = .ok (.if_icmp .ge 45, 3) := by decide +kernel
theorem dX1_flowOf_21 : decode cX1_flowOf 21 = .ok (.iload_n 1, 1) := by decide +kernel
theorem dX1_flowOf_22 : decode cX1_flowOf 22 = .ok (.iload 4, 2) := by decide +kernel
theorem dX1_flowOf_24 : decode cX1_flowOf 24 = .ok (.invokestatic 29, 3) := by decide +kernel
theorem dX1_flowOf_27 : decode cX1_flowOf 27 = .ok (.istore 5, 2) := by decide +kernel
theorem dX1_flowOf_29 : decode cX1_flowOf 29 = .ok (.aload_n 0, 1) := by decide +kernel
theorem dX1_flowOf_30 : decode cX1_flowOf 30 = .ok (.iload 5, 2) := by decide +kernel
theorem dX1_flowOf_32 : decode cX1_flowOf 32 = .ok (.invokevirtual 25, 3) := by decide +kernel
theorem dX1_flowOf_35 : decode cX1_flowOf 35 = .ok (.istore 6, 2) := by decide +kernel
theorem dX1_flowOf_37 : decode cX1_flowOf 37 = .ok (.iload 6, 2) := by decide +kernel
theorem dX1_flowOf_39 : decode cX1_flowOf 39 = .ok (.iconst (-1), 1) := by decide +kernel
theorem dX1_flowOf_40 : decode cX1_flowOf 40 = .ok (.if_icmp .eq 17, 3) := by decide +kernel
theorem dX1_flowOf_43 : decode cX1_flowOf 43 = .ok (.iload 6, 2) := by decide +kernel
theorem dX1_flowOf_45 : decode cX1_flowOf 45 = .ok (.aload_n 2, 1) := by decide +kernel
theorem dX1_flowOf_46 : decode cX1_flowOf 46 = .ok (.iload 5, 2) := by decide +kernel
theorem dX1_flowOf_48 : decode cX1_flowOf 48 = .ok (.iaload, 1) := by decide +kernel
theorem dX1_flowOf_49 : decode cX1_flowOf 49 = .ok (.iadd, 1) := by decide +kernel
theorem dX1_flowOf_50 : decode cX1_flowOf 50 = .ok (.iload_n 3, 1) := by decide +kernel
theorem dX1_flowOf_51 : decode cX1_flowOf 51 = .ok (.if_icmp .ne 6, 3) := by decide +kernel
theorem dX1_flowOf_54 : decode cX1_flowOf 54 = .ok (.iload 4, 2) := by decide +kernel
theorem dX1_flowOf_56 : decode cX1_flowOf 56 = .ok (.ireturn, 1) := by decide +kernel
theorem dX1_flowOf_57 : decode cX1_flowOf 57 = .ok (.iinc 4 1, 3) := by decide +kernel
theorem dX1_flowOf_60 : decode cX1_flowOf 60 = .ok (.goto (-45), 3) := by decide +kernel
theorem dX1_flowOf_63 : decode cX1_flowOf 63 = .ok (.iconst (-1), 1) := by decide +kernel
theorem dX1_flowOf_64 : decode cX1_flowOf 64 = .ok (.ireturn, 1) := by decide +kernel
theorem dX1_stepsFrom_0 : decode cX1_stepsFrom 0 = .ok (.aload_n 0, 1) := by decide +kernel
theorem dX1_stepsFrom_1 : decode cX1_stepsFrom 1 = .ok (.iload_n 1, 1) := by decide +kernel
theorem dX1_stepsFrom_2 : decode cX1_stepsFrom 2 = .ok (.invokevirtual 25, 3) := by decide +kernel
theorem dX1_stepsFrom_5 : decode cX1_stepsFrom 5 = .ok (.iconst (-1), 1) := by decide +kernel
theorem dX1_stepsFrom_6 : decode cX1_stepsFrom 6 = .ok (.if_icmp .ne 5, 3) := by decide +kernel
theorem dX1_stepsFrom_9 : decode cX1_stepsFrom 9 = .ok (.iconst (-1), 1) := by decide +kernel
theorem dX1_stepsFrom_10 : decode cX1_stepsFrom 10 = .ok (.ireturn, 1) := by decide +kernel
theorem dX1_stepsFrom_11 : decode cX1_stepsFrom 11 = .ok (.iconst 0, 1) := by decide +kernel
theorem dX1_stepsFrom_12 : decode cX1_stepsFrom 12 = .ok (.istore_n 3, 1) := by decide +kernel
theorem dX1_stepsFrom_13 : decode cX1_stepsFrom 13 = .ok (.iload_n 1, 1) := by decide +kernel
theorem dX1_stepsFrom_14 : decode cX1_stepsFrom 14 = .ok (.istore 4, 2) := by decide +kernel
theorem dX1_stepsFrom_16 : decode cX1_stepsFrom 16 = .ok (.aload_n 0, 1) := by decide +kernel
theorem dX1_stepsFrom_17 : decode cX1_stepsFrom 17 = .ok (.iload 4, 2) := by decide +kernel
theorem dX1_stepsFrom_19 : decode cX1_stepsFrom 19 = .ok (.invokevirtual 25, 3) := by decide +kernel
theorem dX1_stepsFrom_22 : decode cX1_stepsFrom 22 = .ok (.ifCond .le 30, 3) := by decide +kernel
theorem dX1_stepsFrom_25 : decode cX1_stepsFrom 25 = .ok (.iload_n 3, 1) := by decide +kernel
theorem dX1_stepsFrom_26 : decode cX1_stepsFrom 26 = .ok (.sipush 140, 3) := by decide +kernel
theorem dX1_stepsFrom_29 : decode cX1_stepsFrom 29 = .ok (.if_icmp .ge 23, 3) := by decide +kernel
theorem dX1_stepsFrom_32 : decode cX1_stepsFrom 32 = .ok (.iload 4, 2) := by decide +kernel
theorem dX1_stepsFrom_34 : decode cX1_stepsFrom 34 = .ok (.aload_n 0, 1) := by decide +kernel
theorem dX1_stepsFrom_35 : decode cX1_stepsFrom 35 = .ok (.iload 4, 2) := by decide +kernel
theorem dX1_stepsFrom_37 : decode cX1_stepsFrom 37 = .ok (.aload_n 2, 1) := by decide +kernel
theorem dX1_stepsFrom_38 : decode cX1_stepsFrom 38 = .ok (.invokevirtual 33, 3) := by decide +kernel
theorem dX1_stepsFrom_41 : decode cX1_stepsFrom 41 = .ok (.invokestatic 29, 3) := by decide +kernel
theorem dX1_stepsFrom_44 : decode cX1_stepsFrom 44 = .ok (.istore 4, 2) := by decide +kernel
theorem dX1_stepsFrom_46 : decode cX1_stepsFrom 46 = .ok (.iinc 3 1, 3) := by decide +kernel
theorem dX1_stepsFrom_49 : decode cX1_stepsFrom 49 = .ok (.goto (-33), 3) := by decide +kernel
theorem dX1_stepsFrom_52 : decode cX1_stepsFrom 52 = .ok (.iload_n 3, 1) := by decide +kernel
theorem dX1_stepsFrom_53 : decode cX1_stepsFrom 53 = .ok (.ireturn, 1) := by decide +kernel
theorem dX1_reachedCells_0 : decode cX1_reachedCells 0 = .ok (.iconst 0, 1) := by decide +kernel
theorem dX1_reachedCells_1 : decode cX1_reachedCells 1 = .ok (.istore_n 1, 1) := by decide +kernel
theorem dX1_reachedCells_2 : decode cX1_reachedCells 2 = .ok (.iconst 0, 1) := by decide +kernel
theorem dX1_reachedCells_3 : decode cX1_reachedCells 3 = .ok (.istore_n 2, 1) := by decide +kernel
theorem dX1_reachedCells_4 : decode cX1_reachedCells 4 = .ok (.iload_n 2, 1) := by decide +kernel
theorem dX1_reachedCells_5 : decode cX1_reachedCells 5 = .ok (.sipush 140, 3) := by decide +kernel
theorem dX1_reachedCells_8 : decode cX1_reachedCells 8 = .ok (.if_icmp .ge 22, 3) := by decide +kernel
theorem dX1_reachedCells_11 : decode cX1_reachedCells 11 = .ok (.aload_n 0, 1) := by decide +kernel
theorem dX1_reachedCells_12 : decode cX1_reachedCells 12 = .ok (.getfield 9, 3) := by decide +kernel
theorem dX1_reachedCells_15 : decode cX1_reachedCells 15 = .ok (.iload_n 2, 1) := by decide +kernel
theorem dX1_reachedCells_16 : decode cX1_reachedCells 16 = .ok (.iaload, 1) := by decide +kernel
theorem dX1_reachedCells_17 : decode cX1_reachedCells 17 = .ok (.iconst (-1), 1) := by decide +kernel
theorem dX1_reachedCells_18 : decode cX1_reachedCells 18 = .ok (.if_icmp .eq 6, 3) := by decide +kernel
theorem dX1_reachedCells_21 : decode cX1_reachedCells 21 = .ok (.iinc 1 1, 3) := by decide +kernel
theorem dX1_reachedCells_24 : decode cX1_reachedCells 24 = .ok (.iinc 2 1, 3) := by decide +kernel
theorem dX1_reachedCells_27 : decode cX1_reachedCells 27 = .ok (.goto (-23), 3) := by decide +kernel
theorem dX1_reachedCells_30 : decode cX1_reachedCells 30 = .ok (.iload_n 1, 1) := by decide +kernel
theorem dX1_reachedCells_31 : decode cX1_reachedCells 31 = .ok (.ireturn, 1) := by decide +kernel
theorem dX2_init_0 : decode cX2_init 0 = .ok (.aload_n 0, 1) := by decide +kernel
theorem dX2_init_1 : decode cX2_init 1 = .ok (.invokespecial 3, 3) := by decide +kernel
theorem dX2_init_4 : decode cX2_init 4 = .ok (.aload_n 0, 1) := by decide +kernel
theorem dX2_init_5 : decode cX2_init 5 = .ok (.sipush 140, 3) := by decide +kernel
theorem dX2_init_8 : decode cX2_init 8 = .ok (.anewarray 9, 3) := by decide +kernel
theorem dX2_init_11 : decode cX2_init 11 = .ok (.putfield 11, 3) := by decide +kernel
theorem dX2_init_14 : decode cX2_init 14 = .ok (.aload_n 0, 1) := by decide +kernel
theorem dX2_init_15 : decode cX2_init 15 = .ok (.new 9, 3) := by decide +kernel
theorem dX2_init_18 : decode cX2_init 18 = .ok (.dup, 1) := by decide +kernel
theorem dX2_init_19 : decode cX2_init 19 = .ok (.invokespecial 17, 3) := by decide +kernel
theorem dX2_init_22 : decode cX2_init 22 = .ok (.putfield 18, 3) := by decide +kernel
theorem dX2_init_25 : decode cX2_init 25 = .ok (.aload_n 0, 1) := by decide +kernel
theorem dX2_init_26 : decode cX2_init 26 = .ok (.bipush 10, 2) := by decide +kernel
theorem dX2_init_28 : decode cX2_init 28 = .ok (.newarray .int, 2) := by decide +kernel
theorem dX2_init_30 : decode cX2_init 30 = .ok (.putfield 22, 3) := by decide +kernel
theorem dX2_init_33 : decode cX2_init 33 = .ok (.aload_n 0, 1) := by decide +kernel
theorem dX2_init_34 : decode cX2_init 34 = .ok (.sipush 140, 3) := by decide +kernel
theorem dX2_init_37 : decode cX2_init 37 = .ok (.newarray .int, 2) := by decide +kernel
theorem dX2_init_39 : decode cX2_init 39 = .ok (.putfield 26, 3) := by decide +kernel
theorem dX2_init_42 : decode cX2_init 42 = .ok (.return_, 1) := by decide +kernel
theorem dX2_forgetAll_0 : decode cX2_forgetAll 0 = .ok (.iconst 0, 1) := by decide +kernel
theorem dX2_forgetAll_1 : decode cX2_forgetAll 1 = .ok (.istore_n 1, 1) := by decide +kernel
theorem dX2_forgetAll_2 : decode cX2_forgetAll 2 = .ok (.iload_n 1, 1) := by decide +kernel
theorem dX2_forgetAll_3 : decode cX2_forgetAll 3 = .ok (.sipush 140, 3) := by decide +kernel
theorem dX2_forgetAll_6 : decode cX2_forgetAll 6 = .ok (.if_icmp .ge 25, 3) := by decide +kernel
theorem dX2_forgetAll_9 : decode cX2_forgetAll 9 = .ok (.aload_n 0, 1) := by decide +kernel
theorem dX2_forgetAll_10 : decode cX2_forgetAll 10 = .ok (.getfield 11, 3) := by decide +kernel
theorem dX2_forgetAll_13 : decode cX2_forgetAll 13 = .ok (.iload_n 1, 1) := by decide +kernel
theorem dX2_forgetAll_14 : decode cX2_forgetAll 14 = .ok (.aaload, 1) := by decide +kernel
theorem dX2_forgetAll_15 : decode cX2_forgetAll 15 = .ok (.astore_n 2, 1) := by decide +kernel
theorem dX2_forgetAll_16 : decode cX2_forgetAll 16 = .ok (.aload_n 2, 1) := by decide +kernel
theorem dX2_forgetAll_17 : decode cX2_forgetAll 17 = .ok (.ifnull 8, 3) := by decide +kernel
theorem dX2_forgetAll_20 : decode cX2_forgetAll 20 = .ok (.aload_n 2, 1) := by decide +kernel
theorem dX2_forgetAll_21 : decode cX2_forgetAll 21 = .ok (.iconst 0, 1) := by decide +kernel
theorem dX2_forgetAll_22 : decode cX2_forgetAll 22 = .ok (.putfield 29, 3) := by decide +kernel
theorem dX2_forgetAll_25 : decode cX2_forgetAll 25 = .ok (.iinc 1 1, 3) := by decide +kernel
theorem dX2_forgetAll_28 : decode cX2_forgetAll 28 = .ok (.goto (-26), 3) := by decide +kernel
theorem dX2_forgetAll_31 : decode cX2_forgetAll 31 = .ok (.return_, 1) := by decide +kernel
theorem dX2_toward_0 : decode cX2_toward 0 = .ok (.iload_n 1, 1) := by decide +kernel
theorem dX2_toward_1 : decode cX2_toward 1 = .ok (.ifCond .lt 16, 3) := by decide +kernel
theorem dX2_toward_4 : decode cX2_toward 4 = .ok (.iload_n 1, 1) := by decide +kernel
theorem dX2_toward_5 : decode cX2_toward 5 = .ok (.sipush 140, 3) := by decide +kernel
theorem dX2_toward_8 : decode cX2_toward 8 = .ok (.if_icmp .ge 9, 3) := by decide +kernel
theorem dX2_toward_11 : decode cX2_toward 11 = .ok (.aload_n 2, 1) := by decide +kernel
theorem dX2_toward_12 : decode cX2_toward 12 = .ok (.iload_n 1, 1) := by decide +kernel
theorem dX2_toward_13 : decode cX2_toward 13 = .ok (.iaload, 1) := by decide +kernel
theorem dX2_toward_14 : decode cX2_toward 14 = .ok (.ifCond .ne 8, 3) := by decide +kernel
theorem dX2_toward_17 : decode cX2_toward 17 = .ok (.aload_n 0, 1) := by decide +kernel
theorem dX2_toward_18 : decode cX2_toward 18 = .ok (.getfield 18, 3) := by decide +kernel
theorem dX2_toward_21 : decode cX2_toward 21 = .ok (.areturn, 1) := by decide +kernel
theorem dX2_toward_22 : decode cX2_toward 22 = .ok (.aload_n 0, 1) := by decide +kernel
theorem dX2_toward_23 : decode cX2_toward 23 = .ok (.getfield 11, 3) := by decide +kernel
theorem dX2_toward_26 : decode cX2_toward 26 = .ok (.iload_n 1, 1) := by decide +kernel
theorem dX2_toward_27 : decode cX2_toward 27 = .ok (.aaload, 1) := by decide +kernel
theorem dX2_toward_28 : decode cX2_toward 28 = .ok (.astore_n 3, 1) := by decide +kernel
theorem dX2_toward_29 : decode cX2_toward 29 = .ok (.aload_n 3, 1) := by decide +kernel
theorem dX2_toward_30 : decode cX2_toward 30 = .ok (.ifnonnull 18, 3) := by decide +kernel
theorem dX2_toward_33 : decode cX2_toward 33 = .ok (.new 9, 3) := by decide +kernel
theorem dX2_toward_36 : decode cX2_toward 36 = .ok (.dup, 1) := by decide +kernel
theorem dX2_toward_37 : decode cX2_toward 37 = .ok (.invokespecial 17, 3) := by decide +kernel
theorem dX2_toward_40 : decode cX2_toward 40 = .ok (.astore_n 3, 1) := by decide +kernel
theorem dX2_toward_41 : decode cX2_toward 41 = .ok (.aload_n 0, 1) := by decide +kernel
theorem dX2_toward_42 : decode cX2_toward 42 = .ok (.getfield 11, 3) := by decide +kernel
theorem dX2_toward_45 : decode cX2_toward 45 = .ok (.iload_n 1, 1) := by decide +kernel
theorem dX2_toward_46 : decode cX2_toward 46 = .ok (.aload_n 3, 1) := by decide +kernel
theorem dX2_toward_47 : decode cX2_toward 47 = .ok (.aastore, 1) := by decide +kernel
theorem dX2_toward_48 : decode cX2_toward 48 = .ok (.aload_n 3, 1) := by decide +kernel
theorem dX2_toward_49 : decode cX2_toward 49 = .ok (.getfield 29, 3) := by decide +kernel
theorem dX2_toward_52 : decode cX2_toward 52 = .ok (.ifCond .ne 18, 3) := by decide +kernel
theorem dX2_toward_55 : decode cX2_toward 55 = .ok (.aload_n 0, 1) := by decide +kernel
theorem dX2_toward_56 : decode cX2_toward 56 = .ok (.iload_n 1, 1) := by decide +kernel
theorem dX2_toward_57 : decode cX2_toward 57 = .ok (.aload_n 2, 1) := by decide +kernel
theorem dX2_toward_58 : decode cX2_toward 58 = .ok (.aload_n 3, 1) := by decide +kernel
theorem dX2_toward_59 : decode cX2_toward 59 = .ok (.getfield 33, 3) := by decide +kernel
theorem dX2_toward_62 : decode cX2_toward 62 = .ok (.invokevirtual 36, 3) := by decide +kernel
theorem dX2_toward_65 : decode cX2_toward 65 = .ok (.aload_n 3, 1) := by decide +kernel
theorem dX2_toward_66 : decode cX2_toward 66 = .ok (.iconst 1, 1) := by decide +kernel
theorem dX2_toward_67 : decode cX2_toward 67 = .ok (.putfield 29, 3) := by decide +kernel
theorem dX2_toward_70 : decode cX2_toward 70 = .ok (.aload_n 3, 1) := by decide +kernel
theorem dX2_toward_71 : decode cX2_toward 71 = .ok (.areturn, 1) := by decide +kernel
theorem dX2_spread_0 : decode cX2_spread 0 = .ok (.aload_n 3, 1) := by decide +kernel
theorem dX2_spread_1 : decode cX2_spread 1 = .ok (.iconst (-1), 1) := by decide +kernel
theorem dX2_spread_2 : decode cX2_spread 2 = .ok (.invokestatic 40, 3) := by decide +kernel
theorem dX2_spread_5 : decode cX2_spread 5 = .ok (.aload_n 0, 1) := by decide +kernel
theorem dX2_spread_6 : decode cX2_spread 6 = .ok (.getfield 22, 3) := by decide +kernel
theorem dX2_spread_9 : decode cX2_spread 9 = .ok (.iconst (-1), 1) := by decide +kernel
theorem dX2_spread_10 : decode cX2_spread 10 = .ok (.invokestatic 40, 3) := by decide +kernel
theorem dX2_spread_13 : decode cX2_spread 13 = .ok (.aload_n 3, 1) := by decide +kernel
theorem dX2_spread_14 : decode cX2_spread 14 = .ok (.iload_n 1, 1) := by decide +kernel
theorem dX2_spread_15 : decode cX2_spread 15 = .ok (.iconst 0, 1) := by decide +kernel
theorem dX2_spread_16 : decode cX2_spread 16 = .ok (.iastore, 1) := by decide +kernel
theorem dX2_spread_17 : decode cX2_spread 17 = .ok (.aload_n 0, 1) := by decide +kernel
theorem dX2_spread_18 : decode cX2_spread 18 = .ok (.iload_n 1, 1) := by decide +kernel
theorem dX2_spread_19 : decode cX2_spread 19 = .ok (.aload_n 2, 1) := by decide +kernel
theorem dX2_spread_20 : decode cX2_spread 20 = .ok (.iload_n 1, 1) := by decide +kernel
theorem dX2_spread_21 : decode cX2_spread 21 = .ok (.iaload, 1) := by decide +kernel
theorem dX2_spread_22 : decode cX2_spread 22 = .ok (.invokevirtual 46, 3) := by decide +kernel
theorem dX2_spread_25 : decode cX2_spread 25 = .ok (.iconst 1, 1) := by decide +kernel
theorem dX2_spread_26 : decode cX2_spread 26 = .ok (.istore 4, 2) := by decide +kernel
theorem dX2_spread_28 : decode cX2_spread 28 = .ok (.iconst 1, 1) := by decide +kernel
theorem dX2_spread_29 : decode cX2_spread 29 = .ok (.istore 5, 2) := by decide +kernel
theorem dX2_spread_31 : decode cX2_spread 31 = .ok (.iload 5, 2) := by decide +kernel
theorem dX2_spread_33 : decode cX2_spread 33 = .ok (.sipush 1260, 3) := by decide +kernel
theorem dX2_spread_36 : decode cX2_spread 36 = .ok (.if_icmp .gt 139, 3) := by decide +kernel
theorem dX2_spread_39 : decode cX2_spread 39 = .ok (.iload 4, 2) := by decide +kernel
theorem dX2_spread_41 : decode cX2_spread 41 = .ok (.ifCond .le 134, 3) := by decide +kernel
theorem dX2_spread_44 : decode cX2_spread 44 = .ok (.aload_n 0, 1) := by decide +kernel
theorem dX2_spread_45 : decode cX2_spread 45 = .ok (.getfield 22, 3) := by decide +kernel
theorem dX2_spread_48 : decode cX2_spread 48 = .ok (.iload 5, 2) := by decide +kernel
theorem dX2_spread_50 : decode cX2_spread 50 = .ok (.bipush 10, 2) := by decide +kernel
theorem dX2_spread_52 : decode cX2_spread 52 = .ok (.irem, 1) := by decide +kernel
theorem dX2_spread_53 : decode cX2_spread 53 = .ok (.iaload, 1) := by decide +kernel
theorem dX2_spread_54 : decode cX2_spread 54 = .ok (.istore 6, 2) := by decide +kernel
theorem dX2_spread_56 : decode cX2_spread 56 = .ok (.aload_n 0, 1) := by decide +kernel
theorem dX2_spread_57 : decode cX2_spread 57 = .ok (.getfield 22, 3) := by decide +kernel
theorem dX2_spread_60 : decode cX2_spread 60 = .ok (.iload 5, 2) := by decide +kernel
theorem dX2_spread_62 : decode cX2_spread 62 = .ok (.bipush 10, 2) := by decide +kernel
theorem dX2_spread_64 : decode cX2_spread 64 = .ok (.irem, 1) := by decide +kernel
theorem dX2_spread_65 : decode cX2_spread 65 = .ok (.iconst (-1), 1) := by decide +kernel
theorem dX2_spread_66 : decode cX2_spread 66 = .ok (.iastore, 1) := by decide +kernel
theorem dX2_spread_67 : decode cX2_spread 67 = .ok (.iconst 0, 1) := by decide +kernel
theorem dX2_spread_68 : decode cX2_spread 68 = .ok (.istore 7, 2) := by decide +kernel
theorem dX2_spread_70 : decode cX2_spread 70 = .ok (.iload 7, 2) := by decide +kernel
theorem dX2_spread_72 : decode cX2_spread 72 = .ok (.sipush 140, 3) := by decide +kernel
theorem dX2_spread_75 : decode cX2_spread 75 = .ok (.if_icmp .ge 94, 3) := by decide +kernel
theorem dX2_spread_78 : decode cX2_spread 78 = .ok (.iload 6, 2) := by decide +kernel
theorem dX2_spread_80 : decode cX2_spread 80 = .ok (.iconst (-1), 1) := by decide +kernel
theorem dX2_spread_81 : decode cX2_spread 81 = .ok (.if_icmp .eq 88, 3) := by decide +kernel
theorem dX2_spread_84 : decode cX2_spread 84 = .ok (.iinc 4 (-1), 3) := by decide +kernel
theorem dX2_spread_87 : decode cX2_spread 87 = .ok (.iconst 0, 1) := by decide +kernel
theorem dX2_spread_88 : decode cX2_spread 88 = .ok (.istore 8, 2) := by decide +kernel
theorem dX2_spread_90 : decode cX2_spread 90 = .ok (.iload 8, 2) := by decide +kernel
theorem dX2_spread_92 : decode cX2_spread 92 = .ok (.iconst 4, 1) := by decide +kernel
theorem dX2_spread_93 : decode cX2_spread 93 = .ok (.if_icmp .ge 61, 3) := by decide +kernel
theorem dX2_spread_96 : decode cX2_spread 96 = .ok (.iload 6, 2) := by decide +kernel
theorem dX2_spread_98 : decode cX2_spread 98 = .ok (.iload 8, 2) := by decide +kernel
theorem dX2_spread_100 : decode cX2_spread 100 = .ok (.invokestatic 50, 3) := by decide +kernel
theorem dX2_spread_103 : decode cX2_spread 103 = .ok (.istore 9, 2) := by decide +kernel
theorem dX2_spread_105 : decode cX2_spread 105 = .ok (.iload 9, 2) := by decide +kernel
theorem dX2_spread_107 : decode cX2_spread 107 = .ok (.iconst (-1), 1) := by decide +kernel
theorem dX2_spread_108 : decode cX2_spread 108 = .ok (.if_icmp .eq 40, 3) := by decide +kernel
theorem dX2_spread_111 : decode cX2_spread 111 = .ok (.aload_n 2, 1) := by decide +kernel
theorem dX2_spread_112 : decode cX2_spread 112 = .ok (.iload 9, 2) := by decide +kernel
theorem dX2_spread_114 : decode cX2_spread 114 = .ok (.iaload, 1) := by decide +kernel
theorem dX2_spread_115 : decode cX2_spread 115 = .ok (.ifCond .eq 33, 3) := by decide +kernel
theorem dX2_spread_118 : decode cX2_spread 118 = .ok (.aload_n 3, 1) := by decide +kernel
theorem dX2_spread_119 : decode cX2_spread 119 = .ok (.iload 9, 2) := by decide +kernel
theorem dX2_spread_121 : decode cX2_spread 121 = .ok (.iaload, 1) := by decide +kernel
theorem dX2_spread_122 : decode cX2_spread 122 = .ok (.iconst (-1), 1) := by decide +kernel
theorem dX2_spread_123 : decode cX2_spread 123 = .ok (.if_icmp .ne 25, 3) := by decide +kernel
theorem dX2_spread_126 : decode cX2_spread 126 = .ok (.aload_n 3, 1) := by decide +kernel
theorem dX2_spread_127 : decode cX2_spread 127 = .ok (.iload 9, 2) := by decide +kernel
theorem dX2_spread_129 : decode cX2_spread 129 = .ok (.iload 5, 2) := by decide +kernel
theorem dX2_spread_131 : decode cX2_spread 131 = .ok (.iastore, 1) := by decide +kernel
theorem dX2_spread_132 : decode cX2_spread 132 = .ok (.aload_n 0, 1) := by decide +kernel
theorem dX2_spread_133 : decode cX2_spread 133 = .ok (.iload 9, 2) := by decide +kernel
theorem dX2_spread_135 : decode cX2_spread 135 = .ok (.iload 5, 2) := by decide +kernel
theorem dX2_spread_137 : decode cX2_spread 137 = .ok (.aload_n 2, 1) := by decide +kernel
theorem dX2_spread_138 : decode cX2_spread 138 = .ok (.iload 9, 2) := by decide +kernel
theorem dX2_spread_140 : decode cX2_spread 140 = .ok (.iaload, 1) := by decide +kernel
theorem dX2_spread_141 : decode cX2_spread 141 = .ok (.iadd, 1) := by decide +kernel
theorem dX2_spread_142 : decode cX2_spread 142 = .ok (.invokevirtual 46, 3) := by decide +kernel
theorem dX2_spread_145 : decode cX2_spread 145 = .ok (.iinc 4 1, 3) := by decide +kernel
theorem dX2_spread_148 : decode cX2_spread 148 = .ok (.iinc 8 1, 3) := by decide +kernel
theorem dX2_spread_151 : decode cX2_spread 151 = .ok (.goto (-61), 3) := by decide +kernel
theorem dX2_spread_154 : decode cX2_spread 154 = .ok (.aload_n 0, 1) := by decide +kernel
theorem dX2_spread_155 : decode cX2_spread 155 = .ok (.getfield 26, 3) := by decide +kernel
theorem dX2_spread_158 : decode cX2_spread 158 = .ok (.iload 6, 2) := by decide +kernel
theorem dX2_spread_160 : decode cX2_spread 160 = .ok (.iaload, 1) := by decide +kernel
theorem dX2_spread_161 : decode cX2_spread 161 = .ok (.istore 6, 2) := by decide +kernel
theorem dX2_spread_163 : decode cX2_spread 163 = .ok (.iinc 7 1, 3) := by decide +kernel
theorem dX2_spread_166 : decode cX2_spread 166 = .ok (.goto (-96), 3) := by decide +kernel
theorem dX2_spread_169 : decode cX2_spread 169 = .ok (.iinc 5 1, 3) := by decide +kernel
theorem dX2_spread_172 : decode cX2_spread 172 = .ok (.goto (-141), 3) := by decide +kernel
theorem dX2_spread_175 : decode cX2_spread 175 = .ok (.return_, 1) := by decide +kernel
theorem dX2_enqueue_0 : decode cX2_enqueue 0 = .ok (.iload_n 2, 1) := by decide +kernel
theorem dX2_enqueue_1 : decode cX2_enqueue 1 = .ok (.bipush 10, 2) := by decide +kernel
theorem dX2_enqueue_3 : decode cX2_enqueue 3 = .ok (.irem, 1) := by decide +kernel
theorem dX2_enqueue_4 : decode cX2_enqueue 4 = .ok (.istore_n 3, 1) := by decide +kernel
theorem dX2_enqueue_5 : decode cX2_enqueue 5 = .ok (.aload_n 0, 1) := by decide +kernel
theorem dX2_enqueue_6 : decode cX2_enqueue 6 = .ok (.getfield 26, 3) := by decide +kernel
theorem dX2_enqueue_9 : decode cX2_enqueue 9 = .ok (.iload_n 1, 1) := by decide +kernel
theorem dX2_enqueue_10 : decode cX2_enqueue 10 = .ok (.aload_n 0, 1) := by decide +kernel
theorem dX2_enqueue_11 : decode cX2_enqueue 11 = .ok (.getfield 22, 3) := by decide +kernel
theorem dX2_enqueue_14 : decode cX2_enqueue 14 = .ok (.iload_n 3, 1) := by decide +kernel
theorem dX2_enqueue_15 : decode cX2_enqueue 15 = .ok (.iaload, 1) := by decide +kernel
theorem dX2_enqueue_16 : decode cX2_enqueue 16 = .ok (.iastore, 1) := by decide +kernel
theorem dX2_enqueue_17 : decode cX2_enqueue 17 = .ok (.aload_n 0, 1) := by decide +kernel
theorem dX2_enqueue_18 : decode cX2_enqueue 18 = .ok (.getfield 22, 3) := by decide +kernel
theorem dX2_enqueue_21 : decode cX2_enqueue 21 = .ok (.iload_n 3, 1) := by decide +kernel
theorem dX2_enqueue_22 : decode cX2_enqueue 22 = .ok (.iload_n 1, 1) := by decide +kernel
theorem dX2_enqueue_23 : decode cX2_enqueue 23 = .ok (.iastore, 1) := by decide +kernel
theorem dX2_enqueue_24 : decode cX2_enqueue 24 = .ok (.return_, 1) := by decide +kernel
theorem dX3_init_0 : decode cX3_init 0 = .ok (.aload_n 0, 1) := by decide +kernel
theorem dX3_init_1 : decode cX3_init 1 = .ok (.invokespecial 3, 3) := by decide +kernel
theorem dX3_init_4 : decode cX3_init 4 = .ok (.aload_n 0, 1) := by decide +kernel
theorem dX3_init_5 : decode cX3_init 5 = .ok (.bipush 8, 2) := by decide +kernel
theorem dX3_init_7 : decode cX3_init 7 = .ok (.anewarray 9, 3) := by decide +kernel
theorem dX3_init_10 : decode cX3_init 10 = .ok (.putfield 11, 3) := by decide +kernel
theorem dX3_init_13 : decode cX3_init 13 = .ok (.return_, 1) := by decide +kernel
theorem dX3_record_0 : decode cX3_record 0 = .ok (.aload_n 0, 1) := by decide +kernel
theorem dX3_record_1 : decode cX3_record 1 = .ok (.getfield 11, 3) := by decide +kernel
theorem dX3_record_4 : decode cX3_record 4 = .ok (.aload_n 0, 1) := by decide +kernel
theorem dX3_record_5 : decode cX3_record 5 = .ok (.getfield 17, 3) := by decide +kernel
theorem dX3_record_8 : decode cX3_record 8 = .ok (.aaload, 1) := by decide +kernel
theorem dX3_record_9 : decode cX3_record 9 = .ok (.astore_n 2, 1) := by decide +kernel
theorem dX3_record_10 : decode cX3_record 10 = .ok (.aload_n 2, 1) := by decide +kernel
theorem dX3_record_11 : decode cX3_record 11 = .ok (.ifnonnull 21, 3) := by decide +kernel
theorem dX3_record_14 : decode cX3_record 14 = .ok (.new 9, 3) := by decide +kernel
theorem dX3_record_17 : decode cX3_record 17 = .ok (.dup, 1) := by decide +kernel
theorem dX3_record_18 : decode cX3_record 18 = .ok (.invokespecial 21, 3) := by decide +kernel
theorem dX3_record_21 : decode cX3_record 21 = .ok (.astore_n 2, 1) := by decide +kernel
theorem dX3_record_22 : decode cX3_record 22 = .ok (.aload_n 0, 1) := by decide +kernel
theorem dX3_record_23 : decode cX3_record 23 = .ok (.getfield 11, 3) := by decide +kernel
theorem dX3_record_26 : decode cX3_record 26 = .ok (.aload_n 0, 1) := by decide +kernel
theorem dX3_record_27 : decode cX3_record 27 = .ok (.getfield 17, 3) := by decide +kernel
theorem dX3_record_30 : decode cX3_record 30 = .ok (.aload_n 2, 1) := by decide +kernel
theorem dX3_record_31 : decode cX3_record 31 = .ok (.aastore, 1) := by decide +kernel
theorem dX3_record_32 : decode cX3_record 32 = .ok (.aload_n 2, 1) := by decide +kernel
theorem dX3_record_33 : decode cX3_record 33 = .ok (.aload_n 1, 1) := by decide +kernel
theorem dX3_record_34 : decode cX3_record 34 = .ok (.invokevirtual 22, 3) := by decide +kernel
theorem dX3_record_37 : decode cX3_record 37 = .ok (.aload_n 0, 1) := by decide +kernel
theorem dX3_record_38 : decode cX3_record 38 = .ok (.aload_n 0, 1) := by decide +kernel
theorem dX3_record_39 : decode cX3_record 39 = .ok (.getfield 17, 3) := by decide +kernel
theorem dX3_record_42 : decode cX3_record 42 = .ok (.iconst 1, 1) := by decide +kernel
theorem dX3_record_43 : decode cX3_record 43 = .ok (.iadd, 1) := by decide +kernel
theorem dX3_record_44 : decode cX3_record 44 = .ok (.bipush 8, 2) := by decide +kernel
theorem dX3_record_46 : decode cX3_record 46 = .ok (.irem, 1) := by decide +kernel
theorem dX3_record_47 : decode cX3_record 47 = .ok (.putfield 17, 3) := by decide +kernel
theorem dX3_record_50 : decode cX3_record 50 = .ok (.aload_n 0, 1) := by decide +kernel
theorem dX3_record_51 : decode cX3_record 51 = .ok (.aload_n 0, 1) := by decide +kernel
theorem dX3_record_52 : decode cX3_record 52 = .ok (.getfield 26, 3) := by decide +kernel
theorem dX3_record_55 : decode cX3_record 55 = .ok (.iconst 1, 1) := by decide +kernel
theorem dX3_record_56 : decode cX3_record 56 = .ok (.iadd, 1) := by decide +kernel
theorem dX3_record_57 : decode cX3_record 57 = .ok (.bipush 8, 2) := by decide +kernel
theorem dX3_record_59 : decode cX3_record 59 = .ok (.invokestatic 29, 3) := by decide +kernel
theorem dX3_record_62 : decode cX3_record 62 = .ok (.putfield 26, 3) := by decide +kernel
theorem dX3_record_65 : decode cX3_record 65 = .ok (.return_, 1) := by decide +kernel
theorem dX3_takeBack_0 : decode cX3_takeBack 0 = .ok (.aload_n 0, 1) := by decide +kernel
theorem dX3_takeBack_1 : decode cX3_takeBack 1 = .ok (.getfield 17, 3) := by decide +kernel
theorem dX3_takeBack_4 : decode cX3_takeBack 4 = .ok (.bipush 8, 2) := by decide +kernel
theorem dX3_takeBack_6 : decode cX3_takeBack 6 = .ok (.iadd, 1) := by decide +kernel
theorem dX3_takeBack_7 : decode cX3_takeBack 7 = .ok (.iconst 1, 1) := by decide +kernel
theorem dX3_takeBack_8 : decode cX3_takeBack 8 = .ok (.isub, 1) := by decide +kernel
theorem dX3_takeBack_9 : decode cX3_takeBack 9 = .ok (.bipush 8, 2) := by decide +kernel
theorem dX3_takeBack_11 : decode cX3_takeBack 11 = .ok (.irem, 1) := by decide +kernel
theorem dX3_takeBack_12 : decode cX3_takeBack 12 = .ok (.istore_n 2, 1) := by decide +kernel
theorem dX3_takeBack_13 : decode cX3_takeBack 13 = .ok (.aload_n 0, 1) := by decide +kernel
theorem dX3_takeBack_14 : decode cX3_takeBack 14 = .ok (.getfield 11, 3) := by decide +kernel
theorem dX3_takeBack_17 : decode cX3_takeBack 17 = .ok (.iload_n 2, 1) := by decide +kernel
theorem dX3_takeBack_18 : decode cX3_takeBack 18 = .ok (.aaload, 1) := by decide +kernel
theorem dX3_takeBack_19 : decode cX3_takeBack 19 = .ok (.astore_n 3, 1) := by decide +kernel
theorem dX3_takeBack_20 : decode cX3_takeBack 20 = .ok (.aload_n 0, 1) := by decide +kernel
theorem dX3_takeBack_21 : decode cX3_takeBack 21 = .ok (.getfield 26, 3) := by decide +kernel
theorem dX3_takeBack_24 : decode cX3_takeBack 24 = .ok (.ifCond .le 27, 3) := by decide +kernel
theorem dX3_takeBack_27 : decode cX3_takeBack 27 = .ok (.aload_n 3, 1) := by decide +kernel
theorem dX3_takeBack_28 : decode cX3_takeBack 28 = .ok (.ifnull 23, 3) := by decide +kernel
theorem dX3_takeBack_31 : decode cX3_takeBack 31 = .ok (.aload_n 1, 1) := by decide +kernel
theorem dX3_takeBack_32 : decode cX3_takeBack 32 = .ok (.aload_n 3, 1) := by decide +kernel
theorem dX3_takeBack_33 : decode cX3_takeBack 33 = .ok (.invokevirtual 22, 3) := by decide +kernel
theorem dX3_takeBack_36 : decode cX3_takeBack 36 = .ok (.aload_n 0, 1) := by decide +kernel
theorem dX3_takeBack_37 : decode cX3_takeBack 37 = .ok (.iload_n 2, 1) := by decide +kernel
theorem dX3_takeBack_38 : decode cX3_takeBack 38 = .ok (.putfield 17, 3) := by decide +kernel
theorem dX3_takeBack_41 : decode cX3_takeBack 41 = .ok (.aload_n 0, 1) := by decide +kernel
theorem dX3_takeBack_42 : decode cX3_takeBack 42 = .ok (.dup, 1) := by decide +kernel
theorem dX3_takeBack_43 : decode cX3_takeBack 43 = .ok (.getfield 26, 3) := by decide +kernel
theorem dX3_takeBack_46 : decode cX3_takeBack 46 = .ok (.iconst 1, 1) := by decide +kernel
theorem dX3_takeBack_47 : decode cX3_takeBack 47 = .ok (.isub, 1) := by decide +kernel
theorem dX3_takeBack_48 : decode cX3_takeBack 48 = .ok (.putfield 26, 3) := by decide +kernel
theorem dX3_takeBack_51 : decode cX3_takeBack 51 = .ok (.return_, 1) := by decide +kernel
theorem dX3_clear_0 : decode cX3_clear 0 = .ok (.aload_n 0, 1) := by decide +kernel
theorem dX3_clear_1 : decode cX3_clear 1 = .ok (.iconst 0, 1) := by decide +kernel
theorem dX3_clear_2 : decode cX3_clear 2 = .ok (.putfield 26, 3) := by decide +kernel
theorem dX3_clear_5 : decode cX3_clear 5 = .ok (.return_, 1) := by decide +kernel
theorem dX4_init_0 : decode cX4_init 0 = .ok (.aload_n 0, 1) := by decide +kernel
theorem dX4_init_1 : decode cX4_init 1 = .ok (.invokespecial 3, 3) := by decide +kernel
theorem dX4_init_4 : decode cX4_init 4 = .ok (.aload_n 0, 1) := by decide +kernel
theorem dX4_init_5 : decode cX4_init 5 = .ok (.sipush 150, 3) := by decide +kernel
theorem dX4_init_8 : decode cX4_init 8 = .ok (.newarray .char, 2) := by decide +kernel
theorem dX4_init_10 : decode cX4_init 10 = .ok (.putfield 9, 3) := by decide +kernel
theorem dX4_init_13 : decode cX4_init 13 = .ok (.aload_n 0, 1) := by decide +kernel
theorem dX4_init_14 : decode cX4_init 14 = .ok (.sipush 140, 3) := by decide +kernel
theorem dX4_init_17 : decode cX4_init 17 = .ok (.newarray .int, 2) := by decide +kernel
theorem dX4_init_19 : decode cX4_init 19 = .ok (.putfield 15, 3) := by decide +kernel
theorem dX4_init_22 : decode cX4_init 22 = .ok (.return_, 1) := by decide +kernel
theorem dX4_isFull_0 : decode cX4_isFull 0 = .ok (.aload_n 0, 1) := by decide +kernel
theorem dX4_isFull_1 : decode cX4_isFull 1 = .ok (.getfield 19, 3) := by decide +kernel
theorem dX4_isFull_4 : decode cX4_isFull 4 = .ok (.sipush 150, 3) := by decide +kernel
theorem dX4_isFull_7 : decode cX4_isFull 7 = .ok (.if_icmp .lt 7, 3) := by decide +kernel
theorem dX4_isFull_10 : decode cX4_isFull 10 = .ok (.iconst 1, 1) := by decide +kernel
theorem dX4_isFull_11 : decode cX4_isFull 11 = .ok (.goto 4, 3) := by decide +kernel
theorem dX4_isFull_14 : decode cX4_isFull 14 = .ok (.iconst 0, 1) := by decide +kernel
theorem dX4_isFull_15 : decode cX4_isFull 15 = .ok (.ireturn, 1) := by decide +kernel
theorem dX4_append_0 : decode cX4_append 0 = .ok (.aload_n 0, 1) := by decide +kernel
theorem dX4_append_1 : decode cX4_append 1 = .ok (.invokevirtual 23, 3) := by decide +kernel
theorem dX4_append_4 : decode cX4_append 4 = .ok (.ifCond .ne 23, 3) := by decide +kernel
theorem dX4_append_7 : decode cX4_append 7 = .ok (.aload_n 0, 1) := by decide +kernel
theorem dX4_append_8 : decode cX4_append 8 = .ok (.getfield 9, 3) := by decide +kernel
theorem dX4_append_11 : decode cX4_append 11 = .ok (.aload_n 0, 1) := by decide +kernel
theorem dX4_append_12 : decode cX4_append 12 = .ok (.getfield 19, 3) := by decide +kernel
theorem dX4_append_15 : decode cX4_append 15 = .ok (.iload_n 1, 1) := by decide +kernel
theorem dX4_append_16 : decode cX4_append 16 = .ok (.castore, 1) := by decide +kernel
theorem dX4_append_17 : decode cX4_append 17 = .ok (.aload_n 0, 1) := by decide +kernel
theorem dX4_append_18 : decode cX4_append 18 = .ok (.dup, 1) := by decide +kernel
theorem dX4_append_19 : decode cX4_append 19 = .ok (.getfield 19, 3) := by decide +kernel
theorem dX4_append_22 : decode cX4_append 22 = .ok (.iconst 1, 1) := by decide +kernel
theorem dX4_append_23 : decode cX4_append 23 = .ok (.iadd, 1) := by decide +kernel
theorem dX4_append_24 : decode cX4_append 24 = .ok (.putfield 19, 3) := by decide +kernel
theorem dX4_append_27 : decode cX4_append 27 = .ok (.aload_n 0, 1) := by decide +kernel
theorem dX4_append_28 : decode cX4_append 28 = .ok (.getfield 19, 3) := by decide +kernel
theorem dX4_append_31 : decode cX4_append 31 = .ok (.ireturn, 1) := by decide +kernel
theorem dX4_empty_0 : decode cX4_empty 0 = .ok (.aload_n 0, 1) := by decide +kernel
theorem dX4_empty_1 : decode cX4_empty 1 = .ok (.iconst 0, 1) := by decide +kernel
theorem dX4_empty_2 : decode cX4_empty 2 = .ok (.putfield 19, 3) := by decide +kernel
theorem dX4_empty_5 : decode cX4_empty 5 = .ok (.return_, 1) := by decide +kernel
theorem dX4_parse_0 : decode cX4_parse 0 = .ok (.aload_n 0, 1) := by decide +kernel
theorem dX4_parse_1 : decode cX4_parse 1 = .ok (.getfield 15, 3) := by decide +kernel
theorem dX4_parse_4 : decode cX4_parse 4 = .ok (.iconst (-1), 1) := by decide +kernel
theorem dX4_parse_5 : decode cX4_parse 5 = .ok (.invokestatic 27, 3) := by decide +kernel
theorem dX4_parse_8 : decode cX4_parse 8 = .ok (.iconst 0, 1) := by decide +kernel
theorem dX4_parse_9 : decode cX4_parse 9 = .ok (.istore_n 1, 1) := by decide +kernel
theorem dX4_parse_10 : decode cX4_parse 10 = .ok (.iconst 0, 1) := by decide +kernel
theorem dX4_parse_11 : decode cX4_parse 11 = .ok (.istore_n 2, 1) := by decide +kernel
theorem dX4_parse_12 : decode cX4_parse 12 = .ok (.iconst 0, 1) := by decide +kernel
theorem dX4_parse_13 : decode cX4_parse 13 = .ok (.istore_n 3, 1) := by decide +kernel
theorem dX4_parse_14 : decode cX4_parse 14 = .ok (.iload_n 3, 1) := by decide +kernel
theorem dX4_parse_15 : decode cX4_parse 15 = .ok (.aload_n 0, 1) := by decide +kernel
theorem dX4_parse_16 : decode cX4_parse 16 = .ok (.getfield 19, 3) := by decide +kernel
theorem dX4_parse_19 : decode cX4_parse 19 = .ok (.if_icmp .ge 77, 3) := by decide +kernel
theorem dX4_parse_22 : decode cX4_parse 22 = .ok (.aload_n 0, 1) := by decide +kernel
theorem dX4_parse_23 : decode cX4_parse 23 = .ok (.getfield 9, 3) := by decide +kernel
theorem dX4_parse_26 : decode cX4_parse 26 = .ok (.iload_n 3, 1) := by decide +kernel
theorem dX4_parse_27 : decode cX4_parse 27 = .ok (.caload, 1) := by decide +kernel
theorem dX4_parse_28 : decode cX4_parse 28 = .ok (.bipush 47, 2) := by decide +kernel
theorem dX4_parse_30 : decode cX4_parse 30 = .ok (.if_icmp .ne 16, 3) := by decide +kernel
theorem dX4_parse_33 : decode cX4_parse 33 = .ok (.iconst 0, 1) := by decide +kernel
theorem dX4_parse_34 : decode cX4_parse 34 = .ok (.istore_n 1, 1) := by decide +kernel
theorem dX4_parse_35 : decode cX4_parse 35 = .ok (.iinc 2 1, 3) := by decide +kernel
theorem dX4_parse_38 : decode cX4_parse 38 = .ok (.iload_n 2, 1) := by decide +kernel
theorem dX4_parse_39 : decode cX4_parse 39 = .ok (.bipush 10, 2) := by decide +kernel
theorem dX4_parse_41 : decode cX4_parse 41 = .ok (.if_icmp .lt 49, 3) := by decide +kernel
theorem dX4_parse_44 : decode cX4_parse 44 = .ok (.iload_n 3, 1) := by decide +kernel
theorem dX4_parse_45 : decode cX4_parse 45 = .ok (.ireturn, 1) := by decide +kernel
theorem dX4_parse_46 : decode cX4_parse 46 = .ok (.iload_n 1, 1) := by decide +kernel
theorem dX4_parse_47 : decode cX4_parse 47 = .ok (.iload_n 2, 1) := by decide +kernel
theorem dX4_parse_48 : decode cX4_parse 48 = .ok (.invokestatic 33, 3) := by decide +kernel
theorem dX4_parse_51 : decode cX4_parse 51 = .ok (.istore 4, 2) := by decide +kernel
theorem dX4_parse_53 : decode cX4_parse 53 = .ok (.aload_n 0, 1) := by decide +kernel
theorem dX4_parse_54 : decode cX4_parse 54 = .ok (.getfield 9, 3) := by decide +kernel
theorem dX4_parse_57 : decode cX4_parse 57 = .ok (.iload_n 3, 1) := by decide +kernel
theorem dX4_parse_58 : decode cX4_parse 58 = .ok (.caload, 1) := by decide +kernel
theorem dX4_parse_59 : decode cX4_parse 59 = .ok (.invokestatic 37, 3) := by decide +kernel
theorem dX4_parse_62 : decode cX4_parse 62 = .ok (.istore 5, 2) := by decide +kernel
theorem dX4_parse_64 : decode cX4_parse 64 = .ok (.iload 4, 2) := by decide +kernel
theorem dX4_parse_66 : decode cX4_parse 66 = .ok (.iconst (-1), 1) := by decide +kernel
theorem dX4_parse_67 : decode cX4_parse 67 = .ok (.if_icmp .eq 9, 3) := by decide +kernel
theorem dX4_parse_70 : decode cX4_parse 70 = .ok (.iload 5, 2) := by decide +kernel
theorem dX4_parse_72 : decode cX4_parse 72 = .ok (.iconst (-1), 1) := by decide +kernel
theorem dX4_parse_73 : decode cX4_parse 73 = .ok (.if_icmp .ne 5, 3) := by decide +kernel
theorem dX4_parse_76 : decode cX4_parse 76 = .ok (.iload_n 3, 1) := by decide +kernel
theorem dX4_parse_77 : decode cX4_parse 77 = .ok (.ireturn, 1) := by decide +kernel
theorem dX4_parse_78 : decode cX4_parse 78 = .ok (.aload_n 0, 1) := by decide +kernel
theorem dX4_parse_79 : decode cX4_parse 79 = .ok (.getfield 15, 3) := by decide +kernel
theorem dX4_parse_82 : decode cX4_parse 82 = .ok (.iload 4, 2) := by decide +kernel
theorem dX4_parse_84 : decode cX4_parse 84 = .ok (.iload 5, 2) := by decide +kernel
theorem dX4_parse_86 : decode cX4_parse 86 = .ok (.iastore, 1) := by decide +kernel
theorem dX4_parse_87 : decode cX4_parse 87 = .ok (.iinc 1 1, 3) := by decide +kernel
theorem dX4_parse_90 : decode cX4_parse 90 = .ok (.iinc 3 1, 3) := by decide +kernel
theorem dX4_parse_93 : decode cX4_parse 93 = .ok (.goto (-79), 3) := by decide +kernel
theorem dX4_parse_96 : decode cX4_parse 96 = .ok (.iconst (-1), 1) := by decide +kernel
theorem dX4_parse_97 : decode cX4_parse 97 = .ok (.ireturn, 1) := by decide +kernel
theorem dX4_costOf_0 : decode cX4_costOf 0 = .ok (.iload_n 0, 1) := by decide +kernel
theorem dX4_costOf_1 : decode cX4_costOf 1 = .ok (.bipush 35, 2) := by decide +kernel
theorem dX4_costOf_3 : decode cX4_costOf 3 = .ok (.if_icmp .ne 5, 3) := by decide +kernel
theorem dX4_costOf_6 : decode cX4_costOf 6 = .ok (.iconst 0, 1) := by decide +kernel
theorem dX4_costOf_7 : decode cX4_costOf 7 = .ok (.ireturn, 1) := by decide +kernel
theorem dX4_costOf_8 : decode cX4_costOf 8 = .ok (.iload_n 0, 1) := by decide +kernel
theorem dX4_costOf_9 : decode cX4_costOf 9 = .ok (.bipush 49, 2) := by decide +kernel
theorem dX4_costOf_11 : decode cX4_costOf 11 = .ok (.if_icmp .lt 16, 3) := by decide +kernel
theorem dX4_costOf_14 : decode cX4_costOf 14 = .ok (.iload_n 0, 1) := by decide +kernel
theorem dX4_costOf_15 : decode cX4_costOf 15 = .ok (.bipush 57, 2) := by decide +kernel
theorem dX4_costOf_17 : decode cX4_costOf 17 = .ok (.if_icmp .gt 10, 3) := by decide +kernel
theorem dX4_costOf_20 : decode cX4_costOf 20 = .ok (.iload_n 0, 1) := by decide +kernel
theorem dX4_costOf_21 : decode cX4_costOf 21 = .ok (.bipush 48, 2) := by decide +kernel
theorem dX4_costOf_23 : decode cX4_costOf 23 = .ok (.isub, 1) := by decide +kernel
theorem dX4_costOf_24 : decode cX4_costOf 24 = .ok (.goto 4, 3) := by decide +kernel
theorem dX4_costOf_27 : decode cX4_costOf 27 = .ok (.iconst (-1), 1) := by decide +kernel
theorem dX4_costOf_28 : decode cX4_costOf 28 = .ok (.ireturn, 1) := by decide +kernel
theorem dX5_init_0 : decode cX5_init 0 = .ok (.aload_n 0, 1) := by decide +kernel
theorem dX5_init_1 : decode cX5_init 1 = .ok (.invokespecial 3, 3) := by decide +kernel
theorem dX5_init_4 : decode cX5_init 4 = .ok (.aload_n 0, 1) := by decide +kernel
theorem dX5_init_5 : decode cX5_init 5 = .ok (.sipush 140, 3) := by decide +kernel
theorem dX5_init_8 : decode cX5_init 8 = .ok (.newarray .int, 2) := by decide +kernel
theorem dX5_init_10 : decode cX5_init 10 = .ok (.putfield 9, 3) := by decide +kernel
theorem dX5_init_13 : decode cX5_init 13 = .ok (.aload_n 0, 1) := by decide +kernel
theorem dX5_init_14 : decode cX5_init 14 = .ok (.sipush 140, 3) := by decide +kernel
theorem dX5_init_17 : decode cX5_init 17 = .ok (.newarray .int, 2) := by decide +kernel
theorem dX5_init_19 : decode cX5_init 19 = .ok (.putfield 15, 3) := by decide +kernel
theorem dX5_init_22 : decode cX5_init 22 = .ok (.aload_n 0, 1) := by decide +kernel
theorem dX5_init_23 : decode cX5_init 23 = .ok (.iconst 4, 1) := by decide +kernel
theorem dX5_init_24 : decode cX5_init 24 = .ok (.newarray .int, 2) := by decide +kernel
theorem dX5_init_26 : decode cX5_init 26 = .ok (.putfield 18, 3) := by decide +kernel
theorem dX5_init_29 : decode cX5_init 29 = .ok (.aload_n 0, 1) := by decide +kernel
theorem dX5_init_30 : decode cX5_init 30 = .ok (.bipush 16, 2) := by decide +kernel
theorem dX5_init_32 : decode cX5_init 32 = .ok (.newarray .int, 2) := by decide +kernel
theorem dX5_init_34 : decode cX5_init 34 = .ok (.putfield 21, 3) := by decide +kernel
theorem dX5_init_37 : decode cX5_init 37 = .ok (.aload_n 0, 1) := by decide +kernel
theorem dX5_init_38 : decode cX5_init 38 = .ok (.bipush 16, 2) := by decide +kernel
theorem dX5_init_40 : decode cX5_init 40 = .ok (.newarray .int, 2) := by decide +kernel
theorem dX5_init_42 : decode cX5_init 42 = .ok (.putfield 24, 3) := by decide +kernel
theorem dX5_init_45 : decode cX5_init 45 = .ok (.aload_n 0, 1) := by decide +kernel
theorem dX5_init_46 : decode cX5_init 46 = .ok (.bipush 16, 2) := by decide +kernel
theorem dX5_init_48 : decode cX5_init 48 = .ok (.newarray .int, 2) := by decide +kernel
theorem dX5_init_50 : decode cX5_init 50 = .ok (.putfield 27, 3) := by decide +kernel
theorem dX5_init_53 : decode cX5_init 53 = .ok (.aload_n 0, 1) := by decide +kernel
theorem dX5_init_54 : decode cX5_init 54 = .ok (.bipush 16, 2) := by decide +kernel
theorem dX5_init_56 : decode cX5_init 56 = .ok (.newarray .int, 2) := by decide +kernel
theorem dX5_init_58 : decode cX5_init 58 = .ok (.putfield 30, 3) := by decide +kernel
theorem dX5_init_61 : decode cX5_init 61 = .ok (.aload_n 0, 1) := by decide +kernel
theorem dX5_init_62 : decode cX5_init 62 = .ok (.bipush 16, 2) := by decide +kernel
theorem dX5_init_64 : decode cX5_init 64 = .ok (.newarray .int, 2) := by decide +kernel
theorem dX5_init_66 : decode cX5_init 66 = .ok (.putfield 33, 3) := by decide +kernel
theorem dX5_init_69 : decode cX5_init 69 = .ok (.aload_n 0, 1) := by decide +kernel
theorem dX5_init_70 : decode cX5_init 70 = .ok (.bipush 16, 2) := by decide +kernel
theorem dX5_init_72 : decode cX5_init 72 = .ok (.newarray .int, 2) := by decide +kernel
theorem dX5_init_74 : decode cX5_init 74 = .ok (.putfield 36, 3) := by decide +kernel
theorem dX5_init_77 : decode cX5_init 77 = .ok (.aload_n 0, 1) := by decide +kernel
theorem dX5_init_78 : decode cX5_init 78 = .ok (.bipush 16, 2) := by decide +kernel
theorem dX5_init_80 : decode cX5_init 80 = .ok (.newarray .int, 2) := by decide +kernel
theorem dX5_init_82 : decode cX5_init 82 = .ok (.putfield 39, 3) := by decide +kernel
theorem dX5_init_85 : decode cX5_init 85 = .ok (.aload_n 0, 1) := by decide +kernel
theorem dX5_init_86 : decode cX5_init 86 = .ok (.bipush 16, 2) := by decide +kernel
theorem dX5_init_88 : decode cX5_init 88 = .ok (.newarray .int, 2) := by decide +kernel
theorem dX5_init_90 : decode cX5_init 90 = .ok (.putfield 42, 3) := by decide +kernel
theorem dX5_init_93 : decode cX5_init 93 = .ok (.aload_n 0, 1) := by decide +kernel
theorem dX5_init_94 : decode cX5_init 94 = .ok (.iconst 5, 1) := by decide +kernel
theorem dX5_init_95 : decode cX5_init 95 = .ok (.newarray .int, 2) := by decide +kernel
theorem dX5_init_97 : decode cX5_init 97 = .ok (.putfield 45, 3) := by decide +kernel
theorem dX5_init_100 : decode cX5_init 100 = .ok (.aload_n 0, 1) := by decide +kernel
theorem dX5_init_101 : decode cX5_init 101 = .ok (.iconst 3, 1) := by decide +kernel
theorem dX5_init_102 : decode cX5_init 102 = .ok (.putfield 48, 3) := by decide +kernel
theorem dX5_init_105 : decode cX5_init 105 = .ok (.aload_n 0, 1) := by decide +kernel
theorem dX5_init_106 : decode cX5_init 106 = .ok (.getfield 9, 3) := by decide +kernel
theorem dX5_init_109 : decode cX5_init 109 = .ok (.iconst 1, 1) := by decide +kernel
theorem dX5_init_110 : decode cX5_init 110 = .ok (.invokestatic 52, 3) := by decide +kernel
theorem dX5_init_113 : decode cX5_init 113 = .ok (.aload_n 0, 1) := by decide +kernel
theorem dX5_init_114 : decode cX5_init 114 = .ok (.getfield 18, 3) := by decide +kernel
theorem dX5_init_117 : decode cX5_init 117 = .ok (.iconst (-1), 1) := by decide +kernel
theorem dX5_init_118 : decode cX5_init 118 = .ok (.invokestatic 52, 3) := by decide +kernel
theorem dX5_init_121 : decode cX5_init 121 = .ok (.aload_n 0, 1) := by decide +kernel
theorem dX5_init_122 : decode cX5_init 122 = .ok (.getfield 21, 3) := by decide +kernel
theorem dX5_init_125 : decode cX5_init 125 = .ok (.iconst (-1), 1) := by decide +kernel
theorem dX5_init_126 : decode cX5_init 126 = .ok (.invokestatic 52, 3) := by decide +kernel
theorem dX5_init_129 : decode cX5_init 129 = .ok (.aload_n 0, 1) := by decide +kernel
theorem dX5_init_130 : decode cX5_init 130 = .ok (.getfield 24, 3) := by decide +kernel
theorem dX5_init_133 : decode cX5_init 133 = .ok (.iconst (-1), 1) := by decide +kernel
theorem dX5_init_134 : decode cX5_init 134 = .ok (.invokestatic 52, 3) := by decide +kernel
theorem dX5_init_137 : decode cX5_init 137 = .ok (.aload_n 0, 1) := by decide +kernel
theorem dX5_init_138 : decode cX5_init 138 = .ok (.getfield 36, 3) := by decide +kernel
theorem dX5_init_141 : decode cX5_init 141 = .ok (.iconst (-1), 1) := by decide +kernel
theorem dX5_init_142 : decode cX5_init 142 = .ok (.invokestatic 52, 3) := by decide +kernel
theorem dX5_init_145 : decode cX5_init 145 = .ok (.return_, 1) := by decide +kernel
theorem dX5_copyFrom_0 : decode cX5_copyFrom 0 = .ok (.aload_n 1, 1) := by decide +kernel
theorem dX5_copyFrom_1 : decode cX5_copyFrom 1 = .ok (.getfield 9, 3) := by decide +kernel
theorem dX5_copyFrom_4 : decode cX5_copyFrom 4 = .ok (.iconst 0, 1) := by decide +kernel
theorem dX5_copyFrom_5 : decode cX5_copyFrom 5 = .ok (.aload_n 0, 1) := by decide +kernel
theorem dX5_copyFrom_6 : decode cX5_copyFrom 6 = .ok (.getfield 9, 3) := by decide +kernel
theorem dX5_copyFrom_9 : decode cX5_copyFrom 9 = .ok (.iconst 0, 1) := by decide +kernel
theorem dX5_copyFrom_10 : decode cX5_copyFrom 10 = .ok (.sipush 140, 3) := by decide +kernel
theorem dX5_copyFrom_13 : decode cX5_copyFrom 13 = .ok (.invokestatic 58, 3) := by decide +kernel
theorem dX5_copyFrom_16 : decode cX5_copyFrom 16 = .ok (.aload_n 1, 1) := by decide +kernel
theorem dX5_copyFrom_17 : decode cX5_copyFrom 17 = .ok (.getfield 15, 3) := by decide +kernel
theorem dX5_copyFrom_20 : decode cX5_copyFrom 20 = .ok (.iconst 0, 1) := by decide +kernel
theorem dX5_copyFrom_21 : decode cX5_copyFrom 21 = .ok (.aload_n 0, 1) := by decide +kernel
theorem dX5_copyFrom_22 : decode cX5_copyFrom 22 = .ok (.getfield 15, 3) := by decide +kernel
theorem dX5_copyFrom_25 : decode cX5_copyFrom 25 = .ok (.iconst 0, 1) := by decide +kernel
theorem dX5_copyFrom_26 : decode cX5_copyFrom 26 = .ok (.sipush 140, 3) := by decide +kernel
theorem dX5_copyFrom_29 : decode cX5_copyFrom 29 = .ok (.invokestatic 58, 3) := by decide +kernel
theorem dX5_copyFrom_32 : decode cX5_copyFrom 32 = .ok (.aload_n 1, 1) := by decide +kernel
theorem dX5_copyFrom_33 : decode cX5_copyFrom 33 = .ok (.getfield 18, 3) := by decide +kernel
theorem dX5_copyFrom_36 : decode cX5_copyFrom 36 = .ok (.iconst 0, 1) := by decide +kernel
theorem dX5_copyFrom_37 : decode cX5_copyFrom 37 = .ok (.aload_n 0, 1) := by decide +kernel
theorem dX5_copyFrom_38 : decode cX5_copyFrom 38 = .ok (.getfield 18, 3) := by decide +kernel
theorem dX5_copyFrom_41 : decode cX5_copyFrom 41 = .ok (.iconst 0, 1) := by decide +kernel
theorem dX5_copyFrom_42 : decode cX5_copyFrom 42 = .ok (.iconst 4, 1) := by decide +kernel
theorem dX5_copyFrom_43 : decode cX5_copyFrom 43 = .ok (.invokestatic 58, 3) := by decide +kernel
theorem dX5_copyFrom_46 : decode cX5_copyFrom 46 = .ok (.aload_n 1, 1) := by decide +kernel
theorem dX5_copyFrom_47 : decode cX5_copyFrom 47 = .ok (.getfield 21, 3) := by decide +kernel
theorem dX5_copyFrom_50 : decode cX5_copyFrom 50 = .ok (.iconst 0, 1) := by decide +kernel
theorem dX5_copyFrom_51 : decode cX5_copyFrom 51 = .ok (.aload_n 0, 1) := by decide +kernel
theorem dX5_copyFrom_52 : decode cX5_copyFrom 52 = .ok (.getfield 21, 3) := by decide +kernel
theorem dX5_copyFrom_55 : decode cX5_copyFrom 55 = .ok (.iconst 0, 1) := by decide +kernel
theorem dX5_copyFrom_56 : decode cX5_copyFrom 56 = .ok (.bipush 16, 2) := by decide +kernel
theorem dX5_copyFrom_58 : decode cX5_copyFrom 58 = .ok (.invokestatic 58, 3) := by decide +kernel
theorem dX5_copyFrom_61 : decode cX5_copyFrom 61 = .ok (.aload_n 1, 1) := by decide +kernel
theorem dX5_copyFrom_62 : decode cX5_copyFrom 62 = .ok (.getfield 24, 3) := by decide +kernel
theorem dX5_copyFrom_65 : decode cX5_copyFrom 65 = .ok (.iconst 0, 1) := by decide +kernel
theorem dX5_copyFrom_66 : decode cX5_copyFrom 66 = .ok (.aload_n 0, 1) := by decide +kernel
theorem dX5_copyFrom_67 : decode cX5_copyFrom 67 = .ok (.getfield 24, 3) := by decide +kernel
theorem dX5_copyFrom_70 : decode cX5_copyFrom 70 = .ok (.iconst 0, 1) := by decide +kernel
theorem dX5_copyFrom_71 : decode cX5_copyFrom 71 = .ok (.bipush 16, 2) := by decide +kernel
theorem dX5_copyFrom_73 : decode cX5_copyFrom 73 = .ok (.invokestatic 58, 3) := by decide +kernel
theorem dX5_copyFrom_76 : decode cX5_copyFrom 76 = .ok (.aload_n 1, 1) := by decide +kernel
theorem dX5_copyFrom_77 : decode cX5_copyFrom 77 = .ok (.getfield 27, 3) := by decide +kernel
theorem dX5_copyFrom_80 : decode cX5_copyFrom 80 = .ok (.iconst 0, 1) := by decide +kernel
theorem dX5_copyFrom_81 : decode cX5_copyFrom 81 = .ok (.aload_n 0, 1) := by decide +kernel
theorem dX5_copyFrom_82 : decode cX5_copyFrom 82 = .ok (.getfield 27, 3) := by decide +kernel
theorem dX5_copyFrom_85 : decode cX5_copyFrom 85 = .ok (.iconst 0, 1) := by decide +kernel
theorem dX5_copyFrom_86 : decode cX5_copyFrom 86 = .ok (.bipush 16, 2) := by decide +kernel
theorem dX5_copyFrom_88 : decode cX5_copyFrom 88 = .ok (.invokestatic 58, 3) := by decide +kernel
theorem dX5_copyFrom_91 : decode cX5_copyFrom 91 = .ok (.aload_n 1, 1) := by decide +kernel
theorem dX5_copyFrom_92 : decode cX5_copyFrom 92 = .ok (.getfield 30, 3) := by decide +kernel
theorem dX5_copyFrom_95 : decode cX5_copyFrom 95 = .ok (.iconst 0, 1) := by decide +kernel
theorem dX5_copyFrom_96 : decode cX5_copyFrom 96 = .ok (.aload_n 0, 1) := by decide +kernel
theorem dX5_copyFrom_97 : decode cX5_copyFrom 97 = .ok (.getfield 30, 3) := by decide +kernel
theorem dX5_copyFrom_100 : decode cX5_copyFrom 100 = .ok (.iconst 0, 1) := by decide +kernel
theorem dX5_copyFrom_101 : decode cX5_copyFrom 101 = .ok (.bipush 16, 2) := by decide +kernel
theorem dX5_copyFrom_103 : decode cX5_copyFrom 103 = .ok (.invokestatic 58, 3) := by decide +kernel
theorem dX5_copyFrom_106 : decode cX5_copyFrom 106 = .ok (.aload_n 1, 1) := by decide +kernel
theorem dX5_copyFrom_107 : decode cX5_copyFrom 107 = .ok (.getfield 33, 3) := by decide +kernel
theorem dX5_copyFrom_110 : decode cX5_copyFrom 110 = .ok (.iconst 0, 1) := by decide +kernel
theorem dX5_copyFrom_111 : decode cX5_copyFrom 111 = .ok (.aload_n 0, 1) := by decide +kernel
theorem dX5_copyFrom_112 : decode cX5_copyFrom 112 = .ok (.getfield 33, 3) := by decide +kernel
theorem dX5_copyFrom_115 : decode cX5_copyFrom 115 = .ok (.iconst 0, 1) := by decide +kernel
theorem dX5_copyFrom_116 : decode cX5_copyFrom 116 = .ok (.bipush 16, 2) := by decide +kernel
theorem dX5_copyFrom_118 : decode cX5_copyFrom 118 = .ok (.invokestatic 58, 3) := by decide +kernel
theorem dX5_copyFrom_121 : decode cX5_copyFrom 121 = .ok (.aload_n 1, 1) := by decide +kernel
theorem dX5_copyFrom_122 : decode cX5_copyFrom 122 = .ok (.getfield 36, 3) := by decide +kernel
theorem dX5_copyFrom_125 : decode cX5_copyFrom 125 = .ok (.iconst 0, 1) := by decide +kernel
theorem dX5_copyFrom_126 : decode cX5_copyFrom 126 = .ok (.aload_n 0, 1) := by decide +kernel
theorem dX5_copyFrom_127 : decode cX5_copyFrom 127 = .ok (.getfield 36, 3) := by decide +kernel
theorem dX5_copyFrom_130 : decode cX5_copyFrom 130 = .ok (.iconst 0, 1) := by decide +kernel
theorem dX5_copyFrom_131 : decode cX5_copyFrom 131 = .ok (.bipush 16, 2) := by decide +kernel
theorem dX5_copyFrom_133 : decode cX5_copyFrom 133 = .ok (.invokestatic 58, 3) := by decide +kernel
theorem dX5_copyFrom_136 : decode cX5_copyFrom 136 = .ok (.aload_n 1, 1) := by decide +kernel
theorem dX5_copyFrom_137 : decode cX5_copyFrom 137 = .ok (.getfield 39, 3) := by decide +kernel
theorem dX5_copyFrom_140 : decode cX5_copyFrom 140 = .ok (.iconst 0, 1) := by decide +kernel
theorem dX5_copyFrom_141 : decode cX5_copyFrom 141 = .ok (.aload_n 0, 1) := by decide +kernel
theorem dX5_copyFrom_142 : decode cX5_copyFrom 142 = .ok (.getfield 39, 3) := by decide +kernel
theorem dX5_copyFrom_145 : decode cX5_copyFrom 145 = .ok (.iconst 0, 1) := by decide +kernel
theorem dX5_copyFrom_146 : decode cX5_copyFrom 146 = .ok (.bipush 16, 2) := by decide +kernel
theorem dX5_copyFrom_148 : decode cX5_copyFrom 148 = .ok (.invokestatic 58, 3) := by decide +kernel
theorem dX5_copyFrom_151 : decode cX5_copyFrom 151 = .ok (.aload_n 1, 1) := by decide +kernel
theorem dX5_copyFrom_152 : decode cX5_copyFrom 152 = .ok (.getfield 42, 3) := by decide +kernel
theorem dX5_copyFrom_155 : decode cX5_copyFrom 155 = .ok (.iconst 0, 1) := by decide +kernel
theorem dX5_copyFrom_156 : decode cX5_copyFrom 156 = .ok (.aload_n 0, 1) := by decide +kernel
theorem dX5_copyFrom_157 : decode cX5_copyFrom 157 = .ok (.getfield 42, 3) := by decide +kernel
theorem dX5_copyFrom_160 : decode cX5_copyFrom 160 = .ok (.iconst 0, 1) := by decide +kernel
theorem dX5_copyFrom_161 : decode cX5_copyFrom 161 = .ok (.bipush 16, 2) := by decide +kernel
theorem dX5_copyFrom_163 : decode cX5_copyFrom 163 = .ok (.invokestatic 58, 3) := by decide +kernel
theorem dX5_copyFrom_166 : decode cX5_copyFrom 166 = .ok (.aload_n 1, 1) := by decide +kernel
theorem dX5_copyFrom_167 : decode cX5_copyFrom 167 = .ok (.getfield 45, 3) := by decide +kernel
theorem dX5_copyFrom_170 : decode cX5_copyFrom 170 = .ok (.iconst 0, 1) := by decide +kernel
theorem dX5_copyFrom_171 : decode cX5_copyFrom 171 = .ok (.aload_n 0, 1) := by decide +kernel
theorem dX5_copyFrom_172 : decode cX5_copyFrom 172 = .ok (.getfield 45, 3) := by decide +kernel
theorem dX5_copyFrom_175 : decode cX5_copyFrom 175 = .ok (.iconst 0, 1) := by decide +kernel
theorem dX5_copyFrom_176 : decode cX5_copyFrom 176 = .ok (.iconst 5, 1) := by decide +kernel
theorem dX5_copyFrom_177 : decode cX5_copyFrom 177 = .ok (.invokestatic 58, 3) := by decide +kernel
theorem dX5_copyFrom_180 : decode cX5_copyFrom 180 = .ok (.aload_n 0, 1) := by decide +kernel
theorem dX5_copyFrom_181 : decode cX5_copyFrom 181 = .ok (.aload_n 1, 1) := by decide +kernel
theorem dX5_copyFrom_182 : decode cX5_copyFrom 182 = .ok (.getfield 48, 3) := by decide +kernel
theorem dX5_copyFrom_185 : decode cX5_copyFrom 185 = .ok (.putfield 48, 3) := by decide +kernel
theorem dX5_copyFrom_188 : decode cX5_copyFrom 188 = .ok (.return_, 1) := by decide +kernel
theorem dX5_place_0 : decode cX5_place 0 = .ok (.aload_n 0, 1) := by decide +kernel
theorem dX5_place_1 : decode cX5_place 1 = .ok (.getfield 21, 3) := by decide +kernel
theorem dX5_place_4 : decode cX5_place 4 = .ok (.iload_n 1, 1) := by decide +kernel
theorem dX5_place_5 : decode cX5_place 5 = .ok (.iload_n 2, 1) := by decide +kernel
theorem dX5_place_6 : decode cX5_place 6 = .ok (.iastore, 1) := by decide +kernel
theorem dX5_place_7 : decode cX5_place 7 = .ok (.aload_n 0, 1) := by decide +kernel
theorem dX5_place_8 : decode cX5_place 8 = .ok (.getfield 24, 3) := by decide +kernel
theorem dX5_place_11 : decode cX5_place 11 = .ok (.iload_n 1, 1) := by decide +kernel
theorem dX5_place_12 : decode cX5_place 12 = .ok (.iload_n 3, 1) := by decide +kernel
theorem dX5_place_13 : decode cX5_place 13 = .ok (.iastore, 1) := by decide +kernel
theorem dX5_place_14 : decode cX5_place 14 = .ok (.aload_n 0, 1) := by decide +kernel
theorem dX5_place_15 : decode cX5_place 15 = .ok (.getfield 27, 3) := by decide +kernel
theorem dX5_place_18 : decode cX5_place 18 = .ok (.iload_n 1, 1) := by decide +kernel
theorem dX5_place_19 : decode cX5_place 19 = .ok (.iload 4, 2) := by decide +kernel
theorem dX5_place_21 : decode cX5_place 21 = .ok (.iastore, 1) := by decide +kernel
theorem dX5_place_22 : decode cX5_place 22 = .ok (.aload_n 0, 1) := by decide +kernel
theorem dX5_place_23 : decode cX5_place 23 = .ok (.getfield 30, 3) := by decide +kernel
theorem dX5_place_26 : decode cX5_place 26 = .ok (.iload_n 1, 1) := by decide +kernel
theorem dX5_place_27 : decode cX5_place 27 = .ok (.iconst 0, 1) := by decide +kernel
theorem dX5_place_28 : decode cX5_place 28 = .ok (.iastore, 1) := by decide +kernel
theorem dX5_place_29 : decode cX5_place 29 = .ok (.aload_n 0, 1) := by decide +kernel
theorem dX5_place_30 : decode cX5_place 30 = .ok (.getfield 33, 3) := by decide +kernel
theorem dX5_place_33 : decode cX5_place 33 = .ok (.iload_n 1, 1) := by decide +kernel
theorem dX5_place_34 : decode cX5_place 34 = .ok (.iconst 0, 1) := by decide +kernel
theorem dX5_place_35 : decode cX5_place 35 = .ok (.iastore, 1) := by decide +kernel
theorem dX5_place_36 : decode cX5_place 36 = .ok (.aload_n 0, 1) := by decide +kernel
theorem dX5_place_37 : decode cX5_place 37 = .ok (.getfield 36, 3) := by decide +kernel
theorem dX5_place_40 : decode cX5_place 40 = .ok (.iload_n 1, 1) := by decide +kernel
theorem dX5_place_41 : decode cX5_place 41 = .ok (.iconst (-1), 1) := by decide +kernel
theorem dX5_place_42 : decode cX5_place 42 = .ok (.iastore, 1) := by decide +kernel
theorem dX5_place_43 : decode cX5_place 43 = .ok (.return_, 1) := by decide +kernel
theorem dX5_erase_0 : decode cX5_erase 0 = .ok (.aload_n 0, 1) := by decide +kernel
theorem dX5_erase_1 : decode cX5_erase 1 = .ok (.getfield 21, 3) := by decide +kernel
theorem dX5_erase_4 : decode cX5_erase 4 = .ok (.iload_n 1, 1) := by decide +kernel
theorem dX5_erase_5 : decode cX5_erase 5 = .ok (.iconst (-1), 1) := by decide +kernel
theorem dX5_erase_6 : decode cX5_erase 6 = .ok (.iastore, 1) := by decide +kernel
theorem dX5_erase_7 : decode cX5_erase 7 = .ok (.aload_n 0, 1) := by decide +kernel
theorem dX5_erase_8 : decode cX5_erase 8 = .ok (.getfield 24, 3) := by decide +kernel
theorem dX5_erase_11 : decode cX5_erase 11 = .ok (.iload_n 1, 1) := by decide +kernel
theorem dX5_erase_12 : decode cX5_erase 12 = .ok (.iconst (-1), 1) := by decide +kernel
theorem dX5_erase_13 : decode cX5_erase 13 = .ok (.iastore, 1) := by decide +kernel
theorem dX5_erase_14 : decode cX5_erase 14 = .ok (.aload_n 0, 1) := by decide +kernel
theorem dX5_erase_15 : decode cX5_erase 15 = .ok (.getfield 36, 3) := by decide +kernel
theorem dX5_erase_18 : decode cX5_erase 18 = .ok (.iload_n 1, 1) := by decide +kernel
theorem dX5_erase_19 : decode cX5_erase 19 = .ok (.iconst (-1), 1) := by decide +kernel
theorem dX5_erase_20 : decode cX5_erase 20 = .ok (.iastore, 1) := by decide +kernel
theorem dX5_erase_21 : decode cX5_erase 21 = .ok (.iconst 0, 1) := by decide +kernel
theorem dX5_erase_22 : decode cX5_erase 22 = .ok (.istore_n 2, 1) := by decide +kernel
theorem dX5_erase_23 : decode cX5_erase 23 = .ok (.iload_n 2, 1) := by decide +kernel
theorem dX5_erase_24 : decode cX5_erase 24 = .ok (.bipush 16, 2) := by decide +kernel
theorem dX5_erase_26 : decode cX5_erase 26 = .ok (.if_icmp .ge 26, 3) := by decide +kernel
theorem dX5_erase_29 : decode cX5_erase 29 = .ok (.aload_n 0, 1) := by decide +kernel
theorem dX5_erase_30 : decode cX5_erase 30 = .ok (.getfield 36, 3) := by decide +kernel
theorem dX5_erase_33 : decode cX5_erase 33 = .ok (.iload_n 2, 1) := by decide +kernel
theorem dX5_erase_34 : decode cX5_erase 34 = .ok (.iaload, 1) := by decide +kernel
theorem dX5_erase_35 : decode cX5_erase 35 = .ok (.iload_n 1, 1) := by decide +kernel
theorem dX5_erase_36 : decode cX5_erase 36 = .ok (.if_icmp .ne 10, 3) := by decide +kernel
theorem dX5_erase_39 : decode cX5_erase 39 = .ok (.aload_n 0, 1) := by decide +kernel
theorem dX5_erase_40 : decode cX5_erase 40 = .ok (.getfield 36, 3) := by decide +kernel
theorem dX5_erase_43 : decode cX5_erase 43 = .ok (.iload_n 2, 1) := by decide +kernel
theorem dX5_erase_44 : decode cX5_erase 44 = .ok (.iconst (-1), 1) := by decide +kernel
theorem dX5_erase_45 : decode cX5_erase 45 = .ok (.iastore, 1) := by decide +kernel
theorem dX5_erase_46 : decode cX5_erase 46 = .ok (.iinc 2 1, 3) := by decide +kernel
theorem dX5_erase_49 : decode cX5_erase 49 = .ok (.goto (-26), 3) := by decide +kernel
theorem dX5_erase_52 : decode cX5_erase 52 = .ok (.return_, 1) := by decide +kernel
