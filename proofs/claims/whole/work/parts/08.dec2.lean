theorem dX5_total_100 : decode cX5_total 100 = .ok (.ireturn, 1) := by decide +kernel
theorem dX5_total_101 : decode cX5_total 101 = .ok (.iload_n 1, 1) := by decide +kernel
theorem dX5_total_102 : decode cX5_total 102 = .ok (.bipush 9, 2) := by decide +kernel
theorem dX5_total_104 : decode cX5_total 104 = .ok (.isub, 1) := by decide +kernel
theorem dX5_total_105 : decode cX5_total 105 = .ok (.istore_n 2, 1) := by decide +kernel
theorem dX5_total_106 : decode cX5_total 106 = .ok (.iload_n 2, 1) := by decide +kernel
theorem dX5_total_107 : decode cX5_total 107 = .ok (.iconst 4, 1) := by decide +kernel
theorem dX5_total_108 : decode cX5_total 108 = .ok (.invokestatic 72, 3) := by decide +kernel
theorem dX5_total_111 : decode cX5_total 111 = .ok (.ifCond .eq 12, 3) := by decide +kernel
theorem dX5_total_114 : decode cX5_total 114 = .ok (.aload_n 0, 1) := by decide +kernel
theorem dX5_total_115 : decode cX5_total 115 = .ok (.getfield 9, 3) := by decide +kernel
theorem dX5_total_118 : decode cX5_total 118 = .ok (.iload_n 2, 1) := by decide +kernel
theorem dX5_total_119 : decode cX5_total 119 = .ok (.iaload, 1) := by decide +kernel
theorem dX5_total_120 : decode cX5_total 120 = .ok (.goto 5, 3) := by decide +kernel
theorem dX5_total_123 : decode cX5_total 123 = .ok (.bipush (-2), 2) := by decide +kernel
theorem dX5_total_125 : decode cX5_total 125 = .ok (.ireturn, 1) := by decide +kernel
theorem dX5_waitingSet_0 : decode cX5_waitingSet 0 = .ok (.iconst 0, 1) := by decide +kernel
theorem dX5_waitingSet_1 : decode cX5_waitingSet 1 = .ok (.istore_n 1, 1) := by decide +kernel
theorem dX5_waitingSet_2 : decode cX5_waitingSet 2 = .ok (.iconst 0, 1) := by decide +kernel
theorem dX5_waitingSet_3 : decode cX5_waitingSet 3 = .ok (.istore_n 2, 1) := by decide +kernel
theorem dX5_waitingSet_4 : decode cX5_waitingSet 4 = .ok (.iload_n 2, 1) := by decide +kernel
theorem dX5_waitingSet_5 : decode cX5_waitingSet 5 = .ok (.aload_n 0, 1) := by decide +kernel
theorem dX5_waitingSet_6 : decode cX5_waitingSet 6 = .ok (.getfield 60, 3) := by decide +kernel
theorem dX5_waitingSet_9 : decode cX5_waitingSet 9 = .ok (.if_icmp .ge 27, 3) := by decide +kernel
theorem dX5_waitingSet_12 : decode cX5_waitingSet 12 = .ok (.aload_n 0, 1) := by decide +kernel
theorem dX5_waitingSet_13 : decode cX5_waitingSet 13 = .ok (.getfield 23, 3) := by decide +kernel
theorem dX5_waitingSet_16 : decode cX5_waitingSet 16 = .ok (.iload_n 2, 1) := by decide +kernel
theorem dX5_waitingSet_17 : decode cX5_waitingSet 17 = .ok (.aaload, 1) := by decide +kernel
theorem dX5_waitingSet_18 : decode cX5_waitingSet 18 = .ok (.invokevirtual 110, 3) := by decide +kernel
theorem dX5_waitingSet_21 : decode cX5_waitingSet 21 = .ok (.ifCond .eq 9, 3) := by decide +kernel
theorem dX5_waitingSet_24 : decode cX5_waitingSet 24 = .ok (.iload_n 1, 1) := by decide +kernel
theorem dX5_waitingSet_25 : decode cX5_waitingSet 25 = .ok (.iconst 1, 1) := by decide +kernel
theorem dX5_waitingSet_26 : decode cX5_waitingSet 26 = .ok (.iload_n 2, 1) := by decide +kernel
theorem dX5_waitingSet_27 : decode cX5_waitingSet 27 = .ok (.ishl, 1) := by decide +kernel
theorem dX5_waitingSet_28 : decode cX5_waitingSet 28 = .ok (.ior, 1) := by decide +kernel
theorem dX5_waitingSet_29 : decode cX5_waitingSet 29 = .ok (.istore_n 1, 1) := by decide +kernel
theorem dX5_waitingSet_30 : decode cX5_waitingSet 30 = .ok (.iinc 2 1, 3) := by decide +kernel
theorem dX5_waitingSet_33 : decode cX5_waitingSet 33 = .ok (.goto (-29), 3) := by decide +kernel
theorem dX5_waitingSet_36 : decode cX5_waitingSet 36 = .ok (.iload_n 1, 1) := by decide +kernel
theorem dX5_waitingSet_37 : decode cX5_waitingSet 37 = .ok (.ireturn, 1) := by decide +kernel
theorem dX5_sumOverCarts_0 : decode cX5_sumOverCarts 0 = .ok (.iconst 0, 1) := by decide +kernel
theorem dX5_sumOverCarts_1 : decode cX5_sumOverCarts 1 = .ok (.istore_n 2, 1) := by decide +kernel
theorem dX5_sumOverCarts_2 : decode cX5_sumOverCarts 2 = .ok (.iconst 0, 1) := by decide +kernel
theorem dX5_sumOverCarts_3 : decode cX5_sumOverCarts 3 = .ok (.istore_n 3, 1) := by decide +kernel
theorem dX5_sumOverCarts_4 : decode cX5_sumOverCarts 4 = .ok (.iload_n 3, 1) := by decide +kernel
theorem dX5_sumOverCarts_5 : decode cX5_sumOverCarts 5 = .ok (.aload_n 0, 1) := by decide +kernel
theorem dX5_sumOverCarts_6 : decode cX5_sumOverCarts 6 = .ok (.getfield 60, 3) := by decide +kernel
theorem dX5_sumOverCarts_9 : decode cX5_sumOverCarts 9 = .ok (.if_icmp .ge 22, 3) := by decide +kernel
theorem dX5_sumOverCarts_12 : decode cX5_sumOverCarts 12 = .ok (.iload_n 2, 1) := by decide +kernel
theorem dX5_sumOverCarts_13 : decode cX5_sumOverCarts 13 = .ok (.aload_n 0, 1) := by decide +kernel
theorem dX5_sumOverCarts_14 : decode cX5_sumOverCarts 14 = .ok (.getfield 23, 3) := by decide +kernel
theorem dX5_sumOverCarts_17 : decode cX5_sumOverCarts 17 = .ok (.iload_n 3, 1) := by decide +kernel
theorem dX5_sumOverCarts_18 : decode cX5_sumOverCarts 18 = .ok (.aaload, 1) := by decide +kernel
theorem dX5_sumOverCarts_19 : decode cX5_sumOverCarts 19 = .ok (.iload_n 1, 1) := by decide +kernel
theorem dX5_sumOverCarts_20 : decode cX5_sumOverCarts 20 = .ok (.invokevirtual 210, 3) := by decide +kernel
theorem dX5_sumOverCarts_23 : decode cX5_sumOverCarts 23 = .ok (.iadd, 1) := by decide +kernel
theorem dX5_sumOverCarts_24 : decode cX5_sumOverCarts 24 = .ok (.istore_n 2, 1) := by decide +kernel
theorem dX5_sumOverCarts_25 : decode cX5_sumOverCarts 25 = .ok (.iinc 3 1, 3) := by decide +kernel
theorem dX5_sumOverCarts_28 : decode cX5_sumOverCarts 28 = .ok (.goto (-24), 3) := by decide +kernel
theorem dX5_sumOverCarts_31 : decode cX5_sumOverCarts 31 = .ok (.iload_n 2, 1) := by decide +kernel
theorem dX5_sumOverCarts_32 : decode cX5_sumOverCarts 32 = .ok (.ireturn, 1) := by decide +kernel
theorem dX5_sumOverBridges_0 : decode cX5_sumOverBridges 0 = .ok (.iconst 0, 1) := by decide +kernel
theorem dX5_sumOverBridges_1 : decode cX5_sumOverBridges 1 = .ok (.istore_n 2, 1) := by decide +kernel
theorem dX5_sumOverBridges_2 : decode cX5_sumOverBridges 2 = .ok (.iconst 0, 1) := by decide +kernel
theorem dX5_sumOverBridges_3 : decode cX5_sumOverBridges 3 = .ok (.istore_n 3, 1) := by decide +kernel
theorem dX5_sumOverBridges_4 : decode cX5_sumOverBridges 4 = .ok (.iload_n 3, 1) := by decide +kernel
theorem dX5_sumOverBridges_5 : decode cX5_sumOverBridges 5 = .ok (.aload_n 0, 1) := by decide +kernel
theorem dX5_sumOverBridges_6 : decode cX5_sumOverBridges 6 = .ok (.getfield 57, 3) := by decide +kernel
theorem dX5_sumOverBridges_9 : decode cX5_sumOverBridges 9 = .ok (.if_icmp .ge 22, 3) := by decide +kernel
theorem dX5_sumOverBridges_12 : decode cX5_sumOverBridges 12 = .ok (.iload_n 2, 1) := by decide +kernel
theorem dX5_sumOverBridges_13 : decode cX5_sumOverBridges 13 = .ok (.aload_n 0, 1) := by decide +kernel
theorem dX5_sumOverBridges_14 : decode cX5_sumOverBridges 14 = .ok (.getfield 17, 3) := by decide +kernel
theorem dX5_sumOverBridges_17 : decode cX5_sumOverBridges 17 = .ok (.iload_n 3, 1) := by decide +kernel
theorem dX5_sumOverBridges_18 : decode cX5_sumOverBridges 18 = .ok (.aaload, 1) := by decide +kernel
theorem dX5_sumOverBridges_19 : decode cX5_sumOverBridges 19 = .ok (.iload_n 1, 1) := by decide +kernel
theorem dX5_sumOverBridges_20 : decode cX5_sumOverBridges 20 = .ok (.invokevirtual 213, 3) := by decide +kernel
theorem dX5_sumOverBridges_23 : decode cX5_sumOverBridges 23 = .ok (.iadd, 1) := by decide +kernel
theorem dX5_sumOverBridges_24 : decode cX5_sumOverBridges 24 = .ok (.istore_n 2, 1) := by decide +kernel
theorem dX5_sumOverBridges_25 : decode cX5_sumOverBridges 25 = .ok (.iinc 3 1, 3) := by decide +kernel
theorem dX5_sumOverBridges_28 : decode cX5_sumOverBridges 28 = .ok (.goto (-24), 3) := by decide +kernel
theorem dX5_sumOverBridges_31 : decode cX5_sumOverBridges 31 = .ok (.iload_n 2, 1) := by decide +kernel
theorem dX5_sumOverBridges_32 : decode cX5_sumOverBridges 32 = .ok (.ireturn, 1) := by decide +kernel
theorem dX5_stepsBetween_0 : decode cX5_stepsBetween 0 = .ok (.iconst 1, 1) := by decide +kernel
theorem dX5_stepsBetween_1 : decode cX5_stepsBetween 1 = .ok (.iload_n 1, 1) := by decide +kernel
theorem dX5_stepsBetween_2 : decode cX5_stepsBetween 2 = .ok (.ishl, 1) := by decide +kernel
theorem dX5_stepsBetween_3 : decode cX5_stepsBetween 3 = .ok (.istore_n 3, 1) := by decide +kernel
theorem dX5_stepsBetween_4 : decode cX5_stepsBetween 4 = .ok (.iconst 0, 1) := by decide +kernel
theorem dX5_stepsBetween_5 : decode cX5_stepsBetween 5 = .ok (.istore 4, 2) := by decide +kernel
theorem dX5_stepsBetween_7 : decode cX5_stepsBetween 7 = .ok (.iload 4, 2) := by decide +kernel
theorem dX5_stepsBetween_9 : decode cX5_stepsBetween 9 = .ok (.bipush 8, 2) := by decide +kernel
theorem dX5_stepsBetween_11 : decode cX5_stepsBetween 11 = .ok (.if_icmp .ge 27, 3) := by decide +kernel
theorem dX5_stepsBetween_14 : decode cX5_stepsBetween 14 = .ok (.iload_n 3, 1) := by decide +kernel
theorem dX5_stepsBetween_15 : decode cX5_stepsBetween 15 = .ok (.iload_n 2, 1) := by decide +kernel
theorem dX5_stepsBetween_16 : decode cX5_stepsBetween 16 = .ok (.ishr, 1) := by decide +kernel
theorem dX5_stepsBetween_17 : decode cX5_stepsBetween 17 = .ok (.iconst 1, 1) := by decide +kernel
theorem dX5_stepsBetween_18 : decode cX5_stepsBetween 18 = .ok (.iand, 1) := by decide +kernel
theorem dX5_stepsBetween_19 : decode cX5_stepsBetween 19 = .ok (.iconst 1, 1) := by decide +kernel
theorem dX5_stepsBetween_20 : decode cX5_stepsBetween 20 = .ok (.if_icmp .ne 6, 3) := by decide +kernel
theorem dX5_stepsBetween_23 : decode cX5_stepsBetween 23 = .ok (.iload 4, 2) := by decide +kernel
theorem dX5_stepsBetween_25 : decode cX5_stepsBetween 25 = .ok (.ireturn, 1) := by decide +kernel
theorem dX5_stepsBetween_26 : decode cX5_stepsBetween 26 = .ok (.aload_n 0, 1) := by decide +kernel
theorem dX5_stepsBetween_27 : decode cX5_stepsBetween 27 = .ok (.iload_n 3, 1) := by decide +kernel
theorem dX5_stepsBetween_28 : decode cX5_stepsBetween 28 = .ok (.invokevirtual 214, 3) := by decide +kernel
theorem dX5_stepsBetween_31 : decode cX5_stepsBetween 31 = .ok (.istore_n 3, 1) := by decide +kernel
theorem dX5_stepsBetween_32 : decode cX5_stepsBetween 32 = .ok (.iinc 4 1, 3) := by decide +kernel
theorem dX5_stepsBetween_35 : decode cX5_stepsBetween 35 = .ok (.goto (-28), 3) := by decide +kernel
theorem dX5_stepsBetween_38 : decode cX5_stepsBetween 38 = .ok (.bipush (-6), 2) := by decide +kernel
theorem dX5_stepsBetween_40 : decode cX5_stepsBetween 40 = .ok (.ireturn, 1) := by decide +kernel
theorem dX5_withNeighbours_0 : decode cX5_withNeighbours 0 = .ok (.iload_n 1, 1) := by decide +kernel
theorem dX5_withNeighbours_1 : decode cX5_withNeighbours 1 = .ok (.istore_n 2, 1) := by decide +kernel
theorem dX5_withNeighbours_2 : decode cX5_withNeighbours 2 = .ok (.iconst 0, 1) := by decide +kernel
theorem dX5_withNeighbours_3 : decode cX5_withNeighbours 3 = .ok (.istore_n 3, 1) := by decide +kernel
theorem dX5_withNeighbours_4 : decode cX5_withNeighbours 4 = .ok (.iload_n 3, 1) := by decide +kernel
theorem dX5_withNeighbours_5 : decode cX5_withNeighbours 5 = .ok (.aload_n 0, 1) := by decide +kernel
theorem dX5_withNeighbours_6 : decode cX5_withNeighbours 6 = .ok (.getfield 57, 3) := by decide +kernel
theorem dX5_withNeighbours_9 : decode cX5_withNeighbours 9 = .ok (.if_icmp .ge 32, 3) := by decide +kernel
theorem dX5_withNeighbours_12 : decode cX5_withNeighbours 12 = .ok (.aload_n 0, 1) := by decide +kernel
theorem dX5_withNeighbours_13 : decode cX5_withNeighbours 13 = .ok (.getfield 17, 3) := by decide +kernel
theorem dX5_withNeighbours_16 : decode cX5_withNeighbours 16 = .ok (.iload_n 3, 1) := by decide +kernel
theorem dX5_withNeighbours_17 : decode cX5_withNeighbours 17 = .ok (.aaload, 1) := by decide +kernel
theorem dX5_withNeighbours_18 : decode cX5_withNeighbours 18 = .ok (.invokevirtual 217, 3) := by decide +kernel
theorem dX5_withNeighbours_21 : decode cX5_withNeighbours 21 = .ok (.istore 4, 2) := by decide +kernel
theorem dX5_withNeighbours_23 : decode cX5_withNeighbours 23 = .ok (.iload_n 1, 1) := by decide +kernel
theorem dX5_withNeighbours_24 : decode cX5_withNeighbours 24 = .ok (.iload 4, 2) := by decide +kernel
theorem dX5_withNeighbours_26 : decode cX5_withNeighbours 26 = .ok (.iand, 1) := by decide +kernel
theorem dX5_withNeighbours_27 : decode cX5_withNeighbours 27 = .ok (.ifCond .eq 8, 3) := by decide +kernel
theorem dX5_withNeighbours_30 : decode cX5_withNeighbours 30 = .ok (.iload_n 2, 1) := by decide +kernel
theorem dX5_withNeighbours_31 : decode cX5_withNeighbours 31 = .ok (.iload 4, 2) := by decide +kernel
theorem dX5_withNeighbours_33 : decode cX5_withNeighbours 33 = .ok (.ior, 1) := by decide +kernel
theorem dX5_withNeighbours_34 : decode cX5_withNeighbours 34 = .ok (.istore_n 2, 1) := by decide +kernel
theorem dX5_withNeighbours_35 : decode cX5_withNeighbours 35 = .ok (.iinc 3 1, 3) := by decide +kernel
theorem dX5_withNeighbours_38 : decode cX5_withNeighbours 38 = .ok (.goto (-34), 3) := by decide +kernel
theorem dX5_withNeighbours_41 : decode cX5_withNeighbours 41 = .ok (.iload_n 2, 1) := by decide +kernel
theorem dX5_withNeighbours_42 : decode cX5_withNeighbours 42 = .ok (.ireturn, 1) := by decide +kernel
theorem dX5_firstBridge_0 : decode cX5_firstBridge 0 = .ok (.iconst 0, 1) := by decide +kernel
theorem dX5_firstBridge_1 : decode cX5_firstBridge 1 = .ok (.istore 4, 2) := by decide +kernel
theorem dX5_firstBridge_3 : decode cX5_firstBridge 3 = .ok (.iload 4, 2) := by decide +kernel
theorem dX5_firstBridge_5 : decode cX5_firstBridge 5 = .ok (.aload_n 0, 1) := by decide +kernel
theorem dX5_firstBridge_6 : decode cX5_firstBridge 6 = .ok (.getfield 57, 3) := by decide +kernel
theorem dX5_firstBridge_9 : decode cX5_firstBridge 9 = .ok (.if_icmp .ge 47, 3) := by decide +kernel
theorem dX5_firstBridge_12 : decode cX5_firstBridge 12 = .ok (.aload_n 0, 1) := by decide +kernel
theorem dX5_firstBridge_13 : decode cX5_firstBridge 13 = .ok (.getfield 17, 3) := by decide +kernel
theorem dX5_firstBridge_16 : decode cX5_firstBridge 16 = .ok (.iload 4, 2) := by decide +kernel
theorem dX5_firstBridge_18 : decode cX5_firstBridge 18 = .ok (.aaload, 1) := by decide +kernel
theorem dX5_firstBridge_19 : decode cX5_firstBridge 19 = .ok (.astore 5, 2) := by decide +kernel
theorem dX5_firstBridge_21 : decode cX5_firstBridge 21 = .ok (.aload 5, 2) := by decide +kernel
theorem dX5_firstBridge_23 : decode cX5_firstBridge 23 = .ok (.iload_n 1, 1) := by decide +kernel
theorem dX5_firstBridge_24 : decode cX5_firstBridge 24 = .ok (.invokevirtual 114, 3) := by decide +kernel
theorem dX5_firstBridge_27 : decode cX5_firstBridge 27 = .ok (.ifCond .eq 23, 3) := by decide +kernel
theorem dX5_firstBridge_30 : decode cX5_firstBridge 30 = .ok (.aload_n 0, 1) := by decide +kernel
theorem dX5_firstBridge_31 : decode cX5_firstBridge 31 = .ok (.aload 5, 2) := by decide +kernel
theorem dX5_firstBridge_33 : decode cX5_firstBridge 33 = .ok (.iload_n 1, 1) := by decide +kernel
theorem dX5_firstBridge_34 : decode cX5_firstBridge 34 = .ok (.invokevirtual 175, 3) := by decide +kernel
theorem dX5_firstBridge_37 : decode cX5_firstBridge 37 = .ok (.iload_n 2, 1) := by decide +kernel
theorem dX5_firstBridge_38 : decode cX5_firstBridge 38 = .ok (.invokevirtual 220, 3) := by decide +kernel
theorem dX5_firstBridge_41 : decode cX5_firstBridge 41 = .ok (.iload_n 3, 1) := by decide +kernel
theorem dX5_firstBridge_42 : decode cX5_firstBridge 42 = .ok (.iconst 1, 1) := by decide +kernel
theorem dX5_firstBridge_43 : decode cX5_firstBridge 43 = .ok (.isub, 1) := by decide +kernel
theorem dX5_firstBridge_44 : decode cX5_firstBridge 44 = .ok (.if_icmp .ne 6, 3) := by decide +kernel
theorem dX5_firstBridge_47 : decode cX5_firstBridge 47 = .ok (.iload 4, 2) := by decide +kernel
theorem dX5_firstBridge_49 : decode cX5_firstBridge 49 = .ok (.ireturn, 1) := by decide +kernel
theorem dX5_firstBridge_50 : decode cX5_firstBridge 50 = .ok (.iinc 4 1, 3) := by decide +kernel
theorem dX5_firstBridge_53 : decode cX5_firstBridge 53 = .ok (.goto (-50), 3) := by decide +kernel
theorem dX5_firstBridge_56 : decode cX5_firstBridge 56 = .ok (.bipush (-6), 2) := by decide +kernel
theorem dX5_firstBridge_58 : decode cX5_firstBridge 58 = .ok (.ireturn, 1) := by decide +kernel
theorem dX6_init_0 : decode cX6_init 0 = .ok (.aload_n 0, 1) := by decide +kernel
theorem dX6_init_1 : decode cX6_init 1 = .ok (.invokespecial 1, 3) := by decide +kernel
theorem dX6_init_4 : decode cX6_init 4 = .ok (.aload_n 0, 1) := by decide +kernel
theorem dX6_init_5 : decode cX6_init 5 = .ok (.new 7, 3) := by decide +kernel
theorem dX6_init_8 : decode cX6_init 8 = .ok (.dup, 1) := by decide +kernel
theorem dX6_init_9 : decode cX6_init 9 = .ok (.invokespecial 9, 3) := by decide +kernel
theorem dX6_init_12 : decode cX6_init 12 = .ok (.putfield 10, 3) := by decide +kernel
theorem dX6_init_15 : decode cX6_init 15 = .ok (.aload_n 0, 1) := by decide +kernel
theorem dX6_init_16 : decode cX6_init 16 = .ok (.new 7, 3) := by decide +kernel
theorem dX6_init_19 : decode cX6_init 19 = .ok (.dup, 1) := by decide +kernel
theorem dX6_init_20 : decode cX6_init 20 = .ok (.invokespecial 9, 3) := by decide +kernel
theorem dX6_init_23 : decode cX6_init 23 = .ok (.putfield 16, 3) := by decide +kernel
theorem dX6_init_26 : decode cX6_init 26 = .ok (.aload_n 0, 1) := by decide +kernel
theorem dX6_init_27 : decode cX6_init 27 = .ok (.new 19, 3) := by decide +kernel
theorem dX6_init_30 : decode cX6_init 30 = .ok (.dup, 1) := by decide +kernel
theorem dX6_init_31 : decode cX6_init 31 = .ok (.invokespecial 21, 3) := by decide +kernel
theorem dX6_init_34 : decode cX6_init 34 = .ok (.putfield 22, 3) := by decide +kernel
theorem dX6_init_37 : decode cX6_init 37 = .ok (.aload_n 0, 1) := by decide +kernel
theorem dX6_init_38 : decode cX6_init 38 = .ok (.iconst 2, 1) := by decide +kernel
theorem dX6_init_39 : decode cX6_init 39 = .ok (.anewarray 7, 3) := by decide +kernel
theorem dX6_init_42 : decode cX6_init 42 = .ok (.dup, 1) := by decide +kernel
theorem dX6_init_43 : decode cX6_init 43 = .ok (.iconst 0, 1) := by decide +kernel
theorem dX6_init_44 : decode cX6_init 44 = .ok (.new 7, 3) := by decide +kernel
theorem dX6_init_47 : decode cX6_init 47 = .ok (.dup, 1) := by decide +kernel
theorem dX6_init_48 : decode cX6_init 48 = .ok (.invokespecial 9, 3) := by decide +kernel
theorem dX6_init_51 : decode cX6_init 51 = .ok (.aastore, 1) := by decide +kernel
theorem dX6_init_52 : decode cX6_init 52 = .ok (.dup, 1) := by decide +kernel
theorem dX6_init_53 : decode cX6_init 53 = .ok (.iconst 1, 1) := by decide +kernel
theorem dX6_init_54 : decode cX6_init 54 = .ok (.new 7, 3) := by decide +kernel
theorem dX6_init_57 : decode cX6_init 57 = .ok (.dup, 1) := by decide +kernel
theorem dX6_init_58 : decode cX6_init 58 = .ok (.invokespecial 9, 3) := by decide +kernel
theorem dX6_init_61 : decode cX6_init 61 = .ok (.aastore, 1) := by decide +kernel
theorem dX6_init_62 : decode cX6_init 62 = .ok (.putfield 26, 3) := by decide +kernel
theorem dX6_init_65 : decode cX6_init 65 = .ok (.aload_n 0, 1) := by decide +kernel
theorem dX6_init_66 : decode cX6_init 66 = .ok (.iconst 2, 1) := by decide +kernel
theorem dX6_init_67 : decode cX6_init 67 = .ok (.newarray .boolean, 2) := by decide +kernel
theorem dX6_init_69 : decode cX6_init 69 = .ok (.putfield 30, 3) := by decide +kernel
theorem dX6_init_72 : decode cX6_init 72 = .ok (.aload_n 0, 1) := by decide +kernel
theorem dX6_init_73 : decode cX6_init 73 = .ok (.new 34, 3) := by decide +kernel
theorem dX6_init_76 : decode cX6_init 76 = .ok (.dup, 1) := by decide +kernel
theorem dX6_init_77 : decode cX6_init 77 = .ok (.invokespecial 36, 3) := by decide +kernel
theorem dX6_init_80 : decode cX6_init 80 = .ok (.putfield 37, 3) := by decide +kernel
theorem dX6_init_83 : decode cX6_init 83 = .ok (.aload_n 0, 1) := by decide +kernel
theorem dX6_init_84 : decode cX6_init 84 = .ok (.new 41, 3) := by decide +kernel
theorem dX6_init_87 : decode cX6_init 87 = .ok (.dup, 1) := by decide +kernel
theorem dX6_init_88 : decode cX6_init 88 = .ok (.aload_n 0, 1) := by decide +kernel
theorem dX6_init_89 : decode cX6_init 89 = .ok (.getfield 37, 3) := by decide +kernel
theorem dX6_init_92 : decode cX6_init 92 = .ok (.invokespecial 43, 3) := by decide +kernel
theorem dX6_init_95 : decode cX6_init 95 = .ok (.putfield 46, 3) := by decide +kernel
theorem dX6_init_98 : decode cX6_init 98 = .ok (.return_, 1) := by decide +kernel
theorem dX6_set_0 : decode cX6_set 0 = .ok (.aload_n 0, 1) := by decide +kernel
theorem dX6_set_1 : decode cX6_set 1 = .ok (.getfield 22, 3) := by decide +kernel
theorem dX6_set_4 : decode cX6_set 4 = .ok (.aload_n 0, 1) := by decide +kernel
theorem dX6_set_5 : decode cX6_set 5 = .ok (.getfield 10, 3) := by decide +kernel
theorem dX6_set_8 : decode cX6_set 8 = .ok (.invokevirtual 50, 3) := by decide +kernel
theorem dX6_set_11 : decode cX6_set 11 = .ok (.aload_n 0, 1) := by decide +kernel
theorem dX6_set_12 : decode cX6_set 12 = .ok (.aload_n 0, 1) := by decide +kernel
theorem dX6_set_13 : decode cX6_set 13 = .ok (.getfield 10, 3) := by decide +kernel
theorem dX6_set_16 : decode cX6_set 16 = .ok (.iload_n 1, 1) := by decide +kernel
theorem dX6_set_17 : decode cX6_set 17 = .ok (.iload_n 2, 1) := by decide +kernel
theorem dX6_set_18 : decode cX6_set 18 = .ok (.invokevirtual 54, 3) := by decide +kernel
theorem dX6_set_21 : decode cX6_set 21 = .ok (.invokevirtual 58, 3) := by decide +kernel
theorem dX6_set_24 : decode cX6_set 24 = .ok (.ireturn, 1) := by decide +kernel
theorem dX6_bridge_0 : decode cX6_bridge 0 = .ok (.aload_n 0, 1) := by decide +kernel
theorem dX6_bridge_1 : decode cX6_bridge 1 = .ok (.getfield 22, 3) := by decide +kernel
theorem dX6_bridge_4 : decode cX6_bridge 4 = .ok (.aload_n 0, 1) := by decide +kernel
theorem dX6_bridge_5 : decode cX6_bridge 5 = .ok (.getfield 10, 3) := by decide +kernel
theorem dX6_bridge_8 : decode cX6_bridge 8 = .ok (.invokevirtual 50, 3) := by decide +kernel
theorem dX6_bridge_11 : decode cX6_bridge 11 = .ok (.aload_n 0, 1) := by decide +kernel
theorem dX6_bridge_12 : decode cX6_bridge 12 = .ok (.aload_n 0, 1) := by decide +kernel
theorem dX6_bridge_13 : decode cX6_bridge 13 = .ok (.getfield 10, 3) := by decide +kernel
theorem dX6_bridge_16 : decode cX6_bridge 16 = .ok (.iload_n 1, 1) := by decide +kernel
theorem dX6_bridge_17 : decode cX6_bridge 17 = .ok (.iload_n 2, 1) := by decide +kernel
theorem dX6_bridge_18 : decode cX6_bridge 18 = .ok (.iload_n 3, 1) := by decide +kernel
theorem dX6_bridge_19 : decode cX6_bridge 19 = .ok (.invokevirtual 62, 3) := by decide +kernel
theorem dX6_bridge_22 : decode cX6_bridge 22 = .ok (.invokevirtual 58, 3) := by decide +kernel
theorem dX6_bridge_25 : decode cX6_bridge 25 = .ok (.ireturn, 1) := by decide +kernel
theorem dX6_cart_0 : decode cX6_cart 0 = .ok (.aload_n 0, 1) := by decide +kernel
theorem dX6_cart_1 : decode cX6_cart 1 = .ok (.getfield 22, 3) := by decide +kernel
theorem dX6_cart_4 : decode cX6_cart 4 = .ok (.aload_n 0, 1) := by decide +kernel
theorem dX6_cart_5 : decode cX6_cart 5 = .ok (.getfield 10, 3) := by decide +kernel
theorem dX6_cart_8 : decode cX6_cart 8 = .ok (.invokevirtual 50, 3) := by decide +kernel
theorem dX6_cart_11 : decode cX6_cart 11 = .ok (.aload_n 0, 1) := by decide +kernel
theorem dX6_cart_12 : decode cX6_cart 12 = .ok (.aload_n 0, 1) := by decide +kernel
theorem dX6_cart_13 : decode cX6_cart 13 = .ok (.getfield 10, 3) := by decide +kernel
theorem dX6_cart_16 : decode cX6_cart 16 = .ok (.iload_n 1, 1) := by decide +kernel
theorem dX6_cart_17 : decode cX6_cart 17 = .ok (.iload_n 2, 1) := by decide +kernel
theorem dX6_cart_18 : decode cX6_cart 18 = .ok (.invokevirtual 66, 3) := by decide +kernel
theorem dX6_cart_21 : decode cX6_cart 21 = .ok (.invokevirtual 58, 3) := by decide +kernel
theorem dX6_cart_24 : decode cX6_cart 24 = .ok (.ireturn, 1) := by decide +kernel
theorem dX6_guess_0 : decode cX6_guess 0 = .ok (.aload_n 0, 1) := by decide +kernel
theorem dX6_guess_1 : decode cX6_guess 1 = .ok (.getfield 22, 3) := by decide +kernel
theorem dX6_guess_4 : decode cX6_guess 4 = .ok (.aload_n 0, 1) := by decide +kernel
theorem dX6_guess_5 : decode cX6_guess 5 = .ok (.getfield 10, 3) := by decide +kernel
theorem dX6_guess_8 : decode cX6_guess 8 = .ok (.invokevirtual 50, 3) := by decide +kernel
theorem dX6_guess_11 : decode cX6_guess 11 = .ok (.aload_n 0, 1) := by decide +kernel
theorem dX6_guess_12 : decode cX6_guess 12 = .ok (.aload_n 0, 1) := by decide +kernel
theorem dX6_guess_13 : decode cX6_guess 13 = .ok (.getfield 10, 3) := by decide +kernel
theorem dX6_guess_16 : decode cX6_guess 16 = .ok (.iload_n 1, 1) := by decide +kernel
theorem dX6_guess_17 : decode cX6_guess 17 = .ok (.iload_n 2, 1) := by decide +kernel
theorem dX6_guess_18 : decode cX6_guess 18 = .ok (.iload_n 3, 1) := by decide +kernel
theorem dX6_guess_19 : decode cX6_guess 19 = .ok (.invokevirtual 69, 3) := by decide +kernel
theorem dX6_guess_22 : decode cX6_guess 22 = .ok (.invokevirtual 58, 3) := by decide +kernel
theorem dX6_guess_25 : decode cX6_guess 25 = .ok (.ireturn, 1) := by decide +kernel
theorem dX6_leave_0 : decode cX6_leave 0 = .ok (.aload_n 0, 1) := by decide +kernel
theorem dX6_leave_1 : decode cX6_leave 1 = .ok (.getfield 22, 3) := by decide +kernel
theorem dX6_leave_4 : decode cX6_leave 4 = .ok (.aload_n 0, 1) := by decide +kernel
theorem dX6_leave_5 : decode cX6_leave 5 = .ok (.getfield 10, 3) := by decide +kernel
theorem dX6_leave_8 : decode cX6_leave 8 = .ok (.invokevirtual 50, 3) := by decide +kernel
theorem dX6_leave_11 : decode cX6_leave 11 = .ok (.aload_n 0, 1) := by decide +kernel
theorem dX6_leave_12 : decode cX6_leave 12 = .ok (.aload_n 0, 1) := by decide +kernel
theorem dX6_leave_13 : decode cX6_leave 13 = .ok (.getfield 10, 3) := by decide +kernel
theorem dX6_leave_16 : decode cX6_leave 16 = .ok (.iload_n 1, 1) := by decide +kernel
theorem dX6_leave_17 : decode cX6_leave 17 = .ok (.invokevirtual 72, 3) := by decide +kernel
theorem dX6_leave_20 : decode cX6_leave 20 = .ok (.invokevirtual 58, 3) := by decide +kernel
theorem dX6_leave_23 : decode cX6_leave 23 = .ok (.ireturn, 1) := by decide +kernel
theorem dX6_hint_0 : decode cX6_hint 0 = .ok (.aload_n 0, 1) := by decide +kernel
theorem dX6_hint_1 : decode cX6_hint 1 = .ok (.getfield 22, 3) := by decide +kernel
theorem dX6_hint_4 : decode cX6_hint 4 = .ok (.aload_n 0, 1) := by decide +kernel
theorem dX6_hint_5 : decode cX6_hint 5 = .ok (.getfield 10, 3) := by decide +kernel
theorem dX6_hint_8 : decode cX6_hint 8 = .ok (.invokevirtual 50, 3) := by decide +kernel
theorem dX6_hint_11 : decode cX6_hint 11 = .ok (.aload_n 0, 1) := by decide +kernel
theorem dX6_hint_12 : decode cX6_hint 12 = .ok (.aload_n 0, 1) := by decide +kernel
theorem dX6_hint_13 : decode cX6_hint 13 = .ok (.getfield 10, 3) := by decide +kernel
theorem dX6_hint_16 : decode cX6_hint 16 = .ok (.iload_n 1, 1) := by decide +kernel
theorem dX6_hint_17 : decode cX6_hint 17 = .ok (.iload_n 2, 1) := by decide +kernel
theorem dX6_hint_18 : decode cX6_hint 18 = .ok (.invokevirtual 75, 3) := by decide +kernel
theorem dX6_hint_21 : decode cX6_hint 21 = .ok (.invokevirtual 58, 3) := by decide +kernel
theorem dX6_hint_24 : decode cX6_hint 24 = .ok (.ireturn, 1) := by decide +kernel
theorem dX6_pass_0 : decode cX6_pass 0 = .ok (.aload_n 0, 1) := by decide +kernel
theorem dX6_pass_1 : decode cX6_pass 1 = .ok (.getfield 22, 3) := by decide +kernel
theorem dX6_pass_4 : decode cX6_pass 4 = .ok (.aload_n 0, 1) := by decide +kernel
theorem dX6_pass_5 : decode cX6_pass 5 = .ok (.getfield 10, 3) := by decide +kernel
theorem dX6_pass_8 : decode cX6_pass 8 = .ok (.invokevirtual 50, 3) := by decide +kernel
theorem dX6_pass_11 : decode cX6_pass 11 = .ok (.aload_n 0, 1) := by decide +kernel
theorem dX6_pass_12 : decode cX6_pass 12 = .ok (.aload_n 0, 1) := by decide +kernel
theorem dX6_pass_13 : decode cX6_pass 13 = .ok (.getfield 10, 3) := by decide +kernel
theorem dX6_pass_16 : decode cX6_pass 16 = .ok (.iload_n 1, 1) := by decide +kernel
theorem dX6_pass_17 : decode cX6_pass 17 = .ok (.invokevirtual 78, 3) := by decide +kernel
theorem dX6_pass_20 : decode cX6_pass 20 = .ok (.invokevirtual 58, 3) := by decide +kernel
theorem dX6_pass_23 : decode cX6_pass 23 = .ok (.ireturn, 1) := by decide +kernel
theorem dX6_write_0 : decode cX6_write 0 = .ok (.aload_n 0, 1) := by decide +kernel
theorem dX6_write_1 : decode cX6_write 1 = .ok (.getfield 10, 3) := by decide +kernel
theorem dX6_write_4 : decode cX6_write 4 = .ok (.iload_n 1, 1) := by decide +kernel
theorem dX6_write_5 : decode cX6_write 5 = .ok (.invokevirtual 81, 3) := by decide +kernel
theorem dX6_write_8 : decode cX6_write 8 = .ok (.astore_n 2, 1) := by decide +kernel
theorem dX6_write_9 : decode cX6_write 9 = .ok (.aload_n 2, 1) := by decide +kernel
theorem dX6_write_10 : decode cX6_write 10 = .ok (.ifnonnull 5, 3) := by decide +kernel
theorem dX6_write_13 : decode cX6_write 13 = .ok (.iconst (-1), 1) := by decide +kernel
theorem dX6_write_14 : decode cX6_write 14 = .ok (.ireturn, 1) := by decide +kernel
theorem dX6_write_15 : decode cX6_write 15 = .ok (.aload_n 0, 1) := by decide +kernel
theorem dX6_write_16 : decode cX6_write 16 = .ok (.getfield 37, 3) := by decide +kernel
theorem dX6_write_19 : decode cX6_write 19 = .ok (.invokevirtual 85, 3) := by decide +kernel
theorem dX6_write_22 : decode cX6_write 22 = .ok (.aload_n 0, 1) := by decide +kernel
theorem dX6_write_23 : decode cX6_write 23 = .ok (.aload_n 2, 1) := by decide +kernel
theorem dX6_write_24 : decode cX6_write 24 = .ok (.invokevirtual 88, 3) := by decide +kernel
theorem dX6_write_27 : decode cX6_write 27 = .ok (.aload_n 0, 1) := by decide +kernel
theorem dX6_write_28 : decode cX6_write 28 = .ok (.getfield 37, 3) := by decide +kernel
theorem dX6_write_31 : decode cX6_write 31 = .ok (.getfield 92, 3) := by decide +kernel
theorem dX6_write_34 : decode cX6_write 34 = .ok (.ireturn, 1) := by decide +kernel
theorem dX6_ofBridge_0 : decode cX6_ofBridge 0 = .ok (.aload_n 0, 1) := by decide +kernel
theorem dX6_ofBridge_1 : decode cX6_ofBridge 1 = .ok (.getfield 10, 3) := by decide +kernel
theorem dX6_ofBridge_4 : decode cX6_ofBridge 4 = .ok (.iload_n 1, 1) := by decide +kernel
theorem dX6_ofBridge_5 : decode cX6_ofBridge 5 = .ok (.invokevirtual 96, 3) := by decide +kernel
theorem dX6_ofBridge_8 : decode cX6_ofBridge 8 = .ok (.astore_n 3, 1) := by decide +kernel
theorem dX6_ofBridge_9 : decode cX6_ofBridge 9 = .ok (.aload_n 3, 1) := by decide +kernel
theorem dX6_ofBridge_10 : decode cX6_ofBridge 10 = .ok (.ifnonnull 5, 3) := by decide +kernel
theorem dX6_ofBridge_13 : decode cX6_ofBridge 13 = .ok (.iconst (-1), 1) := by decide +kernel
theorem dX6_ofBridge_14 : decode cX6_ofBridge 14 = .ok (.ireturn, 1) := by decide +kernel
theorem dX6_ofBridge_15 : decode cX6_ofBridge 15 = .ok (.iload_n 2, 1) := by decide +kernel
theorem dX6_ofBridge_16 : decode cX6_ofBridge 16 = .ok (.bipush 8, 2) := by decide +kernel
theorem dX6_ofBridge_18 : decode cX6_ofBridge 18 = .ok (.invokestatic 100, 3) := by decide +kernel
theorem dX6_ofBridge_21 : decode cX6_ofBridge 21 = .ok (.ifCond .eq 11, 3) := by decide +kernel
theorem dX6_ofBridge_24 : decode cX6_ofBridge 24 = .ok (.aload_n 3, 1) := by decide +kernel
theorem dX6_ofBridge_25 : decode cX6_ofBridge 25 = .ok (.iload_n 2, 1) := by decide +kernel
theorem dX6_ofBridge_26 : decode cX6_ofBridge 26 = .ok (.invokevirtual 104, 3) := by decide +kernel
theorem dX6_ofBridge_29 : decode cX6_ofBridge 29 = .ok (.goto 5, 3) := by decide +kernel
theorem dX6_ofBridge_32 : decode cX6_ofBridge 32 = .ok (.bipush (-2), 2) := by decide +kernel
theorem dX6_ofBridge_34 : decode cX6_ofBridge 34 = .ok (.ireturn, 1) := by decide +kernel
theorem dX6_ofCart_0 : decode cX6_ofCart 0 = .ok (.aload_n 0, 1) := by decide +kernel
theorem dX6_ofCart_1 : decode cX6_ofCart 1 = .ok (.getfield 10, 3) := by decide +kernel
theorem dX6_ofCart_4 : decode cX6_ofCart 4 = .ok (.iload_n 1, 1) := by decide +kernel
theorem dX6_ofCart_5 : decode cX6_ofCart 5 = .ok (.invokevirtual 81, 3) := by decide +kernel
theorem dX6_ofCart_8 : decode cX6_ofCart 8 = .ok (.astore_n 3, 1) := by decide +kernel
theorem dX6_ofCart_9 : decode cX6_ofCart 9 = .ok (.aload_n 3, 1) := by decide +kernel
theorem dX6_ofCart_10 : decode cX6_ofCart 10 = .ok (.ifnonnull 5, 3) := by decide +kernel
theorem dX6_ofCart_13 : decode cX6_ofCart 13 = .ok (.iconst (-1), 1) := by decide +kernel
theorem dX6_ofCart_14 : decode cX6_ofCart 14 = .ok (.ireturn, 1) := by decide +kernel
theorem dX6_ofCart_15 : decode cX6_ofCart 15 = .ok (.iload_n 2, 1) := by decide +kernel
theorem dX6_ofCart_16 : decode cX6_ofCart 16 = .ok (.bipush 8, 2) := by decide +kernel
theorem dX6_ofCart_18 : decode cX6_ofCart 18 = .ok (.invokestatic 100, 3) := by decide +kernel
theorem dX6_ofCart_21 : decode cX6_ofCart 21 = .ok (.ifCond .eq 11, 3) := by decide +kernel
theorem dX6_ofCart_24 : decode cX6_ofCart 24 = .ok (.aload_n 3, 1) := by decide +kernel
theorem dX6_ofCart_25 : decode cX6_ofCart 25 = .ok (.iload_n 2, 1) := by decide +kernel
theorem dX6_ofCart_26 : decode cX6_ofCart 26 = .ok (.invokevirtual 109, 3) := by decide +kernel
theorem dX6_ofCart_29 : decode cX6_ofCart 29 = .ok (.goto 5, 3) := by decide +kernel
theorem dX6_ofCart_32 : decode cX6_ofCart 32 = .ok (.bipush (-2), 2) := by decide +kernel
theorem dX6_ofCart_34 : decode cX6_ofCart 34 = .ok (.ireturn, 1) := by decide +kernel
theorem dX6_knows_0 : decode cX6_knows 0 = .ok (.aload_n 0, 1) := by decide +kernel
theorem dX6_knows_1 : decode cX6_knows 1 = .ok (.getfield 10, 3) := by decide +kernel
theorem dX6_knows_4 : decode cX6_knows 4 = .ok (.iload_n 1, 1) := by decide +kernel
theorem dX6_knows_5 : decode cX6_knows 5 = .ok (.invokevirtual 81, 3) := by decide +kernel
theorem dX6_knows_8 : decode cX6_knows 8 = .ok (.astore 4, 2) := by decide +kernel
theorem dX6_knows_10 : decode cX6_knows 10 = .ok (.aload_n 0, 1) := by decide +kernel
theorem dX6_knows_11 : decode cX6_knows 11 = .ok (.getfield 10, 3) := by decide +kernel
theorem dX6_knows_14 : decode cX6_knows 14 = .ok (.iload_n 2, 1) := by decide +kernel
theorem dX6_knows_15 : decode cX6_knows 15 = .ok (.invokevirtual 96, 3) := by decide +kernel
theorem dX6_knows_18 : decode cX6_knows 18 = .ok (.astore 5, 2) := by decide +kernel
theorem dX6_knows_20 : decode cX6_knows 20 = .ok (.aload 4, 2) := by decide +kernel
theorem dX6_knows_22 : decode cX6_knows 22 = .ok (.ifnull 8, 3) := by decide +kernel
theorem dX6_knows_25 : decode cX6_knows 25 = .ok (.aload 5, 2) := by decide +kernel
theorem dX6_knows_27 : decode cX6_knows 27 = .ok (.ifnonnull 5, 3) := by decide +kernel
theorem dX6_knows_30 : decode cX6_knows 30 = .ok (.iconst (-1), 1) := by decide +kernel
theorem dX6_knows_31 : decode cX6_knows 31 = .ok (.ireturn, 1) := by decide +kernel
theorem dX6_knows_32 : decode cX6_knows 32 = .ok (.iload_n 3, 1) := by decide +kernel
theorem dX6_knows_33 : decode cX6_knows 33 = .ok (.iconst 2, 1) := by decide +kernel
theorem dX6_knows_34 : decode cX6_knows 34 = .ok (.invokestatic 100, 3) := by decide +kernel
theorem dX6_knows_37 : decode cX6_knows 37 = .ok (.ifCond .ne 6, 3) := by decide +kernel
theorem dX6_knows_40 : decode cX6_knows 40 = .ok (.bipush (-2), 2) := by decide +kernel
theorem dX6_knows_42 : decode cX6_knows 42 = .ok (.ireturn, 1) := by decide +kernel
theorem dX6_knows_43 : decode cX6_knows 43 = .ok (.iload_n 3, 1) := by decide +kernel
theorem dX6_knows_44 : decode cX6_knows 44 = .ok (.ifCond .ne 13, 3) := by decide +kernel
theorem dX6_knows_47 : decode cX6_knows 47 = .ok (.aload 4, 2) := by decide +kernel
theorem dX6_knows_49 : decode cX6_knows 49 = .ok (.aload 5, 2) := by decide +kernel
theorem dX6_knows_51 : decode cX6_knows 51 = .ok (.invokevirtual 112, 3) := by decide +kernel
theorem dX6_knows_54 : decode cX6_knows 54 = .ok (.goto 10, 3) := by decide +kernel
theorem dX6_knows_57 : decode cX6_knows 57 = .ok (.aload 4, 2) := by decide +kernel
theorem dX6_knows_59 : decode cX6_knows 59 = .ok (.aload 5, 2) := by decide +kernel
theorem dX6_knows_61 : decode cX6_knows 61 = .ok (.invokevirtual 116, 3) := by decide +kernel
theorem dX6_knows_64 : decode cX6_knows 64 = .ok (.ireturn, 1) := by decide +kernel
theorem dX6_waits_0 : decode cX6_waits 0 = .ok (.aload_n 0, 1) := by decide +kernel
theorem dX6_waits_1 : decode cX6_waits 1 = .ok (.getfield 10, 3) := by decide +kernel
theorem dX6_waits_4 : decode cX6_waits 4 = .ok (.iload_n 1, 1) := by decide +kernel
theorem dX6_waits_5 : decode cX6_waits 5 = .ok (.invokevirtual 96, 3) := by decide +kernel
theorem dX6_waits_8 : decode cX6_waits 8 = .ok (.astore_n 3, 1) := by decide +kernel
theorem dX6_waits_9 : decode cX6_waits 9 = .ok (.aload_n 3, 1) := by decide +kernel
theorem dX6_waits_10 : decode cX6_waits 10 = .ok (.ifnull 14, 3) := by decide +kernel
theorem dX6_waits_13 : decode cX6_waits 13 = .ok (.iload_n 2, 1) := by decide +kernel
theorem dX6_waits_14 : decode cX6_waits 14 = .ok (.aload_n 3, 1) := by decide +kernel
theorem dX6_waits_15 : decode cX6_waits 15 = .ok (.getfield 119, 3) := by decide +kernel
theorem dX6_waits_18 : decode cX6_waits 18 = .ok (.invokestatic 100, 3) := by decide +kernel
theorem dX6_waits_21 : decode cX6_waits 21 = .ok (.ifCond .ne 5, 3) := by decide +kernel
theorem dX6_waits_24 : decode cX6_waits 24 = .ok (.iconst (-1), 1) := by decide +kernel
theorem dX6_waits_25 : decode cX6_waits 25 = .ok (.ireturn, 1) := by decide +kernel
theorem dX6_waits_26 : decode cX6_waits 26 = .ok (.aload_n 0, 1) := by decide +kernel
theorem dX6_waits_27 : decode cX6_waits 27 = .ok (.getfield 10, 3) := by decide +kernel
theorem dX6_waits_30 : decode cX6_waits 30 = .ok (.aload_n 3, 1) := by decide +kernel
theorem dX6_waits_31 : decode cX6_waits 31 = .ok (.iload_n 2, 1) := by decide +kernel
theorem dX6_waits_32 : decode cX6_waits 32 = .ok (.invokevirtual 122, 3) := by decide +kernel
theorem dX6_waits_35 : decode cX6_waits 35 = .ok (.iconst (-1), 1) := by decide +kernel
theorem dX6_waits_36 : decode cX6_waits 36 = .ok (.invokestatic 126, 3) := by decide +kernel
theorem dX6_waits_39 : decode cX6_waits 39 = .ok (.ireturn, 1) := by decide +kernel
theorem dX6_sign_0 : decode cX6_sign 0 = .ok (.aload_n 0, 1) := by decide +kernel
theorem dX6_sign_1 : decode cX6_sign 1 = .ok (.getfield 37, 3) := by decide +kernel
theorem dX6_sign_4 : decode cX6_sign 4 = .ok (.iload_n 1, 1) := by decide +kernel
theorem dX6_sign_5 : decode cX6_sign 5 = .ok (.invokevirtual 130, 3) := by decide +kernel
theorem dX6_sign_8 : decode cX6_sign 8 = .ok (.ireturn, 1) := by decide +kernel
theorem dX6_count_0 : decode cX6_count 0 = .ok (.iload_n 1, 1) := by decide +kernel
theorem dX6_count_1 : decode cX6_count 1 = .ok (.bipush 15, 2) := by decide +kernel
theorem dX6_count_3 : decode cX6_count 3 = .ok (.invokestatic 100, 3) := by decide +kernel
theorem dX6_count_6 : decode cX6_count 6 = .ok (.ifCond .ne 6, 3) := by decide +kernel
theorem dX6_count_9 : decode cX6_count 9 = .ok (.bipush (-2), 2) := by decide +kernel
theorem dX6_count_11 : decode cX6_count 11 = .ok (.ireturn, 1) := by decide +kernel
theorem dX6_count_12 : decode cX6_count 12 = .ok (.iload_n 1, 1) := by decide +kernel
theorem dX6_count_13 : decode cX6_count 13 = .ok (.lookupswitch 43 #[(13, 27), (14, 35)], 27) := by decide +kernel
theorem dX6_count_40 : decode cX6_count 40 = .ok (.aload_n 0, 1) := by decide +kernel
theorem dX6_count_41 : decode cX6_count 41 = .ok (.getfield 37, 3) := by decide +kernel
theorem dX6_count_44 : decode cX6_count 44 = .ok (.getfield 92, 3) := by decide +kernel
theorem dX6_count_47 : decode cX6_count 47 = .ok (.ireturn, 1) := by decide +kernel
theorem dX6_count_48 : decode cX6_count 48 = .ok (.aload_n 0, 1) := by decide +kernel
theorem dX6_count_49 : decode cX6_count 49 = .ok (.getfield 22, 3) := by decide +kernel
theorem dX6_count_52 : decode cX6_count 52 = .ok (.getfield 133, 3) := by decide +kernel
theorem dX6_count_55 : decode cX6_count 55 = .ok (.ireturn, 1) := by decide +kernel
theorem dX6_count_56 : decode cX6_count 56 = .ok (.aload_n 0, 1) := by decide +kernel
theorem dX6_count_57 : decode cX6_count 57 = .ok (.getfield 10, 3) := by decide +kernel
theorem dX6_count_60 : decode cX6_count 60 = .ok (.iload_n 1, 1) := by decide +kernel
theorem dX6_count_61 : decode cX6_count 61 = .ok (.invokevirtual 136, 3) := by decide +kernel
theorem dX6_count_64 : decode cX6_count 64 = .ok (.ireturn, 1) := by decide +kernel
theorem dX6_next_0 : decode cX6_next 0 = .ok (.aload_n 0, 1) := by decide +kernel
theorem dX6_next_1 : decode cX6_next 1 = .ok (.getfield 10, 3) := by decide +kernel
theorem dX6_next_4 : decode cX6_next 4 = .ok (.iload_n 1, 1) := by decide +kernel
theorem dX6_next_5 : decode cX6_next 5 = .ok (.invokevirtual 96, 3) := by decide +kernel
theorem dX6_next_8 : decode cX6_next 8 = .ok (.astore_n 2, 1) := by decide +kernel
theorem dX6_next_9 : decode cX6_next 9 = .ok (.aload_n 2, 1) := by decide +kernel
theorem dX6_next_10 : decode cX6_next 10 = .ok (.ifnonnull 7, 3) := by decide +kernel
theorem dX6_next_13 : decode cX6_next 13 = .ok (.iconst (-1), 1) := by decide +kernel
theorem dX6_next_14 : decode cX6_next 14 = .ok (.goto 16, 3) := by decide +kernel
theorem dX6_next_17 : decode cX6_next 17 = .ok (.aload_n 0, 1) := by decide +kernel
theorem dX6_next_18 : decode cX6_next 18 = .ok (.getfield 10, 3) := by decide +kernel
theorem dX6_next_21 : decode cX6_next 21 = .ok (.aload_n 2, 1) := by decide +kernel
theorem dX6_next_22 : decode cX6_next 22 = .ok (.invokevirtual 139, 3) := by decide +kernel
theorem dX6_next_25 : decode cX6_next 25 = .ok (.bipush (-6), 2) := by decide +kernel
theorem dX6_next_27 : decode cX6_next 27 = .ok (.invokestatic 126, 3) := by decide +kernel
theorem dX6_next_30 : decode cX6_next 30 = .ok (.ireturn, 1) := by decide +kernel
theorem dX6_why_0 : decode cX6_why 0 = .ok (.aload_n 0, 1) := by decide +kernel
theorem dX6_why_1 : decode cX6_why 1 = .ok (.getfield 10, 3) := by decide +kernel
theorem dX6_why_4 : decode cX6_why 4 = .ok (.iload_n 1, 1) := by decide +kernel
theorem dX6_why_5 : decode cX6_why 5 = .ok (.invokevirtual 81, 3) := by decide +kernel
theorem dX6_why_8 : decode cX6_why 8 = .ok (.astore_n 2, 1) := by decide +kernel
theorem dX6_why_9 : decode cX6_why 9 = .ok (.aload_n 2, 1) := by decide +kernel
theorem dX6_why_10 : decode cX6_why 10 = .ok (.ifnonnull 7, 3) := by decide +kernel
theorem dX6_why_13 : decode cX6_why 13 = .ok (.iconst (-1), 1) := by decide +kernel
theorem dX6_why_14 : decode cX6_why 14 = .ok (.goto 11, 3) := by decide +kernel
theorem dX6_why_17 : decode cX6_why 17 = .ok (.aload_n 0, 1) := by decide +kernel
theorem dX6_why_18 : decode cX6_why 18 = .ok (.getfield 10, 3) := by decide +kernel
theorem dX6_why_21 : decode cX6_why 21 = .ok (.aload_n 2, 1) := by decide +kernel
theorem dX6_why_22 : decode cX6_why 22 = .ok (.invokevirtual 143, 3) := by decide +kernel
theorem dX6_why_25 : decode cX6_why 25 = .ok (.ireturn, 1) := by decide +kernel
theorem dX6_overIn_0 : decode cX6_overIn 0 = .ok (.aload_n 0, 1) := by decide +kernel
theorem dX6_overIn_1 : decode cX6_overIn 1 = .ok (.getfield 16, 3) := by decide +kernel
theorem dX6_overIn_4 : decode cX6_overIn 4 = .ok (.aload_n 0, 1) := by decide +kernel
theorem dX6_overIn_5 : decode cX6_overIn 5 = .ok (.getfield 10, 3) := by decide +kernel
theorem dX6_overIn_8 : decode cX6_overIn 8 = .ok (.invokevirtual 147, 3) := by decide +kernel
theorem dX6_overIn_11 : decode cX6_overIn 11 = .ok (.aload_n 0, 1) := by decide +kernel
theorem dX6_overIn_12 : decode cX6_overIn 12 = .ok (.getfield 16, 3) := by decide +kernel
theorem dX6_overIn_15 : decode cX6_overIn 15 = .ok (.iload_n 1, 1) := by decide +kernel
theorem dX6_overIn_16 : decode cX6_overIn 16 = .ok (.invokevirtual 81, 3) := by decide +kernel
theorem dX6_overIn_19 : decode cX6_overIn 19 = .ok (.astore_n 2, 1) := by decide +kernel
theorem dX6_overIn_20 : decode cX6_overIn 20 = .ok (.aload_n 2, 1) := by decide +kernel
theorem dX6_overIn_21 : decode cX6_overIn 21 = .ok (.ifnonnull 5, 3) := by decide +kernel
theorem dX6_overIn_24 : decode cX6_overIn 24 = .ok (.iconst (-1), 1) := by decide +kernel
theorem dX6_overIn_25 : decode cX6_overIn 25 = .ok (.ireturn, 1) := by decide +kernel
theorem dX6_overIn_26 : decode cX6_overIn 26 = .ok (.aload_n 2, 1) := by decide +kernel
theorem dX6_overIn_27 : decode cX6_overIn 27 = .ok (.invokevirtual 150, 3) := by decide +kernel
theorem dX6_overIn_30 : decode cX6_overIn 30 = .ok (.ifCond .ne 6, 3) := by decide +kernel
theorem dX6_overIn_33 : decode cX6_overIn 33 = .ok (.bipush (-5), 2) := by decide +kernel
theorem dX6_overIn_35 : decode cX6_overIn 35 = .ok (.ireturn, 1) := by decide +kernel
theorem dX6_overIn_36 : decode cX6_overIn 36 = .ok (.iconst 1, 1) := by decide +kernel
theorem dX6_overIn_37 : decode cX6_overIn 37 = .ok (.istore_n 3, 1) := by decide +kernel
theorem dX6_overIn_38 : decode cX6_overIn 38 = .ok (.iload_n 3, 1) := by decide +kernel
theorem dX6_overIn_39 : decode cX6_overIn 39 = .ok (.bipush 100, 2) := by decide +kernel
theorem dX6_overIn_41 : decode cX6_overIn 41 = .ok (.if_icmp .gt 26, 3) := by decide +kernel
theorem dX6_overIn_44 : decode cX6_overIn 44 = .ok (.aload_n 0, 1) := by decide +kernel
theorem dX6_overIn_45 : decode cX6_overIn 45 = .ok (.getfield 16, 3) := by decide +kernel
theorem dX6_overIn_48 : decode cX6_overIn 48 = .ok (.invokevirtual 154, 3) := by decide +kernel
theorem dX6_overIn_51 : decode cX6_overIn 51 = .ok (.pop, 1) := by decide +kernel
theorem dX6_overIn_52 : decode cX6_overIn 52 = .ok (.aload_n 2, 1) := by decide +kernel
theorem dX6_overIn_53 : decode cX6_overIn 53 = .ok (.invokevirtual 150, 3) := by decide +kernel
theorem dX6_overIn_56 : decode cX6_overIn 56 = .ok (.ifCond .ne 5, 3) := by decide +kernel
theorem dX6_overIn_59 : decode cX6_overIn 59 = .ok (.iload_n 3, 1) := by decide +kernel
theorem dX6_overIn_60 : decode cX6_overIn 60 = .ok (.ireturn, 1) := by decide +kernel
theorem dX6_overIn_61 : decode cX6_overIn 61 = .ok (.iinc 3 1, 3) := by decide +kernel
theorem dX6_overIn_64 : decode cX6_overIn 64 = .ok (.goto (-26), 3) := by decide +kernel
theorem dX6_overIn_67 : decode cX6_overIn 67 = .ok (.bipush (-6), 2) := by decide +kernel
theorem dX6_overIn_69 : decode cX6_overIn 69 = .ok (.ireturn, 1) := by decide +kernel
theorem dX6_wins_0 : decode cX6_wins 0 = .ok (.aload_n 0, 1) := by decide +kernel
theorem dX6_wins_1 : decode cX6_wins 1 = .ok (.getfield 10, 3) := by decide +kernel
theorem dX6_wins_4 : decode cX6_wins 4 = .ok (.iload_n 1, 1) := by decide +kernel
theorem dX6_wins_5 : decode cX6_wins 5 = .ok (.invokevirtual 81, 3) := by decide +kernel
theorem dX6_wins_8 : decode cX6_wins 8 = .ok (.astore 5, 2) := by decide +kernel
theorem dX6_wins_10 : decode cX6_wins 10 = .ok (.aload_n 0, 1) := by decide +kernel
theorem dX6_wins_11 : decode cX6_wins 11 = .ok (.getfield 10, 3) := by decide +kernel
theorem dX6_wins_14 : decode cX6_wins 14 = .ok (.iload_n 2, 1) := by decide +kernel
theorem dX6_wins_15 : decode cX6_wins 15 = .ok (.invokevirtual 96, 3) := by decide +kernel
theorem dX6_wins_18 : decode cX6_wins 18 = .ok (.astore 6, 2) := by decide +kernel
theorem dX6_wins_20 : decode cX6_wins 20 = .ok (.aload 5, 2) := by decide +kernel
theorem dX6_wins_22 : decode cX6_wins 22 = .ok (.ifnull 8, 3) := by decide +kernel
theorem dX6_wins_25 : decode cX6_wins 25 = .ok (.aload 6, 2) := by decide +kernel
theorem dX6_wins_27 : decode cX6_wins 27 = .ok (.ifnonnull 5, 3) := by decide +kernel
theorem dX6_wins_30 : decode cX6_wins 30 = .ok (.iconst (-1), 1) := by decide +kernel
theorem dX6_wins_31 : decode cX6_wins 31 = .ok (.ireturn, 1) := by decide +kernel
theorem dX6_wins_32 : decode cX6_wins 32 = .ok (.iload_n 3, 1) := by decide +kernel
theorem dX6_wins_33 : decode cX6_wins 33 = .ok (.aload 6, 2) := by decide +kernel
theorem dX6_wins_35 : decode cX6_wins 35 = .ok (.getfield 158, 3) := by decide +kernel
theorem dX6_wins_38 : decode cX6_wins 38 = .ok (.invokestatic 100, 3) := by decide +kernel
theorem dX6_wins_41 : decode cX6_wins 41 = .ok (.ifCond .eq 16, 3) := by decide +kernel
theorem dX6_wins_44 : decode cX6_wins 44 = .ok (.iload 4, 2) := by decide +kernel
theorem dX6_wins_46 : decode cX6_wins 46 = .ok (.aload 6, 2) := by decide +kernel
theorem dX6_wins_48 : decode cX6_wins 48 = .ok (.getfield 158, 3) := by decide +kernel
theorem dX6_wins_51 : decode cX6_wins 51 = .ok (.invokestatic 100, 3) := by decide +kernel
theorem dX6_wins_54 : decode cX6_wins 54 = .ok (.ifCond .ne 6, 3) := by decide +kernel
theorem dX6_wins_57 : decode cX6_wins 57 = .ok (.bipush (-2), 2) := by decide +kernel
theorem dX6_wins_59 : decode cX6_wins 59 = .ok (.ireturn, 1) := by decide +kernel
theorem dX6_wins_60 : decode cX6_wins 60 = .ok (.aload 5, 2) := by decide +kernel
theorem dX6_wins_62 : decode cX6_wins 62 = .ok (.aload 6, 2) := by decide +kernel
theorem dX6_wins_64 : decode cX6_wins 64 = .ok (.iload_n 3, 1) := by decide +kernel
theorem dX6_wins_65 : decode cX6_wins 65 = .ok (.iload 4, 2) := by decide +kernel
theorem dX6_wins_67 : decode cX6_wins 67 = .ok (.invokevirtual 161, 3) := by decide +kernel
theorem dX6_wins_70 : decode cX6_wins 70 = .ok (.ireturn, 1) := by decide +kernel
theorem dX6_bestGuess_0 : decode cX6_bestGuess 0 = .ok (.aload_n 0, 1) := by decide +kernel
theorem dX6_bestGuess_1 : decode cX6_bestGuess 1 = .ok (.getfield 10, 3) := by decide +kernel
theorem dX6_bestGuess_4 : decode cX6_bestGuess 4 = .ok (.iload_n 1, 1) := by decide +kernel
theorem dX6_bestGuess_5 : decode cX6_bestGuess 5 = .ok (.invokevirtual 81, 3) := by decide +kernel
theorem dX6_bestGuess_8 : decode cX6_bestGuess 8 = .ok (.astore 5, 2) := by decide +kernel
theorem dX6_bestGuess_10 : decode cX6_bestGuess 10 = .ok (.aload_n 0, 1) := by decide +kernel
theorem dX6_bestGuess_11 : decode cX6_bestGuess 11 = .ok (.getfield 10, 3) := by decide +kernel
theorem dX6_bestGuess_14 : decode cX6_bestGuess 14 = .ok (.iload_n 2, 1) := by decide +kernel
theorem dX6_bestGuess_15 : decode cX6_bestGuess 15 = .ok (.invokevirtual 96, 3) := by decide +kernel
theorem dX6_bestGuess_18 : decode cX6_bestGuess 18 = .ok (.astore 6, 2) := by decide +kernel
theorem dX6_bestGuess_20 : decode cX6_bestGuess 20 = .ok (.aload 5, 2) := by decide +kernel
theorem dX6_bestGuess_22 : decode cX6_bestGuess 22 = .ok (.ifnull 8, 3) := by decide +kernel
theorem dX6_bestGuess_25 : decode cX6_bestGuess 25 = .ok (.aload 6, 2) := by decide +kernel
theorem dX6_bestGuess_27 : decode cX6_bestGuess 27 = .ok (.ifnonnull 5, 3) := by decide +kernel
theorem dX6_bestGuess_30 : decode cX6_bestGuess 30 = .ok (.iconst (-1), 1) := by decide +kernel
theorem dX6_bestGuess_31 : decode cX6_bestGuess 31 = .ok (.ireturn, 1) := by decide +kernel
theorem dX6_bestGuess_32 : decode cX6_bestGuess 32 = .ok (.iload_n 3, 1) := by decide +kernel
theorem dX6_bestGuess_33 : decode cX6_bestGuess 33 = .ok (.aload 6, 2) := by decide +kernel
theorem dX6_bestGuess_35 : decode cX6_bestGuess 35 = .ok (.getfield 158, 3) := by decide +kernel
theorem dX6_bestGuess_38 : decode cX6_bestGuess 38 = .ok (.invokestatic 100, 3) := by decide +kernel
theorem dX6_bestGuess_41 : decode cX6_bestGuess 41 = .ok (.ifCond .eq 12, 3) := by decide +kernel
theorem dX6_bestGuess_44 : decode cX6_bestGuess 44 = .ok (.iload 4, 2) := by decide +kernel
theorem dX6_bestGuess_46 : decode cX6_bestGuess 46 = .ok (.iconst 2, 1) := by decide +kernel
theorem dX6_bestGuess_47 : decode cX6_bestGuess 47 = .ok (.invokestatic 100, 3) := by decide +kernel
theorem dX6_bestGuess_50 : decode cX6_bestGuess 50 = .ok (.ifCond .ne 6, 3) := by decide +kernel
theorem dX6_bestGuess_53 : decode cX6_bestGuess 53 = .ok (.bipush (-2), 2) := by decide +kernel
theorem dX6_bestGuess_55 : decode cX6_bestGuess 55 = .ok (.ireturn, 1) := by decide +kernel
theorem dX6_bestGuess_56 : decode cX6_bestGuess 56 = .ok (.iconst 0, 1) := by decide +kernel
theorem dX6_bestGuess_57 : decode cX6_bestGuess 57 = .ok (.istore 7, 2) := by decide +kernel
theorem dX6_bestGuess_59 : decode cX6_bestGuess 59 = .ok (.iconst 0, 1) := by decide +kernel
theorem dX6_bestGuess_60 : decode cX6_bestGuess 60 = .ok (.istore 8, 2) := by decide +kernel
theorem dX6_bestGuess_62 : decode cX6_bestGuess 62 = .ok (.iconst 0, 1) := by decide +kernel
theorem dX6_bestGuess_63 : decode cX6_bestGuess 63 = .ok (.istore 9, 2) := by decide +kernel
theorem dX6_bestGuess_65 : decode cX6_bestGuess 65 = .ok (.iload 9, 2) := by decide +kernel
theorem dX6_bestGuess_67 : decode cX6_bestGuess 67 = .ok (.aload 6, 2) := by decide +kernel
theorem dX6_bestGuess_69 : decode cX6_bestGuess 69 = .ok (.getfield 158, 3) := by decide +kernel
theorem dX6_bestGuess_72 : decode cX6_bestGuess 72 = .ok (.if_icmp .ge 36, 3) := by decide +kernel
theorem dX6_bestGuess_75 : decode cX6_bestGuess 75 = .ok (.aload 5, 2) := by decide +kernel
theorem dX6_bestGuess_77 : decode cX6_bestGuess 77 = .ok (.aload 6, 2) := by decide +kernel
theorem dX6_bestGuess_79 : decode cX6_bestGuess 79 = .ok (.iload 9, 2) := by decide +kernel
theorem dX6_bestGuess_81 : decode cX6_bestGuess 81 = .ok (.iload_n 3, 1) := by decide +kernel
theorem dX6_bestGuess_82 : decode cX6_bestGuess 82 = .ok (.invokevirtual 161, 3) := by decide +kernel
theorem dX6_bestGuess_85 : decode cX6_bestGuess 85 = .ok (.istore 10, 2) := by decide +kernel
theorem dX6_bestGuess_87 : decode cX6_bestGuess 87 = .ok (.iload 10, 2) := by decide +kernel
theorem dX6_bestGuess_89 : decode cX6_bestGuess 89 = .ok (.iload 8, 2) := by decide +kernel
theorem dX6_bestGuess_91 : decode cX6_bestGuess 91 = .ok (.if_icmp .le 11, 3) := by decide +kernel
theorem dX6_bestGuess_94 : decode cX6_bestGuess 94 = .ok (.iload 9, 2) := by decide +kernel
theorem dX6_bestGuess_96 : decode cX6_bestGuess 96 = .ok (.istore 7, 2) := by decide +kernel
theorem dX6_bestGuess_98 : decode cX6_bestGuess 98 = .ok (.iload 10, 2) := by decide +kernel
theorem dX6_bestGuess_100 : decode cX6_bestGuess 100 = .ok (.istore 8, 2) := by decide +kernel
theorem dX6_bestGuess_102 : decode cX6_bestGuess 102 = .ok (.iinc 9 1, 3) := by decide +kernel
theorem dX6_bestGuess_105 : decode cX6_bestGuess 105 = .ok (.goto (-40), 3) := by decide +kernel
theorem dX6_bestGuess_108 : decode cX6_bestGuess 108 = .ok (.iload 4, 2) := by decide +kernel
theorem dX6_bestGuess_110 : decode cX6_bestGuess 110 = .ok (.ifCond .ne 8, 3) := by decide +kernel
theorem dX6_bestGuess_113 : decode cX6_bestGuess 113 = .ok (.iload 7, 2) := by decide +kernel
theorem dX6_bestGuess_115 : decode cX6_bestGuess 115 = .ok (.goto 5, 3) := by decide +kernel
theorem dX6_bestGuess_118 : decode cX6_bestGuess 118 = .ok (.iload 8, 2) := by decide +kernel
theorem dX6_bestGuess_120 : decode cX6_bestGuess 120 = .ok (.ireturn, 1) := by decide +kernel
theorem dX6_route_0 : decode cX6_route 0 = .ok (.iload_n 1, 1) := by decide +kernel
theorem dX6_route_1 : decode cX6_route 1 = .ok (.bipush 8, 2) := by decide +kernel
theorem dX6_route_3 : decode cX6_route 3 = .ok (.invokestatic 100, 3) := by decide +kernel
theorem dX6_route_6 : decode cX6_route 6 = .ok (.ifCond .eq 12, 3) := by decide +kernel
theorem dX6_route_9 : decode cX6_route 9 = .ok (.iload_n 2, 1) := by decide +kernel
theorem dX6_route_10 : decode cX6_route 10 = .ok (.bipush 8, 2) := by decide +kernel
theorem dX6_route_12 : decode cX6_route 12 = .ok (.invokestatic 100, 3) := by decide +kernel
theorem dX6_route_15 : decode cX6_route 15 = .ok (.ifCond .ne 5, 3) := by decide +kernel
theorem dX6_route_18 : decode cX6_route 18 = .ok (.iconst (-1), 1) := by decide +kernel
theorem dX6_route_19 : decode cX6_route 19 = .ok (.ireturn, 1) := by decide +kernel
theorem dX6_route_20 : decode cX6_route 20 = .ok (.iload_n 3, 1) := by decide +kernel
theorem dX6_route_21 : decode cX6_route 21 = .ok (.iconst 2, 1) := by decide +kernel
theorem dX6_route_22 : decode cX6_route 22 = .ok (.invokestatic 100, 3) := by decide +kernel
theorem dX6_route_25 : decode cX6_route 25 = .ok (.ifCond .ne 6, 3) := by decide +kernel
theorem dX6_route_28 : decode cX6_route 28 = .ok (.bipush (-2), 2) := by decide +kernel
theorem dX6_route_30 : decode cX6_route 30 = .ok (.ireturn, 1) := by decide +kernel
theorem dX6_route_31 : decode cX6_route 31 = .ok (.aload_n 0, 1) := by decide +kernel
theorem dX6_route_32 : decode cX6_route 32 = .ok (.getfield 10, 3) := by decide +kernel
theorem dX6_route_35 : decode cX6_route 35 = .ok (.iload_n 1, 1) := by decide +kernel
theorem dX6_route_36 : decode cX6_route 36 = .ok (.iload_n 2, 1) := by decide +kernel
theorem dX6_route_37 : decode cX6_route 37 = .ok (.invokevirtual 165, 3) := by decide +kernel
theorem dX6_route_40 : decode cX6_route 40 = .ok (.istore 4, 2) := by decide +kernel
theorem dX6_route_42 : decode cX6_route 42 = .ok (.iload_n 3, 1) := by decide +kernel
theorem dX6_route_43 : decode cX6_route 43 = .ok (.ifCond .eq 10, 3) := by decide +kernel
theorem dX6_route_46 : decode cX6_route 46 = .ok (.iload 4, 2) := by decide +kernel
theorem dX6_route_48 : decode cX6_route 48 = .ok (.bipush (-6), 2) := by decide +kernel
theorem dX6_route_50 : decode cX6_route 50 = .ok (.if_icmp .ne 6, 3) := by decide +kernel
theorem dX6_route_53 : decode cX6_route 53 = .ok (.iload 4, 2) := by decide +kernel
theorem dX6_route_55 : decode cX6_route 55 = .ok (.ireturn, 1) := by decide +kernel
theorem dX6_route_56 : decode cX6_route 56 = .ok (.aload_n 0, 1) := by decide +kernel
theorem dX6_route_57 : decode cX6_route 57 = .ok (.getfield 10, 3) := by decide +kernel
theorem dX6_route_60 : decode cX6_route 60 = .ok (.iload_n 1, 1) := by decide +kernel
theorem dX6_route_61 : decode cX6_route 61 = .ok (.iload_n 2, 1) := by decide +kernel
theorem dX6_route_62 : decode cX6_route 62 = .ok (.iload 4, 2) := by decide +kernel
theorem dX6_route_64 : decode cX6_route 64 = .ok (.invokevirtual 168, 3) := by decide +kernel
theorem dX6_route_67 : decode cX6_route 67 = .ok (.ireturn, 1) := by decide +kernel
theorem dX6_would_0 : decode cX6_would 0 = .ok (.iload_n 1, 1) := by decide +kernel
theorem dX6_would_1 : decode cX6_would 1 = .ok (.iconst 1, 1) := by decide +kernel
theorem dX6_would_2 : decode cX6_would 2 = .ok (.if_icmp .lt 17, 3) := by decide +kernel
theorem dX6_would_5 : decode cX6_would 5 = .ok (.iload_n 1, 1) := by decide +kernel
theorem dX6_would_6 : decode cX6_would 6 = .ok (.bipush 99, 2) := by decide +kernel
theorem dX6_would_8 : decode cX6_would 8 = .ok (.if_icmp .gt 11, 3) := by decide +kernel
theorem dX6_would_11 : decode cX6_would 11 = .ok (.iload_n 2, 1) := by decide +kernel
theorem dX6_would_12 : decode cX6_would 12 = .ok (.iconst 4, 1) := by decide +kernel
theorem dX6_would_13 : decode cX6_would 13 = .ok (.invokestatic 100, 3) := by decide +kernel
theorem dX6_would_16 : decode cX6_would 16 = .ok (.ifCond .ne 6, 3) := by decide +kernel
theorem dX6_would_19 : decode cX6_would 19 = .ok (.bipush (-2), 2) := by decide +kernel
theorem dX6_would_21 : decode cX6_would 21 = .ok (.ireturn, 1) := by decide +kernel
theorem dX6_would_22 : decode cX6_would 22 = .ok (.aload_n 0, 1) := by decide +kernel
theorem dX6_would_23 : decode cX6_would 23 = .ok (.getfield 16, 3) := by decide +kernel
theorem dX6_would_26 : decode cX6_would 26 = .ok (.aload_n 0, 1) := by decide +kernel
theorem dX6_would_27 : decode cX6_would 27 = .ok (.getfield 10, 3) := by decide +kernel
theorem dX6_would_30 : decode cX6_would 30 = .ok (.invokevirtual 147, 3) := by decide +kernel
theorem dX6_would_33 : decode cX6_would 33 = .ok (.iconst 0, 1) := by decide +kernel
theorem dX6_would_34 : decode cX6_would 34 = .ok (.istore_n 3, 1) := by decide +kernel
theorem dX6_would_35 : decode cX6_would 35 = .ok (.iconst 0, 1) := by decide +kernel
theorem dX6_would_36 : decode cX6_would 36 = .ok (.istore 4, 2) := by decide +kernel
theorem dX6_would_38 : decode cX6_would 38 = .ok (.iload 4, 2) := by decide +kernel
theorem dX6_would_40 : decode cX6_would 40 = .ok (.iload_n 1, 1) := by decide +kernel
theorem dX6_would_41 : decode cX6_would 41 = .ok (.if_icmp .ge 19, 3) := by decide +kernel
theorem dX6_would_44 : decode cX6_would 44 = .ok (.iload_n 3, 1) := by decide +kernel
theorem dX6_would_45 : decode cX6_would 45 = .ok (.aload_n 0, 1) := by decide +kernel
theorem dX6_would_46 : decode cX6_would 46 = .ok (.getfield 16, 3) := by decide +kernel
theorem dX6_would_49 : decode cX6_would 49 = .ok (.invokevirtual 154, 3) := by decide +kernel
theorem dX6_would_52 : decode cX6_would 52 = .ok (.iadd, 1) := by decide +kernel
theorem dX6_would_53 : decode cX6_would 53 = .ok (.istore_n 3, 1) := by decide +kernel
theorem dX6_would_54 : decode cX6_would 54 = .ok (.iinc 4 1, 3) := by decide +kernel
theorem dX6_would_57 : decode cX6_would 57 = .ok (.goto (-19), 3) := by decide +kernel
theorem dX6_would_60 : decode cX6_would 60 = .ok (.iload_n 2, 1) := by decide +kernel
theorem dX6_would_61 : decode cX6_would 61 = .ok (.tableswitch 69 0 2 #[27, 29, 49], 27) := by decide +kernel
theorem dX6_would_88 : decode cX6_would 88 = .ok (.iload_n 3, 1) := by decide +kernel
theorem dX6_would_89 : decode cX6_would 89 = .ok (.ireturn, 1) := by decide +kernel
theorem dX6_would_90 : decode cX6_would 90 = .ok (.aload_n 0, 1) := by decide +kernel
theorem dX6_would_91 : decode cX6_would 91 = .ok (.getfield 16, 3) := by decide +kernel
theorem dX6_would_94 : decode cX6_would 94 = .ok (.bipush 6, 2) := by decide +kernel
theorem dX6_would_96 : decode cX6_would 96 = .ok (.invokevirtual 171, 3) := by decide +kernel
theorem dX6_would_99 : decode cX6_would 99 = .ok (.aload_n 0, 1) := by decide +kernel
theorem dX6_would_100 : decode cX6_would 100 = .ok (.getfield 10, 3) := by decide +kernel
theorem dX6_would_103 : decode cX6_would 103 = .ok (.bipush 6, 2) := by decide +kernel
theorem dX6_would_105 : decode cX6_would 105 = .ok (.invokevirtual 171, 3) := by decide +kernel
theorem dX6_would_108 : decode cX6_would 108 = .ok (.isub, 1) := by decide +kernel
theorem dX6_would_109 : decode cX6_would 109 = .ok (.ireturn, 1) := by decide +kernel
theorem dX6_would_110 : decode cX6_would 110 = .ok (.aload_n 0, 1) := by decide +kernel
theorem dX6_would_111 : decode cX6_would 111 = .ok (.getfield 16, 3) := by decide +kernel
theorem dX6_would_114 : decode cX6_would 114 = .ok (.bipush 7, 2) := by decide +kernel
theorem dX6_would_116 : decode cX6_would 116 = .ok (.invokevirtual 171, 3) := by decide +kernel
theorem dX6_would_119 : decode cX6_would 119 = .ok (.aload_n 0, 1) := by decide +kernel
theorem dX6_would_120 : decode cX6_would 120 = .ok (.getfield 10, 3) := by decide +kernel
theorem dX6_would_123 : decode cX6_would 123 = .ok (.bipush 7, 2) := by decide +kernel
theorem dX6_would_125 : decode cX6_would 125 = .ok (.invokevirtual 171, 3) := by decide +kernel
theorem dX6_would_128 : decode cX6_would 128 = .ok (.isub, 1) := by decide +kernel
theorem dX6_would_129 : decode cX6_would 129 = .ok (.ireturn, 1) := by decide +kernel
theorem dX6_would_130 : decode cX6_would 130 = .ok (.aload_n 0, 1) := by decide +kernel
theorem dX6_would_131 : decode cX6_would 131 = .ok (.getfield 16, 3) := by decide +kernel
theorem dX6_would_134 : decode cX6_would 134 = .ok (.invokevirtual 174, 3) := by decide +kernel
theorem dX6_would_137 : decode cX6_would 137 = .ok (.ireturn, 1) := by decide +kernel
theorem dX6_put_0 : decode cX6_put 0 = .ok (.lload_n 1, 1) := by decide +kernel
theorem dX6_put_1 : decode cX6_put 1 = .ok (.invokestatic 177, 3) := by decide +kernel
theorem dX6_put_4 : decode cX6_put 4 = .ok (.istore_n 3, 1) := by decide +kernel
theorem dX6_put_5 : decode cX6_put 5 = .ok (.iload_n 3, 1) := by decide +kernel
theorem dX6_put_6 : decode cX6_put 6 = .ok (.ifCond .ne 6, 3) := by decide +kernel
theorem dX6_put_9 : decode cX6_put 9 = .ok (.bipush (-2), 2) := by decide +kernel
theorem dX6_put_11 : decode cX6_put 11 = .ok (.ireturn, 1) := by decide +kernel
theorem dX6_put_12 : decode cX6_put 12 = .ok (.aload_n 0, 1) := by decide +kernel
theorem dX6_put_13 : decode cX6_put 13 = .ok (.getfield 37, 3) := by decide +kernel
theorem dX6_put_16 : decode cX6_put 16 = .ok (.getfield 92, 3) := by decide +kernel
theorem dX6_put_19 : decode cX6_put 19 = .ok (.iload_n 3, 1) := by decide +kernel
theorem dX6_put_20 : decode cX6_put 20 = .ok (.iadd, 1) := by decide +kernel
theorem dX6_put_21 : decode cX6_put 21 = .ok (.bipush 80, 2) := by decide +kernel
theorem dX6_put_23 : decode cX6_put 23 = .ok (.if_icmp .le 6, 3) := by decide +kernel
theorem dX6_put_26 : decode cX6_put 26 = .ok (.bipush (-4), 2) := by decide +kernel
theorem dX6_put_28 : decode cX6_put 28 = .ok (.ireturn, 1) := by decide +kernel
theorem dX6_put_29 : decode cX6_put 29 = .ok (.iload_n 3, 1) := by decide +kernel
theorem dX6_put_30 : decode cX6_put 30 = .ok (.iconst 1, 1) := by decide +kernel
theorem dX6_put_31 : decode cX6_put 31 = .ok (.isub, 1) := by decide +kernel
theorem dX6_put_32 : decode cX6_put 32 = .ok (.istore 4, 2) := by decide +kernel
theorem dX6_put_34 : decode cX6_put 34 = .ok (.iload 4, 2) := by decide +kernel
theorem dX6_put_36 : decode cX6_put 36 = .ok (.ifCond .lt 28, 3) := by decide +kernel
theorem dX6_put_39 : decode cX6_put 39 = .ok (.aload_n 0, 1) := by decide +kernel
theorem dX6_put_40 : decode cX6_put 40 = .ok (.getfield 37, 3) := by decide +kernel
theorem dX6_put_43 : decode cX6_put 43 = .ok (.lload_n 1, 1) := by decide +kernel
theorem dX6_put_44 : decode cX6_put 44 = .ok (.bipush 8, 2) := by decide +kernel
theorem dX6_put_46 : decode cX6_put 46 = .ok (.iload 4, 2) := by decide +kernel
theorem dX6_put_48 : decode cX6_put 48 = .ok (.imul, 1) := by decide +kernel
theorem dX6_put_49 : decode cX6_put 49 = .ok (.lushr, 1) := by decide +kernel
theorem dX6_put_50 : decode cX6_put 50 = .ok (.l2i, 1) := by decide +kernel
theorem dX6_put_51 : decode cX6_put 51 = .ok (.sipush 255, 3) := by decide +kernel
theorem dX6_put_54 : decode cX6_put 54 = .ok (.iand, 1) := by decide +kernel
theorem dX6_put_55 : decode cX6_put 55 = .ok (.invokevirtual 181, 3) := by decide +kernel
theorem dX6_put_58 : decode cX6_put 58 = .ok (.iinc 4 (-1), 3) := by decide +kernel
theorem dX6_put_61 : decode cX6_put 61 = .ok (.goto (-27), 3) := by decide +kernel
theorem dX6_put_64 : decode cX6_put 64 = .ok (.aload_n 0, 1) := by decide +kernel
theorem dX6_put_65 : decode cX6_put 65 = .ok (.getfield 37, 3) := by decide +kernel
theorem dX6_put_68 : decode cX6_put 68 = .ok (.getfield 92, 3) := by decide +kernel
theorem dX6_put_71 : decode cX6_put 71 = .ok (.ireturn, 1) := by decide +kernel
theorem dX6_wipe_0 : decode cX6_wipe 0 = .ok (.aload_n 0, 1) := by decide +kernel
theorem dX6_wipe_1 : decode cX6_wipe 1 = .ok (.getfield 37, 3) := by decide +kernel
theorem dX6_wipe_4 : decode cX6_wipe 4 = .ok (.getfield 92, 3) := by decide +kernel
theorem dX6_wipe_7 : decode cX6_wipe 7 = .ok (.istore_n 1, 1) := by decide +kernel
theorem dX6_wipe_8 : decode cX6_wipe 8 = .ok (.aload_n 0, 1) := by decide +kernel
theorem dX6_wipe_9 : decode cX6_wipe 9 = .ok (.getfield 37, 3) := by decide +kernel
theorem dX6_wipe_12 : decode cX6_wipe 12 = .ok (.invokevirtual 85, 3) := by decide +kernel
theorem dX6_wipe_15 : decode cX6_wipe 15 = .ok (.iload_n 1, 1) := by decide +kernel
theorem dX6_wipe_16 : decode cX6_wipe 16 = .ok (.ireturn, 1) := by decide +kernel
theorem dX6_fault_0 : decode cX6_fault 0 = .ok (.aload_n 0, 1) := by decide +kernel
theorem dX6_fault_1 : decode cX6_fault 1 = .ok (.getfield 46, 3) := by decide +kernel
theorem dX6_fault_4 : decode cX6_fault 4 = .ok (.invokevirtual 185, 3) := by decide +kernel
theorem dX6_fault_7 : decode cX6_fault 7 = .ok (.ireturn, 1) := by decide +kernel
theorem dX6_carryOut_0 : decode cX6_carryOut 0 = .ok (.aload_n 0, 1) := by decide +kernel
theorem dX6_carryOut_1 : decode cX6_carryOut 1 = .ok (.getfield 46, 3) := by decide +kernel
theorem dX6_carryOut_4 : decode cX6_carryOut 4 = .ok (.invokevirtual 185, 3) := by decide +kernel
theorem dX6_carryOut_7 : decode cX6_carryOut 7 = .ok (.bipush (-6), 2) := by decide +kernel
theorem dX6_carryOut_9 : decode cX6_carryOut 9 = .ok (.if_icmp .eq 6, 3) := by decide +kernel
theorem dX6_carryOut_12 : decode cX6_carryOut 12 = .ok (.bipush (-3), 2) := by decide +kernel
theorem dX6_carryOut_14 : decode cX6_carryOut 14 = .ok (.ireturn, 1) := by decide +kernel
theorem dX6_carryOut_15 : decode cX6_carryOut 15 = .ok (.aload_n 0, 1) := by decide +kernel
theorem dX6_carryOut_16 : decode cX6_carryOut 16 = .ok (.getfield 22, 3) := by decide +kernel
theorem dX6_carryOut_19 : decode cX6_carryOut 19 = .ok (.aload_n 0, 1) := by decide +kernel
theorem dX6_carryOut_20 : decode cX6_carryOut 20 = .ok (.getfield 10, 3) := by decide +kernel
theorem dX6_carryOut_23 : decode cX6_carryOut 23 = .ok (.invokevirtual 50, 3) := by decide +kernel
theorem dX6_carryOut_26 : decode cX6_carryOut 26 = .ok (.iconst 0, 1) := by decide +kernel
theorem dX6_carryOut_27 : decode cX6_carryOut 27 = .ok (.istore_n 1, 1) := by decide +kernel
theorem dX6_carryOut_28 : decode cX6_carryOut 28 = .ok (.aload_n 0, 1) := by decide +kernel
theorem dX6_carryOut_29 : decode cX6_carryOut 29 = .ok (.getfield 46, 3) := by decide +kernel
theorem dX6_carryOut_32 : decode cX6_carryOut 32 = .ok (.invokevirtual 188, 3) := by decide +kernel
theorem dX6_carryOut_35 : decode cX6_carryOut 35 = .ok (.iload_n 1, 1) := by decide +kernel
theorem dX6_carryOut_36 : decode cX6_carryOut 36 = .ok (.bipush 80, 2) := by decide +kernel
theorem dX6_carryOut_38 : decode cX6_carryOut 38 = .ok (.if_icmp .ge 36, 3) := by decide +kernel
theorem dX6_carryOut_41 : decode cX6_carryOut 41 = .ok (.aload_n 0, 1) := by decide +kernel
theorem dX6_carryOut_42 : decode cX6_carryOut 42 = .ok (.getfield 46, 3) := by decide +kernel
theorem dX6_carryOut_45 : decode cX6_carryOut 45 = .ok (.invokevirtual 191, 3) := by decide +kernel
theorem dX6_carryOut_48 : decode cX6_carryOut 48 = .ok (.ifCond .eq 26, 3) := by decide +kernel
theorem dX6_carryOut_51 : decode cX6_carryOut 51 = .ok (.aload_n 0, 1) := by decide +kernel
theorem dX6_carryOut_52 : decode cX6_carryOut 52 = .ok (.invokevirtual 194, 3) := by decide +kernel
theorem dX6_carryOut_55 : decode cX6_carryOut 55 = .ok (.ifCond .lt 19, 3) := by decide +kernel
theorem dX6_carryOut_58 : decode cX6_carryOut 58 = .ok (.iinc 1 1, 3) := by decide +kernel
theorem dX6_carryOut_61 : decode cX6_carryOut 61 = .ok (.aload_n 0, 1) := by decide +kernel
theorem dX6_carryOut_62 : decode cX6_carryOut 62 = .ok (.getfield 46, 3) := by decide +kernel
theorem dX6_carryOut_65 : decode cX6_carryOut 65 = .ok (.bipush 59, 2) := by decide +kernel
theorem dX6_carryOut_67 : decode cX6_carryOut 67 = .ok (.invokevirtual 197, 3) := by decide +kernel
theorem dX6_carryOut_70 : decode cX6_carryOut 70 = .ok (.pop, 1) := by decide +kernel
theorem dX6_carryOut_71 : decode cX6_carryOut 71 = .ok (.goto (-36), 3) := by decide +kernel
theorem dX6_carryOut_74 : decode cX6_carryOut 74 = .ok (.aload_n 0, 1) := by decide +kernel
theorem dX6_carryOut_75 : decode cX6_carryOut 75 = .ok (.getfield 37, 3) := by decide +kernel
theorem dX6_carryOut_78 : decode cX6_carryOut 78 = .ok (.invokevirtual 85, 3) := by decide +kernel
theorem dX6_carryOut_81 : decode cX6_carryOut 81 = .ok (.aload_n 0, 1) := by decide +kernel
theorem dX6_carryOut_82 : decode cX6_carryOut 82 = .ok (.iload_n 1, 1) := by decide +kernel
theorem dX6_carryOut_83 : decode cX6_carryOut 83 = .ok (.invokevirtual 58, 3) := by decide +kernel
theorem dX6_carryOut_86 : decode cX6_carryOut 86 = .ok (.ireturn, 1) := by decide +kernel
theorem dX6_undo_0 : decode cX6_undo 0 = .ok (.aload_n 0, 1) := by decide +kernel
theorem dX6_undo_1 : decode cX6_undo 1 = .ok (.getfield 22, 3) := by decide +kernel
theorem dX6_undo_4 : decode cX6_undo 4 = .ok (.getfield 133, 3) := by decide +kernel
theorem dX6_undo_7 : decode cX6_undo 7 = .ok (.ifCond .ne 6, 3) := by decide +kernel
theorem dX6_undo_10 : decode cX6_undo 10 = .ok (.bipush (-5), 2) := by decide +kernel
theorem dX6_undo_12 : decode cX6_undo 12 = .ok (.ireturn, 1) := by decide +kernel
theorem dX6_undo_13 : decode cX6_undo 13 = .ok (.aload_n 0, 1) := by decide +kernel
theorem dX6_undo_14 : decode cX6_undo 14 = .ok (.getfield 22, 3) := by decide +kernel
theorem dX6_undo_17 : decode cX6_undo 17 = .ok (.aload_n 0, 1) := by decide +kernel
theorem dX6_undo_18 : decode cX6_undo 18 = .ok (.getfield 10, 3) := by decide +kernel
theorem dX6_undo_21 : decode cX6_undo 21 = .ok (.invokevirtual 201, 3) := by decide +kernel
theorem dX6_undo_24 : decode cX6_undo 24 = .ok (.aload_n 0, 1) := by decide +kernel
theorem dX6_undo_25 : decode cX6_undo 25 = .ok (.getfield 22, 3) := by decide +kernel
theorem dX6_undo_28 : decode cX6_undo 28 = .ok (.getfield 133, 3) := by decide +kernel
theorem dX6_undo_31 : decode cX6_undo 31 = .ok (.ireturn, 1) := by decide +kernel
theorem dX6_save_0 : decode cX6_save 0 = .ok (.iload_n 1, 1) := by decide +kernel
theorem dX6_save_1 : decode cX6_save 1 = .ok (.iconst 2, 1) := by decide +kernel
theorem dX6_save_2 : decode cX6_save 2 = .ok (.invokestatic 100, 3) := by decide +kernel
theorem dX6_save_5 : decode cX6_save 5 = .ok (.ifCond .ne 6, 3) := by decide +kernel
theorem dX6_save_8 : decode cX6_save 8 = .ok (.bipush (-2), 2) := by decide +kernel
theorem dX6_save_10 : decode cX6_save 10 = .ok (.ireturn, 1) := by decide +kernel
theorem dX6_save_11 : decode cX6_save 11 = .ok (.aload_n 0, 1) := by decide +kernel
theorem dX6_save_12 : decode cX6_save 12 = .ok (.getfield 26, 3) := by decide +kernel
theorem dX6_save_15 : decode cX6_save 15 = .ok (.iload_n 1, 1) := by decide +kernel
theorem dX6_save_16 : decode cX6_save 16 = .ok (.aaload, 1) := by decide +kernel
theorem dX6_save_17 : decode cX6_save 17 = .ok (.aload_n 0, 1) := by decide +kernel
theorem dX6_save_18 : decode cX6_save 18 = .ok (.getfield 10, 3) := by decide +kernel
theorem dX6_save_21 : decode cX6_save 21 = .ok (.invokevirtual 147, 3) := by decide +kernel
theorem dX6_save_24 : decode cX6_save 24 = .ok (.aload_n 0, 1) := by decide +kernel
theorem dX6_save_25 : decode cX6_save 25 = .ok (.getfield 30, 3) := by decide +kernel
theorem dX6_save_28 : decode cX6_save 28 = .ok (.iload_n 1, 1) := by decide +kernel
theorem dX6_save_29 : decode cX6_save 29 = .ok (.iconst 1, 1) := by decide +kernel
theorem dX6_save_30 : decode cX6_save 30 = .ok (.bastore, 1) := by decide +kernel
theorem dX6_save_31 : decode cX6_save 31 = .ok (.aload_n 0, 1) := by decide +kernel
theorem dX6_save_32 : decode cX6_save 32 = .ok (.getfield 10, 3) := by decide +kernel
theorem dX6_save_35 : decode cX6_save 35 = .ok (.getfield 204, 3) := by decide +kernel
theorem dX6_save_38 : decode cX6_save 38 = .ok (.ireturn, 1) := by decide +kernel
theorem dX6_restore_0 : decode cX6_restore 0 = .ok (.iload_n 1, 1) := by decide +kernel
theorem dX6_restore_1 : decode cX6_restore 1 = .ok (.iconst 2, 1) := by decide +kernel
theorem dX6_restore_2 : decode cX6_restore 2 = .ok (.invokestatic 100, 3) := by decide +kernel
theorem dX6_restore_5 : decode cX6_restore 5 = .ok (.ifCond .ne 6, 3) := by decide +kernel
theorem dX6_restore_8 : decode cX6_restore 8 = .ok (.bipush (-2), 2) := by decide +kernel
theorem dX6_restore_10 : decode cX6_restore 10 = .ok (.ireturn, 1) := by decide +kernel
theorem dX6_restore_11 : decode cX6_restore 11 = .ok (.aload_n 0, 1) := by decide +kernel
theorem dX6_restore_12 : decode cX6_restore 12 = .ok (.getfield 30, 3) := by decide +kernel
theorem dX6_restore_15 : decode cX6_restore 15 = .ok (.iload_n 1, 1) := by decide +kernel
theorem dX6_restore_16 : decode cX6_restore 16 = .ok (.baload, 1) := by decide +kernel
theorem dX6_restore_17 : decode cX6_restore 17 = .ok (.ifCond .ne 6, 3) := by decide +kernel
theorem dX6_restore_20 : decode cX6_restore 20 = .ok (.bipush (-5), 2) := by decide +kernel
theorem dX6_restore_22 : decode cX6_restore 22 = .ok (.ireturn, 1) := by decide +kernel
theorem dX6_restore_23 : decode cX6_restore 23 = .ok (.aload_n 0, 1) := by decide +kernel
theorem dX6_restore_24 : decode cX6_restore 24 = .ok (.getfield 22, 3) := by decide +kernel
theorem dX6_restore_27 : decode cX6_restore 27 = .ok (.aload_n 0, 1) := by decide +kernel
theorem dX6_restore_28 : decode cX6_restore 28 = .ok (.getfield 10, 3) := by decide +kernel
theorem dX6_restore_31 : decode cX6_restore 31 = .ok (.invokevirtual 50, 3) := by decide +kernel
theorem dX6_restore_34 : decode cX6_restore 34 = .ok (.aload_n 0, 1) := by decide +kernel
theorem dX6_restore_35 : decode cX6_restore 35 = .ok (.getfield 10, 3) := by decide +kernel
theorem dX6_restore_38 : decode cX6_restore 38 = .ok (.aload_n 0, 1) := by decide +kernel
theorem dX6_restore_39 : decode cX6_restore 39 = .ok (.getfield 26, 3) := by decide +kernel
theorem dX6_restore_42 : decode cX6_restore 42 = .ok (.iload_n 1, 1) := by decide +kernel
theorem dX6_restore_43 : decode cX6_restore 43 = .ok (.aaload, 1) := by decide +kernel
theorem dX6_restore_44 : decode cX6_restore 44 = .ok (.invokevirtual 147, 3) := by decide +kernel
theorem dX6_restore_47 : decode cX6_restore 47 = .ok (.aload_n 0, 1) := by decide +kernel
theorem dX6_restore_48 : decode cX6_restore 48 = .ok (.aload_n 0, 1) := by decide +kernel
theorem dX6_restore_49 : decode cX6_restore 49 = .ok (.getfield 10, 3) := by decide +kernel
theorem dX6_restore_52 : decode cX6_restore 52 = .ok (.getfield 204, 3) := by decide +kernel
theorem dX6_restore_55 : decode cX6_restore 55 = .ok (.invokevirtual 58, 3) := by decide +kernel
theorem dX6_restore_58 : decode cX6_restore 58 = .ok (.ireturn, 1) := by decide +kernel
theorem dX6_isBelow_0 : decode cX6_isBelow 0 = .ok (.iload_n 0, 1) := by decide +kernel
theorem dX6_isBelow_1 : decode cX6_isBelow 1 = .ok (.ifCond .lt 12, 3) := by decide +kernel
theorem dX6_isBelow_4 : decode cX6_isBelow 4 = .ok (.iload_n 0, 1) := by decide +kernel
theorem dX6_isBelow_5 : decode cX6_isBelow 5 = .ok (.iload_n 1, 1) := by decide +kernel
theorem dX6_isBelow_6 : decode cX6_isBelow 6 = .ok (.if_icmp .ge 7, 3) := by decide +kernel
theorem dX6_isBelow_9 : decode cX6_isBelow 9 = .ok (.iconst 1, 1) := by decide +kernel
theorem dX6_isBelow_10 : decode cX6_isBelow 10 = .ok (.goto 4, 3) := by decide +kernel
theorem dX6_isBelow_13 : decode cX6_isBelow 13 = .ok (.iconst 0, 1) := by decide +kernel
theorem dX6_isBelow_14 : decode cX6_isBelow 14 = .ok (.ireturn, 1) := by decide +kernel
theorem dX6_numberOf_0 : decode cX6_numberOf 0 = .ok (.aload_n 0, 1) := by decide +kernel
theorem dX6_numberOf_1 : decode cX6_numberOf 1 = .ok (.ifnonnull 7, 3) := by decide +kernel
theorem dX6_numberOf_4 : decode cX6_numberOf 4 = .ok (.iload_n 1, 1) := by decide +kernel
theorem dX6_numberOf_5 : decode cX6_numberOf 5 = .ok (.goto 7, 3) := by decide +kernel
theorem dX6_numberOf_8 : decode cX6_numberOf 8 = .ok (.aload_n 0, 1) := by decide +kernel
theorem dX6_numberOf_9 : decode cX6_numberOf 9 = .ok (.getfield 207, 3) := by decide +kernel
theorem dX6_numberOf_12 : decode cX6_numberOf 12 = .ok (.ireturn, 1) := by decide +kernel
theorem dX6_recorded_0 : decode cX6_recorded 0 = .ok (.iload_n 1, 1) := by decide +kernel
theorem dX6_recorded_1 : decode cX6_recorded 1 = .ok (.ifCond .lt 10, 3) := by decide +kernel
theorem dX6_recorded_4 : decode cX6_recorded 4 = .ok (.aload_n 0, 1) := by decide +kernel
theorem dX6_recorded_5 : decode cX6_recorded 5 = .ok (.getfield 22, 3) := by decide +kernel
theorem dX6_recorded_8 : decode cX6_recorded 8 = .ok (.invokevirtual 210, 3) := by decide +kernel
theorem dX6_recorded_11 : decode cX6_recorded 11 = .ok (.iload_n 1, 1) := by decide +kernel
theorem dX6_recorded_12 : decode cX6_recorded 12 = .ok (.ireturn, 1) := by decide +kernel
theorem dX6_signsIn_0 : decode cX6_signsIn 0 = .ok (.lload_n 0, 1) := by decide +kernel
theorem dX6_signsIn_1 : decode cX6_signsIn 1 = .ok (.lstore_n 2, 1) := by decide +kernel
theorem dX6_signsIn_2 : decode cX6_signsIn 2 = .ok (.iconst 0, 1) := by decide +kernel
theorem dX6_signsIn_3 : decode cX6_signsIn 3 = .ok (.istore 4, 2) := by decide +kernel
theorem dX6_signsIn_5 : decode cX6_signsIn 5 = .ok (.iload 4, 2) := by decide +kernel
theorem dX6_signsIn_7 : decode cX6_signsIn 7 = .ok (.bipush 8, 2) := by decide +kernel
theorem dX6_signsIn_9 : decode cX6_signsIn 9 = .ok (.if_icmp .ge 44, 3) := by decide +kernel
theorem dX6_signsIn_12 : decode cX6_signsIn 12 = .ok (.lload_n 2, 1) := by decide +kernel
theorem dX6_signsIn_13 : decode cX6_signsIn 13 = .ok (.lconst 0, 1) := by decide +kernel
theorem dX6_signsIn_14 : decode cX6_signsIn 14 = .ok (.lcmp, 1) := by decide +kernel
theorem dX6_signsIn_15 : decode cX6_signsIn 15 = .ok (.ifCond .eq 38, 3) := by decide +kernel
theorem dX6_signsIn_18 : decode cX6_signsIn 18 = .ok (.lload_n 2, 1) := by decide +kernel
theorem dX6_signsIn_19 : decode cX6_signsIn 19 = .ok (.l2i, 1) := by decide +kernel
theorem dX6_signsIn_20 : decode cX6_signsIn 20 = .ok (.sipush 255, 3) := by decide +kernel
theorem dX6_signsIn_23 : decode cX6_signsIn 23 = .ok (.iand, 1) := by decide +kernel
theorem dX6_signsIn_24 : decode cX6_signsIn 24 = .ok (.istore 5, 2) := by decide +kernel
theorem dX6_signsIn_26 : decode cX6_signsIn 26 = .ok (.iload 5, 2) := by decide +kernel
theorem dX6_signsIn_28 : decode cX6_signsIn 28 = .ok (.bipush 33, 2) := by decide +kernel
theorem dX6_signsIn_30 : decode cX6_signsIn 30 = .ok (.if_icmp .lt 10, 3) := by decide +kernel
theorem dX6_signsIn_33 : decode cX6_signsIn 33 = .ok (.iload 5, 2) := by decide +kernel
theorem dX6_signsIn_35 : decode cX6_signsIn 35 = .ok (.bipush 126, 2) := by decide +kernel
theorem dX6_signsIn_37 : decode cX6_signsIn 37 = .ok (.if_icmp .le 5, 3) := by decide +kernel
theorem dX6_signsIn_40 : decode cX6_signsIn 40 = .ok (.iconst 0, 1) := by decide +kernel
theorem dX6_signsIn_41 : decode cX6_signsIn 41 = .ok (.ireturn, 1) := by decide +kernel
theorem dX6_signsIn_42 : decode cX6_signsIn 42 = .ok (.iinc 4 1, 3) := by decide +kernel
theorem dX6_signsIn_45 : decode cX6_signsIn 45 = .ok (.lload_n 2, 1) := by decide +kernel
theorem dX6_signsIn_46 : decode cX6_signsIn 46 = .ok (.bipush 8, 2) := by decide +kernel
theorem dX6_signsIn_48 : decode cX6_signsIn 48 = .ok (.lushr, 1) := by decide +kernel
theorem dX6_signsIn_49 : decode cX6_signsIn 49 = .ok (.lstore_n 2, 1) := by decide +kernel
theorem dX6_signsIn_50 : decode cX6_signsIn 50 = .ok (.goto (-45), 3) := by decide +kernel
theorem dX6_signsIn_53 : decode cX6_signsIn 53 = .ok (.iload 4, 2) := by decide +kernel
theorem dX6_signsIn_55 : decode cX6_signsIn 55 = .ok (.ireturn, 1) := by decide +kernel
theorem dX6_appendNote_0 : decode cX6_appendNote 0 = .ok (.aload_n 0, 1) := by decide +kernel
theorem dX6_appendNote_1 : decode cX6_appendNote 1 = .ok (.getfield 37, 3) := by decide +kernel
theorem dX6_appendNote_4 : decode cX6_appendNote 4 = .ok (.bipush 99, 2) := by decide +kernel
theorem dX6_appendNote_6 : decode cX6_appendNote 6 = .ok (.invokevirtual 181, 3) := by decide +kernel
theorem dX6_appendNote_9 : decode cX6_appendNote 9 = .ok (.aload_n 0, 1) := by decide +kernel
theorem dX6_appendNote_10 : decode cX6_appendNote 10 = .ok (.getfield 37, 3) := by decide +kernel
theorem dX6_appendNote_13 : decode cX6_appendNote 13 = .ok (.aload_n 1, 1) := by decide +kernel
theorem dX6_appendNote_14 : decode cX6_appendNote 14 = .ok (.getfield 207, 3) := by decide +kernel
theorem dX6_appendNote_17 : decode cX6_appendNote 17 = .ok (.invokevirtual 213, 3) := by decide +kernel
theorem dX6_appendNote_20 : decode cX6_appendNote 20 = .ok (.aload_n 0, 1) := by decide +kernel
theorem dX6_appendNote_21 : decode cX6_appendNote 21 = .ok (.getfield 37, 3) := by decide +kernel
theorem dX6_appendNote_24 : decode cX6_appendNote 24 = .ok (.bipush 64, 2) := by decide +kernel
theorem dX6_appendNote_26 : decode cX6_appendNote 26 = .ok (.invokevirtual 181, 3) := by decide +kernel
theorem dX6_appendNote_29 : decode cX6_appendNote 29 = .ok (.aload_n 0, 1) := by decide +kernel
theorem dX6_appendNote_30 : decode cX6_appendNote 30 = .ok (.getfield 37, 3) := by decide +kernel
theorem dX6_appendNote_33 : decode cX6_appendNote 33 = .ok (.aload_n 1, 1) := by decide +kernel
theorem dX6_appendNote_34 : decode cX6_appendNote 34 = .ok (.getfield 216, 3) := by decide +kernel
theorem dX6_appendNote_37 : decode cX6_appendNote 37 = .ok (.invokevirtual 213, 3) := by decide +kernel
theorem dX6_appendNote_40 : decode cX6_appendNote 40 = .ok (.aload_n 0, 1) := by decide +kernel
theorem dX6_appendNote_41 : decode cX6_appendNote 41 = .ok (.getfield 37, 3) := by decide +kernel
theorem dX6_appendNote_44 : decode cX6_appendNote 44 = .ok (.bipush 42, 2) := by decide +kernel
theorem dX6_appendNote_46 : decode cX6_appendNote 46 = .ok (.invokevirtual 181, 3) := by decide +kernel
theorem dX6_appendNote_49 : decode cX6_appendNote 49 = .ok (.aload_n 0, 1) := by decide +kernel
theorem dX6_appendNote_50 : decode cX6_appendNote 50 = .ok (.getfield 37, 3) := by decide +kernel
theorem dX6_appendNote_53 : decode cX6_appendNote 53 = .ok (.aload_n 1, 1) := by decide +kernel
theorem dX6_appendNote_54 : decode cX6_appendNote 54 = .ok (.getfield 219, 3) := by decide +kernel
theorem dX6_appendNote_57 : decode cX6_appendNote 57 = .ok (.invokevirtual 213, 3) := by decide +kernel
theorem dX6_appendNote_60 : decode cX6_appendNote 60 = .ok (.iconst 0, 1) := by decide +kernel
theorem dX6_appendNote_61 : decode cX6_appendNote 61 = .ok (.istore_n 2, 1) := by decide +kernel
theorem dX6_appendNote_62 : decode cX6_appendNote 62 = .ok (.iload_n 2, 1) := by decide +kernel
theorem dX6_appendNote_63 : decode cX6_appendNote 63 = .ok (.bipush 12, 2) := by decide +kernel
theorem dX6_appendNote_65 : decode cX6_appendNote 65 = .ok (.if_icmp .ge 93, 3) := by decide +kernel
theorem dX6_appendNote_68 : decode cX6_appendNote 68 = .ok (.aload_n 0, 1) := by decide +kernel
theorem dX6_appendNote_69 : decode cX6_appendNote 69 = .ok (.getfield 10, 3) := by decide +kernel
theorem dX6_appendNote_72 : decode cX6_appendNote 72 = .ok (.iload_n 2, 1) := by decide +kernel
theorem dX6_appendNote_73 : decode cX6_appendNote 73 = .ok (.invokevirtual 96, 3) := by decide +kernel
theorem dX6_appendNote_76 : decode cX6_appendNote 76 = .ok (.astore_n 3, 1) := by decide +kernel
theorem dX6_appendNote_77 : decode cX6_appendNote 77 = .ok (.aload_n 3, 1) := by decide +kernel
theorem dX6_appendNote_78 : decode cX6_appendNote 78 = .ok (.ifnull 74, 3) := by decide +kernel
theorem dX6_appendNote_81 : decode cX6_appendNote 81 = .ok (.aload_n 1, 1) := by decide +kernel
theorem dX6_appendNote_82 : decode cX6_appendNote 82 = .ok (.aload_n 3, 1) := by decide +kernel
theorem dX6_appendNote_83 : decode cX6_appendNote 83 = .ok (.invokevirtual 222, 3) := by decide +kernel
theorem dX6_appendNote_86 : decode cX6_appendNote 86 = .ok (.aload_n 3, 1) := by decide +kernel
theorem dX6_appendNote_87 : decode cX6_appendNote 87 = .ok (.getfield 158, 3) := by decide +kernel
theorem dX6_appendNote_90 : decode cX6_appendNote 90 = .ok (.if_icmp .ge 62, 3) := by decide +kernel
theorem dX6_appendNote_93 : decode cX6_appendNote 93 = .ok (.aload_n 0, 1) := by decide +kernel
theorem dX6_appendNote_94 : decode cX6_appendNote 94 = .ok (.getfield 37, 3) := by decide +kernel
theorem dX6_appendNote_97 : decode cX6_appendNote 97 = .ok (.bipush 59, 2) := by decide +kernel
theorem dX6_appendNote_99 : decode cX6_appendNote 99 = .ok (.invokevirtual 181, 3) := by decide +kernel
theorem dX6_appendNote_102 : decode cX6_appendNote 102 = .ok (.aload_n 0, 1) := by decide +kernel
theorem dX6_appendNote_103 : decode cX6_appendNote 103 = .ok (.getfield 37, 3) := by decide +kernel
theorem dX6_appendNote_106 : decode cX6_appendNote 106 = .ok (.iload_n 2, 1) := by decide +kernel
theorem dX6_appendNote_107 : decode cX6_appendNote 107 = .ok (.invokevirtual 213, 3) := by decide +kernel
theorem dX6_appendNote_110 : decode cX6_appendNote 110 = .ok (.aload_n 0, 1) := by decide +kernel
theorem dX6_appendNote_111 : decode cX6_appendNote 111 = .ok (.getfield 37, 3) := by decide +kernel
theorem dX6_appendNote_114 : decode cX6_appendNote 114 = .ok (.bipush 58, 2) := by decide +kernel
theorem dX6_appendNote_116 : decode cX6_appendNote 116 = .ok (.invokevirtual 181, 3) := by decide +kernel
theorem dX6_appendNote_119 : decode cX6_appendNote 119 = .ok (.aload_n 0, 1) := by decide +kernel
theorem dX6_appendNote_120 : decode cX6_appendNote 120 = .ok (.getfield 37, 3) := by decide +kernel
theorem dX6_appendNote_123 : decode cX6_appendNote 123 = .ok (.aload_n 1, 1) := by decide +kernel
theorem dX6_appendNote_124 : decode cX6_appendNote 124 = .ok (.aload_n 3, 1) := by decide +kernel
theorem dX6_appendNote_125 : decode cX6_appendNote 125 = .ok (.invokevirtual 112, 3) := by decide +kernel
theorem dX6_appendNote_128 : decode cX6_appendNote 128 = .ok (.invokevirtual 213, 3) := by decide +kernel
theorem dX6_appendNote_131 : decode cX6_appendNote 131 = .ok (.aload_n 0, 1) := by decide +kernel
theorem dX6_appendNote_132 : decode cX6_appendNote 132 = .ok (.getfield 37, 3) := by decide +kernel
theorem dX6_appendNote_135 : decode cX6_appendNote 135 = .ok (.bipush 45, 2) := by decide +kernel
theorem dX6_appendNote_137 : decode cX6_appendNote 137 = .ok (.invokevirtual 181, 3) := by decide +kernel
theorem dX6_appendNote_140 : decode cX6_appendNote 140 = .ok (.aload_n 0, 1) := by decide +kernel
theorem dX6_appendNote_141 : decode cX6_appendNote 141 = .ok (.getfield 37, 3) := by decide +kernel
theorem dX6_appendNote_144 : decode cX6_appendNote 144 = .ok (.aload_n 1, 1) := by decide +kernel
theorem dX6_appendNote_145 : decode cX6_appendNote 145 = .ok (.aload_n 3, 1) := by decide +kernel
theorem dX6_appendNote_146 : decode cX6_appendNote 146 = .ok (.invokevirtual 116, 3) := by decide +kernel
theorem dX6_appendNote_149 : decode cX6_appendNote 149 = .ok (.invokevirtual 213, 3) := by decide +kernel
theorem dX6_appendNote_152 : decode cX6_appendNote 152 = .ok (.iinc 2 1, 3) := by decide +kernel
theorem dX6_appendNote_155 : decode cX6_appendNote 155 = .ok (.goto (-93), 3) := by decide +kernel
theorem dX6_appendNote_158 : decode cX6_appendNote 158 = .ok (.return_, 1) := by decide +kernel
theorem dX6_obey_0 : decode cX6_obey 0 = .ok (.aload_n 0, 1) := by decide +kernel
theorem dX6_obey_1 : decode cX6_obey 1 = .ok (.getfield 46, 3) := by decide +kernel
theorem dX6_obey_4 : decode cX6_obey 4 = .ok (.getfield 225, 3) := by decide +kernel
theorem dX6_obey_7 : decode cX6_obey 7 = .ok (.tableswitch 174 98 108 #[57, 86, 174, 174, 174, 108, 137, 174, 174, 174, 159], 57) := by decide +kernel
theorem dX6_obey_64 : decode cX6_obey 64 = .ok (.aload_n 0, 1) := by decide +kernel
theorem dX6_obey_65 : decode cX6_obey 65 = .ok (.getfield 10, 3) := by decide +kernel
theorem dX6_obey_68 : decode cX6_obey 68 = .ok (.aload_n 0, 1) := by decide +kernel
theorem dX6_obey_69 : decode cX6_obey 69 = .ok (.getfield 46, 3) := by decide +kernel
theorem dX6_obey_72 : decode cX6_obey 72 = .ok (.getfield 228, 3) := by decide +kernel
theorem dX6_obey_75 : decode cX6_obey 75 = .ok (.aload_n 0, 1) := by decide +kernel
theorem dX6_obey_76 : decode cX6_obey 76 = .ok (.getfield 46, 3) := by decide +kernel
theorem dX6_obey_79 : decode cX6_obey 79 = .ok (.getfield 231, 3) := by decide +kernel
theorem dX6_obey_82 : decode cX6_obey 82 = .ok (.aload_n 0, 1) := by decide +kernel
theorem dX6_obey_83 : decode cX6_obey 83 = .ok (.getfield 46, 3) := by decide +kernel
theorem dX6_obey_86 : decode cX6_obey 86 = .ok (.getfield 234, 3) := by decide +kernel
theorem dX6_obey_89 : decode cX6_obey 89 = .ok (.invokevirtual 62, 3) := by decide +kernel
theorem dX6_obey_92 : decode cX6_obey 92 = .ok (.ireturn, 1) := by decide +kernel
theorem dX6_obey_93 : decode cX6_obey 93 = .ok (.aload_n 0, 1) := by decide +kernel
theorem dX6_obey_94 : decode cX6_obey 94 = .ok (.getfield 10, 3) := by decide +kernel
theorem dX6_obey_97 : decode cX6_obey 97 = .ok (.aload_n 0, 1) := by decide +kernel
theorem dX6_obey_98 : decode cX6_obey 98 = .ok (.getfield 46, 3) := by decide +kernel
theorem dX6_obey_101 : decode cX6_obey 101 = .ok (.getfield 228, 3) := by decide +kernel
theorem dX6_obey_104 : decode cX6_obey 104 = .ok (.aload_n 0, 1) := by decide +kernel
theorem dX6_obey_105 : decode cX6_obey 105 = .ok (.getfield 46, 3) := by decide +kernel
theorem dX6_obey_108 : decode cX6_obey 108 = .ok (.getfield 231, 3) := by decide +kernel
theorem dX6_obey_111 : decode cX6_obey 111 = .ok (.invokevirtual 66, 3) := by decide +kernel
theorem dX6_obey_114 : decode cX6_obey 114 = .ok (.ireturn, 1) := by decide +kernel
theorem dX6_obey_115 : decode cX6_obey 115 = .ok (.aload_n 0, 1) := by decide +kernel
theorem dX6_obey_116 : decode cX6_obey 116 = .ok (.getfield 10, 3) := by decide +kernel
theorem dX6_obey_119 : decode cX6_obey 119 = .ok (.aload_n 0, 1) := by decide +kernel
theorem dX6_obey_120 : decode cX6_obey 120 = .ok (.getfield 46, 3) := by decide +kernel
theorem dX6_obey_123 : decode cX6_obey 123 = .ok (.getfield 228, 3) := by decide +kernel
theorem dX6_obey_126 : decode cX6_obey 126 = .ok (.aload_n 0, 1) := by decide +kernel
theorem dX6_obey_127 : decode cX6_obey 127 = .ok (.getfield 46, 3) := by decide +kernel
theorem dX6_obey_130 : decode cX6_obey 130 = .ok (.getfield 231, 3) := by decide +kernel
theorem dX6_obey_133 : decode cX6_obey 133 = .ok (.aload_n 0, 1) := by decide +kernel
theorem dX6_obey_134 : decode cX6_obey 134 = .ok (.getfield 46, 3) := by decide +kernel
theorem dX6_obey_137 : decode cX6_obey 137 = .ok (.getfield 234, 3) := by decide +kernel
theorem dX6_obey_140 : decode cX6_obey 140 = .ok (.invokevirtual 69, 3) := by decide +kernel
theorem dX6_obey_143 : decode cX6_obey 143 = .ok (.ireturn, 1) := by decide +kernel
theorem dX6_obey_144 : decode cX6_obey 144 = .ok (.aload_n 0, 1) := by decide +kernel
theorem dX6_obey_145 : decode cX6_obey 145 = .ok (.getfield 10, 3) := by decide +kernel
theorem dX6_obey_148 : decode cX6_obey 148 = .ok (.aload_n 0, 1) := by decide +kernel
theorem dX6_obey_149 : decode cX6_obey 149 = .ok (.getfield 46, 3) := by decide +kernel
theorem dX6_obey_152 : decode cX6_obey 152 = .ok (.getfield 228, 3) := by decide +kernel
theorem dX6_obey_155 : decode cX6_obey 155 = .ok (.aload_n 0, 1) := by decide +kernel
theorem dX6_obey_156 : decode cX6_obey 156 = .ok (.getfield 46, 3) := by decide +kernel
theorem dX6_obey_159 : decode cX6_obey 159 = .ok (.getfield 231, 3) := by decide +kernel
theorem dX6_obey_162 : decode cX6_obey 162 = .ok (.invokevirtual 75, 3) := by decide +kernel
theorem dX6_obey_165 : decode cX6_obey 165 = .ok (.ireturn, 1) := by decide +kernel
theorem dX6_obey_166 : decode cX6_obey 166 = .ok (.aload_n 0, 1) := by decide +kernel
theorem dX6_obey_167 : decode cX6_obey 167 = .ok (.getfield 10, 3) := by decide +kernel
theorem dX6_obey_170 : decode cX6_obey 170 = .ok (.aload_n 0, 1) := by decide +kernel
theorem dX6_obey_171 : decode cX6_obey 171 = .ok (.getfield 46, 3) := by decide +kernel
theorem dX6_obey_174 : decode cX6_obey 174 = .ok (.getfield 228, 3) := by decide +kernel
theorem dX6_obey_177 : decode cX6_obey 177 = .ok (.invokevirtual 72, 3) := by decide +kernel
theorem dX6_obey_180 : decode cX6_obey 180 = .ok (.ireturn, 1) := by decide +kernel
theorem dX6_obey_181 : decode cX6_obey 181 = .ok (.aload_n 0, 1) := by decide +kernel
theorem dX6_obey_182 : decode cX6_obey 182 = .ok (.getfield 10, 3) := by decide +kernel
theorem dX6_obey_185 : decode cX6_obey 185 = .ok (.aload_n 0, 1) := by decide +kernel
theorem dX6_obey_186 : decode cX6_obey 186 = .ok (.getfield 46, 3) := by decide +kernel
theorem dX6_obey_189 : decode cX6_obey 189 = .ok (.getfield 228, 3) := by decide +kernel
theorem dX6_obey_192 : decode cX6_obey 192 = .ok (.invokevirtual 78, 3) := by decide +kernel
theorem dX6_obey_195 : decode cX6_obey 195 = .ok (.ireturn, 1) := by decide +kernel
theorem dL_law_0 : decode cL_law 0 = .ok (.new 7, 3) := by decide +kernel
theorem dL_law_3 : decode cL_law 3 = .ok (.dup, 1) := by decide +kernel
theorem dL_law_4 : decode cL_law 4 = .ok (.invokespecial 9, 3) := by decide +kernel
theorem dL_law_7 : decode cL_law 7 = .ok (.astore_n 1, 1) := by decide +kernel
theorem dL_law_8 : decode cL_law 8 = .ok (.new 10, 3) := by decide +kernel
theorem dL_law_11 : decode cL_law 11 = .ok (.dup, 1) := by decide +kernel
theorem dL_law_12 : decode cL_law 12 = .ok (.invokespecial 12, 3) := by decide +kernel
theorem dL_law_15 : decode cL_law 15 = .ok (.astore_n 2, 1) := by decide +kernel
theorem dL_law_16 : decode cL_law 16 = .ok (.iconst 0, 1) := by decide +kernel
theorem dL_law_17 : decode cL_law 17 = .ok (.istore_n 3, 1) := by decide +kernel
theorem dL_law_18 : decode cL_law 18 = .ok (.iload_n 3, 1) := by decide +kernel
theorem dL_law_19 : decode cL_law 19 = .ok (.aload_n 0, 1) := by decide +kernel
theorem dL_law_20 : decode cL_law 20 = .ok (.arraylength, 1) := by decide +kernel
theorem dL_law_21 : decode cL_law 21 = .ok (.iconst 5, 1) := by decide +kernel
theorem dL_law_22 : decode cL_law 22 = .ok (.isub, 1) := by decide +kernel
theorem dL_law_23 : decode cL_law 23 = .ok (.if_icmp .gt 987, 3) := by decide +kernel
theorem dL_law_26 : decode cL_law 26 = .ok (.aload_n 0, 1) := by decide +kernel
theorem dL_law_27 : decode cL_law 27 = .ok (.iload_n 3, 1) := by decide +kernel
theorem dL_law_28 : decode cL_law 28 = .ok (.iaload, 1) := by decide +kernel
theorem dL_law_29 : decode cL_law 29 = .ok (.bipush 31, 2) := by decide +kernel
theorem dL_law_31 : decode cL_law 31 = .ok (.iand, 1) := by decide +kernel
theorem dL_law_32 : decode cL_law 32 = .ok (.tableswitch 972 0 27 #[128, 161, 204, 237, 280, 303, 336, 359, 382, 415, 448, 491, 524, 547, 570, 593, 616, 639, 692, 745, 788, 821, 874, 887, 900, 913, 926, 949], 128) := by decide +kernel
theorem dL_law_160 : decode cL_law 160 = .ok (.aload_n 1, 1) := by decide +kernel
theorem dL_law_161 : decode cL_law 161 = .ok (.aload_n 0, 1) := by decide +kernel
theorem dL_law_162 : decode cL_law 162 = .ok (.iload_n 3, 1) := by decide +kernel
theorem dL_law_163 : decode cL_law 163 = .ok (.iconst 1, 1) := by decide +kernel
theorem dL_law_164 : decode cL_law 164 = .ok (.iadd, 1) := by decide +kernel
theorem dL_law_165 : decode cL_law 165 = .ok (.iaload, 1) := by decide +kernel
theorem dL_law_166 : decode cL_law 166 = .ok (.aload_n 0, 1) := by decide +kernel
theorem dL_law_167 : decode cL_law 167 = .ok (.iload_n 3, 1) := by decide +kernel
theorem dL_law_168 : decode cL_law 168 = .ok (.iconst 2, 1) := by decide +kernel
theorem dL_law_169 : decode cL_law 169 = .ok (.iadd, 1) := by decide +kernel
theorem dL_law_170 : decode cL_law 170 = .ok (.iaload, 1) := by decide +kernel
theorem dL_law_171 : decode cL_law 171 = .ok (.invokevirtual 13, 3) := by decide +kernel
theorem dL_law_174 : decode cL_law 174 = .ok (.aload_n 2, 1) := by decide +kernel
theorem dL_law_175 : decode cL_law 175 = .ok (.aload_n 0, 1) := by decide +kernel
theorem dL_law_176 : decode cL_law 176 = .ok (.iload_n 3, 1) := by decide +kernel
theorem dL_law_177 : decode cL_law 177 = .ok (.iconst 1, 1) := by decide +kernel
theorem dL_law_178 : decode cL_law 178 = .ok (.iadd, 1) := by decide +kernel
theorem dL_law_179 : decode cL_law 179 = .ok (.iaload, 1) := by decide +kernel
theorem dL_law_180 : decode cL_law 180 = .ok (.aload_n 0, 1) := by decide +kernel
theorem dL_law_181 : decode cL_law 181 = .ok (.iload_n 3, 1) := by decide +kernel
theorem dL_law_182 : decode cL_law 182 = .ok (.iconst 2, 1) := by decide +kernel
theorem dL_law_183 : decode cL_law 183 = .ok (.iadd, 1) := by decide +kernel
theorem dL_law_184 : decode cL_law 184 = .ok (.iaload, 1) := by decide +kernel
theorem dL_law_185 : decode cL_law 185 = .ok (.invokevirtual 17, 3) := by decide +kernel
theorem dL_law_188 : decode cL_law 188 = .ok (.if_icmp .eq 816, 3) := by decide +kernel
theorem dL_law_191 : decode cL_law 191 = .ok (.iconst 0, 1) := by decide +kernel
theorem dL_law_192 : decode cL_law 192 = .ok (.ireturn, 1) := by decide +kernel
theorem dL_law_193 : decode cL_law 193 = .ok (.aload_n 1, 1) := by decide +kernel
theorem dL_law_194 : decode cL_law 194 = .ok (.aload_n 0, 1) := by decide +kernel
theorem dL_law_195 : decode cL_law 195 = .ok (.iload_n 3, 1) := by decide +kernel
theorem dL_law_196 : decode cL_law 196 = .ok (.iconst 1, 1) := by decide +kernel
theorem dL_law_197 : decode cL_law 197 = .ok (.iadd, 1) := by decide +kernel
theorem dL_law_198 : decode cL_law 198 = .ok (.iaload, 1) := by decide +kernel
theorem dL_law_199 : decode cL_law 199 = .ok (.aload_n 0, 1) := by decide +kernel
theorem dL_law_200 : decode cL_law 200 = .ok (.iload_n 3, 1) := by decide +kernel
theorem dL_law_201 : decode cL_law 201 = .ok (.iconst 2, 1) := by decide +kernel
theorem dL_law_202 : decode cL_law 202 = .ok (.iadd, 1) := by decide +kernel
theorem dL_law_203 : decode cL_law 203 = .ok (.iaload, 1) := by decide +kernel
theorem dL_law_204 : decode cL_law 204 = .ok (.aload_n 0, 1) := by decide +kernel
theorem dL_law_205 : decode cL_law 205 = .ok (.iload_n 3, 1) := by decide +kernel
theorem dL_law_206 : decode cL_law 206 = .ok (.iconst 3, 1) := by decide +kernel
theorem dL_law_207 : decode cL_law 207 = .ok (.iadd, 1) := by decide +kernel
theorem dL_law_208 : decode cL_law 208 = .ok (.iaload, 1) := by decide +kernel
theorem dL_law_209 : decode cL_law 209 = .ok (.invokevirtual 18, 3) := by decide +kernel
theorem dL_law_212 : decode cL_law 212 = .ok (.aload_n 2, 1) := by decide +kernel
theorem dL_law_213 : decode cL_law 213 = .ok (.aload_n 0, 1) := by decide +kernel
theorem dL_law_214 : decode cL_law 214 = .ok (.iload_n 3, 1) := by decide +kernel
theorem dL_law_215 : decode cL_law 215 = .ok (.iconst 1, 1) := by decide +kernel
theorem dL_law_216 : decode cL_law 216 = .ok (.iadd, 1) := by decide +kernel
theorem dL_law_217 : decode cL_law 217 = .ok (.iaload, 1) := by decide +kernel
theorem dL_law_218 : decode cL_law 218 = .ok (.aload_n 0, 1) := by decide +kernel
theorem dL_law_219 : decode cL_law 219 = .ok (.iload_n 3, 1) := by decide +kernel
theorem dL_law_220 : decode cL_law 220 = .ok (.iconst 2, 1) := by decide +kernel
theorem dL_law_221 : decode cL_law 221 = .ok (.iadd, 1) := by decide +kernel
theorem dL_law_222 : decode cL_law 222 = .ok (.iaload, 1) := by decide +kernel
theorem dL_law_223 : decode cL_law 223 = .ok (.aload_n 0, 1) := by decide +kernel
theorem dL_law_224 : decode cL_law 224 = .ok (.iload_n 3, 1) := by decide +kernel
theorem dL_law_225 : decode cL_law 225 = .ok (.iconst 3, 1) := by decide +kernel
theorem dL_law_226 : decode cL_law 226 = .ok (.iadd, 1) := by decide +kernel
theorem dL_law_227 : decode cL_law 227 = .ok (.iaload, 1) := by decide +kernel
theorem dL_law_228 : decode cL_law 228 = .ok (.invokevirtual 22, 3) := by decide +kernel
theorem dL_law_231 : decode cL_law 231 = .ok (.if_icmp .eq 773, 3) := by decide +kernel
theorem dL_law_234 : decode cL_law 234 = .ok (.iconst 0, 1) := by decide +kernel
theorem dL_law_235 : decode cL_law 235 = .ok (.ireturn, 1) := by decide +kernel
theorem dL_law_236 : decode cL_law 236 = .ok (.aload_n 1, 1) := by decide +kernel
theorem dL_law_237 : decode cL_law 237 = .ok (.aload_n 0, 1) := by decide +kernel
theorem dL_law_238 : decode cL_law 238 = .ok (.iload_n 3, 1) := by decide +kernel
theorem dL_law_239 : decode cL_law 239 = .ok (.iconst 1, 1) := by decide +kernel
theorem dL_law_240 : decode cL_law 240 = .ok (.iadd, 1) := by decide +kernel
theorem dL_law_241 : decode cL_law 241 = .ok (.iaload, 1) := by decide +kernel
theorem dL_law_242 : decode cL_law 242 = .ok (.aload_n 0, 1) := by decide +kernel
theorem dL_law_243 : decode cL_law 243 = .ok (.iload_n 3, 1) := by decide +kernel
theorem dL_law_244 : decode cL_law 244 = .ok (.iconst 2, 1) := by decide +kernel
theorem dL_law_245 : decode cL_law 245 = .ok (.iadd, 1) := by decide +kernel
theorem dL_law_246 : decode cL_law 246 = .ok (.iaload, 1) := by decide +kernel
theorem dL_law_247 : decode cL_law 247 = .ok (.invokevirtual 23, 3) := by decide +kernel
theorem dL_law_250 : decode cL_law 250 = .ok (.aload_n 2, 1) := by decide +kernel
theorem dL_law_251 : decode cL_law 251 = .ok (.aload_n 0, 1) := by decide +kernel
theorem dL_law_252 : decode cL_law 252 = .ok (.iload_n 3, 1) := by decide +kernel
theorem dL_law_253 : decode cL_law 253 = .ok (.iconst 1, 1) := by decide +kernel
theorem dL_law_254 : decode cL_law 254 = .ok (.iadd, 1) := by decide +kernel
theorem dL_law_255 : decode cL_law 255 = .ok (.iaload, 1) := by decide +kernel
theorem dL_law_256 : decode cL_law 256 = .ok (.aload_n 0, 1) := by decide +kernel
theorem dL_law_257 : decode cL_law 257 = .ok (.iload_n 3, 1) := by decide +kernel
theorem dL_law_258 : decode cL_law 258 = .ok (.iconst 2, 1) := by decide +kernel
theorem dL_law_259 : decode cL_law 259 = .ok (.iadd, 1) := by decide +kernel
theorem dL_law_260 : decode cL_law 260 = .ok (.iaload, 1) := by decide +kernel
theorem dL_law_261 : decode cL_law 261 = .ok (.invokevirtual 26, 3) := by decide +kernel
theorem dL_law_264 : decode cL_law 264 = .ok (.if_icmp .eq 740, 3) := by decide +kernel
theorem dL_law_267 : decode cL_law 267 = .ok (.iconst 0, 1) := by decide +kernel
theorem dL_law_268 : decode cL_law 268 = .ok (.ireturn, 1) := by decide +kernel
theorem dL_law_269 : decode cL_law 269 = .ok (.aload_n 1, 1) := by decide +kernel
theorem dL_law_270 : decode cL_law 270 = .ok (.aload_n 0, 1) := by decide +kernel
theorem dL_law_271 : decode cL_law 271 = .ok (.iload_n 3, 1) := by decide +kernel
theorem dL_law_272 : decode cL_law 272 = .ok (.iconst 1, 1) := by decide +kernel
theorem dL_law_273 : decode cL_law 273 = .ok (.iadd, 1) := by decide +kernel
theorem dL_law_274 : decode cL_law 274 = .ok (.iaload, 1) := by decide +kernel
theorem dL_law_275 : decode cL_law 275 = .ok (.aload_n 0, 1) := by decide +kernel
theorem dL_law_276 : decode cL_law 276 = .ok (.iload_n 3, 1) := by decide +kernel
theorem dL_law_277 : decode cL_law 277 = .ok (.iconst 2, 1) := by decide +kernel
theorem dL_law_278 : decode cL_law 278 = .ok (.iadd, 1) := by decide +kernel
theorem dL_law_279 : decode cL_law 279 = .ok (.iaload, 1) := by decide +kernel
theorem dL_law_280 : decode cL_law 280 = .ok (.aload_n 0, 1) := by decide +kernel
theorem dL_law_281 : decode cL_law 281 = .ok (.iload_n 3, 1) := by decide +kernel
theorem dL_law_282 : decode cL_law 282 = .ok (.iconst 3, 1) := by decide +kernel
theorem dL_law_283 : decode cL_law 283 = .ok (.iadd, 1) := by decide +kernel
theorem dL_law_284 : decode cL_law 284 = .ok (.iaload, 1) := by decide +kernel
theorem dL_law_285 : decode cL_law 285 = .ok (.invokevirtual 27, 3) := by decide +kernel
theorem dL_law_288 : decode cL_law 288 = .ok (.aload_n 2, 1) := by decide +kernel
theorem dL_law_289 : decode cL_law 289 = .ok (.aload_n 0, 1) := by decide +kernel
theorem dL_law_290 : decode cL_law 290 = .ok (.iload_n 3, 1) := by decide +kernel
theorem dL_law_291 : decode cL_law 291 = .ok (.iconst 1, 1) := by decide +kernel
theorem dL_law_292 : decode cL_law 292 = .ok (.iadd, 1) := by decide +kernel
theorem dL_law_293 : decode cL_law 293 = .ok (.iaload, 1) := by decide +kernel
theorem dL_law_294 : decode cL_law 294 = .ok (.aload_n 0, 1) := by decide +kernel
theorem dL_law_295 : decode cL_law 295 = .ok (.iload_n 3, 1) := by decide +kernel
theorem dL_law_296 : decode cL_law 296 = .ok (.iconst 2, 1) := by decide +kernel
theorem dL_law_297 : decode cL_law 297 = .ok (.iadd, 1) := by decide +kernel
theorem dL_law_298 : decode cL_law 298 = .ok (.iaload, 1) := by decide +kernel
theorem dL_law_299 : decode cL_law 299 = .ok (.aload_n 0, 1) := by decide +kernel
theorem dL_law_300 : decode cL_law 300 = .ok (.iload_n 3, 1) := by decide +kernel
theorem dL_law_301 : decode cL_law 301 = .ok (.iconst 3, 1) := by decide +kernel
theorem dL_law_302 : decode cL_law 302 = .ok (.iadd, 1) := by decide +kernel
theorem dL_law_303 : decode cL_law 303 = .ok (.iaload, 1) := by decide +kernel
theorem dL_law_304 : decode cL_law 304 = .ok (.invokevirtual 30, 3) := by decide +kernel
theorem dL_law_307 : decode cL_law 307 = .ok (.if_icmp .eq 697, 3) := by decide +kernel
theorem dL_law_310 : decode cL_law 310 = .ok (.iconst 0, 1) := by decide +kernel
theorem dL_law_311 : decode cL_law 311 = .ok (.ireturn, 1) := by decide +kernel
theorem dL_law_312 : decode cL_law 312 = .ok (.aload_n 1, 1) := by decide +kernel
theorem dL_law_313 : decode cL_law 313 = .ok (.aload_n 0, 1) := by decide +kernel
theorem dL_law_314 : decode cL_law 314 = .ok (.iload_n 3, 1) := by decide +kernel
theorem dL_law_315 : decode cL_law 315 = .ok (.iconst 1, 1) := by decide +kernel
theorem dL_law_316 : decode cL_law 316 = .ok (.iadd, 1) := by decide +kernel
theorem dL_law_317 : decode cL_law 317 = .ok (.iaload, 1) := by decide +kernel
theorem dL_law_318 : decode cL_law 318 = .ok (.invokevirtual 31, 3) := by decide +kernel
theorem dL_law_321 : decode cL_law 321 = .ok (.aload_n 2, 1) := by decide +kernel
theorem dL_law_322 : decode cL_law 322 = .ok (.aload_n 0, 1) := by decide +kernel
theorem dL_law_323 : decode cL_law 323 = .ok (.iload_n 3, 1) := by decide +kernel
theorem dL_law_324 : decode cL_law 324 = .ok (.iconst 1, 1) := by decide +kernel
theorem dL_law_325 : decode cL_law 325 = .ok (.iadd, 1) := by decide +kernel
theorem dL_law_326 : decode cL_law 326 = .ok (.iaload, 1) := by decide +kernel
theorem dL_law_327 : decode cL_law 327 = .ok (.invokevirtual 35, 3) := by decide +kernel
theorem dL_law_330 : decode cL_law 330 = .ok (.if_icmp .eq 674, 3) := by decide +kernel
theorem dL_law_333 : decode cL_law 333 = .ok (.iconst 0, 1) := by decide +kernel
theorem dL_law_334 : decode cL_law 334 = .ok (.ireturn, 1) := by decide +kernel
theorem dL_law_335 : decode cL_law 335 = .ok (.aload_n 1, 1) := by decide +kernel
theorem dL_law_336 : decode cL_law 336 = .ok (.aload_n 0, 1) := by decide +kernel
theorem dL_law_337 : decode cL_law 337 = .ok (.iload_n 3, 1) := by decide +kernel
theorem dL_law_338 : decode cL_law 338 = .ok (.iconst 1, 1) := by decide +kernel
theorem dL_law_339 : decode cL_law 339 = .ok (.iadd, 1) := by decide +kernel
theorem dL_law_340 : decode cL_law 340 = .ok (.iaload, 1) := by decide +kernel
theorem dL_law_341 : decode cL_law 341 = .ok (.aload_n 0, 1) := by decide +kernel
theorem dL_law_342 : decode cL_law 342 = .ok (.iload_n 3, 1) := by decide +kernel
theorem dL_law_343 : decode cL_law 343 = .ok (.iconst 2, 1) := by decide +kernel
theorem dL_law_344 : decode cL_law 344 = .ok (.iadd, 1) := by decide +kernel
theorem dL_law_345 : decode cL_law 345 = .ok (.iaload, 1) := by decide +kernel
theorem dL_law_346 : decode cL_law 346 = .ok (.invokevirtual 36, 3) := by decide +kernel
theorem dL_law_349 : decode cL_law 349 = .ok (.aload_n 2, 1) := by decide +kernel
theorem dL_law_350 : decode cL_law 350 = .ok (.aload_n 0, 1) := by decide +kernel
theorem dL_law_351 : decode cL_law 351 = .ok (.iload_n 3, 1) := by decide +kernel
theorem dL_law_352 : decode cL_law 352 = .ok (.iconst 1, 1) := by decide +kernel
theorem dL_law_353 : decode cL_law 353 = .ok (.iadd, 1) := by decide +kernel
theorem dL_law_354 : decode cL_law 354 = .ok (.iaload, 1) := by decide +kernel
theorem dL_law_355 : decode cL_law 355 = .ok (.aload_n 0, 1) := by decide +kernel
theorem dL_law_356 : decode cL_law 356 = .ok (.iload_n 3, 1) := by decide +kernel
theorem dL_law_357 : decode cL_law 357 = .ok (.iconst 2, 1) := by decide +kernel
theorem dL_law_358 : decode cL_law 358 = .ok (.iadd, 1) := by decide +kernel
theorem dL_law_359 : decode cL_law 359 = .ok (.iaload, 1) := by decide +kernel
theorem dL_law_360 : decode cL_law 360 = .ok (.invokevirtual 39, 3) := by decide +kernel
theorem dL_law_363 : decode cL_law 363 = .ok (.if_icmp .eq 641, 3) := by decide +kernel
theorem dL_law_366 : decode cL_law 366 = .ok (.iconst 0, 1) := by decide +kernel
theorem dL_law_367 : decode cL_law 367 = .ok (.ireturn, 1) := by decide +kernel
theorem dL_law_368 : decode cL_law 368 = .ok (.aload_n 1, 1) := by decide +kernel
theorem dL_law_369 : decode cL_law 369 = .ok (.aload_n 0, 1) := by decide +kernel
theorem dL_law_370 : decode cL_law 370 = .ok (.iload_n 3, 1) := by decide +kernel
theorem dL_law_371 : decode cL_law 371 = .ok (.iconst 1, 1) := by decide +kernel
theorem dL_law_372 : decode cL_law 372 = .ok (.iadd, 1) := by decide +kernel
theorem dL_law_373 : decode cL_law 373 = .ok (.iaload, 1) := by decide +kernel
theorem dL_law_374 : decode cL_law 374 = .ok (.invokevirtual 40, 3) := by decide +kernel
theorem dL_law_377 : decode cL_law 377 = .ok (.aload_n 2, 1) := by decide +kernel
theorem dL_law_378 : decode cL_law 378 = .ok (.aload_n 0, 1) := by decide +kernel
theorem dL_law_379 : decode cL_law 379 = .ok (.iload_n 3, 1) := by decide +kernel
theorem dL_law_380 : decode cL_law 380 = .ok (.iconst 1, 1) := by decide +kernel
theorem dL_law_381 : decode cL_law 381 = .ok (.iadd, 1) := by decide +kernel
theorem dL_law_382 : decode cL_law 382 = .ok (.iaload, 1) := by decide +kernel
theorem dL_law_383 : decode cL_law 383 = .ok (.invokevirtual 43, 3) := by decide +kernel
theorem dL_law_386 : decode cL_law 386 = .ok (.if_icmp .eq 618, 3) := by decide +kernel
theorem dL_law_389 : decode cL_law 389 = .ok (.iconst 0, 1) := by decide +kernel
theorem dL_law_390 : decode cL_law 390 = .ok (.ireturn, 1) := by decide +kernel
theorem dL_law_391 : decode cL_law 391 = .ok (.aload_n 1, 1) := by decide +kernel
theorem dL_law_392 : decode cL_law 392 = .ok (.aload_n 0, 1) := by decide +kernel
theorem dL_law_393 : decode cL_law 393 = .ok (.iload_n 3, 1) := by decide +kernel
theorem dL_law_394 : decode cL_law 394 = .ok (.iconst 1, 1) := by decide +kernel
theorem dL_law_395 : decode cL_law 395 = .ok (.iadd, 1) := by decide +kernel
theorem dL_law_396 : decode cL_law 396 = .ok (.iaload, 1) := by decide +kernel
theorem dL_law_397 : decode cL_law 397 = .ok (.invokevirtual 44, 3) := by decide +kernel
theorem dL_law_400 : decode cL_law 400 = .ok (.aload_n 2, 1) := by decide +kernel
theorem dL_law_401 : decode cL_law 401 = .ok (.aload_n 0, 1) := by decide +kernel
theorem dL_law_402 : decode cL_law 402 = .ok (.iload_n 3, 1) := by decide +kernel
theorem dL_law_403 : decode cL_law 403 = .ok (.iconst 1, 1) := by decide +kernel
theorem dL_law_404 : decode cL_law 404 = .ok (.iadd, 1) := by decide +kernel
theorem dL_law_405 : decode cL_law 405 = .ok (.iaload, 1) := by decide +kernel
theorem dL_law_406 : decode cL_law 406 = .ok (.invokevirtual 47, 3) := by decide +kernel
theorem dL_law_409 : decode cL_law 409 = .ok (.if_icmp .eq 595, 3) := by decide +kernel
theorem dL_law_412 : decode cL_law 412 = .ok (.iconst 0, 1) := by decide +kernel
theorem dL_law_413 : decode cL_law 413 = .ok (.ireturn, 1) := by decide +kernel
theorem dL_law_414 : decode cL_law 414 = .ok (.aload_n 1, 1) := by decide +kernel
theorem dL_law_415 : decode cL_law 415 = .ok (.aload_n 0, 1) := by decide +kernel
theorem dL_law_416 : decode cL_law 416 = .ok (.iload_n 3, 1) := by decide +kernel
theorem dL_law_417 : decode cL_law 417 = .ok (.iconst 1, 1) := by decide +kernel
theorem dL_law_418 : decode cL_law 418 = .ok (.iadd, 1) := by decide +kernel
theorem dL_law_419 : decode cL_law 419 = .ok (.iaload, 1) := by decide +kernel
theorem dL_law_420 : decode cL_law 420 = .ok (.aload_n 0, 1) := by decide +kernel
theorem dL_law_421 : decode cL_law 421 = .ok (.iload_n 3, 1) := by decide +kernel
theorem dL_law_422 : decode cL_law 422 = .ok (.iconst 2, 1) := by decide +kernel
theorem dL_law_423 : decode cL_law 423 = .ok (.iadd, 1) := by decide +kernel
theorem dL_law_424 : decode cL_law 424 = .ok (.iaload, 1) := by decide +kernel
theorem dL_law_425 : decode cL_law 425 = .ok (.invokevirtual 48, 3) := by decide +kernel
theorem dL_law_428 : decode cL_law 428 = .ok (.aload_n 2, 1) := by decide +kernel
theorem dL_law_429 : decode cL_law 429 = .ok (.aload_n 0, 1) := by decide +kernel
theorem dL_law_430 : decode cL_law 430 = .ok (.iload_n 3, 1) := by decide +kernel
theorem dL_law_431 : decode cL_law 431 = .ok (.iconst 1, 1) := by decide +kernel
theorem dL_law_432 : decode cL_law 432 = .ok (.iadd, 1) := by decide +kernel
theorem dL_law_433 : decode cL_law 433 = .ok (.iaload, 1) := by decide +kernel
theorem dL_law_434 : decode cL_law 434 = .ok (.aload_n 0, 1) := by decide +kernel
theorem dL_law_435 : decode cL_law 435 = .ok (.iload_n 3, 1) := by decide +kernel
theorem dL_law_436 : decode cL_law 436 = .ok (.iconst 2, 1) := by decide +kernel
theorem dL_law_437 : decode cL_law 437 = .ok (.iadd, 1) := by decide +kernel
theorem dL_law_438 : decode cL_law 438 = .ok (.iaload, 1) := by decide +kernel
theorem dL_law_439 : decode cL_law 439 = .ok (.invokevirtual 51, 3) := by decide +kernel
theorem dL_law_442 : decode cL_law 442 = .ok (.if_icmp .eq 562, 3) := by decide +kernel
theorem dL_law_445 : decode cL_law 445 = .ok (.iconst 0, 1) := by decide +kernel
theorem dL_law_446 : decode cL_law 446 = .ok (.ireturn, 1) := by decide +kernel
theorem dL_law_447 : decode cL_law 447 = .ok (.aload_n 1, 1) := by decide +kernel
theorem dL_law_448 : decode cL_law 448 = .ok (.aload_n 0, 1) := by decide +kernel
theorem dL_law_449 : decode cL_law 449 = .ok (.iload_n 3, 1) := by decide +kernel
theorem dL_law_450 : decode cL_law 450 = .ok (.iconst 1, 1) := by decide +kernel
theorem dL_law_451 : decode cL_law 451 = .ok (.iadd, 1) := by decide +kernel
theorem dL_law_452 : decode cL_law 452 = .ok (.iaload, 1) := by decide +kernel
theorem dL_law_453 : decode cL_law 453 = .ok (.aload_n 0, 1) := by decide +kernel
theorem dL_law_454 : decode cL_law 454 = .ok (.iload_n 3, 1) := by decide +kernel
theorem dL_law_455 : decode cL_law 455 = .ok (.iconst 2, 1) := by decide +kernel
theorem dL_law_456 : decode cL_law 456 = .ok (.iadd, 1) := by decide +kernel
theorem dL_law_457 : decode cL_law 457 = .ok (.iaload, 1) := by decide +kernel
theorem dL_law_458 : decode cL_law 458 = .ok (.invokevirtual 52, 3) := by decide +kernel
theorem dL_law_461 : decode cL_law 461 = .ok (.aload_n 2, 1) := by decide +kernel
theorem dL_law_462 : decode cL_law 462 = .ok (.aload_n 0, 1) := by decide +kernel
theorem dL_law_463 : decode cL_law 463 = .ok (.iload_n 3, 1) := by decide +kernel
theorem dL_law_464 : decode cL_law 464 = .ok (.iconst 1, 1) := by decide +kernel
theorem dL_law_465 : decode cL_law 465 = .ok (.iadd, 1) := by decide +kernel
theorem dL_law_466 : decode cL_law 466 = .ok (.iaload, 1) := by decide +kernel
theorem dL_law_467 : decode cL_law 467 = .ok (.aload_n 0, 1) := by decide +kernel
theorem dL_law_468 : decode cL_law 468 = .ok (.iload_n 3, 1) := by decide +kernel
theorem dL_law_469 : decode cL_law 469 = .ok (.iconst 2, 1) := by decide +kernel
theorem dL_law_470 : decode cL_law 470 = .ok (.iadd, 1) := by decide +kernel
theorem dL_law_471 : decode cL_law 471 = .ok (.iaload, 1) := by decide +kernel
theorem dL_law_472 : decode cL_law 472 = .ok (.invokevirtual 55, 3) := by decide +kernel
theorem dL_law_475 : decode cL_law 475 = .ok (.if_icmp .eq 529, 3) := by decide +kernel
theorem dL_law_478 : decode cL_law 478 = .ok (.iconst 0, 1) := by decide +kernel
theorem dL_law_479 : decode cL_law 479 = .ok (.ireturn, 1) := by decide +kernel
theorem dL_law_480 : decode cL_law 480 = .ok (.aload_n 1, 1) := by decide +kernel
theorem dL_law_481 : decode cL_law 481 = .ok (.aload_n 0, 1) := by decide +kernel
theorem dL_law_482 : decode cL_law 482 = .ok (.iload_n 3, 1) := by decide +kernel
theorem dL_law_483 : decode cL_law 483 = .ok (.iconst 1, 1) := by decide +kernel
theorem dL_law_484 : decode cL_law 484 = .ok (.iadd, 1) := by decide +kernel
theorem dL_law_485 : decode cL_law 485 = .ok (.iaload, 1) := by decide +kernel
theorem dL_law_486 : decode cL_law 486 = .ok (.aload_n 0, 1) := by decide +kernel
theorem dL_law_487 : decode cL_law 487 = .ok (.iload_n 3, 1) := by decide +kernel
theorem dL_law_488 : decode cL_law 488 = .ok (.iconst 2, 1) := by decide +kernel
theorem dL_law_489 : decode cL_law 489 = .ok (.iadd, 1) := by decide +kernel
theorem dL_law_490 : decode cL_law 490 = .ok (.iaload, 1) := by decide +kernel
theorem dL_law_491 : decode cL_law 491 = .ok (.aload_n 0, 1) := by decide +kernel
theorem dL_law_492 : decode cL_law 492 = .ok (.iload_n 3, 1) := by decide +kernel
theorem dL_law_493 : decode cL_law 493 = .ok (.iconst 3, 1) := by decide +kernel
theorem dL_law_494 : decode cL_law 494 = .ok (.iadd, 1) := by decide +kernel
theorem dL_law_495 : decode cL_law 495 = .ok (.iaload, 1) := by decide +kernel
theorem dL_law_496 : decode cL_law 496 = .ok (.invokevirtual 56, 3) := by decide +kernel
theorem dL_law_499 : decode cL_law 499 = .ok (.aload_n 2, 1) := by decide +kernel
theorem dL_law_500 : decode cL_law 500 = .ok (.aload_n 0, 1) := by decide +kernel
theorem dL_law_501 : decode cL_law 501 = .ok (.iload_n 3, 1) := by decide +kernel
theorem dL_law_502 : decode cL_law 502 = .ok (.iconst 1, 1) := by decide +kernel
theorem dL_law_503 : decode cL_law 503 = .ok (.iadd, 1) := by decide +kernel
theorem dL_law_504 : decode cL_law 504 = .ok (.iaload, 1) := by decide +kernel
theorem dL_law_505 : decode cL_law 505 = .ok (.aload_n 0, 1) := by decide +kernel
theorem dL_law_506 : decode cL_law 506 = .ok (.iload_n 3, 1) := by decide +kernel
theorem dL_law_507 : decode cL_law 507 = .ok (.iconst 2, 1) := by decide +kernel
theorem dL_law_508 : decode cL_law 508 = .ok (.iadd, 1) := by decide +kernel
theorem dL_law_509 : decode cL_law 509 = .ok (.iaload, 1) := by decide +kernel
theorem dL_law_510 : decode cL_law 510 = .ok (.aload_n 0, 1) := by decide +kernel
theorem dL_law_511 : decode cL_law 511 = .ok (.iload_n 3, 1) := by decide +kernel
theorem dL_law_512 : decode cL_law 512 = .ok (.iconst 3, 1) := by decide +kernel
theorem dL_law_513 : decode cL_law 513 = .ok (.iadd, 1) := by decide +kernel
theorem dL_law_514 : decode cL_law 514 = .ok (.iaload, 1) := by decide +kernel
theorem dL_law_515 : decode cL_law 515 = .ok (.invokevirtual 59, 3) := by decide +kernel
theorem dL_law_518 : decode cL_law 518 = .ok (.if_icmp .eq 486, 3) := by decide +kernel
theorem dL_law_521 : decode cL_law 521 = .ok (.iconst 0, 1) := by decide +kernel
theorem dL_law_522 : decode cL_law 522 = .ok (.ireturn, 1) := by decide +kernel
theorem dL_law_523 : decode cL_law 523 = .ok (.aload_n 1, 1) := by decide +kernel
theorem dL_law_524 : decode cL_law 524 = .ok (.aload_n 0, 1) := by decide +kernel
theorem dL_law_525 : decode cL_law 525 = .ok (.iload_n 3, 1) := by decide +kernel
theorem dL_law_526 : decode cL_law 526 = .ok (.iconst 1, 1) := by decide +kernel
theorem dL_law_527 : decode cL_law 527 = .ok (.iadd, 1) := by decide +kernel
theorem dL_law_528 : decode cL_law 528 = .ok (.iaload, 1) := by decide +kernel
theorem dL_law_529 : decode cL_law 529 = .ok (.aload_n 0, 1) := by decide +kernel
theorem dL_law_530 : decode cL_law 530 = .ok (.iload_n 3, 1) := by decide +kernel
theorem dL_law_531 : decode cL_law 531 = .ok (.iconst 2, 1) := by decide +kernel
theorem dL_law_532 : decode cL_law 532 = .ok (.iadd, 1) := by decide +kernel
theorem dL_law_533 : decode cL_law 533 = .ok (.iaload, 1) := by decide +kernel
theorem dL_law_534 : decode cL_law 534 = .ok (.invokevirtual 60, 3) := by decide +kernel
theorem dL_law_537 : decode cL_law 537 = .ok (.aload_n 2, 1) := by decide +kernel
theorem dL_law_538 : decode cL_law 538 = .ok (.aload_n 0, 1) := by decide +kernel
theorem dL_law_539 : decode cL_law 539 = .ok (.iload_n 3, 1) := by decide +kernel
theorem dL_law_540 : decode cL_law 540 = .ok (.iconst 1, 1) := by decide +kernel
theorem dL_law_541 : decode cL_law 541 = .ok (.iadd, 1) := by decide +kernel
theorem dL_law_542 : decode cL_law 542 = .ok (.iaload, 1) := by decide +kernel
theorem dL_law_543 : decode cL_law 543 = .ok (.aload_n 0, 1) := by decide +kernel
theorem dL_law_544 : decode cL_law 544 = .ok (.iload_n 3, 1) := by decide +kernel
theorem dL_law_545 : decode cL_law 545 = .ok (.iconst 2, 1) := by decide +kernel
theorem dL_law_546 : decode cL_law 546 = .ok (.iadd, 1) := by decide +kernel
theorem dL_law_547 : decode cL_law 547 = .ok (.iaload, 1) := by decide +kernel
theorem dL_law_548 : decode cL_law 548 = .ok (.invokevirtual 63, 3) := by decide +kernel
theorem dL_law_551 : decode cL_law 551 = .ok (.if_icmp .eq 453, 3) := by decide +kernel
theorem dL_law_554 : decode cL_law 554 = .ok (.iconst 0, 1) := by decide +kernel
theorem dL_law_555 : decode cL_law 555 = .ok (.ireturn, 1) := by decide +kernel
theorem dL_law_556 : decode cL_law 556 = .ok (.aload_n 1, 1) := by decide +kernel
theorem dL_law_557 : decode cL_law 557 = .ok (.aload_n 0, 1) := by decide +kernel
theorem dL_law_558 : decode cL_law 558 = .ok (.iload_n 3, 1) := by decide +kernel
theorem dL_law_559 : decode cL_law 559 = .ok (.iconst 1, 1) := by decide +kernel
theorem dL_law_560 : decode cL_law 560 = .ok (.iadd, 1) := by decide +kernel
theorem dL_law_561 : decode cL_law 561 = .ok (.iaload, 1) := by decide +kernel
theorem dL_law_562 : decode cL_law 562 = .ok (.invokevirtual 64, 3) := by decide +kernel
theorem dL_law_565 : decode cL_law 565 = .ok (.aload_n 2, 1) := by decide +kernel
theorem dL_law_566 : decode cL_law 566 = .ok (.aload_n 0, 1) := by decide +kernel
theorem dL_law_567 : decode cL_law 567 = .ok (.iload_n 3, 1) := by decide +kernel
theorem dL_law_568 : decode cL_law 568 = .ok (.iconst 1, 1) := by decide +kernel
theorem dL_law_569 : decode cL_law 569 = .ok (.iadd, 1) := by decide +kernel
theorem dL_law_570 : decode cL_law 570 = .ok (.iaload, 1) := by decide +kernel
theorem dL_law_571 : decode cL_law 571 = .ok (.invokevirtual 67, 3) := by decide +kernel
theorem dL_law_574 : decode cL_law 574 = .ok (.if_icmp .eq 430, 3) := by decide +kernel
theorem dL_law_577 : decode cL_law 577 = .ok (.iconst 0, 1) := by decide +kernel
theorem dL_law_578 : decode cL_law 578 = .ok (.ireturn, 1) := by decide +kernel
theorem dL_law_579 : decode cL_law 579 = .ok (.aload_n 1, 1) := by decide +kernel
theorem dL_law_580 : decode cL_law 580 = .ok (.aload_n 0, 1) := by decide +kernel
theorem dL_law_581 : decode cL_law 581 = .ok (.iload_n 3, 1) := by decide +kernel
theorem dL_law_582 : decode cL_law 582 = .ok (.iconst 1, 1) := by decide +kernel
theorem dL_law_583 : decode cL_law 583 = .ok (.iadd, 1) := by decide +kernel
theorem dL_law_584 : decode cL_law 584 = .ok (.iaload, 1) := by decide +kernel
theorem dL_law_585 : decode cL_law 585 = .ok (.invokevirtual 68, 3) := by decide +kernel
theorem dL_law_588 : decode cL_law 588 = .ok (.aload_n 2, 1) := by decide +kernel
theorem dL_law_589 : decode cL_law 589 = .ok (.aload_n 0, 1) := by decide +kernel
theorem dL_law_590 : decode cL_law 590 = .ok (.iload_n 3, 1) := by decide +kernel
theorem dL_law_591 : decode cL_law 591 = .ok (.iconst 1, 1) := by decide +kernel
theorem dL_law_592 : decode cL_law 592 = .ok (.iadd, 1) := by decide +kernel
theorem dL_law_593 : decode cL_law 593 = .ok (.iaload, 1) := by decide +kernel
theorem dL_law_594 : decode cL_law 594 = .ok (.invokevirtual 71, 3) := by decide +kernel
theorem dL_law_597 : decode cL_law 597 = .ok (.if_icmp .eq 407, 3) := by decide +kernel
theorem dL_law_600 : decode cL_law 600 = .ok (.iconst 0, 1) := by decide +kernel
theorem dL_law_601 : decode cL_law 601 = .ok (.ireturn, 1) := by decide +kernel
theorem dL_law_602 : decode cL_law 602 = .ok (.aload_n 1, 1) := by decide +kernel
theorem dL_law_603 : decode cL_law 603 = .ok (.aload_n 0, 1) := by decide +kernel
theorem dL_law_604 : decode cL_law 604 = .ok (.iload_n 3, 1) := by decide +kernel
theorem dL_law_605 : decode cL_law 605 = .ok (.iconst 1, 1) := by decide +kernel
theorem dL_law_606 : decode cL_law 606 = .ok (.iadd, 1) := by decide +kernel
theorem dL_law_607 : decode cL_law 607 = .ok (.iaload, 1) := by decide +kernel
theorem dL_law_608 : decode cL_law 608 = .ok (.invokevirtual 72, 3) := by decide +kernel
theorem dL_law_611 : decode cL_law 611 = .ok (.aload_n 2, 1) := by decide +kernel
theorem dL_law_612 : decode cL_law 612 = .ok (.aload_n 0, 1) := by decide +kernel
theorem dL_law_613 : decode cL_law 613 = .ok (.iload_n 3, 1) := by decide +kernel
theorem dL_law_614 : decode cL_law 614 = .ok (.iconst 1, 1) := by decide +kernel
theorem dL_law_615 : decode cL_law 615 = .ok (.iadd, 1) := by decide +kernel
theorem dL_law_616 : decode cL_law 616 = .ok (.iaload, 1) := by decide +kernel
theorem dL_law_617 : decode cL_law 617 = .ok (.invokevirtual 75, 3) := by decide +kernel
theorem dL_law_620 : decode cL_law 620 = .ok (.if_icmp .eq 384, 3) := by decide +kernel
theorem dL_law_623 : decode cL_law 623 = .ok (.iconst 0, 1) := by decide +kernel
theorem dL_law_624 : decode cL_law 624 = .ok (.ireturn, 1) := by decide +kernel
theorem dL_law_625 : decode cL_law 625 = .ok (.aload_n 1, 1) := by decide +kernel
theorem dL_law_626 : decode cL_law 626 = .ok (.aload_n 0, 1) := by decide +kernel
theorem dL_law_627 : decode cL_law 627 = .ok (.iload_n 3, 1) := by decide +kernel
theorem dL_law_628 : decode cL_law 628 = .ok (.iconst 1, 1) := by decide +kernel
theorem dL_law_629 : decode cL_law 629 = .ok (.iadd, 1) := by decide +kernel
theorem dL_law_630 : decode cL_law 630 = .ok (.iaload, 1) := by decide +kernel
theorem dL_law_631 : decode cL_law 631 = .ok (.invokevirtual 76, 3) := by decide +kernel
theorem dL_law_634 : decode cL_law 634 = .ok (.aload_n 2, 1) := by decide +kernel
theorem dL_law_635 : decode cL_law 635 = .ok (.aload_n 0, 1) := by decide +kernel
theorem dL_law_636 : decode cL_law 636 = .ok (.iload_n 3, 1) := by decide +kernel
theorem dL_law_637 : decode cL_law 637 = .ok (.iconst 1, 1) := by decide +kernel
theorem dL_law_638 : decode cL_law 638 = .ok (.iadd, 1) := by decide +kernel
theorem dL_law_639 : decode cL_law 639 = .ok (.iaload, 1) := by decide +kernel
theorem dL_law_640 : decode cL_law 640 = .ok (.invokevirtual 79, 3) := by decide +kernel
theorem dL_law_643 : decode cL_law 643 = .ok (.if_icmp .eq 361, 3) := by decide +kernel
theorem dL_law_646 : decode cL_law 646 = .ok (.iconst 0, 1) := by decide +kernel
theorem dL_law_647 : decode cL_law 647 = .ok (.ireturn, 1) := by decide +kernel
theorem dL_law_648 : decode cL_law 648 = .ok (.aload_n 1, 1) := by decide +kernel
theorem dL_law_649 : decode cL_law 649 = .ok (.aload_n 0, 1) := by decide +kernel
theorem dL_law_650 : decode cL_law 650 = .ok (.iload_n 3, 1) := by decide +kernel
theorem dL_law_651 : decode cL_law 651 = .ok (.iconst 1, 1) := by decide +kernel
theorem dL_law_652 : decode cL_law 652 = .ok (.iadd, 1) := by decide +kernel
theorem dL_law_653 : decode cL_law 653 = .ok (.iaload, 1) := by decide +kernel
theorem dL_law_654 : decode cL_law 654 = .ok (.invokevirtual 80, 3) := by decide +kernel
theorem dL_law_657 : decode cL_law 657 = .ok (.aload_n 2, 1) := by decide +kernel
theorem dL_law_658 : decode cL_law 658 = .ok (.aload_n 0, 1) := by decide +kernel
theorem dL_law_659 : decode cL_law 659 = .ok (.iload_n 3, 1) := by decide +kernel
theorem dL_law_660 : decode cL_law 660 = .ok (.iconst 1, 1) := by decide +kernel
theorem dL_law_661 : decode cL_law 661 = .ok (.iadd, 1) := by decide +kernel
theorem dL_law_662 : decode cL_law 662 = .ok (.iaload, 1) := by decide +kernel
theorem dL_law_663 : decode cL_law 663 = .ok (.invokevirtual 83, 3) := by decide +kernel
theorem dL_law_666 : decode cL_law 666 = .ok (.if_icmp .eq 338, 3) := by decide +kernel
theorem dL_law_669 : decode cL_law 669 = .ok (.iconst 0, 1) := by decide +kernel
theorem dL_law_670 : decode cL_law 670 = .ok (.ireturn, 1) := by decide +kernel
theorem dL_law_671 : decode cL_law 671 = .ok (.aload_n 1, 1) := by decide +kernel
theorem dL_law_672 : decode cL_law 672 = .ok (.aload_n 0, 1) := by decide +kernel
theorem dL_law_673 : decode cL_law 673 = .ok (.iload_n 3, 1) := by decide +kernel
theorem dL_law_674 : decode cL_law 674 = .ok (.iconst 1, 1) := by decide +kernel
theorem dL_law_675 : decode cL_law 675 = .ok (.iadd, 1) := by decide +kernel
theorem dL_law_676 : decode cL_law 676 = .ok (.iaload, 1) := by decide +kernel
theorem dL_law_677 : decode cL_law 677 = .ok (.aload_n 0, 1) := by decide +kernel
theorem dL_law_678 : decode cL_law 678 = .ok (.iload_n 3, 1) := by decide +kernel
theorem dL_law_679 : decode cL_law 679 = .ok (.iconst 2, 1) := by decide +kernel
theorem dL_law_680 : decode cL_law 680 = .ok (.iadd, 1) := by decide +kernel
theorem dL_law_681 : decode cL_law 681 = .ok (.iaload, 1) := by decide +kernel
theorem dL_law_682 : decode cL_law 682 = .ok (.aload_n 0, 1) := by decide +kernel
theorem dL_law_683 : decode cL_law 683 = .ok (.iload_n 3, 1) := by decide +kernel
theorem dL_law_684 : decode cL_law 684 = .ok (.iconst 3, 1) := by decide +kernel
theorem dL_law_685 : decode cL_law 685 = .ok (.iadd, 1) := by decide +kernel
theorem dL_law_686 : decode cL_law 686 = .ok (.iaload, 1) := by decide +kernel
theorem dL_law_687 : decode cL_law 687 = .ok (.aload_n 0, 1) := by decide +kernel
theorem dL_law_688 : decode cL_law 688 = .ok (.iload_n 3, 1) := by decide +kernel
theorem dL_law_689 : decode cL_law 689 = .ok (.iconst 4, 1) := by decide +kernel
theorem dL_law_690 : decode cL_law 690 = .ok (.iadd, 1) := by decide +kernel
theorem dL_law_691 : decode cL_law 691 = .ok (.iaload, 1) := by decide +kernel
theorem dL_law_692 : decode cL_law 692 = .ok (.invokevirtual 84, 3) := by decide +kernel
theorem dL_law_695 : decode cL_law 695 = .ok (.aload_n 2, 1) := by decide +kernel
theorem dL_law_696 : decode cL_law 696 = .ok (.aload_n 0, 1) := by decide +kernel
theorem dL_law_697 : decode cL_law 697 = .ok (.iload_n 3, 1) := by decide +kernel
theorem dL_law_698 : decode cL_law 698 = .ok (.iconst 1, 1) := by decide +kernel
theorem dL_law_699 : decode cL_law 699 = .ok (.iadd, 1) := by decide +kernel
theorem dL_law_700 : decode cL_law 700 = .ok (.iaload, 1) := by decide +kernel
theorem dL_law_701 : decode cL_law 701 = .ok (.aload_n 0, 1) := by decide +kernel
theorem dL_law_702 : decode cL_law 702 = .ok (.iload_n 3, 1) := by decide +kernel
theorem dL_law_703 : decode cL_law 703 = .ok (.iconst 2, 1) := by decide +kernel
theorem dL_law_704 : decode cL_law 704 = .ok (.iadd, 1) := by decide +kernel
theorem dL_law_705 : decode cL_law 705 = .ok (.iaload, 1) := by decide +kernel
theorem dL_law_706 : decode cL_law 706 = .ok (.aload_n 0, 1) := by decide +kernel
theorem dL_law_707 : decode cL_law 707 = .ok (.iload_n 3, 1) := by decide +kernel
theorem dL_law_708 : decode cL_law 708 = .ok (.iconst 3, 1) := by decide +kernel
theorem dL_law_709 : decode cL_law 709 = .ok (.iadd, 1) := by decide +kernel
theorem dL_law_710 : decode cL_law 710 = .ok (.iaload, 1) := by decide +kernel
theorem dL_law_711 : decode cL_law 711 = .ok (.aload_n 0, 1) := by decide +kernel
theorem dL_law_712 : decode cL_law 712 = .ok (.iload_n 3, 1) := by decide +kernel
theorem dL_law_713 : decode cL_law 713 = .ok (.iconst 4, 1) := by decide +kernel
theorem dL_law_714 : decode cL_law 714 = .ok (.iadd, 1) := by decide +kernel
theorem dL_law_715 : decode cL_law 715 = .ok (.iaload, 1) := by decide +kernel
theorem dL_law_716 : decode cL_law 716 = .ok (.invokevirtual 88, 3) := by decide +kernel
theorem dL_law_719 : decode cL_law 719 = .ok (.if_icmp .eq 285, 3) := by decide +kernel
theorem dL_law_722 : decode cL_law 722 = .ok (.iconst 0, 1) := by decide +kernel
theorem dL_law_723 : decode cL_law 723 = .ok (.ireturn, 1) := by decide +kernel
theorem dL_law_724 : decode cL_law 724 = .ok (.aload_n 1, 1) := by decide +kernel
theorem dL_law_725 : decode cL_law 725 = .ok (.aload_n 0, 1) := by decide +kernel
theorem dL_law_726 : decode cL_law 726 = .ok (.iload_n 3, 1) := by decide +kernel
theorem dL_law_727 : decode cL_law 727 = .ok (.iconst 1, 1) := by decide +kernel
theorem dL_law_728 : decode cL_law 728 = .ok (.iadd, 1) := by decide +kernel
theorem dL_law_729 : decode cL_law 729 = .ok (.iaload, 1) := by decide +kernel
theorem dL_law_730 : decode cL_law 730 = .ok (.aload_n 0, 1) := by decide +kernel
theorem dL_law_731 : decode cL_law 731 = .ok (.iload_n 3, 1) := by decide +kernel
theorem dL_law_732 : decode cL_law 732 = .ok (.iconst 2, 1) := by decide +kernel
theorem dL_law_733 : decode cL_law 733 = .ok (.iadd, 1) := by decide +kernel
theorem dL_law_734 : decode cL_law 734 = .ok (.iaload, 1) := by decide +kernel
theorem dL_law_735 : decode cL_law 735 = .ok (.aload_n 0, 1) := by decide +kernel
theorem dL_law_736 : decode cL_law 736 = .ok (.iload_n 3, 1) := by decide +kernel
theorem dL_law_737 : decode cL_law 737 = .ok (.iconst 3, 1) := by decide +kernel
theorem dL_law_738 : decode cL_law 738 = .ok (.iadd, 1) := by decide +kernel
theorem dL_law_739 : decode cL_law 739 = .ok (.iaload, 1) := by decide +kernel
theorem dL_law_740 : decode cL_law 740 = .ok (.aload_n 0, 1) := by decide +kernel
theorem dL_law_741 : decode cL_law 741 = .ok (.iload_n 3, 1) := by decide +kernel
theorem dL_law_742 : decode cL_law 742 = .ok (.iconst 4, 1) := by decide +kernel
theorem dL_law_743 : decode cL_law 743 = .ok (.iadd, 1) := by decide +kernel
theorem dL_law_744 : decode cL_law 744 = .ok (.iaload, 1) := by decide +kernel
theorem dL_law_745 : decode cL_law 745 = .ok (.invokevirtual 89, 3) := by decide +kernel
theorem dL_law_748 : decode cL_law 748 = .ok (.aload_n 2, 1) := by decide +kernel
theorem dL_law_749 : decode cL_law 749 = .ok (.aload_n 0, 1) := by decide +kernel
theorem dL_law_750 : decode cL_law 750 = .ok (.iload_n 3, 1) := by decide +kernel
theorem dL_law_751 : decode cL_law 751 = .ok (.iconst 1, 1) := by decide +kernel
theorem dL_law_752 : decode cL_law 752 = .ok (.iadd, 1) := by decide +kernel
theorem dL_law_753 : decode cL_law 753 = .ok (.iaload, 1) := by decide +kernel
theorem dL_law_754 : decode cL_law 754 = .ok (.aload_n 0, 1) := by decide +kernel
theorem dL_law_755 : decode cL_law 755 = .ok (.iload_n 3, 1) := by decide +kernel
theorem dL_law_756 : decode cL_law 756 = .ok (.iconst 2, 1) := by decide +kernel
theorem dL_law_757 : decode cL_law 757 = .ok (.iadd, 1) := by decide +kernel
theorem dL_law_758 : decode cL_law 758 = .ok (.iaload, 1) := by decide +kernel
theorem dL_law_759 : decode cL_law 759 = .ok (.aload_n 0, 1) := by decide +kernel
theorem dL_law_760 : decode cL_law 760 = .ok (.iload_n 3, 1) := by decide +kernel
theorem dL_law_761 : decode cL_law 761 = .ok (.iconst 3, 1) := by decide +kernel
theorem dL_law_762 : decode cL_law 762 = .ok (.iadd, 1) := by decide +kernel
theorem dL_law_763 : decode cL_law 763 = .ok (.iaload, 1) := by decide +kernel
theorem dL_law_764 : decode cL_law 764 = .ok (.aload_n 0, 1) := by decide +kernel
theorem dL_law_765 : decode cL_law 765 = .ok (.iload_n 3, 1) := by decide +kernel
theorem dL_law_766 : decode cL_law 766 = .ok (.iconst 4, 1) := by decide +kernel
theorem dL_law_767 : decode cL_law 767 = .ok (.iadd, 1) := by decide +kernel
theorem dL_law_768 : decode cL_law 768 = .ok (.iaload, 1) := by decide +kernel
theorem dL_law_769 : decode cL_law 769 = .ok (.invokevirtual 92, 3) := by decide +kernel
theorem dL_law_772 : decode cL_law 772 = .ok (.if_icmp .eq 232, 3) := by decide +kernel
theorem dL_law_775 : decode cL_law 775 = .ok (.iconst 0, 1) := by decide +kernel
theorem dL_law_776 : decode cL_law 776 = .ok (.ireturn, 1) := by decide +kernel
theorem dL_law_777 : decode cL_law 777 = .ok (.aload_n 1, 1) := by decide +kernel
theorem dL_law_778 : decode cL_law 778 = .ok (.aload_n 0, 1) := by decide +kernel
theorem dL_law_779 : decode cL_law 779 = .ok (.iload_n 3, 1) := by decide +kernel
theorem dL_law_780 : decode cL_law 780 = .ok (.iconst 1, 1) := by decide +kernel
theorem dL_law_781 : decode cL_law 781 = .ok (.iadd, 1) := by decide +kernel
theorem dL_law_782 : decode cL_law 782 = .ok (.iaload, 1) := by decide +kernel
theorem dL_law_783 : decode cL_law 783 = .ok (.aload_n 0, 1) := by decide +kernel
theorem dL_law_784 : decode cL_law 784 = .ok (.iload_n 3, 1) := by decide +kernel
theorem dL_law_785 : decode cL_law 785 = .ok (.iconst 2, 1) := by decide +kernel
theorem dL_law_786 : decode cL_law 786 = .ok (.iadd, 1) := by decide +kernel
theorem dL_law_787 : decode cL_law 787 = .ok (.iaload, 1) := by decide +kernel
theorem dL_law_788 : decode cL_law 788 = .ok (.aload_n 0, 1) := by decide +kernel
theorem dL_law_789 : decode cL_law 789 = .ok (.iload_n 3, 1) := by decide +kernel
theorem dL_law_790 : decode cL_law 790 = .ok (.iconst 3, 1) := by decide +kernel
theorem dL_law_791 : decode cL_law 791 = .ok (.iadd, 1) := by decide +kernel
theorem dL_law_792 : decode cL_law 792 = .ok (.iaload, 1) := by decide +kernel
theorem dL_law_793 : decode cL_law 793 = .ok (.invokevirtual 93, 3) := by decide +kernel
theorem dL_law_796 : decode cL_law 796 = .ok (.aload_n 2, 1) := by decide +kernel
theorem dL_law_797 : decode cL_law 797 = .ok (.aload_n 0, 1) := by decide +kernel
theorem dL_law_798 : decode cL_law 798 = .ok (.iload_n 3, 1) := by decide +kernel
theorem dL_law_799 : decode cL_law 799 = .ok (.iconst 1, 1) := by decide +kernel
theorem dL_law_800 : decode cL_law 800 = .ok (.iadd, 1) := by decide +kernel
theorem dL_law_801 : decode cL_law 801 = .ok (.iaload, 1) := by decide +kernel
theorem dL_law_802 : decode cL_law 802 = .ok (.aload_n 0, 1) := by decide +kernel
theorem dL_law_803 : decode cL_law 803 = .ok (.iload_n 3, 1) := by decide +kernel
theorem dL_law_804 : decode cL_law 804 = .ok (.iconst 2, 1) := by decide +kernel
theorem dL_law_805 : decode cL_law 805 = .ok (.iadd, 1) := by decide +kernel
theorem dL_law_806 : decode cL_law 806 = .ok (.iaload, 1) := by decide +kernel
theorem dL_law_807 : decode cL_law 807 = .ok (.aload_n 0, 1) := by decide +kernel
theorem dL_law_808 : decode cL_law 808 = .ok (.iload_n 3, 1) := by decide +kernel
theorem dL_law_809 : decode cL_law 809 = .ok (.iconst 3, 1) := by decide +kernel
theorem dL_law_810 : decode cL_law 810 = .ok (.iadd, 1) := by decide +kernel
theorem dL_law_811 : decode cL_law 811 = .ok (.iaload, 1) := by decide +kernel
theorem dL_law_812 : decode cL_law 812 = .ok (.invokevirtual 96, 3) := by decide +kernel
theorem dL_law_815 : decode cL_law 815 = .ok (.if_icmp .eq 189, 3) := by decide +kernel
theorem dL_law_818 : decode cL_law 818 = .ok (.iconst 0, 1) := by decide +kernel
theorem dL_law_819 : decode cL_law 819 = .ok (.ireturn, 1) := by decide +kernel
theorem dL_law_820 : decode cL_law 820 = .ok (.aload_n 1, 1) := by decide +kernel
theorem dL_law_821 : decode cL_law 821 = .ok (.aload_n 0, 1) := by decide +kernel
theorem dL_law_822 : decode cL_law 822 = .ok (.iload_n 3, 1) := by decide +kernel
theorem dL_law_823 : decode cL_law 823 = .ok (.iconst 1, 1) := by decide +kernel
theorem dL_law_824 : decode cL_law 824 = .ok (.iadd, 1) := by decide +kernel
theorem dL_law_825 : decode cL_law 825 = .ok (.iaload, 1) := by decide +kernel
theorem dL_law_826 : decode cL_law 826 = .ok (.aload_n 0, 1) := by decide +kernel
theorem dL_law_827 : decode cL_law 827 = .ok (.iload_n 3, 1) := by decide +kernel
theorem dL_law_828 : decode cL_law 828 = .ok (.iconst 2, 1) := by decide +kernel
theorem dL_law_829 : decode cL_law 829 = .ok (.iadd, 1) := by decide +kernel
theorem dL_law_830 : decode cL_law 830 = .ok (.iaload, 1) := by decide +kernel
theorem dL_law_831 : decode cL_law 831 = .ok (.invokevirtual 97, 3) := by decide +kernel
theorem dL_law_834 : decode cL_law 834 = .ok (.aload_n 2, 1) := by decide +kernel
theorem dL_law_835 : decode cL_law 835 = .ok (.aload_n 0, 1) := by decide +kernel
theorem dL_law_836 : decode cL_law 836 = .ok (.iload_n 3, 1) := by decide +kernel
theorem dL_law_837 : decode cL_law 837 = .ok (.iconst 1, 1) := by decide +kernel
theorem dL_law_838 : decode cL_law 838 = .ok (.iadd, 1) := by decide +kernel
theorem dL_law_839 : decode cL_law 839 = .ok (.iaload, 1) := by decide +kernel
theorem dL_law_840 : decode cL_law 840 = .ok (.aload_n 0, 1) := by decide +kernel
theorem dL_law_841 : decode cL_law 841 = .ok (.iload_n 3, 1) := by decide +kernel
theorem dL_law_842 : decode cL_law 842 = .ok (.iconst 2, 1) := by decide +kernel
theorem dL_law_843 : decode cL_law 843 = .ok (.iadd, 1) := by decide +kernel
theorem dL_law_844 : decode cL_law 844 = .ok (.iaload, 1) := by decide +kernel
theorem dL_law_845 : decode cL_law 845 = .ok (.invokevirtual 100, 3) := by decide +kernel
theorem dL_law_848 : decode cL_law 848 = .ok (.if_icmp .eq 156, 3) := by decide +kernel
theorem dL_law_851 : decode cL_law 851 = .ok (.iconst 0, 1) := by decide +kernel
theorem dL_law_852 : decode cL_law 852 = .ok (.ireturn, 1) := by decide +kernel
theorem dL_law_853 : decode cL_law 853 = .ok (.aload_n 1, 1) := by decide +kernel
theorem dL_law_854 : decode cL_law 854 = .ok (.aload_n 0, 1) := by decide +kernel
theorem dL_law_855 : decode cL_law 855 = .ok (.iload_n 3, 1) := by decide +kernel
theorem dL_law_856 : decode cL_law 856 = .ok (.iconst 1, 1) := by decide +kernel
theorem dL_law_857 : decode cL_law 857 = .ok (.iadd, 1) := by decide +kernel
theorem dL_law_858 : decode cL_law 858 = .ok (.iaload, 1) := by decide +kernel
theorem dL_law_859 : decode cL_law 859 = .ok (.i2l, 1) := by decide +kernel
theorem dL_law_860 : decode cL_law 860 = .ok (.bipush 32, 2) := by decide +kernel
theorem dL_law_862 : decode cL_law 862 = .ok (.lshl, 1) := by decide +kernel
theorem dL_law_863 : decode cL_law 863 = .ok (.aload_n 0, 1) := by decide +kernel
theorem dL_law_864 : decode cL_law 864 = .ok (.iload_n 3, 1) := by decide +kernel
theorem dL_law_865 : decode cL_law 865 = .ok (.iconst 2, 1) := by decide +kernel
theorem dL_law_866 : decode cL_law 866 = .ok (.iadd, 1) := by decide +kernel
theorem dL_law_867 : decode cL_law 867 = .ok (.iaload, 1) := by decide +kernel
theorem dL_law_868 : decode cL_law 868 = .ok (.i2l, 1) := by decide +kernel
theorem dL_law_869 : decode cL_law 869 = .ok (.ldc2_w 101, 3) := by decide +kernel
theorem dL_law_872 : decode cL_law 872 = .ok (.land, 1) := by decide +kernel
theorem dL_law_873 : decode cL_law 873 = .ok (.lor, 1) := by decide +kernel
theorem dL_law_874 : decode cL_law 874 = .ok (.invokevirtual 103, 3) := by decide +kernel
theorem dL_law_877 : decode cL_law 877 = .ok (.aload_n 2, 1) := by decide +kernel
theorem dL_law_878 : decode cL_law 878 = .ok (.aload_n 0, 1) := by decide +kernel
theorem dL_law_879 : decode cL_law 879 = .ok (.iload_n 3, 1) := by decide +kernel
theorem dL_law_880 : decode cL_law 880 = .ok (.iconst 1, 1) := by decide +kernel
theorem dL_law_881 : decode cL_law 881 = .ok (.iadd, 1) := by decide +kernel
theorem dL_law_882 : decode cL_law 882 = .ok (.iaload, 1) := by decide +kernel
theorem dL_law_883 : decode cL_law 883 = .ok (.i2l, 1) := by decide +kernel
theorem dL_law_884 : decode cL_law 884 = .ok (.bipush 32, 2) := by decide +kernel
theorem dL_law_886 : decode cL_law 886 = .ok (.lshl, 1) := by decide +kernel
theorem dL_law_887 : decode cL_law 887 = .ok (.aload_n 0, 1) := by decide +kernel
theorem dL_law_888 : decode cL_law 888 = .ok (.iload_n 3, 1) := by decide +kernel
theorem dL_law_889 : decode cL_law 889 = .ok (.iconst 2, 1) := by decide +kernel
theorem dL_law_890 : decode cL_law 890 = .ok (.iadd, 1) := by decide +kernel
theorem dL_law_891 : decode cL_law 891 = .ok (.iaload, 1) := by decide +kernel
theorem dL_law_892 : decode cL_law 892 = .ok (.i2l, 1) := by decide +kernel
theorem dL_law_893 : decode cL_law 893 = .ok (.ldc2_w 101, 3) := by decide +kernel
theorem dL_law_896 : decode cL_law 896 = .ok (.land, 1) := by decide +kernel
theorem dL_law_897 : decode cL_law 897 = .ok (.lor, 1) := by decide +kernel
theorem dL_law_898 : decode cL_law 898 = .ok (.invokevirtual 107, 3) := by decide +kernel
theorem dL_law_901 : decode cL_law 901 = .ok (.if_icmp .eq 103, 3) := by decide +kernel
theorem dL_law_904 : decode cL_law 904 = .ok (.iconst 0, 1) := by decide +kernel
theorem dL_law_905 : decode cL_law 905 = .ok (.ireturn, 1) := by decide +kernel
theorem dL_law_906 : decode cL_law 906 = .ok (.aload_n 1, 1) := by decide +kernel
theorem dL_law_907 : decode cL_law 907 = .ok (.invokevirtual 108, 3) := by decide +kernel
theorem dL_law_910 : decode cL_law 910 = .ok (.aload_n 2, 1) := by decide +kernel
theorem dL_law_911 : decode cL_law 911 = .ok (.invokevirtual 112, 3) := by decide +kernel
theorem dL_law_914 : decode cL_law 914 = .ok (.if_icmp .eq 90, 3) := by decide +kernel
theorem dL_law_917 : decode cL_law 917 = .ok (.iconst 0, 1) := by decide +kernel
theorem dL_law_918 : decode cL_law 918 = .ok (.ireturn, 1) := by decide +kernel
theorem dL_law_919 : decode cL_law 919 = .ok (.aload_n 1, 1) := by decide +kernel
theorem dL_law_920 : decode cL_law 920 = .ok (.invokevirtual 113, 3) := by decide +kernel
theorem dL_law_923 : decode cL_law 923 = .ok (.aload_n 2, 1) := by decide +kernel
theorem dL_law_924 : decode cL_law 924 = .ok (.invokevirtual 116, 3) := by decide +kernel
theorem dL_law_927 : decode cL_law 927 = .ok (.if_icmp .eq 77, 3) := by decide +kernel
theorem dL_law_930 : decode cL_law 930 = .ok (.iconst 0, 1) := by decide +kernel
theorem dL_law_931 : decode cL_law 931 = .ok (.ireturn, 1) := by decide +kernel
theorem dL_law_932 : decode cL_law 932 = .ok (.aload_n 1, 1) := by decide +kernel
theorem dL_law_933 : decode cL_law 933 = .ok (.invokevirtual 117, 3) := by decide +kernel
