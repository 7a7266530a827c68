theorem dX0_init_0 : decode cX0_init 0 = .ok (.aload_n 0, 1) := by decide +kernel
theorem dX0_init_1 : decode cX0_init 1 = .ok (.invokespecial 3, 3) := by decide +kernel
theorem dX0_init_4 : decode cX0_init 4 = .ok (.aload_n 0, 1) := by decide +kernel
theorem dX0_init_5 : decode cX0_init 5 = .ok (.iload_n 1, 1) := by decide +kernel
theorem dX0_init_6 : decode cX0_init 6 = .ok (.putfield 9, 3) := by decide +kernel
theorem dX0_init_9 : decode cX0_init 9 = .ok (.return_, 1) := by decide +kernel
theorem dX0_copyFrom_0 : decode cX0_copyFrom 0 = .ok (.aload_n 0, 1) := by decide +kernel
theorem dX0_copyFrom_1 : decode cX0_copyFrom 1 = .ok (.aload_n 1, 1) := by decide +kernel
theorem dX0_copyFrom_2 : decode cX0_copyFrom 2 = .ok (.getfield 15, 3) := by decide +kernel
theorem dX0_copyFrom_5 : decode cX0_copyFrom 5 = .ok (.putfield 15, 3) := by decide +kernel
theorem dX0_copyFrom_8 : decode cX0_copyFrom 8 = .ok (.aload_n 0, 1) := by decide +kernel
theorem dX0_copyFrom_9 : decode cX0_copyFrom 9 = .ok (.aload_n 1, 1) := by decide +kernel
theorem dX0_copyFrom_10 : decode cX0_copyFrom 10 = .ok (.getfield 18, 3) := by decide +kernel
theorem dX0_copyFrom_13 : decode cX0_copyFrom 13 = .ok (.putfield 18, 3) := by decide +kernel
theorem dX0_copyFrom_16 : decode cX0_copyFrom 16 = .ok (.aload_n 0, 1) := by decide +kernel
theorem dX0_copyFrom_17 : decode cX0_copyFrom 17 = .ok (.aload_n 1, 1) := by decide +kernel
theorem dX0_copyFrom_18 : decode cX0_copyFrom 18 = .ok (.getfield 21, 3) := by decide +kernel
theorem dX0_copyFrom_21 : decode cX0_copyFrom 21 = .ok (.putfield 21, 3) := by decide +kernel
theorem dX0_copyFrom_24 : decode cX0_copyFrom 24 = .ok (.aload_n 0, 1) := by decide +kernel
theorem dX0_copyFrom_25 : decode cX0_copyFrom 25 = .ok (.aload_n 1, 1) := by decide +kernel
theorem dX0_copyFrom_26 : decode cX0_copyFrom 26 = .ok (.getfield 24, 3) := by decide +kernel
theorem dX0_copyFrom_29 : decode cX0_copyFrom 29 = .ok (.putfield 24, 3) := by decide +kernel
theorem dX0_copyFrom_32 : decode cX0_copyFrom 32 = .ok (.aload_n 0, 1) := by decide +kernel
theorem dX0_copyFrom_33 : decode cX0_copyFrom 33 = .ok (.aload_n 1, 1) := by decide +kernel
theorem dX0_copyFrom_34 : decode cX0_copyFrom 34 = .ok (.getfield 27, 3) := by decide +kernel
theorem dX0_copyFrom_37 : decode cX0_copyFrom 37 = .ok (.putfield 27, 3) := by decide +kernel
theorem dX0_copyFrom_40 : decode cX0_copyFrom 40 = .ok (.aload_n 0, 1) := by decide +kernel
theorem dX0_copyFrom_41 : decode cX0_copyFrom 41 = .ok (.aload_n 1, 1) := by decide +kernel
theorem dX0_copyFrom_42 : decode cX0_copyFrom 42 = .ok (.getfield 30, 3) := by decide +kernel
theorem dX0_copyFrom_45 : decode cX0_copyFrom 45 = .ok (.putfield 30, 3) := by decide +kernel
theorem dX0_copyFrom_48 : decode cX0_copyFrom 48 = .ok (.aload_n 0, 1) := by decide +kernel
theorem dX0_copyFrom_49 : decode cX0_copyFrom 49 = .ok (.aload_n 1, 1) := by decide +kernel
theorem dX0_copyFrom_50 : decode cX0_copyFrom 50 = .ok (.getfield 33, 3) := by decide +kernel
theorem dX0_copyFrom_53 : decode cX0_copyFrom 53 = .ok (.putfield 33, 3) := by decide +kernel
theorem dX0_copyFrom_56 : decode cX0_copyFrom 56 = .ok (.aload_n 0, 1) := by decide +kernel
theorem dX0_copyFrom_57 : decode cX0_copyFrom 57 = .ok (.aload_n 1, 1) := by decide +kernel
theorem dX0_copyFrom_58 : decode cX0_copyFrom 58 = .ok (.getfield 36, 3) := by decide +kernel
theorem dX0_copyFrom_61 : decode cX0_copyFrom 61 = .ok (.putfield 36, 3) := by decide +kernel
theorem dX0_copyFrom_64 : decode cX0_copyFrom 64 = .ok (.return_, 1) := by decide +kernel
theorem dX0_part_0 : decode cX0_part 0 = .ok (.iload_n 1, 1) := by decide +kernel
theorem dX0_part_1 : decode cX0_part 1 = .ok (.tableswitch 78 0 6 #[43, 48, 53, 58, 63, 68, 73], 43) := by decide +kernel
theorem dX0_part_44 : decode cX0_part 44 = .ok (.aload_n 0, 1) := by decide +kernel
theorem dX0_part_45 : decode cX0_part 45 = .ok (.getfield 15, 3) := by decide +kernel
theorem dX0_part_48 : decode cX0_part 48 = .ok (.ireturn, 1) := by decide +kernel
theorem dX0_part_49 : decode cX0_part 49 = .ok (.aload_n 0, 1) := by decide +kernel
theorem dX0_part_50 : decode cX0_part 50 = .ok (.getfield 18, 3) := by decide +kernel
theorem dX0_part_53 : decode cX0_part 53 = .ok (.ireturn, 1) := by decide +kernel
theorem dX0_part_54 : decode cX0_part 54 = .ok (.aload_n 0, 1) := by decide +kernel
theorem dX0_part_55 : decode cX0_part 55 = .ok (.getfield 21, 3) := by decide +kernel
theorem dX0_part_58 : decode cX0_part 58 = .ok (.ireturn, 1) := by decide +kernel
theorem dX0_part_59 : decode cX0_part 59 = .ok (.aload_n 0, 1) := by decide +kernel
theorem dX0_part_60 : decode cX0_part 60 = .ok (.getfield 24, 3) := by decide +kernel
theorem dX0_part_63 : decode cX0_part 63 = .ok (.ireturn, 1) := by decide +kernel
theorem dX0_part_64 : decode cX0_part 64 = .ok (.aload_n 0, 1) := by decide +kernel
theorem dX0_part_65 : decode cX0_part 65 = .ok (.getfield 27, 3) := by decide +kernel
theorem dX0_part_68 : decode cX0_part 68 = .ok (.ireturn, 1) := by decide +kernel
theorem dX0_part_69 : decode cX0_part 69 = .ok (.aload_n 0, 1) := by decide +kernel
theorem dX0_part_70 : decode cX0_part 70 = .ok (.getfield 30, 3) := by decide +kernel
theorem dX0_part_73 : decode cX0_part 73 = .ok (.ireturn, 1) := by decide +kernel
theorem dX0_part_74 : decode cX0_part 74 = .ok (.aload_n 0, 1) := by decide +kernel
theorem dX0_part_75 : decode cX0_part 75 = .ok (.getfield 33, 3) := by decide +kernel
theorem dX0_part_78 : decode cX0_part 78 = .ok (.ireturn, 1) := by decide +kernel
theorem dX0_part_79 : decode cX0_part 79 = .ok (.aload_n 0, 1) := by decide +kernel
theorem dX0_part_80 : decode cX0_part 80 = .ok (.getfield 36, 3) := by decide +kernel
theorem dX0_part_83 : decode cX0_part 83 = .ok (.ireturn, 1) := by decide +kernel
theorem dX0_isAt_0 : decode cX0_isAt 0 = .ok (.aload_n 0, 1) := by decide +kernel
theorem dX0_isAt_1 : decode cX0_isAt 1 = .ok (.getfield 15, 3) := by decide +kernel
theorem dX0_isAt_4 : decode cX0_isAt 4 = .ok (.iload_n 1, 1) := by decide +kernel
theorem dX0_isAt_5 : decode cX0_isAt 5 = .ok (.if_icmp .eq 11, 3) := by decide +kernel
theorem dX0_isAt_8 : decode cX0_isAt 8 = .ok (.aload_n 0, 1) := by decide +kernel
theorem dX0_isAt_9 : decode cX0_isAt 9 = .ok (.getfield 18, 3) := by decide +kernel
theorem dX0_isAt_12 : decode cX0_isAt 12 = .ok (.iload_n 1, 1) := by decide +kernel
theorem dX0_isAt_13 : decode cX0_isAt 13 = .ok (.if_icmp .ne 7, 3) := by decide +kernel
theorem dX0_isAt_16 : decode cX0_isAt 16 = .ok (.iconst 1, 1) := by decide +kernel
theorem dX0_isAt_17 : decode cX0_isAt 17 = .ok (.goto 4, 3) := by decide +kernel
theorem dX0_isAt_20 : decode cX0_isAt 20 = .ok (.iconst 0, 1) := by decide +kernel
theorem dX0_isAt_21 : decode cX0_isAt 21 = .ok (.ireturn, 1) := by decide +kernel
theorem dX0_farFrom_0 : decode cX0_farFrom 0 = .ok (.aload_n 0, 1) := by decide +kernel
theorem dX0_farFrom_1 : decode cX0_farFrom 1 = .ok (.getfield 15, 3) := by decide +kernel
theorem dX0_farFrom_4 : decode cX0_farFrom 4 = .ok (.iload_n 1, 1) := by decide +kernel
theorem dX0_farFrom_5 : decode cX0_farFrom 5 = .ok (.if_icmp .ne 10, 3) := by decide +kernel
theorem dX0_farFrom_8 : decode cX0_farFrom 8 = .ok (.aload_n 0, 1) := by decide +kernel
theorem dX0_farFrom_9 : decode cX0_farFrom 9 = .ok (.getfield 18, 3) := by decide +kernel
theorem dX0_farFrom_12 : decode cX0_farFrom 12 = .ok (.goto 7, 3) := by decide +kernel
theorem dX0_farFrom_15 : decode cX0_farFrom 15 = .ok (.aload_n 0, 1) := by decide +kernel
theorem dX0_farFrom_16 : decode cX0_farFrom 16 = .ok (.getfield 15, 3) := by decide +kernel
theorem dX0_farFrom_19 : decode cX0_farFrom 19 = .ok (.ireturn, 1) := by decide +kernel
theorem dX0_distance_0 : decode cX0_distance 0 = .ok (.iload_n 1, 1) := by decide +kernel
theorem dX0_distance_1 : decode cX0_distance 1 = .ok (.aload_n 0, 1) := by decide +kernel
theorem dX0_distance_2 : decode cX0_distance 2 = .ok (.getfield 24, 3) := by decide +kernel
theorem dX0_distance_5 : decode cX0_distance 5 = .ok (.isub, 1) := by decide +kernel
theorem dX0_distance_6 : decode cX0_distance 6 = .ok (.invokestatic 39, 3) := by decide +kernel
theorem dX0_distance_9 : decode cX0_distance 9 = .ok (.ireturn, 1) := by decide +kernel
theorem dX0_takeRiddle_0 : decode cX0_takeRiddle 0 = .ok (.aload_n 0, 1) := by decide +kernel
theorem dX0_takeRiddle_1 : decode cX0_takeRiddle 1 = .ok (.aload_n 0, 1) := by decide +kernel
theorem dX0_takeRiddle_2 : decode cX0_takeRiddle 2 = .ok (.getfield 21, 3) := by decide +kernel
theorem dX0_takeRiddle_5 : decode cX0_takeRiddle 5 = .ok (.ifCond .le 12, 3) := by decide +kernel
theorem dX0_takeRiddle_8 : decode cX0_takeRiddle 8 = .ok (.iload_n 1, 1) := by decide +kernel
theorem dX0_takeRiddle_9 : decode cX0_takeRiddle 9 = .ok (.aload_n 0, 1) := by decide +kernel
theorem dX0_takeRiddle_10 : decode cX0_takeRiddle 10 = .ok (.getfield 21, 3) := by decide +kernel
theorem dX0_takeRiddle_13 : decode cX0_takeRiddle 13 = .ok (.irem, 1) := by decide +kernel
theorem dX0_takeRiddle_14 : decode cX0_takeRiddle 14 = .ok (.goto 4, 3) := by decide +kernel
theorem dX0_takeRiddle_17 : decode cX0_takeRiddle 17 = .ok (.iconst 0, 1) := by decide +kernel
theorem dX0_takeRiddle_18 : decode cX0_takeRiddle 18 = .ok (.putfield 24, 3) := by decide +kernel
theorem dX0_takeRiddle_21 : decode cX0_takeRiddle 21 = .ok (.return_, 1) := by decide +kernel
theorem dX1_init_0 : decode cX1_init 0 = .ok (.aload_n 0, 1) := by decide +kernel
theorem dX1_init_1 : decode cX1_init 1 = .ok (.invokespecial 3, 3) := by decide +kernel
theorem dX1_init_4 : decode cX1_init 4 = .ok (.aload_n 0, 1) := by decide +kernel
theorem dX1_init_5 : decode cX1_init 5 = .ok (.bipush (-6), 2) := by decide +kernel
theorem dX1_init_7 : decode cX1_init 7 = .ok (.putfield 9, 3) := by decide +kernel
theorem dX1_init_10 : decode cX1_init 10 = .ok (.aload_n 0, 1) := by decide +kernel
theorem dX1_init_11 : decode cX1_init 11 = .ok (.bipush (-6), 2) := by decide +kernel
theorem dX1_init_13 : decode cX1_init 13 = .ok (.putfield 15, 3) := by decide +kernel
theorem dX1_init_16 : decode cX1_init 16 = .ok (.aload_n 0, 1) := by decide +kernel
theorem dX1_init_17 : decode cX1_init 17 = .ok (.bipush 12, 2) := by decide +kernel
theorem dX1_init_19 : decode cX1_init 19 = .ok (.newarray .int, 2) := by decide +kernel
theorem dX1_init_21 : decode cX1_init 21 = .ok (.putfield 18, 3) := by decide +kernel
theorem dX1_init_24 : decode cX1_init 24 = .ok (.aload_n 0, 1) := by decide +kernel
theorem dX1_init_25 : decode cX1_init 25 = .ok (.bipush 12, 2) := by decide +kernel
theorem dX1_init_27 : decode cX1_init 27 = .ok (.newarray .int, 2) := by decide +kernel
theorem dX1_init_29 : decode cX1_init 29 = .ok (.putfield 22, 3) := by decide +kernel
theorem dX1_init_32 : decode cX1_init 32 = .ok (.aload_n 0, 1) := by decide +kernel
theorem dX1_init_33 : decode cX1_init 33 = .ok (.iload_n 1, 1) := by decide +kernel
theorem dX1_init_34 : decode cX1_init 34 = .ok (.putfield 25, 3) := by decide +kernel
theorem dX1_init_37 : decode cX1_init 37 = .ok (.return_, 1) := by decide +kernel
theorem dX1_copyFrom_0 : decode cX1_copyFrom 0 = .ok (.aload_n 0, 1) := by decide +kernel
theorem dX1_copyFrom_1 : decode cX1_copyFrom 1 = .ok (.aload_n 1, 1) := by decide +kernel
theorem dX1_copyFrom_2 : decode cX1_copyFrom 2 = .ok (.getfield 28, 3) := by decide +kernel
theorem dX1_copyFrom_5 : decode cX1_copyFrom 5 = .ok (.putfield 28, 3) := by decide +kernel
theorem dX1_copyFrom_8 : decode cX1_copyFrom 8 = .ok (.aload_n 0, 1) := by decide +kernel
theorem dX1_copyFrom_9 : decode cX1_copyFrom 9 = .ok (.aload_n 1, 1) := by decide +kernel
theorem dX1_copyFrom_10 : decode cX1_copyFrom 10 = .ok (.getfield 31, 3) := by decide +kernel
theorem dX1_copyFrom_13 : decode cX1_copyFrom 13 = .ok (.putfield 31, 3) := by decide +kernel
theorem dX1_copyFrom_16 : decode cX1_copyFrom 16 = .ok (.aload_n 0, 1) := by decide +kernel
theorem dX1_copyFrom_17 : decode cX1_copyFrom 17 = .ok (.aload_n 1, 1) := by decide +kernel
theorem dX1_copyFrom_18 : decode cX1_copyFrom 18 = .ok (.getfield 9, 3) := by decide +kernel
theorem dX1_copyFrom_21 : decode cX1_copyFrom 21 = .ok (.putfield 9, 3) := by decide +kernel
theorem dX1_copyFrom_24 : decode cX1_copyFrom 24 = .ok (.aload_n 0, 1) := by decide +kernel
theorem dX1_copyFrom_25 : decode cX1_copyFrom 25 = .ok (.aload_n 1, 1) := by decide +kernel
theorem dX1_copyFrom_26 : decode cX1_copyFrom 26 = .ok (.getfield 15, 3) := by decide +kernel
theorem dX1_copyFrom_29 : decode cX1_copyFrom 29 = .ok (.putfield 15, 3) := by decide +kernel
theorem dX1_copyFrom_32 : decode cX1_copyFrom 32 = .ok (.aload_n 0, 1) := by decide +kernel
theorem dX1_copyFrom_33 : decode cX1_copyFrom 33 = .ok (.aload_n 1, 1) := by decide +kernel
theorem dX1_copyFrom_34 : decode cX1_copyFrom 34 = .ok (.getfield 34, 3) := by decide +kernel
theorem dX1_copyFrom_37 : decode cX1_copyFrom 37 = .ok (.putfield 34, 3) := by decide +kernel
theorem dX1_copyFrom_40 : decode cX1_copyFrom 40 = .ok (.aload_n 0, 1) := by decide +kernel
theorem dX1_copyFrom_41 : decode cX1_copyFrom 41 = .ok (.aload_n 1, 1) := by decide +kernel
theorem dX1_copyFrom_42 : decode cX1_copyFrom 42 = .ok (.getfield 37, 3) := by decide +kernel
theorem dX1_copyFrom_45 : decode cX1_copyFrom 45 = .ok (.putfield 37, 3) := by decide +kernel
theorem dX1_copyFrom_48 : decode cX1_copyFrom 48 = .ok (.aload_n 0, 1) := by decide +kernel
theorem dX1_copyFrom_49 : decode cX1_copyFrom 49 = .ok (.aload_n 1, 1) := by decide +kernel
theorem dX1_copyFrom_50 : decode cX1_copyFrom 50 = .ok (.getfield 40, 3) := by decide +kernel
theorem dX1_copyFrom_53 : decode cX1_copyFrom 53 = .ok (.putfield 40, 3) := by decide +kernel
theorem dX1_copyFrom_56 : decode cX1_copyFrom 56 = .ok (.aload_n 0, 1) := by decide +kernel
theorem dX1_copyFrom_57 : decode cX1_copyFrom 57 = .ok (.aload_n 1, 1) := by decide +kernel
theorem dX1_copyFrom_58 : decode cX1_copyFrom 58 = .ok (.getfield 43, 3) := by decide +kernel
theorem dX1_copyFrom_61 : decode cX1_copyFrom 61 = .ok (.putfield 43, 3) := by decide +kernel
theorem dX1_copyFrom_64 : decode cX1_copyFrom 64 = .ok (.aload_n 1, 1) := by decide +kernel
theorem dX1_copyFrom_65 : decode cX1_copyFrom 65 = .ok (.getfield 18, 3) := by decide +kernel
theorem dX1_copyFrom_68 : decode cX1_copyFrom 68 = .ok (.iconst 0, 1) := by decide +kernel
theorem dX1_copyFrom_69 : decode cX1_copyFrom 69 = .ok (.aload_n 0, 1) := by decide +kernel
theorem dX1_copyFrom_70 : decode cX1_copyFrom 70 = .ok (.getfield 18, 3) := by decide +kernel
theorem dX1_copyFrom_73 : decode cX1_copyFrom 73 = .ok (.iconst 0, 1) := by decide +kernel
theorem dX1_copyFrom_74 : decode cX1_copyFrom 74 = .ok (.bipush 12, 2) := by decide +kernel
theorem dX1_copyFrom_76 : decode cX1_copyFrom 76 = .ok (.invokestatic 46, 3) := by decide +kernel
theorem dX1_copyFrom_79 : decode cX1_copyFrom 79 = .ok (.aload_n 1, 1) := by decide +kernel
theorem dX1_copyFrom_80 : decode cX1_copyFrom 80 = .ok (.getfield 22, 3) := by decide +kernel
theorem dX1_copyFrom_83 : decode cX1_copyFrom 83 = .ok (.iconst 0, 1) := by decide +kernel
theorem dX1_copyFrom_84 : decode cX1_copyFrom 84 = .ok (.aload_n 0, 1) := by decide +kernel
theorem dX1_copyFrom_85 : decode cX1_copyFrom 85 = .ok (.getfield 22, 3) := by decide +kernel
theorem dX1_copyFrom_88 : decode cX1_copyFrom 88 = .ok (.iconst 0, 1) := by decide +kernel
theorem dX1_copyFrom_89 : decode cX1_copyFrom 89 = .ok (.bipush 12, 2) := by decide +kernel
theorem dX1_copyFrom_91 : decode cX1_copyFrom 91 = .ok (.invokestatic 46, 3) := by decide +kernel
theorem dX1_copyFrom_94 : decode cX1_copyFrom 94 = .ok (.return_, 1) := by decide +kernel
theorem dX1_part_0 : decode cX1_part 0 = .ok (.iload_n 1, 1) := by decide +kernel
theorem dX1_part_1 : decode cX1_part 1 = .ok (.tableswitch 78 0 6 #[43, 48, 53, 58, 63, 68, 73], 43) := by decide +kernel
theorem dX1_part_44 : decode cX1_part 44 = .ok (.aload_n 0, 1) := by decide +kernel
theorem dX1_part_45 : decode cX1_part 45 = .ok (.getfield 28, 3) := by decide +kernel
theorem dX1_part_48 : decode cX1_part 48 = .ok (.ireturn, 1) := by decide +kernel
theorem dX1_part_49 : decode cX1_part 49 = .ok (.aload_n 0, 1) := by decide +kernel
theorem dX1_part_50 : decode cX1_part 50 = .ok (.getfield 31, 3) := by decide +kernel
theorem dX1_part_53 : decode cX1_part 53 = .ok (.ireturn, 1) := by decide +kernel
theorem dX1_part_54 : decode cX1_part 54 = .ok (.aload_n 0, 1) := by decide +kernel
theorem dX1_part_55 : decode cX1_part 55 = .ok (.getfield 9, 3) := by decide +kernel
theorem dX1_part_58 : decode cX1_part 58 = .ok (.ireturn, 1) := by decide +kernel
theorem dX1_part_59 : decode cX1_part 59 = .ok (.aload_n 0, 1) := by decide +kernel
theorem dX1_part_60 : decode cX1_part 60 = .ok (.getfield 15, 3) := by decide +kernel
theorem dX1_part_63 : decode cX1_part 63 = .ok (.ireturn, 1) := by decide +kernel
theorem dX1_part_64 : decode cX1_part 64 = .ok (.aload_n 0, 1) := by decide +kernel
theorem dX1_part_65 : decode cX1_part 65 = .ok (.getfield 34, 3) := by decide +kernel
theorem dX1_part_68 : decode cX1_part 68 = .ok (.ireturn, 1) := by decide +kernel
theorem dX1_part_69 : decode cX1_part 69 = .ok (.aload_n 0, 1) := by decide +kernel
theorem dX1_part_70 : decode cX1_part 70 = .ok (.getfield 37, 3) := by decide +kernel
theorem dX1_part_73 : decode cX1_part 73 = .ok (.ireturn, 1) := by decide +kernel
theorem dX1_part_74 : decode cX1_part 74 = .ok (.aload_n 0, 1) := by decide +kernel
theorem dX1_part_75 : decode cX1_part 75 = .ok (.getfield 40, 3) := by decide +kernel
theorem dX1_part_78 : decode cX1_part 78 = .ok (.ireturn, 1) := by decide +kernel
theorem dX1_part_79 : decode cX1_part 79 = .ok (.aload_n 0, 1) := by decide +kernel
theorem dX1_part_80 : decode cX1_part 80 = .ok (.getfield 43, 3) := by decide +kernel
theorem dX1_part_83 : decode cX1_part 83 = .ok (.ireturn, 1) := by decide +kernel
theorem dX1_isWaiting_0 : decode cX1_isWaiting 0 = .ok (.aload_n 0, 1) := by decide +kernel
theorem dX1_isWaiting_1 : decode cX1_isWaiting 1 = .ok (.getfield 9, 3) := by decide +kernel
theorem dX1_isWaiting_4 : decode cX1_isWaiting 4 = .ok (.bipush (-6), 2) := by decide +kernel
theorem dX1_isWaiting_6 : decode cX1_isWaiting 6 = .ok (.if_icmp .eq 7, 3) := by decide +kernel
theorem dX1_isWaiting_9 : decode cX1_isWaiting 9 = .ok (.iconst 1, 1) := by decide +kernel
theorem dX1_isWaiting_10 : decode cX1_isWaiting 10 = .ok (.goto 4, 3) := by decide +kernel
theorem dX1_isWaiting_13 : decode cX1_isWaiting 13 = .ok (.iconst 0, 1) := by decide +kernel
theorem dX1_isWaiting_14 : decode cX1_isWaiting 14 = .ok (.ireturn, 1) := by decide +kernel
theorem dX1_lowest_0 : decode cX1_lowest 0 = .ok (.aload_n 0, 1) := by decide +kernel
theorem dX1_lowest_1 : decode cX1_lowest 1 = .ok (.getfield 18, 3) := by decide +kernel
theorem dX1_lowest_4 : decode cX1_lowest 4 = .ok (.aload_n 1, 1) := by decide +kernel
theorem dX1_lowest_5 : decode cX1_lowest 5 = .ok (.getfield 52, 3) := by decide +kernel
theorem dX1_lowest_8 : decode cX1_lowest 8 = .ok (.iaload, 1) := by decide +kernel
theorem dX1_lowest_9 : decode cX1_lowest 9 = .ok (.ireturn, 1) := by decide +kernel
theorem dX1_highest_0 : decode cX1_highest 0 = .ok (.aload_n 0, 1) := by decide +kernel
theorem dX1_highest_1 : decode cX1_highest 1 = .ok (.getfield 22, 3) := by decide +kernel
theorem dX1_highest_4 : decode cX1_highest 4 = .ok (.aload_n 1, 1) := by decide +kernel
theorem dX1_highest_5 : decode cX1_highest 5 = .ok (.getfield 52, 3) := by decide +kernel
theorem dX1_highest_8 : decode cX1_highest 8 = .ok (.iaload, 1) := by decide +kernel
theorem dX1_highest_9 : decode cX1_highest 9 = .ok (.ireturn, 1) := by decide +kernel
theorem dX1_numbersLeft_0 : decode cX1_numbersLeft 0 = .ok (.aload_n 0, 1) := by decide +kernel
theorem dX1_numbersLeft_1 : decode cX1_numbersLeft 1 = .ok (.aload_n 1, 1) := by decide +kernel
theorem dX1_numbersLeft_2 : decode cX1_numbersLeft 2 = .ok (.invokevirtual 55, 3) := by decide +kernel
theorem dX1_numbersLeft_5 : decode cX1_numbersLeft 5 = .ok (.aload_n 0, 1) := by decide +kernel
theorem dX1_numbersLeft_6 : decode cX1_numbersLeft 6 = .ok (.aload_n 1, 1) := by decide +kernel
theorem dX1_numbersLeft_7 : decode cX1_numbersLeft 7 = .ok (.invokevirtual 59, 3) := by decide +kernel
theorem dX1_numbersLeft_10 : decode cX1_numbersLeft 10 = .ok (.isub, 1) := by decide +kernel
theorem dX1_numbersLeft_11 : decode cX1_numbersLeft 11 = .ok (.iconst 1, 1) := by decide +kernel
theorem dX1_numbersLeft_12 : decode cX1_numbersLeft 12 = .ok (.iadd, 1) := by decide +kernel
theorem dX1_numbersLeft_13 : decode cX1_numbersLeft 13 = .ok (.ireturn, 1) := by decide +kernel
theorem dX1_forget_0 : decode cX1_forget 0 = .ok (.aload_n 0, 1) := by decide +kernel
theorem dX1_forget_1 : decode cX1_forget 1 = .ok (.getfield 18, 3) := by decide +kernel
theorem dX1_forget_4 : decode cX1_forget 4 = .ok (.aload_n 1, 1) := by decide +kernel
theorem dX1_forget_5 : decode cX1_forget 5 = .ok (.getfield 52, 3) := by decide +kernel
theorem dX1_forget_8 : decode cX1_forget 8 = .ok (.iconst 0, 1) := by decide +kernel
theorem dX1_forget_9 : decode cX1_forget 9 = .ok (.iastore, 1) := by decide +kernel
theorem dX1_forget_10 : decode cX1_forget 10 = .ok (.aload_n 0, 1) := by decide +kernel
theorem dX1_forget_11 : decode cX1_forget 11 = .ok (.getfield 22, 3) := by decide +kernel
theorem dX1_forget_14 : decode cX1_forget 14 = .ok (.aload_n 1, 1) := by decide +kernel
theorem dX1_forget_15 : decode cX1_forget 15 = .ok (.getfield 52, 3) := by decide +kernel
theorem dX1_forget_18 : decode cX1_forget 18 = .ok (.aload_n 1, 1) := by decide +kernel
theorem dX1_forget_19 : decode cX1_forget 19 = .ok (.getfield 62, 3) := by decide +kernel
theorem dX1_forget_22 : decode cX1_forget 22 = .ok (.iconst 1, 1) := by decide +kernel
theorem dX1_forget_23 : decode cX1_forget 23 = .ok (.isub, 1) := by decide +kernel
theorem dX1_forget_24 : decode cX1_forget 24 = .ok (.iastore, 1) := by decide +kernel
theorem dX1_forget_25 : decode cX1_forget 25 = .ok (.return_, 1) := by decide +kernel
theorem dX1_halve_0 : decode cX1_halve 0 = .ok (.aload_n 0, 1) := by decide +kernel
theorem dX1_halve_1 : decode cX1_halve 1 = .ok (.aload_n 1, 1) := by decide +kernel
theorem dX1_halve_2 : decode cX1_halve 2 = .ok (.invokevirtual 59, 3) := by decide +kernel
theorem dX1_halve_5 : decode cX1_halve 5 = .ok (.aload_n 0, 1) := by decide +kernel
theorem dX1_halve_6 : decode cX1_halve 6 = .ok (.aload_n 1, 1) := by decide +kernel
theorem dX1_halve_7 : decode cX1_halve 7 = .ok (.invokevirtual 55, 3) := by decide +kernel
theorem dX1_halve_10 : decode cX1_halve 10 = .ok (.iadd, 1) := by decide +kernel
theorem dX1_halve_11 : decode cX1_halve 11 = .ok (.iconst 2, 1) := by decide +kernel
theorem dX1_halve_12 : decode cX1_halve 12 = .ok (.idiv, 1) := by decide +kernel
theorem dX1_halve_13 : decode cX1_halve 13 = .ok (.istore_n 2, 1) := by decide +kernel
theorem dX1_halve_14 : decode cX1_halve 14 = .ok (.aload_n 1, 1) := by decide +kernel
theorem dX1_halve_15 : decode cX1_halve 15 = .ok (.getfield 65, 3) := by decide +kernel
theorem dX1_halve_18 : decode cX1_halve 18 = .ok (.iload_n 2, 1) := by decide +kernel
theorem dX1_halve_19 : decode cX1_halve 19 = .ok (.if_icmp .gt 16, 3) := by decide +kernel
theorem dX1_halve_22 : decode cX1_halve 22 = .ok (.aload_n 0, 1) := by decide +kernel
theorem dX1_halve_23 : decode cX1_halve 23 = .ok (.getfield 22, 3) := by decide +kernel
theorem dX1_halve_26 : decode cX1_halve 26 = .ok (.aload_n 1, 1) := by decide +kernel
theorem dX1_halve_27 : decode cX1_halve 27 = .ok (.getfield 52, 3) := by decide +kernel
theorem dX1_halve_30 : decode cX1_halve 30 = .ok (.iload_n 2, 1) := by decide +kernel
theorem dX1_halve_31 : decode cX1_halve 31 = .ok (.iastore, 1) := by decide +kernel
theorem dX1_halve_32 : decode cX1_halve 32 = .ok (.goto 15, 3) := by decide +kernel
theorem dX1_halve_35 : decode cX1_halve 35 = .ok (.aload_n 0, 1) := by decide +kernel
theorem dX1_halve_36 : decode cX1_halve 36 = .ok (.getfield 18, 3) := by decide +kernel
theorem dX1_halve_39 : decode cX1_halve 39 = .ok (.aload_n 1, 1) := by decide +kernel
theorem dX1_halve_40 : decode cX1_halve 40 = .ok (.getfield 52, 3) := by decide +kernel
theorem dX1_halve_43 : decode cX1_halve 43 = .ok (.iload_n 2, 1) := by decide +kernel
theorem dX1_halve_44 : decode cX1_halve 44 = .ok (.iconst 1, 1) := by decide +kernel
theorem dX1_halve_45 : decode cX1_halve 45 = .ok (.iadd, 1) := by decide +kernel
theorem dX1_halve_46 : decode cX1_halve 46 = .ok (.iastore, 1) := by decide +kernel
theorem dX1_halve_47 : decode cX1_halve 47 = .ok (.return_, 1) := by decide +kernel
theorem dX1_numbersNearer_0 : decode cX1_numbersNearer 0 = .ok (.iload_n 2, 1) := by decide +kernel
theorem dX1_numbersNearer_1 : decode cX1_numbersNearer 1 = .ok (.iload_n 3, 1) := by decide +kernel
theorem dX1_numbersNearer_2 : decode cX1_numbersNearer 2 = .ok (.iadd, 1) := by decide +kernel
theorem dX1_numbersNearer_3 : decode cX1_numbersNearer 3 = .ok (.istore 4, 2) := by decide +kernel
theorem dX1_numbersNearer_5 : decode cX1_numbersNearer 5 = .ok (.iload_n 2, 1) := by decide +kernel
theorem dX1_numbersNearer_6 : decode cX1_numbersNearer 6 = .ok (.iload_n 3, 1) := by decide +kernel
theorem dX1_numbersNearer_7 : decode cX1_numbersNearer 7 = .ok (.if_icmp .ge 30, 3) := by decide +kernel
theorem dX1_numbersNearer_10 : decode cX1_numbersNearer 10 = .ok (.iconst 0, 1) := by decide +kernel
theorem dX1_numbersNearer_11 : decode cX1_numbersNearer 11 = .ok (.aload_n 0, 1) := by decide +kernel
theorem dX1_numbersNearer_12 : decode cX1_numbersNearer 12 = .ok (.aload_n 1, 1) := by decide +kernel
theorem dX1_numbersNearer_13 : decode cX1_numbersNearer 13 = .ok (.invokevirtual 55, 3) := by decide +kernel
theorem dX1_numbersNearer_16 : decode cX1_numbersNearer 16 = .ok (.iload 4, 2) := by decide +kernel
theorem dX1_numbersNearer_18 : decode cX1_numbersNearer 18 = .ok (.iconst 1, 1) := by decide +kernel
theorem dX1_numbersNearer_19 : decode cX1_numbersNearer 19 = .ok (.isub, 1) := by decide +kernel
theorem dX1_numbersNearer_20 : decode cX1_numbersNearer 20 = .ok (.iconst 2, 1) := by decide +kernel
theorem dX1_numbersNearer_21 : decode cX1_numbersNearer 21 = .ok (.idiv, 1) := by decide +kernel
theorem dX1_numbersNearer_22 : decode cX1_numbersNearer 22 = .ok (.invokestatic 68, 3) := by decide +kernel
theorem dX1_numbersNearer_25 : decode cX1_numbersNearer 25 = .ok (.aload_n 0, 1) := by decide +kernel
theorem dX1_numbersNearer_26 : decode cX1_numbersNearer 26 = .ok (.aload_n 1, 1) := by decide +kernel
theorem dX1_numbersNearer_27 : decode cX1_numbersNearer 27 = .ok (.invokevirtual 59, 3) := by decide +kernel
theorem dX1_numbersNearer_30 : decode cX1_numbersNearer 30 = .ok (.isub, 1) := by decide +kernel
theorem dX1_numbersNearer_31 : decode cX1_numbersNearer 31 = .ok (.iconst 1, 1) := by decide +kernel
theorem dX1_numbersNearer_32 : decode cX1_numbersNearer 32 = .ok (.iadd, 1) := by decide +kernel
theorem dX1_numbersNearer_33 : decode cX1_numbersNearer 33 = .ok (.invokestatic 74, 3) := by decide +kernel
theorem dX1_numbersNearer_36 : decode cX1_numbersNearer 36 = .ok (.ireturn, 1) := by decide +kernel
theorem dX1_numbersNearer_37 : decode cX1_numbersNearer 37 = .ok (.iload_n 2, 1) := by decide +kernel
theorem dX1_numbersNearer_38 : decode cX1_numbersNearer 38 = .ok (.iload_n 3, 1) := by decide +kernel
theorem dX1_numbersNearer_39 : decode cX1_numbersNearer 39 = .ok (.if_icmp .le 30, 3) := by decide +kernel
theorem dX1_numbersNearer_42 : decode cX1_numbersNearer 42 = .ok (.iconst 0, 1) := by decide +kernel
theorem dX1_numbersNearer_43 : decode cX1_numbersNearer 43 = .ok (.aload_n 0, 1) := by decide +kernel
theorem dX1_numbersNearer_44 : decode cX1_numbersNearer 44 = .ok (.aload_n 1, 1) := by decide +kernel
theorem dX1_numbersNearer_45 : decode cX1_numbersNearer 45 = .ok (.invokevirtual 55, 3) := by decide +kernel
theorem dX1_numbersNearer_48 : decode cX1_numbersNearer 48 = .ok (.aload_n 0, 1) := by decide +kernel
theorem dX1_numbersNearer_49 : decode cX1_numbersNearer 49 = .ok (.aload_n 1, 1) := by decide +kernel
theorem dX1_numbersNearer_50 : decode cX1_numbersNearer 50 = .ok (.invokevirtual 59, 3) := by decide +kernel
theorem dX1_numbersNearer_53 : decode cX1_numbersNearer 53 = .ok (.iload 4, 2) := by decide +kernel
theorem dX1_numbersNearer_55 : decode cX1_numbersNearer 55 = .ok (.iconst 2, 1) := by decide +kernel
theorem dX1_numbersNearer_56 : decode cX1_numbersNearer 56 = .ok (.idiv, 1) := by decide +kernel
theorem dX1_numbersNearer_57 : decode cX1_numbersNearer 57 = .ok (.iconst 1, 1) := by decide +kernel
theorem dX1_numbersNearer_58 : decode cX1_numbersNearer 58 = .ok (.iadd, 1) := by decide +kernel
theorem dX1_numbersNearer_59 : decode cX1_numbersNearer 59 = .ok (.invokestatic 74, 3) := by decide +kernel
theorem dX1_numbersNearer_62 : decode cX1_numbersNearer 62 = .ok (.isub, 1) := by decide +kernel
theorem dX1_numbersNearer_63 : decode cX1_numbersNearer 63 = .ok (.iconst 1, 1) := by decide +kernel
theorem dX1_numbersNearer_64 : decode cX1_numbersNearer 64 = .ok (.iadd, 1) := by decide +kernel
theorem dX1_numbersNearer_65 : decode cX1_numbersNearer 65 = .ok (.invokestatic 74, 3) := by decide +kernel
theorem dX1_numbersNearer_68 : decode cX1_numbersNearer 68 = .ok (.ireturn, 1) := by decide +kernel
theorem dX1_numbersNearer_69 : decode cX1_numbersNearer 69 = .ok (.iconst 0, 1) := by decide +kernel
theorem dX1_numbersNearer_70 : decode cX1_numbersNearer 70 = .ok (.ireturn, 1) := by decide +kernel
theorem dX1_pay_0 : decode cX1_pay 0 = .ok (.aload_n 0, 1) := by decide +kernel
theorem dX1_pay_1 : decode cX1_pay 1 = .ok (.dup, 1) := by decide +kernel
theorem dX1_pay_2 : decode cX1_pay 2 = .ok (.getfield 31, 3) := by decide +kernel
theorem dX1_pay_5 : decode cX1_pay 5 = .ok (.iload_n 1, 1) := by decide +kernel
theorem dX1_pay_6 : decode cX1_pay 6 = .ok (.isub, 1) := by decide +kernel
theorem dX1_pay_7 : decode cX1_pay 7 = .ok (.putfield 31, 3) := by decide +kernel
theorem dX1_pay_10 : decode cX1_pay 10 = .ok (.aload_n 0, 1) := by decide +kernel
theorem dX1_pay_11 : decode cX1_pay 11 = .ok (.dup, 1) := by decide +kernel
theorem dX1_pay_12 : decode cX1_pay 12 = .ok (.getfield 40, 3) := by decide +kernel
theorem dX1_pay_15 : decode cX1_pay 15 = .ok (.iload_n 1, 1) := by decide +kernel
theorem dX1_pay_16 : decode cX1_pay 16 = .ok (.iadd, 1) := by decide +kernel
theorem dX1_pay_17 : decode cX1_pay 17 = .ok (.putfield 40, 3) := by decide +kernel
theorem dX1_pay_20 : decode cX1_pay 20 = .ok (.aload_n 2, 1) := by decide +kernel
theorem dX1_pay_21 : decode cX1_pay 21 = .ok (.dup, 1) := by decide +kernel
theorem dX1_pay_22 : decode cX1_pay 22 = .ok (.getfield 77, 3) := by decide +kernel
theorem dX1_pay_25 : decode cX1_pay 25 = .ok (.iload_n 1, 1) := by decide +kernel
theorem dX1_pay_26 : decode cX1_pay 26 = .ok (.iadd, 1) := by decide +kernel
theorem dX1_pay_27 : decode cX1_pay 27 = .ok (.putfield 77, 3) := by decide +kernel
theorem dX1_pay_30 : decode cX1_pay 30 = .ok (.return_, 1) := by decide +kernel
theorem dX1_takeGift_0 : decode cX1_takeGift 0 = .ok (.iload_n 1, 1) := by decide +kernel
theorem dX1_takeGift_1 : decode cX1_takeGift 1 = .ok (.aload_n 2, 1) := by decide +kernel
theorem dX1_takeGift_2 : decode cX1_takeGift 2 = .ok (.getfield 77, 3) := by decide +kernel
theorem dX1_takeGift_5 : decode cX1_takeGift 5 = .ok (.invokestatic 68, 3) := by decide +kernel
theorem dX1_takeGift_8 : decode cX1_takeGift 8 = .ok (.istore_n 3, 1) := by decide +kernel
theorem dX1_takeGift_9 : decode cX1_takeGift 9 = .ok (.aload_n 2, 1) := by decide +kernel
theorem dX1_takeGift_10 : decode cX1_takeGift 10 = .ok (.dup, 1) := by decide +kernel
theorem dX1_takeGift_11 : decode cX1_takeGift 11 = .ok (.getfield 77, 3) := by decide +kernel
theorem dX1_takeGift_14 : decode cX1_takeGift 14 = .ok (.iload_n 3, 1) := by decide +kernel
theorem dX1_takeGift_15 : decode cX1_takeGift 15 = .ok (.isub, 1) := by decide +kernel
theorem dX1_takeGift_16 : decode cX1_takeGift 16 = .ok (.putfield 77, 3) := by decide +kernel
theorem dX1_takeGift_19 : decode cX1_takeGift 19 = .ok (.aload_n 0, 1) := by decide +kernel
theorem dX1_takeGift_20 : decode cX1_takeGift 20 = .ok (.dup, 1) := by decide +kernel
theorem dX1_takeGift_21 : decode cX1_takeGift 21 = .ok (.getfield 31, 3) := by decide +kernel
theorem dX1_takeGift_24 : decode cX1_takeGift 24 = .ok (.iload_n 3, 1) := by decide +kernel
theorem dX1_takeGift_25 : decode cX1_takeGift 25 = .ok (.iadd, 1) := by decide +kernel
theorem dX1_takeGift_26 : decode cX1_takeGift 26 = .ok (.putfield 31, 3) := by decide +kernel
theorem dX1_takeGift_29 : decode cX1_takeGift 29 = .ok (.aload_n 0, 1) := by decide +kernel
theorem dX1_takeGift_30 : decode cX1_takeGift 30 = .ok (.dup, 1) := by decide +kernel
theorem dX1_takeGift_31 : decode cX1_takeGift 31 = .ok (.getfield 43, 3) := by decide +kernel
theorem dX1_takeGift_34 : decode cX1_takeGift 34 = .ok (.iload_n 3, 1) := by decide +kernel
theorem dX1_takeGift_35 : decode cX1_takeGift 35 = .ok (.iadd, 1) := by decide +kernel
theorem dX1_takeGift_36 : decode cX1_takeGift 36 = .ok (.putfield 43, 3) := by decide +kernel
theorem dX1_takeGift_39 : decode cX1_takeGift 39 = .ok (.return_, 1) := by decide +kernel
theorem dX2_init_0 : decode cX2_init 0 = .ok (.aload_n 0, 1) := by decide +kernel
theorem dX2_init_1 : decode cX2_init 1 = .ok (.invokespecial 3, 3) := by decide +kernel
theorem dX2_init_4 : decode cX2_init 4 = .ok (.aload_n 0, 1) := by decide +kernel
theorem dX2_init_5 : decode cX2_init 5 = .ok (.bipush 7, 2) := by decide +kernel
theorem dX2_init_7 : decode cX2_init 7 = .ok (.anewarray 11, 3) := by decide +kernel
theorem dX2_init_10 : decode cX2_init 10 = .ok (.putfield 13, 3) := by decide +kernel
theorem dX2_init_13 : decode cX2_init 13 = .ok (.iconst 0, 1) := by decide +kernel
theorem dX2_init_14 : decode cX2_init 14 = .ok (.istore_n 1, 1) := by decide +kernel
theorem dX2_init_15 : decode cX2_init 15 = .ok (.iload_n 1, 1) := by decide +kernel
theorem dX2_init_16 : decode cX2_init 16 = .ok (.bipush 7, 2) := by decide +kernel
theorem dX2_init_18 : decode cX2_init 18 = .ok (.if_icmp .ge 22, 3) := by decide +kernel
theorem dX2_init_21 : decode cX2_init 21 = .ok (.aload_n 0, 1) := by decide +kernel
theorem dX2_init_22 : decode cX2_init 22 = .ok (.getfield 13, 3) := by decide +kernel
theorem dX2_init_25 : decode cX2_init 25 = .ok (.iload_n 1, 1) := by decide +kernel
theorem dX2_init_26 : decode cX2_init 26 = .ok (.new 11, 3) := by decide +kernel
theorem dX2_init_29 : decode cX2_init 29 = .ok (.dup, 1) := by decide +kernel
theorem dX2_init_30 : decode cX2_init 30 = .ok (.invokespecial 17, 3) := by decide +kernel
theorem dX2_init_33 : decode cX2_init 33 = .ok (.aastore, 1) := by decide +kernel
theorem dX2_init_34 : decode cX2_init 34 = .ok (.iinc 1 1, 3) := by decide +kernel
theorem dX2_init_37 : decode cX2_init 37 = .ok (.goto (-22), 3) := by decide +kernel
theorem dX2_init_40 : decode cX2_init 40 = .ok (.return_, 1) := by decide +kernel
theorem dX2_note_0 : decode cX2_note 0 = .ok (.aload_n 0, 1) := by decide +kernel
theorem dX2_note_1 : decode cX2_note 1 = .ok (.getfield 13, 3) := by decide +kernel
theorem dX2_note_4 : decode cX2_note 4 = .ok (.aload_n 0, 1) := by decide +kernel
theorem dX2_note_5 : decode cX2_note 5 = .ok (.getfield 18, 3) := by decide +kernel
theorem dX2_note_8 : decode cX2_note 8 = .ok (.aaload, 1) := by decide +kernel
theorem dX2_note_9 : decode cX2_note 9 = .ok (.aload_n 1, 1) := by decide +kernel
theorem dX2_note_10 : decode cX2_note 10 = .ok (.invokevirtual 22, 3) := by decide +kernel
theorem dX2_note_13 : decode cX2_note 13 = .ok (.return_, 1) := by decide +kernel
theorem dX2_keepNoted_0 : decode cX2_keepNoted 0 = .ok (.aload_n 0, 1) := by decide +kernel
theorem dX2_keepNoted_1 : decode cX2_keepNoted 1 = .ok (.aload_n 0, 1) := by decide +kernel
theorem dX2_keepNoted_2 : decode cX2_keepNoted 2 = .ok (.getfield 18, 3) := by decide +kernel
theorem dX2_keepNoted_5 : decode cX2_keepNoted 5 = .ok (.iconst 1, 1) := by decide +kernel
theorem dX2_keepNoted_6 : decode cX2_keepNoted 6 = .ok (.iadd, 1) := by decide +kernel
theorem dX2_keepNoted_7 : decode cX2_keepNoted 7 = .ok (.bipush 7, 2) := by decide +kernel
theorem dX2_keepNoted_9 : decode cX2_keepNoted 9 = .ok (.irem, 1) := by decide +kernel
theorem dX2_keepNoted_10 : decode cX2_keepNoted 10 = .ok (.putfield 18, 3) := by decide +kernel
theorem dX2_keepNoted_13 : decode cX2_keepNoted 13 = .ok (.aload_n 0, 1) := by decide +kernel
theorem dX2_keepNoted_14 : decode cX2_keepNoted 14 = .ok (.aload_n 0, 1) := by decide +kernel
theorem dX2_keepNoted_15 : decode cX2_keepNoted 15 = .ok (.getfield 26, 3) := by decide +kernel
theorem dX2_keepNoted_18 : decode cX2_keepNoted 18 = .ok (.iconst 1, 1) := by decide +kernel
theorem dX2_keepNoted_19 : decode cX2_keepNoted 19 = .ok (.iadd, 1) := by decide +kernel
theorem dX2_keepNoted_20 : decode cX2_keepNoted 20 = .ok (.bipush 6, 2) := by decide +kernel
theorem dX2_keepNoted_22 : decode cX2_keepNoted 22 = .ok (.invokestatic 29, 3) := by decide +kernel
theorem dX2_keepNoted_25 : decode cX2_keepNoted 25 = .ok (.putfield 26, 3) := by decide +kernel
theorem dX2_keepNoted_28 : decode cX2_keepNoted 28 = .ok (.return_, 1) := by decide +kernel
theorem dX2_takeBack_0 : decode cX2_takeBack 0 = .ok (.aload_n 0, 1) := by decide +kernel
theorem dX2_takeBack_1 : decode cX2_takeBack 1 = .ok (.aload_n 0, 1) := by decide +kernel
theorem dX2_takeBack_2 : decode cX2_takeBack 2 = .ok (.getfield 18, 3) := by decide +kernel
theorem dX2_takeBack_5 : decode cX2_takeBack 5 = .ok (.bipush 7, 2) := by decide +kernel
theorem dX2_takeBack_7 : decode cX2_takeBack 7 = .ok (.iadd, 1) := by decide +kernel
theorem dX2_takeBack_8 : decode cX2_takeBack 8 = .ok (.iconst 1, 1) := by decide +kernel
theorem dX2_takeBack_9 : decode cX2_takeBack 9 = .ok (.isub, 1) := by decide +kernel
theorem dX2_takeBack_10 : decode cX2_takeBack 10 = .ok (.bipush 7, 2) := by decide +kernel
theorem dX2_takeBack_12 : decode cX2_takeBack 12 = .ok (.irem, 1) := by decide +kernel
theorem dX2_takeBack_13 : decode cX2_takeBack 13 = .ok (.putfield 18, 3) := by decide +kernel
theorem dX2_takeBack_16 : decode cX2_takeBack 16 = .ok (.aload_n 0, 1) := by decide +kernel
theorem dX2_takeBack_17 : decode cX2_takeBack 17 = .ok (.dup, 1) := by decide +kernel
theorem dX2_takeBack_18 : decode cX2_takeBack 18 = .ok (.getfield 26, 3) := by decide +kernel
theorem dX2_takeBack_21 : decode cX2_takeBack 21 = .ok (.iconst 1, 1) := by decide +kernel
theorem dX2_takeBack_22 : decode cX2_takeBack 22 = .ok (.isub, 1) := by decide +kernel
theorem dX2_takeBack_23 : decode cX2_takeBack 23 = .ok (.putfield 26, 3) := by decide +kernel
theorem dX2_takeBack_26 : decode cX2_takeBack 26 = .ok (.aload_n 1, 1) := by decide +kernel
theorem dX2_takeBack_27 : decode cX2_takeBack 27 = .ok (.aload_n 0, 1) := by decide +kernel
theorem dX2_takeBack_28 : decode cX2_takeBack 28 = .ok (.getfield 13, 3) := by decide +kernel
theorem dX2_takeBack_31 : decode cX2_takeBack 31 = .ok (.aload_n 0, 1) := by decide +kernel
theorem dX2_takeBack_32 : decode cX2_takeBack 32 = .ok (.getfield 18, 3) := by decide +kernel
theorem dX2_takeBack_35 : decode cX2_takeBack 35 = .ok (.aaload, 1) := by decide +kernel
theorem dX2_takeBack_36 : decode cX2_takeBack 36 = .ok (.invokevirtual 22, 3) := by decide +kernel
theorem dX2_takeBack_39 : decode cX2_takeBack 39 = .ok (.return_, 1) := by decide +kernel
theorem dX3_init_0 : decode cX3_init 0 = .ok (.aload_n 0, 1) := by decide +kernel
theorem dX3_init_1 : decode cX3_init 1 = .ok (.invokespecial 3, 3) := by decide +kernel
theorem dX3_init_4 : decode cX3_init 4 = .ok (.aload_n 0, 1) := by decide +kernel
theorem dX3_init_5 : decode cX3_init 5 = .ok (.aload_n 1, 1) := by decide +kernel
theorem dX3_init_6 : decode cX3_init 6 = .ok (.putfield 9, 3) := by decide +kernel
theorem dX3_init_9 : decode cX3_init 9 = .ok (.return_, 1) := by decide +kernel
theorem dX4_init_0 : decode cX4_init 0 = .ok (.aload_n 0, 1) := by decide +kernel
theorem dX4_init_1 : decode cX4_init 1 = .ok (.invokespecial 3, 3) := by decide +kernel
theorem dX4_init_4 : decode cX4_init 4 = .ok (.aload_n 0, 1) := by decide +kernel
theorem dX4_init_5 : decode cX4_init 5 = .ok (.bipush 80, 2) := by decide +kernel
theorem dX4_init_7 : decode cX4_init 7 = .ok (.newarray .int, 2) := by decide +kernel
theorem dX4_init_9 : decode cX4_init 9 = .ok (.putfield 9, 3) := by decide +kernel
theorem dX4_init_12 : decode cX4_init 12 = .ok (.return_, 1) := by decide +kernel
theorem dX4_clear_0 : decode cX4_clear 0 = .ok (.aload_n 0, 1) := by decide +kernel
theorem dX4_clear_1 : decode cX4_clear 1 = .ok (.iconst 0, 1) := by decide +kernel
theorem dX4_clear_2 : decode cX4_clear 2 = .ok (.putfield 15, 3) := by decide +kernel
theorem dX4_clear_5 : decode cX4_clear 5 = .ok (.return_, 1) := by decide +kernel
theorem dX4_codeAt_0 : decode cX4_codeAt 0 = .ok (.iload_n 1, 1) := by decide +kernel
theorem dX4_codeAt_1 : decode cX4_codeAt 1 = .ok (.ifCond .lt 20, 3) := by decide +kernel
theorem dX4_codeAt_4 : decode cX4_codeAt 4 = .ok (.iload_n 1, 1) := by decide +kernel
theorem dX4_codeAt_5 : decode cX4_codeAt 5 = .ok (.aload_n 0, 1) := by decide +kernel
theorem dX4_codeAt_6 : decode cX4_codeAt 6 = .ok (.getfield 15, 3) := by decide +kernel
theorem dX4_codeAt_9 : decode cX4_codeAt 9 = .ok (.if_icmp .ge 12, 3) := by decide +kernel
theorem dX4_codeAt_12 : decode cX4_codeAt 12 = .ok (.aload_n 0, 1) := by decide +kernel
theorem dX4_codeAt_13 : decode cX4_codeAt 13 = .ok (.getfield 9, 3) := by decide +kernel
theorem dX4_codeAt_16 : decode cX4_codeAt 16 = .ok (.iload_n 1, 1) := by decide +kernel
theorem dX4_codeAt_17 : decode cX4_codeAt 17 = .ok (.iaload, 1) := by decide +kernel
theorem dX4_codeAt_18 : decode cX4_codeAt 18 = .ok (.goto 4, 3) := by decide +kernel
theorem dX4_codeAt_21 : decode cX4_codeAt 21 = .ok (.iconst (-1), 1) := by decide +kernel
theorem dX4_codeAt_22 : decode cX4_codeAt 22 = .ok (.ireturn, 1) := by decide +kernel
theorem dX4_append_0 : decode cX4_append 0 = .ok (.aload_n 0, 1) := by decide +kernel
theorem dX4_append_1 : decode cX4_append 1 = .ok (.getfield 15, 3) := by decide +kernel
theorem dX4_append_4 : decode cX4_append 4 = .ok (.bipush 80, 2) := by decide +kernel
theorem dX4_append_6 : decode cX4_append 6 = .ok (.if_icmp .ge 23, 3) := by decide +kernel
theorem dX4_append_9 : decode cX4_append 9 = .ok (.aload_n 0, 1) := by decide +kernel
theorem dX4_append_10 : decode cX4_append 10 = .ok (.getfield 9, 3) := by decide +kernel
theorem dX4_append_13 : decode cX4_append 13 = .ok (.aload_n 0, 1) := by decide +kernel
theorem dX4_append_14 : decode cX4_append 14 = .ok (.getfield 15, 3) := by decide +kernel
theorem dX4_append_17 : decode cX4_append 17 = .ok (.iload_n 1, 1) := by decide +kernel
theorem dX4_append_18 : decode cX4_append 18 = .ok (.iastore, 1) := by decide +kernel
theorem dX4_append_19 : decode cX4_append 19 = .ok (.aload_n 0, 1) := by decide +kernel
theorem dX4_append_20 : decode cX4_append 20 = .ok (.dup, 1) := by decide +kernel
theorem dX4_append_21 : decode cX4_append 21 = .ok (.getfield 15, 3) := by decide +kernel
theorem dX4_append_24 : decode cX4_append 24 = .ok (.iconst 1, 1) := by decide +kernel
theorem dX4_append_25 : decode cX4_append 25 = .ok (.iadd, 1) := by decide +kernel
theorem dX4_append_26 : decode cX4_append 26 = .ok (.putfield 15, 3) := by decide +kernel
theorem dX4_append_29 : decode cX4_append 29 = .ok (.return_, 1) := by decide +kernel
theorem dX4_appendNumber_0 : decode cX4_appendNumber 0 = .ok (.ldc 19, 2) := by decide +kernel
theorem dX4_appendNumber_2 : decode cX4_appendNumber 2 = .ok (.istore_n 2, 1) := by decide +kernel
theorem dX4_appendNumber_3 : decode cX4_appendNumber 3 = .ok (.iload_n 2, 1) := by decide +kernel
theorem dX4_appendNumber_4 : decode cX4_appendNumber 4 = .ok (.iconst 1, 1) := by decide +kernel
theorem dX4_appendNumber_5 : decode cX4_appendNumber 5 = .ok (.if_icmp .lt 34, 3) := by decide +kernel
theorem dX4_appendNumber_8 : decode cX4_appendNumber 8 = .ok (.iload_n 1, 1) := by decide +kernel
theorem dX4_appendNumber_9 : decode cX4_appendNumber 9 = .ok (.iload_n 2, 1) := by decide +kernel
theorem dX4_appendNumber_10 : decode cX4_appendNumber 10 = .ok (.if_icmp .ge 8, 3) := by decide +kernel
theorem dX4_appendNumber_13 : decode cX4_appendNumber 13 = .ok (.iload_n 2, 1) := by decide +kernel
theorem dX4_appendNumber_14 : decode cX4_appendNumber 14 = .ok (.iconst 1, 1) := by decide +kernel
theorem dX4_appendNumber_15 : decode cX4_appendNumber 15 = .ok (.if_icmp .ne 16, 3) := by decide +kernel
theorem dX4_appendNumber_18 : decode cX4_appendNumber 18 = .ok (.aload_n 0, 1) := by decide +kernel
theorem dX4_appendNumber_19 : decode cX4_appendNumber 19 = .ok (.bipush 48, 2) := by decide +kernel
theorem dX4_appendNumber_21 : decode cX4_appendNumber 21 = .ok (.iload_n 1, 1) := by decide +kernel
theorem dX4_appendNumber_22 : decode cX4_appendNumber 22 = .ok (.iload_n 2, 1) := by decide +kernel
theorem dX4_appendNumber_23 : decode cX4_appendNumber 23 = .ok (.idiv, 1) := by decide +kernel
theorem dX4_appendNumber_24 : decode cX4_appendNumber 24 = .ok (.bipush 10, 2) := by decide +kernel
theorem dX4_appendNumber_26 : decode cX4_appendNumber 26 = .ok (.irem, 1) := by decide +kernel
theorem dX4_appendNumber_27 : decode cX4_appendNumber 27 = .ok (.iadd, 1) := by decide +kernel
theorem dX4_appendNumber_28 : decode cX4_appendNumber 28 = .ok (.invokevirtual 20, 3) := by decide +kernel
theorem dX4_appendNumber_31 : decode cX4_appendNumber 31 = .ok (.iload_n 2, 1) := by decide +kernel
theorem dX4_appendNumber_32 : decode cX4_appendNumber 32 = .ok (.bipush 10, 2) := by decide +kernel
theorem dX4_appendNumber_34 : decode cX4_appendNumber 34 = .ok (.idiv, 1) := by decide +kernel
theorem dX4_appendNumber_35 : decode cX4_appendNumber 35 = .ok (.istore_n 2, 1) := by decide +kernel
theorem dX4_appendNumber_36 : decode cX4_appendNumber 36 = .ok (.goto (-33), 3) := by decide +kernel
theorem dX4_appendNumber_39 : decode cX4_appendNumber 39 = .ok (.return_, 1) := by decide +kernel
theorem dX5_init_0 : decode cX5_init 0 = .ok (.aload_n 0, 1) := by decide +kernel
theorem dX5_init_1 : decode cX5_init 1 = .ok (.invokespecial 3, 3) := by decide +kernel
theorem dX5_init_4 : decode cX5_init 4 = .ok (.aload_n 0, 1) := by decide +kernel
theorem dX5_init_5 : decode cX5_init 5 = .ok (.iconst 4, 1) := by decide +kernel
theorem dX5_init_6 : decode cX5_init 6 = .ok (.newarray .int, 2) := by decide +kernel
theorem dX5_init_8 : decode cX5_init 8 = .ok (.putfield 9, 3) := by decide +kernel
theorem dX5_init_11 : decode cX5_init 11 = .ok (.aload_n 0, 1) := by decide +kernel
theorem dX5_init_12 : decode cX5_init 12 = .ok (.bipush 12, 2) := by decide +kernel
theorem dX5_init_14 : decode cX5_init 14 = .ok (.anewarray 15, 3) := by decide +kernel
theorem dX5_init_17 : decode cX5_init 17 = .ok (.putfield 17, 3) := by decide +kernel
theorem dX5_init_20 : decode cX5_init 20 = .ok (.aload_n 0, 1) := by decide +kernel
theorem dX5_init_21 : decode cX5_init 21 = .ok (.bipush 8, 2) := by decide +kernel
theorem dX5_init_23 : decode cX5_init 23 = .ok (.anewarray 21, 3) := by decide +kernel
theorem dX5_init_26 : decode cX5_init 26 = .ok (.putfield 23, 3) := by decide +kernel
theorem dX5_init_29 : decode cX5_init 29 = .ok (.aload_n 0, 1) := by decide +kernel
theorem dX5_init_30 : decode cX5_init 30 = .ok (.bipush 8, 2) := by decide +kernel
theorem dX5_init_32 : decode cX5_init 32 = .ok (.newarray .int, 2) := by decide +kernel
theorem dX5_init_34 : decode cX5_init 34 = .ok (.putfield 27, 3) := by decide +kernel
theorem dX5_init_37 : decode cX5_init 37 = .ok (.aload_n 0, 1) := by decide +kernel
theorem dX5_init_38 : decode cX5_init 38 = .ok (.iconst 1, 1) := by decide +kernel
theorem dX5_init_39 : decode cX5_init 39 = .ok (.putfield 30, 3) := by decide +kernel
theorem dX5_init_42 : decode cX5_init 42 = .ok (.getstatic 34, 3) := by decide +kernel
theorem dX5_init_45 : decode cX5_init 45 = .ok (.iconst 0, 1) := by decide +kernel
theorem dX5_init_46 : decode cX5_init 46 = .ok (.aload_n 0, 1) := by decide +kernel
theorem dX5_init_47 : decode cX5_init 47 = .ok (.getfield 9, 3) := by decide +kernel
theorem dX5_init_50 : decode cX5_init 50 = .ok (.iconst 0, 1) := by decide +kernel
theorem dX5_init_51 : decode cX5_init 51 = .ok (.iconst 4, 1) := by decide +kernel
theorem dX5_init_52 : decode cX5_init 52 = .ok (.invokestatic 37, 3) := by decide +kernel
theorem dX5_init_55 : decode cX5_init 55 = .ok (.iconst 0, 1) := by decide +kernel
theorem dX5_init_56 : decode cX5_init 56 = .ok (.istore_n 1, 1) := by decide +kernel
theorem dX5_init_57 : decode cX5_init 57 = .ok (.iload_n 1, 1) := by decide +kernel
theorem dX5_init_58 : decode cX5_init 58 = .ok (.bipush 12, 2) := by decide +kernel
theorem dX5_init_60 : decode cX5_init 60 = .ok (.if_icmp .ge 23, 3) := by decide +kernel
theorem dX5_init_63 : decode cX5_init 63 = .ok (.aload_n 0, 1) := by decide +kernel
theorem dX5_init_64 : decode cX5_init 64 = .ok (.getfield 17, 3) := by decide +kernel
theorem dX5_init_67 : decode cX5_init 67 = .ok (.iload_n 1, 1) := by decide +kernel
theorem dX5_init_68 : decode cX5_init 68 = .ok (.new 15, 3) := by decide +kernel
theorem dX5_init_71 : decode cX5_init 71 = .ok (.dup, 1) := by decide +kernel
theorem dX5_init_72 : decode cX5_init 72 = .ok (.iload_n 1, 1) := by decide +kernel
theorem dX5_init_73 : decode cX5_init 73 = .ok (.invokespecial 43, 3) := by decide +kernel
theorem dX5_init_76 : decode cX5_init 76 = .ok (.aastore, 1) := by decide +kernel
theorem dX5_init_77 : decode cX5_init 77 = .ok (.iinc 1 1, 3) := by decide +kernel
theorem dX5_init_80 : decode cX5_init 80 = .ok (.goto (-23), 3) := by decide +kernel
theorem dX5_init_83 : decode cX5_init 83 = .ok (.iconst 0, 1) := by decide +kernel
theorem dX5_init_84 : decode cX5_init 84 = .ok (.istore_n 1, 1) := by decide +kernel
theorem dX5_init_85 : decode cX5_init 85 = .ok (.iload_n 1, 1) := by decide +kernel
theorem dX5_init_86 : decode cX5_init 86 = .ok (.bipush 8, 2) := by decide +kernel
theorem dX5_init_88 : decode cX5_init 88 = .ok (.if_icmp .ge 23, 3) := by decide +kernel
theorem dX5_init_91 : decode cX5_init 91 = .ok (.aload_n 0, 1) := by decide +kernel
theorem dX5_init_92 : decode cX5_init 92 = .ok (.getfield 23, 3) := by decide +kernel
theorem dX5_init_95 : decode cX5_init 95 = .ok (.iload_n 1, 1) := by decide +kernel
theorem dX5_init_96 : decode cX5_init 96 = .ok (.new 21, 3) := by decide +kernel
theorem dX5_init_99 : decode cX5_init 99 = .ok (.dup, 1) := by decide +kernel
theorem dX5_init_100 : decode cX5_init 100 = .ok (.iload_n 1, 1) := by decide +kernel
theorem dX5_init_101 : decode cX5_init 101 = .ok (.invokespecial 46, 3) := by decide +kernel
theorem dX5_init_104 : decode cX5_init 104 = .ok (.aastore, 1) := by decide +kernel
theorem dX5_init_105 : decode cX5_init 105 = .ok (.iinc 1 1, 3) := by decide +kernel
theorem dX5_init_108 : decode cX5_init 108 = .ok (.goto (-23), 3) := by decide +kernel
theorem dX5_init_111 : decode cX5_init 111 = .ok (.return_, 1) := by decide +kernel
theorem dX5_copyFrom_0 : decode cX5_copyFrom 0 = .ok (.aload_n 1, 1) := by decide +kernel
theorem dX5_copyFrom_1 : decode cX5_copyFrom 1 = .ok (.getfield 9, 3) := by decide +kernel
theorem dX5_copyFrom_4 : decode cX5_copyFrom 4 = .ok (.iconst 0, 1) := by decide +kernel
theorem dX5_copyFrom_5 : decode cX5_copyFrom 5 = .ok (.aload_n 0, 1) := by decide +kernel
theorem dX5_copyFrom_6 : decode cX5_copyFrom 6 = .ok (.getfield 9, 3) := by decide +kernel
theorem dX5_copyFrom_9 : decode cX5_copyFrom 9 = .ok (.iconst 0, 1) := by decide +kernel
theorem dX5_copyFrom_10 : decode cX5_copyFrom 10 = .ok (.iconst 4, 1) := by decide +kernel
theorem dX5_copyFrom_11 : decode cX5_copyFrom 11 = .ok (.invokestatic 37, 3) := by decide +kernel
theorem dX5_copyFrom_14 : decode cX5_copyFrom 14 = .ok (.aload_n 1, 1) := by decide +kernel
theorem dX5_copyFrom_15 : decode cX5_copyFrom 15 = .ok (.getfield 27, 3) := by decide +kernel
theorem dX5_copyFrom_18 : decode cX5_copyFrom 18 = .ok (.iconst 0, 1) := by decide +kernel
theorem dX5_copyFrom_19 : decode cX5_copyFrom 19 = .ok (.aload_n 0, 1) := by decide +kernel
theorem dX5_copyFrom_20 : decode cX5_copyFrom 20 = .ok (.getfield 27, 3) := by decide +kernel
theorem dX5_copyFrom_23 : decode cX5_copyFrom 23 = .ok (.iconst 0, 1) := by decide +kernel
theorem dX5_copyFrom_24 : decode cX5_copyFrom 24 = .ok (.bipush 8, 2) := by decide +kernel
theorem dX5_copyFrom_26 : decode cX5_copyFrom 26 = .ok (.invokestatic 37, 3) := by decide +kernel
theorem dX5_copyFrom_29 : decode cX5_copyFrom 29 = .ok (.iconst 0, 1) := by decide +kernel
theorem dX5_copyFrom_30 : decode cX5_copyFrom 30 = .ok (.istore_n 2, 1) := by decide +kernel
theorem dX5_copyFrom_31 : decode cX5_copyFrom 31 = .ok (.iload_n 2, 1) := by decide +kernel
theorem dX5_copyFrom_32 : decode cX5_copyFrom 32 = .ok (.bipush 12, 2) := by decide +kernel
theorem dX5_copyFrom_34 : decode cX5_copyFrom 34 = .ok (.if_icmp .ge 24, 3) := by decide +kernel
theorem dX5_copyFrom_37 : decode cX5_copyFrom 37 = .ok (.aload_n 0, 1) := by decide +kernel
theorem dX5_copyFrom_38 : decode cX5_copyFrom 38 = .ok (.getfield 17, 3) := by decide +kernel
theorem dX5_copyFrom_41 : decode cX5_copyFrom 41 = .ok (.iload_n 2, 1) := by decide +kernel
theorem dX5_copyFrom_42 : decode cX5_copyFrom 42 = .ok (.aaload, 1) := by decide +kernel
theorem dX5_copyFrom_43 : decode cX5_copyFrom 43 = .ok (.aload_n 1, 1) := by decide +kernel
theorem dX5_copyFrom_44 : decode cX5_copyFrom 44 = .ok (.getfield 17, 3) := by decide +kernel
theorem dX5_copyFrom_47 : decode cX5_copyFrom 47 = .ok (.iload_n 2, 1) := by decide +kernel
theorem dX5_copyFrom_48 : decode cX5_copyFrom 48 = .ok (.aaload, 1) := by decide +kernel
theorem dX5_copyFrom_49 : decode cX5_copyFrom 49 = .ok (.invokevirtual 47, 3) := by decide +kernel
theorem dX5_copyFrom_52 : decode cX5_copyFrom 52 = .ok (.iinc 2 1, 3) := by decide +kernel
theorem dX5_copyFrom_55 : decode cX5_copyFrom 55 = .ok (.goto (-24), 3) := by decide +kernel
theorem dX5_copyFrom_58 : decode cX5_copyFrom 58 = .ok (.iconst 0, 1) := by decide +kernel
theorem dX5_copyFrom_59 : decode cX5_copyFrom 59 = .ok (.istore_n 2, 1) := by decide +kernel
theorem dX5_copyFrom_60 : decode cX5_copyFrom 60 = .ok (.iload_n 2, 1) := by decide +kernel
theorem dX5_copyFrom_61 : decode cX5_copyFrom 61 = .ok (.bipush 8, 2) := by decide +kernel
theorem dX5_copyFrom_63 : decode cX5_copyFrom 63 = .ok (.if_icmp .ge 24, 3) := by decide +kernel
theorem dX5_copyFrom_66 : decode cX5_copyFrom 66 = .ok (.aload_n 0, 1) := by decide +kernel
theorem dX5_copyFrom_67 : decode cX5_copyFrom 67 = .ok (.getfield 23, 3) := by decide +kernel
theorem dX5_copyFrom_70 : decode cX5_copyFrom 70 = .ok (.iload_n 2, 1) := by decide +kernel
theorem dX5_copyFrom_71 : decode cX5_copyFrom 71 = .ok (.aaload, 1) := by decide +kernel
theorem dX5_copyFrom_72 : decode cX5_copyFrom 72 = .ok (.aload_n 1, 1) := by decide +kernel
theorem dX5_copyFrom_73 : decode cX5_copyFrom 73 = .ok (.getfield 23, 3) := by decide +kernel
theorem dX5_copyFrom_76 : decode cX5_copyFrom 76 = .ok (.iload_n 2, 1) := by decide +kernel
theorem dX5_copyFrom_77 : decode cX5_copyFrom 77 = .ok (.aaload, 1) := by decide +kernel
theorem dX5_copyFrom_78 : decode cX5_copyFrom 78 = .ok (.invokevirtual 51, 3) := by decide +kernel
theorem dX5_copyFrom_81 : decode cX5_copyFrom 81 = .ok (.iinc 2 1, 3) := by decide +kernel
theorem dX5_copyFrom_84 : decode cX5_copyFrom 84 = .ok (.goto (-24), 3) := by decide +kernel
theorem dX5_copyFrom_87 : decode cX5_copyFrom 87 = .ok (.aload_n 0, 1) := by decide +kernel
theorem dX5_copyFrom_88 : decode cX5_copyFrom 88 = .ok (.aload_n 1, 1) := by decide +kernel
theorem dX5_copyFrom_89 : decode cX5_copyFrom 89 = .ok (.getfield 54, 3) := by decide +kernel
theorem dX5_copyFrom_92 : decode cX5_copyFrom 92 = .ok (.putfield 54, 3) := by decide +kernel
theorem dX5_copyFrom_95 : decode cX5_copyFrom 95 = .ok (.aload_n 0, 1) := by decide +kernel
theorem dX5_copyFrom_96 : decode cX5_copyFrom 96 = .ok (.aload_n 1, 1) := by decide +kernel
theorem dX5_copyFrom_97 : decode cX5_copyFrom 97 = .ok (.getfield 57, 3) := by decide +kernel
theorem dX5_copyFrom_100 : decode cX5_copyFrom 100 = .ok (.putfield 57, 3) := by decide +kernel
theorem dX5_copyFrom_103 : decode cX5_copyFrom 103 = .ok (.aload_n 0, 1) := by decide +kernel
theorem dX5_copyFrom_104 : decode cX5_copyFrom 104 = .ok (.aload_n 1, 1) := by decide +kernel
theorem dX5_copyFrom_105 : decode cX5_copyFrom 105 = .ok (.getfield 60, 3) := by decide +kernel
theorem dX5_copyFrom_108 : decode cX5_copyFrom 108 = .ok (.putfield 60, 3) := by decide +kernel
theorem dX5_copyFrom_111 : decode cX5_copyFrom 111 = .ok (.aload_n 0, 1) := by decide +kernel
theorem dX5_copyFrom_112 : decode cX5_copyFrom 112 = .ok (.aload_n 1, 1) := by decide +kernel
theorem dX5_copyFrom_113 : decode cX5_copyFrom 113 = .ok (.getfield 30, 3) := by decide +kernel
theorem dX5_copyFrom_116 : decode cX5_copyFrom 116 = .ok (.putfield 30, 3) := by decide +kernel
theorem dX5_copyFrom_119 : decode cX5_copyFrom 119 = .ok (.aload_n 0, 1) := by decide +kernel
theorem dX5_copyFrom_120 : decode cX5_copyFrom 120 = .ok (.aload_n 1, 1) := by decide +kernel
theorem dX5_copyFrom_121 : decode cX5_copyFrom 121 = .ok (.getfield 63, 3) := by decide +kernel
theorem dX5_copyFrom_124 : decode cX5_copyFrom 124 = .ok (.putfield 63, 3) := by decide +kernel
theorem dX5_copyFrom_127 : decode cX5_copyFrom 127 = .ok (.aload_n 0, 1) := by decide +kernel
theorem dX5_copyFrom_128 : decode cX5_copyFrom 128 = .ok (.aload_n 1, 1) := by decide +kernel
theorem dX5_copyFrom_129 : decode cX5_copyFrom 129 = .ok (.getfield 66, 3) := by decide +kernel
theorem dX5_copyFrom_132 : decode cX5_copyFrom 132 = .ok (.putfield 66, 3) := by decide +kernel
theorem dX5_copyFrom_135 : decode cX5_copyFrom 135 = .ok (.aload_n 0, 1) := by decide +kernel
theorem dX5_copyFrom_136 : decode cX5_copyFrom 136 = .ok (.aload_n 1, 1) := by decide +kernel
theorem dX5_copyFrom_137 : decode cX5_copyFrom 137 = .ok (.getfield 69, 3) := by decide +kernel
theorem dX5_copyFrom_140 : decode cX5_copyFrom 140 = .ok (.putfield 69, 3) := by decide +kernel
theorem dX5_copyFrom_143 : decode cX5_copyFrom 143 = .ok (.return_, 1) := by decide +kernel
theorem dX5_bridgeOf_0 : decode cX5_bridgeOf 0 = .ok (.iload_n 1, 1) := by decide +kernel
theorem dX5_bridgeOf_1 : decode cX5_bridgeOf 1 = .ok (.aload_n 0, 1) := by decide +kernel
theorem dX5_bridgeOf_2 : decode cX5_bridgeOf 2 = .ok (.getfield 57, 3) := by decide +kernel
theorem dX5_bridgeOf_5 : decode cX5_bridgeOf 5 = .ok (.invokestatic 72, 3) := by decide +kernel
theorem dX5_bridgeOf_8 : decode cX5_bridgeOf 8 = .ok (.ifCond .eq 12, 3) := by decide +kernel
theorem dX5_bridgeOf_11 : decode cX5_bridgeOf 11 = .ok (.aload_n 0, 1) := by decide +kernel
theorem dX5_bridgeOf_12 : decode cX5_bridgeOf 12 = .ok (.getfield 17, 3) := by decide +kernel
theorem dX5_bridgeOf_15 : decode cX5_bridgeOf 15 = .ok (.iload_n 1, 1) := by decide +kernel
theorem dX5_bridgeOf_16 : decode cX5_bridgeOf 16 = .ok (.aaload, 1) := by decide +kernel
theorem dX5_bridgeOf_17 : decode cX5_bridgeOf 17 = .ok (.goto 4, 3) := by decide +kernel
theorem dX5_bridgeOf_20 : decode cX5_bridgeOf 20 = .ok (.aconst_null, 1) := by decide +kernel
theorem dX5_bridgeOf_21 : decode cX5_bridgeOf 21 = .ok (.areturn, 1) := by decide +kernel
theorem dX5_cartOf_0 : decode cX5_cartOf 0 = .ok (.iload_n 1, 1) := by decide +kernel
theorem dX5_cartOf_1 : decode cX5_cartOf 1 = .ok (.aload_n 0, 1) := by decide +kernel
theorem dX5_cartOf_2 : decode cX5_cartOf 2 = .ok (.getfield 60, 3) := by decide +kernel
theorem dX5_cartOf_5 : decode cX5_cartOf 5 = .ok (.invokestatic 72, 3) := by decide +kernel
theorem dX5_cartOf_8 : decode cX5_cartOf 8 = .ok (.ifCond .eq 12, 3) := by decide +kernel
theorem dX5_cartOf_11 : decode cX5_cartOf 11 = .ok (.aload_n 0, 1) := by decide +kernel
theorem dX5_cartOf_12 : decode cX5_cartOf 12 = .ok (.getfield 23, 3) := by decide +kernel
theorem dX5_cartOf_15 : decode cX5_cartOf 15 = .ok (.iload_n 1, 1) := by decide +kernel
theorem dX5_cartOf_16 : decode cX5_cartOf 16 = .ok (.aaload, 1) := by decide +kernel
theorem dX5_cartOf_17 : decode cX5_cartOf 17 = .ok (.goto 4, 3) := by decide +kernel
theorem dX5_cartOf_20 : decode cX5_cartOf 20 = .ok (.aconst_null, 1) := by decide +kernel
theorem dX5_cartOf_21 : decode cX5_cartOf 21 = .ok (.areturn, 1) := by decide +kernel
theorem dX5_changeSetting_0 : decode cX5_changeSetting 0 = .ok (.iload_n 1, 1) := by decide +kernel
theorem dX5_changeSetting_1 : decode cX5_changeSetting 1 = .ok (.iconst 4, 1) := by decide +kernel
theorem dX5_changeSetting_2 : decode cX5_changeSetting 2 = .ok (.invokestatic 72, 3) := by decide +kernel
theorem dX5_changeSetting_5 : decode cX5_changeSetting 5 = .ok (.ifCond .eq 21, 3) := by decide +kernel
theorem dX5_changeSetting_8 : decode cX5_changeSetting 8 = .ok (.iload_n 2, 1) := by decide +kernel
theorem dX5_changeSetting_9 : decode cX5_changeSetting 9 = .ok (.getstatic 76, 3) := by decide +kernel
theorem dX5_changeSetting_12 : decode cX5_changeSetting 12 = .ok (.iload_n 1, 1) := by decide +kernel
theorem dX5_changeSetting_13 : decode cX5_changeSetting 13 = .ok (.iaload, 1) := by decide +kernel
theorem dX5_changeSetting_14 : decode cX5_changeSetting 14 = .ok (.if_icmp .lt 12, 3) := by decide +kernel
theorem dX5_changeSetting_17 : decode cX5_changeSetting 17 = .ok (.iload_n 2, 1) := by decide +kernel
theorem dX5_changeSetting_18 : decode cX5_changeSetting 18 = .ok (.getstatic 79, 3) := by decide +kernel
theorem dX5_changeSetting_21 : decode cX5_changeSetting 21 = .ok (.iload_n 1, 1) := by decide +kernel
theorem dX5_changeSetting_22 : decode cX5_changeSetting 22 = .ok (.iaload, 1) := by decide +kernel
theorem dX5_changeSetting_23 : decode cX5_changeSetting 23 = .ok (.if_icmp .le 6, 3) := by decide +kernel
theorem dX5_changeSetting_26 : decode cX5_changeSetting 26 = .ok (.bipush (-2), 2) := by decide +kernel
theorem dX5_changeSetting_28 : decode cX5_changeSetting 28 = .ok (.ireturn, 1) := by decide +kernel
theorem dX5_changeSetting_29 : decode cX5_changeSetting 29 = .ok (.aload_n 0, 1) := by decide +kernel
theorem dX5_changeSetting_30 : decode cX5_changeSetting 30 = .ok (.getfield 9, 3) := by decide +kernel
theorem dX5_changeSetting_33 : decode cX5_changeSetting 33 = .ok (.iload_n 1, 1) := by decide +kernel
theorem dX5_changeSetting_34 : decode cX5_changeSetting 34 = .ok (.iaload, 1) := by decide +kernel
theorem dX5_changeSetting_35 : decode cX5_changeSetting 35 = .ok (.istore_n 3, 1) := by decide +kernel
theorem dX5_changeSetting_36 : decode cX5_changeSetting 36 = .ok (.aload_n 0, 1) := by decide +kernel
theorem dX5_changeSetting_37 : decode cX5_changeSetting 37 = .ok (.getfield 9, 3) := by decide +kernel
theorem dX5_changeSetting_40 : decode cX5_changeSetting 40 = .ok (.iload_n 1, 1) := by decide +kernel
theorem dX5_changeSetting_41 : decode cX5_changeSetting 41 = .ok (.iload_n 2, 1) := by decide +kernel
theorem dX5_changeSetting_42 : decode cX5_changeSetting 42 = .ok (.iastore, 1) := by decide +kernel
theorem dX5_changeSetting_43 : decode cX5_changeSetting 43 = .ok (.iload_n 3, 1) := by decide +kernel
theorem dX5_changeSetting_44 : decode cX5_changeSetting 44 = .ok (.ireturn, 1) := by decide +kernel
theorem dX5_addBridge_0 : decode cX5_addBridge 0 = .ok (.iload_n 1, 1) := by decide +kernel
theorem dX5_addBridge_1 : decode cX5_addBridge 1 = .ok (.bipush 8, 2) := by decide +kernel
theorem dX5_addBridge_3 : decode cX5_addBridge 3 = .ok (.invokestatic 72, 3) := by decide +kernel
theorem dX5_addBridge_6 : decode cX5_addBridge 6 = .ok (.ifCond .eq 12, 3) := by decide +kernel
theorem dX5_addBridge_9 : decode cX5_addBridge 9 = .ok (.iload_n 2, 1) := by decide +kernel
theorem dX5_addBridge_10 : decode cX5_addBridge 10 = .ok (.bipush 8, 2) := by decide +kernel
theorem dX5_addBridge_12 : decode cX5_addBridge 12 = .ok (.invokestatic 72, 3) := by decide +kernel
theorem dX5_addBridge_15 : decode cX5_addBridge 15 = .ok (.ifCond .ne 5, 3) := by decide +kernel
theorem dX5_addBridge_18 : decode cX5_addBridge 18 = .ok (.iconst (-1), 1) := by decide +kernel
theorem dX5_addBridge_19 : decode cX5_addBridge 19 = .ok (.ireturn, 1) := by decide +kernel
theorem dX5_addBridge_20 : decode cX5_addBridge 20 = .ok (.iload_n 1, 1) := by decide +kernel
theorem dX5_addBridge_21 : decode cX5_addBridge 21 = .ok (.iload_n 2, 1) := by decide +kernel
theorem dX5_addBridge_22 : decode cX5_addBridge 22 = .ok (.if_icmp .eq 15, 3) := by decide +kernel
theorem dX5_addBridge_25 : decode cX5_addBridge 25 = .ok (.iload_n 3, 1) := by decide +kernel
theorem dX5_addBridge_26 : decode cX5_addBridge 26 = .ok (.iconst 2, 1) := by decide +kernel
theorem dX5_addBridge_27 : decode cX5_addBridge 27 = .ok (.if_icmp .lt 10, 3) := by decide +kernel
theorem dX5_addBridge_30 : decode cX5_addBridge 30 = .ok (.iload_n 3, 1) := by decide +kernel
theorem dX5_addBridge_31 : decode cX5_addBridge 31 = .ok (.sipush 1000, 3) := by decide +kernel
theorem dX5_addBridge_34 : decode cX5_addBridge 34 = .ok (.if_icmp .le 6, 3) := by decide +kernel
theorem dX5_addBridge_37 : decode cX5_addBridge 37 = .ok (.bipush (-2), 2) := by decide +kernel
theorem dX5_addBridge_39 : decode cX5_addBridge 39 = .ok (.ireturn, 1) := by decide +kernel
theorem dX5_addBridge_40 : decode cX5_addBridge 40 = .ok (.aload_n 0, 1) := by decide +kernel
theorem dX5_addBridge_41 : decode cX5_addBridge 41 = .ok (.getfield 57, 3) := by decide +kernel
theorem dX5_addBridge_44 : decode cX5_addBridge 44 = .ok (.bipush 12, 2) := by decide +kernel
theorem dX5_addBridge_46 : decode cX5_addBridge 46 = .ok (.if_icmp .lt 6, 3) := by decide +kernel
theorem dX5_addBridge_49 : decode cX5_addBridge 49 = .ok (.bipush (-4), 2) := by decide +kernel
theorem dX5_addBridge_51 : decode cX5_addBridge 51 = .ok (.ireturn, 1) := by decide +kernel
theorem dX5_addBridge_52 : decode cX5_addBridge 52 = .ok (.aload_n 0, 1) := by decide +kernel
theorem dX5_addBridge_53 : decode cX5_addBridge 53 = .ok (.getfield 17, 3) := by decide +kernel
theorem dX5_addBridge_56 : decode cX5_addBridge 56 = .ok (.aload_n 0, 1) := by decide +kernel
theorem dX5_addBridge_57 : decode cX5_addBridge 57 = .ok (.getfield 57, 3) := by decide +kernel
theorem dX5_addBridge_60 : decode cX5_addBridge 60 = .ok (.aaload, 1) := by decide +kernel
theorem dX5_addBridge_61 : decode cX5_addBridge 61 = .ok (.astore 4, 2) := by decide +kernel
theorem dX5_addBridge_63 : decode cX5_addBridge 63 = .ok (.aload 4, 2) := by decide +kernel
theorem dX5_addBridge_65 : decode cX5_addBridge 65 = .ok (.iload_n 1, 1) := by decide +kernel
theorem dX5_addBridge_66 : decode cX5_addBridge 66 = .ok (.putfield 82, 3) := by decide +kernel
theorem dX5_addBridge_69 : decode cX5_addBridge 69 = .ok (.aload 4, 2) := by decide +kernel
theorem dX5_addBridge_71 : decode cX5_addBridge 71 = .ok (.iload_n 2, 1) := by decide +kernel
theorem dX5_addBridge_72 : decode cX5_addBridge 72 = .ok (.putfield 85, 3) := by decide +kernel
theorem dX5_addBridge_75 : decode cX5_addBridge 75 = .ok (.aload 4, 2) := by decide +kernel
theorem dX5_addBridge_77 : decode cX5_addBridge 77 = .ok (.iload_n 3, 1) := by decide +kernel
theorem dX5_addBridge_78 : decode cX5_addBridge 78 = .ok (.putfield 88, 3) := by decide +kernel
theorem dX5_addBridge_81 : decode cX5_addBridge 81 = .ok (.aload_n 0, 1) := by decide +kernel
theorem dX5_addBridge_82 : decode cX5_addBridge 82 = .ok (.aload 4, 2) := by decide +kernel
theorem dX5_addBridge_84 : decode cX5_addBridge 84 = .ok (.invokevirtual 91, 3) := by decide +kernel
theorem dX5_addBridge_87 : decode cX5_addBridge 87 = .ok (.aload_n 0, 1) := by decide +kernel
theorem dX5_addBridge_88 : decode cX5_addBridge 88 = .ok (.dup, 1) := by decide +kernel
theorem dX5_addBridge_89 : decode cX5_addBridge 89 = .ok (.getfield 57, 3) := by decide +kernel
theorem dX5_addBridge_92 : decode cX5_addBridge 92 = .ok (.iconst 1, 1) := by decide +kernel
theorem dX5_addBridge_93 : decode cX5_addBridge 93 = .ok (.iadd, 1) := by decide +kernel
theorem dX5_addBridge_94 : decode cX5_addBridge 94 = .ok (.putfield 57, 3) := by decide +kernel
theorem dX5_addBridge_97 : decode cX5_addBridge 97 = .ok (.aload 4, 2) := by decide +kernel
theorem dX5_addBridge_99 : decode cX5_addBridge 99 = .ok (.getfield 94, 3) := by decide +kernel
theorem dX5_addBridge_102 : decode cX5_addBridge 102 = .ok (.ireturn, 1) := by decide +kernel
theorem dX5_addCart_0 : decode cX5_addCart 0 = .ok (.iload_n 1, 1) := by decide +kernel
theorem dX5_addCart_1 : decode cX5_addCart 1 = .ok (.bipush 8, 2) := by decide +kernel
theorem dX5_addCart_3 : decode cX5_addCart 3 = .ok (.invokestatic 72, 3) := by decide +kernel
theorem dX5_addCart_6 : decode cX5_addCart 6 = .ok (.ifCond .ne 5, 3) := by decide +kernel
theorem dX5_addCart_9 : decode cX5_addCart 9 = .ok (.iconst (-1), 1) := by decide +kernel
theorem dX5_addCart_10 : decode cX5_addCart 10 = .ok (.ireturn, 1) := by decide +kernel
theorem dX5_addCart_11 : decode cX5_addCart 11 = .ok (.iload_n 2, 1) := by decide +kernel
theorem dX5_addCart_12 : decode cX5_addCart 12 = .ok (.ifCond .lt 10, 3) := by decide +kernel
theorem dX5_addCart_15 : decode cX5_addCart 15 = .ok (.iload_n 2, 1) := by decide +kernel
theorem dX5_addCart_16 : decode cX5_addCart 16 = .ok (.sipush 9999, 3) := by decide +kernel
theorem dX5_addCart_19 : decode cX5_addCart 19 = .ok (.if_icmp .le 6, 3) := by decide +kernel
theorem dX5_addCart_22 : decode cX5_addCart 22 = .ok (.bipush (-2), 2) := by decide +kernel
theorem dX5_addCart_24 : decode cX5_addCart 24 = .ok (.ireturn, 1) := by decide +kernel
theorem dX5_addCart_25 : decode cX5_addCart 25 = .ok (.aload_n 0, 1) := by decide +kernel
theorem dX5_addCart_26 : decode cX5_addCart 26 = .ok (.getfield 60, 3) := by decide +kernel
theorem dX5_addCart_29 : decode cX5_addCart 29 = .ok (.bipush 8, 2) := by decide +kernel
theorem dX5_addCart_31 : decode cX5_addCart 31 = .ok (.if_icmp .lt 6, 3) := by decide +kernel
theorem dX5_addCart_34 : decode cX5_addCart 34 = .ok (.bipush (-4), 2) := by decide +kernel
theorem dX5_addCart_36 : decode cX5_addCart 36 = .ok (.ireturn, 1) := by decide +kernel
theorem dX5_addCart_37 : decode cX5_addCart 37 = .ok (.aload_n 0, 1) := by decide +kernel
theorem dX5_addCart_38 : decode cX5_addCart 38 = .ok (.getfield 23, 3) := by decide +kernel
theorem dX5_addCart_41 : decode cX5_addCart 41 = .ok (.aload_n 0, 1) := by decide +kernel
theorem dX5_addCart_42 : decode cX5_addCart 42 = .ok (.getfield 60, 3) := by decide +kernel
theorem dX5_addCart_45 : decode cX5_addCart 45 = .ok (.aaload, 1) := by decide +kernel
theorem dX5_addCart_46 : decode cX5_addCart 46 = .ok (.astore_n 3, 1) := by decide +kernel
theorem dX5_addCart_47 : decode cX5_addCart 47 = .ok (.aload_n 3, 1) := by decide +kernel
theorem dX5_addCart_48 : decode cX5_addCart 48 = .ok (.iload_n 1, 1) := by decide +kernel
theorem dX5_addCart_49 : decode cX5_addCart 49 = .ok (.putfield 97, 3) := by decide +kernel
theorem dX5_addCart_52 : decode cX5_addCart 52 = .ok (.aload_n 3, 1) := by decide +kernel
theorem dX5_addCart_53 : decode cX5_addCart 53 = .ok (.iload_n 2, 1) := by decide +kernel
theorem dX5_addCart_54 : decode cX5_addCart 54 = .ok (.putfield 98, 3) := by decide +kernel
theorem dX5_addCart_57 : decode cX5_addCart 57 = .ok (.aload_n 0, 1) := by decide +kernel
theorem dX5_addCart_58 : decode cX5_addCart 58 = .ok (.dup, 1) := by decide +kernel
theorem dX5_addCart_59 : decode cX5_addCart 59 = .ok (.getfield 66, 3) := by decide +kernel
theorem dX5_addCart_62 : decode cX5_addCart 62 = .ok (.iload_n 2, 1) := by decide +kernel
theorem dX5_addCart_63 : decode cX5_addCart 63 = .ok (.iadd, 1) := by decide +kernel
theorem dX5_addCart_64 : decode cX5_addCart 64 = .ok (.putfield 66, 3) := by decide +kernel
theorem dX5_addCart_67 : decode cX5_addCart 67 = .ok (.aload_n 0, 1) := by decide +kernel
theorem dX5_addCart_68 : decode cX5_addCart 68 = .ok (.dup, 1) := by decide +kernel
theorem dX5_addCart_69 : decode cX5_addCart 69 = .ok (.getfield 60, 3) := by decide +kernel
theorem dX5_addCart_72 : decode cX5_addCart 72 = .ok (.iconst 1, 1) := by decide +kernel
theorem dX5_addCart_73 : decode cX5_addCart 73 = .ok (.iadd, 1) := by decide +kernel
theorem dX5_addCart_74 : decode cX5_addCart 74 = .ok (.putfield 60, 3) := by decide +kernel
theorem dX5_addCart_77 : decode cX5_addCart 77 = .ok (.aload_n 3, 1) := by decide +kernel
theorem dX5_addCart_78 : decode cX5_addCart 78 = .ok (.getfield 101, 3) := by decide +kernel
theorem dX5_addCart_81 : decode cX5_addCart 81 = .ok (.ireturn, 1) := by decide +kernel
theorem dX5_comeToWait_0 : decode cX5_comeToWait 0 = .ok (.aload_n 0, 1) := by decide +kernel
theorem dX5_comeToWait_1 : decode cX5_comeToWait 1 = .ok (.iload_n 1, 1) := by decide +kernel
theorem dX5_comeToWait_2 : decode cX5_comeToWait 2 = .ok (.invokevirtual 102, 3) := by decide +kernel
theorem dX5_comeToWait_5 : decode cX5_comeToWait 5 = .ok (.astore 4, 2) := by decide +kernel
theorem dX5_comeToWait_7 : decode cX5_comeToWait 7 = .ok (.aload_n 0, 1) := by decide +kernel
theorem dX5_comeToWait_8 : decode cX5_comeToWait 8 = .ok (.iload_n 2, 1) := by decide +kernel
theorem dX5_comeToWait_9 : decode cX5_comeToWait 9 = .ok (.invokevirtual 106, 3) := by decide +kernel
theorem dX5_comeToWait_12 : decode cX5_comeToWait 12 = .ok (.astore 5, 2) := by decide +kernel
theorem dX5_comeToWait_14 : decode cX5_comeToWait 14 = .ok (.aload 4, 2) := by decide +kernel
theorem dX5_comeToWait_16 : decode cX5_comeToWait 16 = .ok (.ifnull 8, 3) := by decide +kernel
theorem dX5_comeToWait_19 : decode cX5_comeToWait 19 = .ok (.aload 5, 2) := by decide +kernel
theorem dX5_comeToWait_21 : decode cX5_comeToWait 21 = .ok (.ifnonnull 5, 3) := by decide +kernel
theorem dX5_comeToWait_24 : decode cX5_comeToWait 24 = .ok (.iconst (-1), 1) := by decide +kernel
theorem dX5_comeToWait_25 : decode cX5_comeToWait 25 = .ok (.ireturn, 1) := by decide +kernel
theorem dX5_comeToWait_26 : decode cX5_comeToWait 26 = .ok (.iload_n 3, 1) := by decide +kernel
theorem dX5_comeToWait_27 : decode cX5_comeToWait 27 = .ok (.aload 5, 2) := by decide +kernel
theorem dX5_comeToWait_29 : decode cX5_comeToWait 29 = .ok (.getfield 88, 3) := by decide +kernel
theorem dX5_comeToWait_32 : decode cX5_comeToWait 32 = .ok (.invokestatic 72, 3) := by decide +kernel
theorem dX5_comeToWait_35 : decode cX5_comeToWait 35 = .ok (.ifCond .ne 6, 3) := by decide +kernel
theorem dX5_comeToWait_38 : decode cX5_comeToWait 38 = .ok (.bipush (-2), 2) := by decide +kernel
theorem dX5_comeToWait_40 : decode cX5_comeToWait 40 = .ok (.ireturn, 1) := by decide +kernel
theorem dX5_comeToWait_41 : decode cX5_comeToWait 41 = .ok (.aload 4, 2) := by decide +kernel
theorem dX5_comeToWait_43 : decode cX5_comeToWait 43 = .ok (.invokevirtual 110, 3) := by decide +kernel
theorem dX5_comeToWait_46 : decode cX5_comeToWait 46 = .ok (.ifCond .ne 25, 3) := by decide +kernel
theorem dX5_comeToWait_49 : decode cX5_comeToWait 49 = .ok (.aload 5, 2) := by decide +kernel
theorem dX5_comeToWait_51 : decode cX5_comeToWait 51 = .ok (.aload 4, 2) := by decide +kernel
theorem dX5_comeToWait_53 : decode cX5_comeToWait 53 = .ok (.getfield 97, 3) := by decide +kernel
theorem dX5_comeToWait_56 : decode cX5_comeToWait 56 = .ok (.invokevirtual 114, 3) := by decide +kernel
theorem dX5_comeToWait_59 : decode cX5_comeToWait 59 = .ok (.ifCond .eq 12, 3) := by decide +kernel
theorem dX5_comeToWait_62 : decode cX5_comeToWait 62 = .ok (.aload_n 0, 1) := by decide +kernel
theorem dX5_comeToWait_63 : decode cX5_comeToWait 63 = .ok (.getfield 54, 3) := by decide +kernel
theorem dX5_comeToWait_66 : decode cX5_comeToWait 66 = .ok (.bipush 8, 2) := by decide +kernel
theorem dX5_comeToWait_68 : decode cX5_comeToWait 68 = .ok (.if_icmp .lt 6, 3) := by decide +kernel
theorem dX5_comeToWait_71 : decode cX5_comeToWait 71 = .ok (.bipush (-5), 2) := by decide +kernel
theorem dX5_comeToWait_73 : decode cX5_comeToWait 73 = .ok (.ireturn, 1) := by decide +kernel
theorem dX5_comeToWait_74 : decode cX5_comeToWait 74 = .ok (.aload_n 0, 1) := by decide +kernel
theorem dX5_comeToWait_75 : decode cX5_comeToWait 75 = .ok (.getfield 27, 3) := by decide +kernel
theorem dX5_comeToWait_78 : decode cX5_comeToWait 78 = .ok (.aload_n 0, 1) := by decide +kernel
theorem dX5_comeToWait_79 : decode cX5_comeToWait 79 = .ok (.getfield 54, 3) := by decide +kernel
theorem dX5_comeToWait_82 : decode cX5_comeToWait 82 = .ok (.iload_n 1, 1) := by decide +kernel
theorem dX5_comeToWait_83 : decode cX5_comeToWait 83 = .ok (.iastore, 1) := by decide +kernel
theorem dX5_comeToWait_84 : decode cX5_comeToWait 84 = .ok (.aload_n 0, 1) := by decide +kernel
theorem dX5_comeToWait_85 : decode cX5_comeToWait 85 = .ok (.dup, 1) := by decide +kernel
theorem dX5_comeToWait_86 : decode cX5_comeToWait 86 = .ok (.getfield 54, 3) := by decide +kernel
theorem dX5_comeToWait_89 : decode cX5_comeToWait 89 = .ok (.iconst 1, 1) := by decide +kernel
theorem dX5_comeToWait_90 : decode cX5_comeToWait 90 = .ok (.iadd, 1) := by decide +kernel
theorem dX5_comeToWait_91 : decode cX5_comeToWait 91 = .ok (.putfield 54, 3) := by decide +kernel
theorem dX5_comeToWait_94 : decode cX5_comeToWait 94 = .ok (.aload 4, 2) := by decide +kernel
theorem dX5_comeToWait_96 : decode cX5_comeToWait 96 = .ok (.iload_n 2, 1) := by decide +kernel
theorem dX5_comeToWait_97 : decode cX5_comeToWait 97 = .ok (.putfield 118, 3) := by decide +kernel
theorem dX5_comeToWait_100 : decode cX5_comeToWait 100 = .ok (.aload 4, 2) := by decide +kernel
theorem dX5_comeToWait_102 : decode cX5_comeToWait 102 = .ok (.iload_n 3, 1) := by decide +kernel
theorem dX5_comeToWait_103 : decode cX5_comeToWait 103 = .ok (.putfield 121, 3) := by decide +kernel
theorem dX5_comeToWait_106 : decode cX5_comeToWait 106 = .ok (.aload 5, 2) := by decide +kernel
theorem dX5_comeToWait_108 : decode cX5_comeToWait 108 = .ok (.dup, 1) := by decide +kernel
theorem dX5_comeToWait_109 : decode cX5_comeToWait 109 = .ok (.getfield 124, 3) := by decide +kernel
theorem dX5_comeToWait_112 : decode cX5_comeToWait 112 = .ok (.iconst 1, 1) := by decide +kernel
theorem dX5_comeToWait_113 : decode cX5_comeToWait 113 = .ok (.iadd, 1) := by decide +kernel
theorem dX5_comeToWait_114 : decode cX5_comeToWait 114 = .ok (.putfield 124, 3) := by decide +kernel
theorem dX5_comeToWait_117 : decode cX5_comeToWait 117 = .ok (.aload 5, 2) := by decide +kernel
theorem dX5_comeToWait_119 : decode cX5_comeToWait 119 = .ok (.getfield 124, 3) := by decide +kernel
theorem dX5_comeToWait_122 : decode cX5_comeToWait 122 = .ok (.ireturn, 1) := by decide +kernel
theorem dX5_stopWaiting_0 : decode cX5_stopWaiting 0 = .ok (.aload_n 0, 1) := by decide +kernel
theorem dX5_stopWaiting_1 : decode cX5_stopWaiting 1 = .ok (.iload_n 1, 1) := by decide +kernel
theorem dX5_stopWaiting_2 : decode cX5_stopWaiting 2 = .ok (.invokevirtual 102, 3) := by decide +kernel
theorem dX5_stopWaiting_5 : decode cX5_stopWaiting 5 = .ok (.astore_n 2, 1) := by decide +kernel
theorem dX5_stopWaiting_6 : decode cX5_stopWaiting 6 = .ok (.aload_n 2, 1) := by decide +kernel
theorem dX5_stopWaiting_7 : decode cX5_stopWaiting 7 = .ok (.ifnonnull 5, 3) := by decide +kernel
theorem dX5_stopWaiting_10 : decode cX5_stopWaiting 10 = .ok (.iconst (-1), 1) := by decide +kernel
theorem dX5_stopWaiting_11 : decode cX5_stopWaiting 11 = .ok (.ireturn, 1) := by decide +kernel
theorem dX5_stopWaiting_12 : decode cX5_stopWaiting 12 = .ok (.aload_n 0, 1) := by decide +kernel
theorem dX5_stopWaiting_13 : decode cX5_stopWaiting 13 = .ok (.aload_n 2, 1) := by decide +kernel
theorem dX5_stopWaiting_14 : decode cX5_stopWaiting 14 = .ok (.getfield 118, 3) := by decide +kernel
theorem dX5_stopWaiting_17 : decode cX5_stopWaiting 17 = .ok (.invokevirtual 106, 3) := by decide +kernel
theorem dX5_stopWaiting_20 : decode cX5_stopWaiting 20 = .ok (.astore_n 3, 1) := by decide +kernel
theorem dX5_stopWaiting_21 : decode cX5_stopWaiting 21 = .ok (.aload_n 3, 1) := by decide +kernel
theorem dX5_stopWaiting_22 : decode cX5_stopWaiting 22 = .ok (.ifnonnull 6, 3) := by decide +kernel
theorem dX5_stopWaiting_25 : decode cX5_stopWaiting 25 = .ok (.bipush (-5), 2) := by decide +kernel
theorem dX5_stopWaiting_27 : decode cX5_stopWaiting 27 = .ok (.ireturn, 1) := by decide +kernel
theorem dX5_stopWaiting_28 : decode cX5_stopWaiting 28 = .ok (.aload_n 0, 1) := by decide +kernel
theorem dX5_stopWaiting_29 : decode cX5_stopWaiting 29 = .ok (.aload_n 2, 1) := by decide +kernel
theorem dX5_stopWaiting_30 : decode cX5_stopWaiting 30 = .ok (.aload_n 3, 1) := by decide +kernel
theorem dX5_stopWaiting_31 : decode cX5_stopWaiting 31 = .ok (.invokevirtual 127, 3) := by decide +kernel
theorem dX5_stopWaiting_34 : decode cX5_stopWaiting 34 = .ok (.aload_n 3, 1) := by decide +kernel
theorem dX5_stopWaiting_35 : decode cX5_stopWaiting 35 = .ok (.getfield 94, 3) := by decide +kernel
theorem dX5_stopWaiting_38 : decode cX5_stopWaiting 38 = .ok (.ireturn, 1) := by decide +kernel
theorem dX5_buyHint_0 : decode cX5_buyHint 0 = .ok (.aload_n 0, 1) := by decide +kernel
theorem dX5_buyHint_1 : decode cX5_buyHint 1 = .ok (.iload_n 1, 1) := by decide +kernel
theorem dX5_buyHint_2 : decode cX5_buyHint 2 = .ok (.invokevirtual 102, 3) := by decide +kernel
theorem dX5_buyHint_5 : decode cX5_buyHint 5 = .ok (.astore_n 3, 1) := by decide +kernel
theorem dX5_buyHint_6 : decode cX5_buyHint 6 = .ok (.aload_n 0, 1) := by decide +kernel
theorem dX5_buyHint_7 : decode cX5_buyHint 7 = .ok (.iload_n 2, 1) := by decide +kernel
theorem dX5_buyHint_8 : decode cX5_buyHint 8 = .ok (.invokevirtual 106, 3) := by decide +kernel
theorem dX5_buyHint_11 : decode cX5_buyHint 11 = .ok (.astore 4, 2) := by decide +kernel
theorem dX5_buyHint_13 : decode cX5_buyHint 13 = .ok (.aload_n 3, 1) := by decide +kernel
theorem dX5_buyHint_14 : decode cX5_buyHint 14 = .ok (.ifnull 8, 3) := by decide +kernel
theorem dX5_buyHint_17 : decode cX5_buyHint 17 = .ok (.aload 4, 2) := by decide +kernel
theorem dX5_buyHint_19 : decode cX5_buyHint 19 = .ok (.ifnonnull 5, 3) := by decide +kernel
theorem dX5_buyHint_22 : decode cX5_buyHint 22 = .ok (.iconst (-1), 1) := by decide +kernel
theorem dX5_buyHint_23 : decode cX5_buyHint 23 = .ok (.ireturn, 1) := by decide +kernel
theorem dX5_buyHint_24 : decode cX5_buyHint 24 = .ok (.aload_n 0, 1) := by decide +kernel
theorem dX5_buyHint_25 : decode cX5_buyHint 25 = .ok (.getfield 9, 3) := by decide +kernel
theorem dX5_buyHint_28 : decode cX5_buyHint 28 = .ok (.iconst 1, 1) := by decide +kernel
theorem dX5_buyHint_29 : decode cX5_buyHint 29 = .ok (.iaload, 1) := by decide +kernel
theorem dX5_buyHint_30 : decode cX5_buyHint 30 = .ok (.istore 5, 2) := by decide +kernel
theorem dX5_buyHint_32 : decode cX5_buyHint 32 = .ok (.aload 4, 2) := by decide +kernel
theorem dX5_buyHint_34 : decode cX5_buyHint 34 = .ok (.aload_n 3, 1) := by decide +kernel
theorem dX5_buyHint_35 : decode cX5_buyHint 35 = .ok (.getfield 97, 3) := by decide +kernel
theorem dX5_buyHint_38 : decode cX5_buyHint 38 = .ok (.invokevirtual 114, 3) := by decide +kernel
theorem dX5_buyHint_41 : decode cX5_buyHint 41 = .ok (.ifCond .eq 22, 3) := by decide +kernel
theorem dX5_buyHint_44 : decode cX5_buyHint 44 = .ok (.aload_n 3, 1) := by decide +kernel
theorem dX5_buyHint_45 : decode cX5_buyHint 45 = .ok (.getfield 98, 3) := by decide +kernel
theorem dX5_buyHint_48 : decode cX5_buyHint 48 = .ok (.iload 5, 2) := by decide +kernel
theorem dX5_buyHint_50 : decode cX5_buyHint 50 = .ok (.if_icmp .lt 13, 3) := by decide +kernel
theorem dX5_buyHint_53 : decode cX5_buyHint 53 = .ok (.aload_n 3, 1) := by decide +kernel
theorem dX5_buyHint_54 : decode cX5_buyHint 54 = .ok (.aload 4, 2) := by decide +kernel
theorem dX5_buyHint_56 : decode cX5_buyHint 56 = .ok (.invokevirtual 131, 3) := by decide +kernel
theorem dX5_buyHint_59 : decode cX5_buyHint 59 = .ok (.iconst 1, 1) := by decide +kernel
theorem dX5_buyHint_60 : decode cX5_buyHint 60 = .ok (.if_icmp .ne 6, 3) := by decide +kernel
theorem dX5_buyHint_63 : decode cX5_buyHint 63 = .ok (.bipush (-5), 2) := by decide +kernel
theorem dX5_buyHint_65 : decode cX5_buyHint 65 = .ok (.ireturn, 1) := by decide +kernel
theorem dX5_buyHint_66 : decode cX5_buyHint 66 = .ok (.aload_n 3, 1) := by decide +kernel
theorem dX5_buyHint_67 : decode cX5_buyHint 67 = .ok (.iload 5, 2) := by decide +kernel
theorem dX5_buyHint_69 : decode cX5_buyHint 69 = .ok (.aload 4, 2) := by decide +kernel
theorem dX5_buyHint_71 : decode cX5_buyHint 71 = .ok (.invokevirtual 135, 3) := by decide +kernel
theorem dX5_buyHint_74 : decode cX5_buyHint 74 = .ok (.aload_n 3, 1) := by decide +kernel
theorem dX5_buyHint_75 : decode cX5_buyHint 75 = .ok (.aload 4, 2) := by decide +kernel
theorem dX5_buyHint_77 : decode cX5_buyHint 77 = .ok (.invokevirtual 139, 3) := by decide +kernel
theorem dX5_buyHint_80 : decode cX5_buyHint 80 = .ok (.aload_n 0, 1) := by decide +kernel
theorem dX5_buyHint_81 : decode cX5_buyHint 81 = .ok (.dup, 1) := by decide +kernel
theorem dX5_buyHint_82 : decode cX5_buyHint 82 = .ok (.getfield 69, 3) := by decide +kernel
theorem dX5_buyHint_85 : decode cX5_buyHint 85 = .ok (.iconst 1, 1) := by decide +kernel
theorem dX5_buyHint_86 : decode cX5_buyHint 86 = .ok (.iadd, 1) := by decide +kernel
theorem dX5_buyHint_87 : decode cX5_buyHint 87 = .ok (.putfield 69, 3) := by decide +kernel
theorem dX5_buyHint_90 : decode cX5_buyHint 90 = .ok (.aload_n 3, 1) := by decide +kernel
theorem dX5_buyHint_91 : decode cX5_buyHint 91 = .ok (.aload 4, 2) := by decide +kernel
theorem dX5_buyHint_93 : decode cX5_buyHint 93 = .ok (.invokevirtual 131, 3) := by decide +kernel
theorem dX5_buyHint_96 : decode cX5_buyHint 96 = .ok (.ireturn, 1) := by decide +kernel
theorem dX5_passHours_0 : decode cX5_passHours 0 = .ok (.iload_n 1, 1) := by decide +kernel
theorem dX5_passHours_1 : decode cX5_passHours 1 = .ok (.iconst 1, 1) := by decide +kernel
theorem dX5_passHours_2 : decode cX5_passHours 2 = .ok (.if_icmp .lt 9, 3) := by decide +kernel
theorem dX5_passHours_5 : decode cX5_passHours 5 = .ok (.iload_n 1, 1) := by decide +kernel
theorem dX5_passHours_6 : decode cX5_passHours 6 = .ok (.bipush 99, 2) := by decide +kernel
theorem dX5_passHours_8 : decode cX5_passHours 8 = .ok (.if_icmp .le 6, 3) := by decide +kernel
theorem dX5_passHours_11 : decode cX5_passHours 11 = .ok (.bipush (-2), 2) := by decide +kernel
theorem dX5_passHours_13 : decode cX5_passHours 13 = .ok (.ireturn, 1) := by decide +kernel
theorem dX5_passHours_14 : decode cX5_passHours 14 = .ok (.aload_n 0, 1) := by decide +kernel
theorem dX5_passHours_15 : decode cX5_passHours 15 = .ok (.getfield 63, 3) := by decide +kernel
theorem dX5_passHours_18 : decode cX5_passHours 18 = .ok (.iload_n 1, 1) := by decide +kernel
theorem dX5_passHours_19 : decode cX5_passHours 19 = .ok (.iadd, 1) := by decide +kernel
theorem dX5_passHours_20 : decode cX5_passHours 20 = .ok (.sipush 9999, 3) := by decide +kernel
theorem dX5_passHours_23 : decode cX5_passHours 23 = .ok (.if_icmp .le 6, 3) := by decide +kernel
theorem dX5_passHours_26 : decode cX5_passHours 26 = .ok (.bipush (-5), 2) := by decide +kernel
theorem dX5_passHours_28 : decode cX5_passHours 28 = .ok (.ireturn, 1) := by decide +kernel
theorem dX5_passHours_29 : decode cX5_passHours 29 = .ok (.iconst 0, 1) := by decide +kernel
theorem dX5_passHours_30 : decode cX5_passHours 30 = .ok (.istore_n 2, 1) := by decide +kernel
theorem dX5_passHours_31 : decode cX5_passHours 31 = .ok (.iconst 0, 1) := by decide +kernel
theorem dX5_passHours_32 : decode cX5_passHours 32 = .ok (.istore_n 3, 1) := by decide +kernel
theorem dX5_passHours_33 : decode cX5_passHours 33 = .ok (.iload_n 3, 1) := by decide +kernel
theorem dX5_passHours_34 : decode cX5_passHours 34 = .ok (.iload_n 1, 1) := by decide +kernel
theorem dX5_passHours_35 : decode cX5_passHours 35 = .ok (.if_icmp .ge 16, 3) := by decide +kernel
theorem dX5_passHours_38 : decode cX5_passHours 38 = .ok (.iload_n 2, 1) := by decide +kernel
theorem dX5_passHours_39 : decode cX5_passHours 39 = .ok (.aload_n 0, 1) := by decide +kernel
theorem dX5_passHours_40 : decode cX5_passHours 40 = .ok (.invokevirtual 142, 3) := by decide +kernel
theorem dX5_passHours_43 : decode cX5_passHours 43 = .ok (.iadd, 1) := by decide +kernel
theorem dX5_passHours_44 : decode cX5_passHours 44 = .ok (.istore_n 2, 1) := by decide +kernel
theorem dX5_passHours_45 : decode cX5_passHours 45 = .ok (.iinc 3 1, 3) := by decide +kernel
theorem dX5_passHours_48 : decode cX5_passHours 48 = .ok (.goto (-15), 3) := by decide +kernel
theorem dX5_passHours_51 : decode cX5_passHours 51 = .ok (.iload_n 2, 1) := by decide +kernel
theorem dX5_passHours_52 : decode cX5_passHours 52 = .ok (.ireturn, 1) := by decide +kernel
theorem dX5_playHour_0 : decode cX5_playHour 0 = .ok (.iconst 0, 1) := by decide +kernel
theorem dX5_playHour_1 : decode cX5_playHour 1 = .ok (.istore_n 1, 1) := by decide +kernel
theorem dX5_playHour_2 : decode cX5_playHour 2 = .ok (.iconst 0, 1) := by decide +kernel
theorem dX5_playHour_3 : decode cX5_playHour 3 = .ok (.istore_n 2, 1) := by decide +kernel
theorem dX5_playHour_4 : decode cX5_playHour 4 = .ok (.iload_n 2, 1) := by decide +kernel
theorem dX5_playHour_5 : decode cX5_playHour 5 = .ok (.aload_n 0, 1) := by decide +kernel
theorem dX5_playHour_6 : decode cX5_playHour 6 = .ok (.getfield 57, 3) := by decide +kernel
theorem dX5_playHour_9 : decode cX5_playHour 9 = .ok (.if_icmp .ge 22, 3) := by decide +kernel
theorem dX5_playHour_12 : decode cX5_playHour 12 = .ok (.iload_n 1, 1) := by decide +kernel
theorem dX5_playHour_13 : decode cX5_playHour 13 = .ok (.aload_n 0, 1) := by decide +kernel
theorem dX5_playHour_14 : decode cX5_playHour 14 = .ok (.aload_n 0, 1) := by decide +kernel
theorem dX5_playHour_15 : decode cX5_playHour 15 = .ok (.getfield 17, 3) := by decide +kernel
theorem dX5_playHour_18 : decode cX5_playHour 18 = .ok (.iload_n 2, 1) := by decide +kernel
theorem dX5_playHour_19 : decode cX5_playHour 19 = .ok (.aaload, 1) := by decide +kernel
theorem dX5_playHour_20 : decode cX5_playHour 20 = .ok (.invokevirtual 146, 3) := by decide +kernel
theorem dX5_playHour_23 : decode cX5_playHour 23 = .ok (.iadd, 1) := by decide +kernel
theorem dX5_playHour_24 : decode cX5_playHour 24 = .ok (.istore_n 1, 1) := by decide +kernel
theorem dX5_playHour_25 : decode cX5_playHour 25 = .ok (.iinc 2 1, 3) := by decide +kernel
theorem dX5_playHour_28 : decode cX5_playHour 28 = .ok (.goto (-24), 3) := by decide +kernel
theorem dX5_playHour_31 : decode cX5_playHour 31 = .ok (.iconst 0, 1) := by decide +kernel
theorem dX5_playHour_32 : decode cX5_playHour 32 = .ok (.istore_n 2, 1) := by decide +kernel
theorem dX5_playHour_33 : decode cX5_playHour 33 = .ok (.iload_n 2, 1) := by decide +kernel
theorem dX5_playHour_34 : decode cX5_playHour 34 = .ok (.aload_n 0, 1) := by decide +kernel
theorem dX5_playHour_35 : decode cX5_playHour 35 = .ok (.getfield 60, 3) := by decide +kernel
theorem dX5_playHour_38 : decode cX5_playHour 38 = .ok (.if_icmp .ge 36, 3) := by decide +kernel
theorem dX5_playHour_41 : decode cX5_playHour 41 = .ok (.aload_n 0, 1) := by decide +kernel
theorem dX5_playHour_42 : decode cX5_playHour 42 = .ok (.getfield 23, 3) := by decide +kernel
theorem dX5_playHour_45 : decode cX5_playHour 45 = .ok (.iload_n 2, 1) := by decide +kernel
theorem dX5_playHour_46 : decode cX5_playHour 46 = .ok (.aaload, 1) := by decide +kernel
theorem dX5_playHour_47 : decode cX5_playHour 47 = .ok (.invokevirtual 110, 3) := by decide +kernel
theorem dX5_playHour_50 : decode cX5_playHour 50 = .ok (.ifCond .eq 18, 3) := by decide +kernel
theorem dX5_playHour_53 : decode cX5_playHour 53 = .ok (.aload_n 0, 1) := by decide +kernel
theorem dX5_playHour_54 : decode cX5_playHour 54 = .ok (.getfield 23, 3) := by decide +kernel
theorem dX5_playHour_57 : decode cX5_playHour 57 = .ok (.iload_n 2, 1) := by decide +kernel
theorem dX5_playHour_58 : decode cX5_playHour 58 = .ok (.aaload, 1) := by decide +kernel
theorem dX5_playHour_59 : decode cX5_playHour 59 = .ok (.dup, 1) := by decide +kernel
theorem dX5_playHour_60 : decode cX5_playHour 60 = .ok (.getfield 149, 3) := by decide +kernel
theorem dX5_playHour_63 : decode cX5_playHour 63 = .ok (.iconst 1, 1) := by decide +kernel
theorem dX5_playHour_64 : decode cX5_playHour 64 = .ok (.iadd, 1) := by decide +kernel
theorem dX5_playHour_65 : decode cX5_playHour 65 = .ok (.putfield 149, 3) := by decide +kernel
theorem dX5_playHour_68 : decode cX5_playHour 68 = .ok (.iinc 2 1, 3) := by decide +kernel
theorem dX5_playHour_71 : decode cX5_playHour 71 = .ok (.goto (-38), 3) := by decide +kernel
theorem dX5_playHour_74 : decode cX5_playHour 74 = .ok (.aload_n 0, 1) := by decide +kernel
theorem dX5_playHour_75 : decode cX5_playHour 75 = .ok (.dup, 1) := by decide +kernel
theorem dX5_playHour_76 : decode cX5_playHour 76 = .ok (.getfield 63, 3) := by decide +kernel
theorem dX5_playHour_79 : decode cX5_playHour 79 = .ok (.iconst 1, 1) := by decide +kernel
theorem dX5_playHour_80 : decode cX5_playHour 80 = .ok (.iadd, 1) := by decide +kernel
theorem dX5_playHour_81 : decode cX5_playHour 81 = .ok (.putfield 63, 3) := by decide +kernel
theorem dX5_playHour_84 : decode cX5_playHour 84 = .ok (.iload_n 1, 1) := by decide +kernel
theorem dX5_playHour_85 : decode cX5_playHour 85 = .ok (.ireturn, 1) := by decide +kernel
theorem dX5_letOver_0 : decode cX5_letOver 0 = .ok (.aload_n 0, 1) := by decide +kernel
theorem dX5_letOver_1 : decode cX5_letOver 1 = .ok (.aload_n 1, 1) := by decide +kernel
theorem dX5_letOver_2 : decode cX5_letOver 2 = .ok (.invokevirtual 152, 3) := by decide +kernel
theorem dX5_letOver_5 : decode cX5_letOver 5 = .ok (.istore_n 2, 1) := by decide +kernel
theorem dX5_letOver_6 : decode cX5_letOver 6 = .ok (.aload_n 0, 1) := by decide +kernel
theorem dX5_letOver_7 : decode cX5_letOver 7 = .ok (.aload_n 1, 1) := by decide +kernel
theorem dX5_letOver_8 : decode cX5_letOver 8 = .ok (.invokevirtual 156, 3) := by decide +kernel
theorem dX5_letOver_11 : decode cX5_letOver 11 = .ok (.astore_n 3, 1) := by decide +kernel
theorem dX5_letOver_12 : decode cX5_letOver 12 = .ok (.iload_n 2, 1) := by decide +kernel
theorem dX5_letOver_13 : decode cX5_letOver 13 = .ok (.ifCond .eq 13, 3) := by decide +kernel
theorem dX5_letOver_16 : decode cX5_letOver 16 = .ok (.aload_n 1, 1) := by decide +kernel
theorem dX5_letOver_17 : decode cX5_letOver 17 = .ok (.dup, 1) := by decide +kernel
theorem dX5_letOver_18 : decode cX5_letOver 18 = .ok (.getfield 160, 3) := by decide +kernel
theorem dX5_letOver_21 : decode cX5_letOver 21 = .ok (.iconst 1, 1) := by decide +kernel
theorem dX5_letOver_22 : decode cX5_letOver 22 = .ok (.iadd, 1) := by decide +kernel
theorem dX5_letOver_23 : decode cX5_letOver 23 = .ok (.putfield 160, 3) := by decide +kernel
theorem dX5_letOver_26 : decode cX5_letOver 26 = .ok (.aload_n 3, 1) := by decide +kernel
theorem dX5_letOver_27 : decode cX5_letOver 27 = .ok (.ifnonnull 5, 3) := by decide +kernel
theorem dX5_letOver_30 : decode cX5_letOver 30 = .ok (.iconst 0, 1) := by decide +kernel
theorem dX5_letOver_31 : decode cX5_letOver 31 = .ok (.ireturn, 1) := by decide +kernel
theorem dX5_letOver_32 : decode cX5_letOver 32 = .ok (.iload_n 2, 1) := by decide +kernel
theorem dX5_letOver_33 : decode cX5_letOver 33 = .ok (.ifCond .ne 11, 3) := by decide +kernel
theorem dX5_letOver_36 : decode cX5_letOver 36 = .ok (.aload_n 1, 1) := by decide +kernel
theorem dX5_letOver_37 : decode cX5_letOver 37 = .ok (.getfield 124, 3) := by decide +kernel
theorem dX5_letOver_40 : decode cX5_letOver 40 = .ok (.iconst 1, 1) := by decide +kernel
theorem dX5_letOver_41 : decode cX5_letOver 41 = .ok (.if_icmp .ne 21, 3) := by decide +kernel
theorem dX5_letOver_44 : decode cX5_letOver 44 = .ok (.aload_n 3, 1) := by decide +kernel
theorem dX5_letOver_45 : decode cX5_letOver 45 = .ok (.aload_n 0, 1) := by decide +kernel
theorem dX5_letOver_46 : decode cX5_letOver 46 = .ok (.getfield 9, 3) := by decide +kernel
theorem dX5_letOver_49 : decode cX5_letOver 49 = .ok (.iconst 0, 1) := by decide +kernel
theorem dX5_letOver_50 : decode cX5_letOver 50 = .ok (.iaload, 1) := by decide +kernel
theorem dX5_letOver_51 : decode cX5_letOver 51 = .ok (.aload_n 3, 1) := by decide +kernel
theorem dX5_letOver_52 : decode cX5_letOver 52 = .ok (.getfield 98, 3) := by decide +kernel
theorem dX5_letOver_55 : decode cX5_letOver 55 = .ok (.invokestatic 163, 3) := by decide +kernel
theorem dX5_letOver_58 : decode cX5_letOver 58 = .ok (.aload_n 1, 1) := by decide +kernel
theorem dX5_letOver_59 : decode cX5_letOver 59 = .ok (.invokevirtual 135, 3) := by decide +kernel
theorem dX5_letOver_62 : decode cX5_letOver 62 = .ok (.aload_n 3, 1) := by decide +kernel
theorem dX5_letOver_63 : decode cX5_letOver 63 = .ok (.getfield 121, 3) := by decide +kernel
theorem dX5_letOver_66 : decode cX5_letOver 66 = .ok (.aload_n 1, 1) := by decide +kernel
theorem dX5_letOver_67 : decode cX5_letOver 67 = .ok (.getfield 169, 3) := by decide +kernel
theorem dX5_letOver_70 : decode cX5_letOver 70 = .ok (.if_icmp .ne 14, 3) := by decide +kernel
theorem dX5_letOver_73 : decode cX5_letOver 73 = .ok (.aload_n 3, 1) := by decide +kernel
theorem dX5_letOver_74 : decode cX5_letOver 74 = .ok (.aload_n 0, 1) := by decide +kernel
theorem dX5_letOver_75 : decode cX5_letOver 75 = .ok (.getfield 9, 3) := by decide +kernel
theorem dX5_letOver_78 : decode cX5_letOver 78 = .ok (.iconst 2, 1) := by decide +kernel
theorem dX5_letOver_79 : decode cX5_letOver 79 = .ok (.iaload, 1) := by decide +kernel
theorem dX5_letOver_80 : decode cX5_letOver 80 = .ok (.aload_n 1, 1) := by decide +kernel
theorem dX5_letOver_81 : decode cX5_letOver 81 = .ok (.invokevirtual 172, 3) := by decide +kernel
theorem dX5_letOver_84 : decode cX5_letOver 84 = .ok (.aload_n 0, 1) := by decide +kernel
theorem dX5_letOver_85 : decode cX5_letOver 85 = .ok (.aload_n 3, 1) := by decide +kernel
theorem dX5_letOver_86 : decode cX5_letOver 86 = .ok (.aload_n 1, 1) := by decide +kernel
theorem dX5_letOver_87 : decode cX5_letOver 87 = .ok (.invokevirtual 127, 3) := by decide +kernel
theorem dX5_letOver_90 : decode cX5_letOver 90 = .ok (.aload_n 3, 1) := by decide +kernel
theorem dX5_letOver_91 : decode cX5_letOver 91 = .ok (.aload_n 1, 1) := by decide +kernel
theorem dX5_letOver_92 : decode cX5_letOver 92 = .ok (.aload_n 3, 1) := by decide +kernel
theorem dX5_letOver_93 : decode cX5_letOver 93 = .ok (.getfield 97, 3) := by decide +kernel
theorem dX5_letOver_96 : decode cX5_letOver 96 = .ok (.invokevirtual 175, 3) := by decide +kernel
theorem dX5_letOver_99 : decode cX5_letOver 99 = .ok (.putfield 97, 3) := by decide +kernel
theorem dX5_letOver_102 : decode cX5_letOver 102 = .ok (.aload_n 3, 1) := by decide +kernel
theorem dX5_letOver_103 : decode cX5_letOver 103 = .ok (.dup, 1) := by decide +kernel
theorem dX5_letOver_104 : decode cX5_letOver 104 = .ok (.getfield 179, 3) := by decide +kernel
theorem dX5_letOver_107 : decode cX5_letOver 107 = .ok (.iconst 1, 1) := by decide +kernel
theorem dX5_letOver_108 : decode cX5_letOver 108 = .ok (.iadd, 1) := by decide +kernel
theorem dX5_letOver_109 : decode cX5_letOver 109 = .ok (.putfield 179, 3) := by decide +kernel
theorem dX5_letOver_112 : decode cX5_letOver 112 = .ok (.aload_n 1, 1) := by decide +kernel
theorem dX5_letOver_113 : decode cX5_letOver 113 = .ok (.dup, 1) := by decide +kernel
theorem dX5_letOver_114 : decode cX5_letOver 114 = .ok (.getfield 182, 3) := by decide +kernel
theorem dX5_letOver_117 : decode cX5_letOver 117 = .ok (.iconst 1, 1) := by decide +kernel
theorem dX5_letOver_118 : decode cX5_letOver 118 = .ok (.iadd, 1) := by decide +kernel
theorem dX5_letOver_119 : decode cX5_letOver 119 = .ok (.putfield 182, 3) := by decide +kernel
theorem dX5_letOver_122 : decode cX5_letOver 122 = .ok (.aload_n 0, 1) := by decide +kernel
theorem dX5_letOver_123 : decode cX5_letOver 123 = .ok (.aload_n 1, 1) := by decide +kernel
theorem dX5_letOver_124 : decode cX5_letOver 124 = .ok (.invokevirtual 91, 3) := by decide +kernel
theorem dX5_letOver_127 : decode cX5_letOver 127 = .ok (.iconst 1, 1) := by decide +kernel
theorem dX5_letOver_128 : decode cX5_letOver 128 = .ok (.ireturn, 1) := by decide +kernel
theorem dX5_comerOver_0 : decode cX5_comerOver 0 = .ok (.aload_n 0, 1) := by decide +kernel
theorem dX5_comerOver_1 : decode cX5_comerOver 1 = .ok (.aload_n 1, 1) := by decide +kernel
theorem dX5_comerOver_2 : decode cX5_comerOver 2 = .ok (.iconst 0, 1) := by decide +kernel
theorem dX5_comerOver_3 : decode cX5_comerOver 3 = .ok (.invokevirtual 183, 3) := by decide +kernel
theorem dX5_comerOver_6 : decode cX5_comerOver 6 = .ok (.astore_n 2, 1) := by decide +kernel
theorem dX5_comerOver_7 : decode cX5_comerOver 7 = .ok (.aload_n 0, 1) := by decide +kernel
theorem dX5_comerOver_8 : decode cX5_comerOver 8 = .ok (.aload_n 1, 1) := by decide +kernel
theorem dX5_comerOver_9 : decode cX5_comerOver 9 = .ok (.iconst 1, 1) := by decide +kernel
theorem dX5_comerOver_10 : decode cX5_comerOver 10 = .ok (.invokevirtual 183, 3) := by decide +kernel
theorem dX5_comerOver_13 : decode cX5_comerOver 13 = .ok (.astore_n 3, 1) := by decide +kernel
theorem dX5_comerOver_14 : decode cX5_comerOver 14 = .ok (.aload_n 2, 1) := by decide +kernel
theorem dX5_comerOver_15 : decode cX5_comerOver 15 = .ok (.ifnonnull 5, 3) := by decide +kernel
theorem dX5_comerOver_18 : decode cX5_comerOver 18 = .ok (.aconst_null, 1) := by decide +kernel
theorem dX5_comerOver_19 : decode cX5_comerOver 19 = .ok (.areturn, 1) := by decide +kernel
theorem dX5_comerOver_20 : decode cX5_comerOver 20 = .ok (.aload_n 3, 1) := by decide +kernel
theorem dX5_comerOver_21 : decode cX5_comerOver 21 = .ok (.ifnonnull 22, 3) := by decide +kernel
theorem dX5_comerOver_24 : decode cX5_comerOver 24 = .ok (.aload_n 2, 1) := by decide +kernel
theorem dX5_comerOver_25 : decode cX5_comerOver 25 = .ok (.getfield 149, 3) := by decide +kernel
theorem dX5_comerOver_28 : decode cX5_comerOver 28 = .ok (.aload_n 0, 1) := by decide +kernel
theorem dX5_comerOver_29 : decode cX5_comerOver 29 = .ok (.getfield 9, 3) := by decide +kernel
theorem dX5_comerOver_32 : decode cX5_comerOver 32 = .ok (.iconst 3, 1) := by decide +kernel
theorem dX5_comerOver_33 : decode cX5_comerOver 33 = .ok (.iaload, 1) := by decide +kernel
theorem dX5_comerOver_34 : decode cX5_comerOver 34 = .ok (.if_icmp .lt 7, 3) := by decide +kernel
theorem dX5_comerOver_37 : decode cX5_comerOver 37 = .ok (.aload_n 2, 1) := by decide +kernel
theorem dX5_comerOver_38 : decode cX5_comerOver 38 = .ok (.goto 4, 3) := by decide +kernel
theorem dX5_comerOver_41 : decode cX5_comerOver 41 = .ok (.aconst_null, 1) := by decide +kernel
theorem dX5_comerOver_42 : decode cX5_comerOver 42 = .ok (.areturn, 1) := by decide +kernel
theorem dX5_comerOver_43 : decode cX5_comerOver 43 = .ok (.aload_n 1, 1) := by decide +kernel
theorem dX5_comerOver_44 : decode cX5_comerOver 44 = .ok (.aload_n 3, 1) := by decide +kernel
theorem dX5_comerOver_45 : decode cX5_comerOver 45 = .ok (.getfield 121, 3) := by decide +kernel
theorem dX5_comerOver_48 : decode cX5_comerOver 48 = .ok (.invokevirtual 187, 3) := by decide +kernel
theorem dX5_comerOver_51 : decode cX5_comerOver 51 = .ok (.aload_n 1, 1) := by decide +kernel
theorem dX5_comerOver_52 : decode cX5_comerOver 52 = .ok (.aload_n 2, 1) := by decide +kernel
theorem dX5_comerOver_53 : decode cX5_comerOver 53 = .ok (.getfield 121, 3) := by decide +kernel
theorem dX5_comerOver_56 : decode cX5_comerOver 56 = .ok (.invokevirtual 187, 3) := by decide +kernel
theorem dX5_comerOver_59 : decode cX5_comerOver 59 = .ok (.isub, 1) := by decide +kernel
theorem dX5_comerOver_60 : decode cX5_comerOver 60 = .ok (.istore 4, 2) := by decide +kernel
theorem dX5_comerOver_62 : decode cX5_comerOver 62 = .ok (.iload 4, 2) := by decide +kernel
theorem dX5_comerOver_64 : decode cX5_comerOver 64 = .ok (.ifCond .ne 10, 3) := by decide +kernel
theorem dX5_comerOver_67 : decode cX5_comerOver 67 = .ok (.aload_n 0, 1) := by decide +kernel
theorem dX5_comerOver_68 : decode cX5_comerOver 68 = .ok (.aload_n 2, 1) := by decide +kernel
theorem dX5_comerOver_69 : decode cX5_comerOver 69 = .ok (.aload_n 3, 1) := by decide +kernel
theorem dX5_comerOver_70 : decode cX5_comerOver 70 = .ok (.invokevirtual 190, 3) := by decide +kernel
theorem dX5_comerOver_73 : decode cX5_comerOver 73 = .ok (.areturn, 1) := by decide +kernel
theorem dX5_comerOver_74 : decode cX5_comerOver 74 = .ok (.iload 4, 2) := by decide +kernel
theorem dX5_comerOver_76 : decode cX5_comerOver 76 = .ok (.ifCond .le 7, 3) := by decide +kernel
theorem dX5_comerOver_79 : decode cX5_comerOver 79 = .ok (.aload_n 2, 1) := by decide +kernel
theorem dX5_comerOver_80 : decode cX5_comerOver 80 = .ok (.goto 4, 3) := by decide +kernel
theorem dX5_comerOver_83 : decode cX5_comerOver 83 = .ok (.aload_n 3, 1) := by decide +kernel
theorem dX5_comerOver_84 : decode cX5_comerOver 84 = .ok (.areturn, 1) := by decide +kernel
theorem dX5_isTied_0 : decode cX5_isTied 0 = .ok (.aload_n 0, 1) := by decide +kernel
theorem dX5_isTied_1 : decode cX5_isTied 1 = .ok (.aload_n 1, 1) := by decide +kernel
theorem dX5_isTied_2 : decode cX5_isTied 2 = .ok (.iconst 0, 1) := by decide +kernel
theorem dX5_isTied_3 : decode cX5_isTied 3 = .ok (.invokevirtual 183, 3) := by decide +kernel
theorem dX5_isTied_6 : decode cX5_isTied 6 = .ok (.astore_n 2, 1) := by decide +kernel
theorem dX5_isTied_7 : decode cX5_isTied 7 = .ok (.aload_n 0, 1) := by decide +kernel
theorem dX5_isTied_8 : decode cX5_isTied 8 = .ok (.aload_n 1, 1) := by decide +kernel
theorem dX5_isTied_9 : decode cX5_isTied 9 = .ok (.iconst 1, 1) := by decide +kernel
theorem dX5_isTied_10 : decode cX5_isTied 10 = .ok (.invokevirtual 183, 3) := by decide +kernel
theorem dX5_isTied_13 : decode cX5_isTied 13 = .ok (.astore_n 3, 1) := by decide +kernel
theorem dX5_isTied_14 : decode cX5_isTied 14 = .ok (.aload_n 2, 1) := by decide +kernel
theorem dX5_isTied_15 : decode cX5_isTied 15 = .ok (.ifnull 30, 3) := by decide +kernel
theorem dX5_isTied_18 : decode cX5_isTied 18 = .ok (.aload_n 3, 1) := by decide +kernel
theorem dX5_isTied_19 : decode cX5_isTied 19 = .ok (.ifnull 26, 3) := by decide +kernel
theorem dX5_isTied_22 : decode cX5_isTied 22 = .ok (.aload_n 1, 1) := by decide +kernel
theorem dX5_isTied_23 : decode cX5_isTied 23 = .ok (.aload_n 2, 1) := by decide +kernel
theorem dX5_isTied_24 : decode cX5_isTied 24 = .ok (.getfield 121, 3) := by decide +kernel
theorem dX5_isTied_27 : decode cX5_isTied 27 = .ok (.invokevirtual 187, 3) := by decide +kernel
theorem dX5_isTied_30 : decode cX5_isTied 30 = .ok (.aload_n 1, 1) := by decide +kernel
theorem dX5_isTied_31 : decode cX5_isTied 31 = .ok (.aload_n 3, 1) := by decide +kernel
theorem dX5_isTied_32 : decode cX5_isTied 32 = .ok (.getfield 121, 3) := by decide +kernel
theorem dX5_isTied_35 : decode cX5_isTied 35 = .ok (.invokevirtual 187, 3) := by decide +kernel
theorem dX5_isTied_38 : decode cX5_isTied 38 = .ok (.if_icmp .ne 7, 3) := by decide +kernel
theorem dX5_isTied_41 : decode cX5_isTied 41 = .ok (.iconst 1, 1) := by decide +kernel
theorem dX5_isTied_42 : decode cX5_isTied 42 = .ok (.goto 4, 3) := by decide +kernel
theorem dX5_isTied_45 : decode cX5_isTied 45 = .ok (.iconst 0, 1) := by decide +kernel
theorem dX5_isTied_46 : decode cX5_isTied 46 = .ok (.ireturn, 1) := by decide +kernel
theorem dX5_payerOfTie_0 : decode cX5_payerOfTie 0 = .ok (.aload_n 1, 1) := by decide +kernel
theorem dX5_payerOfTie_1 : decode cX5_payerOfTie 1 = .ok (.getfield 101, 3) := by decide +kernel
theorem dX5_payerOfTie_4 : decode cX5_payerOfTie 4 = .ok (.aload_n 2, 1) := by decide +kernel
theorem dX5_payerOfTie_5 : decode cX5_payerOfTie 5 = .ok (.getfield 101, 3) := by decide +kernel
theorem dX5_payerOfTie_8 : decode cX5_payerOfTie 8 = .ok (.if_icmp .ge 7, 3) := by decide +kernel
theorem dX5_payerOfTie_11 : decode cX5_payerOfTie 11 = .ok (.aload_n 1, 1) := by decide +kernel
theorem dX5_payerOfTie_12 : decode cX5_payerOfTie 12 = .ok (.goto 4, 3) := by decide +kernel
theorem dX5_payerOfTie_15 : decode cX5_payerOfTie 15 = .ok (.aload_n 2, 1) := by decide +kernel
theorem dX5_payerOfTie_16 : decode cX5_payerOfTie 16 = .ok (.astore_n 3, 1) := by decide +kernel
theorem dX5_payerOfTie_17 : decode cX5_payerOfTie 17 = .ok (.aload_n 1, 1) := by decide +kernel
theorem dX5_payerOfTie_18 : decode cX5_payerOfTie 18 = .ok (.getfield 101, 3) := by decide +kernel
theorem dX5_payerOfTie_21 : decode cX5_payerOfTie 21 = .ok (.aload_n 2, 1) := by decide +kernel
theorem dX5_payerOfTie_22 : decode cX5_payerOfTie 22 = .ok (.getfield 101, 3) := by decide +kernel
theorem dX5_payerOfTie_25 : decode cX5_payerOfTie 25 = .ok (.if_icmp .ge 7, 3) := by decide +kernel
theorem dX5_payerOfTie_28 : decode cX5_payerOfTie 28 = .ok (.aload_n 2, 1) := by decide +kernel
theorem dX5_payerOfTie_29 : decode cX5_payerOfTie 29 = .ok (.goto 4, 3) := by decide +kernel
theorem dX5_payerOfTie_32 : decode cX5_payerOfTie 32 = .ok (.aload_n 1, 1) := by decide +kernel
theorem dX5_payerOfTie_33 : decode cX5_payerOfTie 33 = .ok (.astore 4, 2) := by decide +kernel
theorem dX5_payerOfTie_35 : decode cX5_payerOfTie 35 = .ok (.aload_n 3, 1) := by decide +kernel
theorem dX5_payerOfTie_36 : decode cX5_payerOfTie 36 = .ok (.getfield 98, 3) := by decide +kernel
theorem dX5_payerOfTie_39 : decode cX5_payerOfTie 39 = .ok (.aload_n 0, 1) := by decide +kernel
theorem dX5_payerOfTie_40 : decode cX5_payerOfTie 40 = .ok (.getfield 9, 3) := by decide +kernel
theorem dX5_payerOfTie_43 : decode cX5_payerOfTie 43 = .ok (.iconst 0, 1) := by decide +kernel
theorem dX5_payerOfTie_44 : decode cX5_payerOfTie 44 = .ok (.iaload, 1) := by decide +kernel
theorem dX5_payerOfTie_45 : decode cX5_payerOfTie 45 = .ok (.if_icmp .lt 5, 3) := by decide +kernel
theorem dX5_payerOfTie_48 : decode cX5_payerOfTie 48 = .ok (.aload_n 3, 1) := by decide +kernel
theorem dX5_payerOfTie_49 : decode cX5_payerOfTie 49 = .ok (.areturn, 1) := by decide +kernel
theorem dX5_payerOfTie_50 : decode cX5_payerOfTie 50 = .ok (.aload 4, 2) := by decide +kernel
theorem dX5_payerOfTie_52 : decode cX5_payerOfTie 52 = .ok (.getfield 98, 3) := by decide +kernel
theorem dX5_payerOfTie_55 : decode cX5_payerOfTie 55 = .ok (.aload_n 0, 1) := by decide +kernel
theorem dX5_payerOfTie_56 : decode cX5_payerOfTie 56 = .ok (.getfield 9, 3) := by decide +kernel
theorem dX5_payerOfTie_59 : decode cX5_payerOfTie 59 = .ok (.iconst 0, 1) := by decide +kernel
theorem dX5_payerOfTie_60 : decode cX5_payerOfTie 60 = .ok (.iaload, 1) := by decide +kernel
theorem dX5_payerOfTie_61 : decode cX5_payerOfTie 61 = .ok (.if_icmp .lt 8, 3) := by decide +kernel
theorem dX5_payerOfTie_64 : decode cX5_payerOfTie 64 = .ok (.aload 4, 2) := by decide +kernel
theorem dX5_payerOfTie_66 : decode cX5_payerOfTie 66 = .ok (.goto 4, 3) := by decide +kernel
theorem dX5_payerOfTie_69 : decode cX5_payerOfTie 69 = .ok (.aconst_null, 1) := by decide +kernel
theorem dX5_payerOfTie_70 : decode cX5_payerOfTie 70 = .ok (.areturn, 1) := by decide +kernel
theorem dX5_release_0 : decode cX5_release 0 = .ok (.iconst 0, 1) := by decide +kernel
theorem dX5_release_1 : decode cX5_release 1 = .ok (.istore_n 3, 1) := by decide +kernel
theorem dX5_release_2 : decode cX5_release 2 = .ok (.iconst 0, 1) := by decide +kernel
theorem dX5_release_3 : decode cX5_release 3 = .ok (.istore 4, 2) := by decide +kernel
theorem dX5_release_5 : decode cX5_release 5 = .ok (.iload 4, 2) := by decide +kernel
theorem dX5_release_7 : decode cX5_release 7 = .ok (.aload_n 0, 1) := by decide +kernel
theorem dX5_release_8 : decode cX5_release 8 = .ok (.getfield 54, 3) := by decide +kernel
theorem dX5_release_11 : decode cX5_release 11 = .ok (.if_icmp .ge 39, 3) := by decide +kernel
theorem dX5_release_14 : decode cX5_release 14 = .ok (.aload_n 0, 1) := by decide +kernel
theorem dX5_release_15 : decode cX5_release 15 = .ok (.getfield 27, 3) := by decide +kernel
theorem dX5_release_18 : decode cX5_release 18 = .ok (.iload 4, 2) := by decide +kernel
theorem dX5_release_20 : decode cX5_release 20 = .ok (.iaload, 1) := by decide +kernel
theorem dX5_release_21 : decode cX5_release 21 = .ok (.aload_n 1, 1) := by decide +kernel
theorem dX5_release_22 : decode cX5_release 22 = .ok (.getfield 101, 3) := by decide +kernel
theorem dX5_release_25 : decode cX5_release 25 = .ok (.if_icmp .eq 19, 3) := by decide +kernel
theorem dX5_release_28 : decode cX5_release 28 = .ok (.aload_n 0, 1) := by decide +kernel
theorem dX5_release_29 : decode cX5_release 29 = .ok (.getfield 27, 3) := by decide +kernel
theorem dX5_release_32 : decode cX5_release 32 = .ok (.iload_n 3, 1) := by decide +kernel
theorem dX5_release_33 : decode cX5_release 33 = .ok (.aload_n 0, 1) := by decide +kernel
theorem dX5_release_34 : decode cX5_release 34 = .ok (.getfield 27, 3) := by decide +kernel
theorem dX5_release_37 : decode cX5_release 37 = .ok (.iload 4, 2) := by decide +kernel
theorem dX5_release_39 : decode cX5_release 39 = .ok (.iaload, 1) := by decide +kernel
theorem dX5_release_40 : decode cX5_release 40 = .ok (.iastore, 1) := by decide +kernel
theorem dX5_release_41 : decode cX5_release 41 = .ok (.iinc 3 1, 3) := by decide +kernel
theorem dX5_release_44 : decode cX5_release 44 = .ok (.iinc 4 1, 3) := by decide +kernel
theorem dX5_release_47 : decode cX5_release 47 = .ok (.goto (-42), 3) := by decide +kernel
theorem dX5_release_50 : decode cX5_release 50 = .ok (.aload_n 0, 1) := by decide +kernel
theorem dX5_release_51 : decode cX5_release 51 = .ok (.iload_n 3, 1) := by decide +kernel
theorem dX5_release_52 : decode cX5_release 52 = .ok (.putfield 54, 3) := by decide +kernel
theorem dX5_release_55 : decode cX5_release 55 = .ok (.aload_n 1, 1) := by decide +kernel
theorem dX5_release_56 : decode cX5_release 56 = .ok (.bipush (-6), 2) := by decide +kernel
theorem dX5_release_58 : decode cX5_release 58 = .ok (.putfield 118, 3) := by decide +kernel
theorem dX5_release_61 : decode cX5_release 61 = .ok (.aload_n 1, 1) := by decide +kernel
theorem dX5_release_62 : decode cX5_release 62 = .ok (.bipush (-6), 2) := by decide +kernel
theorem dX5_release_64 : decode cX5_release 64 = .ok (.putfield 121, 3) := by decide +kernel
theorem dX5_release_67 : decode cX5_release 67 = .ok (.aload_n 1, 1) := by decide +kernel
theorem dX5_release_68 : decode cX5_release 68 = .ok (.iconst 0, 1) := by decide +kernel
theorem dX5_release_69 : decode cX5_release 69 = .ok (.putfield 149, 3) := by decide +kernel
theorem dX5_release_72 : decode cX5_release 72 = .ok (.aload_n 2, 1) := by decide +kernel
theorem dX5_release_73 : decode cX5_release 73 = .ok (.dup, 1) := by decide +kernel
theorem dX5_release_74 : decode cX5_release 74 = .ok (.getfield 124, 3) := by decide +kernel
theorem dX5_release_77 : decode cX5_release 77 = .ok (.iconst 1, 1) := by decide +kernel
theorem dX5_release_78 : decode cX5_release 78 = .ok (.isub, 1) := by decide +kernel
theorem dX5_release_79 : decode cX5_release 79 = .ok (.putfield 124, 3) := by decide +kernel
theorem dX5_release_82 : decode cX5_release 82 = .ok (.return_, 1) := by decide +kernel
theorem dX5_drawRiddle_0 : decode cX5_drawRiddle 0 = .ok (.aload_n 0, 1) := by decide +kernel
theorem dX5_drawRiddle_1 : decode cX5_drawRiddle 1 = .ok (.bipush 75, 2) := by decide +kernel
theorem dX5_drawRiddle_3 : decode cX5_drawRiddle 3 = .ok (.aload_n 0, 1) := by decide +kernel
theorem dX5_drawRiddle_4 : decode cX5_drawRiddle 4 = .ok (.getfield 30, 3) := by decide +kernel
theorem dX5_drawRiddle_7 : decode cX5_drawRiddle 7 = .ok (.imul, 1) := by decide +kernel
theorem dX5_drawRiddle_8 : decode cX5_drawRiddle 8 = .ok (.bipush 74, 2) := by decide +kernel
theorem dX5_drawRiddle_10 : decode cX5_drawRiddle 10 = .ok (.iadd, 1) := by decide +kernel
theorem dX5_drawRiddle_11 : decode cX5_drawRiddle 11 = .ok (.ldc 194, 2) := by decide +kernel
theorem dX5_drawRiddle_13 : decode cX5_drawRiddle 13 = .ok (.irem, 1) := by decide +kernel
theorem dX5_drawRiddle_14 : decode cX5_drawRiddle 14 = .ok (.putfield 30, 3) := by decide +kernel
theorem dX5_drawRiddle_17 : decode cX5_drawRiddle 17 = .ok (.aload_n 1, 1) := by decide +kernel
theorem dX5_drawRiddle_18 : decode cX5_drawRiddle 18 = .ok (.aload_n 0, 1) := by decide +kernel
theorem dX5_drawRiddle_19 : decode cX5_drawRiddle 19 = .ok (.getfield 30, 3) := by decide +kernel
theorem dX5_drawRiddle_22 : decode cX5_drawRiddle 22 = .ok (.iconst 2, 1) := by decide +kernel
theorem dX5_drawRiddle_23 : decode cX5_drawRiddle 23 = .ok (.idiv, 1) := by decide +kernel
theorem dX5_drawRiddle_24 : decode cX5_drawRiddle 24 = .ok (.invokevirtual 195, 3) := by decide +kernel
theorem dX5_drawRiddle_27 : decode cX5_drawRiddle 27 = .ok (.iconst 0, 1) := by decide +kernel
theorem dX5_drawRiddle_28 : decode cX5_drawRiddle 28 = .ok (.istore_n 2, 1) := by decide +kernel
theorem dX5_drawRiddle_29 : decode cX5_drawRiddle 29 = .ok (.iload_n 2, 1) := by decide +kernel
theorem dX5_drawRiddle_30 : decode cX5_drawRiddle 30 = .ok (.bipush 8, 2) := by decide +kernel
theorem dX5_drawRiddle_32 : decode cX5_drawRiddle 32 = .ok (.if_icmp .ge 19, 3) := by decide +kernel
theorem dX5_drawRiddle_35 : decode cX5_drawRiddle 35 = .ok (.aload_n 0, 1) := by decide +kernel
theorem dX5_drawRiddle_36 : decode cX5_drawRiddle 36 = .ok (.getfield 23, 3) := by decide +kernel
theorem dX5_drawRiddle_39 : decode cX5_drawRiddle 39 = .ok (.iload_n 2, 1) := by decide +kernel
theorem dX5_drawRiddle_40 : decode cX5_drawRiddle 40 = .ok (.aaload, 1) := by decide +kernel
theorem dX5_drawRiddle_41 : decode cX5_drawRiddle 41 = .ok (.aload_n 1, 1) := by decide +kernel
theorem dX5_drawRiddle_42 : decode cX5_drawRiddle 42 = .ok (.invokevirtual 198, 3) := by decide +kernel
theorem dX5_drawRiddle_45 : decode cX5_drawRiddle 45 = .ok (.iinc 2 1, 3) := by decide +kernel
theorem dX5_drawRiddle_48 : decode cX5_drawRiddle 48 = .ok (.goto (-19), 3) := by decide +kernel
theorem dX5_drawRiddle_51 : decode cX5_drawRiddle 51 = .ok (.return_, 1) := by decide +kernel
theorem dX5_waiterAt_0 : decode cX5_waiterAt 0 = .ok (.iconst 0, 1) := by decide +kernel
theorem dX5_waiterAt_1 : decode cX5_waiterAt 1 = .ok (.istore_n 3, 1) := by decide +kernel
theorem dX5_waiterAt_2 : decode cX5_waiterAt 2 = .ok (.iconst 0, 1) := by decide +kernel
theorem dX5_waiterAt_3 : decode cX5_waiterAt 3 = .ok (.istore 4, 2) := by decide +kernel
theorem dX5_waiterAt_5 : decode cX5_waiterAt 5 = .ok (.iload 4, 2) := by decide +kernel
theorem dX5_waiterAt_7 : decode cX5_waiterAt 7 = .ok (.aload_n 0, 1) := by decide +kernel
theorem dX5_waiterAt_8 : decode cX5_waiterAt 8 = .ok (.getfield 54, 3) := by decide +kernel
theorem dX5_waiterAt_11 : decode cX5_waiterAt 11 = .ok (.if_icmp .ge 63, 3) := by decide +kernel
theorem dX5_waiterAt_14 : decode cX5_waiterAt 14 = .ok (.aload_n 0, 1) := by decide +kernel
theorem dX5_waiterAt_15 : decode cX5_waiterAt 15 = .ok (.getfield 27, 3) := by decide +kernel
theorem dX5_waiterAt_18 : decode cX5_waiterAt 18 = .ok (.iload 4, 2) := by decide +kernel
theorem dX5_waiterAt_20 : decode cX5_waiterAt 20 = .ok (.iaload, 1) := by decide +kernel
theorem dX5_waiterAt_21 : decode cX5_waiterAt 21 = .ok (.istore 5, 2) := by decide +kernel
theorem dX5_waiterAt_23 : decode cX5_waiterAt 23 = .ok (.iload 5, 2) := by decide +kernel
theorem dX5_waiterAt_25 : decode cX5_waiterAt 25 = .ok (.aload_n 0, 1) := by decide +kernel
theorem dX5_waiterAt_26 : decode cX5_waiterAt 26 = .ok (.getfield 60, 3) := by decide +kernel
theorem dX5_waiterAt_29 : decode cX5_waiterAt 29 = .ok (.invokestatic 72, 3) := by decide +kernel
theorem dX5_waiterAt_32 : decode cX5_waiterAt 32 = .ok (.ifCond .eq 36, 3) := by decide +kernel
theorem dX5_waiterAt_35 : decode cX5_waiterAt 35 = .ok (.aload_n 0, 1) := by decide +kernel
theorem dX5_waiterAt_36 : decode cX5_waiterAt 36 = .ok (.getfield 23, 3) := by decide +kernel
theorem dX5_waiterAt_39 : decode cX5_waiterAt 39 = .ok (.iload 5, 2) := by decide +kernel
theorem dX5_waiterAt_41 : decode cX5_waiterAt 41 = .ok (.aaload, 1) := by decide +kernel
theorem dX5_waiterAt_42 : decode cX5_waiterAt 42 = .ok (.getfield 118, 3) := by decide +kernel
theorem dX5_waiterAt_45 : decode cX5_waiterAt 45 = .ok (.aload_n 1, 1) := by decide +kernel
theorem dX5_waiterAt_46 : decode cX5_waiterAt 46 = .ok (.getfield 94, 3) := by decide +kernel
theorem dX5_waiterAt_49 : decode cX5_waiterAt 49 = .ok (.if_icmp .ne 19, 3) := by decide +kernel
theorem dX5_waiterAt_52 : decode cX5_waiterAt 52 = .ok (.iload_n 3, 1) := by decide +kernel
theorem dX5_waiterAt_53 : decode cX5_waiterAt 53 = .ok (.iload_n 2, 1) := by decide +kernel
theorem dX5_waiterAt_54 : decode cX5_waiterAt 54 = .ok (.if_icmp .ne 11, 3) := by decide +kernel
theorem dX5_waiterAt_57 : decode cX5_waiterAt 57 = .ok (.aload_n 0, 1) := by decide +kernel
theorem dX5_waiterAt_58 : decode cX5_waiterAt 58 = .ok (.getfield 23, 3) := by decide +kernel
theorem dX5_waiterAt_61 : decode cX5_waiterAt 61 = .ok (.iload 5, 2) := by decide +kernel
theorem dX5_waiterAt_63 : decode cX5_waiterAt 63 = .ok (.aaload, 1) := by decide +kernel
theorem dX5_waiterAt_64 : decode cX5_waiterAt 64 = .ok (.areturn, 1) := by decide +kernel
theorem dX5_waiterAt_65 : decode cX5_waiterAt 65 = .ok (.iinc 3 1, 3) := by decide +kernel
theorem dX5_waiterAt_68 : decode cX5_waiterAt 68 = .ok (.iinc 4 1, 3) := by decide +kernel
theorem dX5_waiterAt_71 : decode cX5_waiterAt 71 = .ok (.goto (-66), 3) := by decide +kernel
theorem dX5_waiterAt_74 : decode cX5_waiterAt 74 = .ok (.aconst_null, 1) := by decide +kernel
theorem dX5_waiterAt_75 : decode cX5_waiterAt 75 = .ok (.areturn, 1) := by decide +kernel
theorem dX5_reasonToStay_0 : decode cX5_reasonToStay 0 = .ok (.aload_n 0, 1) := by decide +kernel
theorem dX5_reasonToStay_1 : decode cX5_reasonToStay 1 = .ok (.aload_n 1, 1) := by decide +kernel
theorem dX5_reasonToStay_2 : decode cX5_reasonToStay 2 = .ok (.getfield 118, 3) := by decide +kernel
theorem dX5_reasonToStay_5 : decode cX5_reasonToStay 5 = .ok (.invokevirtual 106, 3) := by decide +kernel
theorem dX5_reasonToStay_8 : decode cX5_reasonToStay 8 = .ok (.astore_n 2, 1) := by decide +kernel
theorem dX5_reasonToStay_9 : decode cX5_reasonToStay 9 = .ok (.aload_n 2, 1) := by decide +kernel
theorem dX5_reasonToStay_10 : decode cX5_reasonToStay 10 = .ok (.ifnonnull 5, 3) := by decide +kernel
theorem dX5_reasonToStay_13 : decode cX5_reasonToStay 13 = .ok (.iconst 1, 1) := by decide +kernel
theorem dX5_reasonToStay_14 : decode cX5_reasonToStay 14 = .ok (.ireturn, 1) := by decide +kernel
theorem dX5_reasonToStay_15 : decode cX5_reasonToStay 15 = .ok (.aload_n 0, 1) := by decide +kernel
theorem dX5_reasonToStay_16 : decode cX5_reasonToStay 16 = .ok (.aload_n 2, 1) := by decide +kernel
theorem dX5_reasonToStay_17 : decode cX5_reasonToStay 17 = .ok (.invokevirtual 156, 3) := by decide +kernel
theorem dX5_reasonToStay_20 : decode cX5_reasonToStay 20 = .ok (.astore_n 3, 1) := by decide +kernel
theorem dX5_reasonToStay_21 : decode cX5_reasonToStay 21 = .ok (.aload_n 3, 1) := by decide +kernel
theorem dX5_reasonToStay_22 : decode cX5_reasonToStay 22 = .ok (.aload_n 1, 1) := by decide +kernel
theorem dX5_reasonToStay_23 : decode cX5_reasonToStay 23 = .ok (.if_acmp .ne 5, 3) := by decide +kernel
theorem dX5_reasonToStay_26 : decode cX5_reasonToStay 26 = .ok (.iconst 0, 1) := by decide +kernel
theorem dX5_reasonToStay_27 : decode cX5_reasonToStay 27 = .ok (.ireturn, 1) := by decide +kernel
theorem dX5_reasonToStay_28 : decode cX5_reasonToStay 28 = .ok (.aload_n 2, 1) := by decide +kernel
theorem dX5_reasonToStay_29 : decode cX5_reasonToStay 29 = .ok (.getfield 124, 3) := by decide +kernel
theorem dX5_reasonToStay_32 : decode cX5_reasonToStay 32 = .ok (.iconst 1, 1) := by decide +kernel
theorem dX5_reasonToStay_33 : decode cX5_reasonToStay 33 = .ok (.if_icmp .ne 5, 3) := by decide +kernel
theorem dX5_reasonToStay_36 : decode cX5_reasonToStay 36 = .ok (.iconst 2, 1) := by decide +kernel
theorem dX5_reasonToStay_37 : decode cX5_reasonToStay 37 = .ok (.ireturn, 1) := by decide +kernel
theorem dX5_reasonToStay_38 : decode cX5_reasonToStay 38 = .ok (.aload_n 0, 1) := by decide +kernel
theorem dX5_reasonToStay_39 : decode cX5_reasonToStay 39 = .ok (.aload_n 2, 1) := by decide +kernel
theorem dX5_reasonToStay_40 : decode cX5_reasonToStay 40 = .ok (.iconst 0, 1) := by decide +kernel
theorem dX5_reasonToStay_41 : decode cX5_reasonToStay 41 = .ok (.invokevirtual 183, 3) := by decide +kernel
theorem dX5_reasonToStay_44 : decode cX5_reasonToStay 44 = .ok (.aload_n 1, 1) := by decide +kernel
theorem dX5_reasonToStay_45 : decode cX5_reasonToStay 45 = .ok (.if_acmp .eq 15, 3) := by decide +kernel
theorem dX5_reasonToStay_48 : decode cX5_reasonToStay 48 = .ok (.aload_n 0, 1) := by decide +kernel
theorem dX5_reasonToStay_49 : decode cX5_reasonToStay 49 = .ok (.aload_n 2, 1) := by decide +kernel
theorem dX5_reasonToStay_50 : decode cX5_reasonToStay 50 = .ok (.iconst 1, 1) := by decide +kernel
theorem dX5_reasonToStay_51 : decode cX5_reasonToStay 51 = .ok (.invokevirtual 183, 3) := by decide +kernel
theorem dX5_reasonToStay_54 : decode cX5_reasonToStay 54 = .ok (.aload_n 1, 1) := by decide +kernel
theorem dX5_reasonToStay_55 : decode cX5_reasonToStay 55 = .ok (.if_acmp .eq 5, 3) := by decide +kernel
theorem dX5_reasonToStay_58 : decode cX5_reasonToStay 58 = .ok (.iconst 3, 1) := by decide +kernel
theorem dX5_reasonToStay_59 : decode cX5_reasonToStay 59 = .ok (.ireturn, 1) := by decide +kernel
theorem dX5_reasonToStay_60 : decode cX5_reasonToStay 60 = .ok (.aload_n 0, 1) := by decide +kernel
theorem dX5_reasonToStay_61 : decode cX5_reasonToStay 61 = .ok (.aload_n 2, 1) := by decide +kernel
theorem dX5_reasonToStay_62 : decode cX5_reasonToStay 62 = .ok (.invokevirtual 152, 3) := by decide +kernel
theorem dX5_reasonToStay_65 : decode cX5_reasonToStay 65 = .ok (.ifCond .ne 5, 3) := by decide +kernel
theorem dX5_reasonToStay_68 : decode cX5_reasonToStay 68 = .ok (.iconst 4, 1) := by decide +kernel
theorem dX5_reasonToStay_69 : decode cX5_reasonToStay 69 = .ok (.ireturn, 1) := by decide +kernel
theorem dX5_reasonToStay_70 : decode cX5_reasonToStay 70 = .ok (.aload_n 3, 1) := by decide +kernel
theorem dX5_reasonToStay_71 : decode cX5_reasonToStay 71 = .ok (.ifnonnull 8, 3) := by decide +kernel
theorem dX5_reasonToStay_74 : decode cX5_reasonToStay 74 = .ok (.bipush 6, 2) := by decide +kernel
theorem dX5_reasonToStay_76 : decode cX5_reasonToStay 76 = .ok (.goto 4, 3) := by decide +kernel
theorem dX5_reasonToStay_79 : decode cX5_reasonToStay 79 = .ok (.iconst 5, 1) := by decide +kernel
theorem dX5_reasonToStay_80 : decode cX5_reasonToStay 80 = .ok (.ireturn, 1) := by decide +kernel
theorem dX5_total_0 : decode cX5_total 0 = .ok (.iload_n 1, 1) := by decide +kernel
theorem dX5_total_1 : decode cX5_total 1 = .ok (.tableswitch 100 0 8 #[51, 56, 61, 66, 71, 78, 84, 90, 95], 51) := by decide +kernel
theorem dX5_total_52 : decode cX5_total 52 = .ok (.aload_n 0, 1) := by decide +kernel
theorem dX5_total_53 : decode cX5_total 53 = .ok (.getfield 63, 3) := by decide +kernel
theorem dX5_total_56 : decode cX5_total 56 = .ok (.ireturn, 1) := by decide +kernel
theorem dX5_total_57 : decode cX5_total 57 = .ok (.aload_n 0, 1) := by decide +kernel
theorem dX5_total_58 : decode cX5_total 58 = .ok (.getfield 57, 3) := by decide +kernel
theorem dX5_total_61 : decode cX5_total 61 = .ok (.ireturn, 1) := by decide +kernel
theorem dX5_total_62 : decode cX5_total 62 = .ok (.aload_n 0, 1) := by decide +kernel
theorem dX5_total_63 : decode cX5_total 63 = .ok (.getfield 60, 3) := by decide +kernel
theorem dX5_total_66 : decode cX5_total 66 = .ok (.ireturn, 1) := by decide +kernel
theorem dX5_total_67 : decode cX5_total 67 = .ok (.aload_n 0, 1) := by decide +kernel
theorem dX5_total_68 : decode cX5_total 68 = .ok (.invokevirtual 201, 3) := by decide +kernel
theorem dX5_total_71 : decode cX5_total 71 = .ok (.ireturn, 1) := by decide +kernel
theorem dX5_total_72 : decode cX5_total 72 = .ok (.aload_n 0, 1) := by decide +kernel
theorem dX5_total_73 : decode cX5_total 73 = .ok (.bipush 6, 2) := by decide +kernel
theorem dX5_total_75 : decode cX5_total 75 = .ok (.invokevirtual 204, 3) := by decide +kernel
theorem dX5_total_78 : decode cX5_total 78 = .ok (.ireturn, 1) := by decide +kernel
theorem dX5_total_79 : decode cX5_total 79 = .ok (.aload_n 0, 1) := by decide +kernel
theorem dX5_total_80 : decode cX5_total 80 = .ok (.iconst 1, 1) := by decide +kernel
theorem dX5_total_81 : decode cX5_total 81 = .ok (.invokevirtual 207, 3) := by decide +kernel
theorem dX5_total_84 : decode cX5_total 84 = .ok (.ireturn, 1) := by decide +kernel
theorem dX5_total_85 : decode cX5_total 85 = .ok (.aload_n 0, 1) := by decide +kernel
theorem dX5_total_86 : decode cX5_total 86 = .ok (.iconst 5, 1) := by decide +kernel
theorem dX5_total_87 : decode cX5_total 87 = .ok (.invokevirtual 204, 3) := by decide +kernel
theorem dX5_total_90 : decode cX5_total 90 = .ok (.ireturn, 1) := by decide +kernel
theorem dX5_total_91 : decode cX5_total 91 = .ok (.aload_n 0, 1) := by decide +kernel
theorem dX5_total_92 : decode cX5_total 92 = .ok (.getfield 66, 3) := by decide +kernel
theorem dX5_total_95 : decode cX5_total 95 = .ok (.ireturn, 1) := by decide +kernel
theorem dX5_total_96 : decode cX5_total 96 = .ok (.aload_n 0, 1) := by decide +kernel
theorem dX5_total_97 : decode cX5_total 97 = .ok (.getfield 69, 3) := by decide +kernel
theorem dX5_total_100 : decode cX5_total 100 = .ok (.ireturn, 1) := by decide +kernel
theorem dX5_total_101 : decode cX5_total 101 = .ok (.iload_n 1, 1) := by decide +kernel
theorem dX5_total_102 : decode cX5_total 102 = .ok (.bipush 9, 2) := by decide +kernel
theorem dX5_total_104 : decode cX5_total 104 = .ok (.isub, 1) := by decide +kernel
theorem dX5_total_105 : decode cX5_total 105 = .ok (.istore_n 2, 1) := by decide +kernel
theorem dX5_total_106 : decode cX5_total 106 = .ok (.iload_n 2, 1) := by decide +kernel
theorem dX5_total_107 : decode cX5_total 107 = .ok (.iconst 4, 1) := by decide +kernel
theorem dX5_total_108 : decode cX5_total 108 = .ok (.invokestatic 72, 3) := by decide +kernel
theorem dX5_total_111 : decode cX5_total 111 = .ok (.ifCond .eq 12, 3) := by decide +kernel
theorem dX5_total_114 : decode cX5_total 114 = .ok (.aload_n 0, 1) := by decide +kernel
theorem dX5_total_115 : decode cX5_total 115 = .ok (.getfield 9, 3) := by decide +kernel
theorem dX5_total_118 : decode cX5_total 118 = .ok (.iload_n 2, 1) := by decide +kernel
theorem dX5_total_119 : decode cX5_total 119 = .ok (.iaload, 1) := by decide +kernel
theorem dX5_total_120 : decode cX5_total 120 = .ok (.goto 5, 3) := by decide +kernel
theorem dX5_total_123 : decode cX5_total 123 = .ok (.bipush (-2), 2) := by decide +kernel
theorem dX5_total_125 : decode cX5_total 125 = .ok (.ireturn, 1) := by decide +kernel
theorem dX5_waitingSet_0 : decode cX5_waitingSet 0 = .ok (.iconst 0, 1) := by decide +kernel
theorem dX5_waitingSet_1 : decode cX5_waitingSet 1 = .ok (.istore_n 1, 1) := by decide +kernel
theorem dX5_waitingSet_2 : decode cX5_waitingSet 2 = .ok (.iconst 0, 1) := by decide +kernel
theorem dX5_waitingSet_3 : decode cX5_waitingSet 3 = .ok (.istore_n 2, 1) := by decide +kernel
theorem dX5_waitingSet_4 : decode cX5_waitingSet 4 = .ok (.iload_n 2, 1) := by decide +kernel
theorem dX5_waitingSet_5 : decode cX5_waitingSet 5 = .ok (.aload_n 0, 1) := by decide +kernel
theorem dX5_waitingSet_6 : decode cX5_waitingSet 6 = .ok (.getfield 60, 3) := by decide +kernel
theorem dX5_waitingSet_9 : decode cX5_waitingSet 9 = .ok (.if_icmp .ge 27, 3) := by decide +kernel
theorem dX5_waitingSet_12 : decode cX5_waitingSet 12 = .ok (.aload_n 0, 1) := by decide +kernel
theorem dX5_waitingSet_13 : decode cX5_waitingSet 13 = .ok (.getfield 23, 3) := by decide +kernel
theorem dX5_waitingSet_16 : decode cX5_waitingSet 16 = .ok (.iload_n 2, 1) := by decide +kernel
theorem dX5_waitingSet_17 : decode cX5_waitingSet 17 = .ok (.aaload, 1) := by decide +kernel
theorem dX5_waitingSet_18 : decode cX5_waitingSet 18 = .ok (.invokevirtual 110, 3) := by decide +kernel
theorem dX5_waitingSet_21 : decode cX5_waitingSet 21 = .ok (.ifCond .eq 9, 3) := by decide +kernel
theorem dX5_waitingSet_24 : decode cX5_waitingSet 24 = .ok (.iload_n 1, 1) := by decide +kernel
theorem dX5_waitingSet_25 : decode cX5_waitingSet 25 = .ok (.iconst 1, 1) := by decide +kernel
theorem dX5_waitingSet_26 : decode cX5_waitingSet 26 = .ok (.iload_n 2, 1) := by decide +kernel
theorem dX5_waitingSet_27 : decode cX5_waitingSet 27 = .ok (.ishl, 1) := by decide +kernel
theorem dX5_waitingSet_28 : decode cX5_waitingSet 28 = .ok (.ior, 1) := by decide +kernel
theorem dX5_waitingSet_29 : decode cX5_waitingSet 29 = .ok (.istore_n 1, 1) := by decide +kernel
theorem dX5_waitingSet_30 : decode cX5_waitingSet 30 = .ok (.iinc 2 1, 3) := by decide +kernel
theorem dX5_waitingSet_33 : decode cX5_waitingSet 33 = .ok (.goto (-29), 3) := by decide +kernel
theorem dX5_waitingSet_36 : decode cX5_waitingSet 36 = .ok (.iload_n 1, 1) := by decide +kernel
theorem dX5_waitingSet_37 : decode cX5_waitingSet 37 = .ok (.ireturn, 1) := by decide +kernel
theorem dX5_sumOverCarts_0 : decode cX5_sumOverCarts 0 = .ok (.iconst 0, 1) := by decide +kernel
theorem dX5_sumOverCarts_1 : decode cX5_sumOverCarts 1 = .ok (.istore_n 2, 1) := by decide +kernel
theorem dX5_sumOverCarts_2 : decode cX5_sumOverCarts 2 = .ok (.iconst 0, 1) := by decide +kernel
theorem dX5_sumOverCarts_3 : decode cX5_sumOverCarts 3 = .ok (.istore_n 3, 1) := by decide +kernel
theorem dX5_sumOverCarts_4 : decode cX5_sumOverCarts 4 = .ok (.iload_n 3, 1) := by decide +kernel
theorem dX5_sumOverCarts_5 : decode cX5_sumOverCarts 5 = .ok (.aload_n 0, 1) := by decide +kernel
theorem dX5_sumOverCarts_6 : decode cX5_sumOverCarts 6 = .ok (.getfield 60, 3) := by decide +kernel
theorem dX5_sumOverCarts_9 : decode cX5_sumOverCarts 9 = .ok (.if_icmp .ge 22, 3) := by decide +kernel
theorem dX5_sumOverCarts_12 : decode cX5_sumOverCarts 12 = .ok (.iload_n 2, 1) := by decide +kernel
theorem dX5_sumOverCarts_13 : decode cX5_sumOverCarts 13 = .ok (.aload_n 0, 1) := by decide +kernel
theorem dX5_sumOverCarts_14 : decode cX5_sumOverCarts 14 = .ok (.getfield 23, 3) := by decide +kernel
theorem dX5_sumOverCarts_17 : decode cX5_sumOverCarts 17 = .ok (.iload_n 3, 1) := by decide +kernel
theorem dX5_sumOverCarts_18 : decode cX5_sumOverCarts 18 = .ok (.aaload, 1) := by decide +kernel
theorem dX5_sumOverCarts_19 : decode cX5_sumOverCarts 19 = .ok (.iload_n 1, 1) := by decide +kernel
theorem dX5_sumOverCarts_20 : decode cX5_sumOverCarts 20 = .ok (.invokevirtual 210, 3) := by decide +kernel
theorem dX5_sumOverCarts_23 : decode cX5_sumOverCarts 23 = .ok (.iadd, 1) := by decide +kernel
theorem dX5_sumOverCarts_24 : decode cX5_sumOverCarts 24 = .ok (.istore_n 2, 1) := by decide +kernel
theorem dX5_sumOverCarts_25 : decode cX5_sumOverCarts 25 = .ok (.iinc 3 1, 3) := by decide +kernel
theorem dX5_sumOverCarts_28 : decode cX5_sumOverCarts 28 = .ok (.goto (-24), 3) := by decide +kernel
theorem dX5_sumOverCarts_31 : decode cX5_sumOverCarts 31 = .ok (.iload_n 2, 1) := by decide +kernel
theorem dX5_sumOverCarts_32 : decode cX5_sumOverCarts 32 = .ok (.ireturn, 1) := by decide +kernel
theorem dX5_sumOverBridges_0 : decode cX5_sumOverBridges 0 = .ok (.iconst 0, 1) := by decide +kernel
theorem dX5_sumOverBridges_1 : decode cX5_sumOverBridges 1 = .ok (.istore_n 2, 1) := by decide +kernel
theorem dX5_sumOverBridges_2 : decode cX5_sumOverBridges 2 = .ok (.iconst 0, 1) := by decide +kernel
theorem dX5_sumOverBridges_3 : decode cX5_sumOverBridges 3 = .ok (.istore_n 3, 1) := by decide +kernel
theorem dX5_sumOverBridges_4 : decode cX5_sumOverBridges 4 = .ok (.iload_n 3, 1) := by decide +kernel
theorem dX5_sumOverBridges_5 : decode cX5_sumOverBridges 5 = .ok (.aload_n 0, 1) := by decide +kernel
theorem dX5_sumOverBridges_6 : decode cX5_sumOverBridges 6 = .ok (.getfield 57, 3) := by decide +kernel
theorem dX5_sumOverBridges_9 : decode cX5_sumOverBridges 9 = .ok (.if_icmp .ge 22, 3) := by decide +kernel
theorem dX5_sumOverBridges_12 : decode cX5_sumOverBridges 12 = .ok (.iload_n 2, 1) := by decide +kernel
theorem dX5_sumOverBridges_13 : decode cX5_sumOverBridges 13 = .ok (.aload_n 0, 1) := by decide +kernel
theorem dX5_sumOverBridges_14 : decode cX5_sumOverBridges 14 = .ok (.getfield 17, 3) := by decide +kernel
theorem dX5_sumOverBridges_17 : decode cX5_sumOverBridges 17 = .ok (.iload_n 3, 1) := by decide +kernel
theorem dX5_sumOverBridges_18 : decode cX5_sumOverBridges 18 = .ok (.aaload, 1) := by decide +kernel
theorem dX5_sumOverBridges_19 : decode cX5_sumOverBridges 19 = .ok (.iload_n 1, 1) := by decide +kernel
theorem dX5_sumOverBridges_20 : decode cX5_sumOverBridges 20 = .ok (.invokevirtual 213, 3) := by decide +kernel
theorem dX5_sumOverBridges_23 : decode cX5_sumOverBridges 23 = .ok (.iadd, 1) := by decide +kernel
theorem dX5_sumOverBridges_24 : decode cX5_sumOverBridges 24 = .ok (.istore_n 2, 1) := by decide +kernel
theorem dX5_sumOverBridges_25 : decode cX5_sumOverBridges 25 = .ok (.iinc 3 1, 3) := by decide +kernel
theorem dX5_sumOverBridges_28 : decode cX5_sumOverBridges 28 = .ok (.goto (-24), 3) := by decide +kernel
theorem dX5_sumOverBridges_31 : decode cX5_sumOverBridges 31 = .ok (.iload_n 2, 1) := by decide +kernel
theorem dX5_sumOverBridges_32 : decode cX5_sumOverBridges 32 = .ok (.ireturn, 1) := by decide +kernel
theorem dX6_init_0 : decode cX6_init 0 = .ok (.aload_n 0, 1) := by decide +kernel
theorem dX6_init_1 : decode cX6_init 1 = .ok (.invokespecial 1, 3) := by decide +kernel
theorem dX6_init_4 : decode cX6_init 4 = .ok (.aload_n 0, 1) := by decide +kernel
theorem dX6_init_5 : decode cX6_init 5 = .ok (.new 7, 3) := by decide +kernel
theorem dX6_init_8 : decode cX6_init 8 = .ok (.dup, 1) := by decide +kernel
theorem dX6_init_9 : decode cX6_init 9 = .ok (.invokespecial 9, 3) := by decide +kernel
theorem dX6_init_12 : decode cX6_init 12 = .ok (.putfield 10, 3) := by decide +kernel
theorem dX6_init_15 : decode cX6_init 15 = .ok (.aload_n 0, 1) := by decide +kernel
theorem dX6_init_16 : decode cX6_init 16 = .ok (.new 7, 3) := by decide +kernel
theorem dX6_init_19 : decode cX6_init 19 = .ok (.dup, 1) := by decide +kernel
theorem dX6_init_20 : decode cX6_init 20 = .ok (.invokespecial 9, 3) := by decide +kernel
theorem dX6_init_23 : decode cX6_init 23 = .ok (.putfield 16, 3) := by decide +kernel
theorem dX6_init_26 : decode cX6_init 26 = .ok (.aload_n 0, 1) := by decide +kernel
theorem dX6_init_27 : decode cX6_init 27 = .ok (.new 19, 3) := by decide +kernel
theorem dX6_init_30 : decode cX6_init 30 = .ok (.dup, 1) := by decide +kernel
theorem dX6_init_31 : decode cX6_init 31 = .ok (.invokespecial 21, 3) := by decide +kernel
theorem dX6_init_34 : decode cX6_init 34 = .ok (.putfield 22, 3) := by decide +kernel
theorem dX6_init_37 : decode cX6_init 37 = .ok (.aload_n 0, 1) := by decide +kernel
theorem dX6_init_38 : decode cX6_init 38 = .ok (.iconst 2, 1) := by decide +kernel
theorem dX6_init_39 : decode cX6_init 39 = .ok (.anewarray 7, 3) := by decide +kernel
theorem dX6_init_42 : decode cX6_init 42 = .ok (.dup, 1) := by decide +kernel
theorem dX6_init_43 : decode cX6_init 43 = .ok (.iconst 0, 1) := by decide +kernel
theorem dX6_init_44 : decode cX6_init 44 = .ok (.new 7, 3) := by decide +kernel
theorem dX6_init_47 : decode cX6_init 47 = .ok (.dup, 1) := by decide +kernel
theorem dX6_init_48 : decode cX6_init 48 = .ok (.invokespecial 9, 3) := by decide +kernel
theorem dX6_init_51 : decode cX6_init 51 = .ok (.aastore, 1) := by decide +kernel
theorem dX6_init_52 : decode cX6_init 52 = .ok (.dup, 1) := by decide +kernel
theorem dX6_init_53 : decode cX6_init 53 = .ok (.iconst 1, 1) := by decide +kernel
theorem dX6_init_54 : decode cX6_init 54 = .ok (.new 7, 3) := by decide +kernel
theorem dX6_init_57 : decode cX6_init 57 = .ok (.dup, 1) := by decide +kernel
theorem dX6_init_58 : decode cX6_init 58 = .ok (.invokespecial 9, 3) := by decide +kernel
theorem dX6_init_61 : decode cX6_init 61 = .ok (.aastore, 1) := by decide +kernel
theorem dX6_init_62 : decode cX6_init 62 = .ok (.putfield 26, 3) := by decide +kernel
theorem dX6_init_65 : decode cX6_init 65 = .ok (.aload_n 0, 1) := by decide +kernel
theorem dX6_init_66 : decode cX6_init 66 = .ok (.iconst 2, 1) := by decide +kernel
theorem dX6_init_67 : decode cX6_init 67 = .ok (.newarray .boolean, 2) := by decide +kernel
theorem dX6_init_69 : decode cX6_init 69 = .ok (.putfield 30, 3) := by decide +kernel
theorem dX6_init_72 : decode cX6_init 72 = .ok (.aload_n 0, 1) := by decide +kernel
theorem dX6_init_73 : decode cX6_init 73 = .ok (.new 34, 3) := by decide +kernel
theorem dX6_init_76 : decode cX6_init 76 = .ok (.dup, 1) := by decide +kernel
theorem dX6_init_77 : decode cX6_init 77 = .ok (.invokespecial 36, 3) := by decide +kernel
theorem dX6_init_80 : decode cX6_init 80 = .ok (.putfield 37, 3) := by decide +kernel
theorem dX6_init_83 : decode cX6_init 83 = .ok (.aload_n 0, 1) := by decide +kernel
theorem dX6_init_84 : decode cX6_init 84 = .ok (.new 41, 3) := by decide +kernel
theorem dX6_init_87 : decode cX6_init 87 = .ok (.dup, 1) := by decide +kernel
theorem dX6_init_88 : decode cX6_init 88 = .ok (.aload_n 0, 1) := by decide +kernel
theorem dX6_init_89 : decode cX6_init 89 = .ok (.getfield 37, 3) := by decide +kernel
theorem dX6_init_92 : decode cX6_init 92 = .ok (.invokespecial 43, 3) := by decide +kernel
theorem dX6_init_95 : decode cX6_init 95 = .ok (.putfield 46, 3) := by decide +kernel
theorem dX6_init_98 : decode cX6_init 98 = .ok (.return_, 1) := by decide +kernel
theorem dX6_set_0 : decode cX6_set 0 = .ok (.aload_n 0, 1) := by decide +kernel
theorem dX6_set_1 : decode cX6_set 1 = .ok (.getfield 22, 3) := by decide +kernel
theorem dX6_set_4 : decode cX6_set 4 = .ok (.aload_n 0, 1) := by decide +kernel
theorem dX6_set_5 : decode cX6_set 5 = .ok (.getfield 10, 3) := by decide +kernel
theorem dX6_set_8 : decode cX6_set 8 = .ok (.invokevirtual 50, 3) := by decide +kernel
theorem dX6_set_11 : decode cX6_set 11 = .ok (.aload_n 0, 1) := by decide +kernel
theorem dX6_set_12 : decode cX6_set 12 = .ok (.aload_n 0, 1) := by decide +kernel
theorem dX6_set_13 : decode cX6_set 13 = .ok (.getfield 10, 3) := by decide +kernel
theorem dX6_set_16 : decode cX6_set 16 = .ok (.iload_n 1, 1) := by decide +kernel
theorem dX6_set_17 : decode cX6_set 17 = .ok (.iload_n 2, 1) := by decide +kernel
theorem dX6_set_18 : decode cX6_set 18 = .ok (.invokevirtual 54, 3) := by decide +kernel
theorem dX6_set_21 : decode cX6_set 21 = .ok (.invokevirtual 58, 3) := by decide +kernel
theorem dX6_set_24 : decode cX6_set 24 = .ok (.ireturn, 1) := by decide +kernel
theorem dX6_bridge_0 : decode cX6_bridge 0 = .ok (.aload_n 0, 1) := by decide +kernel
theorem dX6_bridge_1 : decode cX6_bridge 1 = .ok (.getfield 22, 3) := by decide +kernel
theorem dX6_bridge_4 : decode cX6_bridge 4 = .ok (.aload_n 0, 1) := by decide +kernel
theorem dX6_bridge_5 : decode cX6_bridge 5 = .ok (.getfield 10, 3) := by decide +kernel
theorem dX6_bridge_8 : decode cX6_bridge 8 = .ok (.invokevirtual 50, 3) := by decide +kernel
theorem dX6_bridge_11 : decode cX6_bridge 11 = .ok (.aload_n 0, 1) := by decide +kernel
theorem dX6_bridge_12 : decode cX6_bridge 12 = .ok (.aload_n 0, 1) := by decide +kernel
theorem dX6_bridge_13 : decode cX6_bridge 13 = .ok (.getfield 10, 3) := by decide +kernel
theorem dX6_bridge_16 : decode cX6_bridge 16 = .ok (.iload_n 1, 1) := by decide +kernel
theorem dX6_bridge_17 : decode cX6_bridge 17 = .ok (.iload_n 2, 1) := by decide +kernel
theorem dX6_bridge_18 : decode cX6_bridge 18 = .ok (.iload_n 3, 1) := by decide +kernel
theorem dX6_bridge_19 : decode cX6_bridge 19 = .ok (.invokevirtual 62, 3) := by decide +kernel
theorem dX6_bridge_22 : decode cX6_bridge 22 = .ok (.invokevirtual 58, 3) := by decide +kernel
theorem dX6_bridge_25 : decode cX6_bridge 25 = .ok (.ireturn, 1) := by decide +kernel
theorem dX6_cart_0 : decode cX6_cart 0 = .ok (.aload_n 0, 1) := by decide +kernel
theorem dX6_cart_1 : decode cX6_cart 1 = .ok (.getfield 22, 3) := by decide +kernel
theorem dX6_cart_4 : decode cX6_cart 4 = .ok (.aload_n 0, 1) := by decide +kernel
theorem dX6_cart_5 : decode cX6_cart 5 = .ok (.getfield 10, 3) := by decide +kernel
theorem dX6_cart_8 : decode cX6_cart 8 = .ok (.invokevirtual 50, 3) := by decide +kernel
theorem dX6_cart_11 : decode cX6_cart 11 = .ok (.aload_n 0, 1) := by decide +kernel
theorem dX6_cart_12 : decode cX6_cart 12 = .ok (.aload_n 0, 1) := by decide +kernel
theorem dX6_cart_13 : decode cX6_cart 13 = .ok (.getfield 10, 3) := by decide +kernel
theorem dX6_cart_16 : decode cX6_cart 16 = .ok (.iload_n 1, 1) := by decide +kernel
theorem dX6_cart_17 : decode cX6_cart 17 = .ok (.iload_n 2, 1) := by decide +kernel
theorem dX6_cart_18 : decode cX6_cart 18 = .ok (.invokevirtual 66, 3) := by decide +kernel
theorem dX6_cart_21 : decode cX6_cart 21 = .ok (.invokevirtual 58, 3) := by decide +kernel
theorem dX6_cart_24 : decode cX6_cart 24 = .ok (.ireturn, 1) := by decide +kernel
theorem dX6_guess_0 : decode cX6_guess 0 = .ok (.aload_n 0, 1) := by decide +kernel
theorem dX6_guess_1 : decode cX6_guess 1 = .ok (.getfield 22, 3) := by decide +kernel
theorem dX6_guess_4 : decode cX6_guess 4 = .ok (.aload_n 0, 1) := by decide +kernel
theorem dX6_guess_5 : decode cX6_guess 5 = .ok (.getfield 10, 3) := by decide +kernel
theorem dX6_guess_8 : decode cX6_guess 8 = .ok (.invokevirtual 50, 3) := by decide +kernel
theorem dX6_guess_11 : decode cX6_guess 11 = .ok (.aload_n 0, 1) := by decide +kernel
theorem dX6_guess_12 : decode cX6_guess 12 = .ok (.aload_n 0, 1) := by decide +kernel
theorem dX6_guess_13 : decode cX6_guess 13 = .ok (.getfield 10, 3) := by decide +kernel
theorem dX6_guess_16 : decode cX6_guess 16 = .ok (.iload_n 1, 1) := by decide +kernel
theorem dX6_guess_17 : decode cX6_guess 17 = .ok (.iload_n 2, 1) := by decide +kernel
theorem dX6_guess_18 : decode cX6_guess 18 = .ok (.iload_n 3, 1) := by decide +kernel
theorem dX6_guess_19 : decode cX6_guess 19 = .ok (.invokevirtual 69, 3) := by decide +kernel
theorem dX6_guess_22 : decode cX6_guess 22 = .ok (.invokevirtual 58, 3) := by decide +kernel
theorem dX6_guess_25 : decode cX6_guess 25 = .ok (.ireturn, 1) := by decide +kernel
theorem dX6_leave_0 : decode cX6_leave 0 = .ok (.aload_n 0, 1) := by decide +kernel
theorem dX6_leave_1 : decode cX6_leave 1 = .ok (.getfield 22, 3) := by decide +kernel
theorem dX6_leave_4 : decode cX6_leave 4 = .ok (.aload_n 0, 1) := by decide +kernel
theorem dX6_leave_5 : decode cX6_leave 5 = .ok (.getfield 10, 3) := by decide +kernel
theorem dX6_leave_8 : decode cX6_leave 8 = .ok (.invokevirtual 50, 3) := by decide +kernel
theorem dX6_leave_11 : decode cX6_leave 11 = .ok (.aload_n 0, 1) := by decide +kernel
theorem dX6_leave_12 : decode cX6_leave 12 = .ok (.aload_n 0, 1) := by decide +kernel
theorem dX6_leave_13 : decode cX6_leave 13 = .ok (.getfield 10, 3) := by decide +kernel
theorem dX6_leave_16 : decode cX6_leave 16 = .ok (.iload_n 1, 1) := by decide +kernel
theorem dX6_leave_17 : decode cX6_leave 17 = .ok (.invokevirtual 72, 3) := by decide +kernel
theorem dX6_leave_20 : decode cX6_leave 20 = .ok (.invokevirtual 58, 3) := by decide +kernel
theorem dX6_leave_23 : decode cX6_leave 23 = .ok (.ireturn, 1) := by decide +kernel
theorem dX6_hint_0 : decode cX6_hint 0 = .ok (.aload_n 0, 1) := by decide +kernel
theorem dX6_hint_1 : decode cX6_hint 1 = .ok (.getfield 22, 3) := by decide +kernel
theorem dX6_hint_4 : decode cX6_hint 4 = .ok (.aload_n 0, 1) := by decide +kernel
theorem dX6_hint_5 : decode cX6_hint 5 = .ok (.getfield 10, 3) := by decide +kernel
theorem dX6_hint_8 : decode cX6_hint 8 = .ok (.invokevirtual 50, 3) := by decide +kernel
theorem dX6_hint_11 : decode cX6_hint 11 = .ok (.aload_n 0, 1) := by decide +kernel
theorem dX6_hint_12 : decode cX6_hint 12 = .ok (.aload_n 0, 1) := by decide +kernel
theorem dX6_hint_13 : decode cX6_hint 13 = .ok (.getfield 10, 3) := by decide +kernel
theorem dX6_hint_16 : decode cX6_hint 16 = .ok (.iload_n 1, 1) := by decide +kernel
theorem dX6_hint_17 : decode cX6_hint 17 = .ok (.iload_n 2, 1) := by decide +kernel
theorem dX6_hint_18 : decode cX6_hint 18 = .ok (.invokevirtual 75, 3) := by decide +kernel
theorem dX6_hint_21 : decode cX6_hint 21 = .ok (.invokevirtual 58, 3) := by decide +kernel
theorem dX6_hint_24 : decode cX6_hint 24 = .ok (.ireturn, 1) := by decide +kernel
theorem dX6_pass_0 : decode cX6_pass 0 = .ok (.aload_n 0, 1) := by decide +kernel
theorem dX6_pass_1 : decode cX6_pass 1 = .ok (.getfield 22, 3) := by decide +kernel
theorem dX6_pass_4 : decode cX6_pass 4 = .ok (.aload_n 0, 1) := by decide +kernel
theorem dX6_pass_5 : decode cX6_pass 5 = .ok (.getfield 10, 3) := by decide +kernel
theorem dX6_pass_8 : decode cX6_pass 8 = .ok (.invokevirtual 50, 3) := by decide +kernel
theorem dX6_pass_11 : decode cX6_pass 11 = .ok (.aload_n 0, 1) := by decide +kernel
theorem dX6_pass_12 : decode cX6_pass 12 = .ok (.aload_n 0, 1) := by decide +kernel
theorem dX6_pass_13 : decode cX6_pass 13 = .ok (.getfield 10, 3) := by decide +kernel
theorem dX6_pass_16 : decode cX6_pass 16 = .ok (.iload_n 1, 1) := by decide +kernel
theorem dX6_pass_17 : decode cX6_pass 17 = .ok (.invokevirtual 78, 3) := by decide +kernel
theorem dX6_pass_20 : decode cX6_pass 20 = .ok (.invokevirtual 58, 3) := by decide +kernel
theorem dX6_pass_23 : decode cX6_pass 23 = .ok (.ireturn, 1) := by decide +kernel
theorem dX6_write_0 : decode cX6_write 0 = .ok (.aload_n 0, 1) := by decide +kernel
theorem dX6_write_1 : decode cX6_write 1 = .ok (.getfield 10, 3) := by decide +kernel
theorem dX6_write_4 : decode cX6_write 4 = .ok (.iload_n 1, 1) := by decide +kernel
theorem dX6_write_5 : decode cX6_write 5 = .ok (.invokevirtual 81, 3) := by decide +kernel
theorem dX6_write_8 : decode cX6_write 8 = .ok (.astore_n 2, 1) := by decide +kernel
theorem dX6_write_9 : decode cX6_write 9 = .ok (.aload_n 2, 1) := by decide +kernel
theorem dX6_write_10 : decode cX6_write 10 = .ok (.ifnonnull 5, 3) := by decide +kernel
theorem dX6_write_13 : decode cX6_write 13 = .ok (.iconst (-1), 1) := by decide +kernel
theorem dX6_write_14 : decode cX6_write 14 = .ok (.ireturn, 1) := by decide +kernel
theorem dX6_write_15 : decode cX6_write 15 = .ok (.aload_n 0, 1) := by decide +kernel
theorem dX6_write_16 : decode cX6_write 16 = .ok (.getfield 37, 3) := by decide +kernel
theorem dX6_write_19 : decode cX6_write 19 = .ok (.invokevirtual 85, 3) := by decide +kernel
theorem dX6_write_22 : decode cX6_write 22 = .ok (.aload_n 0, 1) := by decide +kernel
theorem dX6_write_23 : decode cX6_write 23 = .ok (.aload_n 2, 1) := by decide +kernel
theorem dX6_write_24 : decode cX6_write 24 = .ok (.invokevirtual 88, 3) := by decide +kernel
theorem dX6_write_27 : decode cX6_write 27 = .ok (.aload_n 0, 1) := by decide +kernel
theorem dX6_write_28 : decode cX6_write 28 = .ok (.getfield 37, 3) := by decide +kernel
theorem dX6_write_31 : decode cX6_write 31 = .ok (.getfield 92, 3) := by decide +kernel
theorem dX6_write_34 : decode cX6_write 34 = .ok (.ireturn, 1) := by decide +kernel
theorem dX6_ofBridge_0 : decode cX6_ofBridge 0 = .ok (.aload_n 0, 1) := by decide +kernel
theorem dX6_ofBridge_1 : decode cX6_ofBridge 1 = .ok (.getfield 10, 3) := by decide +kernel
theorem dX6_ofBridge_4 : decode cX6_ofBridge 4 = .ok (.iload_n 1, 1) := by decide +kernel
theorem dX6_ofBridge_5 : decode cX6_ofBridge 5 = .ok (.invokevirtual 96, 3) := by decide +kernel
theorem dX6_ofBridge_8 : decode cX6_ofBridge 8 = .ok (.astore_n 3, 1) := by decide +kernel
theorem dX6_ofBridge_9 : decode cX6_ofBridge 9 = .ok (.aload_n 3, 1) := by decide +kernel
theorem dX6_ofBridge_10 : decode cX6_ofBridge 10 = .ok (.ifnonnull 5, 3) := by decide +kernel
theorem dX6_ofBridge_13 : decode cX6_ofBridge 13 = .ok (.iconst (-1), 1) := by decide +kernel
theorem dX6_ofBridge_14 : decode cX6_ofBridge 14 = .ok (.ireturn, 1) := by decide +kernel
theorem dX6_ofBridge_15 : decode cX6_ofBridge 15 = .ok (.iload_n 2, 1) := by decide +kernel
theorem dX6_ofBridge_16 : decode cX6_ofBridge 16 = .ok (.bipush 8, 2) := by decide +kernel
theorem dX6_ofBridge_18 : decode cX6_ofBridge 18 = .ok (.invokestatic 100, 3) := by decide +kernel
theorem dX6_ofBridge_21 : decode cX6_ofBridge 21 = .ok (.ifCond .eq 11, 3) := by decide +kernel
theorem dX6_ofBridge_24 : decode cX6_ofBridge 24 = .ok (.aload_n 3, 1) := by decide +kernel
theorem dX6_ofBridge_25 : decode cX6_ofBridge 25 = .ok (.iload_n 2, 1) := by decide +kernel
theorem dX6_ofBridge_26 : decode cX6_ofBridge 26 = .ok (.invokevirtual 104, 3) := by decide +kernel
theorem dX6_ofBridge_29 : decode cX6_ofBridge 29 = .ok (.goto 5, 3) := by decide +kernel
theorem dX6_ofBridge_32 : decode cX6_ofBridge 32 = .ok (.bipush (-2), 2) := by decide +kernel
theorem dX6_ofBridge_34 : decode cX6_ofBridge 34 = .ok (.ireturn, 1) := by decide +kernel
theorem dX6_ofCart_0 : decode cX6_ofCart 0 = .ok (.aload_n 0, 1) := by decide +kernel
theorem dX6_ofCart_1 : decode cX6_ofCart 1 = .ok (.getfield 10, 3) := by decide +kernel
theorem dX6_ofCart_4 : decode cX6_ofCart 4 = .ok (.iload_n 1, 1) := by decide +kernel
theorem dX6_ofCart_5 : decode cX6_ofCart 5 = .ok (.invokevirtual 81, 3) := by decide +kernel
theorem dX6_ofCart_8 : decode cX6_ofCart 8 = .ok (.astore_n 3, 1) := by decide +kernel
theorem dX6_ofCart_9 : decode cX6_ofCart 9 = .ok (.aload_n 3, 1) := by decide +kernel
theorem dX6_ofCart_10 : decode cX6_ofCart 10 = .ok (.ifnonnull 5, 3) := by decide +kernel
theorem dX6_ofCart_13 : decode cX6_ofCart 13 = .ok (.iconst (-1), 1) := by decide +kernel
theorem dX6_ofCart_14 : decode cX6_ofCart 14 = .ok (.ireturn, 1) := by decide +kernel
theorem dX6_ofCart_15 : decode cX6_ofCart 15 = .ok (.iload_n 2, 1) := by decide +kernel
theorem dX6_ofCart_16 : decode cX6_ofCart 16 = .ok (.bipush 8, 2) := by decide +kernel
theorem dX6_ofCart_18 : decode cX6_ofCart 18 = .ok (.invokestatic 100, 3) := by decide +kernel
theorem dX6_ofCart_21 : decode cX6_ofCart 21 = .ok (.ifCond .eq 11, 3) := by decide +kernel
theorem dX6_ofCart_24 : decode cX6_ofCart 24 = .ok (.aload_n 3, 1) := by decide +kernel
theorem dX6_ofCart_25 : decode cX6_ofCart 25 = .ok (.iload_n 2, 1) := by decide +kernel
theorem dX6_ofCart_26 : decode cX6_ofCart 26 = .ok (.invokevirtual 109, 3) := by decide +kernel
theorem dX6_ofCart_29 : decode cX6_ofCart 29 = .ok (.goto 5, 3) := by decide +kernel
theorem dX6_ofCart_32 : decode cX6_ofCart 32 = .ok (.bipush (-2), 2) := by decide +kernel
theorem dX6_ofCart_34 : decode cX6_ofCart 34 = .ok (.ireturn, 1) := by decide +kernel
theorem dX6_knows_0 : decode cX6_knows 0 = .ok (.aload_n 0, 1) := by decide +kernel
theorem dX6_knows_1 : decode cX6_knows 1 = .ok (.getfield 10, 3) := by decide +kernel
theorem dX6_knows_4 : decode cX6_knows 4 = .ok (.iload_n 1, 1) := by decide +kernel
theorem dX6_knows_5 : decode cX6_knows 5 = .ok (.invokevirtual 81, 3) := by decide +kernel
theorem dX6_knows_8 : decode cX6_knows 8 = .ok (.astore 4, 2) := by decide +kernel
theorem dX6_knows_10 : decode cX6_knows 10 = .ok (.aload_n 0, 1) := by decide +kernel
theorem dX6_knows_11 : decode cX6_knows 11 = .ok (.getfield 10, 3) := by decide +kernel
theorem dX6_knows_14 : decode cX6_knows 14 = .ok (.iload_n 2, 1) := by decide +kernel
theorem dX6_knows_15 : decode cX6_knows 15 = .ok (.invokevirtual 96, 3) := by decide +kernel
theorem dX6_knows_18 : decode cX6_knows 18 = .ok (.astore 5, 2) := by decide +kernel
theorem dX6_knows_20 : decode cX6_knows 20 = .ok (.aload 4, 2) := by decide +kernel
theorem dX6_knows_22 : decode cX6_knows 22 = .ok (.ifnull 8, 3) := by decide +kernel
theorem dX6_knows_25 : decode cX6_knows 25 = .ok (.aload 5, 2) := by decide +kernel
theorem dX6_knows_27 : decode cX6_knows 27 = .ok (.ifnonnull 5, 3) := by decide +kernel
theorem dX6_knows_30 : decode cX6_knows 30 = .ok (.iconst (-1), 1) := by decide +kernel
theorem dX6_knows_31 : decode cX6_knows 31 = .ok (.ireturn, 1) := by decide +kernel
theorem dX6_knows_32 : decode cX6_knows 32 = .ok (.iload_n 3, 1) := by decide +kernel
