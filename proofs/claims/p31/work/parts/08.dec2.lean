theorem dX6_knows_33 : decode cX6_knows 33 = .ok (.iconst 2, 1) := by decide +kernel
theorem dX6_knows_34 : decode cX6_knows 34 = .ok (.invokestatic 100, 3) := by decide +kernel
theorem dX6_knows_37 : decode cX6_knows 37 = .ok (.ifCond .ne 6, 3) := by decide +kernel
theorem dX6_knows_40 : decode cX6_knows 40 = .ok (.bipush (-2), 2) := by decide +kernel
theorem dX6_knows_42 : decode cX6_knows 42 = .ok (.ireturn, 1) := by decide +kernel
theorem dX6_knows_43 : decode cX6_knows 43 = .ok (.iload_n 3, 1) := by decide +kernel
theorem dX6_knows_44 : decode cX6_knows 44 = .ok (.ifCond .ne 13, 3) := by decide +kernel
theorem dX6_knows_47 : decode cX6_knows 47 = .ok (.aload 4, 2) := by decide +kernel
theorem dX6_knows_49 : decode cX6_knows 49 = .ok (.aload 5, 2) := by decide +kernel
theorem dX6_knows_51 : decode cX6_knows 51 = .ok (.invokevirtual 112, 3) := by decide +kernel
theorem dX6_knows_54 : decode cX6_knows 54 = .ok (.goto 10, 3) := by decide +kernel
theorem dX6_knows_57 : decode cX6_knows 57 = .ok (.aload 4, 2) := by decide +kernel
theorem dX6_knows_59 : decode cX6_knows 59 = .ok (.aload 5, 2) := by decide +kernel
theorem dX6_knows_61 : decode cX6_knows 61 = .ok (.invokevirtual 116, 3) := by decide +kernel
theorem dX6_knows_64 : decode cX6_knows 64 = .ok (.ireturn, 1) := by decide +kernel
theorem dX6_waits_0 : decode cX6_waits 0 = .ok (.aload_n 0, 1) := by decide +kernel
theorem dX6_waits_1 : decode cX6_waits 1 = .ok (.getfield 10, 3) := by decide +kernel
theorem dX6_waits_4 : decode cX6_waits 4 = .ok (.iload_n 1, 1) := by decide +kernel
theorem dX6_waits_5 : decode cX6_waits 5 = .ok (.invokevirtual 96, 3) := by decide +kernel
theorem dX6_waits_8 : decode cX6_waits 8 = .ok (.astore_n 3, 1) := by decide +kernel
theorem dX6_waits_9 : decode cX6_waits 9 = .ok (.aload_n 3, 1) := by decide +kernel
theorem dX6_waits_10 : decode cX6_waits 10 = .ok (.ifnull 14, 3) := by decide +kernel
theorem dX6_waits_13 : decode cX6_waits 13 = .ok (.iload_n 2, 1) := by decide +kernel
theorem dX6_waits_14 : decode cX6_waits 14 = .ok (.aload_n 3, 1) := by decide +kernel
theorem dX6_waits_15 : decode cX6_waits 15 = .ok (.getfield 119, 3) := by decide +kernel
theorem dX6_waits_18 : decode cX6_waits 18 = .ok (.invokestatic 100, 3) := by decide +kernel
theorem dX6_waits_21 : decode cX6_waits 21 = .ok (.ifCond .ne 5, 3) := by decide +kernel
theorem dX6_waits_24 : decode cX6_waits 24 = .ok (.iconst (-1), 1) := by decide +kernel
theorem dX6_waits_25 : decode cX6_waits 25 = .ok (.ireturn, 1) := by decide +kernel
theorem dX6_waits_26 : decode cX6_waits 26 = .ok (.aload_n 0, 1) := by decide +kernel
theorem dX6_waits_27 : decode cX6_waits 27 = .ok (.getfield 10, 3) := by decide +kernel
theorem dX6_waits_30 : decode cX6_waits 30 = .ok (.aload_n 3, 1) := by decide +kernel
theorem dX6_waits_31 : decode cX6_waits 31 = .ok (.iload_n 2, 1) := by decide +kernel
theorem dX6_waits_32 : decode cX6_waits 32 = .ok (.invokevirtual 122, 3) := by decide +kernel
theorem dX6_waits_35 : decode cX6_waits 35 = .ok (.iconst (-1), 1) := by decide +kernel
theorem dX6_waits_36 : decode cX6_waits 36 = .ok (.invokestatic 126, 3) := by decide +kernel
theorem dX6_waits_39 : decode cX6_waits 39 = .ok (.ireturn, 1) := by decide +kernel
theorem dX6_sign_0 : decode cX6_sign 0 = .ok (.aload_n 0, 1) := by decide +kernel
theorem dX6_sign_1 : decode cX6_sign 1 = .ok (.getfield 37, 3) := by decide +kernel
theorem dX6_sign_4 : decode cX6_sign 4 = .ok (.iload_n 1, 1) := by decide +kernel
theorem dX6_sign_5 : decode cX6_sign 5 = .ok (.invokevirtual 130, 3) := by decide +kernel
theorem dX6_sign_8 : decode cX6_sign 8 = .ok (.ireturn, 1) := by decide +kernel
theorem dX6_count_0 : decode cX6_count 0 = .ok (.iload_n 1, 1) := by decide +kernel
theorem dX6_count_1 : decode cX6_count 1 = .ok (.bipush 15, 2) := by decide +kernel
theorem dX6_count_3 : decode cX6_count 3 = .ok (.invokestatic 100, 3) := by decide +kernel
theorem dX6_count_6 : decode cX6_count 6 = .ok (.ifCond .ne 6, 3) := by decide +kernel
theorem dX6_count_9 : decode cX6_count 9 = .ok (.bipush (-2), 2) := by decide +kernel
theorem dX6_count_11 : decode cX6_count 11 = .ok (.ireturn, 1) := by decide +kernel
theorem dX6_count_12 : decode cX6_count 12 = .ok (.iload_n 1, 1) := by decide +kernel
theorem dX6_count_13 : decode cX6_count 13 = .ok (.lookupswitch 43 #[(13, 27), (14, 35)], 27) := by decide +kernel
theorem dX6_count_40 : decode cX6_count 40 = .ok (.aload_n 0, 1) := by decide +kernel
theorem dX6_count_41 : decode cX6_count 41 = .ok (.getfield 37, 3) := by decide +kernel
theorem dX6_count_44 : decode cX6_count 44 = .ok (.getfield 92, 3) := by decide +kernel
theorem dX6_count_47 : decode cX6_count 47 = .ok (.ireturn, 1) := by decide +kernel
theorem dX6_count_48 : decode cX6_count 48 = .ok (.aload_n 0, 1) := by decide +kernel
theorem dX6_count_49 : decode cX6_count 49 = .ok (.getfield 22, 3) := by decide +kernel
theorem dX6_count_52 : decode cX6_count 52 = .ok (.getfield 133, 3) := by decide +kernel
theorem dX6_count_55 : decode cX6_count 55 = .ok (.ireturn, 1) := by decide +kernel
theorem dX6_count_56 : decode cX6_count 56 = .ok (.aload_n 0, 1) := by decide +kernel
theorem dX6_count_57 : decode cX6_count 57 = .ok (.getfield 10, 3) := by decide +kernel
theorem dX6_count_60 : decode cX6_count 60 = .ok (.iload_n 1, 1) := by decide +kernel
theorem dX6_count_61 : decode cX6_count 61 = .ok (.invokevirtual 136, 3) := by decide +kernel
theorem dX6_count_64 : decode cX6_count 64 = .ok (.ireturn, 1) := by decide +kernel
theorem dX6_next_0 : decode cX6_next 0 = .ok (.aload_n 0, 1) := by decide +kernel
theorem dX6_next_1 : decode cX6_next 1 = .ok (.getfield 10, 3) := by decide +kernel
theorem dX6_next_4 : decode cX6_next 4 = .ok (.iload_n 1, 1) := by decide +kernel
theorem dX6_next_5 : decode cX6_next 5 = .ok (.invokevirtual 96, 3) := by decide +kernel
theorem dX6_next_8 : decode cX6_next 8 = .ok (.astore_n 2, 1) := by decide +kernel
theorem dX6_next_9 : decode cX6_next 9 = .ok (.aload_n 2, 1) := by decide +kernel
theorem dX6_next_10 : decode cX6_next 10 = .ok (.ifnonnull 7, 3) := by decide +kernel
theorem dX6_next_13 : decode cX6_next 13 = .ok (.iconst (-1), 1) := by decide +kernel
theorem dX6_next_14 : decode cX6_next 14 = .ok (.goto 16, 3) := by decide +kernel
theorem dX6_next_17 : decode cX6_next 17 = .ok (.aload_n 0, 1) := by decide +kernel
theorem dX6_next_18 : decode cX6_next 18 = .ok (.getfield 10, 3) := by decide +kernel
theorem dX6_next_21 : decode cX6_next 21 = .ok (.aload_n 2, 1) := by decide +kernel
theorem dX6_next_22 : decode cX6_next 22 = .ok (.invokevirtual 139, 3) := by decide +kernel
theorem dX6_next_25 : decode cX6_next 25 = .ok (.bipush (-6), 2) := by decide +kernel
theorem dX6_next_27 : decode cX6_next 27 = .ok (.invokestatic 126, 3) := by decide +kernel
theorem dX6_next_30 : decode cX6_next 30 = .ok (.ireturn, 1) := by decide +kernel
theorem dX6_why_0 : decode cX6_why 0 = .ok (.aload_n 0, 1) := by decide +kernel
theorem dX6_why_1 : decode cX6_why 1 = .ok (.getfield 10, 3) := by decide +kernel
theorem dX6_why_4 : decode cX6_why 4 = .ok (.iload_n 1, 1) := by decide +kernel
theorem dX6_why_5 : decode cX6_why 5 = .ok (.invokevirtual 81, 3) := by decide +kernel
theorem dX6_why_8 : decode cX6_why 8 = .ok (.astore_n 2, 1) := by decide +kernel
theorem dX6_why_9 : decode cX6_why 9 = .ok (.aload_n 2, 1) := by decide +kernel
theorem dX6_why_10 : decode cX6_why 10 = .ok (.ifnonnull 7, 3) := by decide +kernel
theorem dX6_why_13 : decode cX6_why 13 = .ok (.iconst (-1), 1) := by decide +kernel
theorem dX6_why_14 : decode cX6_why 14 = .ok (.goto 11, 3) := by decide +kernel
theorem dX6_why_17 : decode cX6_why 17 = .ok (.aload_n 0, 1) := by decide +kernel
theorem dX6_why_18 : decode cX6_why 18 = .ok (.getfield 10, 3) := by decide +kernel
theorem dX6_why_21 : decode cX6_why 21 = .ok (.aload_n 2, 1) := by decide +kernel
theorem dX6_why_22 : decode cX6_why 22 = .ok (.invokevirtual 143, 3) := by decide +kernel
theorem dX6_why_25 : decode cX6_why 25 = .ok (.ireturn, 1) := by decide +kernel
theorem dX6_overIn_0 : decode cX6_overIn 0 = .ok (.aload_n 0, 1) := by decide +kernel
theorem dX6_overIn_1 : decode cX6_overIn 1 = .ok (.getfield 16, 3) := by decide +kernel
theorem dX6_overIn_4 : decode cX6_overIn 4 = .ok (.aload_n 0, 1) := by decide +kernel
theorem dX6_overIn_5 : decode cX6_overIn 5 = .ok (.getfield 10, 3) := by decide +kernel
theorem dX6_overIn_8 : decode cX6_overIn 8 = .ok (.invokevirtual 147, 3) := by decide +kernel
theorem dX6_overIn_11 : decode cX6_overIn 11 = .ok (.aload_n 0, 1) := by decide +kernel
theorem dX6_overIn_12 : decode cX6_overIn 12 = .ok (.getfield 16, 3) := by decide +kernel
theorem dX6_overIn_15 : decode cX6_overIn 15 = .ok (.iload_n 1, 1) := by decide +kernel
theorem dX6_overIn_16 : decode cX6_overIn 16 = .ok (.invokevirtual 81, 3) := by decide +kernel
theorem dX6_overIn_19 : decode cX6_overIn 19 = .ok (.astore_n 2, 1) := by decide +kernel
theorem dX6_overIn_20 : decode cX6_overIn 20 = .ok (.aload_n 2, 1) := by decide +kernel
theorem dX6_overIn_21 : decode cX6_overIn 21 = .ok (.ifnonnull 5, 3) := by decide +kernel
theorem dX6_overIn_24 : decode cX6_overIn 24 = .ok (.iconst (-1), 1) := by decide +kernel
theorem dX6_overIn_25 : decode cX6_overIn 25 = .ok (.ireturn, 1) := by decide +kernel
theorem dX6_overIn_26 : decode cX6_overIn 26 = .ok (.aload_n 2, 1) := by decide +kernel
theorem dX6_overIn_27 : decode cX6_overIn 27 = .ok (.invokevirtual 150, 3) := by decide +kernel
theorem dX6_overIn_30 : decode cX6_overIn 30 = .ok (.ifCond .ne 6, 3) := by decide +kernel
theorem dX6_overIn_33 : decode cX6_overIn 33 = .ok (.bipush (-5), 2) := by decide +kernel
theorem dX6_overIn_35 : decode cX6_overIn 35 = .ok (.ireturn, 1) := by decide +kernel
theorem dX6_overIn_36 : decode cX6_overIn 36 = .ok (.iconst 1, 1) := by decide +kernel
theorem dX6_overIn_37 : decode cX6_overIn 37 = .ok (.istore_n 3, 1) := by decide +kernel
theorem dX6_overIn_38 : decode cX6_overIn 38 = .ok (.iload_n 3, 1) := by decide +kernel
theorem dX6_overIn_39 : decode cX6_overIn 39 = .ok (.bipush 100, 2) := by decide +kernel
theorem dX6_overIn_41 : decode cX6_overIn 41 = .ok (.if_icmp .gt 26, 3) := by decide +kernel
theorem dX6_overIn_44 : decode cX6_overIn 44 = .ok (.aload_n 0, 1) := by decide +kernel
theorem dX6_overIn_45 : decode cX6_overIn 45 = .ok (.getfield 16, 3) := by decide +kernel
theorem dX6_overIn_48 : decode cX6_overIn 48 = .ok (.invokevirtual 154, 3) := by decide +kernel
theorem dX6_overIn_51 : decode cX6_overIn 51 = .ok (.pop, 1) := by decide +kernel
theorem dX6_overIn_52 : decode cX6_overIn 52 = .ok (.aload_n 2, 1) := by decide +kernel
theorem dX6_overIn_53 : decode cX6_overIn 53 = .ok (.invokevirtual 150, 3) := by decide +kernel
theorem dX6_overIn_56 : decode cX6_overIn 56 = .ok (.ifCond .ne 5, 3) := by decide +kernel
theorem dX6_overIn_59 : decode cX6_overIn 59 = .ok (.iload_n 3, 1) := by decide +kernel
theorem dX6_overIn_60 : decode cX6_overIn 60 = .ok (.ireturn, 1) := by decide +kernel
theorem dX6_overIn_61 : decode cX6_overIn 61 = .ok (.iinc 3 1, 3) := by decide +kernel
theorem dX6_overIn_64 : decode cX6_overIn 64 = .ok (.goto (-26), 3) := by decide +kernel
theorem dX6_overIn_67 : decode cX6_overIn 67 = .ok (.bipush (-6), 2) := by decide +kernel
theorem dX6_overIn_69 : decode cX6_overIn 69 = .ok (.ireturn, 1) := by decide +kernel
theorem dX6_wins_0 : decode cX6_wins 0 = .ok (.aload_n 0, 1) := by decide +kernel
theorem dX6_wins_1 : decode cX6_wins 1 = .ok (.getfield 10, 3) := by decide +kernel
theorem dX6_wins_4 : decode cX6_wins 4 = .ok (.iload_n 1, 1) := by decide +kernel
theorem dX6_wins_5 : decode cX6_wins 5 = .ok (.invokevirtual 81, 3) := by decide +kernel
theorem dX6_wins_8 : decode cX6_wins 8 = .ok (.astore 5, 2) := by decide +kernel
theorem dX6_wins_10 : decode cX6_wins 10 = .ok (.aload_n 0, 1) := by decide +kernel
theorem dX6_wins_11 : decode cX6_wins 11 = .ok (.getfield 10, 3) := by decide +kernel
theorem dX6_wins_14 : decode cX6_wins 14 = .ok (.iload_n 2, 1) := by decide +kernel
theorem dX6_wins_15 : decode cX6_wins 15 = .ok (.invokevirtual 96, 3) := by decide +kernel
theorem dX6_wins_18 : decode cX6_wins 18 = .ok (.astore 6, 2) := by decide +kernel
theorem dX6_wins_20 : decode cX6_wins 20 = .ok (.aload 5, 2) := by decide +kernel
theorem dX6_wins_22 : decode cX6_wins 22 = .ok (.ifnull 8, 3) := by decide +kernel
theorem dX6_wins_25 : decode cX6_wins 25 = .ok (.aload 6, 2) := by decide +kernel
theorem dX6_wins_27 : decode cX6_wins 27 = .ok (.ifnonnull 5, 3) := by decide +kernel
theorem dX6_wins_30 : decode cX6_wins 30 = .ok (.iconst (-1), 1) := by decide +kernel
theorem dX6_wins_31 : decode cX6_wins 31 = .ok (.ireturn, 1) := by decide +kernel
theorem dX6_wins_32 : decode cX6_wins 32 = .ok (.iload_n 3, 1) := by decide +kernel
theorem dX6_wins_33 : decode cX6_wins 33 = .ok (.aload 6, 2) := by decide +kernel
theorem dX6_wins_35 : decode cX6_wins 35 = .ok (.getfield 158, 3) := by decide +kernel
theorem dX6_wins_38 : decode cX6_wins 38 = .ok (.invokestatic 100, 3) := by decide +kernel
theorem dX6_wins_41 : decode cX6_wins 41 = .ok (.ifCond .eq 16, 3) := by decide +kernel
theorem dX6_wins_44 : decode cX6_wins 44 = .ok (.iload 4, 2) := by decide +kernel
theorem dX6_wins_46 : decode cX6_wins 46 = .ok (.aload 6, 2) := by decide +kernel
theorem dX6_wins_48 : decode cX6_wins 48 = .ok (.getfield 158, 3) := by decide +kernel
theorem dX6_wins_51 : decode cX6_wins 51 = .ok (.invokestatic 100, 3) := by decide +kernel
theorem dX6_wins_54 : decode cX6_wins 54 = .ok (.ifCond .ne 6, 3) := by decide +kernel
theorem dX6_wins_57 : decode cX6_wins 57 = .ok (.bipush (-2), 2) := by decide +kernel
theorem dX6_wins_59 : decode cX6_wins 59 = .ok (.ireturn, 1) := by decide +kernel
theorem dX6_wins_60 : decode cX6_wins 60 = .ok (.aload 5, 2) := by decide +kernel
theorem dX6_wins_62 : decode cX6_wins 62 = .ok (.aload 6, 2) := by decide +kernel
theorem dX6_wins_64 : decode cX6_wins 64 = .ok (.iload_n 3, 1) := by decide +kernel
theorem dX6_wins_65 : decode cX6_wins 65 = .ok (.iload 4, 2) := by decide +kernel
theorem dX6_wins_67 : decode cX6_wins 67 = .ok (.invokevirtual 161, 3) := by decide +kernel
theorem dX6_wins_70 : decode cX6_wins 70 = .ok (.ireturn, 1) := by decide +kernel
theorem dX6_bestGuess_0 : decode cX6_bestGuess 0 = .ok (.aload_n 0, 1) := by decide +kernel
theorem dX6_bestGuess_1 : decode cX6_bestGuess 1 = .ok (.getfield 10, 3) := by decide +kernel
theorem dX6_bestGuess_4 : decode cX6_bestGuess 4 = .ok (.iload_n 1, 1) := by decide +kernel
theorem dX6_bestGuess_5 : decode cX6_bestGuess 5 = .ok (.invokevirtual 81, 3) := by decide +kernel
theorem dX6_bestGuess_8 : decode cX6_bestGuess 8 = .ok (.astore 5, 2) := by decide +kernel
theorem dX6_bestGuess_10 : decode cX6_bestGuess 10 = .ok (.aload_n 0, 1) := by decide +kernel
theorem dX6_bestGuess_11 : decode cX6_bestGuess 11 = .ok (.getfield 10, 3) := by decide +kernel
theorem dX6_bestGuess_14 : decode cX6_bestGuess 14 = .ok (.iload_n 2, 1) := by decide +kernel
theorem dX6_bestGuess_15 : decode cX6_bestGuess 15 = .ok (.invokevirtual 96, 3) := by decide +kernel
theorem dX6_bestGuess_18 : decode cX6_bestGuess 18 = .ok (.astore 6, 2) := by decide +kernel
theorem dX6_bestGuess_20 : decode cX6_bestGuess 20 = .ok (.aload 5, 2) := by decide +kernel
theorem dX6_bestGuess_22 : decode cX6_bestGuess 22 = .ok (.ifnull 8, 3) := by decide +kernel
theorem dX6_bestGuess_25 : decode cX6_bestGuess 25 = .ok (.aload 6, 2) := by decide +kernel
theorem dX6_bestGuess_27 : decode cX6_bestGuess 27 = .ok (.ifnonnull 5, 3) := by decide +kernel
theorem dX6_bestGuess_30 : decode cX6_bestGuess 30 = .ok (.iconst (-1), 1) := by decide +kernel
theorem dX6_bestGuess_31 : decode cX6_bestGuess 31 = .ok (.ireturn, 1) := by decide +kernel
theorem dX6_bestGuess_32 : decode cX6_bestGuess 32 = .ok (.iload_n 3, 1) := by decide +kernel
theorem dX6_bestGuess_33 : decode cX6_bestGuess 33 = .ok (.aload 6, 2) := by decide +kernel
theorem dX6_bestGuess_35 : decode cX6_bestGuess 35 = .ok (.getfield 158, 3) := by decide +kernel
theorem dX6_bestGuess_38 : decode cX6_bestGuess 38 = .ok (.invokestatic 100, 3) := by decide +kernel
theorem dX6_bestGuess_41 : decode cX6_bestGuess 41 = .ok (.ifCond .eq 12, 3) := by decide +kernel
theorem dX6_bestGuess_44 : decode cX6_bestGuess 44 = .ok (.iload 4, 2) := by decide +kernel
theorem dX6_bestGuess_46 : decode cX6_bestGuess 46 = .ok (.iconst 2, 1) := by decide +kernel
theorem dX6_bestGuess_47 : decode cX6_bestGuess 47 = .ok (.invokestatic 100, 3) := by decide +kernel
theorem dX6_bestGuess_50 : decode cX6_bestGuess 50 = .ok (.ifCond .ne 6, 3) := by decide +kernel
theorem dX6_bestGuess_53 : decode cX6_bestGuess 53 = .ok (.bipush (-2), 2) := by decide +kernel
theorem dX6_bestGuess_55 : decode cX6_bestGuess 55 = .ok (.ireturn, 1) := by decide +kernel
theorem dX6_bestGuess_56 : decode cX6_bestGuess 56 = .ok (.iconst 0, 1) := by decide +kernel
theorem dX6_bestGuess_57 : decode cX6_bestGuess 57 = .ok (.istore 7, 2) := by decide +kernel
theorem dX6_bestGuess_59 : decode cX6_bestGuess 59 = .ok (.iconst 0, 1) := by decide +kernel
theorem dX6_bestGuess_60 : decode cX6_bestGuess 60 = .ok (.istore 8, 2) := by decide +kernel
theorem dX6_bestGuess_62 : decode cX6_bestGuess 62 = .ok (.iconst 0, 1) := by decide +kernel
theorem dX6_bestGuess_63 : decode cX6_bestGuess 63 = .ok (.istore 9, 2) := by decide +kernel
theorem dX6_bestGuess_65 : decode cX6_bestGuess 65 = .ok (.iload 9, 2) := by decide +kernel
theorem dX6_bestGuess_67 : decode cX6_bestGuess 67 = .ok (.aload 6, 2) := by decide +kernel
theorem dX6_bestGuess_69 : decode cX6_bestGuess 69 = .ok (.getfield 158, 3) := by decide +kernel
theorem dX6_bestGuess_72 : decode cX6_bestGuess 72 = .ok (.if_icmp .ge 36, 3) := by decide +kernel
theorem dX6_bestGuess_75 : decode cX6_bestGuess 75 = .ok (.aload 5, 2) := by decide +kernel
theorem dX6_bestGuess_77 : decode cX6_bestGuess 77 = .ok (.aload 6, 2) := by decide +kernel
theorem dX6_bestGuess_79 : decode cX6_bestGuess 79 = .ok (.iload 9, 2) := by decide +kernel
theorem dX6_bestGuess_81 : decode cX6_bestGuess 81 = .ok (.iload_n 3, 1) := by decide +kernel
theorem dX6_bestGuess_82 : decode cX6_bestGuess 82 = .ok (.invokevirtual 161, 3) := by decide +kernel
theorem dX6_bestGuess_85 : decode cX6_bestGuess 85 = .ok (.istore 10, 2) := by decide +kernel
theorem dX6_bestGuess_87 : decode cX6_bestGuess 87 = .ok (.iload 10, 2) := by decide +kernel
theorem dX6_bestGuess_89 : decode cX6_bestGuess 89 = .ok (.iload 8, 2) := by decide +kernel
theorem dX6_bestGuess_91 : decode cX6_bestGuess 91 = .ok (.if_icmp .le 11, 3) := by decide +kernel
theorem dX6_bestGuess_94 : decode cX6_bestGuess 94 = .ok (.iload 9, 2) := by decide +kernel
theorem dX6_bestGuess_96 : decode cX6_bestGuess 96 = .ok (.istore 7, 2) := by decide +kernel
theorem dX6_bestGuess_98 : decode cX6_bestGuess 98 = .ok (.iload 10, 2) := by decide +kernel
theorem dX6_bestGuess_100 : decode cX6_bestGuess 100 = .ok (.istore 8, 2) := by decide +kernel
theorem dX6_bestGuess_102 : decode cX6_bestGuess 102 = .ok (.iinc 9 1, 3) := by decide +kernel
theorem dX6_bestGuess_105 : decode cX6_bestGuess 105 = .ok (.goto (-40), 3) := by decide +kernel
theorem dX6_bestGuess_108 : decode cX6_bestGuess 108 = .ok (.iload 4, 2) := by decide +kernel
theorem dX6_bestGuess_110 : decode cX6_bestGuess 110 = .ok (.ifCond .ne 8, 3) := by decide +kernel
theorem dX6_bestGuess_113 : decode cX6_bestGuess 113 = .ok (.iload 7, 2) := by decide +kernel
theorem dX6_bestGuess_115 : decode cX6_bestGuess 115 = .ok (.goto 5, 3) := by decide +kernel
theorem dX6_bestGuess_118 : decode cX6_bestGuess 118 = .ok (.iload 8, 2) := by decide +kernel
theorem dX6_bestGuess_120 : decode cX6_bestGuess 120 = .ok (.ireturn, 1) := by decide +kernel
theorem dX6_would_0 : decode cX6_would 0 = .ok (.iload_n 1, 1) := by decide +kernel
theorem dX6_would_1 : decode cX6_would 1 = .ok (.iconst 1, 1) := by decide +kernel
theorem dX6_would_2 : decode cX6_would 2 = .ok (.if_icmp .lt 17, 3) := by decide +kernel
theorem dX6_would_5 : decode cX6_would 5 = .ok (.iload_n 1, 1) := by decide +kernel
theorem dX6_would_6 : decode cX6_would 6 = .ok (.bipush 99, 2) := by decide +kernel
theorem dX6_would_8 : decode cX6_would 8 = .ok (.if_icmp .gt 11, 3) := by decide +kernel
theorem dX6_would_11 : decode cX6_would 11 = .ok (.iload_n 2, 1) := by decide +kernel
theorem dX6_would_12 : decode cX6_would 12 = .ok (.iconst 4, 1) := by decide +kernel
theorem dX6_would_13 : decode cX6_would 13 = .ok (.invokestatic 100, 3) := by decide +kernel
theorem dX6_would_16 : decode cX6_would 16 = .ok (.ifCond .ne 6, 3) := by decide +kernel
theorem dX6_would_19 : decode cX6_would 19 = .ok (.bipush (-2), 2) := by decide +kernel
theorem dX6_would_21 : decode cX6_would 21 = .ok (.ireturn, 1) := by decide +kernel
theorem dX6_would_22 : decode cX6_would 22 = .ok (.aload_n 0, 1) := by decide +kernel
theorem dX6_would_23 : decode cX6_would 23 = .ok (.getfield 16, 3) := by decide +kernel
theorem dX6_would_26 : decode cX6_would 26 = .ok (.aload_n 0, 1) := by decide +kernel
theorem dX6_would_27 : decode cX6_would 27 = .ok (.getfield 10, 3) := by decide +kernel
theorem dX6_would_30 : decode cX6_would 30 = .ok (.invokevirtual 147, 3) := by decide +kernel
theorem dX6_would_33 : decode cX6_would 33 = .ok (.iconst 0, 1) := by decide +kernel
theorem dX6_would_34 : decode cX6_would 34 = .ok (.istore_n 3, 1) := by decide +kernel
theorem dX6_would_35 : decode cX6_would 35 = .ok (.iconst 0, 1) := by decide +kernel
theorem dX6_would_36 : decode cX6_would 36 = .ok (.istore 4, 2) := by decide +kernel
theorem dX6_would_38 : decode cX6_would 38 = .ok (.iload 4, 2) := by decide +kernel
theorem dX6_would_40 : decode cX6_would 40 = .ok (.iload_n 1, 1) := by decide +kernel
theorem dX6_would_41 : decode cX6_would 41 = .ok (.if_icmp .ge 19, 3) := by decide +kernel
theorem dX6_would_44 : decode cX6_would 44 = .ok (.iload_n 3, 1) := by decide +kernel
theorem dX6_would_45 : decode cX6_would 45 = .ok (.aload_n 0, 1) := by decide +kernel
theorem dX6_would_46 : decode cX6_would 46 = .ok (.getfield 16, 3) := by decide +kernel
theorem dX6_would_49 : decode cX6_would 49 = .ok (.invokevirtual 154, 3) := by decide +kernel
theorem dX6_would_52 : decode cX6_would 52 = .ok (.iadd, 1) := by decide +kernel
theorem dX6_would_53 : decode cX6_would 53 = .ok (.istore_n 3, 1) := by decide +kernel
theorem dX6_would_54 : decode cX6_would 54 = .ok (.iinc 4 1, 3) := by decide +kernel
theorem dX6_would_57 : decode cX6_would 57 = .ok (.goto (-19), 3) := by decide +kernel
theorem dX6_would_60 : decode cX6_would 60 = .ok (.iload_n 2, 1) := by decide +kernel
theorem dX6_would_61 : decode cX6_would 61 = .ok (.tableswitch 69 0 2 #[27, 29, 49], 27) := by decide +kernel
theorem dX6_would_88 : decode cX6_would 88 = .ok (.iload_n 3, 1) := by decide +kernel
theorem dX6_would_89 : decode cX6_would 89 = .ok (.ireturn, 1) := by decide +kernel
theorem dX6_would_90 : decode cX6_would 90 = .ok (.aload_n 0, 1) := by decide +kernel
theorem dX6_would_91 : decode cX6_would 91 = .ok (.getfield 16, 3) := by decide +kernel
theorem dX6_would_94 : decode cX6_would 94 = .ok (.bipush 6, 2) := by decide +kernel
theorem dX6_would_96 : decode cX6_would 96 = .ok (.invokevirtual 171, 3) := by decide +kernel
theorem dX6_would_99 : decode cX6_would 99 = .ok (.aload_n 0, 1) := by decide +kernel
theorem dX6_would_100 : decode cX6_would 100 = .ok (.getfield 10, 3) := by decide +kernel
theorem dX6_would_103 : decode cX6_would 103 = .ok (.bipush 6, 2) := by decide +kernel
theorem dX6_would_105 : decode cX6_would 105 = .ok (.invokevirtual 171, 3) := by decide +kernel
theorem dX6_would_108 : decode cX6_would 108 = .ok (.isub, 1) := by decide +kernel
theorem dX6_would_109 : decode cX6_would 109 = .ok (.ireturn, 1) := by decide +kernel
theorem dX6_would_110 : decode cX6_would 110 = .ok (.aload_n 0, 1) := by decide +kernel
theorem dX6_would_111 : decode cX6_would 111 = .ok (.getfield 16, 3) := by decide +kernel
theorem dX6_would_114 : decode cX6_would 114 = .ok (.bipush 7, 2) := by decide +kernel
theorem dX6_would_116 : decode cX6_would 116 = .ok (.invokevirtual 171, 3) := by decide +kernel
theorem dX6_would_119 : decode cX6_would 119 = .ok (.aload_n 0, 1) := by decide +kernel
theorem dX6_would_120 : decode cX6_would 120 = .ok (.getfield 10, 3) := by decide +kernel
theorem dX6_would_123 : decode cX6_would 123 = .ok (.bipush 7, 2) := by decide +kernel
theorem dX6_would_125 : decode cX6_would 125 = .ok (.invokevirtual 171, 3) := by decide +kernel
theorem dX6_would_128 : decode cX6_would 128 = .ok (.isub, 1) := by decide +kernel
theorem dX6_would_129 : decode cX6_would 129 = .ok (.ireturn, 1) := by decide +kernel
theorem dX6_would_130 : decode cX6_would 130 = .ok (.aload_n 0, 1) := by decide +kernel
theorem dX6_would_131 : decode cX6_would 131 = .ok (.getfield 16, 3) := by decide +kernel
theorem dX6_would_134 : decode cX6_would 134 = .ok (.invokevirtual 174, 3) := by decide +kernel
theorem dX6_would_137 : decode cX6_would 137 = .ok (.ireturn, 1) := by decide +kernel
theorem dX6_wipe_0 : decode cX6_wipe 0 = .ok (.aload_n 0, 1) := by decide +kernel
theorem dX6_wipe_1 : decode cX6_wipe 1 = .ok (.getfield 37, 3) := by decide +kernel
theorem dX6_wipe_4 : decode cX6_wipe 4 = .ok (.getfield 92, 3) := by decide +kernel
theorem dX6_wipe_7 : decode cX6_wipe 7 = .ok (.istore_n 1, 1) := by decide +kernel
theorem dX6_wipe_8 : decode cX6_wipe 8 = .ok (.aload_n 0, 1) := by decide +kernel
theorem dX6_wipe_9 : decode cX6_wipe 9 = .ok (.getfield 37, 3) := by decide +kernel
theorem dX6_wipe_12 : decode cX6_wipe 12 = .ok (.invokevirtual 85, 3) := by decide +kernel
theorem dX6_wipe_15 : decode cX6_wipe 15 = .ok (.iload_n 1, 1) := by decide +kernel
theorem dX6_wipe_16 : decode cX6_wipe 16 = .ok (.ireturn, 1) := by decide +kernel
theorem dX6_undo_0 : decode cX6_undo 0 = .ok (.aload_n 0, 1) := by decide +kernel
theorem dX6_undo_1 : decode cX6_undo 1 = .ok (.getfield 22, 3) := by decide +kernel
theorem dX6_undo_4 : decode cX6_undo 4 = .ok (.getfield 133, 3) := by decide +kernel
theorem dX6_undo_7 : decode cX6_undo 7 = .ok (.ifCond .ne 6, 3) := by decide +kernel
theorem dX6_undo_10 : decode cX6_undo 10 = .ok (.bipush (-5), 2) := by decide +kernel
theorem dX6_undo_12 : decode cX6_undo 12 = .ok (.ireturn, 1) := by decide +kernel
theorem dX6_undo_13 : decode cX6_undo 13 = .ok (.aload_n 0, 1) := by decide +kernel
theorem dX6_undo_14 : decode cX6_undo 14 = .ok (.getfield 22, 3) := by decide +kernel
theorem dX6_undo_17 : decode cX6_undo 17 = .ok (.aload_n 0, 1) := by decide +kernel
theorem dX6_undo_18 : decode cX6_undo 18 = .ok (.getfield 10, 3) := by decide +kernel
theorem dX6_undo_21 : decode cX6_undo 21 = .ok (.invokevirtual 201, 3) := by decide +kernel
theorem dX6_undo_24 : decode cX6_undo 24 = .ok (.aload_n 0, 1) := by decide +kernel
theorem dX6_undo_25 : decode cX6_undo 25 = .ok (.getfield 22, 3) := by decide +kernel
theorem dX6_undo_28 : decode cX6_undo 28 = .ok (.getfield 133, 3) := by decide +kernel
theorem dX6_undo_31 : decode cX6_undo 31 = .ok (.ireturn, 1) := by decide +kernel
theorem dX6_isBelow_0 : decode cX6_isBelow 0 = .ok (.iload_n 0, 1) := by decide +kernel
theorem dX6_isBelow_1 : decode cX6_isBelow 1 = .ok (.ifCond .lt 12, 3) := by decide +kernel
theorem dX6_isBelow_4 : decode cX6_isBelow 4 = .ok (.iload_n 0, 1) := by decide +kernel
theorem dX6_isBelow_5 : decode cX6_isBelow 5 = .ok (.iload_n 1, 1) := by decide +kernel
theorem dX6_isBelow_6 : decode cX6_isBelow 6 = .ok (.if_icmp .ge 7, 3) := by decide +kernel
theorem dX6_isBelow_9 : decode cX6_isBelow 9 = .ok (.iconst 1, 1) := by decide +kernel
theorem dX6_isBelow_10 : decode cX6_isBelow 10 = .ok (.goto 4, 3) := by decide +kernel
theorem dX6_isBelow_13 : decode cX6_isBelow 13 = .ok (.iconst 0, 1) := by decide +kernel
theorem dX6_isBelow_14 : decode cX6_isBelow 14 = .ok (.ireturn, 1) := by decide +kernel
theorem dX6_numberOf_0 : decode cX6_numberOf 0 = .ok (.aload_n 0, 1) := by decide +kernel
theorem dX6_numberOf_1 : decode cX6_numberOf 1 = .ok (.ifnonnull 7, 3) := by decide +kernel
theorem dX6_numberOf_4 : decode cX6_numberOf 4 = .ok (.iload_n 1, 1) := by decide +kernel
theorem dX6_numberOf_5 : decode cX6_numberOf 5 = .ok (.goto 7, 3) := by decide +kernel
theorem dX6_numberOf_8 : decode cX6_numberOf 8 = .ok (.aload_n 0, 1) := by decide +kernel
theorem dX6_numberOf_9 : decode cX6_numberOf 9 = .ok (.getfield 207, 3) := by decide +kernel
theorem dX6_numberOf_12 : decode cX6_numberOf 12 = .ok (.ireturn, 1) := by decide +kernel
theorem dX6_recorded_0 : decode cX6_recorded 0 = .ok (.iload_n 1, 1) := by decide +kernel
theorem dX6_recorded_1 : decode cX6_recorded 1 = .ok (.ifCond .lt 10, 3) := by decide +kernel
theorem dX6_recorded_4 : decode cX6_recorded 4 = .ok (.aload_n 0, 1) := by decide +kernel
theorem dX6_recorded_5 : decode cX6_recorded 5 = .ok (.getfield 22, 3) := by decide +kernel
theorem dX6_recorded_8 : decode cX6_recorded 8 = .ok (.invokevirtual 210, 3) := by decide +kernel
theorem dX6_recorded_11 : decode cX6_recorded 11 = .ok (.iload_n 1, 1) := by decide +kernel
theorem dX6_recorded_12 : decode cX6_recorded 12 = .ok (.ireturn, 1) := by decide +kernel
theorem dX6_appendNote_0 : decode cX6_appendNote 0 = .ok (.aload_n 0, 1) := by decide +kernel
theorem dX6_appendNote_1 : decode cX6_appendNote 1 = .ok (.getfield 37, 3) := by decide +kernel
theorem dX6_appendNote_4 : decode cX6_appendNote 4 = .ok (.bipush 99, 2) := by decide +kernel
theorem dX6_appendNote_6 : decode cX6_appendNote 6 = .ok (.invokevirtual 181, 3) := by decide +kernel
theorem dX6_appendNote_9 : decode cX6_appendNote 9 = .ok (.aload_n 0, 1) := by decide +kernel
theorem dX6_appendNote_10 : decode cX6_appendNote 10 = .ok (.getfield 37, 3) := by decide +kernel
theorem dX6_appendNote_13 : decode cX6_appendNote 13 = .ok (.aload_n 1, 1) := by decide +kernel
theorem dX6_appendNote_14 : decode cX6_appendNote 14 = .ok (.getfield 207, 3) := by decide +kernel
theorem dX6_appendNote_17 : decode cX6_appendNote 17 = .ok (.invokevirtual 213, 3) := by decide +kernel
theorem dX6_appendNote_20 : decode cX6_appendNote 20 = .ok (.aload_n 0, 1) := by decide +kernel
theorem dX6_appendNote_21 : decode cX6_appendNote 21 = .ok (.getfield 37, 3) := by decide +kernel
theorem dX6_appendNote_24 : decode cX6_appendNote 24 = .ok (.bipush 64, 2) := by decide +kernel
theorem dX6_appendNote_26 : decode cX6_appendNote 26 = .ok (.invokevirtual 181, 3) := by decide +kernel
theorem dX6_appendNote_29 : decode cX6_appendNote 29 = .ok (.aload_n 0, 1) := by decide +kernel
theorem dX6_appendNote_30 : decode cX6_appendNote 30 = .ok (.getfield 37, 3) := by decide +kernel
theorem dX6_appendNote_33 : decode cX6_appendNote 33 = .ok (.aload_n 1, 1) := by decide +kernel
theorem dX6_appendNote_34 : decode cX6_appendNote 34 = .ok (.getfield 216, 3) := by decide +kernel
theorem dX6_appendNote_37 : decode cX6_appendNote 37 = .ok (.invokevirtual 213, 3) := by decide +kernel
theorem dX6_appendNote_40 : decode cX6_appendNote 40 = .ok (.aload_n 0, 1) := by decide +kernel
theorem dX6_appendNote_41 : decode cX6_appendNote 41 = .ok (.getfield 37, 3) := by decide +kernel
theorem dX6_appendNote_44 : decode cX6_appendNote 44 = .ok (.bipush 42, 2) := by decide +kernel
theorem dX6_appendNote_46 : decode cX6_appendNote 46 = .ok (.invokevirtual 181, 3) := by decide +kernel
theorem dX6_appendNote_49 : decode cX6_appendNote 49 = .ok (.aload_n 0, 1) := by decide +kernel
theorem dX6_appendNote_50 : decode cX6_appendNote 50 = .ok (.getfield 37, 3) := by decide +kernel
theorem dX6_appendNote_53 : decode cX6_appendNote 53 = .ok (.aload_n 1, 1) := by decide +kernel
theorem dX6_appendNote_54 : decode cX6_appendNote 54 = .ok (.getfield 219, 3) := by decide +kernel
theorem dX6_appendNote_57 : decode cX6_appendNote 57 = .ok (.invokevirtual 213, 3) := by decide +kernel
theorem dX6_appendNote_60 : decode cX6_appendNote 60 = .ok (.iconst 0, 1) := by decide +kernel
theorem dX6_appendNote_61 : decode cX6_appendNote 61 = .ok (.istore_n 2, 1) := by decide +kernel
theorem dX6_appendNote_62 : decode cX6_appendNote 62 = .ok (.iload_n 2, 1) := by decide +kernel
theorem dX6_appendNote_63 : decode cX6_appendNote 63 = .ok (.bipush 12, 2) := by decide +kernel
theorem dX6_appendNote_65 : decode cX6_appendNote 65 = .ok (.if_icmp .ge 93, 3) := by decide +kernel
theorem dX6_appendNote_68 : decode cX6_appendNote 68 = .ok (.aload_n 0, 1) := by decide +kernel
theorem dX6_appendNote_69 : decode cX6_appendNote 69 = .ok (.getfield 10, 3) := by decide +kernel
theorem dX6_appendNote_72 : decode cX6_appendNote 72 = .ok (.iload_n 2, 1) := by decide +kernel
theorem dX6_appendNote_73 : decode cX6_appendNote 73 = .ok (.invokevirtual 96, 3) := by decide +kernel
theorem dX6_appendNote_76 : decode cX6_appendNote 76 = .ok (.astore_n 3, 1) := by decide +kernel
theorem dX6_appendNote_77 : decode cX6_appendNote 77 = .ok (.aload_n 3, 1) := by decide +kernel
theorem dX6_appendNote_78 : decode cX6_appendNote 78 = .ok (.ifnull 74, 3) := by decide +kernel
theorem dX6_appendNote_81 : decode cX6_appendNote 81 = .ok (.aload_n 1, 1) := by decide +kernel
theorem dX6_appendNote_82 : decode cX6_appendNote 82 = .ok (.aload_n 3, 1) := by decide +kernel
theorem dX6_appendNote_83 : decode cX6_appendNote 83 = .ok (.invokevirtual 222, 3) := by decide +kernel
theorem dX6_appendNote_86 : decode cX6_appendNote 86 = .ok (.aload_n 3, 1) := by decide +kernel
theorem dX6_appendNote_87 : decode cX6_appendNote 87 = .ok (.getfield 158, 3) := by decide +kernel
theorem dX6_appendNote_90 : decode cX6_appendNote 90 = .ok (.if_icmp .ge 62, 3) := by decide +kernel
theorem dX6_appendNote_93 : decode cX6_appendNote 93 = .ok (.aload_n 0, 1) := by decide +kernel
theorem dX6_appendNote_94 : decode cX6_appendNote 94 = .ok (.getfield 37, 3) := by decide +kernel
theorem dX6_appendNote_97 : decode cX6_appendNote 97 = .ok (.bipush 59, 2) := by decide +kernel
theorem dX6_appendNote_99 : decode cX6_appendNote 99 = .ok (.invokevirtual 181, 3) := by decide +kernel
theorem dX6_appendNote_102 : decode cX6_appendNote 102 = .ok (.aload_n 0, 1) := by decide +kernel
theorem dX6_appendNote_103 : decode cX6_appendNote 103 = .ok (.getfield 37, 3) := by decide +kernel
theorem dX6_appendNote_106 : decode cX6_appendNote 106 = .ok (.iload_n 2, 1) := by decide +kernel
theorem dX6_appendNote_107 : decode cX6_appendNote 107 = .ok (.invokevirtual 213, 3) := by decide +kernel
theorem dX6_appendNote_110 : decode cX6_appendNote 110 = .ok (.aload_n 0, 1) := by decide +kernel
theorem dX6_appendNote_111 : decode cX6_appendNote 111 = .ok (.getfield 37, 3) := by decide +kernel
theorem dX6_appendNote_114 : decode cX6_appendNote 114 = .ok (.bipush 58, 2) := by decide +kernel
theorem dX6_appendNote_116 : decode cX6_appendNote 116 = .ok (.invokevirtual 181, 3) := by decide +kernel
theorem dX6_appendNote_119 : decode cX6_appendNote 119 = .ok (.aload_n 0, 1) := by decide +kernel
theorem dX6_appendNote_120 : decode cX6_appendNote 120 = .ok (.getfield 37, 3) := by decide +kernel
theorem dX6_appendNote_123 : decode cX6_appendNote 123 = .ok (.aload_n 1, 1) := by decide +kernel
theorem dX6_appendNote_124 : decode cX6_appendNote 124 = .ok (.aload_n 3, 1) := by decide +kernel
theorem dX6_appendNote_125 : decode cX6_appendNote 125 = .ok (.invokevirtual 112, 3) := by decide +kernel
theorem dX6_appendNote_128 : decode cX6_appendNote 128 = .ok (.invokevirtual 213, 3) := by decide +kernel
theorem dX6_appendNote_131 : decode cX6_appendNote 131 = .ok (.aload_n 0, 1) := by decide +kernel
theorem dX6_appendNote_132 : decode cX6_appendNote 132 = .ok (.getfield 37, 3) := by decide +kernel
theorem dX6_appendNote_135 : decode cX6_appendNote 135 = .ok (.bipush 45, 2) := by decide +kernel
theorem dX6_appendNote_137 : decode cX6_appendNote 137 = .ok (.invokevirtual 181, 3) := by decide +kernel
theorem dX6_appendNote_140 : decode cX6_appendNote 140 = .ok (.aload_n 0, 1) := by decide +kernel
theorem dX6_appendNote_141 : decode cX6_appendNote 141 = .ok (.getfield 37, 3) := by decide +kernel
theorem dX6_appendNote_144 : decode cX6_appendNote 144 = .ok (.aload_n 1, 1) := by decide +kernel
theorem dX6_appendNote_145 : decode cX6_appendNote 145 = .ok (.aload_n 3, 1) := by decide +kernel
theorem dX6_appendNote_146 : decode cX6_appendNote 146 = .ok (.invokevirtual 116, 3) := by decide +kernel
theorem dX6_appendNote_149 : decode cX6_appendNote 149 = .ok (.invokevirtual 213, 3) := by decide +kernel
theorem dX6_appendNote_152 : decode cX6_appendNote 152 = .ok (.iinc 2 1, 3) := by decide +kernel
theorem dX6_appendNote_155 : decode cX6_appendNote 155 = .ok (.goto (-93), 3) := by decide +kernel
theorem dX6_appendNote_158 : decode cX6_appendNote 158 = .ok (.return_, 1) := by decide +kernel
theorem dL_cell_0 : decode cL_cell 0 = .ok (.iload_n 1, 1) := by decide +kernel
theorem dL_cell_1 : decode cL_cell 1 = .ok (.aload_n 0, 1) := by decide +kernel
theorem dL_cell_2 : decode cL_cell 2 = .ok (.arraylength, 1) := by decide +kernel
theorem dL_cell_3 : decode cL_cell 3 = .ok (.if_icmp .ge 9, 3) := by decide +kernel
theorem dL_cell_6 : decode cL_cell 6 = .ok (.aload_n 0, 1) := by decide +kernel
theorem dL_cell_7 : decode cL_cell 7 = .ok (.iload_n 1, 1) := by decide +kernel
theorem dL_cell_8 : decode cL_cell 8 = .ok (.iaload, 1) := by decide +kernel
theorem dL_cell_9 : decode cL_cell 9 = .ok (.goto 12, 3) := by decide +kernel
theorem dL_cell_12 : decode cL_cell 12 = .ok (.ldc 7, 2) := by decide +kernel
theorem dL_cell_14 : decode cL_cell 14 = .ok (.iload_n 1, 1) := by decide +kernel
theorem dL_cell_15 : decode cL_cell 15 = .ok (.iconst 1, 1) := by decide +kernel
theorem dL_cell_16 : decode cL_cell 16 = .ok (.iadd, 1) := by decide +kernel
theorem dL_cell_17 : decode cL_cell 17 = .ok (.imul, 1) := by decide +kernel
theorem dL_cell_18 : decode cL_cell 18 = .ok (.ldc 8, 2) := by decide +kernel
theorem dL_cell_20 : decode cL_cell 20 = .ok (.iadd, 1) := by decide +kernel
theorem dL_cell_21 : decode cL_cell 21 = .ok (.ireturn, 1) := by decide +kernel
theorem dL_low_0 : decode cL_low 0 = .ok (.iload_n 0, 1) := by decide +kernel
theorem dL_low_1 : decode cL_low 1 = .ok (.ldc 9, 2) := by decide +kernel
theorem dL_low_3 : decode cL_low 3 = .ok (.iand, 1) := by decide +kernel
theorem dL_low_4 : decode cL_low 4 = .ok (.iload_n 1, 1) := by decide +kernel
theorem dL_low_5 : decode cL_low 5 = .ok (.irem, 1) := by decide +kernel
theorem dL_low_6 : decode cL_low 6 = .ok (.ireturn, 1) := by decide +kernel
theorem dL_hangs_0 : decode cL_hangs 0 = .ok (.aload_n 0, 1) := by decide +kernel
theorem dL_hangs_1 : decode cL_hangs 1 = .ok (.iconst 1, 1) := by decide +kernel
theorem dL_hangs_2 : decode cL_hangs 2 = .ok (.invokevirtual 10, 3) := by decide +kernel
theorem dL_hangs_5 : decode cL_hangs 5 = .ok (.istore_n 1, 1) := by decide +kernel
theorem dL_hangs_6 : decode cL_hangs 6 = .ok (.aload_n 0, 1) := by decide +kernel
theorem dL_hangs_7 : decode cL_hangs 7 = .ok (.iconst 2, 1) := by decide +kernel
theorem dL_hangs_8 : decode cL_hangs 8 = .ok (.invokevirtual 10, 3) := by decide +kernel
theorem dL_hangs_11 : decode cL_hangs 11 = .ok (.istore_n 2, 1) := by decide +kernel
theorem dL_hangs_12 : decode cL_hangs 12 = .ok (.iconst 0, 1) := by decide +kernel
theorem dL_hangs_13 : decode cL_hangs 13 = .ok (.istore_n 3, 1) := by decide +kernel
theorem dL_hangs_14 : decode cL_hangs 14 = .ok (.iconst 0, 1) := by decide +kernel
theorem dL_hangs_15 : decode cL_hangs 15 = .ok (.istore 4, 2) := by decide +kernel
theorem dL_hangs_17 : decode cL_hangs 17 = .ok (.iconst 0, 1) := by decide +kernel
theorem dL_hangs_18 : decode cL_hangs 18 = .ok (.istore 5, 2) := by decide +kernel
theorem dL_hangs_20 : decode cL_hangs 20 = .ok (.iconst 0, 1) := by decide +kernel
theorem dL_hangs_21 : decode cL_hangs 21 = .ok (.istore 6, 2) := by decide +kernel
theorem dL_hangs_23 : decode cL_hangs 23 = .ok (.iconst 0, 1) := by decide +kernel
theorem dL_hangs_24 : decode cL_hangs 24 = .ok (.istore 7, 2) := by decide +kernel
theorem dL_hangs_26 : decode cL_hangs 26 = .ok (.iconst 0, 1) := by decide +kernel
theorem dL_hangs_27 : decode cL_hangs 27 = .ok (.istore 8, 2) := by decide +kernel
theorem dL_hangs_29 : decode cL_hangs 29 = .ok (.iconst 0, 1) := by decide +kernel
theorem dL_hangs_30 : decode cL_hangs 30 = .ok (.istore 9, 2) := by decide +kernel
theorem dL_hangs_32 : decode cL_hangs 32 = .ok (.iload 9, 2) := by decide +kernel
theorem dL_hangs_34 : decode cL_hangs 34 = .ok (.iload_n 2, 1) := by decide +kernel
theorem dL_hangs_35 : decode cL_hangs 35 = .ok (.if_icmp .ge 361, 3) := by decide +kernel
theorem dL_hangs_38 : decode cL_hangs 38 = .ok (.aload_n 0, 1) := by decide +kernel
theorem dL_hangs_39 : decode cL_hangs 39 = .ok (.iload 9, 2) := by decide +kernel
theorem dL_hangs_41 : decode cL_hangs 41 = .ok (.iconst 2, 1) := by decide +kernel
theorem dL_hangs_42 : decode cL_hangs 42 = .ok (.invokevirtual 16, 3) := by decide +kernel
theorem dL_hangs_45 : decode cL_hangs 45 = .ok (.istore 10, 2) := by decide +kernel
theorem dL_hangs_47 : decode cL_hangs 47 = .ok (.iload_n 3, 1) := by decide +kernel
theorem dL_hangs_48 : decode cL_hangs 48 = .ok (.aload_n 0, 1) := by decide +kernel
theorem dL_hangs_49 : decode cL_hangs 49 = .ok (.iload 9, 2) := by decide +kernel
theorem dL_hangs_51 : decode cL_hangs 51 = .ok (.iconst 1, 1) := by decide +kernel
theorem dL_hangs_52 : decode cL_hangs 52 = .ok (.invokevirtual 16, 3) := by decide +kernel
theorem dL_hangs_55 : decode cL_hangs 55 = .ok (.iadd, 1) := by decide +kernel
theorem dL_hangs_56 : decode cL_hangs 56 = .ok (.istore_n 3, 1) := by decide +kernel
theorem dL_hangs_57 : decode cL_hangs 57 = .ok (.iload 5, 2) := by decide +kernel
theorem dL_hangs_59 : decode cL_hangs 59 = .ok (.aload_n 0, 1) := by decide +kernel
theorem dL_hangs_60 : decode cL_hangs 60 = .ok (.iload 9, 2) := by decide +kernel
theorem dL_hangs_62 : decode cL_hangs 62 = .ok (.iconst 5, 1) := by decide +kernel
theorem dL_hangs_63 : decode cL_hangs 63 = .ok (.invokevirtual 16, 3) := by decide +kernel
theorem dL_hangs_66 : decode cL_hangs 66 = .ok (.iadd, 1) := by decide +kernel
theorem dL_hangs_67 : decode cL_hangs 67 = .ok (.istore 5, 2) := by decide +kernel
theorem dL_hangs_69 : decode cL_hangs 69 = .ok (.iload 8, 2) := by decide +kernel
theorem dL_hangs_71 : decode cL_hangs 71 = .ok (.aload_n 0, 1) := by decide +kernel
theorem dL_hangs_72 : decode cL_hangs 72 = .ok (.iload 9, 2) := by decide +kernel
theorem dL_hangs_74 : decode cL_hangs 74 = .ok (.bipush 6, 2) := by decide +kernel
theorem dL_hangs_76 : decode cL_hangs 76 = .ok (.invokevirtual 16, 3) := by decide +kernel
theorem dL_hangs_79 : decode cL_hangs 79 = .ok (.aload_n 0, 1) := by decide +kernel
theorem dL_hangs_80 : decode cL_hangs 80 = .ok (.iload 9, 2) := by decide +kernel
theorem dL_hangs_82 : decode cL_hangs 82 = .ok (.bipush 7, 2) := by decide +kernel
theorem dL_hangs_84 : decode cL_hangs 84 = .ok (.invokevirtual 16, 3) := by decide +kernel
theorem dL_hangs_87 : decode cL_hangs 87 = .ok (.isub, 1) := by decide +kernel
theorem dL_hangs_88 : decode cL_hangs 88 = .ok (.iadd, 1) := by decide +kernel
theorem dL_hangs_89 : decode cL_hangs 89 = .ok (.istore 8, 2) := by decide +kernel
theorem dL_hangs_91 : decode cL_hangs 91 = .ok (.iload 7, 2) := by decide +kernel
theorem dL_hangs_93 : decode cL_hangs 93 = .ok (.iload 10, 2) := by decide +kernel
theorem dL_hangs_95 : decode cL_hangs 95 = .ok (.bipush (-6), 2) := by decide +kernel
theorem dL_hangs_97 : decode cL_hangs 97 = .ok (.if_icmp .ne 7, 3) := by decide +kernel
theorem dL_hangs_100 : decode cL_hangs 100 = .ok (.iconst 0, 1) := by decide +kernel
theorem dL_hangs_101 : decode cL_hangs 101 = .ok (.goto 7, 3) := by decide +kernel
theorem dL_hangs_104 : decode cL_hangs 104 = .ok (.iconst 1, 1) := by decide +kernel
theorem dL_hangs_105 : decode cL_hangs 105 = .ok (.iload 9, 2) := by decide +kernel
theorem dL_hangs_107 : decode cL_hangs 107 = .ok (.ishl, 1) := by decide +kernel
theorem dL_hangs_108 : decode cL_hangs 108 = .ok (.ior, 1) := by decide +kernel
theorem dL_hangs_109 : decode cL_hangs 109 = .ok (.istore 7, 2) := by decide +kernel
theorem dL_hangs_111 : decode cL_hangs 111 = .ok (.aload_n 0, 1) := by decide +kernel
theorem dL_hangs_112 : decode cL_hangs 112 = .ok (.iload 9, 2) := by decide +kernel
theorem dL_hangs_114 : decode cL_hangs 114 = .ok (.iconst 1, 1) := by decide +kernel
theorem dL_hangs_115 : decode cL_hangs 115 = .ok (.invokevirtual 16, 3) := by decide +kernel
theorem dL_hangs_118 : decode cL_hangs 118 = .ok (.ifCond .lt 135, 3) := by decide +kernel
theorem dL_hangs_121 : decode cL_hangs 121 = .ok (.aload_n 0, 1) := by decide +kernel
theorem dL_hangs_122 : decode cL_hangs 122 = .ok (.iload 9, 2) := by decide +kernel
theorem dL_hangs_124 : decode cL_hangs 124 = .ok (.iconst 0, 1) := by decide +kernel
theorem dL_hangs_125 : decode cL_hangs 125 = .ok (.invokevirtual 16, 3) := by decide +kernel
theorem dL_hangs_128 : decode cL_hangs 128 = .ok (.ifCond .lt 125, 3) := by decide +kernel
theorem dL_hangs_131 : decode cL_hangs 131 = .ok (.aload_n 0, 1) := by decide +kernel
theorem dL_hangs_132 : decode cL_hangs 132 = .ok (.iload 9, 2) := by decide +kernel
theorem dL_hangs_134 : decode cL_hangs 134 = .ok (.iconst 0, 1) := by decide +kernel
theorem dL_hangs_135 : decode cL_hangs 135 = .ok (.invokevirtual 16, 3) := by decide +kernel
theorem dL_hangs_138 : decode cL_hangs 138 = .ok (.bipush 7, 2) := by decide +kernel
theorem dL_hangs_140 : decode cL_hangs 140 = .ok (.if_icmp .gt 113, 3) := by decide +kernel
theorem dL_hangs_143 : decode cL_hangs 143 = .ok (.iload 10, 2) := by decide +kernel
theorem dL_hangs_145 : decode cL_hangs 145 = .ok (.bipush (-6), 2) := by decide +kernel
theorem dL_hangs_147 : decode cL_hangs 147 = .ok (.if_icmp .ne 7, 3) := by decide +kernel
theorem dL_hangs_150 : decode cL_hangs 150 = .ok (.iconst 1, 1) := by decide +kernel
theorem dL_hangs_151 : decode cL_hangs 151 = .ok (.goto 4, 3) := by decide +kernel
theorem dL_hangs_154 : decode cL_hangs 154 = .ok (.iconst 0, 1) := by decide +kernel
theorem dL_hangs_155 : decode cL_hangs 155 = .ok (.aload_n 0, 1) := by decide +kernel
theorem dL_hangs_156 : decode cL_hangs 156 = .ok (.iload 9, 2) := by decide +kernel
theorem dL_hangs_158 : decode cL_hangs 158 = .ok (.iconst 3, 1) := by decide +kernel
theorem dL_hangs_159 : decode cL_hangs 159 = .ok (.invokevirtual 16, 3) := by decide +kernel
theorem dL_hangs_162 : decode cL_hangs 162 = .ok (.bipush (-6), 2) := by decide +kernel
theorem dL_hangs_164 : decode cL_hangs 164 = .ok (.if_icmp .ne 7, 3) := by decide +kernel
theorem dL_hangs_167 : decode cL_hangs 167 = .ok (.iconst 1, 1) := by decide +kernel
theorem dL_hangs_168 : decode cL_hangs 168 = .ok (.goto 4, 3) := by decide +kernel
theorem dL_hangs_171 : decode cL_hangs 171 = .ok (.iconst 0, 1) := by decide +kernel
theorem dL_hangs_172 : decode cL_hangs 172 = .ok (.if_icmp .ne 81, 3) := by decide +kernel
theorem dL_hangs_175 : decode cL_hangs 175 = .ok (.iload 10, 2) := by decide +kernel
theorem dL_hangs_177 : decode cL_hangs 177 = .ok (.bipush (-6), 2) := by decide +kernel
theorem dL_hangs_179 : decode cL_hangs 179 = .ok (.if_icmp .ne 13, 3) := by decide +kernel
theorem dL_hangs_182 : decode cL_hangs 182 = .ok (.aload_n 0, 1) := by decide +kernel
theorem dL_hangs_183 : decode cL_hangs 183 = .ok (.iload 9, 2) := by decide +kernel
theorem dL_hangs_185 : decode cL_hangs 185 = .ok (.iconst 4, 1) := by decide +kernel
theorem dL_hangs_186 : decode cL_hangs 186 = .ok (.invokevirtual 16, 3) := by decide +kernel
theorem dL_hangs_189 : decode cL_hangs 189 = .ok (.ifCond .ne 64, 3) := by decide +kernel
theorem dL_hangs_192 : decode cL_hangs 192 = .ok (.iload 10, 2) := by decide +kernel
theorem dL_hangs_194 : decode cL_hangs 194 = .ok (.bipush (-6), 2) := by decide +kernel
theorem dL_hangs_196 : decode cL_hangs 196 = .ok (.if_icmp .ne 7, 3) := by decide +kernel
theorem dL_hangs_199 : decode cL_hangs 199 = .ok (.iconst 1, 1) := by decide +kernel
theorem dL_hangs_200 : decode cL_hangs 200 = .ok (.goto 4, 3) := by decide +kernel
theorem dL_hangs_203 : decode cL_hangs 203 = .ok (.iconst 0, 1) := by decide +kernel
theorem dL_hangs_204 : decode cL_hangs 204 = .ok (.aload_n 0, 1) := by decide +kernel
theorem dL_hangs_205 : decode cL_hangs 205 = .ok (.iload 9, 2) := by decide +kernel
theorem dL_hangs_207 : decode cL_hangs 207 = .ok (.invokevirtual 20, 3) := by decide +kernel
theorem dL_hangs_210 : decode cL_hangs 210 = .ok (.iconst 1, 1) := by decide +kernel
theorem dL_hangs_211 : decode cL_hangs 211 = .ok (.if_icmp .ne 7, 3) := by decide +kernel
theorem dL_hangs_214 : decode cL_hangs 214 = .ok (.iconst 1, 1) := by decide +kernel
theorem dL_hangs_215 : decode cL_hangs 215 = .ok (.goto 4, 3) := by decide +kernel
theorem dL_hangs_218 : decode cL_hangs 218 = .ok (.iconst 0, 1) := by decide +kernel
theorem dL_hangs_219 : decode cL_hangs 219 = .ok (.if_icmp .ne 34, 3) := by decide +kernel
theorem dL_hangs_222 : decode cL_hangs 222 = .ok (.iload 10, 2) := by decide +kernel
theorem dL_hangs_224 : decode cL_hangs 224 = .ok (.bipush (-6), 2) := by decide +kernel
theorem dL_hangs_226 : decode cL_hangs 226 = .ok (.if_icmp .ne 7, 3) := by decide +kernel
theorem dL_hangs_229 : decode cL_hangs 229 = .ok (.iconst 1, 1) := by decide +kernel
theorem dL_hangs_230 : decode cL_hangs 230 = .ok (.goto 4, 3) := by decide +kernel
theorem dL_hangs_233 : decode cL_hangs 233 = .ok (.iconst 0, 1) := by decide +kernel
theorem dL_hangs_234 : decode cL_hangs 234 = .ok (.aload_n 0, 1) := by decide +kernel
theorem dL_hangs_235 : decode cL_hangs 235 = .ok (.iload 9, 2) := by decide +kernel
theorem dL_hangs_237 : decode cL_hangs 237 = .ok (.invokevirtual 23, 3) := by decide +kernel
theorem dL_hangs_240 : decode cL_hangs 240 = .ok (.bipush (-5), 2) := by decide +kernel
theorem dL_hangs_242 : decode cL_hangs 242 = .ok (.if_icmp .ne 7, 3) := by decide +kernel
theorem dL_hangs_245 : decode cL_hangs 245 = .ok (.iconst 1, 1) := by decide +kernel
theorem dL_hangs_246 : decode cL_hangs 246 = .ok (.goto 4, 3) := by decide +kernel
theorem dL_hangs_249 : decode cL_hangs 249 = .ok (.iconst 0, 1) := by decide +kernel
theorem dL_hangs_250 : decode cL_hangs 250 = .ok (.if_icmp .eq 5, 3) := by decide +kernel
theorem dL_hangs_253 : decode cL_hangs 253 = .ok (.iconst 0, 1) := by decide +kernel
theorem dL_hangs_254 : decode cL_hangs 254 = .ok (.ireturn, 1) := by decide +kernel
theorem dL_hangs_255 : decode cL_hangs 255 = .ok (.iload 10, 2) := by decide +kernel
theorem dL_hangs_257 : decode cL_hangs 257 = .ok (.bipush (-6), 2) := by decide +kernel
theorem dL_hangs_259 : decode cL_hangs 259 = .ok (.if_icmp .eq 131, 3) := by decide +kernel
theorem dL_hangs_262 : decode cL_hangs 262 = .ok (.aload_n 0, 1) := by decide +kernel
theorem dL_hangs_263 : decode cL_hangs 263 = .ok (.iload 10, 2) := by decide +kernel
theorem dL_hangs_265 : decode cL_hangs 265 = .ok (.iconst 0, 1) := by decide +kernel
theorem dL_hangs_266 : decode cL_hangs 266 = .ok (.invokevirtual 26, 3) := by decide +kernel
theorem dL_hangs_269 : decode cL_hangs 269 = .ok (.aload_n 0, 1) := by decide +kernel
theorem dL_hangs_270 : decode cL_hangs 270 = .ok (.iload 9, 2) := by decide +kernel
theorem dL_hangs_272 : decode cL_hangs 272 = .ok (.iconst 0, 1) := by decide +kernel
theorem dL_hangs_273 : decode cL_hangs 273 = .ok (.invokevirtual 16, 3) := by decide +kernel
theorem dL_hangs_276 : decode cL_hangs 276 = .ok (.if_icmp .eq 20, 3) := by decide +kernel
theorem dL_hangs_279 : decode cL_hangs 279 = .ok (.aload_n 0, 1) := by decide +kernel
theorem dL_hangs_280 : decode cL_hangs 280 = .ok (.iload 10, 2) := by decide +kernel
theorem dL_hangs_282 : decode cL_hangs 282 = .ok (.iconst 1, 1) := by decide +kernel
theorem dL_hangs_283 : decode cL_hangs 283 = .ok (.invokevirtual 26, 3) := by decide +kernel
theorem dL_hangs_286 : decode cL_hangs 286 = .ok (.aload_n 0, 1) := by decide +kernel
theorem dL_hangs_287 : decode cL_hangs 287 = .ok (.iload 9, 2) := by decide +kernel
theorem dL_hangs_289 : decode cL_hangs 289 = .ok (.iconst 0, 1) := by decide +kernel
theorem dL_hangs_290 : decode cL_hangs 290 = .ok (.invokevirtual 16, 3) := by decide +kernel
theorem dL_hangs_293 : decode cL_hangs 293 = .ok (.if_icmp .ne 95, 3) := by decide +kernel
theorem dL_hangs_296 : decode cL_hangs 296 = .ok (.aload_n 0, 1) := by decide +kernel
theorem dL_hangs_297 : decode cL_hangs 297 = .ok (.iload 10, 2) := by decide +kernel
theorem dL_hangs_299 : decode cL_hangs 299 = .ok (.invokevirtual 29, 3) := by decide +kernel
theorem dL_hangs_302 : decode cL_hangs 302 = .ok (.iload 9, 2) := by decide +kernel
theorem dL_hangs_304 : decode cL_hangs 304 = .ok (.if_icmp .ne 7, 3) := by decide +kernel
theorem dL_hangs_307 : decode cL_hangs 307 = .ok (.iconst 1, 1) := by decide +kernel
theorem dL_hangs_308 : decode cL_hangs 308 = .ok (.goto 4, 3) := by decide +kernel
theorem dL_hangs_311 : decode cL_hangs 311 = .ok (.iconst 0, 1) := by decide +kernel
theorem dL_hangs_312 : decode cL_hangs 312 = .ok (.aload_n 0, 1) := by decide +kernel
theorem dL_hangs_313 : decode cL_hangs 313 = .ok (.iload 9, 2) := by decide +kernel
theorem dL_hangs_315 : decode cL_hangs 315 = .ok (.invokevirtual 20, 3) := by decide +kernel
theorem dL_hangs_318 : decode cL_hangs 318 = .ok (.ifCond .ne 7, 3) := by decide +kernel
theorem dL_hangs_321 : decode cL_hangs 321 = .ok (.iconst 1, 1) := by decide +kernel
theorem dL_hangs_322 : decode cL_hangs 322 = .ok (.goto 4, 3) := by decide +kernel
theorem dL_hangs_325 : decode cL_hangs 325 = .ok (.iconst 0, 1) := by decide +kernel
theorem dL_hangs_326 : decode cL_hangs 326 = .ok (.if_icmp .ne 62, 3) := by decide +kernel
theorem dL_hangs_329 : decode cL_hangs 329 = .ok (.aload_n 0, 1) := by decide +kernel
theorem dL_hangs_330 : decode cL_hangs 330 = .ok (.iload 9, 2) := by decide +kernel
theorem dL_hangs_332 : decode cL_hangs 332 = .ok (.invokevirtual 20, 3) := by decide +kernel
theorem dL_hangs_335 : decode cL_hangs 335 = .ok (.ifCond .ne 7, 3) := by decide +kernel
theorem dL_hangs_338 : decode cL_hangs 338 = .ok (.iconst 1, 1) := by decide +kernel
theorem dL_hangs_339 : decode cL_hangs 339 = .ok (.goto 4, 3) := by decide +kernel
theorem dL_hangs_342 : decode cL_hangs 342 = .ok (.iconst 0, 1) := by decide +kernel
theorem dL_hangs_343 : decode cL_hangs 343 = .ok (.aload_n 0, 1) := by decide +kernel
theorem dL_hangs_344 : decode cL_hangs 344 = .ok (.iload 9, 2) := by decide +kernel
theorem dL_hangs_346 : decode cL_hangs 346 = .ok (.invokevirtual 23, 3) := by decide +kernel
theorem dL_hangs_349 : decode cL_hangs 349 = .ok (.iconst 1, 1) := by decide +kernel
theorem dL_hangs_350 : decode cL_hangs 350 = .ok (.if_icmp .ne 7, 3) := by decide +kernel
theorem dL_hangs_353 : decode cL_hangs 353 = .ok (.iconst 1, 1) := by decide +kernel
theorem dL_hangs_354 : decode cL_hangs 354 = .ok (.goto 4, 3) := by decide +kernel
theorem dL_hangs_357 : decode cL_hangs 357 = .ok (.iconst 0, 1) := by decide +kernel
theorem dL_hangs_358 : decode cL_hangs 358 = .ok (.if_icmp .ne 30, 3) := by decide +kernel
theorem dL_hangs_361 : decode cL_hangs 361 = .ok (.aload_n 0, 1) := by decide +kernel
theorem dL_hangs_362 : decode cL_hangs 362 = .ok (.iload 9, 2) := by decide +kernel
theorem dL_hangs_364 : decode cL_hangs 364 = .ok (.iconst 3, 1) := by decide +kernel
theorem dL_hangs_365 : decode cL_hangs 365 = .ok (.invokevirtual 16, 3) := by decide +kernel
theorem dL_hangs_368 : decode cL_hangs 368 = .ok (.ifCond .lt 20, 3) := by decide +kernel
theorem dL_hangs_371 : decode cL_hangs 371 = .ok (.aload_n 0, 1) := by decide +kernel
theorem dL_hangs_372 : decode cL_hangs 372 = .ok (.iload 9, 2) := by decide +kernel
theorem dL_hangs_374 : decode cL_hangs 374 = .ok (.iconst 3, 1) := by decide +kernel
theorem dL_hangs_375 : decode cL_hangs 375 = .ok (.invokevirtual 16, 3) := by decide +kernel
theorem dL_hangs_378 : decode cL_hangs 378 = .ok (.aload_n 0, 1) := by decide +kernel
theorem dL_hangs_379 : decode cL_hangs 379 = .ok (.iload 10, 2) := by decide +kernel
theorem dL_hangs_381 : decode cL_hangs 381 = .ok (.iconst 2, 1) := by decide +kernel
theorem dL_hangs_382 : decode cL_hangs 382 = .ok (.invokevirtual 26, 3) := by decide +kernel
theorem dL_hangs_385 : decode cL_hangs 385 = .ok (.if_icmp .lt 5, 3) := by decide +kernel
theorem dL_hangs_388 : decode cL_hangs 388 = .ok (.iconst 0, 1) := by decide +kernel
theorem dL_hangs_389 : decode cL_hangs 389 = .ok (.ireturn, 1) := by decide +kernel
theorem dL_hangs_390 : decode cL_hangs 390 = .ok (.iinc 9 1, 3) := by decide +kernel
theorem dL_hangs_393 : decode cL_hangs 393 = .ok (.goto (-361), 3) := by decide +kernel
theorem dL_hangs_396 : decode cL_hangs 396 = .ok (.iconst 0, 1) := by decide +kernel
theorem dL_hangs_397 : decode cL_hangs 397 = .ok (.istore 9, 2) := by decide +kernel
theorem dL_hangs_399 : decode cL_hangs 399 = .ok (.iconst 0, 1) := by decide +kernel
theorem dL_hangs_400 : decode cL_hangs 400 = .ok (.istore 10, 2) := by decide +kernel
theorem dL_hangs_402 : decode cL_hangs 402 = .ok (.iload 10, 2) := by decide +kernel
theorem dL_hangs_404 : decode cL_hangs 404 = .ok (.iload_n 1, 1) := by decide +kernel
theorem dL_hangs_405 : decode cL_hangs 405 = .ok (.if_icmp .ge 279, 3) := by decide +kernel
theorem dL_hangs_408 : decode cL_hangs 408 = .ok (.aload_n 0, 1) := by decide +kernel
theorem dL_hangs_409 : decode cL_hangs 409 = .ok (.iload 10, 2) := by decide +kernel
theorem dL_hangs_411 : decode cL_hangs 411 = .ok (.iconst 4, 1) := by decide +kernel
theorem dL_hangs_412 : decode cL_hangs 412 = .ok (.invokevirtual 26, 3) := by decide +kernel
theorem dL_hangs_415 : decode cL_hangs 415 = .ok (.istore 11, 2) := by decide +kernel
theorem dL_hangs_417 : decode cL_hangs 417 = .ok (.iload 4, 2) := by decide +kernel
theorem dL_hangs_419 : decode cL_hangs 419 = .ok (.aload_n 0, 1) := by decide +kernel
theorem dL_hangs_420 : decode cL_hangs 420 = .ok (.iload 10, 2) := by decide +kernel
theorem dL_hangs_422 : decode cL_hangs 422 = .ok (.iconst 5, 1) := by decide +kernel
theorem dL_hangs_423 : decode cL_hangs 423 = .ok (.invokevirtual 26, 3) := by decide +kernel
theorem dL_hangs_426 : decode cL_hangs 426 = .ok (.iadd, 1) := by decide +kernel
theorem dL_hangs_427 : decode cL_hangs 427 = .ok (.istore 4, 2) := by decide +kernel
theorem dL_hangs_429 : decode cL_hangs 429 = .ok (.iload 6, 2) := by decide +kernel
theorem dL_hangs_431 : decode cL_hangs 431 = .ok (.aload_n 0, 1) := by decide +kernel
theorem dL_hangs_432 : decode cL_hangs 432 = .ok (.iload 10, 2) := by decide +kernel
theorem dL_hangs_434 : decode cL_hangs 434 = .ok (.bipush 6, 2) := by decide +kernel
theorem dL_hangs_436 : decode cL_hangs 436 = .ok (.invokevirtual 26, 3) := by decide +kernel
theorem dL_hangs_439 : decode cL_hangs 439 = .ok (.iadd, 1) := by decide +kernel
theorem dL_hangs_440 : decode cL_hangs 440 = .ok (.istore 6, 2) := by decide +kernel
theorem dL_hangs_442 : decode cL_hangs 442 = .ok (.sipush 9999, 3) := by decide +kernel
theorem dL_hangs_445 : decode cL_hangs 445 = .ok (.istore 12, 2) := by decide +kernel
theorem dL_hangs_447 : decode cL_hangs 447 = .ok (.iconst 0, 1) := by decide +kernel
theorem dL_hangs_448 : decode cL_hangs 448 = .ok (.istore 13, 2) := by decide +kernel
theorem dL_hangs_450 : decode cL_hangs 450 = .ok (.iload 13, 2) := by decide +kernel
theorem dL_hangs_452 : decode cL_hangs 452 = .ok (.iload 11, 2) := by decide +kernel
theorem dL_hangs_454 : decode cL_hangs 454 = .ok (.if_icmp .ge 79, 3) := by decide +kernel
theorem dL_hangs_457 : decode cL_hangs 457 = .ok (.aload_n 0, 1) := by decide +kernel
theorem dL_hangs_458 : decode cL_hangs 458 = .ok (.iload 10, 2) := by decide +kernel
theorem dL_hangs_460 : decode cL_hangs 460 = .ok (.iload 13, 2) := by decide +kernel
theorem dL_hangs_462 : decode cL_hangs 462 = .ok (.invokevirtual 32, 3) := by decide +kernel
theorem dL_hangs_465 : decode cL_hangs 465 = .ok (.istore 14, 2) := by decide +kernel
theorem dL_hangs_467 : decode cL_hangs 467 = .ok (.iload 14, 2) := by decide +kernel
theorem dL_hangs_469 : decode cL_hangs 469 = .ok (.ifCond .lt 38, 3) := by decide +kernel
theorem dL_hangs_472 : decode cL_hangs 472 = .ok (.iload 9, 2) := by decide +kernel
theorem dL_hangs_474 : decode cL_hangs 474 = .ok (.iload 14, 2) := by decide +kernel
theorem dL_hangs_476 : decode cL_hangs 476 = .ok (.ishr, 1) := by decide +kernel
theorem dL_hangs_477 : decode cL_hangs 477 = .ok (.iconst 1, 1) := by decide +kernel
theorem dL_hangs_478 : decode cL_hangs 478 = .ok (.iand, 1) := by decide +kernel
theorem dL_hangs_479 : decode cL_hangs 479 = .ok (.iconst 1, 1) := by decide +kernel
theorem dL_hangs_480 : decode cL_hangs 480 = .ok (.if_icmp .eq 27, 3) := by decide +kernel
theorem dL_hangs_483 : decode cL_hangs 483 = .ok (.aload_n 0, 1) := by decide +kernel
theorem dL_hangs_484 : decode cL_hangs 484 = .ok (.iload 14, 2) := by decide +kernel
theorem dL_hangs_486 : decode cL_hangs 486 = .ok (.iconst 2, 1) := by decide +kernel
theorem dL_hangs_487 : decode cL_hangs 487 = .ok (.invokevirtual 16, 3) := by decide +kernel
theorem dL_hangs_490 : decode cL_hangs 490 = .ok (.iload 10, 2) := by decide +kernel
theorem dL_hangs_492 : decode cL_hangs 492 = .ok (.if_icmp .ne 15, 3) := by decide +kernel
theorem dL_hangs_495 : decode cL_hangs 495 = .ok (.aload_n 0, 1) := by decide +kernel
theorem dL_hangs_496 : decode cL_hangs 496 = .ok (.iload 14, 2) := by decide +kernel
theorem dL_hangs_498 : decode cL_hangs 498 = .ok (.iconst 4, 1) := by decide +kernel
theorem dL_hangs_499 : decode cL_hangs 499 = .ok (.invokevirtual 16, 3) := by decide +kernel
theorem dL_hangs_502 : decode cL_hangs 502 = .ok (.iload 12, 2) := by decide +kernel
theorem dL_hangs_504 : decode cL_hangs 504 = .ok (.if_icmp .le 5, 3) := by decide +kernel
theorem dL_hangs_507 : decode cL_hangs 507 = .ok (.iconst 0, 1) := by decide +kernel
theorem dL_hangs_508 : decode cL_hangs 508 = .ok (.ireturn, 1) := by decide +kernel
theorem dL_hangs_509 : decode cL_hangs 509 = .ok (.aload_n 0, 1) := by decide +kernel
theorem dL_hangs_510 : decode cL_hangs 510 = .ok (.iload 14, 2) := by decide +kernel
theorem dL_hangs_512 : decode cL_hangs 512 = .ok (.iconst 4, 1) := by decide +kernel
theorem dL_hangs_513 : decode cL_hangs 513 = .ok (.invokevirtual 16, 3) := by decide +kernel
theorem dL_hangs_516 : decode cL_hangs 516 = .ok (.istore 12, 2) := by decide +kernel
theorem dL_hangs_518 : decode cL_hangs 518 = .ok (.iload 9, 2) := by decide +kernel
theorem dL_hangs_520 : decode cL_hangs 520 = .ok (.iconst 1, 1) := by decide +kernel
theorem dL_hangs_521 : decode cL_hangs 521 = .ok (.iload 14, 2) := by decide +kernel
theorem dL_hangs_523 : decode cL_hangs 523 = .ok (.ishl, 1) := by decide +kernel
theorem dL_hangs_524 : decode cL_hangs 524 = .ok (.ior, 1) := by decide +kernel
theorem dL_hangs_525 : decode cL_hangs 525 = .ok (.istore 9, 2) := by decide +kernel
theorem dL_hangs_527 : decode cL_hangs 527 = .ok (.iinc 13 1, 3) := by decide +kernel
theorem dL_hangs_530 : decode cL_hangs 530 = .ok (.goto (-80), 3) := by decide +kernel
theorem dL_hangs_533 : decode cL_hangs 533 = .ok (.aload_n 0, 1) := by decide +kernel
theorem dL_hangs_534 : decode cL_hangs 534 = .ok (.iload 10, 2) := by decide +kernel
theorem dL_hangs_536 : decode cL_hangs 536 = .ok (.invokevirtual 29, 3) := by decide +kernel
theorem dL_hangs_539 : decode cL_hangs 539 = .ok (.istore 13, 2) := by decide +kernel
theorem dL_hangs_541 : decode cL_hangs 541 = .ok (.aload_n 0, 1) := by decide +kernel
theorem dL_hangs_542 : decode cL_hangs 542 = .ok (.iload 10, 2) := by decide +kernel
theorem dL_hangs_544 : decode cL_hangs 544 = .ok (.iload 11, 2) := by decide +kernel
theorem dL_hangs_546 : decode cL_hangs 546 = .ok (.invokevirtual 32, 3) := by decide +kernel
theorem dL_hangs_549 : decode cL_hangs 549 = .ok (.iconst (-1), 1) := by decide +kernel
theorem dL_hangs_550 : decode cL_hangs 550 = .ok (.if_icmp .ne 71, 3) := by decide +kernel
theorem dL_hangs_553 : decode cL_hangs 553 = .ok (.aload_n 0, 1) := by decide +kernel
theorem dL_hangs_554 : decode cL_hangs 554 = .ok (.iload 10, 2) := by decide +kernel
theorem dL_hangs_556 : decode cL_hangs 556 = .ok (.iconst 5, 1) := by decide +kernel
theorem dL_hangs_557 : decode cL_hangs 557 = .ok (.invokevirtual 26, 3) := by decide +kernel
theorem dL_hangs_560 : decode cL_hangs 560 = .ok (.ifCond .lt 61, 3) := by decide +kernel
theorem dL_hangs_563 : decode cL_hangs 563 = .ok (.iload 13, 2) := by decide +kernel
theorem dL_hangs_565 : decode cL_hangs 565 = .ok (.bipush (-6), 2) := by decide +kernel
theorem dL_hangs_567 : decode cL_hangs 567 = .ok (.if_icmp .eq 27, 3) := by decide +kernel
theorem dL_hangs_570 : decode cL_hangs 570 = .ok (.iload 13, 2) := by decide +kernel
theorem dL_hangs_572 : decode cL_hangs 572 = .ok (.aload_n 0, 1) := by decide +kernel
theorem dL_hangs_573 : decode cL_hangs 573 = .ok (.iload 10, 2) := by decide +kernel
theorem dL_hangs_575 : decode cL_hangs 575 = .ok (.iconst 0, 1) := by decide +kernel
theorem dL_hangs_576 : decode cL_hangs 576 = .ok (.invokevirtual 32, 3) := by decide +kernel
theorem dL_hangs_579 : decode cL_hangs 579 = .ok (.if_icmp .eq 15, 3) := by decide +kernel
theorem dL_hangs_582 : decode cL_hangs 582 = .ok (.iload 13, 2) := by decide +kernel
theorem dL_hangs_584 : decode cL_hangs 584 = .ok (.aload_n 0, 1) := by decide +kernel
theorem dL_hangs_585 : decode cL_hangs 585 = .ok (.iload 10, 2) := by decide +kernel
theorem dL_hangs_587 : decode cL_hangs 587 = .ok (.iconst 1, 1) := by decide +kernel
theorem dL_hangs_588 : decode cL_hangs 588 = .ok (.invokevirtual 32, 3) := by decide +kernel
theorem dL_hangs_591 : decode cL_hangs 591 = .ok (.if_icmp .ne 30, 3) := by decide +kernel
theorem dL_hangs_594 : decode cL_hangs 594 = .ok (.aload_n 0, 1) := by decide +kernel
theorem dL_hangs_595 : decode cL_hangs 595 = .ok (.iload 10, 2) := by decide +kernel
theorem dL_hangs_597 : decode cL_hangs 597 = .ok (.iconst 3, 1) := by decide +kernel
theorem dL_hangs_598 : decode cL_hangs 598 = .ok (.invokevirtual 26, 3) := by decide +kernel
theorem dL_hangs_601 : decode cL_hangs 601 = .ok (.ifCond .lt 20, 3) := by decide +kernel
theorem dL_hangs_604 : decode cL_hangs 604 = .ok (.aload_n 0, 1) := by decide +kernel
theorem dL_hangs_605 : decode cL_hangs 605 = .ok (.iload 10, 2) := by decide +kernel
theorem dL_hangs_607 : decode cL_hangs 607 = .ok (.iconst 3, 1) := by decide +kernel
theorem dL_hangs_608 : decode cL_hangs 608 = .ok (.invokevirtual 26, 3) := by decide +kernel
theorem dL_hangs_611 : decode cL_hangs 611 = .ok (.aload_n 0, 1) := by decide +kernel
theorem dL_hangs_612 : decode cL_hangs 612 = .ok (.iload 10, 2) := by decide +kernel
theorem dL_hangs_614 : decode cL_hangs 614 = .ok (.iconst 2, 1) := by decide +kernel
theorem dL_hangs_615 : decode cL_hangs 615 = .ok (.invokevirtual 26, 3) := by decide +kernel
theorem dL_hangs_618 : decode cL_hangs 618 = .ok (.if_icmp .lt 5, 3) := by decide +kernel
theorem dL_hangs_621 : decode cL_hangs 621 = .ok (.iconst 0, 1) := by decide +kernel
theorem dL_hangs_622 : decode cL_hangs 622 = .ok (.ireturn, 1) := by decide +kernel
theorem dL_hangs_623 : decode cL_hangs 623 = .ok (.iconst 0, 1) := by decide +kernel
theorem dL_hangs_624 : decode cL_hangs 624 = .ok (.istore 14, 2) := by decide +kernel
theorem dL_hangs_626 : decode cL_hangs 626 = .ok (.iload 14, 2) := by decide +kernel
theorem dL_hangs_628 : decode cL_hangs 628 = .ok (.iload_n 2, 1) := by decide +kernel
theorem dL_hangs_629 : decode cL_hangs 629 = .ok (.if_icmp .ge 49, 3) := by decide +kernel
theorem dL_hangs_632 : decode cL_hangs 632 = .ok (.aload_n 0, 1) := by decide +kernel
theorem dL_hangs_633 : decode cL_hangs 633 = .ok (.iload 14, 2) := by decide +kernel
theorem dL_hangs_635 : decode cL_hangs 635 = .ok (.iload 10, 2) := by decide +kernel
theorem dL_hangs_637 : decode cL_hangs 637 = .ok (.iconst 0, 1) := by decide +kernel
theorem dL_hangs_638 : decode cL_hangs 638 = .ok (.invokevirtual 35, 3) := by decide +kernel
theorem dL_hangs_641 : decode cL_hangs 641 = .ok (.aload_n 0, 1) := by decide +kernel
theorem dL_hangs_642 : decode cL_hangs 642 = .ok (.iload 10, 2) := by decide +kernel
theorem dL_hangs_644 : decode cL_hangs 644 = .ok (.iconst 3, 1) := by decide +kernel
theorem dL_hangs_645 : decode cL_hangs 645 = .ok (.invokevirtual 26, 3) := by decide +kernel
theorem dL_hangs_648 : decode cL_hangs 648 = .ok (.if_icmp .gt 22, 3) := by decide +kernel
theorem dL_hangs_651 : decode cL_hangs 651 = .ok (.aload_n 0, 1) := by decide +kernel
theorem dL_hangs_652 : decode cL_hangs 652 = .ok (.iload 14, 2) := by decide +kernel
theorem dL_hangs_654 : decode cL_hangs 654 = .ok (.iload 10, 2) := by decide +kernel
theorem dL_hangs_656 : decode cL_hangs 656 = .ok (.iconst 1, 1) := by decide +kernel
theorem dL_hangs_657 : decode cL_hangs 657 = .ok (.invokevirtual 35, 3) := by decide +kernel
theorem dL_hangs_660 : decode cL_hangs 660 = .ok (.aload_n 0, 1) := by decide +kernel
theorem dL_hangs_661 : decode cL_hangs 661 = .ok (.iload 10, 2) := by decide +kernel
theorem dL_hangs_663 : decode cL_hangs 663 = .ok (.iconst 3, 1) := by decide +kernel
theorem dL_hangs_664 : decode cL_hangs 664 = .ok (.invokevirtual 26, 3) := by decide +kernel
theorem dL_hangs_667 : decode cL_hangs 667 = .ok (.if_icmp .ge 5, 3) := by decide +kernel
theorem dL_hangs_670 : decode cL_hangs 670 = .ok (.iconst 0, 1) := by decide +kernel
theorem dL_hangs_671 : decode cL_hangs 671 = .ok (.ireturn, 1) := by decide +kernel
theorem dL_hangs_672 : decode cL_hangs 672 = .ok (.iinc 14 1, 3) := by decide +kernel
theorem dL_hangs_675 : decode cL_hangs 675 = .ok (.goto (-49), 3) := by decide +kernel
theorem dL_hangs_678 : decode cL_hangs 678 = .ok (.iinc 10 1, 3) := by decide +kernel
theorem dL_hangs_681 : decode cL_hangs 681 = .ok (.goto (-279), 3) := by decide +kernel
theorem dL_hangs_684 : decode cL_hangs 684 = .ok (.iload 9, 2) := by decide +kernel
theorem dL_hangs_686 : decode cL_hangs 686 = .ok (.iload 7, 2) := by decide +kernel
theorem dL_hangs_688 : decode cL_hangs 688 = .ok (.if_icmp .ne 74, 3) := by decide +kernel
theorem dL_hangs_691 : decode cL_hangs 691 = .ok (.iload 7, 2) := by decide +kernel
theorem dL_hangs_693 : decode cL_hangs 693 = .ok (.aload_n 0, 1) := by decide +kernel
theorem dL_hangs_694 : decode cL_hangs 694 = .ok (.iconst 3, 1) := by decide +kernel
theorem dL_hangs_695 : decode cL_hangs 695 = .ok (.invokevirtual 10, 3) := by decide +kernel
theorem dL_hangs_698 : decode cL_hangs 698 = .ok (.if_icmp .ne 64, 3) := by decide +kernel
theorem dL_hangs_701 : decode cL_hangs 701 = .ok (.iload 5, 2) := by decide +kernel
theorem dL_hangs_703 : decode cL_hangs 703 = .ok (.iload 6, 2) := by decide +kernel
theorem dL_hangs_705 : decode cL_hangs 705 = .ok (.if_icmp .ne 57, 3) := by decide +kernel
theorem dL_hangs_708 : decode cL_hangs 708 = .ok (.iload 5, 2) := by decide +kernel
theorem dL_hangs_710 : decode cL_hangs 710 = .ok (.aload_n 0, 1) := by decide +kernel
theorem dL_hangs_711 : decode cL_hangs 711 = .ok (.iconst 4, 1) := by decide +kernel
theorem dL_hangs_712 : decode cL_hangs 712 = .ok (.invokevirtual 10, 3) := by decide +kernel
theorem dL_hangs_715 : decode cL_hangs 715 = .ok (.if_icmp .ne 47, 3) := by decide +kernel
theorem dL_hangs_718 : decode cL_hangs 718 = .ok (.iload_n 3, 1) := by decide +kernel
theorem dL_hangs_719 : decode cL_hangs 719 = .ok (.aload_n 0, 1) := by decide +kernel
theorem dL_hangs_720 : decode cL_hangs 720 = .ok (.iconst 5, 1) := by decide +kernel
theorem dL_hangs_721 : decode cL_hangs 721 = .ok (.invokevirtual 10, 3) := by decide +kernel
theorem dL_hangs_724 : decode cL_hangs 724 = .ok (.if_icmp .ne 38, 3) := by decide +kernel
theorem dL_hangs_727 : decode cL_hangs 727 = .ok (.iload 4, 2) := by decide +kernel
theorem dL_hangs_729 : decode cL_hangs 729 = .ok (.aload_n 0, 1) := by decide +kernel
theorem dL_hangs_730 : decode cL_hangs 730 = .ok (.bipush 6, 2) := by decide +kernel
theorem dL_hangs_732 : decode cL_hangs 732 = .ok (.invokevirtual 10, 3) := by decide +kernel
theorem dL_hangs_735 : decode cL_hangs 735 = .ok (.if_icmp .ne 27, 3) := by decide +kernel
theorem dL_hangs_738 : decode cL_hangs 738 = .ok (.iload_n 3, 1) := by decide +kernel
theorem dL_hangs_739 : decode cL_hangs 739 = .ok (.iload 4, 2) := by decide +kernel
theorem dL_hangs_741 : decode cL_hangs 741 = .ok (.iadd, 1) := by decide +kernel
theorem dL_hangs_742 : decode cL_hangs 742 = .ok (.aload_n 0, 1) := by decide +kernel
theorem dL_hangs_743 : decode cL_hangs 743 = .ok (.bipush 7, 2) := by decide +kernel
theorem dL_hangs_745 : decode cL_hangs 745 = .ok (.invokevirtual 10, 3) := by decide +kernel
theorem dL_hangs_748 : decode cL_hangs 748 = .ok (.if_icmp .ne 14, 3) := by decide +kernel
theorem dL_hangs_751 : decode cL_hangs 751 = .ok (.iload 8, 2) := by decide +kernel
theorem dL_hangs_753 : decode cL_hangs 753 = .ok (.iload 4, 2) := by decide +kernel
theorem dL_hangs_755 : decode cL_hangs 755 = .ok (.if_icmp .ne 7, 3) := by decide +kernel
theorem dL_hangs_758 : decode cL_hangs 758 = .ok (.iconst 1, 1) := by decide +kernel
theorem dL_hangs_759 : decode cL_hangs 759 = .ok (.goto 4, 3) := by decide +kernel
theorem dL_hangs_762 : decode cL_hangs 762 = .ok (.iconst 0, 1) := by decide +kernel
theorem dL_hangs_763 : decode cL_hangs 763 = .ok (.ireturn, 1) := by decide +kernel
theorem dL_print_0 : decode cL_print 0 = .ok (.ldc2_w 39, 3) := by decide +kernel
theorem dL_print_3 : decode cL_print 3 = .ok (.lstore_n 1, 1) := by decide +kernel
theorem dL_print_4 : decode cL_print 4 = .ok (.iconst 0, 1) := by decide +kernel
theorem dL_print_5 : decode cL_print 5 = .ok (.istore_n 3, 1) := by decide +kernel
theorem dL_print_6 : decode cL_print 6 = .ok (.iload_n 3, 1) := by decide +kernel
theorem dL_print_7 : decode cL_print 7 = .ok (.bipush 13, 2) := by decide +kernel
theorem dL_print_9 : decode cL_print 9 = .ok (.if_icmp .ge 22, 3) := by decide +kernel
theorem dL_print_12 : decode cL_print 12 = .ok (.ldc2_w 41, 3) := by decide +kernel
theorem dL_print_15 : decode cL_print 15 = .ok (.lload_n 1, 1) := by decide +kernel
theorem dL_print_16 : decode cL_print 16 = .ok (.lmul, 1) := by decide +kernel
theorem dL_print_17 : decode cL_print 17 = .ok (.aload_n 0, 1) := by decide +kernel
theorem dL_print_18 : decode cL_print 18 = .ok (.iload_n 3, 1) := by decide +kernel
theorem dL_print_19 : decode cL_print 19 = .ok (.invokevirtual 10, 3) := by decide +kernel
theorem dL_print_22 : decode cL_print 22 = .ok (.i2l, 1) := by decide +kernel
theorem dL_print_23 : decode cL_print 23 = .ok (.ladd, 1) := by decide +kernel
theorem dL_print_24 : decode cL_print 24 = .ok (.lstore_n 1, 1) := by decide +kernel
theorem dL_print_25 : decode cL_print 25 = .ok (.iinc 3 1, 3) := by decide +kernel
theorem dL_print_28 : decode cL_print 28 = .ok (.goto (-22), 3) := by decide +kernel
theorem dL_print_31 : decode cL_print 31 = .ok (.iconst 0, 1) := by decide +kernel
theorem dL_print_32 : decode cL_print 32 = .ok (.istore_n 3, 1) := by decide +kernel
theorem dL_print_33 : decode cL_print 33 = .ok (.iload_n 3, 1) := by decide +kernel
theorem dL_print_34 : decode cL_print 34 = .ok (.bipush 8, 2) := by decide +kernel
theorem dL_print_36 : decode cL_print 36 = .ok (.aload_n 0, 1) := by decide +kernel
theorem dL_print_37 : decode cL_print 37 = .ok (.iconst 1, 1) := by decide +kernel
theorem dL_print_38 : decode cL_print 38 = .ok (.invokevirtual 10, 3) := by decide +kernel
theorem dL_print_41 : decode cL_print 41 = .ok (.imul, 1) := by decide +kernel
theorem dL_print_42 : decode cL_print 42 = .ok (.if_icmp .ge 89, 3) := by decide +kernel
theorem dL_print_45 : decode cL_print 45 = .ok (.ldc2_w 41, 3) := by decide +kernel
theorem dL_print_48 : decode cL_print 48 = .ok (.lload_n 1, 1) := by decide +kernel
theorem dL_print_49 : decode cL_print 49 = .ok (.lmul, 1) := by decide +kernel
theorem dL_print_50 : decode cL_print 50 = .ok (.aload_n 0, 1) := by decide +kernel
theorem dL_print_51 : decode cL_print 51 = .ok (.iload_n 3, 1) := by decide +kernel
theorem dL_print_52 : decode cL_print 52 = .ok (.bipush 8, 2) := by decide +kernel
theorem dL_print_54 : decode cL_print 54 = .ok (.idiv, 1) := by decide +kernel
theorem dL_print_55 : decode cL_print 55 = .ok (.iload_n 3, 1) := by decide +kernel
theorem dL_print_56 : decode cL_print 56 = .ok (.bipush 8, 2) := by decide +kernel
theorem dL_print_58 : decode cL_print 58 = .ok (.irem, 1) := by decide +kernel
theorem dL_print_59 : decode cL_print 59 = .ok (.invokevirtual 26, 3) := by decide +kernel
theorem dL_print_62 : decode cL_print 62 = .ok (.i2l, 1) := by decide +kernel
theorem dL_print_63 : decode cL_print 63 = .ok (.ladd, 1) := by decide +kernel
theorem dL_print_64 : decode cL_print 64 = .ok (.lstore_n 1, 1) := by decide +kernel
theorem dL_print_65 : decode cL_print 65 = .ok (.ldc2_w 41, 3) := by decide +kernel
theorem dL_print_68 : decode cL_print 68 = .ok (.lload_n 1, 1) := by decide +kernel
theorem dL_print_69 : decode cL_print 69 = .ok (.lmul, 1) := by decide +kernel
theorem dL_print_70 : decode cL_print 70 = .ok (.ldc2_w 43, 3) := by decide +kernel
theorem dL_print_73 : decode cL_print 73 = .ok (.aload_n 0, 1) := by decide +kernel
theorem dL_print_74 : decode cL_print 74 = .ok (.iload_n 3, 1) := by decide +kernel
theorem dL_print_75 : decode cL_print 75 = .ok (.bipush 8, 2) := by decide +kernel
theorem dL_print_77 : decode cL_print 77 = .ok (.irem, 1) := by decide +kernel
theorem dL_print_78 : decode cL_print 78 = .ok (.iload_n 3, 1) := by decide +kernel
theorem dL_print_79 : decode cL_print 79 = .ok (.bipush 8, 2) := by decide +kernel
theorem dL_print_81 : decode cL_print 81 = .ok (.idiv, 1) := by decide +kernel
theorem dL_print_82 : decode cL_print 82 = .ok (.iconst 0, 1) := by decide +kernel
theorem dL_print_83 : decode cL_print 83 = .ok (.invokevirtual 35, 3) := by decide +kernel
theorem dL_print_86 : decode cL_print 86 = .ok (.i2l, 1) := by decide +kernel
theorem dL_print_87 : decode cL_print 87 = .ok (.lmul, 1) := by decide +kernel
theorem dL_print_88 : decode cL_print 88 = .ok (.ladd, 1) := by decide +kernel
theorem dL_print_89 : decode cL_print 89 = .ok (.aload_n 0, 1) := by decide +kernel
theorem dL_print_90 : decode cL_print 90 = .ok (.iload_n 3, 1) := by decide +kernel
theorem dL_print_91 : decode cL_print 91 = .ok (.bipush 8, 2) := by decide +kernel
theorem dL_print_93 : decode cL_print 93 = .ok (.irem, 1) := by decide +kernel
theorem dL_print_94 : decode cL_print 94 = .ok (.iload_n 3, 1) := by decide +kernel
theorem dL_print_95 : decode cL_print 95 = .ok (.bipush 8, 2) := by decide +kernel
theorem dL_print_97 : decode cL_print 97 = .ok (.idiv, 1) := by decide +kernel
theorem dL_print_98 : decode cL_print 98 = .ok (.iconst 1, 1) := by decide +kernel
theorem dL_print_99 : decode cL_print 99 = .ok (.invokevirtual 35, 3) := by decide +kernel
theorem dL_print_102 : decode cL_print 102 = .ok (.i2l, 1) := by decide +kernel
theorem dL_print_103 : decode cL_print 103 = .ok (.ladd, 1) := by decide +kernel
theorem dL_print_104 : decode cL_print 104 = .ok (.lstore_n 1, 1) := by decide +kernel
theorem dL_print_105 : decode cL_print 105 = .ok (.ldc2_w 41, 3) := by decide +kernel
theorem dL_print_108 : decode cL_print 108 = .ok (.lload_n 1, 1) := by decide +kernel
theorem dL_print_109 : decode cL_print 109 = .ok (.lmul, 1) := by decide +kernel
theorem dL_print_110 : decode cL_print 110 = .ok (.aload_n 0, 1) := by decide +kernel
theorem dL_print_111 : decode cL_print 111 = .ok (.iload_n 3, 1) := by decide +kernel
theorem dL_print_112 : decode cL_print 112 = .ok (.bipush 8, 2) := by decide +kernel
theorem dL_print_114 : decode cL_print 114 = .ok (.idiv, 1) := by decide +kernel
theorem dL_print_115 : decode cL_print 115 = .ok (.iload_n 3, 1) := by decide +kernel
theorem dL_print_116 : decode cL_print 116 = .ok (.bipush 8, 2) := by decide +kernel
theorem dL_print_118 : decode cL_print 118 = .ok (.irem, 1) := by decide +kernel
theorem dL_print_119 : decode cL_print 119 = .ok (.invokevirtual 32, 3) := by decide +kernel
theorem dL_print_122 : decode cL_print 122 = .ok (.i2l, 1) := by decide +kernel
theorem dL_print_123 : decode cL_print 123 = .ok (.ladd, 1) := by decide +kernel
theorem dL_print_124 : decode cL_print 124 = .ok (.lstore_n 1, 1) := by decide +kernel
theorem dL_print_125 : decode cL_print 125 = .ok (.iinc 3 1, 3) := by decide +kernel
theorem dL_print_128 : decode cL_print 128 = .ok (.goto (-95), 3) := by decide +kernel
theorem dL_print_131 : decode cL_print 131 = .ok (.iconst 0, 1) := by decide +kernel
theorem dL_print_132 : decode cL_print 132 = .ok (.istore_n 3, 1) := by decide +kernel
theorem dL_print_133 : decode cL_print 133 = .ok (.iload_n 3, 1) := by decide +kernel
theorem dL_print_134 : decode cL_print 134 = .ok (.bipush 8, 2) := by decide +kernel
theorem dL_print_136 : decode cL_print 136 = .ok (.aload_n 0, 1) := by decide +kernel
theorem dL_print_137 : decode cL_print 137 = .ok (.iconst 2, 1) := by decide +kernel
theorem dL_print_138 : decode cL_print 138 = .ok (.invokevirtual 10, 3) := by decide +kernel
theorem dL_print_141 : decode cL_print 141 = .ok (.imul, 1) := by decide +kernel
theorem dL_print_142 : decode cL_print 142 = .ok (.if_icmp .ge 29, 3) := by decide +kernel
theorem dL_print_145 : decode cL_print 145 = .ok (.ldc2_w 41, 3) := by decide +kernel
theorem dL_print_148 : decode cL_print 148 = .ok (.lload_n 1, 1) := by decide +kernel
theorem dL_print_149 : decode cL_print 149 = .ok (.lmul, 1) := by decide +kernel
theorem dL_print_150 : decode cL_print 150 = .ok (.aload_n 0, 1) := by decide +kernel
theorem dL_print_151 : decode cL_print 151 = .ok (.iload_n 3, 1) := by decide +kernel
theorem dL_print_152 : decode cL_print 152 = .ok (.bipush 8, 2) := by decide +kernel
theorem dL_print_154 : decode cL_print 154 = .ok (.idiv, 1) := by decide +kernel
theorem dL_print_155 : decode cL_print 155 = .ok (.iload_n 3, 1) := by decide +kernel
theorem dL_print_156 : decode cL_print 156 = .ok (.bipush 8, 2) := by decide +kernel
theorem dL_print_158 : decode cL_print 158 = .ok (.irem, 1) := by decide +kernel
theorem dL_print_159 : decode cL_print 159 = .ok (.invokevirtual 16, 3) := by decide +kernel
theorem dL_print_162 : decode cL_print 162 = .ok (.i2l, 1) := by decide +kernel
theorem dL_print_163 : decode cL_print 163 = .ok (.ladd, 1) := by decide +kernel
theorem dL_print_164 : decode cL_print 164 = .ok (.lstore_n 1, 1) := by decide +kernel
theorem dL_print_165 : decode cL_print 165 = .ok (.iinc 3 1, 3) := by decide +kernel
theorem dL_print_168 : decode cL_print 168 = .ok (.goto (-35), 3) := by decide +kernel
theorem dL_print_171 : decode cL_print 171 = .ok (.lload_n 1, 1) := by decide +kernel
theorem dL_print_172 : decode cL_print 172 = .ok (.lreturn, 1) := by decide +kernel
theorem dL_waits_0 : decode cL_waits 0 = .ok (.aload_n 0, 1) := by decide +kernel
theorem dL_waits_1 : decode cL_waits 1 = .ok (.iconst 2, 1) := by decide +kernel
theorem dL_waits_2 : decode cL_waits 2 = .ok (.invokevirtual 10, 3) := by decide +kernel
theorem dL_waits_5 : decode cL_waits 5 = .ok (.istore_n 3, 1) := by decide +kernel
theorem dL_waits_6 : decode cL_waits 6 = .ok (.iload_n 2, 1) := by decide +kernel
theorem dL_waits_7 : decode cL_waits 7 = .ok (.iload_n 3, 1) := by decide +kernel
theorem dL_waits_8 : decode cL_waits 8 = .ok (.iconst 1, 1) := by decide +kernel
theorem dL_waits_9 : decode cL_waits 9 = .ok (.iadd, 1) := by decide +kernel
theorem dL_waits_10 : decode cL_waits 10 = .ok (.invokestatic 45, 3) := by decide +kernel
theorem dL_waits_13 : decode cL_waits 13 = .ok (.istore 4, 2) := by decide +kernel
theorem dL_waits_15 : decode cL_waits 15 = .ok (.aload_n 0, 1) := by decide +kernel
theorem dL_waits_16 : decode cL_waits 16 = .ok (.iload 4, 2) := by decide +kernel
theorem dL_waits_18 : decode cL_waits 18 = .ok (.invokevirtual 23, 3) := by decide +kernel
theorem dL_waits_21 : decode cL_waits 21 = .ok (.istore 5, 2) := by decide +kernel
theorem dL_waits_23 : decode cL_waits 23 = .ok (.aload_n 0, 1) := by decide +kernel
theorem dL_waits_24 : decode cL_waits 24 = .ok (.iload_n 1, 1) := by decide +kernel
theorem dL_waits_25 : decode cL_waits 25 = .ok (.iconst 0, 1) := by decide +kernel
theorem dL_waits_26 : decode cL_waits 26 = .ok (.invokevirtual 50, 3) := by decide +kernel
theorem dL_waits_29 : decode cL_waits 29 = .ok (.istore 6, 2) := by decide +kernel
theorem dL_waits_31 : decode cL_waits 31 = .ok (.aload_n 0, 1) := by decide +kernel
theorem dL_waits_32 : decode cL_waits 32 = .ok (.iload_n 1, 1) := by decide +kernel
theorem dL_waits_33 : decode cL_waits 33 = .ok (.iconst 1, 1) := by decide +kernel
theorem dL_waits_34 : decode cL_waits 34 = .ok (.invokevirtual 50, 3) := by decide +kernel
theorem dL_waits_37 : decode cL_waits 37 = .ok (.istore 7, 2) := by decide +kernel
theorem dL_waits_39 : decode cL_waits 39 = .ok (.aload_n 0, 1) := by decide +kernel
theorem dL_waits_40 : decode cL_waits 40 = .ok (.iload_n 1, 1) := by decide +kernel
theorem dL_waits_41 : decode cL_waits 41 = .ok (.iconst 2, 1) := by decide +kernel
theorem dL_waits_42 : decode cL_waits 42 = .ok (.invokevirtual 50, 3) := by decide +kernel
theorem dL_waits_45 : decode cL_waits 45 = .ok (.istore 8, 2) := by decide +kernel
theorem dL_waits_47 : decode cL_waits 47 = .ok (.aload_n 0, 1) := by decide +kernel
theorem dL_waits_48 : decode cL_waits 48 = .ok (.iload_n 1, 1) := by decide +kernel
theorem dL_waits_49 : decode cL_waits 49 = .ok (.iconst 3, 1) := by decide +kernel
theorem dL_waits_50 : decode cL_waits 50 = .ok (.invokevirtual 50, 3) := by decide +kernel
theorem dL_waits_53 : decode cL_waits 53 = .ok (.istore 9, 2) := by decide +kernel
theorem dL_waits_55 : decode cL_waits 55 = .ok (.aload_n 0, 1) := by decide +kernel
theorem dL_waits_56 : decode cL_waits 56 = .ok (.invokestatic 53, 3) := by decide +kernel
theorem dL_waits_59 : decode cL_waits 59 = .ok (.lstore 10, 2) := by decide +kernel
theorem dL_waits_61 : decode cL_waits 61 = .ok (.iload 4, 2) := by decide +kernel
theorem dL_waits_63 : decode cL_waits 63 = .ok (.iload_n 3, 1) := by decide +kernel
theorem dL_waits_64 : decode cL_waits 64 = .ok (.if_icmp .ge 13, 3) := by decide +kernel
theorem dL_waits_67 : decode cL_waits 67 = .ok (.aload_n 0, 1) := by decide +kernel
theorem dL_waits_68 : decode cL_waits 68 = .ok (.iload 4, 2) := by decide +kernel
theorem dL_waits_70 : decode cL_waits 70 = .ok (.iconst 5, 1) := by decide +kernel
theorem dL_waits_71 : decode cL_waits 71 = .ok (.invokevirtual 16, 3) := by decide +kernel
theorem dL_waits_74 : decode cL_waits 74 = .ok (.goto 4, 3) := by decide +kernel
theorem dL_waits_77 : decode cL_waits 77 = .ok (.iconst 0, 1) := by decide +kernel
theorem dL_waits_78 : decode cL_waits 78 = .ok (.istore 12, 2) := by decide +kernel
theorem dL_waits_80 : decode cL_waits 80 = .ok (.iconst 0, 1) := by decide +kernel
theorem dL_waits_81 : decode cL_waits 81 = .ok (.istore 13, 2) := by decide +kernel
theorem dL_waits_83 : decode cL_waits 83 = .ok (.iconst 0, 1) := by decide +kernel
theorem dL_waits_84 : decode cL_waits 84 = .ok (.istore 14, 2) := by decide +kernel
theorem dL_waits_86 : decode cL_waits 86 = .ok (.iconst 0, 1) := by decide +kernel
theorem dL_waits_87 : decode cL_waits 87 = .ok (.istore 15, 2) := by decide +kernel
theorem dL_waits_89 : decode cL_waits 89 = .ok (.iload 15, 2) := by decide +kernel
theorem dL_waits_91 : decode cL_waits 91 = .ok (.iload_n 3, 1) := by decide +kernel
theorem dL_waits_92 : decode cL_waits 92 = .ok (.if_icmp .ge 35, 3) := by decide +kernel
theorem dL_waits_95 : decode cL_waits 95 = .ok (.iload 13, 2) := by decide +kernel
theorem dL_waits_97 : decode cL_waits 97 = .ok (.aload_n 0, 1) := by decide +kernel
theorem dL_waits_98 : decode cL_waits 98 = .ok (.iload 15, 2) := by decide +kernel
theorem dL_waits_100 : decode cL_waits 100 = .ok (.bipush 6, 2) := by decide +kernel
theorem dL_waits_102 : decode cL_waits 102 = .ok (.invokevirtual 16, 3) := by decide +kernel
theorem dL_waits_105 : decode cL_waits 105 = .ok (.iadd, 1) := by decide +kernel
theorem dL_waits_106 : decode cL_waits 106 = .ok (.istore 13, 2) := by decide +kernel
theorem dL_waits_108 : decode cL_waits 108 = .ok (.iload 14, 2) := by decide +kernel
theorem dL_waits_110 : decode cL_waits 110 = .ok (.aload_n 0, 1) := by decide +kernel
theorem dL_waits_111 : decode cL_waits 111 = .ok (.iload 15, 2) := by decide +kernel
theorem dL_waits_113 : decode cL_waits 113 = .ok (.bipush 7, 2) := by decide +kernel
theorem dL_waits_115 : decode cL_waits 115 = .ok (.invokevirtual 16, 3) := by decide +kernel
theorem dL_waits_118 : decode cL_waits 118 = .ok (.iadd, 1) := by decide +kernel
theorem dL_waits_119 : decode cL_waits 119 = .ok (.istore 14, 2) := by decide +kernel
theorem dL_waits_121 : decode cL_waits 121 = .ok (.iinc 15 1, 3) := by decide +kernel
theorem dL_waits_124 : decode cL_waits 124 = .ok (.goto (-35), 3) := by decide +kernel
theorem dL_waits_127 : decode cL_waits 127 = .ok (.aload_n 0, 1) := by decide +kernel
theorem dL_waits_128 : decode cL_waits 128 = .ok (.iload_n 1, 1) := by decide +kernel
theorem dL_waits_129 : decode cL_waits 129 = .ok (.invokevirtual 57, 3) := by decide +kernel
theorem dL_waits_132 : decode cL_waits 132 = .ok (.iload 6, 2) := by decide +kernel
theorem dL_waits_134 : decode cL_waits 134 = .ok (.if_icmp .eq 5, 3) := by decide +kernel
theorem dL_waits_137 : decode cL_waits 137 = .ok (.iconst 0, 1) := by decide +kernel
theorem dL_waits_138 : decode cL_waits 138 = .ok (.ireturn, 1) := by decide +kernel
theorem dL_waits_139 : decode cL_waits 139 = .ok (.iconst 0, 1) := by decide +kernel
theorem dL_waits_140 : decode cL_waits 140 = .ok (.istore 15, 2) := by decide +kernel
theorem dL_waits_142 : decode cL_waits 142 = .ok (.iload 15, 2) := by decide +kernel
theorem dL_waits_144 : decode cL_waits 144 = .ok (.iload_n 3, 1) := by decide +kernel
theorem dL_waits_145 : decode cL_waits 145 = .ok (.if_icmp .ge 35, 3) := by decide +kernel
theorem dL_waits_148 : decode cL_waits 148 = .ok (.iload 13, 2) := by decide +kernel
theorem dL_waits_150 : decode cL_waits 150 = .ok (.aload_n 0, 1) := by decide +kernel
theorem dL_waits_151 : decode cL_waits 151 = .ok (.iload 15, 2) := by decide +kernel
theorem dL_waits_153 : decode cL_waits 153 = .ok (.bipush 6, 2) := by decide +kernel
theorem dL_waits_155 : decode cL_waits 155 = .ok (.invokevirtual 16, 3) := by decide +kernel
theorem dL_waits_158 : decode cL_waits 158 = .ok (.isub, 1) := by decide +kernel
theorem dL_waits_159 : decode cL_waits 159 = .ok (.istore 13, 2) := by decide +kernel
theorem dL_waits_161 : decode cL_waits 161 = .ok (.iload 14, 2) := by decide +kernel
theorem dL_waits_163 : decode cL_waits 163 = .ok (.aload_n 0, 1) := by decide +kernel
theorem dL_waits_164 : decode cL_waits 164 = .ok (.iload 15, 2) := by decide +kernel
theorem dL_waits_166 : decode cL_waits 166 = .ok (.bipush 7, 2) := by decide +kernel
theorem dL_waits_168 : decode cL_waits 168 = .ok (.invokevirtual 16, 3) := by decide +kernel
theorem dL_waits_171 : decode cL_waits 171 = .ok (.isub, 1) := by decide +kernel
theorem dL_waits_172 : decode cL_waits 172 = .ok (.istore 14, 2) := by decide +kernel
theorem dL_waits_174 : decode cL_waits 174 = .ok (.iinc 15 1, 3) := by decide +kernel
theorem dL_waits_177 : decode cL_waits 177 = .ok (.goto (-35), 3) := by decide +kernel
theorem dL_waits_180 : decode cL_waits 180 = .ok (.iload 13, 2) := by decide +kernel
theorem dL_waits_182 : decode cL_waits 182 = .ok (.iload 7, 2) := by decide +kernel
theorem dL_waits_184 : decode cL_waits 184 = .ok (.ineg, 1) := by decide +kernel
theorem dL_waits_185 : decode cL_waits 185 = .ok (.if_icmp .ne 32, 3) := by decide +kernel
theorem dL_waits_188 : decode cL_waits 188 = .ok (.iload 14, 2) := by decide +kernel
theorem dL_waits_190 : decode cL_waits 190 = .ok (.iload 8, 2) := by decide +kernel
theorem dL_waits_192 : decode cL_waits 192 = .ok (.ineg, 1) := by decide +kernel
theorem dL_waits_193 : decode cL_waits 193 = .ok (.if_icmp .ne 24, 3) := by decide +kernel
theorem dL_waits_196 : decode cL_waits 196 = .ok (.aload_n 0, 1) := by decide +kernel
theorem dL_waits_197 : decode cL_waits 197 = .ok (.iconst 3, 1) := by decide +kernel
theorem dL_waits_198 : decode cL_waits 198 = .ok (.invokevirtual 10, 3) := by decide +kernel
theorem dL_waits_201 : decode cL_waits 201 = .ok (.iload 9, 2) := by decide +kernel
theorem dL_waits_203 : decode cL_waits 203 = .ok (.if_icmp .ne 14, 3) := by decide +kernel
theorem dL_waits_206 : decode cL_waits 206 = .ok (.aload_n 0, 1) := by decide +kernel
theorem dL_waits_207 : decode cL_waits 207 = .ok (.invokestatic 60, 3) := by decide +kernel
theorem dL_waits_210 : decode cL_waits 210 = .ok (.ifCond .eq 7, 3) := by decide +kernel
theorem dL_waits_213 : decode cL_waits 213 = .ok (.iconst 1, 1) := by decide +kernel
theorem dL_waits_214 : decode cL_waits 214 = .ok (.goto 4, 3) := by decide +kernel
theorem dL_waits_217 : decode cL_waits 217 = .ok (.iconst 0, 1) := by decide +kernel
theorem dL_waits_218 : decode cL_waits 218 = .ok (.istore 15, 2) := by decide +kernel
theorem dL_waits_220 : decode cL_waits 220 = .ok (.iload 15, 2) := by decide +kernel
theorem dL_waits_222 : decode cL_waits 222 = .ok (.ifCond .eq 84, 3) := by decide +kernel
theorem dL_waits_225 : decode cL_waits 225 = .ok (.iload 4, 2) := by decide +kernel
theorem dL_waits_227 : decode cL_waits 227 = .ok (.iload_n 3, 1) := by decide +kernel
theorem dL_waits_228 : decode cL_waits 228 = .ok (.if_icmp .ne 12, 3) := by decide +kernel
theorem dL_waits_231 : decode cL_waits 231 = .ok (.iload 5, 2) := by decide +kernel
theorem dL_waits_233 : decode cL_waits 233 = .ok (.iconst (-1), 1) := by decide +kernel
theorem dL_waits_234 : decode cL_waits 234 = .ok (.if_icmp .ne 72, 3) := by decide +kernel
theorem dL_waits_237 : decode cL_waits 237 = .ok (.goto 65, 3) := by decide +kernel
theorem dL_waits_240 : decode cL_waits 240 = .ok (.iload 5, 2) := by decide +kernel
theorem dL_waits_242 : decode cL_waits 242 = .ok (.bipush (-5), 2) := by decide +kernel
theorem dL_waits_244 : decode cL_waits 244 = .ok (.if_icmp .ne 18, 3) := by decide +kernel
theorem dL_waits_247 : decode cL_waits 247 = .ok (.aload_n 0, 1) := by decide +kernel
theorem dL_waits_248 : decode cL_waits 248 = .ok (.iload 4, 2) := by decide +kernel
theorem dL_waits_250 : decode cL_waits 250 = .ok (.iconst 5, 1) := by decide +kernel
theorem dL_waits_251 : decode cL_waits 251 = .ok (.invokevirtual 16, 3) := by decide +kernel
theorem dL_waits_254 : decode cL_waits 254 = .ok (.iload 12, 2) := by decide +kernel
theorem dL_waits_256 : decode cL_waits 256 = .ok (.if_icmp .ne 50, 3) := by decide +kernel
theorem dL_waits_259 : decode cL_waits 259 = .ok (.goto 43, 3) := by decide +kernel
theorem dL_waits_262 : decode cL_waits 262 = .ok (.iload 5, 2) := by decide +kernel
theorem dL_waits_264 : decode cL_waits 264 = .ok (.bipush (-6), 2) := by decide +kernel
theorem dL_waits_266 : decode cL_waits 266 = .ok (.if_icmp .eq 13, 3) := by decide +kernel
theorem dL_waits_269 : decode cL_waits 269 = .ok (.iload 5, 2) := by decide +kernel
theorem dL_waits_271 : decode cL_waits 271 = .ok (.iload_n 1, 1) := by decide +kernel
theorem dL_waits_272 : decode cL_waits 272 = .ok (.if_icmp .gt 7, 3) := by decide +kernel
theorem dL_waits_275 : decode cL_waits 275 = .ok (.iconst 1, 1) := by decide +kernel
theorem dL_waits_276 : decode cL_waits 276 = .ok (.goto 4, 3) := by decide +kernel
theorem dL_waits_279 : decode cL_waits 279 = .ok (.iconst 0, 1) := by decide +kernel
theorem dL_waits_280 : decode cL_waits 280 = .ok (.aload_n 0, 1) := by decide +kernel
theorem dL_waits_281 : decode cL_waits 281 = .ok (.iload 4, 2) := by decide +kernel
theorem dL_waits_283 : decode cL_waits 283 = .ok (.iconst 5, 1) := by decide +kernel
theorem dL_waits_284 : decode cL_waits 284 = .ok (.invokevirtual 16, 3) := by decide +kernel
theorem dL_waits_287 : decode cL_waits 287 = .ok (.iload 12, 2) := by decide +kernel
theorem dL_waits_289 : decode cL_waits 289 = .ok (.iconst 1, 1) := by decide +kernel
theorem dL_waits_290 : decode cL_waits 290 = .ok (.iadd, 1) := by decide +kernel
theorem dL_waits_291 : decode cL_waits 291 = .ok (.if_icmp .ne 7, 3) := by decide +kernel
theorem dL_waits_294 : decode cL_waits 294 = .ok (.iconst 1, 1) := by decide +kernel
theorem dL_waits_295 : decode cL_waits 295 = .ok (.goto 4, 3) := by decide +kernel
theorem dL_waits_298 : decode cL_waits 298 = .ok (.iconst 0, 1) := by decide +kernel
theorem dL_waits_299 : decode cL_waits 299 = .ok (.if_icmp .ne 7, 3) := by decide +kernel
theorem dL_waits_302 : decode cL_waits 302 = .ok (.iconst 1, 1) := by decide +kernel
theorem dL_waits_303 : decode cL_waits 303 = .ok (.goto 4, 3) := by decide +kernel
theorem dL_waits_306 : decode cL_waits 306 = .ok (.iconst 0, 1) := by decide +kernel
theorem dL_waits_307 : decode cL_waits 307 = .ok (.istore 15, 2) := by decide +kernel
theorem dL_waits_309 : decode cL_waits 309 = .ok (.iload 15, 2) := by decide +kernel
theorem dL_waits_311 : decode cL_waits 311 = .ok (.ifCond .eq 24, 3) := by decide +kernel
theorem dL_waits_314 : decode cL_waits 314 = .ok (.aload_n 0, 1) := by decide +kernel
theorem dL_waits_315 : decode cL_waits 315 = .ok (.invokevirtual 64, 3) := by decide +kernel
theorem dL_waits_318 : decode cL_waits 318 = .ok (.ifCond .lt 17, 3) := by decide +kernel
theorem dL_waits_321 : decode cL_waits 321 = .ok (.aload_n 0, 1) := by decide +kernel
theorem dL_waits_322 : decode cL_waits 322 = .ok (.invokestatic 53, 3) := by decide +kernel
theorem dL_waits_325 : decode cL_waits 325 = .ok (.lload 10, 2) := by decide +kernel
theorem dL_waits_327 : decode cL_waits 327 = .ok (.lcmp, 1) := by decide +kernel
theorem dL_waits_328 : decode cL_waits 328 = .ok (.ifCond .ne 7, 3) := by decide +kernel
theorem dL_waits_331 : decode cL_waits 331 = .ok (.iconst 1, 1) := by decide +kernel
theorem dL_waits_332 : decode cL_waits 332 = .ok (.goto 4, 3) := by decide +kernel
theorem dL_waits_335 : decode cL_waits 335 = .ok (.iconst 0, 1) := by decide +kernel
theorem dL_waits_336 : decode cL_waits 336 = .ok (.ireturn, 1) := by decide +kernel
theorem dL_notes_0 : decode cL_notes 0 = .ok (.aload_n 0, 1) := by decide +kernel
theorem dL_notes_1 : decode cL_notes 1 = .ok (.iload_n 1, 1) := by decide +kernel
theorem dL_notes_2 : decode cL_notes 2 = .ok (.invokevirtual 68, 3) := by decide +kernel
theorem dL_notes_5 : decode cL_notes 5 = .ok (.istore_n 2, 1) := by decide +kernel
theorem dL_notes_6 : decode cL_notes 6 = .ok (.iload_n 1, 1) := by decide +kernel
theorem dL_notes_7 : decode cL_notes 7 = .ok (.aload_n 0, 1) := by decide +kernel
theorem dL_notes_8 : decode cL_notes 8 = .ok (.iconst 2, 1) := by decide +kernel
theorem dL_notes_9 : decode cL_notes 9 = .ok (.invokevirtual 10, 3) := by decide +kernel
theorem dL_notes_12 : decode cL_notes 12 = .ok (.if_icmp .ne 14, 3) := by decide +kernel
theorem dL_notes_15 : decode cL_notes 15 = .ok (.iload_n 2, 1) := by decide +kernel
theorem dL_notes_16 : decode cL_notes 16 = .ok (.iconst (-1), 1) := by decide +kernel
theorem dL_notes_17 : decode cL_notes 17 = .ok (.if_icmp .ne 7, 3) := by decide +kernel
theorem dL_notes_20 : decode cL_notes 20 = .ok (.iconst 1, 1) := by decide +kernel
theorem dL_notes_21 : decode cL_notes 21 = .ok (.goto 4, 3) := by decide +kernel
theorem dL_notes_24 : decode cL_notes 24 = .ok (.iconst 0, 1) := by decide +kernel
theorem dL_notes_25 : decode cL_notes 25 = .ok (.ireturn, 1) := by decide +kernel
theorem dL_notes_26 : decode cL_notes 26 = .ok (.iload_n 2, 1) := by decide +kernel
theorem dL_notes_27 : decode cL_notes 27 = .ok (.aload_n 0, 1) := by decide +kernel
theorem dL_notes_28 : decode cL_notes 28 = .ok (.bipush 13, 2) := by decide +kernel
theorem dL_notes_30 : decode cL_notes 30 = .ok (.invokevirtual 10, 3) := by decide +kernel
theorem dL_notes_33 : decode cL_notes 33 = .ok (.if_icmp .ne 77, 3) := by decide +kernel
theorem dL_notes_36 : decode cL_notes 36 = .ok (.iload_n 2, 1) := by decide +kernel
theorem dL_notes_37 : decode cL_notes 37 = .ok (.iconst 5, 1) := by decide +kernel
theorem dL_notes_38 : decode cL_notes 38 = .ok (.if_icmp .le 72, 3) := by decide +kernel
theorem dL_notes_41 : decode cL_notes 41 = .ok (.iload_n 2, 1) := by decide +kernel
theorem dL_notes_42 : decode cL_notes 42 = .ok (.bipush 80, 2) := by decide +kernel
theorem dL_notes_44 : decode cL_notes 44 = .ok (.if_icmp .gt 66, 3) := by decide +kernel
theorem dL_notes_47 : decode cL_notes 47 = .ok (.aload_n 0, 1) := by decide +kernel
theorem dL_notes_48 : decode cL_notes 48 = .ok (.iconst 0, 1) := by decide +kernel
theorem dL_notes_49 : decode cL_notes 49 = .ok (.invokevirtual 71, 3) := by decide +kernel
theorem dL_notes_52 : decode cL_notes 52 = .ok (.bipush 99, 2) := by decide +kernel
theorem dL_notes_54 : decode cL_notes 54 = .ok (.if_icmp .ne 56, 3) := by decide +kernel
theorem dL_notes_57 : decode cL_notes 57 = .ok (.aload_n 0, 1) := by decide +kernel
theorem dL_notes_58 : decode cL_notes 58 = .ok (.iconst 1, 1) := by decide +kernel
theorem dL_notes_59 : decode cL_notes 59 = .ok (.invokevirtual 71, 3) := by decide +kernel
theorem dL_notes_62 : decode cL_notes 62 = .ok (.bipush 48, 2) := by decide +kernel
theorem dL_notes_64 : decode cL_notes 64 = .ok (.iload_n 1, 1) := by decide +kernel
theorem dL_notes_65 : decode cL_notes 65 = .ok (.iadd, 1) := by decide +kernel
theorem dL_notes_66 : decode cL_notes 66 = .ok (.if_icmp .ne 44, 3) := by decide +kernel
theorem dL_notes_69 : decode cL_notes 69 = .ok (.aload_n 0, 1) := by decide +kernel
theorem dL_notes_70 : decode cL_notes 70 = .ok (.iconst 2, 1) := by decide +kernel
theorem dL_notes_71 : decode cL_notes 71 = .ok (.invokevirtual 71, 3) := by decide +kernel
theorem dL_notes_74 : decode cL_notes 74 = .ok (.bipush 64, 2) := by decide +kernel
theorem dL_notes_76 : decode cL_notes 76 = .ok (.if_icmp .ne 34, 3) := by decide +kernel
theorem dL_notes_79 : decode cL_notes 79 = .ok (.aload_n 0, 1) := by decide +kernel
theorem dL_notes_80 : decode cL_notes 80 = .ok (.iconst 3, 1) := by decide +kernel
theorem dL_notes_81 : decode cL_notes 81 = .ok (.invokevirtual 71, 3) := by decide +kernel
theorem dL_notes_84 : decode cL_notes 84 = .ok (.bipush 48, 2) := by decide +kernel
theorem dL_notes_86 : decode cL_notes 86 = .ok (.aload_n 0, 1) := by decide +kernel
theorem dL_notes_87 : decode cL_notes 87 = .ok (.iload_n 1, 1) := by decide +kernel
theorem dL_notes_88 : decode cL_notes 88 = .ok (.iconst 0, 1) := by decide +kernel
theorem dL_notes_89 : decode cL_notes 89 = .ok (.invokevirtual 16, 3) := by decide +kernel
theorem dL_notes_92 : decode cL_notes 92 = .ok (.iadd, 1) := by decide +kernel
theorem dL_notes_93 : decode cL_notes 93 = .ok (.if_icmp .ne 17, 3) := by decide +kernel
theorem dL_notes_96 : decode cL_notes 96 = .ok (.aload_n 0, 1) := by decide +kernel
theorem dL_notes_97 : decode cL_notes 97 = .ok (.iconst 4, 1) := by decide +kernel
theorem dL_notes_98 : decode cL_notes 98 = .ok (.invokevirtual 71, 3) := by decide +kernel
theorem dL_notes_101 : decode cL_notes 101 = .ok (.bipush 42, 2) := by decide +kernel
theorem dL_notes_103 : decode cL_notes 103 = .ok (.if_icmp .ne 7, 3) := by decide +kernel
theorem dL_notes_106 : decode cL_notes 106 = .ok (.iconst 1, 1) := by decide +kernel
theorem dL_notes_107 : decode cL_notes 107 = .ok (.goto 4, 3) := by decide +kernel
theorem dL_notes_110 : decode cL_notes 110 = .ok (.iconst 0, 1) := by decide +kernel
theorem dL_notes_111 : decode cL_notes 111 = .ok (.istore_n 3, 1) := by decide +kernel
theorem dL_notes_112 : decode cL_notes 112 = .ok (.iconst 0, 1) := by decide +kernel
theorem dL_notes_113 : decode cL_notes 113 = .ok (.istore 4, 2) := by decide +kernel
theorem dL_notes_115 : decode cL_notes 115 = .ok (.iconst 5, 1) := by decide +kernel
theorem dL_notes_116 : decode cL_notes 116 = .ok (.istore 5, 2) := by decide +kernel
theorem dL_notes_118 : decode cL_notes 118 = .ok (.aload_n 0, 1) := by decide +kernel
theorem dL_notes_119 : decode cL_notes 119 = .ok (.iload 5, 2) := by decide +kernel
theorem dL_notes_121 : decode cL_notes 121 = .ok (.invokevirtual 71, 3) := by decide +kernel
theorem dL_notes_124 : decode cL_notes 124 = .ok (.bipush 48, 2) := by decide +kernel
theorem dL_notes_126 : decode cL_notes 126 = .ok (.if_icmp .lt 37, 3) := by decide +kernel
theorem dL_notes_129 : decode cL_notes 129 = .ok (.aload_n 0, 1) := by decide +kernel
theorem dL_notes_130 : decode cL_notes 130 = .ok (.iload 5, 2) := by decide +kernel
theorem dL_notes_132 : decode cL_notes 132 = .ok (.invokevirtual 71, 3) := by decide +kernel
theorem dL_notes_135 : decode cL_notes 135 = .ok (.bipush 57, 2) := by decide +kernel
theorem dL_notes_137 : decode cL_notes 137 = .ok (.if_icmp .gt 26, 3) := by decide +kernel
theorem dL_notes_140 : decode cL_notes 140 = .ok (.bipush 10, 2) := by decide +kernel
theorem dL_notes_142 : decode cL_notes 142 = .ok (.iload 4, 2) := by decide +kernel
theorem dL_notes_144 : decode cL_notes 144 = .ok (.imul, 1) := by decide +kernel
theorem dL_notes_145 : decode cL_notes 145 = .ok (.aload_n 0, 1) := by decide +kernel
theorem dL_notes_146 : decode cL_notes 146 = .ok (.iload 5, 2) := by decide +kernel
theorem dL_notes_148 : decode cL_notes 148 = .ok (.invokevirtual 71, 3) := by decide +kernel
theorem dL_notes_151 : decode cL_notes 151 = .ok (.iadd, 1) := by decide +kernel
theorem dL_notes_152 : decode cL_notes 152 = .ok (.bipush 48, 2) := by decide +kernel
theorem dL_notes_154 : decode cL_notes 154 = .ok (.isub, 1) := by decide +kernel
theorem dL_notes_155 : decode cL_notes 155 = .ok (.istore 4, 2) := by decide +kernel
theorem dL_notes_157 : decode cL_notes 157 = .ok (.iinc 5 1, 3) := by decide +kernel
theorem dL_notes_160 : decode cL_notes 160 = .ok (.goto (-42), 3) := by decide +kernel
theorem dL_notes_163 : decode cL_notes 163 = .ok (.iload_n 3, 1) := by decide +kernel
theorem dL_notes_164 : decode cL_notes 164 = .ok (.ifCond .eq 35, 3) := by decide +kernel
theorem dL_notes_167 : decode cL_notes 167 = .ok (.iload 4, 2) := by decide +kernel
theorem dL_notes_169 : decode cL_notes 169 = .ok (.aload_n 0, 1) := by decide +kernel
theorem dL_notes_170 : decode cL_notes 170 = .ok (.iload_n 1, 1) := by decide +kernel
theorem dL_notes_171 : decode cL_notes 171 = .ok (.iconst 1, 1) := by decide +kernel
theorem dL_notes_172 : decode cL_notes 172 = .ok (.invokevirtual 16, 3) := by decide +kernel
theorem dL_notes_175 : decode cL_notes 175 = .ok (.if_icmp .ne 24, 3) := by decide +kernel
theorem dL_notes_178 : decode cL_notes 178 = .ok (.iload 5, 2) := by decide +kernel
theorem dL_notes_180 : decode cL_notes 180 = .ok (.iload_n 2, 1) := by decide +kernel
theorem dL_notes_181 : decode cL_notes 181 = .ok (.if_icmp .eq 14, 3) := by decide +kernel
theorem dL_notes_184 : decode cL_notes 184 = .ok (.aload_n 0, 1) := by decide +kernel
theorem dL_notes_185 : decode cL_notes 185 = .ok (.iload 5, 2) := by decide +kernel
theorem dL_notes_187 : decode cL_notes 187 = .ok (.invokevirtual 71, 3) := by decide +kernel
theorem dL_notes_190 : decode cL_notes 190 = .ok (.bipush 59, 2) := by decide +kernel
theorem dL_notes_192 : decode cL_notes 192 = .ok (.if_icmp .ne 7, 3) := by decide +kernel
theorem dL_notes_195 : decode cL_notes 195 = .ok (.iconst 1, 1) := by decide +kernel
theorem dL_notes_196 : decode cL_notes 196 = .ok (.goto 4, 3) := by decide +kernel
theorem dL_notes_199 : decode cL_notes 199 = .ok (.iconst 0, 1) := by decide +kernel
theorem dL_notes_200 : decode cL_notes 200 = .ok (.istore_n 3, 1) := by decide +kernel
theorem dL_notes_201 : decode cL_notes 201 = .ok (.iconst 0, 1) := by decide +kernel
theorem dL_notes_202 : decode cL_notes 202 = .ok (.istore 6, 2) := by decide +kernel
theorem dL_notes_204 : decode cL_notes 204 = .ok (.iconst 0, 1) := by decide +kernel
theorem dL_notes_205 : decode cL_notes 205 = .ok (.istore 7, 2) := by decide +kernel
theorem dL_notes_207 : decode cL_notes 207 = .ok (.iload 7, 2) := by decide +kernel
theorem dL_notes_209 : decode cL_notes 209 = .ok (.iload_n 2, 1) := by decide +kernel
theorem dL_notes_210 : decode cL_notes 210 = .ok (.if_icmp .ge 30, 3) := by decide +kernel
theorem dL_notes_213 : decode cL_notes 213 = .ok (.iload 6, 2) := by decide +kernel
theorem dL_notes_215 : decode cL_notes 215 = .ok (.aload_n 0, 1) := by decide +kernel
theorem dL_notes_216 : decode cL_notes 216 = .ok (.iload 7, 2) := by decide +kernel
theorem dL_notes_218 : decode cL_notes 218 = .ok (.invokevirtual 71, 3) := by decide +kernel
theorem dL_notes_221 : decode cL_notes 221 = .ok (.bipush 59, 2) := by decide +kernel
theorem dL_notes_223 : decode cL_notes 223 = .ok (.if_icmp .ne 7, 3) := by decide +kernel
theorem dL_notes_226 : decode cL_notes 226 = .ok (.iconst 1, 1) := by decide +kernel
theorem dL_notes_227 : decode cL_notes 227 = .ok (.goto 4, 3) := by decide +kernel
theorem dL_notes_230 : decode cL_notes 230 = .ok (.iconst 0, 1) := by decide +kernel
theorem dL_notes_231 : decode cL_notes 231 = .ok (.iadd, 1) := by decide +kernel
theorem dL_notes_232 : decode cL_notes 232 = .ok (.istore 6, 2) := by decide +kernel
theorem dL_notes_234 : decode cL_notes 234 = .ok (.iinc 7 1, 3) := by decide +kernel
theorem dL_notes_237 : decode cL_notes 237 = .ok (.goto (-30), 3) := by decide +kernel
theorem dL_notes_240 : decode cL_notes 240 = .ok (.iconst 0, 1) := by decide +kernel
theorem dL_notes_241 : decode cL_notes 241 = .ok (.istore 7, 2) := by decide +kernel
theorem dL_notes_243 : decode cL_notes 243 = .ok (.iconst 0, 1) := by decide +kernel
theorem dL_notes_244 : decode cL_notes 244 = .ok (.istore 8, 2) := by decide +kernel
theorem dL_notes_246 : decode cL_notes 246 = .ok (.iload 8, 2) := by decide +kernel
theorem dL_notes_248 : decode cL_notes 248 = .ok (.aload_n 0, 1) := by decide +kernel
theorem dL_notes_249 : decode cL_notes 249 = .ok (.iconst 1, 1) := by decide +kernel
theorem dL_notes_250 : decode cL_notes 250 = .ok (.invokevirtual 10, 3) := by decide +kernel
theorem dL_notes_253 : decode cL_notes 253 = .ok (.if_icmp .ge 50, 3) := by decide +kernel
theorem dL_notes_256 : decode cL_notes 256 = .ok (.iload 7, 2) := by decide +kernel
theorem dL_notes_258 : decode cL_notes 258 = .ok (.aload_n 0, 1) := by decide +kernel
theorem dL_notes_259 : decode cL_notes 259 = .ok (.iload_n 1, 1) := by decide +kernel
theorem dL_notes_260 : decode cL_notes 260 = .ok (.iload 8, 2) := by decide +kernel
theorem dL_notes_262 : decode cL_notes 262 = .ok (.iconst 0, 1) := by decide +kernel
theorem dL_notes_263 : decode cL_notes 263 = .ok (.invokevirtual 35, 3) := by decide +kernel
theorem dL_notes_266 : decode cL_notes 266 = .ok (.ifCond .gt 23, 3) := by decide +kernel
theorem dL_notes_269 : decode cL_notes 269 = .ok (.aload_n 0, 1) := by decide +kernel
theorem dL_notes_270 : decode cL_notes 270 = .ok (.iload_n 1, 1) := by decide +kernel
theorem dL_notes_271 : decode cL_notes 271 = .ok (.iload 8, 2) := by decide +kernel
theorem dL_notes_273 : decode cL_notes 273 = .ok (.iconst 1, 1) := by decide +kernel
theorem dL_notes_274 : decode cL_notes 274 = .ok (.invokevirtual 35, 3) := by decide +kernel
theorem dL_notes_277 : decode cL_notes 277 = .ok (.aload_n 0, 1) := by decide +kernel
theorem dL_notes_278 : decode cL_notes 278 = .ok (.iload 8, 2) := by decide +kernel
theorem dL_notes_280 : decode cL_notes 280 = .ok (.iconst 2, 1) := by decide +kernel
theorem dL_notes_281 : decode cL_notes 281 = .ok (.invokevirtual 26, 3) := by decide +kernel
theorem dL_notes_284 : decode cL_notes 284 = .ok (.iconst 1, 1) := by decide +kernel
theorem dL_notes_285 : decode cL_notes 285 = .ok (.isub, 1) := by decide +kernel
theorem dL_notes_286 : decode cL_notes 286 = .ok (.if_icmp .ge 7, 3) := by decide +kernel
theorem dL_notes_289 : decode cL_notes 289 = .ok (.iconst 1, 1) := by decide +kernel
theorem dL_notes_290 : decode cL_notes 290 = .ok (.goto 4, 3) := by decide +kernel
theorem dL_notes_293 : decode cL_notes 293 = .ok (.iconst 0, 1) := by decide +kernel
theorem dL_notes_294 : decode cL_notes 294 = .ok (.iadd, 1) := by decide +kernel
theorem dL_notes_295 : decode cL_notes 295 = .ok (.istore 7, 2) := by decide +kernel
theorem dL_notes_297 : decode cL_notes 297 = .ok (.iinc 8 1, 3) := by decide +kernel
theorem dL_notes_300 : decode cL_notes 300 = .ok (.goto (-54), 3) := by decide +kernel
theorem dL_notes_303 : decode cL_notes 303 = .ok (.iload_n 3, 1) := by decide +kernel
theorem dL_notes_304 : decode cL_notes 304 = .ok (.ifCond .eq 47, 3) := by decide +kernel
theorem dL_notes_307 : decode cL_notes 307 = .ok (.iload_n 2, 1) := by decide +kernel
theorem dL_notes_308 : decode cL_notes 308 = .ok (.bipush 80, 2) := by decide +kernel
theorem dL_notes_310 : decode cL_notes 310 = .ok (.if_icmp .ge 13, 3) := by decide +kernel
theorem dL_notes_313 : decode cL_notes 313 = .ok (.iload 6, 2) := by decide +kernel
theorem dL_notes_315 : decode cL_notes 315 = .ok (.iload 7, 2) := by decide +kernel
theorem dL_notes_317 : decode cL_notes 317 = .ok (.if_icmp .ne 34, 3) := by decide +kernel
theorem dL_notes_320 : decode cL_notes 320 = .ok (.goto 10, 3) := by decide +kernel
theorem dL_notes_323 : decode cL_notes 323 = .ok (.iload 6, 2) := by decide +kernel
theorem dL_notes_325 : decode cL_notes 325 = .ok (.iload 7, 2) := by decide +kernel
theorem dL_notes_327 : decode cL_notes 327 = .ok (.if_icmp .gt 24, 3) := by decide +kernel
theorem dL_notes_330 : decode cL_notes 330 = .ok (.aload_n 0, 1) := by decide +kernel
theorem dL_notes_331 : decode cL_notes 331 = .ok (.iload_n 2, 1) := by decide +kernel
theorem dL_notes_332 : decode cL_notes 332 = .ok (.invokevirtual 71, 3) := by decide +kernel
theorem dL_notes_335 : decode cL_notes 335 = .ok (.iconst (-1), 1) := by decide +kernel
theorem dL_notes_336 : decode cL_notes 336 = .ok (.if_icmp .ne 15, 3) := by decide +kernel
theorem dL_notes_339 : decode cL_notes 339 = .ok (.aload_n 0, 1) := by decide +kernel
theorem dL_notes_340 : decode cL_notes 340 = .ok (.invokevirtual 74, 3) := by decide +kernel
theorem dL_notes_343 : decode cL_notes 343 = .ok (.iload_n 2, 1) := by decide +kernel
theorem dL_notes_344 : decode cL_notes 344 = .ok (.if_icmp .ne 7, 3) := by decide +kernel
theorem dL_notes_347 : decode cL_notes 347 = .ok (.iconst 1, 1) := by decide +kernel
theorem dL_notes_348 : decode cL_notes 348 = .ok (.goto 4, 3) := by decide +kernel
theorem dL_notes_351 : decode cL_notes 351 = .ok (.iconst 0, 1) := by decide +kernel
theorem dL_notes_352 : decode cL_notes 352 = .ok (.ireturn, 1) := by decide +kernel
theorem dL_guesses_0 : decode cL_guesses 0 = .ok (.iload_n 1, 1) := by decide +kernel
theorem dL_guesses_1 : decode cL_guesses 1 = .ok (.aload_n 0, 1) := by decide +kernel
theorem dL_guesses_2 : decode cL_guesses 2 = .ok (.iconst 2, 1) := by decide +kernel
theorem dL_guesses_3 : decode cL_guesses 3 = .ok (.invokevirtual 10, 3) := by decide +kernel
theorem dL_guesses_6 : decode cL_guesses 6 = .ok (.if_icmp .ge 12, 3) := by decide +kernel
theorem dL_guesses_9 : decode cL_guesses 9 = .ok (.iload_n 2, 1) := by decide +kernel
theorem dL_guesses_10 : decode cL_guesses 10 = .ok (.aload_n 0, 1) := by decide +kernel
theorem dL_guesses_11 : decode cL_guesses 11 = .ok (.iconst 1, 1) := by decide +kernel
theorem dL_guesses_12 : decode cL_guesses 12 = .ok (.invokevirtual 10, 3) := by decide +kernel
theorem dL_guesses_15 : decode cL_guesses 15 = .ok (.if_icmp .lt 33, 3) := by decide +kernel
theorem dL_guesses_18 : decode cL_guesses 18 = .ok (.aload_n 0, 1) := by decide +kernel
theorem dL_guesses_19 : decode cL_guesses 19 = .ok (.iload_n 1, 1) := by decide +kernel
theorem dL_guesses_20 : decode cL_guesses 20 = .ok (.iload_n 2, 1) := by decide +kernel
theorem dL_guesses_21 : decode cL_guesses 21 = .ok (.iconst 0, 1) := by decide +kernel
theorem dL_guesses_22 : decode cL_guesses 22 = .ok (.iconst 0, 1) := by decide +kernel
theorem dL_guesses_23 : decode cL_guesses 23 = .ok (.invokevirtual 77, 3) := by decide +kernel
theorem dL_guesses_26 : decode cL_guesses 26 = .ok (.iconst (-1), 1) := by decide +kernel
theorem dL_guesses_27 : decode cL_guesses 27 = .ok (.if_icmp .ne 19, 3) := by decide +kernel
theorem dL_guesses_30 : decode cL_guesses 30 = .ok (.aload_n 0, 1) := by decide +kernel
theorem dL_guesses_31 : decode cL_guesses 31 = .ok (.iload_n 1, 1) := by decide +kernel
theorem dL_guesses_32 : decode cL_guesses 32 = .ok (.iload_n 2, 1) := by decide +kernel
theorem dL_guesses_33 : decode cL_guesses 33 = .ok (.iconst 0, 1) := by decide +kernel
theorem dL_guesses_34 : decode cL_guesses 34 = .ok (.iconst 0, 1) := by decide +kernel
theorem dL_guesses_35 : decode cL_guesses 35 = .ok (.invokevirtual 81, 3) := by decide +kernel
theorem dL_guesses_38 : decode cL_guesses 38 = .ok (.iconst (-1), 1) := by decide +kernel
theorem dL_guesses_39 : decode cL_guesses 39 = .ok (.if_icmp .ne 7, 3) := by decide +kernel
theorem dL_guesses_42 : decode cL_guesses 42 = .ok (.iconst 1, 1) := by decide +kernel
theorem dL_guesses_43 : decode cL_guesses 43 = .ok (.goto 4, 3) := by decide +kernel
theorem dL_guesses_46 : decode cL_guesses 46 = .ok (.iconst 0, 1) := by decide +kernel
theorem dL_guesses_47 : decode cL_guesses 47 = .ok (.ireturn, 1) := by decide +kernel
theorem dL_guesses_48 : decode cL_guesses 48 = .ok (.aload_n 0, 1) := by decide +kernel
theorem dL_guesses_49 : decode cL_guesses 49 = .ok (.iload_n 2, 1) := by decide +kernel
theorem dL_guesses_50 : decode cL_guesses 50 = .ok (.iconst 2, 1) := by decide +kernel
theorem dL_guesses_51 : decode cL_guesses 51 = .ok (.invokevirtual 26, 3) := by decide +kernel
theorem dL_guesses_54 : decode cL_guesses 54 = .ok (.istore 4, 2) := by decide +kernel
theorem dL_guesses_56 : decode cL_guesses 56 = .ok (.iload_n 3, 1) := by decide +kernel
theorem dL_guesses_57 : decode cL_guesses 57 = .ok (.iload 4, 2) := by decide +kernel
theorem dL_guesses_59 : decode cL_guesses 59 = .ok (.invokestatic 45, 3) := by decide +kernel
theorem dL_guesses_62 : decode cL_guesses 62 = .ok (.istore 5, 2) := by decide +kernel
theorem dL_guesses_64 : decode cL_guesses 64 = .ok (.iload_n 3, 1) := by decide +kernel
theorem dL_guesses_65 : decode cL_guesses 65 = .ok (.iconst 4, 1) := by decide +kernel
theorem dL_guesses_66 : decode cL_guesses 66 = .ok (.ishr, 1) := by decide +kernel
theorem dL_guesses_67 : decode cL_guesses 67 = .ok (.iload 4, 2) := by decide +kernel
theorem dL_guesses_69 : decode cL_guesses 69 = .ok (.invokestatic 45, 3) := by decide +kernel
theorem dL_guesses_72 : decode cL_guesses 72 = .ok (.istore 6, 2) := by decide +kernel
theorem dL_guesses_74 : decode cL_guesses 74 = .ok (.aload_n 0, 1) := by decide +kernel
theorem dL_guesses_75 : decode cL_guesses 75 = .ok (.iload_n 1, 1) := by decide +kernel
theorem dL_guesses_76 : decode cL_guesses 76 = .ok (.iload_n 2, 1) := by decide +kernel
theorem dL_guesses_77 : decode cL_guesses 77 = .ok (.iconst 1, 1) := by decide +kernel
theorem dL_guesses_78 : decode cL_guesses 78 = .ok (.invokevirtual 35, 3) := by decide +kernel
theorem dL_guesses_81 : decode cL_guesses 81 = .ok (.aload_n 0, 1) := by decide +kernel
theorem dL_guesses_82 : decode cL_guesses 82 = .ok (.iload_n 1, 1) := by decide +kernel
theorem dL_guesses_83 : decode cL_guesses 83 = .ok (.iload_n 2, 1) := by decide +kernel
theorem dL_guesses_84 : decode cL_guesses 84 = .ok (.iconst 0, 1) := by decide +kernel
theorem dL_guesses_85 : decode cL_guesses 85 = .ok (.invokevirtual 35, 3) := by decide +kernel
theorem dL_guesses_88 : decode cL_guesses 88 = .ok (.isub, 1) := by decide +kernel
theorem dL_guesses_89 : decode cL_guesses 89 = .ok (.iconst 1, 1) := by decide +kernel
theorem dL_guesses_90 : decode cL_guesses 90 = .ok (.iadd, 1) := by decide +kernel
theorem dL_guesses_91 : decode cL_guesses 91 = .ok (.istore 7, 2) := by decide +kernel
theorem dL_guesses_93 : decode cL_guesses 93 = .ok (.aload_n 0, 1) := by decide +kernel
theorem dL_guesses_94 : decode cL_guesses 94 = .ok (.iload_n 1, 1) := by decide +kernel
theorem dL_guesses_95 : decode cL_guesses 95 = .ok (.iload_n 2, 1) := by decide +kernel
theorem dL_guesses_96 : decode cL_guesses 96 = .ok (.iload 5, 2) := by decide +kernel
theorem dL_guesses_98 : decode cL_guesses 98 = .ok (.iload 6, 2) := by decide +kernel
theorem dL_guesses_100 : decode cL_guesses 100 = .ok (.invokevirtual 77, 3) := by decide +kernel
theorem dL_guesses_103 : decode cL_guesses 103 = .ok (.istore 8, 2) := by decide +kernel
theorem dL_guesses_105 : decode cL_guesses 105 = .ok (.aload_n 0, 1) := by decide +kernel
theorem dL_guesses_106 : decode cL_guesses 106 = .ok (.iload_n 1, 1) := by decide +kernel
theorem dL_guesses_107 : decode cL_guesses 107 = .ok (.iload_n 2, 1) := by decide +kernel
theorem dL_guesses_108 : decode cL_guesses 108 = .ok (.iload 6, 2) := by decide +kernel
theorem dL_guesses_110 : decode cL_guesses 110 = .ok (.iload 5, 2) := by decide +kernel
theorem dL_guesses_112 : decode cL_guesses 112 = .ok (.invokevirtual 77, 3) := by decide +kernel
theorem dL_guesses_115 : decode cL_guesses 115 = .ok (.istore 9, 2) := by decide +kernel
theorem dL_guesses_117 : decode cL_guesses 117 = .ok (.aload_n 0, 1) := by decide +kernel
theorem dL_guesses_118 : decode cL_guesses 118 = .ok (.iload_n 1, 1) := by decide +kernel
theorem dL_guesses_119 : decode cL_guesses 119 = .ok (.iload_n 2, 1) := by decide +kernel
theorem dL_guesses_120 : decode cL_guesses 120 = .ok (.iload 6, 2) := by decide +kernel
theorem dL_guesses_122 : decode cL_guesses 122 = .ok (.iconst 0, 1) := by decide +kernel
theorem dL_guesses_123 : decode cL_guesses 123 = .ok (.invokevirtual 81, 3) := by decide +kernel
theorem dL_guesses_126 : decode cL_guesses 126 = .ok (.istore 10, 2) := by decide +kernel
theorem dL_guesses_128 : decode cL_guesses 128 = .ok (.aload_n 0, 1) := by decide +kernel
theorem dL_guesses_129 : decode cL_guesses 129 = .ok (.iload_n 1, 1) := by decide +kernel
theorem dL_guesses_130 : decode cL_guesses 130 = .ok (.iload_n 2, 1) := by decide +kernel
theorem dL_guesses_131 : decode cL_guesses 131 = .ok (.iload 6, 2) := by decide +kernel
theorem dL_guesses_133 : decode cL_guesses 133 = .ok (.iconst 1, 1) := by decide +kernel
theorem dL_guesses_134 : decode cL_guesses 134 = .ok (.invokevirtual 81, 3) := by decide +kernel
theorem dL_guesses_137 : decode cL_guesses 137 = .ok (.istore 11, 2) := by decide +kernel
theorem dL_guesses_139 : decode cL_guesses 139 = .ok (.iload 5, 2) := by decide +kernel
theorem dL_guesses_141 : decode cL_guesses 141 = .ok (.iload 6, 2) := by decide +kernel
theorem dL_guesses_143 : decode cL_guesses 143 = .ok (.if_icmp .ne 21, 3) := by decide +kernel
theorem dL_guesses_146 : decode cL_guesses 146 = .ok (.iload 8, 2) := by decide +kernel
theorem dL_guesses_148 : decode cL_guesses 148 = .ok (.ifCond .ne 12, 3) := by decide +kernel
theorem dL_guesses_151 : decode cL_guesses 151 = .ok (.iload 9, 2) := by decide +kernel
theorem dL_guesses_153 : decode cL_guesses 153 = .ok (.ifCond .ne 7, 3) := by decide +kernel
theorem dL_guesses_156 : decode cL_guesses 156 = .ok (.iconst 1, 1) := by decide +kernel
theorem dL_guesses_157 : decode cL_guesses 157 = .ok (.goto 54, 3) := by decide +kernel
theorem dL_guesses_160 : decode cL_guesses 160 = .ok (.iconst 0, 1) := by decide +kernel
theorem dL_guesses_161 : decode cL_guesses 161 = .ok (.goto 50, 3) := by decide +kernel
theorem dL_guesses_164 : decode cL_guesses 164 = .ok (.iload 8, 2) := by decide +kernel
theorem dL_guesses_166 : decode cL_guesses 166 = .ok (.iload 9, 2) := by decide +kernel
theorem dL_guesses_168 : decode cL_guesses 168 = .ok (.iadd, 1) := by decide +kernel
theorem dL_guesses_169 : decode cL_guesses 169 = .ok (.iload 7, 2) := by decide +kernel
theorem dL_guesses_171 : decode cL_guesses 171 = .ok (.if_icmp .gt 39, 3) := by decide +kernel
theorem dL_guesses_174 : decode cL_guesses 174 = .ok (.iload 8, 2) := by decide +kernel
theorem dL_guesses_176 : decode cL_guesses 176 = .ok (.iload 9, 2) := by decide +kernel
theorem dL_guesses_178 : decode cL_guesses 178 = .ok (.iadd, 1) := by decide +kernel
theorem dL_guesses_179 : decode cL_guesses 179 = .ok (.iload 7, 2) := by decide +kernel
theorem dL_guesses_181 : decode cL_guesses 181 = .ok (.iconst 1, 1) := by decide +kernel
theorem dL_guesses_182 : decode cL_guesses 182 = .ok (.isub, 1) := by decide +kernel
theorem dL_guesses_183 : decode cL_guesses 183 = .ok (.if_icmp .lt 27, 3) := by decide +kernel
theorem dL_guesses_186 : decode cL_guesses 186 = .ok (.iload 5, 2) := by decide +kernel
theorem dL_guesses_188 : decode cL_guesses 188 = .ok (.iload 6, 2) := by decide +kernel
theorem dL_guesses_190 : decode cL_guesses 190 = .ok (.iadd, 1) := by decide +kernel
theorem dL_guesses_191 : decode cL_guesses 191 = .ok (.iconst 2, 1) := by decide +kernel
theorem dL_guesses_192 : decode cL_guesses 192 = .ok (.irem, 1) := by decide +kernel
theorem dL_guesses_193 : decode cL_guesses 193 = .ok (.ifCond .eq 13, 3) := by decide +kernel
theorem dL_guesses_196 : decode cL_guesses 196 = .ok (.iload 8, 2) := by decide +kernel
theorem dL_guesses_198 : decode cL_guesses 198 = .ok (.iload 9, 2) := by decide +kernel
theorem dL_guesses_200 : decode cL_guesses 200 = .ok (.iadd, 1) := by decide +kernel
theorem dL_guesses_201 : decode cL_guesses 201 = .ok (.iload 7, 2) := by decide +kernel
theorem dL_guesses_203 : decode cL_guesses 203 = .ok (.if_icmp .ne 7, 3) := by decide +kernel
theorem dL_guesses_206 : decode cL_guesses 206 = .ok (.iconst 1, 1) := by decide +kernel
theorem dL_guesses_207 : decode cL_guesses 207 = .ok (.goto 4, 3) := by decide +kernel
theorem dL_guesses_210 : decode cL_guesses 210 = .ok (.iconst 0, 1) := by decide +kernel
theorem dL_guesses_211 : decode cL_guesses 211 = .ok (.istore 12, 2) := by decide +kernel
theorem dL_guesses_213 : decode cL_guesses 213 = .ok (.iload 12, 2) := by decide +kernel
theorem dL_guesses_215 : decode cL_guesses 215 = .ok (.ifCond .eq 55, 3) := by decide +kernel
theorem dL_guesses_218 : decode cL_guesses 218 = .ok (.iload 8, 2) := by decide +kernel
theorem dL_guesses_220 : decode cL_guesses 220 = .ok (.iload 11, 2) := by decide +kernel
theorem dL_guesses_222 : decode cL_guesses 222 = .ok (.if_icmp .gt 48, 3) := by decide +kernel
theorem dL_guesses_225 : decode cL_guesses 225 = .ok (.iload 11, 2) := by decide +kernel
theorem dL_guesses_227 : decode cL_guesses 227 = .ok (.ifCond .eq 25, 3) := by decide +kernel
theorem dL_guesses_230 : decode cL_guesses 230 = .ok (.aload_n 0, 1) := by decide +kernel
theorem dL_guesses_231 : decode cL_guesses 231 = .ok (.iload_n 1, 1) := by decide +kernel
theorem dL_guesses_232 : decode cL_guesses 232 = .ok (.iload_n 2, 1) := by decide +kernel
theorem dL_guesses_233 : decode cL_guesses 233 = .ok (.iload 10, 2) := by decide +kernel
theorem dL_guesses_235 : decode cL_guesses 235 = .ok (.iload 6, 2) := by decide +kernel
theorem dL_guesses_237 : decode cL_guesses 237 = .ok (.invokevirtual 77, 3) := by decide +kernel
theorem dL_guesses_240 : decode cL_guesses 240 = .ok (.iload 11, 2) := by decide +kernel
theorem dL_guesses_242 : decode cL_guesses 242 = .ok (.if_icmp .ne 28, 3) := by decide +kernel
theorem dL_guesses_245 : decode cL_guesses 245 = .ok (.iload 10, 2) := by decide +kernel
theorem dL_guesses_247 : decode cL_guesses 247 = .ok (.iload 6, 2) := by decide +kernel
theorem dL_guesses_249 : decode cL_guesses 249 = .ok (.if_icmp .eq 21, 3) := by decide +kernel
theorem dL_guesses_252 : decode cL_guesses 252 = .ok (.iload 8, 2) := by decide +kernel
theorem dL_guesses_254 : decode cL_guesses 254 = .ok (.iload 11, 2) := by decide +kernel
theorem dL_guesses_256 : decode cL_guesses 256 = .ok (.if_icmp .lt 10, 3) := by decide +kernel
theorem dL_guesses_259 : decode cL_guesses 259 = .ok (.iload 5, 2) := by decide +kernel
theorem dL_guesses_261 : decode cL_guesses 261 = .ok (.iload 10, 2) := by decide +kernel
theorem dL_guesses_263 : decode cL_guesses 263 = .ok (.if_icmp .lt 7, 3) := by decide +kernel
theorem dL_guesses_266 : decode cL_guesses 266 = .ok (.iconst 1, 1) := by decide +kernel
theorem dL_guesses_267 : decode cL_guesses 267 = .ok (.goto 4, 3) := by decide +kernel
theorem dL_guesses_270 : decode cL_guesses 270 = .ok (.iconst 0, 1) := by decide +kernel
theorem dL_guesses_271 : decode cL_guesses 271 = .ok (.ireturn, 1) := by decide +kernel
theorem dL_act_0 : decode cL_act 0 = .ok (.iload_n 1, 1) := by decide +kernel
theorem dL_act_1 : decode cL_act 1 = .ok (.iconst 4, 1) := by decide +kernel
theorem dL_act_2 : decode cL_act 2 = .ok (.ishr, 1) := by decide +kernel
theorem dL_act_3 : decode cL_act 3 = .ok (.iconst 4, 1) := by decide +kernel
theorem dL_act_4 : decode cL_act 4 = .ok (.invokestatic 45, 3) := by decide +kernel
theorem dL_act_7 : decode cL_act 7 = .ok (.istore_n 3, 1) := by decide +kernel
theorem dL_act_8 : decode cL_act 8 = .ok (.iload_n 1, 1) := by decide +kernel
theorem dL_act_9 : decode cL_act 9 = .ok (.bipush 7, 2) := by decide +kernel
theorem dL_act_11 : decode cL_act 11 = .ok (.ishr, 1) := by decide +kernel
theorem dL_act_12 : decode cL_act 12 = .ok (.iconst 3, 1) := by decide +kernel
theorem dL_act_13 : decode cL_act 13 = .ok (.invokestatic 45, 3) := by decide +kernel
theorem dL_act_16 : decode cL_act 16 = .ok (.istore 4, 2) := by decide +kernel
theorem dL_act_18 : decode cL_act 18 = .ok (.iload_n 1, 1) := by decide +kernel
theorem dL_act_19 : decode cL_act 19 = .ok (.bipush 14, 2) := by decide +kernel
theorem dL_act_21 : decode cL_act 21 = .ok (.invokestatic 45, 3) := by decide +kernel
theorem dL_act_24 : decode cL_act 24 = .ok (.tableswitch 192 0 7 #[48, 92, 127, 166, 172, 172, 180, 180], 48) := by decide +kernel
theorem dL_act_72 : decode cL_act 72 = .ok (.aload_n 0, 1) := by decide +kernel
theorem dL_act_73 : decode cL_act 73 = .ok (.iload_n 2, 1) := by decide +kernel
theorem dL_act_74 : decode cL_act 74 = .ok (.iconst 4, 1) := by decide +kernel
theorem dL_act_75 : decode cL_act 75 = .ok (.invokestatic 45, 3) := by decide +kernel
theorem dL_act_78 : decode cL_act 78 = .ok (.iload_n 2, 1) := by decide +kernel
theorem dL_act_79 : decode cL_act 79 = .ok (.iconst 2, 1) := by decide +kernel
theorem dL_act_80 : decode cL_act 80 = .ok (.ishr, 1) := by decide +kernel
theorem dL_act_81 : decode cL_act 81 = .ok (.iconst 4, 1) := by decide +kernel
theorem dL_act_82 : decode cL_act 82 = .ok (.invokestatic 45, 3) := by decide +kernel
theorem dL_act_85 : decode cL_act 85 = .ok (.iconst 2, 1) := by decide +kernel
theorem dL_act_86 : decode cL_act 86 = .ok (.iload_n 2, 1) := by decide +kernel
theorem dL_act_87 : decode cL_act 87 = .ok (.iconst 4, 1) := by decide +kernel
theorem dL_act_88 : decode cL_act 88 = .ok (.ishr, 1) := by decide +kernel
theorem dL_act_89 : decode cL_act 89 = .ok (.iload_n 1, 1) := by decide +kernel
theorem dL_act_90 : decode cL_act 90 = .ok (.bipush 9, 2) := by decide +kernel
theorem dL_act_92 : decode cL_act 92 = .ok (.ishr, 1) := by decide +kernel
theorem dL_act_93 : decode cL_act 93 = .ok (.iconst 3, 1) := by decide +kernel
theorem dL_act_94 : decode cL_act 94 = .ok (.invokestatic 45, 3) := by decide +kernel
theorem dL_act_97 : decode cL_act 97 = .ok (.ifCond .ne 9, 3) := by decide +kernel
theorem dL_act_100 : decode cL_act 100 = .ok (.sipush 999, 3) := by decide +kernel
theorem dL_act_103 : decode cL_act 103 = .ok (.goto 5, 3) := by decide +kernel
theorem dL_act_106 : decode cL_act 106 = .ok (.bipush 12, 2) := by decide +kernel
theorem dL_act_108 : decode cL_act 108 = .ok (.invokestatic 45, 3) := by decide +kernel
theorem dL_act_111 : decode cL_act 111 = .ok (.iadd, 1) := by decide +kernel
theorem dL_act_112 : decode cL_act 112 = .ok (.invokevirtual 84, 3) := by decide +kernel
theorem dL_act_115 : decode cL_act 115 = .ok (.ireturn, 1) := by decide +kernel
theorem dL_act_116 : decode cL_act 116 = .ok (.aload_n 0, 1) := by decide +kernel
theorem dL_act_117 : decode cL_act 117 = .ok (.iload_n 2, 1) := by decide +kernel
theorem dL_act_118 : decode cL_act 118 = .ok (.iconst 3, 1) := by decide +kernel
theorem dL_act_119 : decode cL_act 119 = .ok (.invokestatic 45, 3) := by decide +kernel
theorem dL_act_122 : decode cL_act 122 = .ok (.iload_n 2, 1) := by decide +kernel
theorem dL_act_123 : decode cL_act 123 = .ok (.iconst 2, 1) := by decide +kernel
theorem dL_act_124 : decode cL_act 124 = .ok (.ishr, 1) := by decide +kernel
theorem dL_act_125 : decode cL_act 125 = .ok (.iload_n 1, 1) := by decide +kernel
theorem dL_act_126 : decode cL_act 126 = .ok (.bipush 9, 2) := by decide +kernel
theorem dL_act_128 : decode cL_act 128 = .ok (.ishr, 1) := by decide +kernel
theorem dL_act_129 : decode cL_act 129 = .ok (.iconst 3, 1) := by decide +kernel
theorem dL_act_130 : decode cL_act 130 = .ok (.invokestatic 45, 3) := by decide +kernel
theorem dL_act_133 : decode cL_act 133 = .ok (.ifCond .ne 9, 3) := by decide +kernel
theorem dL_act_136 : decode cL_act 136 = .ok (.sipush 10000, 3) := by decide +kernel
theorem dL_act_139 : decode cL_act 139 = .ok (.goto 5, 3) := by decide +kernel
theorem dL_act_142 : decode cL_act 142 = .ok (.bipush 9, 2) := by decide +kernel
theorem dL_act_144 : decode cL_act 144 = .ok (.invokestatic 45, 3) := by decide +kernel
theorem dL_act_147 : decode cL_act 147 = .ok (.invokevirtual 87, 3) := by decide +kernel
theorem dL_act_150 : decode cL_act 150 = .ok (.ireturn, 1) := by decide +kernel
theorem dL_act_151 : decode cL_act 151 = .ok (.iload_n 1, 1) := by decide +kernel
theorem dL_act_152 : decode cL_act 152 = .ok (.iconst 4, 1) := by decide +kernel
theorem dL_act_153 : decode cL_act 153 = .ok (.ishr, 1) := by decide +kernel
theorem dL_act_154 : decode cL_act 154 = .ok (.iconst 4, 1) := by decide +kernel
theorem dL_act_155 : decode cL_act 155 = .ok (.invokestatic 45, 3) := by decide +kernel
theorem dL_act_158 : decode cL_act 158 = .ok (.istore 5, 2) := by decide +kernel
theorem dL_act_160 : decode cL_act 160 = .ok (.aload_n 0, 1) := by decide +kernel
theorem dL_act_161 : decode cL_act 161 = .ok (.iload 5, 2) := by decide +kernel
theorem dL_act_163 : decode cL_act 163 = .ok (.iload 5, 2) := by decide +kernel
theorem dL_act_165 : decode cL_act 165 = .ok (.iconst 3, 1) := by decide +kernel
theorem dL_act_166 : decode cL_act 166 = .ok (.if_icmp .ne 14, 3) := by decide +kernel
theorem dL_act_169 : decode cL_act 169 = .ok (.iconst 1, 1) := by decide +kernel
theorem dL_act_170 : decode cL_act 170 = .ok (.iload_n 2, 1) := by decide +kernel
theorem dL_act_171 : decode cL_act 171 = .ok (.bipush 8, 2) := by decide +kernel
theorem dL_act_173 : decode cL_act 173 = .ok (.invokestatic 45, 3) := by decide +kernel
theorem dL_act_176 : decode cL_act 176 = .ok (.iadd, 1) := by decide +kernel
theorem dL_act_177 : decode cL_act 177 = .ok (.goto 9, 3) := by decide +kernel
theorem dL_act_180 : decode cL_act 180 = .ok (.iload_n 2, 1) := by decide +kernel
theorem dL_act_181 : decode cL_act 181 = .ok (.bipush 7, 2) := by decide +kernel
theorem dL_act_183 : decode cL_act 183 = .ok (.invokestatic 45, 3) := by decide +kernel
theorem dL_act_186 : decode cL_act 186 = .ok (.invokevirtual 90, 3) := by decide +kernel
theorem dL_act_189 : decode cL_act 189 = .ok (.ireturn, 1) := by decide +kernel
theorem dL_act_190 : decode cL_act 190 = .ok (.aload_n 0, 1) := by decide +kernel
theorem dL_act_191 : decode cL_act 191 = .ok (.iload_n 3, 1) := by decide +kernel
theorem dL_act_192 : decode cL_act 192 = .ok (.invokevirtual 93, 3) := by decide +kernel
theorem dL_act_195 : decode cL_act 195 = .ok (.ireturn, 1) := by decide +kernel
theorem dL_act_196 : decode cL_act 196 = .ok (.aload_n 0, 1) := by decide +kernel
theorem dL_act_197 : decode cL_act 197 = .ok (.iload_n 3, 1) := by decide +kernel
theorem dL_act_198 : decode cL_act 198 = .ok (.iload 4, 2) := by decide +kernel
theorem dL_act_200 : decode cL_act 200 = .ok (.invokevirtual 96, 3) := by decide +kernel
theorem dL_act_203 : decode cL_act 203 = .ok (.ireturn, 1) := by decide +kernel
theorem dL_act_204 : decode cL_act 204 = .ok (.aload_n 0, 1) := by decide +kernel
theorem dL_act_205 : decode cL_act 205 = .ok (.iconst 1, 1) := by decide +kernel
theorem dL_act_206 : decode cL_act 206 = .ok (.iload_n 2, 1) := by decide +kernel
theorem dL_act_207 : decode cL_act 207 = .ok (.iconst 5, 1) := by decide +kernel
theorem dL_act_208 : decode cL_act 208 = .ok (.invokestatic 45, 3) := by decide +kernel
theorem dL_act_211 : decode cL_act 211 = .ok (.iadd, 1) := by decide +kernel
theorem dL_act_212 : decode cL_act 212 = .ok (.invokevirtual 57, 3) := by decide +kernel
theorem dL_act_215 : decode cL_act 215 = .ok (.ireturn, 1) := by decide +kernel
theorem dL_act_216 : decode cL_act 216 = .ok (.aload_n 0, 1) := by decide +kernel
theorem dL_act_217 : decode cL_act 217 = .ok (.iload_n 3, 1) := by decide +kernel
theorem dL_act_218 : decode cL_act 218 = .ok (.iload 4, 2) := by decide +kernel
theorem dL_act_220 : decode cL_act 220 = .ok (.iload_n 2, 1) := by decide +kernel
theorem dL_act_221 : decode cL_act 221 = .ok (.bipush 10, 2) := by decide +kernel
theorem dL_act_223 : decode cL_act 223 = .ok (.invokestatic 45, 3) := by decide +kernel
theorem dL_act_226 : decode cL_act 226 = .ok (.invokevirtual 99, 3) := by decide +kernel
theorem dL_act_229 : decode cL_act 229 = .ok (.ireturn, 1) := by decide +kernel
theorem dL_law_0 : decode cL_law 0 = .ok (.new 11, 3) := by decide +kernel
theorem dL_law_3 : decode cL_law 3 = .ok (.dup, 1) := by decide +kernel
theorem dL_law_4 : decode cL_law 4 = .ok (.invokespecial 102, 3) := by decide +kernel
theorem dL_law_7 : decode cL_law 7 = .ok (.astore_n 1, 1) := by decide +kernel
theorem dL_law_8 : decode cL_law 8 = .ok (.aload_n 1, 1) := by decide +kernel
theorem dL_law_9 : decode cL_law 9 = .ok (.iconst 0, 1) := by decide +kernel
theorem dL_law_10 : decode cL_law 10 = .ok (.iconst 1, 1) := by decide +kernel
theorem dL_law_11 : decode cL_law 11 = .ok (.iconst 2, 1) := by decide +kernel
theorem dL_law_12 : decode cL_law 12 = .ok (.aload_n 0, 1) := by decide +kernel
theorem dL_law_13 : decode cL_law 13 = .ok (.iconst 0, 1) := by decide +kernel
theorem dL_law_14 : decode cL_law 14 = .ok (.invokestatic 103, 3) := by decide +kernel
theorem dL_law_17 : decode cL_law 17 = .ok (.bipush 12, 2) := by decide +kernel
theorem dL_law_19 : decode cL_law 19 = .ok (.invokestatic 45, 3) := by decide +kernel
theorem dL_law_22 : decode cL_law 22 = .ok (.iadd, 1) := by decide +kernel
theorem dL_law_23 : decode cL_law 23 = .ok (.invokevirtual 84, 3) := by decide +kernel
theorem dL_law_26 : decode cL_law 26 = .ok (.ifCond .ne 29, 3) := by decide +kernel
theorem dL_law_29 : decode cL_law 29 = .ok (.aload_n 1, 1) := by decide +kernel
theorem dL_law_30 : decode cL_law 30 = .ok (.iconst 1, 1) := by decide +kernel
theorem dL_law_31 : decode cL_law 31 = .ok (.iconst 0, 1) := by decide +kernel
theorem dL_law_32 : decode cL_law 32 = .ok (.iconst 2, 1) := by decide +kernel
theorem dL_law_33 : decode cL_law 33 = .ok (.aload_n 0, 1) := by decide +kernel
theorem dL_law_34 : decode cL_law 34 = .ok (.iconst 1, 1) := by decide +kernel
theorem dL_law_35 : decode cL_law 35 = .ok (.invokestatic 103, 3) := by decide +kernel
theorem dL_law_38 : decode cL_law 38 = .ok (.bipush 60, 2) := by decide +kernel
theorem dL_law_40 : decode cL_law 40 = .ok (.invokestatic 45, 3) := by decide +kernel
theorem dL_law_43 : decode cL_law 43 = .ok (.iadd, 1) := by decide +kernel
theorem dL_law_44 : decode cL_law 44 = .ok (.invokevirtual 84, 3) := by decide +kernel
theorem dL_law_47 : decode cL_law 47 = .ok (.iconst 1, 1) := by decide +kernel
theorem dL_law_48 : decode cL_law 48 = .ok (.if_icmp .ne 7, 3) := by decide +kernel
theorem dL_law_51 : decode cL_law 51 = .ok (.iconst 1, 1) := by decide +kernel
theorem dL_law_52 : decode cL_law 52 = .ok (.goto 4, 3) := by decide +kernel
theorem dL_law_55 : decode cL_law 55 = .ok (.iconst 0, 1) := by decide +kernel
theorem dL_law_56 : decode cL_law 56 = .ok (.istore_n 2, 1) := by decide +kernel
theorem dL_law_57 : decode cL_law 57 = .ok (.iconst 0, 1) := by decide +kernel
theorem dL_law_58 : decode cL_law 58 = .ok (.istore_n 3, 1) := by decide +kernel
theorem dL_law_59 : decode cL_law 59 = .ok (.iload_n 3, 1) := by decide +kernel
theorem dL_law_60 : decode cL_law 60 = .ok (.iconst 3, 1) := by decide +kernel
theorem dL_law_61 : decode cL_law 61 = .ok (.if_icmp .ge 52, 3) := by decide +kernel
theorem dL_law_64 : decode cL_law 64 = .ok (.iload_n 2, 1) := by decide +kernel
theorem dL_law_65 : decode cL_law 65 = .ok (.ifCond .eq 40, 3) := by decide +kernel
theorem dL_law_68 : decode cL_law 68 = .ok (.aload_n 1, 1) := by decide +kernel
theorem dL_law_69 : decode cL_law 69 = .ok (.aload_n 0, 1) := by decide +kernel
theorem dL_law_70 : decode cL_law 70 = .ok (.iconst 2, 1) := by decide +kernel
theorem dL_law_71 : decode cL_law 71 = .ok (.iload_n 3, 1) := by decide +kernel
theorem dL_law_72 : decode cL_law 72 = .ok (.iadd, 1) := by decide +kernel
theorem dL_law_73 : decode cL_law 73 = .ok (.invokestatic 103, 3) := by decide +kernel
theorem dL_law_76 : decode cL_law 76 = .ok (.iconst 2, 1) := by decide +kernel
theorem dL_law_77 : decode cL_law 77 = .ok (.invokestatic 45, 3) := by decide +kernel
theorem dL_law_80 : decode cL_law 80 = .ok (.aload_n 0, 1) := by decide +kernel
theorem dL_law_81 : decode cL_law 81 = .ok (.iconst 2, 1) := by decide +kernel
theorem dL_law_82 : decode cL_law 82 = .ok (.iload_n 3, 1) := by decide +kernel
theorem dL_law_83 : decode cL_law 83 = .ok (.iadd, 1) := by decide +kernel
theorem dL_law_84 : decode cL_law 84 = .ok (.invokestatic 103, 3) := by decide +kernel
theorem dL_law_87 : decode cL_law 87 = .ok (.iconst 3, 1) := by decide +kernel
theorem dL_law_88 : decode cL_law 88 = .ok (.ishr, 1) := by decide +kernel
theorem dL_law_89 : decode cL_law 89 = .ok (.bipush 12, 2) := by decide +kernel
theorem dL_law_91 : decode cL_law 91 = .ok (.invokestatic 45, 3) := by decide +kernel
theorem dL_law_94 : decode cL_law 94 = .ok (.invokevirtual 87, 3) := by decide +kernel
theorem dL_law_97 : decode cL_law 97 = .ok (.iload_n 3, 1) := by decide +kernel
theorem dL_law_98 : decode cL_law 98 = .ok (.if_icmp .ne 7, 3) := by decide +kernel
theorem dL_law_101 : decode cL_law 101 = .ok (.iconst 1, 1) := by decide +kernel
theorem dL_law_102 : decode cL_law 102 = .ok (.goto 4, 3) := by decide +kernel
theorem dL_law_105 : decode cL_law 105 = .ok (.iconst 0, 1) := by decide +kernel
theorem dL_law_106 : decode cL_law 106 = .ok (.istore_n 2, 1) := by decide +kernel
theorem dL_law_107 : decode cL_law 107 = .ok (.iinc 3 1, 3) := by decide +kernel
theorem dL_law_110 : decode cL_law 110 = .ok (.goto (-51), 3) := by decide +kernel
theorem dL_law_113 : decode cL_law 113 = .ok (.iconst 0, 1) := by decide +kernel
theorem dL_law_114 : decode cL_law 114 = .ok (.istore_n 3, 1) := by decide +kernel
theorem dL_law_115 : decode cL_law 115 = .ok (.iload_n 3, 1) := by decide +kernel
theorem dL_law_116 : decode cL_law 116 = .ok (.bipush 36, 2) := by decide +kernel
theorem dL_law_118 : decode cL_law 118 = .ok (.if_icmp .ge 289, 3) := by decide +kernel
theorem dL_law_121 : decode cL_law 121 = .ok (.iload_n 2, 1) := by decide +kernel
theorem dL_law_122 : decode cL_law 122 = .ok (.ifCond .eq 285, 3) := by decide +kernel
theorem dL_law_125 : decode cL_law 125 = .ok (.aload_n 0, 1) := by decide +kernel
theorem dL_law_126 : decode cL_law 126 = .ok (.iconst 5, 1) := by decide +kernel
theorem dL_law_127 : decode cL_law 127 = .ok (.iconst 2, 1) := by decide +kernel
theorem dL_law_128 : decode cL_law 128 = .ok (.iload_n 3, 1) := by decide +kernel
theorem dL_law_129 : decode cL_law 129 = .ok (.imul, 1) := by decide +kernel
theorem dL_law_130 : decode cL_law 130 = .ok (.iadd, 1) := by decide +kernel
theorem dL_law_131 : decode cL_law 131 = .ok (.invokestatic 103, 3) := by decide +kernel
theorem dL_law_134 : decode cL_law 134 = .ok (.istore 4, 2) := by decide +kernel
theorem dL_law_136 : decode cL_law 136 = .ok (.aload_n 0, 1) := by decide +kernel
theorem dL_law_137 : decode cL_law 137 = .ok (.bipush 6, 2) := by decide +kernel
theorem dL_law_139 : decode cL_law 139 = .ok (.iconst 2, 1) := by decide +kernel
theorem dL_law_140 : decode cL_law 140 = .ok (.iload_n 3, 1) := by decide +kernel
theorem dL_law_141 : decode cL_law 141 = .ok (.imul, 1) := by decide +kernel
theorem dL_law_142 : decode cL_law 142 = .ok (.iadd, 1) := by decide +kernel
theorem dL_law_143 : decode cL_law 143 = .ok (.invokestatic 103, 3) := by decide +kernel
theorem dL_law_146 : decode cL_law 146 = .ok (.istore 5, 2) := by decide +kernel
theorem dL_law_148 : decode cL_law 148 = .ok (.aload_n 1, 1) := by decide +kernel
theorem dL_law_149 : decode cL_law 149 = .ok (.bipush 14, 2) := by decide +kernel
theorem dL_law_151 : decode cL_law 151 = .ok (.invokevirtual 10, 3) := by decide +kernel
theorem dL_law_154 : decode cL_law 154 = .ok (.istore 6, 2) := by decide +kernel
theorem dL_law_156 : decode cL_law 156 = .ok (.aload_n 1, 1) := by decide +kernel
theorem dL_law_157 : decode cL_law 157 = .ok (.invokestatic 53, 3) := by decide +kernel
theorem dL_law_160 : decode cL_law 160 = .ok (.lstore 7, 2) := by decide +kernel
theorem dL_law_162 : decode cL_law 162 = .ok (.aload_n 1, 1) := by decide +kernel
theorem dL_law_163 : decode cL_law 163 = .ok (.iload 4, 2) := by decide +kernel
theorem dL_law_165 : decode cL_law 165 = .ok (.iload 5, 2) := by decide +kernel
theorem dL_law_167 : decode cL_law 167 = .ok (.invokestatic 107, 3) := by decide +kernel
theorem dL_law_170 : decode cL_law 170 = .ok (.istore 9, 2) := by decide +kernel
theorem dL_law_172 : decode cL_law 172 = .ok (.iload 9, 2) := by decide +kernel
theorem dL_law_174 : decode cL_law 174 = .ok (.ifCond .ge 33, 3) := by decide +kernel
theorem dL_law_177 : decode cL_law 177 = .ok (.aload_n 1, 1) := by decide +kernel
theorem dL_law_178 : decode cL_law 178 = .ok (.bipush 14, 2) := by decide +kernel
theorem dL_law_180 : decode cL_law 180 = .ok (.invokevirtual 10, 3) := by decide +kernel
theorem dL_law_183 : decode cL_law 183 = .ok (.iload 6, 2) := by decide +kernel
theorem dL_law_185 : decode cL_law 185 = .ok (.if_icmp .ne 17, 3) := by decide +kernel
theorem dL_law_188 : decode cL_law 188 = .ok (.aload_n 1, 1) := by decide +kernel
theorem dL_law_189 : decode cL_law 189 = .ok (.invokestatic 53, 3) := by decide +kernel
theorem dL_law_192 : decode cL_law 192 = .ok (.lload 7, 2) := by decide +kernel
theorem dL_law_194 : decode cL_law 194 = .ok (.lcmp, 1) := by decide +kernel
theorem dL_law_195 : decode cL_law 195 = .ok (.ifCond .ne 7, 3) := by decide +kernel
theorem dL_law_198 : decode cL_law 198 = .ok (.iconst 1, 1) := by decide +kernel
theorem dL_law_199 : decode cL_law 199 = .ok (.goto 4, 3) := by decide +kernel
theorem dL_law_202 : decode cL_law 202 = .ok (.iconst 0, 1) := by decide +kernel
theorem dL_law_203 : decode cL_law 203 = .ok (.istore_n 2, 1) := by decide +kernel
theorem dL_law_204 : decode cL_law 204 = .ok (.goto 95, 3) := by decide +kernel
theorem dL_law_207 : decode cL_law 207 = .ok (.aload_n 1, 1) := by decide +kernel
theorem dL_law_208 : decode cL_law 208 = .ok (.bipush 14, 2) := by decide +kernel
theorem dL_law_210 : decode cL_law 210 = .ok (.invokevirtual 10, 3) := by decide +kernel
theorem dL_law_213 : decode cL_law 213 = .ok (.iload 6, 2) := by decide +kernel
theorem dL_law_215 : decode cL_law 215 = .ok (.bipush 6, 2) := by decide +kernel
theorem dL_law_217 : decode cL_law 217 = .ok (.if_icmp .ge 10, 3) := by decide +kernel
theorem dL_law_220 : decode cL_law 220 = .ok (.iload 6, 2) := by decide +kernel
theorem dL_law_222 : decode cL_law 222 = .ok (.iconst 1, 1) := by decide +kernel
theorem dL_law_223 : decode cL_law 223 = .ok (.iadd, 1) := by decide +kernel
theorem dL_law_224 : decode cL_law 224 = .ok (.goto 5, 3) := by decide +kernel
theorem dL_law_227 : decode cL_law 227 = .ok (.bipush 6, 2) := by decide +kernel
theorem dL_law_229 : decode cL_law 229 = .ok (.if_icmp .ne 7, 3) := by decide +kernel
theorem dL_law_232 : decode cL_law 232 = .ok (.iconst 1, 1) := by decide +kernel
theorem dL_law_233 : decode cL_law 233 = .ok (.goto 4, 3) := by decide +kernel
