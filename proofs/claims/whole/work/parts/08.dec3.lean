theorem dL_law_936 : decode cL_law 936 = .ok (.aload_n 2, 1) := by decide +kernel
theorem dL_law_937 : decode cL_law 937 = .ok (.invokevirtual 120, 3) := by decide +kernel
theorem dL_law_940 : decode cL_law 940 = .ok (.if_icmp .eq 64, 3) := by decide +kernel
theorem dL_law_943 : decode cL_law 943 = .ok (.iconst 0, 1) := by decide +kernel
theorem dL_law_944 : decode cL_law 944 = .ok (.ireturn, 1) := by decide +kernel
theorem dL_law_945 : decode cL_law 945 = .ok (.aload_n 1, 1) := by decide +kernel
theorem dL_law_946 : decode cL_law 946 = .ok (.invokevirtual 121, 3) := by decide +kernel
theorem dL_law_949 : decode cL_law 949 = .ok (.aload_n 2, 1) := by decide +kernel
theorem dL_law_950 : decode cL_law 950 = .ok (.invokevirtual 124, 3) := by decide +kernel
theorem dL_law_953 : decode cL_law 953 = .ok (.if_icmp .eq 51, 3) := by decide +kernel
theorem dL_law_956 : decode cL_law 956 = .ok (.iconst 0, 1) := by decide +kernel
theorem dL_law_957 : decode cL_law 957 = .ok (.ireturn, 1) := by decide +kernel
theorem dL_law_958 : decode cL_law 958 = .ok (.aload_n 1, 1) := by decide +kernel
theorem dL_law_959 : decode cL_law 959 = .ok (.aload_n 0, 1) := by decide +kernel
theorem dL_law_960 : decode cL_law 960 = .ok (.iload_n 3, 1) := by decide +kernel
theorem dL_law_961 : decode cL_law 961 = .ok (.iconst 1, 1) := by decide +kernel
theorem dL_law_962 : decode cL_law 962 = .ok (.iadd, 1) := by decide +kernel
theorem dL_law_963 : decode cL_law 963 = .ok (.iaload, 1) := by decide +kernel
theorem dL_law_964 : decode cL_law 964 = .ok (.invokevirtual 125, 3) := by decide +kernel
theorem dL_law_967 : decode cL_law 967 = .ok (.aload_n 2, 1) := by decide +kernel
theorem dL_law_968 : decode cL_law 968 = .ok (.aload_n 0, 1) := by decide +kernel
theorem dL_law_969 : decode cL_law 969 = .ok (.iload_n 3, 1) := by decide +kernel
theorem dL_law_970 : decode cL_law 970 = .ok (.iconst 1, 1) := by decide +kernel
theorem dL_law_971 : decode cL_law 971 = .ok (.iadd, 1) := by decide +kernel
theorem dL_law_972 : decode cL_law 972 = .ok (.iaload, 1) := by decide +kernel
theorem dL_law_973 : decode cL_law 973 = .ok (.invokevirtual 128, 3) := by decide +kernel
theorem dL_law_976 : decode cL_law 976 = .ok (.if_icmp .eq 28, 3) := by decide +kernel
theorem dL_law_979 : decode cL_law 979 = .ok (.iconst 0, 1) := by decide +kernel
theorem dL_law_980 : decode cL_law 980 = .ok (.ireturn, 1) := by decide +kernel
theorem dL_law_981 : decode cL_law 981 = .ok (.aload_n 1, 1) := by decide +kernel
theorem dL_law_982 : decode cL_law 982 = .ok (.aload_n 0, 1) := by decide +kernel
theorem dL_law_983 : decode cL_law 983 = .ok (.iload_n 3, 1) := by decide +kernel
theorem dL_law_984 : decode cL_law 984 = .ok (.iconst 1, 1) := by decide +kernel
theorem dL_law_985 : decode cL_law 985 = .ok (.iadd, 1) := by decide +kernel
theorem dL_law_986 : decode cL_law 986 = .ok (.iaload, 1) := by decide +kernel
theorem dL_law_987 : decode cL_law 987 = .ok (.invokevirtual 129, 3) := by decide +kernel
theorem dL_law_990 : decode cL_law 990 = .ok (.aload_n 2, 1) := by decide +kernel
theorem dL_law_991 : decode cL_law 991 = .ok (.aload_n 0, 1) := by decide +kernel
theorem dL_law_992 : decode cL_law 992 = .ok (.iload_n 3, 1) := by decide +kernel
theorem dL_law_993 : decode cL_law 993 = .ok (.iconst 1, 1) := by decide +kernel
theorem dL_law_994 : decode cL_law 994 = .ok (.iadd, 1) := by decide +kernel
theorem dL_law_995 : decode cL_law 995 = .ok (.iaload, 1) := by decide +kernel
theorem dL_law_996 : decode cL_law 996 = .ok (.invokevirtual 132, 3) := by decide +kernel
theorem dL_law_999 : decode cL_law 999 = .ok (.if_icmp .eq 5, 3) := by decide +kernel
theorem dL_law_1002 : decode cL_law 1002 = .ok (.iconst 0, 1) := by decide +kernel
theorem dL_law_1003 : decode cL_law 1003 = .ok (.ireturn, 1) := by decide +kernel
theorem dL_law_1004 : decode cL_law 1004 = .ok (.iinc 3 5, 3) := by decide +kernel
theorem dL_law_1007 : decode cL_law 1007 = .ok (.goto (-989), 3) := by decide +kernel
theorem dL_law_1010 : decode cL_law 1010 = .ok (.iconst 1, 1) := by decide +kernel
theorem dL_law_1011 : decode cL_law 1011 = .ok (.ireturn, 1) := by decide +kernel
theorem dX7_init_0 : decode cX7_init 0 = .ok (.aload_n 0, 1) := by decide +kernel
theorem dX7_init_1 : decode cX7_init 1 = .ok (.invokespecial 1, 3) := by decide +kernel
theorem dX7_init_4 : decode cX7_init 4 = .ok (.aload_n 0, 1) := by decide +kernel
theorem dX7_init_5 : decode cX7_init 5 = .ok (.sipush 3600, 3) := by decide +kernel
theorem dX7_init_8 : decode cX7_init 8 = .ok (.newarray .int, 2) := by decide +kernel
theorem dX7_init_10 : decode cX7_init 10 = .ok (.putfield 7, 3) := by decide +kernel
theorem dX7_init_13 : decode cX7_init 13 = .ok (.aload_n 0, 1) := by decide +kernel
theorem dX7_init_14 : decode cX7_init 14 = .ok (.iconst 2, 1) := by decide +kernel
theorem dX7_init_15 : decode cX7_init 15 = .ok (.newarray .boolean, 2) := by decide +kernel
theorem dX7_init_17 : decode cX7_init 17 = .ok (.putfield 13, 3) := by decide +kernel
theorem dX7_init_20 : decode cX7_init 20 = .ok (.aload_n 0, 1) := by decide +kernel
theorem dX7_init_21 : decode cX7_init 21 = .ok (.bipush 80, 2) := by decide +kernel
theorem dX7_init_23 : decode cX7_init 23 = .ok (.newarray .int, 2) := by decide +kernel
theorem dX7_init_25 : decode cX7_init 25 = .ok (.putfield 17, 3) := by decide +kernel
theorem dX7_init_28 : decode cX7_init 28 = .ok (.aload_n 0, 1) := by decide +kernel
theorem dX7_init_29 : decode cX7_init 29 = .ok (.bipush 8, 2) := by decide +kernel
theorem dX7_init_31 : decode cX7_init 31 = .ok (.newarray .int, 2) := by decide +kernel
theorem dX7_init_33 : decode cX7_init 33 = .ok (.putfield 20, 3) := by decide +kernel
theorem dX7_init_36 : decode cX7_init 36 = .ok (.aload_n 0, 1) := by decide +kernel
theorem dX7_init_37 : decode cX7_init 37 = .ok (.getfield 7, 3) := by decide +kernel
theorem dX7_init_40 : decode cX7_init 40 = .ok (.iconst 0, 1) := by decide +kernel
theorem dX7_init_41 : decode cX7_init 41 = .ok (.iconst 3, 1) := by decide +kernel
theorem dX7_init_42 : decode cX7_init 42 = .ok (.iastore, 1) := by decide +kernel
theorem dX7_init_43 : decode cX7_init 43 = .ok (.aload_n 0, 1) := by decide +kernel
theorem dX7_init_44 : decode cX7_init 44 = .ok (.getfield 7, 3) := by decide +kernel
theorem dX7_init_47 : decode cX7_init 47 = .ok (.iconst 1, 1) := by decide +kernel
theorem dX7_init_48 : decode cX7_init 48 = .ok (.iconst 1, 1) := by decide +kernel
theorem dX7_init_49 : decode cX7_init 49 = .ok (.iastore, 1) := by decide +kernel
theorem dX7_init_50 : decode cX7_init 50 = .ok (.aload_n 0, 1) := by decide +kernel
theorem dX7_init_51 : decode cX7_init 51 = .ok (.getfield 7, 3) := by decide +kernel
theorem dX7_init_54 : decode cX7_init 54 = .ok (.iconst 2, 1) := by decide +kernel
theorem dX7_init_55 : decode cX7_init 55 = .ok (.iconst 2, 1) := by decide +kernel
theorem dX7_init_56 : decode cX7_init 56 = .ok (.iastore, 1) := by decide +kernel
theorem dX7_init_57 : decode cX7_init 57 = .ok (.aload_n 0, 1) := by decide +kernel
theorem dX7_init_58 : decode cX7_init 58 = .ok (.getfield 7, 3) := by decide +kernel
theorem dX7_init_61 : decode cX7_init 61 = .ok (.iconst 3, 1) := by decide +kernel
theorem dX7_init_62 : decode cX7_init 62 = .ok (.iconst 5, 1) := by decide +kernel
theorem dX7_init_63 : decode cX7_init 63 = .ok (.iastore, 1) := by decide +kernel
theorem dX7_init_64 : decode cX7_init 64 = .ok (.aload_n 0, 1) := by decide +kernel
theorem dX7_init_65 : decode cX7_init 65 = .ok (.getfield 7, 3) := by decide +kernel
theorem dX7_init_68 : decode cX7_init 68 = .ok (.bipush 7, 2) := by decide +kernel
theorem dX7_init_70 : decode cX7_init 70 = .ok (.iconst 1, 1) := by decide +kernel
theorem dX7_init_71 : decode cX7_init 71 = .ok (.iastore, 1) := by decide +kernel
theorem dX7_init_72 : decode cX7_init 72 = .ok (.return_, 1) := by decide +kernel
theorem dX7_in_0 : decode cX7_in 0 = .ok (.lload_n 0, 1) := by decide +kernel
theorem dX7_in_1 : decode cX7_in 1 = .ok (.lload_n 2, 1) := by decide +kernel
theorem dX7_in_2 : decode cX7_in 2 = .ok (.lcmp, 1) := by decide +kernel
theorem dX7_in_3 : decode cX7_in 3 = .ok (.ifCond .lt 14, 3) := by decide +kernel
theorem dX7_in_6 : decode cX7_in 6 = .ok (.lload_n 0, 1) := by decide +kernel
theorem dX7_in_7 : decode cX7_in 7 = .ok (.lload 4, 2) := by decide +kernel
theorem dX7_in_9 : decode cX7_in 9 = .ok (.lcmp, 1) := by decide +kernel
theorem dX7_in_10 : decode cX7_in 10 = .ok (.ifCond .gt 7, 3) := by decide +kernel
theorem dX7_in_13 : decode cX7_in 13 = .ok (.iconst 1, 1) := by decide +kernel
theorem dX7_in_14 : decode cX7_in 14 = .ok (.goto 4, 3) := by decide +kernel
theorem dX7_in_17 : decode cX7_in 17 = .ok (.iconst 0, 1) := by decide +kernel
theorem dX7_in_18 : decode cX7_in 18 = .ok (.ireturn, 1) := by decide +kernel
theorem dX7_copies_0 : decode cX7_copies 0 = .ok (.iconst 0, 1) := by decide +kernel
theorem dX7_copies_1 : decode cX7_copies 1 = .ok (.istore_n 3, 1) := by decide +kernel
theorem dX7_copies_2 : decode cX7_copies 2 = .ok (.iload_n 3, 1) := by decide +kernel
theorem dX7_copies_3 : decode cX7_copies 3 = .ok (.sipush 360, 3) := by decide +kernel
theorem dX7_copies_6 : decode cX7_copies 6 = .ok (.if_icmp .ge 33, 3) := by decide +kernel
theorem dX7_copies_9 : decode cX7_copies 9 = .ok (.aload_n 0, 1) := by decide +kernel
theorem dX7_copies_10 : decode cX7_copies 10 = .ok (.getfield 7, 3) := by decide +kernel
theorem dX7_copies_13 : decode cX7_copies 13 = .ok (.sipush 360, 3) := by decide +kernel
theorem dX7_copies_16 : decode cX7_copies 16 = .ok (.iload_n 2, 1) := by decide +kernel
theorem dX7_copies_17 : decode cX7_copies 17 = .ok (.imul, 1) := by decide +kernel
theorem dX7_copies_18 : decode cX7_copies 18 = .ok (.iload_n 3, 1) := by decide +kernel
theorem dX7_copies_19 : decode cX7_copies 19 = .ok (.iadd, 1) := by decide +kernel
theorem dX7_copies_20 : decode cX7_copies 20 = .ok (.aload_n 0, 1) := by decide +kernel
theorem dX7_copies_21 : decode cX7_copies 21 = .ok (.getfield 7, 3) := by decide +kernel
theorem dX7_copies_24 : decode cX7_copies 24 = .ok (.sipush 360, 3) := by decide +kernel
theorem dX7_copies_27 : decode cX7_copies 27 = .ok (.iload_n 1, 1) := by decide +kernel
theorem dX7_copies_28 : decode cX7_copies 28 = .ok (.imul, 1) := by decide +kernel
theorem dX7_copies_29 : decode cX7_copies 29 = .ok (.iload_n 3, 1) := by decide +kernel
theorem dX7_copies_30 : decode cX7_copies 30 = .ok (.iadd, 1) := by decide +kernel
theorem dX7_copies_31 : decode cX7_copies 31 = .ok (.iaload, 1) := by decide +kernel
theorem dX7_copies_32 : decode cX7_copies 32 = .ok (.iastore, 1) := by decide +kernel
theorem dX7_copies_33 : decode cX7_copies 33 = .ok (.iinc 3 1, 3) := by decide +kernel
theorem dX7_copies_36 : decode cX7_copies 36 = .ok (.goto (-34), 3) := by decide +kernel
theorem dX7_copies_39 : decode cX7_copies 39 = .ok (.return_, 1) := by decide +kernel
theorem dX7_changes_0 : decode cX7_changes 0 = .ok (.aload_n 0, 1) := by decide +kernel
theorem dX7_changes_1 : decode cX7_changes 1 = .ok (.getfield 23, 3) := by decide +kernel
theorem dX7_changes_4 : decode cX7_changes 4 = .ok (.bipush 6, 2) := by decide +kernel
theorem dX7_changes_6 : decode cX7_changes 6 = .ok (.if_icmp .ne 35, 3) := by decide +kernel
theorem dX7_changes_9 : decode cX7_changes 9 = .ok (.iconst 1, 1) := by decide +kernel
theorem dX7_changes_10 : decode cX7_changes 10 = .ok (.istore_n 1, 1) := by decide +kernel
theorem dX7_changes_11 : decode cX7_changes 11 = .ok (.iload_n 1, 1) := by decide +kernel
theorem dX7_changes_12 : decode cX7_changes 12 = .ok (.bipush 6, 2) := by decide +kernel
theorem dX7_changes_14 : decode cX7_changes 14 = .ok (.if_icmp .ge 17, 3) := by decide +kernel
theorem dX7_changes_17 : decode cX7_changes 17 = .ok (.aload_n 0, 1) := by decide +kernel
theorem dX7_changes_18 : decode cX7_changes 18 = .ok (.iload_n 1, 1) := by decide +kernel
theorem dX7_changes_19 : decode cX7_changes 19 = .ok (.iconst 1, 1) := by decide +kernel
theorem dX7_changes_20 : decode cX7_changes 20 = .ok (.iadd, 1) := by decide +kernel
theorem dX7_changes_21 : decode cX7_changes 21 = .ok (.iload_n 1, 1) := by decide +kernel
theorem dX7_changes_22 : decode cX7_changes 22 = .ok (.invokevirtual 27, 3) := by decide +kernel
theorem dX7_changes_25 : decode cX7_changes 25 = .ok (.iinc 1 1, 3) := by decide +kernel
theorem dX7_changes_28 : decode cX7_changes 28 = .ok (.goto (-17), 3) := by decide +kernel
theorem dX7_changes_31 : decode cX7_changes 31 = .ok (.aload_n 0, 1) := by decide +kernel
theorem dX7_changes_32 : decode cX7_changes 32 = .ok (.dup, 1) := by decide +kernel
theorem dX7_changes_33 : decode cX7_changes 33 = .ok (.getfield 23, 3) := by decide +kernel
theorem dX7_changes_36 : decode cX7_changes 36 = .ok (.iconst 1, 1) := by decide +kernel
theorem dX7_changes_37 : decode cX7_changes 37 = .ok (.isub, 1) := by decide +kernel
theorem dX7_changes_38 : decode cX7_changes 38 = .ok (.putfield 23, 3) := by decide +kernel
theorem dX7_changes_41 : decode cX7_changes 41 = .ok (.aload_n 0, 1) := by decide +kernel
theorem dX7_changes_42 : decode cX7_changes 42 = .ok (.dup, 1) := by decide +kernel
theorem dX7_changes_43 : decode cX7_changes 43 = .ok (.getfield 23, 3) := by decide +kernel
theorem dX7_changes_46 : decode cX7_changes 46 = .ok (.iconst 1, 1) := by decide +kernel
theorem dX7_changes_47 : decode cX7_changes 47 = .ok (.iadd, 1) := by decide +kernel
theorem dX7_changes_48 : decode cX7_changes 48 = .ok (.putfield 23, 3) := by decide +kernel
theorem dX7_changes_51 : decode cX7_changes 51 = .ok (.aload_n 0, 1) := by decide +kernel
theorem dX7_changes_52 : decode cX7_changes 52 = .ok (.iconst 0, 1) := by decide +kernel
theorem dX7_changes_53 : decode cX7_changes 53 = .ok (.aload_n 0, 1) := by decide +kernel
theorem dX7_changes_54 : decode cX7_changes 54 = .ok (.getfield 23, 3) := by decide +kernel
theorem dX7_changes_57 : decode cX7_changes 57 = .ok (.invokevirtual 27, 3) := by decide +kernel
theorem dX7_changes_60 : decode cX7_changes 60 = .ok (.return_, 1) := by decide +kernel
theorem dX7_bridgeAt_0 : decode cX7_bridgeAt 0 = .ok (.iload_n 0, 1) := by decide +kernel
theorem dX7_bridgeAt_1 : decode cX7_bridgeAt 1 = .ok (.bipush 20, 2) := by decide +kernel
theorem dX7_bridgeAt_3 : decode cX7_bridgeAt 3 = .ok (.iadd, 1) := by decide +kernel
theorem dX7_bridgeAt_4 : decode cX7_bridgeAt 4 = .ok (.bipush 7, 2) := by decide +kernel
theorem dX7_bridgeAt_6 : decode cX7_bridgeAt 6 = .ok (.iload_n 1, 1) := by decide +kernel
theorem dX7_bridgeAt_7 : decode cX7_bridgeAt 7 = .ok (.imul, 1) := by decide +kernel
theorem dX7_bridgeAt_8 : decode cX7_bridgeAt 8 = .ok (.iadd, 1) := by decide +kernel
theorem dX7_bridgeAt_9 : decode cX7_bridgeAt 9 = .ok (.ireturn, 1) := by decide +kernel
theorem dX7_cartAt_0 : decode cX7_cartAt 0 = .ok (.iload_n 0, 1) := by decide +kernel
theorem dX7_cartAt_1 : decode cX7_cartAt 1 = .ok (.bipush 104, 2) := by decide +kernel
theorem dX7_cartAt_3 : decode cX7_cartAt 3 = .ok (.iadd, 1) := by decide +kernel
theorem dX7_cartAt_4 : decode cX7_cartAt 4 = .ok (.bipush 8, 2) := by decide +kernel
theorem dX7_cartAt_6 : decode cX7_cartAt 6 = .ok (.iload_n 1, 1) := by decide +kernel
theorem dX7_cartAt_7 : decode cX7_cartAt 7 = .ok (.imul, 1) := by decide +kernel
theorem dX7_cartAt_8 : decode cX7_cartAt 8 = .ok (.iadd, 1) := by decide +kernel
theorem dX7_cartAt_9 : decode cX7_cartAt 9 = .ok (.ireturn, 1) := by decide +kernel
theorem dX7_rangeAt_0 : decode cX7_rangeAt 0 = .ok (.iload_n 0, 1) := by decide +kernel
theorem dX7_rangeAt_1 : decode cX7_rangeAt 1 = .ok (.sipush 168, 3) := by decide +kernel
theorem dX7_rangeAt_4 : decode cX7_rangeAt 4 = .ok (.iadd, 1) := by decide +kernel
theorem dX7_rangeAt_5 : decode cX7_rangeAt 5 = .ok (.iconst 2, 1) := by decide +kernel
theorem dX7_rangeAt_6 : decode cX7_rangeAt 6 = .ok (.bipush 12, 2) := by decide +kernel
theorem dX7_rangeAt_8 : decode cX7_rangeAt 8 = .ok (.iload_n 1, 1) := by decide +kernel
theorem dX7_rangeAt_9 : decode cX7_rangeAt 9 = .ok (.imul, 1) := by decide +kernel
theorem dX7_rangeAt_10 : decode cX7_rangeAt 10 = .ok (.iload_n 2, 1) := by decide +kernel
theorem dX7_rangeAt_11 : decode cX7_rangeAt 11 = .ok (.iadd, 1) := by decide +kernel
theorem dX7_rangeAt_12 : decode cX7_rangeAt 12 = .ok (.imul, 1) := by decide +kernel
theorem dX7_rangeAt_13 : decode cX7_rangeAt 13 = .ok (.iadd, 1) := by decide +kernel
theorem dX7_rangeAt_14 : decode cX7_rangeAt 14 = .ok (.ireturn, 1) := by decide +kernel
theorem dX7_isAt_0 : decode cX7_isAt 0 = .ok (.aload_n 0, 1) := by decide +kernel
theorem dX7_isAt_1 : decode cX7_isAt 1 = .ok (.getfield 7, 3) := by decide +kernel
theorem dX7_isAt_4 : decode cX7_isAt 4 = .ok (.iload_n 1, 1) := by decide +kernel
theorem dX7_isAt_5 : decode cX7_isAt 5 = .ok (.iload_n 2, 1) := by decide +kernel
theorem dX7_isAt_6 : decode cX7_isAt 6 = .ok (.invokestatic 31, 3) := by decide +kernel
theorem dX7_isAt_9 : decode cX7_isAt 9 = .ok (.iaload, 1) := by decide +kernel
theorem dX7_isAt_10 : decode cX7_isAt 10 = .ok (.iload_n 3, 1) := by decide +kernel
theorem dX7_isAt_11 : decode cX7_isAt 11 = .ok (.if_icmp .eq 19, 3) := by decide +kernel
theorem dX7_isAt_14 : decode cX7_isAt 14 = .ok (.aload_n 0, 1) := by decide +kernel
theorem dX7_isAt_15 : decode cX7_isAt 15 = .ok (.getfield 7, 3) := by decide +kernel
theorem dX7_isAt_18 : decode cX7_isAt 18 = .ok (.iload_n 1, 1) := by decide +kernel
theorem dX7_isAt_19 : decode cX7_isAt 19 = .ok (.iload_n 2, 1) := by decide +kernel
theorem dX7_isAt_20 : decode cX7_isAt 20 = .ok (.invokestatic 31, 3) := by decide +kernel
theorem dX7_isAt_23 : decode cX7_isAt 23 = .ok (.iconst 1, 1) := by decide +kernel
theorem dX7_isAt_24 : decode cX7_isAt 24 = .ok (.iadd, 1) := by decide +kernel
theorem dX7_isAt_25 : decode cX7_isAt 25 = .ok (.iaload, 1) := by decide +kernel
theorem dX7_isAt_26 : decode cX7_isAt 26 = .ok (.iload_n 3, 1) := by decide +kernel
theorem dX7_isAt_27 : decode cX7_isAt 27 = .ok (.if_icmp .ne 7, 3) := by decide +kernel
theorem dX7_isAt_30 : decode cX7_isAt 30 = .ok (.iconst 1, 1) := by decide +kernel
theorem dX7_isAt_31 : decode cX7_isAt 31 = .ok (.goto 4, 3) := by decide +kernel
theorem dX7_isAt_34 : decode cX7_isAt 34 = .ok (.iconst 0, 1) := by decide +kernel
theorem dX7_isAt_35 : decode cX7_isAt 35 = .ok (.ireturn, 1) := by decide +kernel
theorem dX7_draws_0 : decode cX7_draws 0 = .ok (.iload_n 1, 1) := by decide +kernel
theorem dX7_draws_1 : decode cX7_draws 1 = .ok (.iload_n 2, 1) := by decide +kernel
theorem dX7_draws_2 : decode cX7_draws 2 = .ok (.invokestatic 31, 3) := by decide +kernel
theorem dX7_draws_5 : decode cX7_draws 5 = .ok (.istore_n 3, 1) := by decide +kernel
theorem dX7_draws_6 : decode cX7_draws 6 = .ok (.aload_n 0, 1) := by decide +kernel
theorem dX7_draws_7 : decode cX7_draws 7 = .ok (.getfield 7, 3) := by decide +kernel
theorem dX7_draws_10 : decode cX7_draws 10 = .ok (.iload_n 1, 1) := by decide +kernel
theorem dX7_draws_11 : decode cX7_draws 11 = .ok (.bipush 7, 2) := by decide +kernel
theorem dX7_draws_13 : decode cX7_draws 13 = .ok (.iadd, 1) := by decide +kernel
theorem dX7_draws_14 : decode cX7_draws 14 = .ok (.bipush 75, 2) := by decide +kernel
theorem dX7_draws_16 : decode cX7_draws 16 = .ok (.aload_n 0, 1) := by decide +kernel
theorem dX7_draws_17 : decode cX7_draws 17 = .ok (.getfield 7, 3) := by decide +kernel
theorem dX7_draws_20 : decode cX7_draws 20 = .ok (.iload_n 1, 1) := by decide +kernel
theorem dX7_draws_21 : decode cX7_draws 21 = .ok (.bipush 7, 2) := by decide +kernel
theorem dX7_draws_23 : decode cX7_draws 23 = .ok (.iadd, 1) := by decide +kernel
theorem dX7_draws_24 : decode cX7_draws 24 = .ok (.iaload, 1) := by decide +kernel
theorem dX7_draws_25 : decode cX7_draws 25 = .ok (.imul, 1) := by decide +kernel
theorem dX7_draws_26 : decode cX7_draws 26 = .ok (.bipush 74, 2) := by decide +kernel
theorem dX7_draws_28 : decode cX7_draws 28 = .ok (.iadd, 1) := by decide +kernel
theorem dX7_draws_29 : decode cX7_draws 29 = .ok (.ldc 35, 2) := by decide +kernel
theorem dX7_draws_31 : decode cX7_draws 31 = .ok (.irem, 1) := by decide +kernel
theorem dX7_draws_32 : decode cX7_draws 32 = .ok (.iastore, 1) := by decide +kernel
theorem dX7_draws_33 : decode cX7_draws 33 = .ok (.aload_n 0, 1) := by decide +kernel
theorem dX7_draws_34 : decode cX7_draws 34 = .ok (.getfield 7, 3) := by decide +kernel
theorem dX7_draws_37 : decode cX7_draws 37 = .ok (.iload_n 3, 1) := by decide +kernel
theorem dX7_draws_38 : decode cX7_draws 38 = .ok (.iconst 3, 1) := by decide +kernel
theorem dX7_draws_39 : decode cX7_draws 39 = .ok (.iadd, 1) := by decide +kernel
theorem dX7_draws_40 : decode cX7_draws 40 = .ok (.aload_n 0, 1) := by decide +kernel
theorem dX7_draws_41 : decode cX7_draws 41 = .ok (.getfield 7, 3) := by decide +kernel
theorem dX7_draws_44 : decode cX7_draws 44 = .ok (.iload_n 1, 1) := by decide +kernel
theorem dX7_draws_45 : decode cX7_draws 45 = .ok (.bipush 7, 2) := by decide +kernel
theorem dX7_draws_47 : decode cX7_draws 47 = .ok (.iadd, 1) := by decide +kernel
theorem dX7_draws_48 : decode cX7_draws 48 = .ok (.iaload, 1) := by decide +kernel
theorem dX7_draws_49 : decode cX7_draws 49 = .ok (.iconst 2, 1) := by decide +kernel
theorem dX7_draws_50 : decode cX7_draws 50 = .ok (.idiv, 1) := by decide +kernel
theorem dX7_draws_51 : decode cX7_draws 51 = .ok (.aload_n 0, 1) := by decide +kernel
theorem dX7_draws_52 : decode cX7_draws 52 = .ok (.getfield 7, 3) := by decide +kernel
theorem dX7_draws_55 : decode cX7_draws 55 = .ok (.iload_n 3, 1) := by decide +kernel
theorem dX7_draws_56 : decode cX7_draws 56 = .ok (.iconst 2, 1) := by decide +kernel
theorem dX7_draws_57 : decode cX7_draws 57 = .ok (.iadd, 1) := by decide +kernel
theorem dX7_draws_58 : decode cX7_draws 58 = .ok (.iaload, 1) := by decide +kernel
theorem dX7_draws_59 : decode cX7_draws 59 = .ok (.irem, 1) := by decide +kernel
theorem dX7_draws_60 : decode cX7_draws 60 = .ok (.iastore, 1) := by decide +kernel
theorem dX7_draws_61 : decode cX7_draws 61 = .ok (.iconst 0, 1) := by decide +kernel
theorem dX7_draws_62 : decode cX7_draws 62 = .ok (.istore 4, 2) := by decide +kernel
theorem dX7_draws_64 : decode cX7_draws 64 = .ok (.iload 4, 2) := by decide +kernel
theorem dX7_draws_66 : decode cX7_draws 66 = .ok (.bipush 8, 2) := by decide +kernel
theorem dX7_draws_68 : decode cX7_draws 68 = .ok (.if_icmp .ge 46, 3) := by decide +kernel
theorem dX7_draws_71 : decode cX7_draws 71 = .ok (.aload_n 0, 1) := by decide +kernel
theorem dX7_draws_72 : decode cX7_draws 72 = .ok (.getfield 7, 3) := by decide +kernel
theorem dX7_draws_75 : decode cX7_draws 75 = .ok (.iload_n 1, 1) := by decide +kernel
theorem dX7_draws_76 : decode cX7_draws 76 = .ok (.iload 4, 2) := by decide +kernel
theorem dX7_draws_78 : decode cX7_draws 78 = .ok (.iload_n 2, 1) := by decide +kernel
theorem dX7_draws_79 : decode cX7_draws 79 = .ok (.invokestatic 36, 3) := by decide +kernel
theorem dX7_draws_82 : decode cX7_draws 82 = .ok (.iconst 0, 1) := by decide +kernel
theorem dX7_draws_83 : decode cX7_draws 83 = .ok (.iastore, 1) := by decide +kernel
theorem dX7_draws_84 : decode cX7_draws 84 = .ok (.aload_n 0, 1) := by decide +kernel
theorem dX7_draws_85 : decode cX7_draws 85 = .ok (.getfield 7, 3) := by decide +kernel
theorem dX7_draws_88 : decode cX7_draws 88 = .ok (.iload_n 1, 1) := by decide +kernel
theorem dX7_draws_89 : decode cX7_draws 89 = .ok (.iload 4, 2) := by decide +kernel
theorem dX7_draws_91 : decode cX7_draws 91 = .ok (.iload_n 2, 1) := by decide +kernel
theorem dX7_draws_92 : decode cX7_draws 92 = .ok (.invokestatic 36, 3) := by decide +kernel
theorem dX7_draws_95 : decode cX7_draws 95 = .ok (.iconst 1, 1) := by decide +kernel
theorem dX7_draws_96 : decode cX7_draws 96 = .ok (.iadd, 1) := by decide +kernel
theorem dX7_draws_97 : decode cX7_draws 97 = .ok (.aload_n 0, 1) := by decide +kernel
theorem dX7_draws_98 : decode cX7_draws 98 = .ok (.getfield 7, 3) := by decide +kernel
theorem dX7_draws_101 : decode cX7_draws 101 = .ok (.iload_n 3, 1) := by decide +kernel
theorem dX7_draws_102 : decode cX7_draws 102 = .ok (.iconst 2, 1) := by decide +kernel
theorem dX7_draws_103 : decode cX7_draws 103 = .ok (.iadd, 1) := by decide +kernel
theorem dX7_draws_104 : decode cX7_draws 104 = .ok (.iaload, 1) := by decide +kernel
theorem dX7_draws_105 : decode cX7_draws 105 = .ok (.iconst 1, 1) := by decide +kernel
theorem dX7_draws_106 : decode cX7_draws 106 = .ok (.isub, 1) := by decide +kernel
theorem dX7_draws_107 : decode cX7_draws 107 = .ok (.iastore, 1) := by decide +kernel
theorem dX7_draws_108 : decode cX7_draws 108 = .ok (.iinc 4 1, 3) := by decide +kernel
theorem dX7_draws_111 : decode cX7_draws 111 = .ok (.goto (-47), 3) := by decide +kernel
theorem dX7_draws_114 : decode cX7_draws 114 = .ok (.return_, 1) := by decide +kernel
theorem dX7_many_0 : decode cX7_many 0 = .ok (.iconst 0, 1) := by decide +kernel
theorem dX7_many_1 : decode cX7_many 1 = .ok (.istore_n 3, 1) := by decide +kernel
theorem dX7_many_2 : decode cX7_many 2 = .ok (.iconst 0, 1) := by decide +kernel
theorem dX7_many_3 : decode cX7_many 3 = .ok (.istore 4, 2) := by decide +kernel
theorem dX7_many_5 : decode cX7_many 5 = .ok (.iload 4, 2) := by decide +kernel
theorem dX7_many_7 : decode cX7_many 7 = .ok (.aload_n 0, 1) := by decide +kernel
theorem dX7_many_8 : decode cX7_many 8 = .ok (.getfield 7, 3) := by decide +kernel
theorem dX7_many_11 : decode cX7_many 11 = .ok (.iload_n 1, 1) := by decide +kernel
theorem dX7_many_12 : decode cX7_many 12 = .ok (.bipush 10, 2) := by decide +kernel
theorem dX7_many_14 : decode cX7_many 14 = .ok (.iadd, 1) := by decide +kernel
theorem dX7_many_15 : decode cX7_many 15 = .ok (.iaload, 1) := by decide +kernel
theorem dX7_many_16 : decode cX7_many 16 = .ok (.if_icmp .ge 44, 3) := by decide +kernel
theorem dX7_many_19 : decode cX7_many 19 = .ok (.iload_n 3, 1) := by decide +kernel
theorem dX7_many_20 : decode cX7_many 20 = .ok (.aload_n 0, 1) := by decide +kernel
theorem dX7_many_21 : decode cX7_many 21 = .ok (.getfield 7, 3) := by decide +kernel
theorem dX7_many_24 : decode cX7_many 24 = .ok (.iload_n 1, 1) := by decide +kernel
theorem dX7_many_25 : decode cX7_many 25 = .ok (.aload_n 0, 1) := by decide +kernel
theorem dX7_many_26 : decode cX7_many 26 = .ok (.getfield 7, 3) := by decide +kernel
theorem dX7_many_29 : decode cX7_many 29 = .ok (.iload_n 1, 1) := by decide +kernel
theorem dX7_many_30 : decode cX7_many 30 = .ok (.bipush 12, 2) := by decide +kernel
theorem dX7_many_32 : decode cX7_many 32 = .ok (.iadd, 1) := by decide +kernel
theorem dX7_many_33 : decode cX7_many 33 = .ok (.iload 4, 2) := by decide +kernel
theorem dX7_many_35 : decode cX7_many 35 = .ok (.iadd, 1) := by decide +kernel
theorem dX7_many_36 : decode cX7_many 36 = .ok (.iaload, 1) := by decide +kernel
theorem dX7_many_37 : decode cX7_many 37 = .ok (.invokestatic 40, 3) := by decide +kernel
theorem dX7_many_40 : decode cX7_many 40 = .ok (.iconst 2, 1) := by decide +kernel
theorem dX7_many_41 : decode cX7_many 41 = .ok (.iadd, 1) := by decide +kernel
theorem dX7_many_42 : decode cX7_many 42 = .ok (.iaload, 1) := by decide +kernel
theorem dX7_many_43 : decode cX7_many 43 = .ok (.iload_n 2, 1) := by decide +kernel
theorem dX7_many_44 : decode cX7_many 44 = .ok (.if_icmp .ne 7, 3) := by decide +kernel
theorem dX7_many_47 : decode cX7_many 47 = .ok (.iconst 1, 1) := by decide +kernel
theorem dX7_many_48 : decode cX7_many 48 = .ok (.goto 4, 3) := by decide +kernel
theorem dX7_many_51 : decode cX7_many 51 = .ok (.iconst 0, 1) := by decide +kernel
theorem dX7_many_52 : decode cX7_many 52 = .ok (.iadd, 1) := by decide +kernel
theorem dX7_many_53 : decode cX7_many 53 = .ok (.istore_n 3, 1) := by decide +kernel
theorem dX7_many_54 : decode cX7_many 54 = .ok (.iinc 4 1, 3) := by decide +kernel
theorem dX7_many_57 : decode cX7_many 57 = .ok (.goto (-52), 3) := by decide +kernel
theorem dX7_many_60 : decode cX7_many 60 = .ok (.iload_n 3, 1) := by decide +kernel
theorem dX7_many_61 : decode cX7_many 61 = .ok (.ireturn, 1) := by decide +kernel
theorem dX7_waiter_0 : decode cX7_waiter 0 = .ok (.iload_n 3, 1) := by decide +kernel
theorem dX7_waiter_1 : decode cX7_waiter 1 = .ok (.istore 4, 2) := by decide +kernel
theorem dX7_waiter_3 : decode cX7_waiter 3 = .ok (.iconst 0, 1) := by decide +kernel
theorem dX7_waiter_4 : decode cX7_waiter 4 = .ok (.istore 5, 2) := by decide +kernel
theorem dX7_waiter_6 : decode cX7_waiter 6 = .ok (.iload 5, 2) := by decide +kernel
theorem dX7_waiter_8 : decode cX7_waiter 8 = .ok (.aload_n 0, 1) := by decide +kernel
theorem dX7_waiter_9 : decode cX7_waiter 9 = .ok (.getfield 7, 3) := by decide +kernel
theorem dX7_waiter_12 : decode cX7_waiter 12 = .ok (.iload_n 1, 1) := by decide +kernel
theorem dX7_waiter_13 : decode cX7_waiter 13 = .ok (.bipush 10, 2) := by decide +kernel
theorem dX7_waiter_15 : decode cX7_waiter 15 = .ok (.iadd, 1) := by decide +kernel
theorem dX7_waiter_16 : decode cX7_waiter 16 = .ok (.iaload, 1) := by decide +kernel
theorem dX7_waiter_17 : decode cX7_waiter 17 = .ok (.if_icmp .ge 51, 3) := by decide +kernel
theorem dX7_waiter_20 : decode cX7_waiter 20 = .ok (.aload_n 0, 1) := by decide +kernel
theorem dX7_waiter_21 : decode cX7_waiter 21 = .ok (.getfield 7, 3) := by decide +kernel
theorem dX7_waiter_24 : decode cX7_waiter 24 = .ok (.iload_n 1, 1) := by decide +kernel
theorem dX7_waiter_25 : decode cX7_waiter 25 = .ok (.bipush 12, 2) := by decide +kernel
theorem dX7_waiter_27 : decode cX7_waiter 27 = .ok (.iadd, 1) := by decide +kernel
theorem dX7_waiter_28 : decode cX7_waiter 28 = .ok (.iload 5, 2) := by decide +kernel
theorem dX7_waiter_30 : decode cX7_waiter 30 = .ok (.iadd, 1) := by decide +kernel
theorem dX7_waiter_31 : decode cX7_waiter 31 = .ok (.iaload, 1) := by decide +kernel
theorem dX7_waiter_32 : decode cX7_waiter 32 = .ok (.istore 6, 2) := by decide +kernel
theorem dX7_waiter_34 : decode cX7_waiter 34 = .ok (.aload_n 0, 1) := by decide +kernel
theorem dX7_waiter_35 : decode cX7_waiter 35 = .ok (.getfield 7, 3) := by decide +kernel
theorem dX7_waiter_38 : decode cX7_waiter 38 = .ok (.iload_n 1, 1) := by decide +kernel
theorem dX7_waiter_39 : decode cX7_waiter 39 = .ok (.iload 6, 2) := by decide +kernel
theorem dX7_waiter_41 : decode cX7_waiter 41 = .ok (.invokestatic 40, 3) := by decide +kernel
theorem dX7_waiter_44 : decode cX7_waiter 44 = .ok (.iconst 2, 1) := by decide +kernel
theorem dX7_waiter_45 : decode cX7_waiter 45 = .ok (.iadd, 1) := by decide +kernel
theorem dX7_waiter_46 : decode cX7_waiter 46 = .ok (.iaload, 1) := by decide +kernel
theorem dX7_waiter_47 : decode cX7_waiter 47 = .ok (.iload_n 2, 1) := by decide +kernel
theorem dX7_waiter_48 : decode cX7_waiter 48 = .ok (.if_icmp .ne 14, 3) := by decide +kernel
theorem dX7_waiter_51 : decode cX7_waiter 51 = .ok (.iload 4, 2) := by decide +kernel
theorem dX7_waiter_53 : decode cX7_waiter 53 = .ok (.ifCond .ne 6, 3) := by decide +kernel
theorem dX7_waiter_56 : decode cX7_waiter 56 = .ok (.iload 6, 2) := by decide +kernel
theorem dX7_waiter_58 : decode cX7_waiter 58 = .ok (.ireturn, 1) := by decide +kernel
theorem dX7_waiter_59 : decode cX7_waiter 59 = .ok (.iinc 4 (-1), 3) := by decide +kernel
theorem dX7_waiter_62 : decode cX7_waiter 62 = .ok (.iinc 5 1, 3) := by decide +kernel
theorem dX7_waiter_65 : decode cX7_waiter 65 = .ok (.goto (-59), 3) := by decide +kernel
theorem dX7_waiter_68 : decode cX7_waiter 68 = .ok (.bipush (-6), 2) := by decide +kernel
theorem dX7_waiter_70 : decode cX7_waiter 70 = .ok (.ireturn, 1) := by decide +kernel
theorem dX7_size_0 : decode cX7_size 0 = .ok (.iload_n 0, 1) := by decide +kernel
theorem dX7_size_1 : decode cX7_size 1 = .ok (.ifCond .ge 8, 3) := by decide +kernel
theorem dX7_size_4 : decode cX7_size 4 = .ok (.iload_n 0, 1) := by decide +kernel
theorem dX7_size_5 : decode cX7_size 5 = .ok (.ineg, 1) := by decide +kernel
theorem dX7_size_6 : decode cX7_size 6 = .ok (.goto 4, 3) := by decide +kernel
theorem dX7_size_9 : decode cX7_size 9 = .ok (.iload_n 0, 1) := by decide +kernel
theorem dX7_size_10 : decode cX7_size 10 = .ok (.ireturn, 1) := by decide +kernel
theorem dX7_far_0 : decode cX7_far 0 = .ok (.iload_n 1, 1) := by decide +kernel
theorem dX7_far_1 : decode cX7_far 1 = .ok (.iload_n 2, 1) := by decide +kernel
theorem dX7_far_2 : decode cX7_far 2 = .ok (.invokestatic 40, 3) := by decide +kernel
theorem dX7_far_5 : decode cX7_far 5 = .ok (.istore_n 3, 1) := by decide +kernel
theorem dX7_far_6 : decode cX7_far 6 = .ok (.aload_n 0, 1) := by decide +kernel
theorem dX7_far_7 : decode cX7_far 7 = .ok (.getfield 7, 3) := by decide +kernel
theorem dX7_far_10 : decode cX7_far 10 = .ok (.iload_n 3, 1) := by decide +kernel
theorem dX7_far_11 : decode cX7_far 11 = .ok (.iconst 3, 1) := by decide +kernel
theorem dX7_far_12 : decode cX7_far 12 = .ok (.iadd, 1) := by decide +kernel
theorem dX7_far_13 : decode cX7_far 13 = .ok (.iaload, 1) := by decide +kernel
theorem dX7_far_14 : decode cX7_far 14 = .ok (.aload_n 0, 1) := by decide +kernel
theorem dX7_far_15 : decode cX7_far 15 = .ok (.getfield 7, 3) := by decide +kernel
theorem dX7_far_18 : decode cX7_far 18 = .ok (.iload_n 1, 1) := by decide +kernel
theorem dX7_far_19 : decode cX7_far 19 = .ok (.aload_n 0, 1) := by decide +kernel
theorem dX7_far_20 : decode cX7_far 20 = .ok (.getfield 7, 3) := by decide +kernel
theorem dX7_far_23 : decode cX7_far 23 = .ok (.iload_n 3, 1) := by decide +kernel
theorem dX7_far_24 : decode cX7_far 24 = .ok (.iconst 2, 1) := by decide +kernel
theorem dX7_far_25 : decode cX7_far 25 = .ok (.iadd, 1) := by decide +kernel
theorem dX7_far_26 : decode cX7_far 26 = .ok (.iaload, 1) := by decide +kernel
theorem dX7_far_27 : decode cX7_far 27 = .ok (.invokestatic 31, 3) := by decide +kernel
theorem dX7_far_30 : decode cX7_far 30 = .ok (.iconst 3, 1) := by decide +kernel
theorem dX7_far_31 : decode cX7_far 31 = .ok (.iadd, 1) := by decide +kernel
theorem dX7_far_32 : decode cX7_far 32 = .ok (.iaload, 1) := by decide +kernel
theorem dX7_far_33 : decode cX7_far 33 = .ok (.isub, 1) := by decide +kernel
theorem dX7_far_34 : decode cX7_far 34 = .ok (.invokestatic 43, 3) := by decide +kernel
theorem dX7_far_37 : decode cX7_far 37 = .ok (.ireturn, 1) := by decide +kernel
theorem dX7_areAsNear_0 : decode cX7_areAsNear 0 = .ok (.aload_n 0, 1) := by decide +kernel
theorem dX7_areAsNear_1 : decode cX7_areAsNear 1 = .ok (.iload_n 1, 1) := by decide +kernel
theorem dX7_areAsNear_2 : decode cX7_areAsNear 2 = .ok (.iload_n 2, 1) := by decide +kernel
theorem dX7_areAsNear_3 : decode cX7_areAsNear 3 = .ok (.invokevirtual 47, 3) := by decide +kernel
theorem dX7_areAsNear_6 : decode cX7_areAsNear 6 = .ok (.iconst 1, 1) := by decide +kernel
theorem dX7_areAsNear_7 : decode cX7_areAsNear 7 = .ok (.if_icmp .le 34, 3) := by decide +kernel
theorem dX7_areAsNear_10 : decode cX7_areAsNear 10 = .ok (.aload_n 0, 1) := by decide +kernel
theorem dX7_areAsNear_11 : decode cX7_areAsNear 11 = .ok (.iload_n 1, 1) := by decide +kernel
theorem dX7_areAsNear_12 : decode cX7_areAsNear 12 = .ok (.aload_n 0, 1) := by decide +kernel
theorem dX7_areAsNear_13 : decode cX7_areAsNear 13 = .ok (.iload_n 1, 1) := by decide +kernel
theorem dX7_areAsNear_14 : decode cX7_areAsNear 14 = .ok (.iload_n 2, 1) := by decide +kernel
theorem dX7_areAsNear_15 : decode cX7_areAsNear 15 = .ok (.iconst 0, 1) := by decide +kernel
theorem dX7_areAsNear_16 : decode cX7_areAsNear 16 = .ok (.invokevirtual 50, 3) := by decide +kernel
theorem dX7_areAsNear_19 : decode cX7_areAsNear 19 = .ok (.invokevirtual 53, 3) := by decide +kernel
theorem dX7_areAsNear_22 : decode cX7_areAsNear 22 = .ok (.aload_n 0, 1) := by decide +kernel
theorem dX7_areAsNear_23 : decode cX7_areAsNear 23 = .ok (.iload_n 1, 1) := by decide +kernel
theorem dX7_areAsNear_24 : decode cX7_areAsNear 24 = .ok (.aload_n 0, 1) := by decide +kernel
theorem dX7_areAsNear_25 : decode cX7_areAsNear 25 = .ok (.iload_n 1, 1) := by decide +kernel
theorem dX7_areAsNear_26 : decode cX7_areAsNear 26 = .ok (.iload_n 2, 1) := by decide +kernel
theorem dX7_areAsNear_27 : decode cX7_areAsNear 27 = .ok (.iconst 1, 1) := by decide +kernel
theorem dX7_areAsNear_28 : decode cX7_areAsNear 28 = .ok (.invokevirtual 50, 3) := by decide +kernel
theorem dX7_areAsNear_31 : decode cX7_areAsNear 31 = .ok (.invokevirtual 53, 3) := by decide +kernel
theorem dX7_areAsNear_34 : decode cX7_areAsNear 34 = .ok (.if_icmp .ne 7, 3) := by decide +kernel
theorem dX7_areAsNear_37 : decode cX7_areAsNear 37 = .ok (.iconst 1, 1) := by decide +kernel
theorem dX7_areAsNear_38 : decode cX7_areAsNear 38 = .ok (.goto 4, 3) := by decide +kernel
theorem dX7_areAsNear_41 : decode cX7_areAsNear 41 = .ok (.iconst 0, 1) := by decide +kernel
theorem dX7_areAsNear_42 : decode cX7_areAsNear 42 = .ok (.ireturn, 1) := by decide +kernel
theorem dX7_comer_0 : decode cX7_comer 0 = .ok (.aload_n 0, 1) := by decide +kernel
theorem dX7_comer_1 : decode cX7_comer 1 = .ok (.iload_n 1, 1) := by decide +kernel
theorem dX7_comer_2 : decode cX7_comer 2 = .ok (.iload_n 2, 1) := by decide +kernel
theorem dX7_comer_3 : decode cX7_comer 3 = .ok (.iconst 0, 1) := by decide +kernel
theorem dX7_comer_4 : decode cX7_comer 4 = .ok (.invokevirtual 50, 3) := by decide +kernel
theorem dX7_comer_7 : decode cX7_comer 7 = .ok (.istore_n 3, 1) := by decide +kernel
theorem dX7_comer_8 : decode cX7_comer 8 = .ok (.aload_n 0, 1) := by decide +kernel
theorem dX7_comer_9 : decode cX7_comer 9 = .ok (.iload_n 1, 1) := by decide +kernel
theorem dX7_comer_10 : decode cX7_comer 10 = .ok (.iload_n 2, 1) := by decide +kernel
theorem dX7_comer_11 : decode cX7_comer 11 = .ok (.iconst 1, 1) := by decide +kernel
theorem dX7_comer_12 : decode cX7_comer 12 = .ok (.invokevirtual 50, 3) := by decide +kernel
theorem dX7_comer_15 : decode cX7_comer 15 = .ok (.istore 4, 2) := by decide +kernel
theorem dX7_comer_17 : decode cX7_comer 17 = .ok (.iload_n 3, 1) := by decide +kernel
theorem dX7_comer_18 : decode cX7_comer 18 = .ok (.bipush (-6), 2) := by decide +kernel
theorem dX7_comer_20 : decode cX7_comer 20 = .ok (.if_icmp .ne 6, 3) := by decide +kernel
theorem dX7_comer_23 : decode cX7_comer 23 = .ok (.bipush (-6), 2) := by decide +kernel
theorem dX7_comer_25 : decode cX7_comer 25 = .ok (.ireturn, 1) := by decide +kernel
theorem dX7_comer_26 : decode cX7_comer 26 = .ok (.iload 4, 2) := by decide +kernel
theorem dX7_comer_28 : decode cX7_comer 28 = .ok (.bipush (-6), 2) := by decide +kernel
theorem dX7_comer_30 : decode cX7_comer 30 = .ok (.if_icmp .ne 33, 3) := by decide +kernel
theorem dX7_comer_33 : decode cX7_comer 33 = .ok (.aload_n 0, 1) := by decide +kernel
theorem dX7_comer_34 : decode cX7_comer 34 = .ok (.getfield 7, 3) := by decide +kernel
theorem dX7_comer_37 : decode cX7_comer 37 = .ok (.iload_n 1, 1) := by decide +kernel
theorem dX7_comer_38 : decode cX7_comer 38 = .ok (.iload_n 3, 1) := by decide +kernel
theorem dX7_comer_39 : decode cX7_comer 39 = .ok (.invokestatic 40, 3) := by decide +kernel
theorem dX7_comer_42 : decode cX7_comer 42 = .ok (.iconst 4, 1) := by decide +kernel
theorem dX7_comer_43 : decode cX7_comer 43 = .ok (.iadd, 1) := by decide +kernel
theorem dX7_comer_44 : decode cX7_comer 44 = .ok (.iaload, 1) := by decide +kernel
theorem dX7_comer_45 : decode cX7_comer 45 = .ok (.aload_n 0, 1) := by decide +kernel
theorem dX7_comer_46 : decode cX7_comer 46 = .ok (.getfield 7, 3) := by decide +kernel
theorem dX7_comer_49 : decode cX7_comer 49 = .ok (.iload_n 1, 1) := by decide +kernel
theorem dX7_comer_50 : decode cX7_comer 50 = .ok (.iconst 3, 1) := by decide +kernel
theorem dX7_comer_51 : decode cX7_comer 51 = .ok (.iadd, 1) := by decide +kernel
theorem dX7_comer_52 : decode cX7_comer 52 = .ok (.iaload, 1) := by decide +kernel
theorem dX7_comer_53 : decode cX7_comer 53 = .ok (.if_icmp .lt 7, 3) := by decide +kernel
theorem dX7_comer_56 : decode cX7_comer 56 = .ok (.iload_n 3, 1) := by decide +kernel
theorem dX7_comer_57 : decode cX7_comer 57 = .ok (.goto 5, 3) := by decide +kernel
theorem dX7_comer_60 : decode cX7_comer 60 = .ok (.bipush (-6), 2) := by decide +kernel
theorem dX7_comer_62 : decode cX7_comer 62 = .ok (.ireturn, 1) := by decide +kernel
theorem dX7_comer_63 : decode cX7_comer 63 = .ok (.aload_n 0, 1) := by decide +kernel
theorem dX7_comer_64 : decode cX7_comer 64 = .ok (.iload_n 1, 1) := by decide +kernel
theorem dX7_comer_65 : decode cX7_comer 65 = .ok (.iload_n 2, 1) := by decide +kernel
theorem dX7_comer_66 : decode cX7_comer 66 = .ok (.invokevirtual 56, 3) := by decide +kernel
theorem dX7_comer_69 : decode cX7_comer 69 = .ok (.ifCond .ne 26, 3) := by decide +kernel
theorem dX7_comer_72 : decode cX7_comer 72 = .ok (.aload_n 0, 1) := by decide +kernel
theorem dX7_comer_73 : decode cX7_comer 73 = .ok (.iload_n 1, 1) := by decide +kernel
theorem dX7_comer_74 : decode cX7_comer 74 = .ok (.iload_n 3, 1) := by decide +kernel
theorem dX7_comer_75 : decode cX7_comer 75 = .ok (.invokevirtual 53, 3) := by decide +kernel
theorem dX7_comer_78 : decode cX7_comer 78 = .ok (.aload_n 0, 1) := by decide +kernel
theorem dX7_comer_79 : decode cX7_comer 79 = .ok (.iload_n 1, 1) := by decide +kernel
theorem dX7_comer_80 : decode cX7_comer 80 = .ok (.iload 4, 2) := by decide +kernel
theorem dX7_comer_82 : decode cX7_comer 82 = .ok (.invokevirtual 53, 3) := by decide +kernel
theorem dX7_comer_85 : decode cX7_comer 85 = .ok (.if_icmp .ge 7, 3) := by decide +kernel
theorem dX7_comer_88 : decode cX7_comer 88 = .ok (.iload_n 3, 1) := by decide +kernel
theorem dX7_comer_89 : decode cX7_comer 89 = .ok (.goto 5, 3) := by decide +kernel
theorem dX7_comer_92 : decode cX7_comer 92 = .ok (.iload 4, 2) := by decide +kernel
theorem dX7_comer_94 : decode cX7_comer 94 = .ok (.ireturn, 1) := by decide +kernel
theorem dX7_comer_95 : decode cX7_comer 95 = .ok (.iload_n 3, 1) := by decide +kernel
theorem dX7_comer_96 : decode cX7_comer 96 = .ok (.iload 4, 2) := by decide +kernel
theorem dX7_comer_98 : decode cX7_comer 98 = .ok (.if_icmp .ge 7, 3) := by decide +kernel
theorem dX7_comer_101 : decode cX7_comer 101 = .ok (.iload_n 3, 1) := by decide +kernel
theorem dX7_comer_102 : decode cX7_comer 102 = .ok (.goto 5, 3) := by decide +kernel
theorem dX7_comer_105 : decode cX7_comer 105 = .ok (.iload 4, 2) := by decide +kernel
theorem dX7_comer_107 : decode cX7_comer 107 = .ok (.istore 5, 2) := by decide +kernel
theorem dX7_comer_109 : decode cX7_comer 109 = .ok (.iload_n 3, 1) := by decide +kernel
theorem dX7_comer_110 : decode cX7_comer 110 = .ok (.iload 4, 2) := by decide +kernel
theorem dX7_comer_112 : decode cX7_comer 112 = .ok (.if_icmp .ge 8, 3) := by decide +kernel
theorem dX7_comer_115 : decode cX7_comer 115 = .ok (.iload 4, 2) := by decide +kernel
theorem dX7_comer_117 : decode cX7_comer 117 = .ok (.goto 4, 3) := by decide +kernel
theorem dX7_comer_120 : decode cX7_comer 120 = .ok (.iload_n 3, 1) := by decide +kernel
theorem dX7_comer_121 : decode cX7_comer 121 = .ok (.istore 6, 2) := by decide +kernel
theorem dX7_comer_123 : decode cX7_comer 123 = .ok (.aload_n 0, 1) := by decide +kernel
theorem dX7_comer_124 : decode cX7_comer 124 = .ok (.getfield 7, 3) := by decide +kernel
theorem dX7_comer_127 : decode cX7_comer 127 = .ok (.iload_n 1, 1) := by decide +kernel
theorem dX7_comer_128 : decode cX7_comer 128 = .ok (.iload 5, 2) := by decide +kernel
theorem dX7_comer_130 : decode cX7_comer 130 = .ok (.invokestatic 40, 3) := by decide +kernel
theorem dX7_comer_133 : decode cX7_comer 133 = .ok (.iconst 1, 1) := by decide +kernel
theorem dX7_comer_134 : decode cX7_comer 134 = .ok (.iadd, 1) := by decide +kernel
theorem dX7_comer_135 : decode cX7_comer 135 = .ok (.iaload, 1) := by decide +kernel
theorem dX7_comer_136 : decode cX7_comer 136 = .ok (.aload_n 0, 1) := by decide +kernel
theorem dX7_comer_137 : decode cX7_comer 137 = .ok (.getfield 7, 3) := by decide +kernel
theorem dX7_comer_140 : decode cX7_comer 140 = .ok (.iload_n 1, 1) := by decide +kernel
theorem dX7_comer_141 : decode cX7_comer 141 = .ok (.iconst 0, 1) := by decide +kernel
theorem dX7_comer_142 : decode cX7_comer 142 = .ok (.iadd, 1) := by decide +kernel
theorem dX7_comer_143 : decode cX7_comer 143 = .ok (.iaload, 1) := by decide +kernel
theorem dX7_comer_144 : decode cX7_comer 144 = .ok (.if_icmp .lt 7, 3) := by decide +kernel
theorem dX7_comer_147 : decode cX7_comer 147 = .ok (.iconst 1, 1) := by decide +kernel
theorem dX7_comer_148 : decode cX7_comer 148 = .ok (.goto 4, 3) := by decide +kernel
theorem dX7_comer_151 : decode cX7_comer 151 = .ok (.iconst 0, 1) := by decide +kernel
theorem dX7_comer_152 : decode cX7_comer 152 = .ok (.istore 7, 2) := by decide +kernel
theorem dX7_comer_154 : decode cX7_comer 154 = .ok (.iload 7, 2) := by decide +kernel
theorem dX7_comer_156 : decode cX7_comer 156 = .ok (.ifCond .eq 8, 3) := by decide +kernel
theorem dX7_comer_159 : decode cX7_comer 159 = .ok (.iload 5, 2) := by decide +kernel
theorem dX7_comer_161 : decode cX7_comer 161 = .ok (.goto 34, 3) := by decide +kernel
theorem dX7_comer_164 : decode cX7_comer 164 = .ok (.aload_n 0, 1) := by decide +kernel
theorem dX7_comer_165 : decode cX7_comer 165 = .ok (.getfield 7, 3) := by decide +kernel
theorem dX7_comer_168 : decode cX7_comer 168 = .ok (.iload_n 1, 1) := by decide +kernel
theorem dX7_comer_169 : decode cX7_comer 169 = .ok (.iload 6, 2) := by decide +kernel
theorem dX7_comer_171 : decode cX7_comer 171 = .ok (.invokestatic 40, 3) := by decide +kernel
theorem dX7_comer_174 : decode cX7_comer 174 = .ok (.iconst 1, 1) := by decide +kernel
theorem dX7_comer_175 : decode cX7_comer 175 = .ok (.iadd, 1) := by decide +kernel
theorem dX7_comer_176 : decode cX7_comer 176 = .ok (.iaload, 1) := by decide +kernel
theorem dX7_comer_177 : decode cX7_comer 177 = .ok (.aload_n 0, 1) := by decide +kernel
theorem dX7_comer_178 : decode cX7_comer 178 = .ok (.getfield 7, 3) := by decide +kernel
theorem dX7_comer_181 : decode cX7_comer 181 = .ok (.iload_n 1, 1) := by decide +kernel
theorem dX7_comer_182 : decode cX7_comer 182 = .ok (.iconst 0, 1) := by decide +kernel
theorem dX7_comer_183 : decode cX7_comer 183 = .ok (.iadd, 1) := by decide +kernel
theorem dX7_comer_184 : decode cX7_comer 184 = .ok (.iaload, 1) := by decide +kernel
theorem dX7_comer_185 : decode cX7_comer 185 = .ok (.if_icmp .lt 8, 3) := by decide +kernel
theorem dX7_comer_188 : decode cX7_comer 188 = .ok (.iload 6, 2) := by decide +kernel
theorem dX7_comer_190 : decode cX7_comer 190 = .ok (.goto 5, 3) := by decide +kernel
theorem dX7_comer_193 : decode cX7_comer 193 = .ok (.bipush (-6), 2) := by decide +kernel
theorem dX7_comer_195 : decode cX7_comer 195 = .ok (.ireturn, 1) := by decide +kernel
theorem dX7_pays_0 : decode cX7_pays 0 = .ok (.aload_n 0, 1) := by decide +kernel
theorem dX7_pays_1 : decode cX7_pays 1 = .ok (.getfield 7, 3) := by decide +kernel
theorem dX7_pays_4 : decode cX7_pays 4 = .ok (.iload_n 1, 1) := by decide +kernel
theorem dX7_pays_5 : decode cX7_pays 5 = .ok (.iload_n 2, 1) := by decide +kernel
theorem dX7_pays_6 : decode cX7_pays 6 = .ok (.invokestatic 40, 3) := by decide +kernel
theorem dX7_pays_9 : decode cX7_pays 9 = .ok (.iconst 1, 1) := by decide +kernel
theorem dX7_pays_10 : decode cX7_pays 10 = .ok (.iadd, 1) := by decide +kernel
theorem dX7_pays_11 : decode cX7_pays 11 = .ok (.dup2, 1) := by decide +kernel
theorem dX7_pays_12 : decode cX7_pays 12 = .ok (.iaload, 1) := by decide +kernel
theorem dX7_pays_13 : decode cX7_pays 13 = .ok (.iload 4, 2) := by decide +kernel
theorem dX7_pays_15 : decode cX7_pays 15 = .ok (.isub, 1) := by decide +kernel
theorem dX7_pays_16 : decode cX7_pays 16 = .ok (.iastore, 1) := by decide +kernel
theorem dX7_pays_17 : decode cX7_pays 17 = .ok (.aload_n 0, 1) := by decide +kernel
theorem dX7_pays_18 : decode cX7_pays 18 = .ok (.getfield 7, 3) := by decide +kernel
theorem dX7_pays_21 : decode cX7_pays 21 = .ok (.iload_n 1, 1) := by decide +kernel
theorem dX7_pays_22 : decode cX7_pays 22 = .ok (.iload_n 2, 1) := by decide +kernel
theorem dX7_pays_23 : decode cX7_pays 23 = .ok (.invokestatic 40, 3) := by decide +kernel
theorem dX7_pays_26 : decode cX7_pays 26 = .ok (.bipush 6, 2) := by decide +kernel
theorem dX7_pays_28 : decode cX7_pays 28 = .ok (.iadd, 1) := by decide +kernel
theorem dX7_pays_29 : decode cX7_pays 29 = .ok (.dup2, 1) := by decide +kernel
theorem dX7_pays_30 : decode cX7_pays 30 = .ok (.iaload, 1) := by decide +kernel
theorem dX7_pays_31 : decode cX7_pays 31 = .ok (.iload 4, 2) := by decide +kernel
theorem dX7_pays_33 : decode cX7_pays 33 = .ok (.iadd, 1) := by decide +kernel
theorem dX7_pays_34 : decode cX7_pays 34 = .ok (.iastore, 1) := by decide +kernel
theorem dX7_pays_35 : decode cX7_pays 35 = .ok (.aload_n 0, 1) := by decide +kernel
theorem dX7_pays_36 : decode cX7_pays 36 = .ok (.getfield 7, 3) := by decide +kernel
theorem dX7_pays_39 : decode cX7_pays 39 = .ok (.iload_n 1, 1) := by decide +kernel
theorem dX7_pays_40 : decode cX7_pays 40 = .ok (.iload_n 3, 1) := by decide +kernel
theorem dX7_pays_41 : decode cX7_pays 41 = .ok (.invokestatic 31, 3) := by decide +kernel
theorem dX7_pays_44 : decode cX7_pays 44 = .ok (.iconst 4, 1) := by decide +kernel
theorem dX7_pays_45 : decode cX7_pays 45 = .ok (.iadd, 1) := by decide +kernel
theorem dX7_pays_46 : decode cX7_pays 46 = .ok (.dup2, 1) := by decide +kernel
theorem dX7_pays_47 : decode cX7_pays 47 = .ok (.iaload, 1) := by decide +kernel
theorem dX7_pays_48 : decode cX7_pays 48 = .ok (.iload 4, 2) := by decide +kernel
theorem dX7_pays_50 : decode cX7_pays 50 = .ok (.iadd, 1) := by decide +kernel
theorem dX7_pays_51 : decode cX7_pays 51 = .ok (.iastore, 1) := by decide +kernel
theorem dX7_pays_52 : decode cX7_pays 52 = .ok (.return_, 1) := by decide +kernel
theorem dX7_stopsWaiting_0 : decode cX7_stopsWaiting 0 = .ok (.iload_n 1, 1) := by decide +kernel
theorem dX7_stopsWaiting_1 : decode cX7_stopsWaiting 1 = .ok (.iload_n 2, 1) := by decide +kernel
theorem dX7_stopsWaiting_2 : decode cX7_stopsWaiting 2 = .ok (.invokestatic 40, 3) := by decide +kernel
theorem dX7_stopsWaiting_5 : decode cX7_stopsWaiting 5 = .ok (.istore_n 3, 1) := by decide +kernel
theorem dX7_stopsWaiting_6 : decode cX7_stopsWaiting 6 = .ok (.aload_n 0, 1) := by decide +kernel
theorem dX7_stopsWaiting_7 : decode cX7_stopsWaiting 7 = .ok (.getfield 7, 3) := by decide +kernel
theorem dX7_stopsWaiting_10 : decode cX7_stopsWaiting 10 = .ok (.iload_n 3, 1) := by decide +kernel
theorem dX7_stopsWaiting_11 : decode cX7_stopsWaiting 11 = .ok (.iconst 2, 1) := by decide +kernel
theorem dX7_stopsWaiting_12 : decode cX7_stopsWaiting 12 = .ok (.iadd, 1) := by decide +kernel
theorem dX7_stopsWaiting_13 : decode cX7_stopsWaiting 13 = .ok (.bipush (-6), 2) := by decide +kernel
theorem dX7_stopsWaiting_15 : decode cX7_stopsWaiting 15 = .ok (.iastore, 1) := by decide +kernel
theorem dX7_stopsWaiting_16 : decode cX7_stopsWaiting 16 = .ok (.aload_n 0, 1) := by decide +kernel
theorem dX7_stopsWaiting_17 : decode cX7_stopsWaiting 17 = .ok (.getfield 7, 3) := by decide +kernel
theorem dX7_stopsWaiting_20 : decode cX7_stopsWaiting 20 = .ok (.iload_n 3, 1) := by decide +kernel
theorem dX7_stopsWaiting_21 : decode cX7_stopsWaiting 21 = .ok (.iconst 3, 1) := by decide +kernel
theorem dX7_stopsWaiting_22 : decode cX7_stopsWaiting 22 = .ok (.iadd, 1) := by decide +kernel
theorem dX7_stopsWaiting_23 : decode cX7_stopsWaiting 23 = .ok (.bipush (-6), 2) := by decide +kernel
theorem dX7_stopsWaiting_25 : decode cX7_stopsWaiting 25 = .ok (.iastore, 1) := by decide +kernel
theorem dX7_stopsWaiting_26 : decode cX7_stopsWaiting 26 = .ok (.aload_n 0, 1) := by decide +kernel
theorem dX7_stopsWaiting_27 : decode cX7_stopsWaiting 27 = .ok (.getfield 7, 3) := by decide +kernel
theorem dX7_stopsWaiting_30 : decode cX7_stopsWaiting 30 = .ok (.iload_n 3, 1) := by decide +kernel
theorem dX7_stopsWaiting_31 : decode cX7_stopsWaiting 31 = .ok (.iconst 4, 1) := by decide +kernel
theorem dX7_stopsWaiting_32 : decode cX7_stopsWaiting 32 = .ok (.iadd, 1) := by decide +kernel
theorem dX7_stopsWaiting_33 : decode cX7_stopsWaiting 33 = .ok (.iconst 0, 1) := by decide +kernel
theorem dX7_stopsWaiting_34 : decode cX7_stopsWaiting 34 = .ok (.iastore, 1) := by decide +kernel
theorem dX7_stopsWaiting_35 : decode cX7_stopsWaiting 35 = .ok (.iconst 0, 1) := by decide +kernel
theorem dX7_stopsWaiting_36 : decode cX7_stopsWaiting 36 = .ok (.istore 4, 2) := by decide +kernel
theorem dX7_stopsWaiting_38 : decode cX7_stopsWaiting 38 = .ok (.iconst 0, 1) := by decide +kernel
theorem dX7_stopsWaiting_39 : decode cX7_stopsWaiting 39 = .ok (.istore 5, 2) := by decide +kernel
theorem dX7_stopsWaiting_41 : decode cX7_stopsWaiting 41 = .ok (.iload 5, 2) := by decide +kernel
theorem dX7_stopsWaiting_43 : decode cX7_stopsWaiting 43 = .ok (.aload_n 0, 1) := by decide +kernel
theorem dX7_stopsWaiting_44 : decode cX7_stopsWaiting 44 = .ok (.getfield 7, 3) := by decide +kernel
theorem dX7_stopsWaiting_47 : decode cX7_stopsWaiting 47 = .ok (.iload_n 1, 1) := by decide +kernel
theorem dX7_stopsWaiting_48 : decode cX7_stopsWaiting 48 = .ok (.bipush 10, 2) := by decide +kernel
theorem dX7_stopsWaiting_50 : decode cX7_stopsWaiting 50 = .ok (.iadd, 1) := by decide +kernel
theorem dX7_stopsWaiting_51 : decode cX7_stopsWaiting 51 = .ok (.iaload, 1) := by decide +kernel
theorem dX7_stopsWaiting_52 : decode cX7_stopsWaiting 52 = .ok (.if_icmp .ge 59, 3) := by decide +kernel
theorem dX7_stopsWaiting_55 : decode cX7_stopsWaiting 55 = .ok (.aload_n 0, 1) := by decide +kernel
theorem dX7_stopsWaiting_56 : decode cX7_stopsWaiting 56 = .ok (.getfield 7, 3) := by decide +kernel
theorem dX7_stopsWaiting_59 : decode cX7_stopsWaiting 59 = .ok (.iload_n 1, 1) := by decide +kernel
theorem dX7_stopsWaiting_60 : decode cX7_stopsWaiting 60 = .ok (.bipush 12, 2) := by decide +kernel
theorem dX7_stopsWaiting_62 : decode cX7_stopsWaiting 62 = .ok (.iadd, 1) := by decide +kernel
theorem dX7_stopsWaiting_63 : decode cX7_stopsWaiting 63 = .ok (.iload 4, 2) := by decide +kernel
theorem dX7_stopsWaiting_65 : decode cX7_stopsWaiting 65 = .ok (.iadd, 1) := by decide +kernel
theorem dX7_stopsWaiting_66 : decode cX7_stopsWaiting 66 = .ok (.aload_n 0, 1) := by decide +kernel
theorem dX7_stopsWaiting_67 : decode cX7_stopsWaiting 67 = .ok (.getfield 7, 3) := by decide +kernel
theorem dX7_stopsWaiting_70 : decode cX7_stopsWaiting 70 = .ok (.iload_n 1, 1) := by decide +kernel
theorem dX7_stopsWaiting_71 : decode cX7_stopsWaiting 71 = .ok (.bipush 12, 2) := by decide +kernel
theorem dX7_stopsWaiting_73 : decode cX7_stopsWaiting 73 = .ok (.iadd, 1) := by decide +kernel
theorem dX7_stopsWaiting_74 : decode cX7_stopsWaiting 74 = .ok (.iload 5, 2) := by decide +kernel
theorem dX7_stopsWaiting_76 : decode cX7_stopsWaiting 76 = .ok (.iadd, 1) := by decide +kernel
theorem dX7_stopsWaiting_77 : decode cX7_stopsWaiting 77 = .ok (.iaload, 1) := by decide +kernel
theorem dX7_stopsWaiting_78 : decode cX7_stopsWaiting 78 = .ok (.iastore, 1) := by decide +kernel
theorem dX7_stopsWaiting_79 : decode cX7_stopsWaiting 79 = .ok (.iload 4, 2) := by decide +kernel
theorem dX7_stopsWaiting_81 : decode cX7_stopsWaiting 81 = .ok (.aload_n 0, 1) := by decide +kernel
theorem dX7_stopsWaiting_82 : decode cX7_stopsWaiting 82 = .ok (.getfield 7, 3) := by decide +kernel
theorem dX7_stopsWaiting_85 : decode cX7_stopsWaiting 85 = .ok (.iload_n 1, 1) := by decide +kernel
theorem dX7_stopsWaiting_86 : decode cX7_stopsWaiting 86 = .ok (.bipush 12, 2) := by decide +kernel
theorem dX7_stopsWaiting_88 : decode cX7_stopsWaiting 88 = .ok (.iadd, 1) := by decide +kernel
theorem dX7_stopsWaiting_89 : decode cX7_stopsWaiting 89 = .ok (.iload 5, 2) := by decide +kernel
theorem dX7_stopsWaiting_91 : decode cX7_stopsWaiting 91 = .ok (.iadd, 1) := by decide +kernel
theorem dX7_stopsWaiting_92 : decode cX7_stopsWaiting 92 = .ok (.iaload, 1) := by decide +kernel
theorem dX7_stopsWaiting_93 : decode cX7_stopsWaiting 93 = .ok (.iload_n 2, 1) := by decide +kernel
theorem dX7_stopsWaiting_94 : decode cX7_stopsWaiting 94 = .ok (.if_icmp .ne 7, 3) := by decide +kernel
theorem dX7_stopsWaiting_97 : decode cX7_stopsWaiting 97 = .ok (.iconst 0, 1) := by decide +kernel
theorem dX7_stopsWaiting_98 : decode cX7_stopsWaiting 98 = .ok (.goto 4, 3) := by decide +kernel
theorem dX7_stopsWaiting_101 : decode cX7_stopsWaiting 101 = .ok (.iconst 1, 1) := by decide +kernel
theorem dX7_stopsWaiting_102 : decode cX7_stopsWaiting 102 = .ok (.iadd, 1) := by decide +kernel
theorem dX7_stopsWaiting_103 : decode cX7_stopsWaiting 103 = .ok (.istore 4, 2) := by decide +kernel
theorem dX7_stopsWaiting_105 : decode cX7_stopsWaiting 105 = .ok (.iinc 5 1, 3) := by decide +kernel
theorem dX7_stopsWaiting_108 : decode cX7_stopsWaiting 108 = .ok (.goto (-67), 3) := by decide +kernel
theorem dX7_stopsWaiting_111 : decode cX7_stopsWaiting 111 = .ok (.aload_n 0, 1) := by decide +kernel
theorem dX7_stopsWaiting_112 : decode cX7_stopsWaiting 112 = .ok (.getfield 7, 3) := by decide +kernel
theorem dX7_stopsWaiting_115 : decode cX7_stopsWaiting 115 = .ok (.iload_n 1, 1) := by decide +kernel
theorem dX7_stopsWaiting_116 : decode cX7_stopsWaiting 116 = .ok (.bipush 10, 2) := by decide +kernel
theorem dX7_stopsWaiting_118 : decode cX7_stopsWaiting 118 = .ok (.iadd, 1) := by decide +kernel
theorem dX7_stopsWaiting_119 : decode cX7_stopsWaiting 119 = .ok (.iload 4, 2) := by decide +kernel
theorem dX7_stopsWaiting_121 : decode cX7_stopsWaiting 121 = .ok (.iastore, 1) := by decide +kernel
theorem dX7_stopsWaiting_122 : decode cX7_stopsWaiting 122 = .ok (.return_, 1) := by decide +kernel
theorem dX7_opens_0 : decode cX7_opens 0 = .ok (.iload_n 1, 1) := by decide +kernel
theorem dX7_opens_1 : decode cX7_opens 1 = .ok (.iload_n 2, 1) := by decide +kernel
theorem dX7_opens_2 : decode cX7_opens 2 = .ok (.invokestatic 31, 3) := by decide +kernel
theorem dX7_opens_5 : decode cX7_opens 5 = .ok (.istore_n 3, 1) := by decide +kernel
theorem dX7_opens_6 : decode cX7_opens 6 = .ok (.aload_n 0, 1) := by decide +kernel
theorem dX7_opens_7 : decode cX7_opens 7 = .ok (.iload_n 1, 1) := by decide +kernel
theorem dX7_opens_8 : decode cX7_opens 8 = .ok (.iload_n 2, 1) := by decide +kernel
theorem dX7_opens_9 : decode cX7_opens 9 = .ok (.invokevirtual 56, 3) := by decide +kernel
theorem dX7_opens_12 : decode cX7_opens 12 = .ok (.istore 4, 2) := by decide +kernel
theorem dX7_opens_14 : decode cX7_opens 14 = .ok (.aload_n 0, 1) := by decide +kernel
theorem dX7_opens_15 : decode cX7_opens 15 = .ok (.iload_n 1, 1) := by decide +kernel
theorem dX7_opens_16 : decode cX7_opens 16 = .ok (.iload_n 2, 1) := by decide +kernel
theorem dX7_opens_17 : decode cX7_opens 17 = .ok (.invokevirtual 60, 3) := by decide +kernel
theorem dX7_opens_20 : decode cX7_opens 20 = .ok (.istore 5, 2) := by decide +kernel
theorem dX7_opens_22 : decode cX7_opens 22 = .ok (.aload_n 0, 1) := by decide +kernel
theorem dX7_opens_23 : decode cX7_opens 23 = .ok (.getfield 7, 3) := by decide +kernel
theorem dX7_opens_26 : decode cX7_opens 26 = .ok (.iload_n 3, 1) := by decide +kernel
theorem dX7_opens_27 : decode cX7_opens 27 = .ok (.bipush 6, 2) := by decide +kernel
theorem dX7_opens_29 : decode cX7_opens 29 = .ok (.iadd, 1) := by decide +kernel
theorem dX7_opens_30 : decode cX7_opens 30 = .ok (.dup2, 1) := by decide +kernel
theorem dX7_opens_31 : decode cX7_opens 31 = .ok (.iaload, 1) := by decide +kernel
theorem dX7_opens_32 : decode cX7_opens 32 = .ok (.iload 4, 2) := by decide +kernel
theorem dX7_opens_34 : decode cX7_opens 34 = .ok (.ifCond .eq 7, 3) := by decide +kernel
theorem dX7_opens_37 : decode cX7_opens 37 = .ok (.iconst 1, 1) := by decide +kernel
theorem dX7_opens_38 : decode cX7_opens 38 = .ok (.goto 4, 3) := by decide +kernel
theorem dX7_opens_41 : decode cX7_opens 41 = .ok (.iconst 0, 1) := by decide +kernel
theorem dX7_opens_42 : decode cX7_opens 42 = .ok (.iadd, 1) := by decide +kernel
theorem dX7_opens_43 : decode cX7_opens 43 = .ok (.iastore, 1) := by decide +kernel
theorem dX7_opens_44 : decode cX7_opens 44 = .ok (.iload 5, 2) := by decide +kernel
theorem dX7_opens_46 : decode cX7_opens 46 = .ok (.bipush (-6), 2) := by decide +kernel
theorem dX7_opens_48 : decode cX7_opens 48 = .ok (.if_icmp .ne 5, 3) := by decide +kernel
theorem dX7_opens_51 : decode cX7_opens 51 = .ok (.iconst 0, 1) := by decide +kernel
theorem dX7_opens_52 : decode cX7_opens 52 = .ok (.ireturn, 1) := by decide +kernel
theorem dX7_opens_53 : decode cX7_opens 53 = .ok (.iload_n 1, 1) := by decide +kernel
theorem dX7_opens_54 : decode cX7_opens 54 = .ok (.iload 5, 2) := by decide +kernel
theorem dX7_opens_56 : decode cX7_opens 56 = .ok (.invokestatic 40, 3) := by decide +kernel
theorem dX7_opens_59 : decode cX7_opens 59 = .ok (.istore 6, 2) := by decide +kernel
theorem dX7_opens_61 : decode cX7_opens 61 = .ok (.aload_n 0, 1) := by decide +kernel
theorem dX7_opens_62 : decode cX7_opens 62 = .ok (.iload_n 1, 1) := by decide +kernel
theorem dX7_opens_63 : decode cX7_opens 63 = .ok (.iload_n 2, 1) := by decide +kernel
theorem dX7_opens_64 : decode cX7_opens 64 = .ok (.invokevirtual 47, 3) := by decide +kernel
theorem dX7_opens_67 : decode cX7_opens 67 = .ok (.iconst 1, 1) := by decide +kernel
theorem dX7_opens_68 : decode cX7_opens 68 = .ok (.if_icmp .ne 7, 3) := by decide +kernel
theorem dX7_opens_71 : decode cX7_opens 71 = .ok (.iconst 1, 1) := by decide +kernel
theorem dX7_opens_72 : decode cX7_opens 72 = .ok (.goto 4, 3) := by decide +kernel
theorem dX7_opens_75 : decode cX7_opens 75 = .ok (.iconst 0, 1) := by decide +kernel
theorem dX7_opens_76 : decode cX7_opens 76 = .ok (.istore 7, 2) := by decide +kernel
theorem dX7_opens_78 : decode cX7_opens 78 = .ok (.aload_n 0, 1) := by decide +kernel
theorem dX7_opens_79 : decode cX7_opens 79 = .ok (.getfield 7, 3) := by decide +kernel
theorem dX7_opens_82 : decode cX7_opens 82 = .ok (.iload 6, 2) := by decide +kernel
theorem dX7_opens_84 : decode cX7_opens 84 = .ok (.iconst 1, 1) := by decide +kernel
theorem dX7_opens_85 : decode cX7_opens 85 = .ok (.iadd, 1) := by decide +kernel
theorem dX7_opens_86 : decode cX7_opens 86 = .ok (.iaload, 1) := by decide +kernel
theorem dX7_opens_87 : decode cX7_opens 87 = .ok (.aload_n 0, 1) := by decide +kernel
theorem dX7_opens_88 : decode cX7_opens 88 = .ok (.getfield 7, 3) := by decide +kernel
theorem dX7_opens_91 : decode cX7_opens 91 = .ok (.iload_n 1, 1) := by decide +kernel
theorem dX7_opens_92 : decode cX7_opens 92 = .ok (.iconst 0, 1) := by decide +kernel
theorem dX7_opens_93 : decode cX7_opens 93 = .ok (.iadd, 1) := by decide +kernel
theorem dX7_opens_94 : decode cX7_opens 94 = .ok (.iaload, 1) := by decide +kernel
theorem dX7_opens_95 : decode cX7_opens 95 = .ok (.if_icmp .ge 15, 3) := by decide +kernel
theorem dX7_opens_98 : decode cX7_opens 98 = .ok (.aload_n 0, 1) := by decide +kernel
theorem dX7_opens_99 : decode cX7_opens 99 = .ok (.getfield 7, 3) := by decide +kernel
theorem dX7_opens_102 : decode cX7_opens 102 = .ok (.iload 6, 2) := by decide +kernel
theorem dX7_opens_104 : decode cX7_opens 104 = .ok (.iconst 1, 1) := by decide +kernel
theorem dX7_opens_105 : decode cX7_opens 105 = .ok (.iadd, 1) := by decide +kernel
theorem dX7_opens_106 : decode cX7_opens 106 = .ok (.iaload, 1) := by decide +kernel
theorem dX7_opens_107 : decode cX7_opens 107 = .ok (.goto 11, 3) := by decide +kernel
theorem dX7_opens_110 : decode cX7_opens 110 = .ok (.aload_n 0, 1) := by decide +kernel
theorem dX7_opens_111 : decode cX7_opens 111 = .ok (.getfield 7, 3) := by decide +kernel
theorem dX7_opens_114 : decode cX7_opens 114 = .ok (.iload_n 1, 1) := by decide +kernel
theorem dX7_opens_115 : decode cX7_opens 115 = .ok (.iconst 0, 1) := by decide +kernel
theorem dX7_opens_116 : decode cX7_opens 116 = .ok (.iadd, 1) := by decide +kernel
theorem dX7_opens_117 : decode cX7_opens 117 = .ok (.iaload, 1) := by decide +kernel
theorem dX7_opens_118 : decode cX7_opens 118 = .ok (.istore 8, 2) := by decide +kernel
theorem dX7_opens_120 : decode cX7_opens 120 = .ok (.aload_n 0, 1) := by decide +kernel
theorem dX7_opens_121 : decode cX7_opens 121 = .ok (.iload_n 1, 1) := by decide +kernel
theorem dX7_opens_122 : decode cX7_opens 122 = .ok (.iload 5, 2) := by decide +kernel
theorem dX7_opens_124 : decode cX7_opens 124 = .ok (.iload_n 2, 1) := by decide +kernel
theorem dX7_opens_125 : decode cX7_opens 125 = .ok (.iload 7, 2) := by decide +kernel
theorem dX7_opens_127 : decode cX7_opens 127 = .ok (.ifCond .ne 8, 3) := by decide +kernel
theorem dX7_opens_130 : decode cX7_opens 130 = .ok (.iload 4, 2) := by decide +kernel
theorem dX7_opens_132 : decode cX7_opens 132 = .ok (.ifCond .eq 8, 3) := by decide +kernel
theorem dX7_opens_135 : decode cX7_opens 135 = .ok (.iload 8, 2) := by decide +kernel
theorem dX7_opens_137 : decode cX7_opens 137 = .ok (.goto 4, 3) := by decide +kernel
theorem dX7_opens_140 : decode cX7_opens 140 = .ok (.iconst 0, 1) := by decide +kernel
theorem dX7_opens_141 : decode cX7_opens 141 = .ok (.invokevirtual 63, 3) := by decide +kernel
theorem dX7_opens_144 : decode cX7_opens 144 = .ok (.aload_n 0, 1) := by decide +kernel
theorem dX7_opens_145 : decode cX7_opens 145 = .ok (.getfield 7, 3) := by decide +kernel
theorem dX7_opens_148 : decode cX7_opens 148 = .ok (.iload 6, 2) := by decide +kernel
theorem dX7_opens_150 : decode cX7_opens 150 = .ok (.iconst 3, 1) := by decide +kernel
theorem dX7_opens_151 : decode cX7_opens 151 = .ok (.iadd, 1) := by decide +kernel
theorem dX7_opens_152 : decode cX7_opens 152 = .ok (.iaload, 1) := by decide +kernel
theorem dX7_opens_153 : decode cX7_opens 153 = .ok (.aload_n 0, 1) := by decide +kernel
theorem dX7_opens_154 : decode cX7_opens 154 = .ok (.getfield 7, 3) := by decide +kernel
theorem dX7_opens_157 : decode cX7_opens 157 = .ok (.iload_n 3, 1) := by decide +kernel
theorem dX7_opens_158 : decode cX7_opens 158 = .ok (.iconst 3, 1) := by decide +kernel
theorem dX7_opens_159 : decode cX7_opens 159 = .ok (.iadd, 1) := by decide +kernel
theorem dX7_opens_160 : decode cX7_opens 160 = .ok (.iaload, 1) := by decide +kernel
theorem dX7_opens_161 : decode cX7_opens 161 = .ok (.if_icmp .ne 85, 3) := by decide +kernel
theorem dX7_opens_164 : decode cX7_opens 164 = .ok (.aload_n 0, 1) := by decide +kernel
theorem dX7_opens_165 : decode cX7_opens 165 = .ok (.getfield 7, 3) := by decide +kernel
theorem dX7_opens_168 : decode cX7_opens 168 = .ok (.iload_n 3, 1) := by decide +kernel
theorem dX7_opens_169 : decode cX7_opens 169 = .ok (.iconst 4, 1) := by decide +kernel
theorem dX7_opens_170 : decode cX7_opens 170 = .ok (.iadd, 1) := by decide +kernel
theorem dX7_opens_171 : decode cX7_opens 171 = .ok (.iaload, 1) := by decide +kernel
theorem dX7_opens_172 : decode cX7_opens 172 = .ok (.aload_n 0, 1) := by decide +kernel
theorem dX7_opens_173 : decode cX7_opens 173 = .ok (.getfield 7, 3) := by decide +kernel
theorem dX7_opens_176 : decode cX7_opens 176 = .ok (.iload_n 1, 1) := by decide +kernel
theorem dX7_opens_177 : decode cX7_opens 177 = .ok (.iconst 2, 1) := by decide +kernel
theorem dX7_opens_178 : decode cX7_opens 178 = .ok (.iadd, 1) := by decide +kernel
theorem dX7_opens_179 : decode cX7_opens 179 = .ok (.iaload, 1) := by decide +kernel
theorem dX7_opens_180 : decode cX7_opens 180 = .ok (.if_icmp .ge 14, 3) := by decide +kernel
theorem dX7_opens_183 : decode cX7_opens 183 = .ok (.aload_n 0, 1) := by decide +kernel
theorem dX7_opens_184 : decode cX7_opens 184 = .ok (.getfield 7, 3) := by decide +kernel
theorem dX7_opens_187 : decode cX7_opens 187 = .ok (.iload_n 3, 1) := by decide +kernel
theorem dX7_opens_188 : decode cX7_opens 188 = .ok (.iconst 4, 1) := by decide +kernel
theorem dX7_opens_189 : decode cX7_opens 189 = .ok (.iadd, 1) := by decide +kernel
theorem dX7_opens_190 : decode cX7_opens 190 = .ok (.iaload, 1) := by decide +kernel
theorem dX7_opens_191 : decode cX7_opens 191 = .ok (.goto 11, 3) := by decide +kernel
theorem dX7_opens_194 : decode cX7_opens 194 = .ok (.aload_n 0, 1) := by decide +kernel
theorem dX7_opens_195 : decode cX7_opens 195 = .ok (.getfield 7, 3) := by decide +kernel
theorem dX7_opens_198 : decode cX7_opens 198 = .ok (.iload_n 1, 1) := by decide +kernel
theorem dX7_opens_199 : decode cX7_opens 199 = .ok (.iconst 2, 1) := by decide +kernel
theorem dX7_opens_200 : decode cX7_opens 200 = .ok (.iadd, 1) := by decide +kernel
theorem dX7_opens_201 : decode cX7_opens 201 = .ok (.iaload, 1) := by decide +kernel
theorem dX7_opens_202 : decode cX7_opens 202 = .ok (.istore 9, 2) := by decide +kernel
theorem dX7_opens_204 : decode cX7_opens 204 = .ok (.aload_n 0, 1) := by decide +kernel
theorem dX7_opens_205 : decode cX7_opens 205 = .ok (.getfield 7, 3) := by decide +kernel
theorem dX7_opens_208 : decode cX7_opens 208 = .ok (.iload_n 3, 1) := by decide +kernel
theorem dX7_opens_209 : decode cX7_opens 209 = .ok (.iconst 4, 1) := by decide +kernel
theorem dX7_opens_210 : decode cX7_opens 210 = .ok (.iadd, 1) := by decide +kernel
theorem dX7_opens_211 : decode cX7_opens 211 = .ok (.dup2, 1) := by decide +kernel
theorem dX7_opens_212 : decode cX7_opens 212 = .ok (.iaload, 1) := by decide +kernel
theorem dX7_opens_213 : decode cX7_opens 213 = .ok (.iload 9, 2) := by decide +kernel
theorem dX7_opens_215 : decode cX7_opens 215 = .ok (.isub, 1) := by decide +kernel
theorem dX7_opens_216 : decode cX7_opens 216 = .ok (.iastore, 1) := by decide +kernel
theorem dX7_opens_217 : decode cX7_opens 217 = .ok (.aload_n 0, 1) := by decide +kernel
theorem dX7_opens_218 : decode cX7_opens 218 = .ok (.getfield 7, 3) := by decide +kernel
theorem dX7_opens_221 : decode cX7_opens 221 = .ok (.iload 6, 2) := by decide +kernel
theorem dX7_opens_223 : decode cX7_opens 223 = .ok (.iconst 1, 1) := by decide +kernel
theorem dX7_opens_224 : decode cX7_opens 224 = .ok (.iadd, 1) := by decide +kernel
theorem dX7_opens_225 : decode cX7_opens 225 = .ok (.dup2, 1) := by decide +kernel
theorem dX7_opens_226 : decode cX7_opens 226 = .ok (.iaload, 1) := by decide +kernel
theorem dX7_opens_227 : decode cX7_opens 227 = .ok (.iload 9, 2) := by decide +kernel
theorem dX7_opens_229 : decode cX7_opens 229 = .ok (.iadd, 1) := by decide +kernel
theorem dX7_opens_230 : decode cX7_opens 230 = .ok (.iastore, 1) := by decide +kernel
theorem dX7_opens_231 : decode cX7_opens 231 = .ok (.aload_n 0, 1) := by decide +kernel
theorem dX7_opens_232 : decode cX7_opens 232 = .ok (.getfield 7, 3) := by decide +kernel
theorem dX7_opens_235 : decode cX7_opens 235 = .ok (.iload 6, 2) := by decide +kernel
theorem dX7_opens_237 : decode cX7_opens 237 = .ok (.bipush 7, 2) := by decide +kernel
theorem dX7_opens_239 : decode cX7_opens 239 = .ok (.iadd, 1) := by decide +kernel
theorem dX7_opens_240 : decode cX7_opens 240 = .ok (.dup2, 1) := by decide +kernel
theorem dX7_opens_241 : decode cX7_opens 241 = .ok (.iaload, 1) := by decide +kernel
theorem dX7_opens_242 : decode cX7_opens 242 = .ok (.iload 9, 2) := by decide +kernel
theorem dX7_opens_244 : decode cX7_opens 244 = .ok (.iadd, 1) := by decide +kernel
theorem dX7_opens_245 : decode cX7_opens 245 = .ok (.iastore, 1) := by decide +kernel
theorem dX7_opens_246 : decode cX7_opens 246 = .ok (.aload_n 0, 1) := by decide +kernel
theorem dX7_opens_247 : decode cX7_opens 247 = .ok (.getfield 7, 3) := by decide +kernel
theorem dX7_opens_250 : decode cX7_opens 250 = .ok (.iload 6, 2) := by decide +kernel
theorem dX7_opens_252 : decode cX7_opens 252 = .ok (.aload_n 0, 1) := by decide +kernel
theorem dX7_opens_253 : decode cX7_opens 253 = .ok (.getfield 7, 3) := by decide +kernel
theorem dX7_opens_256 : decode cX7_opens 256 = .ok (.iload_n 3, 1) := by decide +kernel
theorem dX7_opens_257 : decode cX7_opens 257 = .ok (.iaload, 1) := by decide +kernel
theorem dX7_opens_258 : decode cX7_opens 258 = .ok (.aload_n 0, 1) := by decide +kernel
theorem dX7_opens_259 : decode cX7_opens 259 = .ok (.getfield 7, 3) := by decide +kernel
theorem dX7_opens_262 : decode cX7_opens 262 = .ok (.iload 6, 2) := by decide +kernel
theorem dX7_opens_264 : decode cX7_opens 264 = .ok (.iaload, 1) := by decide +kernel
theorem dX7_opens_265 : decode cX7_opens 265 = .ok (.if_icmp .ne 14, 3) := by decide +kernel
theorem dX7_opens_268 : decode cX7_opens 268 = .ok (.aload_n 0, 1) := by decide +kernel
theorem dX7_opens_269 : decode cX7_opens 269 = .ok (.getfield 7, 3) := by decide +kernel
theorem dX7_opens_272 : decode cX7_opens 272 = .ok (.iload_n 3, 1) := by decide +kernel
theorem dX7_opens_273 : decode cX7_opens 273 = .ok (.iconst 1, 1) := by decide +kernel
theorem dX7_opens_274 : decode cX7_opens 274 = .ok (.iadd, 1) := by decide +kernel
theorem dX7_opens_275 : decode cX7_opens 275 = .ok (.iaload, 1) := by decide +kernel
theorem dX7_opens_276 : decode cX7_opens 276 = .ok (.goto 9, 3) := by decide +kernel
theorem dX7_opens_279 : decode cX7_opens 279 = .ok (.aload_n 0, 1) := by decide +kernel
theorem dX7_opens_280 : decode cX7_opens 280 = .ok (.getfield 7, 3) := by decide +kernel
theorem dX7_opens_283 : decode cX7_opens 283 = .ok (.iload_n 3, 1) := by decide +kernel
theorem dX7_opens_284 : decode cX7_opens 284 = .ok (.iaload, 1) := by decide +kernel
theorem dX7_opens_285 : decode cX7_opens 285 = .ok (.iastore, 1) := by decide +kernel
theorem dX7_opens_286 : decode cX7_opens 286 = .ok (.aload_n 0, 1) := by decide +kernel
theorem dX7_opens_287 : decode cX7_opens 287 = .ok (.getfield 7, 3) := by decide +kernel
theorem dX7_opens_290 : decode cX7_opens 290 = .ok (.iload 6, 2) := by decide +kernel
theorem dX7_opens_292 : decode cX7_opens 292 = .ok (.iconst 5, 1) := by decide +kernel
theorem dX7_opens_293 : decode cX7_opens 293 = .ok (.iadd, 1) := by decide +kernel
theorem dX7_opens_294 : decode cX7_opens 294 = .ok (.dup2, 1) := by decide +kernel
theorem dX7_opens_295 : decode cX7_opens 295 = .ok (.iaload, 1) := by decide +kernel
theorem dX7_opens_296 : decode cX7_opens 296 = .ok (.iconst 1, 1) := by decide +kernel
theorem dX7_opens_297 : decode cX7_opens 297 = .ok (.iadd, 1) := by decide +kernel
theorem dX7_opens_298 : decode cX7_opens 298 = .ok (.iastore, 1) := by decide +kernel
theorem dX7_opens_299 : decode cX7_opens 299 = .ok (.aload_n 0, 1) := by decide +kernel
theorem dX7_opens_300 : decode cX7_opens 300 = .ok (.getfield 7, 3) := by decide +kernel
theorem dX7_opens_303 : decode cX7_opens 303 = .ok (.iload_n 3, 1) := by decide +kernel
theorem dX7_opens_304 : decode cX7_opens 304 = .ok (.iconst 5, 1) := by decide +kernel
theorem dX7_opens_305 : decode cX7_opens 305 = .ok (.iadd, 1) := by decide +kernel
theorem dX7_opens_306 : decode cX7_opens 306 = .ok (.dup2, 1) := by decide +kernel
theorem dX7_opens_307 : decode cX7_opens 307 = .ok (.iaload, 1) := by decide +kernel
theorem dX7_opens_308 : decode cX7_opens 308 = .ok (.iconst 1, 1) := by decide +kernel
theorem dX7_opens_309 : decode cX7_opens 309 = .ok (.iadd, 1) := by decide +kernel
theorem dX7_opens_310 : decode cX7_opens 310 = .ok (.iastore, 1) := by decide +kernel
theorem dX7_opens_311 : decode cX7_opens 311 = .ok (.aload_n 0, 1) := by decide +kernel
theorem dX7_opens_312 : decode cX7_opens 312 = .ok (.iload_n 1, 1) := by decide +kernel
theorem dX7_opens_313 : decode cX7_opens 313 = .ok (.iload 5, 2) := by decide +kernel
theorem dX7_opens_315 : decode cX7_opens 315 = .ok (.invokevirtual 67, 3) := by decide +kernel
theorem dX7_opens_318 : decode cX7_opens 318 = .ok (.aload_n 0, 1) := by decide +kernel
theorem dX7_opens_319 : decode cX7_opens 319 = .ok (.iload_n 1, 1) := by decide +kernel
theorem dX7_opens_320 : decode cX7_opens 320 = .ok (.iload_n 2, 1) := by decide +kernel
theorem dX7_opens_321 : decode cX7_opens 321 = .ok (.invokevirtual 70, 3) := by decide +kernel
theorem dX7_opens_324 : decode cX7_opens 324 = .ok (.iconst 1, 1) := by decide +kernel
theorem dX7_opens_325 : decode cX7_opens 325 = .ok (.ireturn, 1) := by decide +kernel
theorem dX7_hour_0 : decode cX7_hour 0 = .ok (.iconst 0, 1) := by decide +kernel
theorem dX7_hour_1 : decode cX7_hour 1 = .ok (.istore_n 2, 1) := by decide +kernel
theorem dX7_hour_2 : decode cX7_hour 2 = .ok (.iconst 0, 1) := by decide +kernel
theorem dX7_hour_3 : decode cX7_hour 3 = .ok (.istore_n 3, 1) := by decide +kernel
theorem dX7_hour_4 : decode cX7_hour 4 = .ok (.iload_n 3, 1) := by decide +kernel
theorem dX7_hour_5 : decode cX7_hour 5 = .ok (.aload_n 0, 1) := by decide +kernel
theorem dX7_hour_6 : decode cX7_hour 6 = .ok (.getfield 7, 3) := by decide +kernel
theorem dX7_hour_9 : decode cX7_hour 9 = .ok (.iload_n 1, 1) := by decide +kernel
theorem dX7_hour_10 : decode cX7_hour 10 = .ok (.iconst 5, 1) := by decide +kernel
theorem dX7_hour_11 : decode cX7_hour 11 = .ok (.iadd, 1) := by decide +kernel
theorem dX7_hour_12 : decode cX7_hour 12 = .ok (.iaload, 1) := by decide +kernel
theorem dX7_hour_13 : decode cX7_hour 13 = .ok (.if_icmp .ge 26, 3) := by decide +kernel
theorem dX7_hour_16 : decode cX7_hour 16 = .ok (.iload_n 2, 1) := by decide +kernel
theorem dX7_hour_17 : decode cX7_hour 17 = .ok (.aload_n 0, 1) := by decide +kernel
theorem dX7_hour_18 : decode cX7_hour 18 = .ok (.iload_n 1, 1) := by decide +kernel
theorem dX7_hour_19 : decode cX7_hour 19 = .ok (.iload_n 3, 1) := by decide +kernel
theorem dX7_hour_20 : decode cX7_hour 20 = .ok (.invokevirtual 73, 3) := by decide +kernel
theorem dX7_hour_23 : decode cX7_hour 23 = .ok (.ifCond .eq 7, 3) := by decide +kernel
theorem dX7_hour_26 : decode cX7_hour 26 = .ok (.iconst 1, 1) := by decide +kernel
theorem dX7_hour_27 : decode cX7_hour 27 = .ok (.goto 4, 3) := by decide +kernel
theorem dX7_hour_30 : decode cX7_hour 30 = .ok (.iconst 0, 1) := by decide +kernel
theorem dX7_hour_31 : decode cX7_hour 31 = .ok (.iadd, 1) := by decide +kernel
theorem dX7_hour_32 : decode cX7_hour 32 = .ok (.istore_n 2, 1) := by decide +kernel
theorem dX7_hour_33 : decode cX7_hour 33 = .ok (.iinc 3 1, 3) := by decide +kernel
theorem dX7_hour_36 : decode cX7_hour 36 = .ok (.goto (-32), 3) := by decide +kernel
theorem dX7_hour_39 : decode cX7_hour 39 = .ok (.iconst 0, 1) := by decide +kernel
theorem dX7_hour_40 : decode cX7_hour 40 = .ok (.istore_n 3, 1) := by decide +kernel
theorem dX7_hour_41 : decode cX7_hour 41 = .ok (.iload_n 3, 1) := by decide +kernel
theorem dX7_hour_42 : decode cX7_hour 42 = .ok (.aload_n 0, 1) := by decide +kernel
theorem dX7_hour_43 : decode cX7_hour 43 = .ok (.getfield 7, 3) := by decide +kernel
theorem dX7_hour_46 : decode cX7_hour 46 = .ok (.iload_n 1, 1) := by decide +kernel
theorem dX7_hour_47 : decode cX7_hour 47 = .ok (.bipush 10, 2) := by decide +kernel
theorem dX7_hour_49 : decode cX7_hour 49 = .ok (.iadd, 1) := by decide +kernel
theorem dX7_hour_50 : decode cX7_hour 50 = .ok (.iaload, 1) := by decide +kernel
theorem dX7_hour_51 : decode cX7_hour 51 = .ok (.if_icmp .ge 35, 3) := by decide +kernel
theorem dX7_hour_54 : decode cX7_hour 54 = .ok (.aload_n 0, 1) := by decide +kernel
theorem dX7_hour_55 : decode cX7_hour 55 = .ok (.getfield 7, 3) := by decide +kernel
theorem dX7_hour_58 : decode cX7_hour 58 = .ok (.iload_n 1, 1) := by decide +kernel
theorem dX7_hour_59 : decode cX7_hour 59 = .ok (.aload_n 0, 1) := by decide +kernel
theorem dX7_hour_60 : decode cX7_hour 60 = .ok (.getfield 7, 3) := by decide +kernel
theorem dX7_hour_63 : decode cX7_hour 63 = .ok (.iload_n 1, 1) := by decide +kernel
theorem dX7_hour_64 : decode cX7_hour 64 = .ok (.bipush 12, 2) := by decide +kernel
theorem dX7_hour_66 : decode cX7_hour 66 = .ok (.iadd, 1) := by decide +kernel
theorem dX7_hour_67 : decode cX7_hour 67 = .ok (.iload_n 3, 1) := by decide +kernel
theorem dX7_hour_68 : decode cX7_hour 68 = .ok (.iadd, 1) := by decide +kernel
theorem dX7_hour_69 : decode cX7_hour 69 = .ok (.iaload, 1) := by decide +kernel
theorem dX7_hour_70 : decode cX7_hour 70 = .ok (.invokestatic 40, 3) := by decide +kernel
theorem dX7_hour_73 : decode cX7_hour 73 = .ok (.iconst 4, 1) := by decide +kernel
theorem dX7_hour_74 : decode cX7_hour 74 = .ok (.iadd, 1) := by decide +kernel
theorem dX7_hour_75 : decode cX7_hour 75 = .ok (.dup2, 1) := by decide +kernel
theorem dX7_hour_76 : decode cX7_hour 76 = .ok (.iaload, 1) := by decide +kernel
theorem dX7_hour_77 : decode cX7_hour 77 = .ok (.iconst 1, 1) := by decide +kernel
theorem dX7_hour_78 : decode cX7_hour 78 = .ok (.iadd, 1) := by decide +kernel
theorem dX7_hour_79 : decode cX7_hour 79 = .ok (.iastore, 1) := by decide +kernel
theorem dX7_hour_80 : decode cX7_hour 80 = .ok (.iinc 3 1, 3) := by decide +kernel
theorem dX7_hour_83 : decode cX7_hour 83 = .ok (.goto (-42), 3) := by decide +kernel
theorem dX7_hour_86 : decode cX7_hour 86 = .ok (.aload_n 0, 1) := by decide +kernel
theorem dX7_hour_87 : decode cX7_hour 87 = .ok (.getfield 7, 3) := by decide +kernel
theorem dX7_hour_90 : decode cX7_hour 90 = .ok (.iload_n 1, 1) := by decide +kernel
theorem dX7_hour_91 : decode cX7_hour 91 = .ok (.iconst 4, 1) := by decide +kernel
theorem dX7_hour_92 : decode cX7_hour 92 = .ok (.iadd, 1) := by decide +kernel
theorem dX7_hour_93 : decode cX7_hour 93 = .ok (.dup2, 1) := by decide +kernel
theorem dX7_hour_94 : decode cX7_hour 94 = .ok (.iaload, 1) := by decide +kernel
theorem dX7_hour_95 : decode cX7_hour 95 = .ok (.iconst 1, 1) := by decide +kernel
theorem dX7_hour_96 : decode cX7_hour 96 = .ok (.iadd, 1) := by decide +kernel
theorem dX7_hour_97 : decode cX7_hour 97 = .ok (.iastore, 1) := by decide +kernel
theorem dX7_hour_98 : decode cX7_hour 98 = .ok (.iload_n 2, 1) := by decide +kernel
theorem dX7_hour_99 : decode cX7_hour 99 = .ok (.ireturn, 1) := by decide +kernel
theorem dX7_hours_0 : decode cX7_hours 0 = .ok (.iconst 0, 1) := by decide +kernel
theorem dX7_hours_1 : decode cX7_hours 1 = .ok (.istore_n 3, 1) := by decide +kernel
theorem dX7_hours_2 : decode cX7_hours 2 = .ok (.iconst 0, 1) := by decide +kernel
theorem dX7_hours_3 : decode cX7_hours 3 = .ok (.istore 4, 2) := by decide +kernel
theorem dX7_hours_5 : decode cX7_hours 5 = .ok (.iload 4, 2) := by decide +kernel
theorem dX7_hours_7 : decode cX7_hours 7 = .ok (.iload_n 2, 1) := by decide +kernel
theorem dX7_hours_8 : decode cX7_hours 8 = .ok (.if_icmp .ge 17, 3) := by decide +kernel
theorem dX7_hours_11 : decode cX7_hours 11 = .ok (.iload_n 3, 1) := by decide +kernel
theorem dX7_hours_12 : decode cX7_hours 12 = .ok (.aload_n 0, 1) := by decide +kernel
theorem dX7_hours_13 : decode cX7_hours 13 = .ok (.iload_n 1, 1) := by decide +kernel
theorem dX7_hours_14 : decode cX7_hours 14 = .ok (.invokevirtual 76, 3) := by decide +kernel
theorem dX7_hours_17 : decode cX7_hours 17 = .ok (.iadd, 1) := by decide +kernel
theorem dX7_hours_18 : decode cX7_hours 18 = .ok (.istore_n 3, 1) := by decide +kernel
theorem dX7_hours_19 : decode cX7_hours 19 = .ok (.iinc 4 1, 3) := by decide +kernel
theorem dX7_hours_22 : decode cX7_hours 22 = .ok (.goto (-17), 3) := by decide +kernel
theorem dX7_hours_25 : decode cX7_hours 25 = .ok (.iload_n 3, 1) := by decide +kernel
theorem dX7_hours_26 : decode cX7_hours 26 = .ok (.ireturn, 1) := by decide +kernel
theorem dX7_ofCarts_0 : decode cX7_ofCarts 0 = .ok (.iconst 0, 1) := by decide +kernel
theorem dX7_ofCarts_1 : decode cX7_ofCarts 1 = .ok (.istore_n 3, 1) := by decide +kernel
theorem dX7_ofCarts_2 : decode cX7_ofCarts 2 = .ok (.iconst 0, 1) := by decide +kernel
theorem dX7_ofCarts_3 : decode cX7_ofCarts 3 = .ok (.istore 4, 2) := by decide +kernel
theorem dX7_ofCarts_5 : decode cX7_ofCarts 5 = .ok (.iload 4, 2) := by decide +kernel
theorem dX7_ofCarts_7 : decode cX7_ofCarts 7 = .ok (.aload_n 0, 1) := by decide +kernel
theorem dX7_ofCarts_8 : decode cX7_ofCarts 8 = .ok (.getfield 7, 3) := by decide +kernel
theorem dX7_ofCarts_11 : decode cX7_ofCarts 11 = .ok (.iload_n 1, 1) := by decide +kernel
theorem dX7_ofCarts_12 : decode cX7_ofCarts 12 = .ok (.bipush 6, 2) := by decide +kernel
theorem dX7_ofCarts_14 : decode cX7_ofCarts 14 = .ok (.iadd, 1) := by decide +kernel
theorem dX7_ofCarts_15 : decode cX7_ofCarts 15 = .ok (.iaload, 1) := by decide +kernel
theorem dX7_ofCarts_16 : decode cX7_ofCarts 16 = .ok (.if_icmp .ge 25, 3) := by decide +kernel
theorem dX7_ofCarts_19 : decode cX7_ofCarts 19 = .ok (.iload_n 3, 1) := by decide +kernel
theorem dX7_ofCarts_20 : decode cX7_ofCarts 20 = .ok (.aload_n 0, 1) := by decide +kernel
theorem dX7_ofCarts_21 : decode cX7_ofCarts 21 = .ok (.getfield 7, 3) := by decide +kernel
theorem dX7_ofCarts_24 : decode cX7_ofCarts 24 = .ok (.iload_n 1, 1) := by decide +kernel
theorem dX7_ofCarts_25 : decode cX7_ofCarts 25 = .ok (.iload 4, 2) := by decide +kernel
theorem dX7_ofCarts_27 : decode cX7_ofCarts 27 = .ok (.invokestatic 40, 3) := by decide +kernel
theorem dX7_ofCarts_30 : decode cX7_ofCarts 30 = .ok (.iload_n 2, 1) := by decide +kernel
theorem dX7_ofCarts_31 : decode cX7_ofCarts 31 = .ok (.iadd, 1) := by decide +kernel
theorem dX7_ofCarts_32 : decode cX7_ofCarts 32 = .ok (.iaload, 1) := by decide +kernel
theorem dX7_ofCarts_33 : decode cX7_ofCarts 33 = .ok (.iadd, 1) := by decide +kernel
theorem dX7_ofCarts_34 : decode cX7_ofCarts 34 = .ok (.istore_n 3, 1) := by decide +kernel
theorem dX7_ofCarts_35 : decode cX7_ofCarts 35 = .ok (.iinc 4 1, 3) := by decide +kernel
theorem dX7_ofCarts_38 : decode cX7_ofCarts 38 = .ok (.goto (-33), 3) := by decide +kernel
theorem dX7_ofCarts_41 : decode cX7_ofCarts 41 = .ok (.iload_n 3, 1) := by decide +kernel
theorem dX7_ofCarts_42 : decode cX7_ofCarts 42 = .ok (.ireturn, 1) := by decide +kernel
theorem dX7_waitingSet_0 : decode cX7_waitingSet 0 = .ok (.iconst 0, 1) := by decide +kernel
theorem dX7_waitingSet_1 : decode cX7_waitingSet 1 = .ok (.istore_n 2, 1) := by decide +kernel
theorem dX7_waitingSet_2 : decode cX7_waitingSet 2 = .ok (.iconst 0, 1) := by decide +kernel
theorem dX7_waitingSet_3 : decode cX7_waitingSet 3 = .ok (.istore_n 3, 1) := by decide +kernel
theorem dX7_waitingSet_4 : decode cX7_waitingSet 4 = .ok (.iload_n 3, 1) := by decide +kernel
theorem dX7_waitingSet_5 : decode cX7_waitingSet 5 = .ok (.aload_n 0, 1) := by decide +kernel
theorem dX7_waitingSet_6 : decode cX7_waitingSet 6 = .ok (.getfield 7, 3) := by decide +kernel
theorem dX7_waitingSet_9 : decode cX7_waitingSet 9 = .ok (.iload_n 1, 1) := by decide +kernel
theorem dX7_waitingSet_10 : decode cX7_waitingSet 10 = .ok (.bipush 10, 2) := by decide +kernel
theorem dX7_waitingSet_12 : decode cX7_waitingSet 12 = .ok (.iadd, 1) := by decide +kernel
theorem dX7_waitingSet_13 : decode cX7_waitingSet 13 = .ok (.iaload, 1) := by decide +kernel
theorem dX7_waitingSet_14 : decode cX7_waitingSet 14 = .ok (.if_icmp .ge 25, 3) := by decide +kernel
theorem dX7_waitingSet_17 : decode cX7_waitingSet 17 = .ok (.iload_n 2, 1) := by decide +kernel
theorem dX7_waitingSet_18 : decode cX7_waitingSet 18 = .ok (.iconst 1, 1) := by decide +kernel
theorem dX7_waitingSet_19 : decode cX7_waitingSet 19 = .ok (.aload_n 0, 1) := by decide +kernel
theorem dX7_waitingSet_20 : decode cX7_waitingSet 20 = .ok (.getfield 7, 3) := by decide +kernel
theorem dX7_waitingSet_23 : decode cX7_waitingSet 23 = .ok (.iload_n 1, 1) := by decide +kernel
theorem dX7_waitingSet_24 : decode cX7_waitingSet 24 = .ok (.bipush 12, 2) := by decide +kernel
theorem dX7_waitingSet_26 : decode cX7_waitingSet 26 = .ok (.iadd, 1) := by decide +kernel
theorem dX7_waitingSet_27 : decode cX7_waitingSet 27 = .ok (.iload_n 3, 1) := by decide +kernel
theorem dX7_waitingSet_28 : decode cX7_waitingSet 28 = .ok (.iadd, 1) := by decide +kernel
theorem dX7_waitingSet_29 : decode cX7_waitingSet 29 = .ok (.iaload, 1) := by decide +kernel
theorem dX7_waitingSet_30 : decode cX7_waitingSet 30 = .ok (.ishl, 1) := by decide +kernel
theorem dX7_waitingSet_31 : decode cX7_waitingSet 31 = .ok (.ior, 1) := by decide +kernel
theorem dX7_waitingSet_32 : decode cX7_waitingSet 32 = .ok (.istore_n 2, 1) := by decide +kernel
theorem dX7_waitingSet_33 : decode cX7_waitingSet 33 = .ok (.iinc 3 1, 3) := by decide +kernel
theorem dX7_waitingSet_36 : decode cX7_waitingSet 36 = .ok (.goto (-32), 3) := by decide +kernel
theorem dX7_waitingSet_39 : decode cX7_waitingSet 39 = .ok (.iload_n 2, 1) := by decide +kernel
theorem dX7_waitingSet_40 : decode cX7_waitingSet 40 = .ok (.ireturn, 1) := by decide +kernel
theorem dX7_isTown_0 : decode cX7_isTown 0 = .ok (.iload_n 0, 1) := by decide +kernel
theorem dX7_isTown_1 : decode cX7_isTown 1 = .ok (.i2l, 1) := by decide +kernel
theorem dX7_isTown_2 : decode cX7_isTown 2 = .ok (.lconst 0, 1) := by decide +kernel
theorem dX7_isTown_3 : decode cX7_isTown 3 = .ok (.ldc2_w 79, 3) := by decide +kernel
theorem dX7_isTown_6 : decode cX7_isTown 6 = .ok (.invokestatic 81, 3) := by decide +kernel
theorem dX7_isTown_9 : decode cX7_isTown 9 = .ok (.ireturn, 1) := by decide +kernel
theorem dX7_isBridge_0 : decode cX7_isBridge 0 = .ok (.iload_n 1, 1) := by decide +kernel
theorem dX7_isBridge_1 : decode cX7_isBridge 1 = .ok (.i2l, 1) := by decide +kernel
theorem dX7_isBridge_2 : decode cX7_isBridge 2 = .ok (.lconst 0, 1) := by decide +kernel
theorem dX7_isBridge_3 : decode cX7_isBridge 3 = .ok (.aload_n 0, 1) := by decide +kernel
theorem dX7_isBridge_4 : decode cX7_isBridge 4 = .ok (.getfield 7, 3) := by decide +kernel
theorem dX7_isBridge_7 : decode cX7_isBridge 7 = .ok (.iconst 5, 1) := by decide +kernel
theorem dX7_isBridge_8 : decode cX7_isBridge 8 = .ok (.iaload, 1) := by decide +kernel
theorem dX7_isBridge_9 : decode cX7_isBridge 9 = .ok (.iconst 1, 1) := by decide +kernel
theorem dX7_isBridge_10 : decode cX7_isBridge 10 = .ok (.isub, 1) := by decide +kernel
theorem dX7_isBridge_11 : decode cX7_isBridge 11 = .ok (.i2l, 1) := by decide +kernel
theorem dX7_isBridge_12 : decode cX7_isBridge 12 = .ok (.invokestatic 81, 3) := by decide +kernel
theorem dX7_isBridge_15 : decode cX7_isBridge 15 = .ok (.ireturn, 1) := by decide +kernel
theorem dX7_isCart_0 : decode cX7_isCart 0 = .ok (.iload_n 1, 1) := by decide +kernel
theorem dX7_isCart_1 : decode cX7_isCart 1 = .ok (.i2l, 1) := by decide +kernel
theorem dX7_isCart_2 : decode cX7_isCart 2 = .ok (.lconst 0, 1) := by decide +kernel
theorem dX7_isCart_3 : decode cX7_isCart 3 = .ok (.aload_n 0, 1) := by decide +kernel
theorem dX7_isCart_4 : decode cX7_isCart 4 = .ok (.getfield 7, 3) := by decide +kernel
theorem dX7_isCart_7 : decode cX7_isCart 7 = .ok (.bipush 6, 2) := by decide +kernel
theorem dX7_isCart_9 : decode cX7_isCart 9 = .ok (.iaload, 1) := by decide +kernel
theorem dX7_isCart_10 : decode cX7_isCart 10 = .ok (.iconst 1, 1) := by decide +kernel
theorem dX7_isCart_11 : decode cX7_isCart 11 = .ok (.isub, 1) := by decide +kernel
theorem dX7_isCart_12 : decode cX7_isCart 12 = .ok (.i2l, 1) := by decide +kernel
theorem dX7_isCart_13 : decode cX7_isCart 13 = .ok (.invokestatic 81, 3) := by decide +kernel
theorem dX7_isCart_16 : decode cX7_isCart 16 = .ok (.ireturn, 1) := by decide +kernel
theorem dX7_isNumber_0 : decode cX7_isNumber 0 = .ok (.iload_n 2, 1) := by decide +kernel
theorem dX7_isNumber_1 : decode cX7_isNumber 1 = .ok (.i2l, 1) := by decide +kernel
theorem dX7_isNumber_2 : decode cX7_isNumber 2 = .ok (.lconst 0, 1) := by decide +kernel
theorem dX7_isNumber_3 : decode cX7_isNumber 3 = .ok (.aload_n 0, 1) := by decide +kernel
theorem dX7_isNumber_4 : decode cX7_isNumber 4 = .ok (.getfield 7, 3) := by decide +kernel
theorem dX7_isNumber_7 : decode cX7_isNumber 7 = .ok (.iconst 0, 1) := by decide +kernel
theorem dX7_isNumber_8 : decode cX7_isNumber 8 = .ok (.iload_n 1, 1) := by decide +kernel
theorem dX7_isNumber_9 : decode cX7_isNumber 9 = .ok (.invokestatic 31, 3) := by decide +kernel
theorem dX7_isNumber_12 : decode cX7_isNumber 12 = .ok (.iconst 2, 1) := by decide +kernel
theorem dX7_isNumber_13 : decode cX7_isNumber 13 = .ok (.iadd, 1) := by decide +kernel
theorem dX7_isNumber_14 : decode cX7_isNumber 14 = .ok (.iaload, 1) := by decide +kernel
theorem dX7_isNumber_15 : decode cX7_isNumber 15 = .ok (.iconst 1, 1) := by decide +kernel
theorem dX7_isNumber_16 : decode cX7_isNumber 16 = .ok (.isub, 1) := by decide +kernel
theorem dX7_isNumber_17 : decode cX7_isNumber 17 = .ok (.i2l, 1) := by decide +kernel
theorem dX7_isNumber_18 : decode cX7_isNumber 18 = .ok (.invokestatic 81, 3) := by decide +kernel
theorem dX7_isNumber_21 : decode cX7_isNumber 21 = .ok (.ireturn, 1) := by decide +kernel
theorem dX7_bridgeError_0 : decode cX7_bridgeError 0 = .ok (.iload_n 1, 1) := by decide +kernel
theorem dX7_bridgeError_1 : decode cX7_bridgeError 1 = .ok (.invokestatic 85, 3) := by decide +kernel
theorem dX7_bridgeError_4 : decode cX7_bridgeError 4 = .ok (.ifCond .eq 10, 3) := by decide +kernel
theorem dX7_bridgeError_7 : decode cX7_bridgeError 7 = .ok (.iload_n 2, 1) := by decide +kernel
theorem dX7_bridgeError_8 : decode cX7_bridgeError 8 = .ok (.invokestatic 85, 3) := by decide +kernel
theorem dX7_bridgeError_11 : decode cX7_bridgeError 11 = .ok (.ifCond .ne 5, 3) := by decide +kernel
theorem dX7_bridgeError_14 : decode cX7_bridgeError 14 = .ok (.iconst (-1), 1) := by decide +kernel
theorem dX7_bridgeError_15 : decode cX7_bridgeError 15 = .ok (.ireturn, 1) := by decide +kernel
theorem dX7_bridgeError_16 : decode cX7_bridgeError 16 = .ok (.iload_n 1, 1) := by decide +kernel
theorem dX7_bridgeError_17 : decode cX7_bridgeError 17 = .ok (.iload_n 2, 1) := by decide +kernel
theorem dX7_bridgeError_18 : decode cX7_bridgeError 18 = .ok (.if_icmp .eq 17, 3) := by decide +kernel
theorem dX7_bridgeError_21 : decode cX7_bridgeError 21 = .ok (.iload_n 3, 1) := by decide +kernel
theorem dX7_bridgeError_22 : decode cX7_bridgeError 22 = .ok (.i2l, 1) := by decide +kernel
theorem dX7_bridgeError_23 : decode cX7_bridgeError 23 = .ok (.ldc2_w 89, 3) := by decide +kernel
theorem dX7_bridgeError_26 : decode cX7_bridgeError 26 = .ok (.ldc2_w 91, 3) := by decide +kernel
theorem dX7_bridgeError_29 : decode cX7_bridgeError 29 = .ok (.invokestatic 81, 3) := by decide +kernel
theorem dX7_bridgeError_32 : decode cX7_bridgeError 32 = .ok (.ifCond .ne 8, 3) := by decide +kernel
theorem dX7_bridgeError_35 : decode cX7_bridgeError 35 = .ok (.bipush (-2), 2) := by decide +kernel
theorem dX7_bridgeError_37 : decode cX7_bridgeError 37 = .ok (.goto 20, 3) := by decide +kernel
theorem dX7_bridgeError_40 : decode cX7_bridgeError 40 = .ok (.aload_n 0, 1) := by decide +kernel
theorem dX7_bridgeError_41 : decode cX7_bridgeError 41 = .ok (.getfield 7, 3) := by decide +kernel
theorem dX7_bridgeError_44 : decode cX7_bridgeError 44 = .ok (.iconst 5, 1) := by decide +kernel
theorem dX7_bridgeError_45 : decode cX7_bridgeError 45 = .ok (.iaload, 1) := by decide +kernel
theorem dX7_bridgeError_46 : decode cX7_bridgeError 46 = .ok (.bipush 12, 2) := by decide +kernel
theorem dX7_bridgeError_48 : decode cX7_bridgeError 48 = .ok (.if_icmp .ne 8, 3) := by decide +kernel
theorem dX7_bridgeError_51 : decode cX7_bridgeError 51 = .ok (.bipush (-4), 2) := by decide +kernel
theorem dX7_bridgeError_53 : decode cX7_bridgeError 53 = .ok (.goto 4, 3) := by decide +kernel
theorem dX7_bridgeError_56 : decode cX7_bridgeError 56 = .ok (.iconst 0, 1) := by decide +kernel
theorem dX7_bridgeError_57 : decode cX7_bridgeError 57 = .ok (.ireturn, 1) := by decide +kernel
theorem dX7_cartError_0 : decode cX7_cartError 0 = .ok (.iload_n 1, 1) := by decide +kernel
theorem dX7_cartError_1 : decode cX7_cartError 1 = .ok (.invokestatic 85, 3) := by decide +kernel
theorem dX7_cartError_4 : decode cX7_cartError 4 = .ok (.ifCond .ne 7, 3) := by decide +kernel
theorem dX7_cartError_7 : decode cX7_cartError 7 = .ok (.iconst (-1), 1) := by decide +kernel
theorem dX7_cartError_8 : decode cX7_cartError 8 = .ok (.goto 38, 3) := by decide +kernel
theorem dX7_cartError_11 : decode cX7_cartError 11 = .ok (.iload_n 2, 1) := by decide +kernel
theorem dX7_cartError_12 : decode cX7_cartError 12 = .ok (.i2l, 1) := by decide +kernel
theorem dX7_cartError_13 : decode cX7_cartError 13 = .ok (.lconst 0, 1) := by decide +kernel
theorem dX7_cartError_14 : decode cX7_cartError 14 = .ok (.ldc2_w 93, 3) := by decide +kernel
theorem dX7_cartError_17 : decode cX7_cartError 17 = .ok (.invokestatic 81, 3) := by decide +kernel
theorem dX7_cartError_20 : decode cX7_cartError 20 = .ok (.ifCond .ne 8, 3) := by decide +kernel
theorem dX7_cartError_23 : decode cX7_cartError 23 = .ok (.bipush (-2), 2) := by decide +kernel
theorem dX7_cartError_25 : decode cX7_cartError 25 = .ok (.goto 21, 3) := by decide +kernel
theorem dX7_cartError_28 : decode cX7_cartError 28 = .ok (.aload_n 0, 1) := by decide +kernel
theorem dX7_cartError_29 : decode cX7_cartError 29 = .ok (.getfield 7, 3) := by decide +kernel
theorem dX7_cartError_32 : decode cX7_cartError 32 = .ok (.bipush 6, 2) := by decide +kernel
theorem dX7_cartError_34 : decode cX7_cartError 34 = .ok (.iaload, 1) := by decide +kernel
theorem dX7_cartError_35 : decode cX7_cartError 35 = .ok (.bipush 8, 2) := by decide +kernel
theorem dX7_cartError_37 : decode cX7_cartError 37 = .ok (.if_icmp .ne 8, 3) := by decide +kernel
theorem dX7_cartError_40 : decode cX7_cartError 40 = .ok (.bipush (-4), 2) := by decide +kernel
theorem dX7_cartError_42 : decode cX7_cartError 42 = .ok (.goto 4, 3) := by decide +kernel
theorem dX7_cartError_45 : decode cX7_cartError 45 = .ok (.iconst 0, 1) := by decide +kernel
theorem dX7_cartError_46 : decode cX7_cartError 46 = .ok (.ireturn, 1) := by decide +kernel
theorem dX7_guessError_0 : decode cX7_guessError 0 = .ok (.aload_n 0, 1) := by decide +kernel
theorem dX7_guessError_1 : decode cX7_guessError 1 = .ok (.iload_n 1, 1) := by decide +kernel
theorem dX7_guessError_2 : decode cX7_guessError 2 = .ok (.invokevirtual 95, 3) := by decide +kernel
theorem dX7_guessError_5 : decode cX7_guessError 5 = .ok (.ifCond .eq 11, 3) := by decide +kernel
theorem dX7_guessError_8 : decode cX7_guessError 8 = .ok (.aload_n 0, 1) := by decide +kernel
theorem dX7_guessError_9 : decode cX7_guessError 9 = .ok (.iload_n 2, 1) := by decide +kernel
theorem dX7_guessError_10 : decode cX7_guessError 10 = .ok (.invokevirtual 98, 3) := by decide +kernel
theorem dX7_guessError_13 : decode cX7_guessError 13 = .ok (.ifCond .ne 5, 3) := by decide +kernel
theorem dX7_guessError_16 : decode cX7_guessError 16 = .ok (.iconst (-1), 1) := by decide +kernel
theorem dX7_guessError_17 : decode cX7_guessError 17 = .ok (.ireturn, 1) := by decide +kernel
theorem dX7_guessError_18 : decode cX7_guessError 18 = .ok (.aload_n 0, 1) := by decide +kernel
theorem dX7_guessError_19 : decode cX7_guessError 19 = .ok (.iload_n 2, 1) := by decide +kernel
theorem dX7_guessError_20 : decode cX7_guessError 20 = .ok (.iload_n 3, 1) := by decide +kernel
theorem dX7_guessError_21 : decode cX7_guessError 21 = .ok (.invokevirtual 101, 3) := by decide +kernel
theorem dX7_guessError_24 : decode cX7_guessError 24 = .ok (.ifCond .ne 6, 3) := by decide +kernel
theorem dX7_guessError_27 : decode cX7_guessError 27 = .ok (.bipush (-2), 2) := by decide +kernel
theorem dX7_guessError_29 : decode cX7_guessError 29 = .ok (.ireturn, 1) := by decide +kernel
theorem dX7_guessError_30 : decode cX7_guessError 30 = .ok (.aload_n 0, 1) := by decide +kernel
theorem dX7_guessError_31 : decode cX7_guessError 31 = .ok (.getfield 7, 3) := by decide +kernel
theorem dX7_guessError_34 : decode cX7_guessError 34 = .ok (.iconst 0, 1) := by decide +kernel
theorem dX7_guessError_35 : decode cX7_guessError 35 = .ok (.iload_n 1, 1) := by decide +kernel
theorem dX7_guessError_36 : decode cX7_guessError 36 = .ok (.invokestatic 40, 3) := by decide +kernel
theorem dX7_guessError_39 : decode cX7_guessError 39 = .ok (.iconst 2, 1) := by decide +kernel
theorem dX7_guessError_40 : decode cX7_guessError 40 = .ok (.iadd, 1) := by decide +kernel
theorem dX7_guessError_41 : decode cX7_guessError 41 = .ok (.iaload, 1) := by decide +kernel
theorem dX7_guessError_42 : decode cX7_guessError 42 = .ok (.bipush (-6), 2) := by decide +kernel
theorem dX7_guessError_44 : decode cX7_guessError 44 = .ok (.if_icmp .ne 22, 3) := by decide +kernel
theorem dX7_guessError_47 : decode cX7_guessError 47 = .ok (.aload_n 0, 1) := by decide +kernel
theorem dX7_guessError_48 : decode cX7_guessError 48 = .ok (.iconst 0, 1) := by decide +kernel
theorem dX7_guessError_49 : decode cX7_guessError 49 = .ok (.iload_n 2, 1) := by decide +kernel
theorem dX7_guessError_50 : decode cX7_guessError 50 = .ok (.aload_n 0, 1) := by decide +kernel
theorem dX7_guessError_51 : decode cX7_guessError 51 = .ok (.getfield 7, 3) := by decide +kernel
theorem dX7_guessError_54 : decode cX7_guessError 54 = .ok (.iconst 0, 1) := by decide +kernel
theorem dX7_guessError_55 : decode cX7_guessError 55 = .ok (.iload_n 1, 1) := by decide +kernel
theorem dX7_guessError_56 : decode cX7_guessError 56 = .ok (.invokestatic 40, 3) := by decide +kernel
theorem dX7_guessError_59 : decode cX7_guessError 59 = .ok (.iaload, 1) := by decide +kernel
theorem dX7_guessError_60 : decode cX7_guessError 60 = .ok (.invokevirtual 104, 3) := by decide +kernel
theorem dX7_guessError_63 : decode cX7_guessError 63 = .ok (.ifCond .ne 8, 3) := by decide +kernel
theorem dX7_guessError_66 : decode cX7_guessError 66 = .ok (.bipush (-5), 2) := by decide +kernel
theorem dX7_guessError_68 : decode cX7_guessError 68 = .ok (.goto 4, 3) := by decide +kernel
theorem dX7_guessError_71 : decode cX7_guessError 71 = .ok (.iconst 0, 1) := by decide +kernel
theorem dX7_guessError_72 : decode cX7_guessError 72 = .ok (.ireturn, 1) := by decide +kernel
theorem dX7_leaveError_0 : decode cX7_leaveError 0 = .ok (.aload_n 0, 1) := by decide +kernel
theorem dX7_leaveError_1 : decode cX7_leaveError 1 = .ok (.iload_n 1, 1) := by decide +kernel
theorem dX7_leaveError_2 : decode cX7_leaveError 2 = .ok (.invokevirtual 95, 3) := by decide +kernel
theorem dX7_leaveError_5 : decode cX7_leaveError 5 = .ok (.ifCond .ne 7, 3) := by decide +kernel
theorem dX7_leaveError_8 : decode cX7_leaveError 8 = .ok (.iconst (-1), 1) := by decide +kernel
theorem dX7_leaveError_9 : decode cX7_leaveError 9 = .ok (.goto 26, 3) := by decide +kernel
theorem dX7_leaveError_12 : decode cX7_leaveError 12 = .ok (.aload_n 0, 1) := by decide +kernel
theorem dX7_leaveError_13 : decode cX7_leaveError 13 = .ok (.getfield 7, 3) := by decide +kernel
theorem dX7_leaveError_16 : decode cX7_leaveError 16 = .ok (.iconst 0, 1) := by decide +kernel
theorem dX7_leaveError_17 : decode cX7_leaveError 17 = .ok (.iload_n 1, 1) := by decide +kernel
theorem dX7_leaveError_18 : decode cX7_leaveError 18 = .ok (.invokestatic 40, 3) := by decide +kernel
theorem dX7_leaveError_21 : decode cX7_leaveError 21 = .ok (.iconst 2, 1) := by decide +kernel
theorem dX7_leaveError_22 : decode cX7_leaveError 22 = .ok (.iadd, 1) := by decide +kernel
theorem dX7_leaveError_23 : decode cX7_leaveError 23 = .ok (.iaload, 1) := by decide +kernel
theorem dX7_leaveError_24 : decode cX7_leaveError 24 = .ok (.bipush (-6), 2) := by decide +kernel
theorem dX7_leaveError_26 : decode cX7_leaveError 26 = .ok (.if_icmp .ne 8, 3) := by decide +kernel
theorem dX7_leaveError_29 : decode cX7_leaveError 29 = .ok (.bipush (-5), 2) := by decide +kernel
theorem dX7_leaveError_31 : decode cX7_leaveError 31 = .ok (.goto 4, 3) := by decide +kernel
theorem dX7_leaveError_34 : decode cX7_leaveError 34 = .ok (.iconst 0, 1) := by decide +kernel
theorem dX7_leaveError_35 : decode cX7_leaveError 35 = .ok (.ireturn, 1) := by decide +kernel
theorem dX7_hintError_0 : decode cX7_hintError 0 = .ok (.aload_n 0, 1) := by decide +kernel
theorem dX7_hintError_1 : decode cX7_hintError 1 = .ok (.iload_n 1, 1) := by decide +kernel
theorem dX7_hintError_2 : decode cX7_hintError 2 = .ok (.invokevirtual 95, 3) := by decide +kernel
theorem dX7_hintError_5 : decode cX7_hintError 5 = .ok (.ifCond .eq 11, 3) := by decide +kernel
theorem dX7_hintError_8 : decode cX7_hintError 8 = .ok (.aload_n 0, 1) := by decide +kernel
theorem dX7_hintError_9 : decode cX7_hintError 9 = .ok (.iload_n 2, 1) := by decide +kernel
theorem dX7_hintError_10 : decode cX7_hintError 10 = .ok (.invokevirtual 98, 3) := by decide +kernel
theorem dX7_hintError_13 : decode cX7_hintError 13 = .ok (.ifCond .ne 5, 3) := by decide +kernel
theorem dX7_hintError_16 : decode cX7_hintError 16 = .ok (.iconst (-1), 1) := by decide +kernel
theorem dX7_hintError_17 : decode cX7_hintError 17 = .ok (.ireturn, 1) := by decide +kernel
theorem dX7_hintError_18 : decode cX7_hintError 18 = .ok (.iconst 0, 1) := by decide +kernel
theorem dX7_hintError_19 : decode cX7_hintError 19 = .ok (.iload_n 1, 1) := by decide +kernel
theorem dX7_hintError_20 : decode cX7_hintError 20 = .ok (.iload_n 2, 1) := by decide +kernel
theorem dX7_hintError_21 : decode cX7_hintError 21 = .ok (.invokestatic 36, 3) := by decide +kernel
theorem dX7_hintError_24 : decode cX7_hintError 24 = .ok (.istore_n 3, 1) := by decide +kernel
theorem dX7_hintError_25 : decode cX7_hintError 25 = .ok (.aload_n 0, 1) := by decide +kernel
theorem dX7_hintError_26 : decode cX7_hintError 26 = .ok (.iconst 0, 1) := by decide +kernel
theorem dX7_hintError_27 : decode cX7_hintError 27 = .ok (.iload_n 2, 1) := by decide +kernel
theorem dX7_hintError_28 : decode cX7_hintError 28 = .ok (.aload_n 0, 1) := by decide +kernel
theorem dX7_hintError_29 : decode cX7_hintError 29 = .ok (.getfield 7, 3) := by decide +kernel
theorem dX7_hintError_32 : decode cX7_hintError 32 = .ok (.iconst 0, 1) := by decide +kernel
theorem dX7_hintError_33 : decode cX7_hintError 33 = .ok (.iload_n 1, 1) := by decide +kernel
theorem dX7_hintError_34 : decode cX7_hintError 34 = .ok (.invokestatic 40, 3) := by decide +kernel
theorem dX7_hintError_37 : decode cX7_hintError 37 = .ok (.iaload, 1) := by decide +kernel
theorem dX7_hintError_38 : decode cX7_hintError 38 = .ok (.invokevirtual 104, 3) := by decide +kernel
theorem dX7_hintError_41 : decode cX7_hintError 41 = .ok (.ifCond .eq 45, 3) := by decide +kernel
theorem dX7_hintError_44 : decode cX7_hintError 44 = .ok (.aload_n 0, 1) := by decide +kernel
theorem dX7_hintError_45 : decode cX7_hintError 45 = .ok (.getfield 7, 3) := by decide +kernel
theorem dX7_hintError_48 : decode cX7_hintError 48 = .ok (.iconst 0, 1) := by decide +kernel
theorem dX7_hintError_49 : decode cX7_hintError 49 = .ok (.iload_n 1, 1) := by decide +kernel
theorem dX7_hintError_50 : decode cX7_hintError 50 = .ok (.invokestatic 40, 3) := by decide +kernel
theorem dX7_hintError_53 : decode cX7_hintError 53 = .ok (.iconst 1, 1) := by decide +kernel
theorem dX7_hintError_54 : decode cX7_hintError 54 = .ok (.iadd, 1) := by decide +kernel
theorem dX7_hintError_55 : decode cX7_hintError 55 = .ok (.iaload, 1) := by decide +kernel
theorem dX7_hintError_56 : decode cX7_hintError 56 = .ok (.aload_n 0, 1) := by decide +kernel
theorem dX7_hintError_57 : decode cX7_hintError 57 = .ok (.getfield 7, 3) := by decide +kernel
theorem dX7_hintError_60 : decode cX7_hintError 60 = .ok (.iconst 1, 1) := by decide +kernel
theorem dX7_hintError_61 : decode cX7_hintError 61 = .ok (.iaload, 1) := by decide +kernel
theorem dX7_hintError_62 : decode cX7_hintError 62 = .ok (.if_icmp .lt 24, 3) := by decide +kernel
theorem dX7_hintError_65 : decode cX7_hintError 65 = .ok (.aload_n 0, 1) := by decide +kernel
theorem dX7_hintError_66 : decode cX7_hintError 66 = .ok (.getfield 7, 3) := by decide +kernel
theorem dX7_hintError_69 : decode cX7_hintError 69 = .ok (.iload_n 3, 1) := by decide +kernel
theorem dX7_hintError_70 : decode cX7_hintError 70 = .ok (.iaload, 1) := by decide +kernel
theorem dX7_hintError_71 : decode cX7_hintError 71 = .ok (.aload_n 0, 1) := by decide +kernel
theorem dX7_hintError_72 : decode cX7_hintError 72 = .ok (.getfield 7, 3) := by decide +kernel
theorem dX7_hintError_75 : decode cX7_hintError 75 = .ok (.iload_n 3, 1) := by decide +kernel
theorem dX7_hintError_76 : decode cX7_hintError 76 = .ok (.iconst 1, 1) := by decide +kernel
theorem dX7_hintError_77 : decode cX7_hintError 77 = .ok (.iadd, 1) := by decide +kernel
theorem dX7_hintError_78 : decode cX7_hintError 78 = .ok (.iaload, 1) := by decide +kernel
theorem dX7_hintError_79 : decode cX7_hintError 79 = .ok (.if_icmp .ge 7, 3) := by decide +kernel
theorem dX7_hintError_82 : decode cX7_hintError 82 = .ok (.iconst 1, 1) := by decide +kernel
theorem dX7_hintError_83 : decode cX7_hintError 83 = .ok (.goto 4, 3) := by decide +kernel
theorem dX7_hintError_86 : decode cX7_hintError 86 = .ok (.iconst 0, 1) := by decide +kernel
theorem dX7_hintError_87 : decode cX7_hintError 87 = .ok (.istore 4, 2) := by decide +kernel
theorem dX7_hintError_89 : decode cX7_hintError 89 = .ok (.iload 4, 2) := by decide +kernel
theorem dX7_hintError_91 : decode cX7_hintError 91 = .ok (.ifCond .eq 7, 3) := by decide +kernel
theorem dX7_hintError_94 : decode cX7_hintError 94 = .ok (.iconst 0, 1) := by decide +kernel
theorem dX7_hintError_95 : decode cX7_hintError 95 = .ok (.goto 5, 3) := by decide +kernel
theorem dX7_hintError_98 : decode cX7_hintError 98 = .ok (.bipush (-5), 2) := by decide +kernel
theorem dX7_hintError_100 : decode cX7_hintError 100 = .ok (.ireturn, 1) := by decide +kernel
theorem dX7_passError_0 : decode cX7_passError 0 = .ok (.iload_n 1, 1) := by decide +kernel
theorem dX7_passError_1 : decode cX7_passError 1 = .ok (.i2l, 1) := by decide +kernel
theorem dX7_passError_2 : decode cX7_passError 2 = .ok (.lconst 1, 1) := by decide +kernel
theorem dX7_passError_3 : decode cX7_passError 3 = .ok (.ldc2_w 108, 3) := by decide +kernel
theorem dX7_passError_6 : decode cX7_passError 6 = .ok (.invokestatic 81, 3) := by decide +kernel
theorem dX7_passError_9 : decode cX7_passError 9 = .ok (.ifCond .ne 8, 3) := by decide +kernel
theorem dX7_passError_12 : decode cX7_passError 12 = .ok (.bipush (-2), 2) := by decide +kernel
theorem dX7_passError_14 : decode cX7_passError 14 = .ok (.goto 23, 3) := by decide +kernel
theorem dX7_passError_17 : decode cX7_passError 17 = .ok (.aload_n 0, 1) := by decide +kernel
theorem dX7_passError_18 : decode cX7_passError 18 = .ok (.getfield 7, 3) := by decide +kernel
theorem dX7_passError_21 : decode cX7_passError 21 = .ok (.iconst 4, 1) := by decide +kernel
theorem dX7_passError_22 : decode cX7_passError 22 = .ok (.iaload, 1) := by decide +kernel
theorem dX7_passError_23 : decode cX7_passError 23 = .ok (.iload_n 1, 1) := by decide +kernel
theorem dX7_passError_24 : decode cX7_passError 24 = .ok (.iadd, 1) := by decide +kernel
theorem dX7_passError_25 : decode cX7_passError 25 = .ok (.sipush 9999, 3) := by decide +kernel
theorem dX7_passError_28 : decode cX7_passError 28 = .ok (.if_icmp .le 8, 3) := by decide +kernel
theorem dX7_passError_31 : decode cX7_passError 31 = .ok (.bipush (-5), 2) := by decide +kernel
theorem dX7_passError_33 : decode cX7_passError 33 = .ok (.goto 4, 3) := by decide +kernel
theorem dX7_passError_36 : decode cX7_passError 36 = .ok (.iconst 0, 1) := by decide +kernel
theorem dX7_passError_37 : decode cX7_passError 37 = .ok (.ireturn, 1) := by decide +kernel
theorem dX7_builds_0 : decode cX7_builds 0 = .ok (.aload_n 0, 1) := by decide +kernel
theorem dX7_builds_1 : decode cX7_builds 1 = .ok (.getfield 7, 3) := by decide +kernel
theorem dX7_builds_4 : decode cX7_builds 4 = .ok (.iconst 5, 1) := by decide +kernel
theorem dX7_builds_5 : decode cX7_builds 5 = .ok (.iaload, 1) := by decide +kernel
theorem dX7_builds_6 : decode cX7_builds 6 = .ok (.istore 4, 2) := by decide +kernel
theorem dX7_builds_8 : decode cX7_builds 8 = .ok (.iconst 0, 1) := by decide +kernel
theorem dX7_builds_9 : decode cX7_builds 9 = .ok (.iload 4, 2) := by decide +kernel
theorem dX7_builds_11 : decode cX7_builds 11 = .ok (.invokestatic 31, 3) := by decide +kernel
theorem dX7_builds_14 : decode cX7_builds 14 = .ok (.istore 5, 2) := by decide +kernel
theorem dX7_builds_16 : decode cX7_builds 16 = .ok (.iconst 0, 1) := by decide +kernel
theorem dX7_builds_17 : decode cX7_builds 17 = .ok (.istore 6, 2) := by decide +kernel
theorem dX7_builds_19 : decode cX7_builds 19 = .ok (.iload 6, 2) := by decide +kernel
theorem dX7_builds_21 : decode cX7_builds 21 = .ok (.bipush 7, 2) := by decide +kernel
theorem dX7_builds_23 : decode cX7_builds 23 = .ok (.if_icmp .ge 49, 3) := by decide +kernel
theorem dX7_builds_26 : decode cX7_builds 26 = .ok (.aload_n 0, 1) := by decide +kernel
theorem dX7_builds_27 : decode cX7_builds 27 = .ok (.getfield 7, 3) := by decide +kernel
theorem dX7_builds_30 : decode cX7_builds 30 = .ok (.iload 5, 2) := by decide +kernel
theorem dX7_builds_32 : decode cX7_builds 32 = .ok (.iload 6, 2) := by decide +kernel
theorem dX7_builds_34 : decode cX7_builds 34 = .ok (.iadd, 1) := by decide +kernel
theorem dX7_builds_35 : decode cX7_builds 35 = .ok (.iload 6, 2) := by decide +kernel
theorem dX7_builds_37 : decode cX7_builds 37 = .ok (.ifCond .ne 7, 3) := by decide +kernel
theorem dX7_builds_40 : decode cX7_builds 40 = .ok (.iload_n 1, 1) := by decide +kernel
theorem dX7_builds_41 : decode cX7_builds 41 = .ok (.goto 24, 3) := by decide +kernel
theorem dX7_builds_44 : decode cX7_builds 44 = .ok (.iload 6, 2) := by decide +kernel
theorem dX7_builds_46 : decode cX7_builds 46 = .ok (.iconst 1, 1) := by decide +kernel
theorem dX7_builds_47 : decode cX7_builds 47 = .ok (.if_icmp .ne 7, 3) := by decide +kernel
theorem dX7_builds_50 : decode cX7_builds 50 = .ok (.iload_n 2, 1) := by decide +kernel
theorem dX7_builds_51 : decode cX7_builds 51 = .ok (.goto 14, 3) := by decide +kernel
theorem dX7_builds_54 : decode cX7_builds 54 = .ok (.iload 6, 2) := by decide +kernel
theorem dX7_builds_56 : decode cX7_builds 56 = .ok (.iconst 2, 1) := by decide +kernel
theorem dX7_builds_57 : decode cX7_builds 57 = .ok (.if_icmp .ne 7, 3) := by decide +kernel
theorem dX7_builds_60 : decode cX7_builds 60 = .ok (.iload_n 3, 1) := by decide +kernel
theorem dX7_builds_61 : decode cX7_builds 61 = .ok (.goto 4, 3) := by decide +kernel
theorem dX7_builds_64 : decode cX7_builds 64 = .ok (.iconst 0, 1) := by decide +kernel
theorem dX7_builds_65 : decode cX7_builds 65 = .ok (.iastore, 1) := by decide +kernel
theorem dX7_builds_66 : decode cX7_builds 66 = .ok (.iinc 6 1, 3) := by decide +kernel
theorem dX7_builds_69 : decode cX7_builds 69 = .ok (.goto (-50), 3) := by decide +kernel
theorem dX7_builds_72 : decode cX7_builds 72 = .ok (.aload_n 0, 1) := by decide +kernel
theorem dX7_builds_73 : decode cX7_builds 73 = .ok (.getfield 7, 3) := by decide +kernel
theorem dX7_builds_76 : decode cX7_builds 76 = .ok (.iconst 5, 1) := by decide +kernel
theorem dX7_builds_77 : decode cX7_builds 77 = .ok (.dup2, 1) := by decide +kernel
theorem dX7_builds_78 : decode cX7_builds 78 = .ok (.iaload, 1) := by decide +kernel
theorem dX7_builds_79 : decode cX7_builds 79 = .ok (.iconst 1, 1) := by decide +kernel
theorem dX7_builds_80 : decode cX7_builds 80 = .ok (.iadd, 1) := by decide +kernel
theorem dX7_builds_81 : decode cX7_builds 81 = .ok (.iastore, 1) := by decide +kernel
theorem dX7_builds_82 : decode cX7_builds 82 = .ok (.aload_n 0, 1) := by decide +kernel
theorem dX7_builds_83 : decode cX7_builds 83 = .ok (.iconst 0, 1) := by decide +kernel
theorem dX7_builds_84 : decode cX7_builds 84 = .ok (.iload 4, 2) := by decide +kernel
theorem dX7_builds_86 : decode cX7_builds 86 = .ok (.invokevirtual 70, 3) := by decide +kernel
theorem dX7_builds_89 : decode cX7_builds 89 = .ok (.iload 4, 2) := by decide +kernel
theorem dX7_builds_91 : decode cX7_builds 91 = .ok (.ireturn, 1) := by decide +kernel
theorem dX7_comes_0 : decode cX7_comes 0 = .ok (.aload_n 0, 1) := by decide +kernel
theorem dX7_comes_1 : decode cX7_comes 1 = .ok (.getfield 7, 3) := by decide +kernel
theorem dX7_comes_4 : decode cX7_comes 4 = .ok (.bipush 6, 2) := by decide +kernel
theorem dX7_comes_6 : decode cX7_comes 6 = .ok (.iaload, 1) := by decide +kernel
theorem dX7_comes_7 : decode cX7_comes 7 = .ok (.istore_n 3, 1) := by decide +kernel
theorem dX7_comes_8 : decode cX7_comes 8 = .ok (.iconst 0, 1) := by decide +kernel
theorem dX7_comes_9 : decode cX7_comes 9 = .ok (.iload_n 3, 1) := by decide +kernel
theorem dX7_comes_10 : decode cX7_comes 10 = .ok (.invokestatic 40, 3) := by decide +kernel
theorem dX7_comes_13 : decode cX7_comes 13 = .ok (.istore 4, 2) := by decide +kernel
theorem dX7_comes_15 : decode cX7_comes 15 = .ok (.iconst 0, 1) := by decide +kernel
theorem dX7_comes_16 : decode cX7_comes 16 = .ok (.istore 5, 2) := by decide +kernel
theorem dX7_comes_18 : decode cX7_comes 18 = .ok (.iload 5, 2) := by decide +kernel
theorem dX7_comes_20 : decode cX7_comes 20 = .ok (.bipush 8, 2) := by decide +kernel
theorem dX7_comes_22 : decode cX7_comes 22 = .ok (.if_icmp .ge 56, 3) := by decide +kernel
theorem dX7_comes_25 : decode cX7_comes 25 = .ok (.aload_n 0, 1) := by decide +kernel
theorem dX7_comes_26 : decode cX7_comes 26 = .ok (.getfield 7, 3) := by decide +kernel
theorem dX7_comes_29 : decode cX7_comes 29 = .ok (.iload 4, 2) := by decide +kernel
theorem dX7_comes_31 : decode cX7_comes 31 = .ok (.iload 5, 2) := by decide +kernel
theorem dX7_comes_33 : decode cX7_comes 33 = .ok (.iadd, 1) := by decide +kernel
theorem dX7_comes_34 : decode cX7_comes 34 = .ok (.iload 5, 2) := by decide +kernel
theorem dX7_comes_36 : decode cX7_comes 36 = .ok (.ifCond .ne 7, 3) := by decide +kernel
theorem dX7_comes_39 : decode cX7_comes 39 = .ok (.iload_n 1, 1) := by decide +kernel
theorem dX7_comes_40 : decode cX7_comes 40 = .ok (.goto 31, 3) := by decide +kernel
theorem dX7_comes_43 : decode cX7_comes 43 = .ok (.iload 5, 2) := by decide +kernel
theorem dX7_comes_45 : decode cX7_comes 45 = .ok (.iconst 1, 1) := by decide +kernel
theorem dX7_comes_46 : decode cX7_comes 46 = .ok (.if_icmp .ne 7, 3) := by decide +kernel
theorem dX7_comes_49 : decode cX7_comes 49 = .ok (.iload_n 2, 1) := by decide +kernel
theorem dX7_comes_50 : decode cX7_comes 50 = .ok (.goto 21, 3) := by decide +kernel
theorem dX7_comes_53 : decode cX7_comes 53 = .ok (.iload 5, 2) := by decide +kernel
theorem dX7_comes_55 : decode cX7_comes 55 = .ok (.iconst 2, 1) := by decide +kernel
theorem dX7_comes_56 : decode cX7_comes 56 = .ok (.if_icmp .eq 9, 3) := by decide +kernel
theorem dX7_comes_59 : decode cX7_comes 59 = .ok (.iload 5, 2) := by decide +kernel
theorem dX7_comes_61 : decode cX7_comes 61 = .ok (.iconst 3, 1) := by decide +kernel
theorem dX7_comes_62 : decode cX7_comes 62 = .ok (.if_icmp .ne 8, 3) := by decide +kernel
theorem dX7_comes_65 : decode cX7_comes 65 = .ok (.bipush (-6), 2) := by decide +kernel
theorem dX7_comes_67 : decode cX7_comes 67 = .ok (.goto 4, 3) := by decide +kernel
theorem dX7_comes_70 : decode cX7_comes 70 = .ok (.iconst 0, 1) := by decide +kernel
theorem dX7_comes_71 : decode cX7_comes 71 = .ok (.iastore, 1) := by decide +kernel
theorem dX7_comes_72 : decode cX7_comes 72 = .ok (.iinc 5 1, 3) := by decide +kernel
theorem dX7_comes_75 : decode cX7_comes 75 = .ok (.goto (-57), 3) := by decide +kernel
theorem dX7_comes_78 : decode cX7_comes 78 = .ok (.iconst 0, 1) := by decide +kernel
theorem dX7_comes_79 : decode cX7_comes 79 = .ok (.istore 5, 2) := by decide +kernel
theorem dX7_comes_81 : decode cX7_comes 81 = .ok (.iload 5, 2) := by decide +kernel
theorem dX7_comes_83 : decode cX7_comes 83 = .ok (.aload_n 0, 1) := by decide +kernel
theorem dX7_comes_84 : decode cX7_comes 84 = .ok (.getfield 7, 3) := by decide +kernel
theorem dX7_comes_87 : decode cX7_comes 87 = .ok (.iconst 5, 1) := by decide +kernel
theorem dX7_comes_88 : decode cX7_comes 88 = .ok (.iaload, 1) := by decide +kernel
theorem dX7_comes_89 : decode cX7_comes 89 = .ok (.if_icmp .ge 51, 3) := by decide +kernel
theorem dX7_comes_92 : decode cX7_comes 92 = .ok (.aload_n 0, 1) := by decide +kernel
theorem dX7_comes_93 : decode cX7_comes 93 = .ok (.getfield 7, 3) := by decide +kernel
theorem dX7_comes_96 : decode cX7_comes 96 = .ok (.iconst 0, 1) := by decide +kernel
theorem dX7_comes_97 : decode cX7_comes 97 = .ok (.iload_n 3, 1) := by decide +kernel
theorem dX7_comes_98 : decode cX7_comes 98 = .ok (.iload 5, 2) := by decide +kernel
theorem dX7_comes_100 : decode cX7_comes 100 = .ok (.invokestatic 36, 3) := by decide +kernel
theorem dX7_comes_103 : decode cX7_comes 103 = .ok (.iconst 0, 1) := by decide +kernel
theorem dX7_comes_104 : decode cX7_comes 104 = .ok (.iastore, 1) := by decide +kernel
theorem dX7_comes_105 : decode cX7_comes 105 = .ok (.aload_n 0, 1) := by decide +kernel
theorem dX7_comes_106 : decode cX7_comes 106 = .ok (.getfield 7, 3) := by decide +kernel
theorem dX7_comes_109 : decode cX7_comes 109 = .ok (.iconst 0, 1) := by decide +kernel
theorem dX7_comes_110 : decode cX7_comes 110 = .ok (.iload_n 3, 1) := by decide +kernel
theorem dX7_comes_111 : decode cX7_comes 111 = .ok (.iload 5, 2) := by decide +kernel
theorem dX7_comes_113 : decode cX7_comes 113 = .ok (.invokestatic 36, 3) := by decide +kernel
theorem dX7_comes_116 : decode cX7_comes 116 = .ok (.iconst 1, 1) := by decide +kernel
theorem dX7_comes_117 : decode cX7_comes 117 = .ok (.iadd, 1) := by decide +kernel
theorem dX7_comes_118 : decode cX7_comes 118 = .ok (.aload_n 0, 1) := by decide +kernel
theorem dX7_comes_119 : decode cX7_comes 119 = .ok (.getfield 7, 3) := by decide +kernel
theorem dX7_comes_122 : decode cX7_comes 122 = .ok (.iconst 0, 1) := by decide +kernel
theorem dX7_comes_123 : decode cX7_comes 123 = .ok (.iload 5, 2) := by decide +kernel
theorem dX7_comes_125 : decode cX7_comes 125 = .ok (.invokestatic 31, 3) := by decide +kernel
theorem dX7_comes_128 : decode cX7_comes 128 = .ok (.iconst 2, 1) := by decide +kernel
theorem dX7_comes_129 : decode cX7_comes 129 = .ok (.iadd, 1) := by decide +kernel
theorem dX7_comes_130 : decode cX7_comes 130 = .ok (.iaload, 1) := by decide +kernel
theorem dX7_comes_131 : decode cX7_comes 131 = .ok (.iconst 1, 1) := by decide +kernel
theorem dX7_comes_132 : decode cX7_comes 132 = .ok (.isub, 1) := by decide +kernel
theorem dX7_comes_133 : decode cX7_comes 133 = .ok (.iastore, 1) := by decide +kernel
theorem dX7_comes_134 : decode cX7_comes 134 = .ok (.iinc 5 1, 3) := by decide +kernel
theorem dX7_comes_137 : decode cX7_comes 137 = .ok (.goto (-56), 3) := by decide +kernel
theorem dX7_comes_140 : decode cX7_comes 140 = .ok (.aload_n 0, 1) := by decide +kernel
theorem dX7_comes_141 : decode cX7_comes 141 = .ok (.getfield 7, 3) := by decide +kernel
theorem dX7_comes_144 : decode cX7_comes 144 = .ok (.bipush 6, 2) := by decide +kernel
theorem dX7_comes_146 : decode cX7_comes 146 = .ok (.dup2, 1) := by decide +kernel
theorem dX7_comes_147 : decode cX7_comes 147 = .ok (.iaload, 1) := by decide +kernel
theorem dX7_comes_148 : decode cX7_comes 148 = .ok (.iconst 1, 1) := by decide +kernel
theorem dX7_comes_149 : decode cX7_comes 149 = .ok (.iadd, 1) := by decide +kernel
theorem dX7_comes_150 : decode cX7_comes 150 = .ok (.iastore, 1) := by decide +kernel
theorem dX7_comes_151 : decode cX7_comes 151 = .ok (.aload_n 0, 1) := by decide +kernel
theorem dX7_comes_152 : decode cX7_comes 152 = .ok (.getfield 7, 3) := by decide +kernel
theorem dX7_comes_155 : decode cX7_comes 155 = .ok (.bipush 8, 2) := by decide +kernel
theorem dX7_comes_157 : decode cX7_comes 157 = .ok (.dup2, 1) := by decide +kernel
theorem dX7_comes_158 : decode cX7_comes 158 = .ok (.iaload, 1) := by decide +kernel
theorem dX7_comes_159 : decode cX7_comes 159 = .ok (.iload_n 2, 1) := by decide +kernel
theorem dX7_comes_160 : decode cX7_comes 160 = .ok (.iadd, 1) := by decide +kernel
theorem dX7_comes_161 : decode cX7_comes 161 = .ok (.iastore, 1) := by decide +kernel
theorem dX7_comes_162 : decode cX7_comes 162 = .ok (.iload_n 3, 1) := by decide +kernel
theorem dX7_comes_163 : decode cX7_comes 163 = .ok (.ireturn, 1) := by decide +kernel
theorem dX7_guesses_0 : decode cX7_guesses 0 = .ok (.iconst 0, 1) := by decide +kernel
theorem dX7_guesses_1 : decode cX7_guesses 1 = .ok (.iload_n 1, 1) := by decide +kernel
theorem dX7_guesses_2 : decode cX7_guesses 2 = .ok (.invokestatic 40, 3) := by decide +kernel
theorem dX7_guesses_5 : decode cX7_guesses 5 = .ok (.istore 4, 2) := by decide +kernel
theorem dX7_guesses_7 : decode cX7_guesses 7 = .ok (.aload_n 0, 1) := by decide +kernel
theorem dX7_guesses_8 : decode cX7_guesses 8 = .ok (.getfield 7, 3) := by decide +kernel
theorem dX7_guesses_11 : decode cX7_guesses 11 = .ok (.iload 4, 2) := by decide +kernel
theorem dX7_guesses_13 : decode cX7_guesses 13 = .ok (.iconst 2, 1) := by decide +kernel
theorem dX7_guesses_14 : decode cX7_guesses 14 = .ok (.iadd, 1) := by decide +kernel
theorem dX7_guesses_15 : decode cX7_guesses 15 = .ok (.iload_n 2, 1) := by decide +kernel
theorem dX7_guesses_16 : decode cX7_guesses 16 = .ok (.iastore, 1) := by decide +kernel
theorem dX7_guesses_17 : decode cX7_guesses 17 = .ok (.aload_n 0, 1) := by decide +kernel
theorem dX7_guesses_18 : decode cX7_guesses 18 = .ok (.getfield 7, 3) := by decide +kernel
theorem dX7_guesses_21 : decode cX7_guesses 21 = .ok (.iload 4, 2) := by decide +kernel
theorem dX7_guesses_23 : decode cX7_guesses 23 = .ok (.iconst 3, 1) := by decide +kernel
theorem dX7_guesses_24 : decode cX7_guesses 24 = .ok (.iadd, 1) := by decide +kernel
theorem dX7_guesses_25 : decode cX7_guesses 25 = .ok (.iload_n 3, 1) := by decide +kernel
theorem dX7_guesses_26 : decode cX7_guesses 26 = .ok (.iastore, 1) := by decide +kernel
theorem dX7_guesses_27 : decode cX7_guesses 27 = .ok (.aload_n 0, 1) := by decide +kernel
theorem dX7_guesses_28 : decode cX7_guesses 28 = .ok (.getfield 7, 3) := by decide +kernel
theorem dX7_guesses_31 : decode cX7_guesses 31 = .ok (.iload 4, 2) := by decide +kernel
theorem dX7_guesses_33 : decode cX7_guesses 33 = .ok (.iconst 4, 1) := by decide +kernel
theorem dX7_guesses_34 : decode cX7_guesses 34 = .ok (.iadd, 1) := by decide +kernel
theorem dX7_guesses_35 : decode cX7_guesses 35 = .ok (.iconst 0, 1) := by decide +kernel
theorem dX7_guesses_36 : decode cX7_guesses 36 = .ok (.iastore, 1) := by decide +kernel
theorem dX7_guesses_37 : decode cX7_guesses 37 = .ok (.aload_n 0, 1) := by decide +kernel
theorem dX7_guesses_38 : decode cX7_guesses 38 = .ok (.getfield 7, 3) := by decide +kernel
theorem dX7_guesses_41 : decode cX7_guesses 41 = .ok (.bipush 12, 2) := by decide +kernel
theorem dX7_guesses_43 : decode cX7_guesses 43 = .ok (.aload_n 0, 1) := by decide +kernel
theorem dX7_guesses_44 : decode cX7_guesses 44 = .ok (.getfield 7, 3) := by decide +kernel
theorem dX7_guesses_47 : decode cX7_guesses 47 = .ok (.bipush 10, 2) := by decide +kernel
theorem dX7_guesses_49 : decode cX7_guesses 49 = .ok (.iaload, 1) := by decide +kernel
theorem dX7_guesses_50 : decode cX7_guesses 50 = .ok (.iadd, 1) := by decide +kernel
theorem dX7_guesses_51 : decode cX7_guesses 51 = .ok (.iload_n 1, 1) := by decide +kernel
theorem dX7_guesses_52 : decode cX7_guesses 52 = .ok (.iastore, 1) := by decide +kernel
theorem dX7_guesses_53 : decode cX7_guesses 53 = .ok (.aload_n 0, 1) := by decide +kernel
theorem dX7_guesses_54 : decode cX7_guesses 54 = .ok (.getfield 7, 3) := by decide +kernel
theorem dX7_guesses_57 : decode cX7_guesses 57 = .ok (.bipush 10, 2) := by decide +kernel
theorem dX7_guesses_59 : decode cX7_guesses 59 = .ok (.dup2, 1) := by decide +kernel
theorem dX7_guesses_60 : decode cX7_guesses 60 = .ok (.iaload, 1) := by decide +kernel
theorem dX7_guesses_61 : decode cX7_guesses 61 = .ok (.iconst 1, 1) := by decide +kernel
theorem dX7_guesses_62 : decode cX7_guesses 62 = .ok (.iadd, 1) := by decide +kernel
theorem dX7_guesses_63 : decode cX7_guesses 63 = .ok (.iastore, 1) := by decide +kernel
theorem dX7_guesses_64 : decode cX7_guesses 64 = .ok (.aload_n 0, 1) := by decide +kernel
theorem dX7_guesses_65 : decode cX7_guesses 65 = .ok (.iconst 0, 1) := by decide +kernel
theorem dX7_guesses_66 : decode cX7_guesses 66 = .ok (.iload_n 2, 1) := by decide +kernel
theorem dX7_guesses_67 : decode cX7_guesses 67 = .ok (.invokevirtual 47, 3) := by decide +kernel
theorem dX7_guesses_70 : decode cX7_guesses 70 = .ok (.ireturn, 1) := by decide +kernel
theorem dX7_leaves_0 : decode cX7_leaves 0 = .ok (.aload_n 0, 1) := by decide +kernel
theorem dX7_leaves_1 : decode cX7_leaves 1 = .ok (.getfield 7, 3) := by decide +kernel
theorem dX7_leaves_4 : decode cX7_leaves 4 = .ok (.iconst 0, 1) := by decide +kernel
theorem dX7_leaves_5 : decode cX7_leaves 5 = .ok (.iload_n 1, 1) := by decide +kernel
theorem dX7_leaves_6 : decode cX7_leaves 6 = .ok (.invokestatic 40, 3) := by decide +kernel
theorem dX7_leaves_9 : decode cX7_leaves 9 = .ok (.iconst 2, 1) := by decide +kernel
theorem dX7_leaves_10 : decode cX7_leaves 10 = .ok (.iadd, 1) := by decide +kernel
theorem dX7_leaves_11 : decode cX7_leaves 11 = .ok (.iaload, 1) := by decide +kernel
theorem dX7_leaves_12 : decode cX7_leaves 12 = .ok (.istore_n 2, 1) := by decide +kernel
theorem dX7_leaves_13 : decode cX7_leaves 13 = .ok (.aload_n 0, 1) := by decide +kernel
theorem dX7_leaves_14 : decode cX7_leaves 14 = .ok (.iconst 0, 1) := by decide +kernel
theorem dX7_leaves_15 : decode cX7_leaves 15 = .ok (.iload_n 1, 1) := by decide +kernel
theorem dX7_leaves_16 : decode cX7_leaves 16 = .ok (.invokevirtual 67, 3) := by decide +kernel
theorem dX7_leaves_19 : decode cX7_leaves 19 = .ok (.iload_n 2, 1) := by decide +kernel
theorem dX7_leaves_20 : decode cX7_leaves 20 = .ok (.ireturn, 1) := by decide +kernel
theorem dX7_hints_0 : decode cX7_hints 0 = .ok (.aload_n 0, 1) := by decide +kernel
theorem dX7_hints_1 : decode cX7_hints 1 = .ok (.iconst 0, 1) := by decide +kernel
theorem dX7_hints_2 : decode cX7_hints 2 = .ok (.iload_n 1, 1) := by decide +kernel
theorem dX7_hints_3 : decode cX7_hints 3 = .ok (.iload_n 2, 1) := by decide +kernel
theorem dX7_hints_4 : decode cX7_hints 4 = .ok (.aload_n 0, 1) := by decide +kernel
theorem dX7_hints_5 : decode cX7_hints 5 = .ok (.getfield 7, 3) := by decide +kernel
theorem dX7_hints_8 : decode cX7_hints 8 = .ok (.iconst 1, 1) := by decide +kernel
theorem dX7_hints_9 : decode cX7_hints 9 = .ok (.iaload, 1) := by decide +kernel
theorem dX7_hints_10 : decode cX7_hints 10 = .ok (.invokevirtual 63, 3) := by decide +kernel
theorem dX7_hints_13 : decode cX7_hints 13 = .ok (.aload_n 0, 1) := by decide +kernel
theorem dX7_hints_14 : decode cX7_hints 14 = .ok (.getfield 7, 3) := by decide +kernel
theorem dX7_hints_17 : decode cX7_hints 17 = .ok (.bipush 9, 2) := by decide +kernel
theorem dX7_hints_19 : decode cX7_hints 19 = .ok (.dup2, 1) := by decide +kernel
theorem dX7_hints_20 : decode cX7_hints 20 = .ok (.iaload, 1) := by decide +kernel
theorem dX7_hints_21 : decode cX7_hints 21 = .ok (.iconst 1, 1) := by decide +kernel
theorem dX7_hints_22 : decode cX7_hints 22 = .ok (.iadd, 1) := by decide +kernel
theorem dX7_hints_23 : decode cX7_hints 23 = .ok (.iastore, 1) := by decide +kernel
theorem dX7_hints_24 : decode cX7_hints 24 = .ok (.iconst 0, 1) := by decide +kernel
theorem dX7_hints_25 : decode cX7_hints 25 = .ok (.iload_n 1, 1) := by decide +kernel
theorem dX7_hints_26 : decode cX7_hints 26 = .ok (.iload_n 2, 1) := by decide +kernel
theorem dX7_hints_27 : decode cX7_hints 27 = .ok (.invokestatic 36, 3) := by decide +kernel
theorem dX7_hints_30 : decode cX7_hints 30 = .ok (.istore_n 3, 1) := by decide +kernel
theorem dX7_hints_31 : decode cX7_hints 31 = .ok (.aload_n 0, 1) := by decide +kernel
theorem dX7_hints_32 : decode cX7_hints 32 = .ok (.getfield 7, 3) := by decide +kernel
theorem dX7_hints_35 : decode cX7_hints 35 = .ok (.iload_n 3, 1) := by decide +kernel
theorem dX7_hints_36 : decode cX7_hints 36 = .ok (.iaload, 1) := by decide +kernel
theorem dX7_hints_37 : decode cX7_hints 37 = .ok (.aload_n 0, 1) := by decide +kernel
theorem dX7_hints_38 : decode cX7_hints 38 = .ok (.getfield 7, 3) := by decide +kernel
theorem dX7_hints_41 : decode cX7_hints 41 = .ok (.iload_n 3, 1) := by decide +kernel
theorem dX7_hints_42 : decode cX7_hints 42 = .ok (.iconst 1, 1) := by decide +kernel
theorem dX7_hints_43 : decode cX7_hints 43 = .ok (.iadd, 1) := by decide +kernel
theorem dX7_hints_44 : decode cX7_hints 44 = .ok (.iaload, 1) := by decide +kernel
theorem dX7_hints_45 : decode cX7_hints 45 = .ok (.iadd, 1) := by decide +kernel
theorem dX7_hints_46 : decode cX7_hints 46 = .ok (.iconst 2, 1) := by decide +kernel
theorem dX7_hints_47 : decode cX7_hints 47 = .ok (.idiv, 1) := by decide +kernel
theorem dX7_hints_48 : decode cX7_hints 48 = .ok (.istore 4, 2) := by decide +kernel
theorem dX7_hints_50 : decode cX7_hints 50 = .ok (.aload_n 0, 1) := by decide +kernel
theorem dX7_hints_51 : decode cX7_hints 51 = .ok (.getfield 7, 3) := by decide +kernel
theorem dX7_hints_54 : decode cX7_hints 54 = .ok (.iconst 0, 1) := by decide +kernel
theorem dX7_hints_55 : decode cX7_hints 55 = .ok (.iload_n 2, 1) := by decide +kernel
theorem dX7_hints_56 : decode cX7_hints 56 = .ok (.invokestatic 31, 3) := by decide +kernel
theorem dX7_hints_59 : decode cX7_hints 59 = .ok (.iconst 3, 1) := by decide +kernel
theorem dX7_hints_60 : decode cX7_hints 60 = .ok (.iadd, 1) := by decide +kernel
theorem dX7_hints_61 : decode cX7_hints 61 = .ok (.iaload, 1) := by decide +kernel
theorem dX7_hints_62 : decode cX7_hints 62 = .ok (.iload 4, 2) := by decide +kernel
theorem dX7_hints_64 : decode cX7_hints 64 = .ok (.if_icmp .gt 16, 3) := by decide +kernel
theorem dX7_hints_67 : decode cX7_hints 67 = .ok (.aload_n 0, 1) := by decide +kernel
theorem dX7_hints_68 : decode cX7_hints 68 = .ok (.getfield 7, 3) := by decide +kernel
theorem dX7_hints_71 : decode cX7_hints 71 = .ok (.iload_n 3, 1) := by decide +kernel
theorem dX7_hints_72 : decode cX7_hints 72 = .ok (.iconst 1, 1) := by decide +kernel
theorem dX7_hints_73 : decode cX7_hints 73 = .ok (.iadd, 1) := by decide +kernel
theorem dX7_hints_74 : decode cX7_hints 74 = .ok (.iload 4, 2) := by decide +kernel
theorem dX7_hints_76 : decode cX7_hints 76 = .ok (.iastore, 1) := by decide +kernel
theorem dX7_hints_77 : decode cX7_hints 77 = .ok (.goto 13, 3) := by decide +kernel
theorem dX7_hints_80 : decode cX7_hints 80 = .ok (.aload_n 0, 1) := by decide +kernel
theorem dX7_hints_81 : decode cX7_hints 81 = .ok (.getfield 7, 3) := by decide +kernel
theorem dX7_hints_84 : decode cX7_hints 84 = .ok (.iload_n 3, 1) := by decide +kernel
theorem dX7_hints_85 : decode cX7_hints 85 = .ok (.iload 4, 2) := by decide +kernel
theorem dX7_hints_87 : decode cX7_hints 87 = .ok (.iconst 1, 1) := by decide +kernel
theorem dX7_hints_88 : decode cX7_hints 88 = .ok (.iadd, 1) := by decide +kernel
theorem dX7_hints_89 : decode cX7_hints 89 = .ok (.iastore, 1) := by decide +kernel
theorem dX7_hints_90 : decode cX7_hints 90 = .ok (.aload_n 0, 1) := by decide +kernel
theorem dX7_hints_91 : decode cX7_hints 91 = .ok (.getfield 7, 3) := by decide +kernel
theorem dX7_hints_94 : decode cX7_hints 94 = .ok (.iload_n 3, 1) := by decide +kernel
theorem dX7_hints_95 : decode cX7_hints 95 = .ok (.iconst 1, 1) := by decide +kernel
theorem dX7_hints_96 : decode cX7_hints 96 = .ok (.iadd, 1) := by decide +kernel
theorem dX7_hints_97 : decode cX7_hints 97 = .ok (.iaload, 1) := by decide +kernel
theorem dX7_hints_98 : decode cX7_hints 98 = .ok (.aload_n 0, 1) := by decide +kernel
theorem dX7_hints_99 : decode cX7_hints 99 = .ok (.getfield 7, 3) := by decide +kernel
theorem dX7_hints_102 : decode cX7_hints 102 = .ok (.iload_n 3, 1) := by decide +kernel
theorem dX7_hints_103 : decode cX7_hints 103 = .ok (.iaload, 1) := by decide +kernel
theorem dX7_hints_104 : decode cX7_hints 104 = .ok (.isub, 1) := by decide +kernel
theorem dX7_hints_105 : decode cX7_hints 105 = .ok (.iconst 1, 1) := by decide +kernel
theorem dX7_hints_106 : decode cX7_hints 106 = .ok (.iadd, 1) := by decide +kernel
theorem dX7_hints_107 : decode cX7_hints 107 = .ok (.ireturn, 1) := by decide +kernel
theorem dX7_isValue_0 : decode cX7_isValue 0 = .ok (.iload_n 0, 1) := by decide +kernel
theorem dX7_isValue_1 : decode cX7_isValue 1 = .ok (.tableswitch 61 0 3 #[31, 41, 31, 51], 31) := by decide +kernel
theorem dX7_isValue_32 : decode cX7_isValue 32 = .ok (.iload_n 1, 1) := by decide +kernel
theorem dX7_isValue_33 : decode cX7_isValue 33 = .ok (.i2l, 1) := by decide +kernel
theorem dX7_isValue_34 : decode cX7_isValue 34 = .ok (.lconst 0, 1) := by decide +kernel
theorem dX7_isValue_35 : decode cX7_isValue 35 = .ok (.ldc2_w 110, 3) := by decide +kernel
theorem dX7_isValue_38 : decode cX7_isValue 38 = .ok (.invokestatic 81, 3) := by decide +kernel
theorem dX7_isValue_41 : decode cX7_isValue 41 = .ok (.ireturn, 1) := by decide +kernel
theorem dX7_isValue_42 : decode cX7_isValue 42 = .ok (.iload_n 1, 1) := by decide +kernel
theorem dX7_isValue_43 : decode cX7_isValue 43 = .ok (.i2l, 1) := by decide +kernel
theorem dX7_isValue_44 : decode cX7_isValue 44 = .ok (.lconst 0, 1) := by decide +kernel
theorem dX7_isValue_45 : decode cX7_isValue 45 = .ok (.ldc2_w 112, 3) := by decide +kernel
theorem dX7_isValue_48 : decode cX7_isValue 48 = .ok (.invokestatic 81, 3) := by decide +kernel
theorem dX7_isValue_51 : decode cX7_isValue 51 = .ok (.ireturn, 1) := by decide +kernel
theorem dX7_isValue_52 : decode cX7_isValue 52 = .ok (.iload_n 1, 1) := by decide +kernel
theorem dX7_isValue_53 : decode cX7_isValue 53 = .ok (.i2l, 1) := by decide +kernel
theorem dX7_isValue_54 : decode cX7_isValue 54 = .ok (.lconst 1, 1) := by decide +kernel
theorem dX7_isValue_55 : decode cX7_isValue 55 = .ok (.ldc2_w 112, 3) := by decide +kernel
theorem dX7_isValue_58 : decode cX7_isValue 58 = .ok (.invokestatic 81, 3) := by decide +kernel
theorem dX7_isValue_61 : decode cX7_isValue 61 = .ok (.ireturn, 1) := by decide +kernel
theorem dX7_isValue_62 : decode cX7_isValue 62 = .ok (.iconst 0, 1) := by decide +kernel
theorem dX7_isValue_63 : decode cX7_isValue 63 = .ok (.ireturn, 1) := by decide +kernel
theorem dX7_set_0 : decode cX7_set 0 = .ok (.iload_n 1, 1) := by decide +kernel
theorem dX7_set_1 : decode cX7_set 1 = .ok (.iload_n 2, 1) := by decide +kernel
theorem dX7_set_2 : decode cX7_set 2 = .ok (.invokestatic 114, 3) := by decide +kernel
theorem dX7_set_5 : decode cX7_set 5 = .ok (.ifCond .ne 6, 3) := by decide +kernel
theorem dX7_set_8 : decode cX7_set 8 = .ok (.bipush (-2), 2) := by decide +kernel
theorem dX7_set_10 : decode cX7_set 10 = .ok (.ireturn, 1) := by decide +kernel
theorem dX7_set_11 : decode cX7_set 11 = .ok (.aload_n 0, 1) := by decide +kernel
theorem dX7_set_12 : decode cX7_set 12 = .ok (.invokevirtual 117, 3) := by decide +kernel
theorem dX7_set_15 : decode cX7_set 15 = .ok (.aload_n 0, 1) := by decide +kernel
theorem dX7_set_16 : decode cX7_set 16 = .ok (.getfield 7, 3) := by decide +kernel
theorem dX7_set_19 : decode cX7_set 19 = .ok (.iload_n 1, 1) := by decide +kernel
theorem dX7_set_20 : decode cX7_set 20 = .ok (.iaload, 1) := by decide +kernel
theorem dX7_set_21 : decode cX7_set 21 = .ok (.istore_n 3, 1) := by decide +kernel
theorem dX7_set_22 : decode cX7_set 22 = .ok (.aload_n 0, 1) := by decide +kernel
theorem dX7_set_23 : decode cX7_set 23 = .ok (.getfield 7, 3) := by decide +kernel
theorem dX7_set_26 : decode cX7_set 26 = .ok (.iload_n 1, 1) := by decide +kernel
theorem dX7_set_27 : decode cX7_set 27 = .ok (.iload_n 2, 1) := by decide +kernel
theorem dX7_set_28 : decode cX7_set 28 = .ok (.iastore, 1) := by decide +kernel
theorem dX7_set_29 : decode cX7_set 29 = .ok (.iload_n 3, 1) := by decide +kernel
theorem dX7_set_30 : decode cX7_set 30 = .ok (.ireturn, 1) := by decide +kernel
theorem dX7_bridge_0 : decode cX7_bridge 0 = .ok (.aload_n 0, 1) := by decide +kernel
theorem dX7_bridge_1 : decode cX7_bridge 1 = .ok (.iload_n 1, 1) := by decide +kernel
theorem dX7_bridge_2 : decode cX7_bridge 2 = .ok (.iload_n 2, 1) := by decide +kernel
theorem dX7_bridge_3 : decode cX7_bridge 3 = .ok (.iload_n 3, 1) := by decide +kernel
theorem dX7_bridge_4 : decode cX7_bridge 4 = .ok (.invokevirtual 120, 3) := by decide +kernel
theorem dX7_bridge_7 : decode cX7_bridge 7 = .ok (.istore 4, 2) := by decide +kernel
theorem dX7_bridge_9 : decode cX7_bridge 9 = .ok (.iload 4, 2) := by decide +kernel
theorem dX7_bridge_11 : decode cX7_bridge 11 = .ok (.ifCond .eq 6, 3) := by decide +kernel
theorem dX7_bridge_14 : decode cX7_bridge 14 = .ok (.iload 4, 2) := by decide +kernel
theorem dX7_bridge_16 : decode cX7_bridge 16 = .ok (.ireturn, 1) := by decide +kernel
theorem dX7_bridge_17 : decode cX7_bridge 17 = .ok (.aload_n 0, 1) := by decide +kernel
theorem dX7_bridge_18 : decode cX7_bridge 18 = .ok (.invokevirtual 117, 3) := by decide +kernel
theorem dX7_bridge_21 : decode cX7_bridge 21 = .ok (.aload_n 0, 1) := by decide +kernel
theorem dX7_bridge_22 : decode cX7_bridge 22 = .ok (.iload_n 1, 1) := by decide +kernel
theorem dX7_bridge_23 : decode cX7_bridge 23 = .ok (.iload_n 2, 1) := by decide +kernel
theorem dX7_bridge_24 : decode cX7_bridge 24 = .ok (.iload_n 3, 1) := by decide +kernel
theorem dX7_bridge_25 : decode cX7_bridge 25 = .ok (.invokevirtual 123, 3) := by decide +kernel
theorem dX7_bridge_28 : decode cX7_bridge 28 = .ok (.ireturn, 1) := by decide +kernel
theorem dX7_cart_0 : decode cX7_cart 0 = .ok (.aload_n 0, 1) := by decide +kernel
theorem dX7_cart_1 : decode cX7_cart 1 = .ok (.iload_n 1, 1) := by decide +kernel
theorem dX7_cart_2 : decode cX7_cart 2 = .ok (.iload_n 2, 1) := by decide +kernel
theorem dX7_cart_3 : decode cX7_cart 3 = .ok (.invokevirtual 126, 3) := by decide +kernel
theorem dX7_cart_6 : decode cX7_cart 6 = .ok (.istore_n 3, 1) := by decide +kernel
theorem dX7_cart_7 : decode cX7_cart 7 = .ok (.iload_n 3, 1) := by decide +kernel
theorem dX7_cart_8 : decode cX7_cart 8 = .ok (.ifCond .eq 5, 3) := by decide +kernel
theorem dX7_cart_11 : decode cX7_cart 11 = .ok (.iload_n 3, 1) := by decide +kernel
theorem dX7_cart_12 : decode cX7_cart 12 = .ok (.ireturn, 1) := by decide +kernel
theorem dX7_cart_13 : decode cX7_cart 13 = .ok (.aload_n 0, 1) := by decide +kernel
theorem dX7_cart_14 : decode cX7_cart 14 = .ok (.invokevirtual 117, 3) := by decide +kernel
theorem dX7_cart_17 : decode cX7_cart 17 = .ok (.aload_n 0, 1) := by decide +kernel
theorem dX7_cart_18 : decode cX7_cart 18 = .ok (.iload_n 1, 1) := by decide +kernel
theorem dX7_cart_19 : decode cX7_cart 19 = .ok (.iload_n 2, 1) := by decide +kernel
theorem dX7_cart_20 : decode cX7_cart 20 = .ok (.invokevirtual 129, 3) := by decide +kernel
theorem dX7_cart_23 : decode cX7_cart 23 = .ok (.ireturn, 1) := by decide +kernel
theorem dX7_guess_0 : decode cX7_guess 0 = .ok (.aload_n 0, 1) := by decide +kernel
theorem dX7_guess_1 : decode cX7_guess 1 = .ok (.iload_n 1, 1) := by decide +kernel
theorem dX7_guess_2 : decode cX7_guess 2 = .ok (.iload_n 2, 1) := by decide +kernel
theorem dX7_guess_3 : decode cX7_guess 3 = .ok (.iload_n 3, 1) := by decide +kernel
theorem dX7_guess_4 : decode cX7_guess 4 = .ok (.invokevirtual 132, 3) := by decide +kernel
theorem dX7_guess_7 : decode cX7_guess 7 = .ok (.istore 4, 2) := by decide +kernel
theorem dX7_guess_9 : decode cX7_guess 9 = .ok (.iload 4, 2) := by decide +kernel
theorem dX7_guess_11 : decode cX7_guess 11 = .ok (.ifCond .eq 6, 3) := by decide +kernel
theorem dX7_guess_14 : decode cX7_guess 14 = .ok (.iload 4, 2) := by decide +kernel
theorem dX7_guess_16 : decode cX7_guess 16 = .ok (.ireturn, 1) := by decide +kernel
theorem dX7_guess_17 : decode cX7_guess 17 = .ok (.aload_n 0, 1) := by decide +kernel
theorem dX7_guess_18 : decode cX7_guess 18 = .ok (.invokevirtual 117, 3) := by decide +kernel
theorem dX7_guess_21 : decode cX7_guess 21 = .ok (.aload_n 0, 1) := by decide +kernel
theorem dX7_guess_22 : decode cX7_guess 22 = .ok (.iload_n 1, 1) := by decide +kernel
theorem dX7_guess_23 : decode cX7_guess 23 = .ok (.iload_n 2, 1) := by decide +kernel
theorem dX7_guess_24 : decode cX7_guess 24 = .ok (.iload_n 3, 1) := by decide +kernel
theorem dX7_guess_25 : decode cX7_guess 25 = .ok (.invokevirtual 135, 3) := by decide +kernel
theorem dX7_guess_28 : decode cX7_guess 28 = .ok (.ireturn, 1) := by decide +kernel
theorem dX7_leave_0 : decode cX7_leave 0 = .ok (.aload_n 0, 1) := by decide +kernel
theorem dX7_leave_1 : decode cX7_leave 1 = .ok (.iload_n 1, 1) := by decide +kernel
theorem dX7_leave_2 : decode cX7_leave 2 = .ok (.invokevirtual 138, 3) := by decide +kernel
theorem dX7_leave_5 : decode cX7_leave 5 = .ok (.istore_n 2, 1) := by decide +kernel
theorem dX7_leave_6 : decode cX7_leave 6 = .ok (.iload_n 2, 1) := by decide +kernel
theorem dX7_leave_7 : decode cX7_leave 7 = .ok (.ifCond .eq 5, 3) := by decide +kernel
theorem dX7_leave_10 : decode cX7_leave 10 = .ok (.iload_n 2, 1) := by decide +kernel
theorem dX7_leave_11 : decode cX7_leave 11 = .ok (.ireturn, 1) := by decide +kernel
theorem dX7_leave_12 : decode cX7_leave 12 = .ok (.aload_n 0, 1) := by decide +kernel
theorem dX7_leave_13 : decode cX7_leave 13 = .ok (.invokevirtual 117, 3) := by decide +kernel
theorem dX7_leave_16 : decode cX7_leave 16 = .ok (.aload_n 0, 1) := by decide +kernel
theorem dX7_leave_17 : decode cX7_leave 17 = .ok (.iload_n 1, 1) := by decide +kernel
theorem dX7_leave_18 : decode cX7_leave 18 = .ok (.invokevirtual 141, 3) := by decide +kernel
theorem dX7_leave_21 : decode cX7_leave 21 = .ok (.ireturn, 1) := by decide +kernel
theorem dX7_hint_0 : decode cX7_hint 0 = .ok (.aload_n 0, 1) := by decide +kernel
theorem dX7_hint_1 : decode cX7_hint 1 = .ok (.iload_n 1, 1) := by decide +kernel
theorem dX7_hint_2 : decode cX7_hint 2 = .ok (.iload_n 2, 1) := by decide +kernel
theorem dX7_hint_3 : decode cX7_hint 3 = .ok (.invokevirtual 144, 3) := by decide +kernel
theorem dX7_hint_6 : decode cX7_hint 6 = .ok (.istore_n 3, 1) := by decide +kernel
theorem dX7_hint_7 : decode cX7_hint 7 = .ok (.iload_n 3, 1) := by decide +kernel
theorem dX7_hint_8 : decode cX7_hint 8 = .ok (.ifCond .eq 5, 3) := by decide +kernel
theorem dX7_hint_11 : decode cX7_hint 11 = .ok (.iload_n 3, 1) := by decide +kernel
theorem dX7_hint_12 : decode cX7_hint 12 = .ok (.ireturn, 1) := by decide +kernel
theorem dX7_hint_13 : decode cX7_hint 13 = .ok (.aload_n 0, 1) := by decide +kernel
theorem dX7_hint_14 : decode cX7_hint 14 = .ok (.invokevirtual 117, 3) := by decide +kernel
theorem dX7_hint_17 : decode cX7_hint 17 = .ok (.aload_n 0, 1) := by decide +kernel
theorem dX7_hint_18 : decode cX7_hint 18 = .ok (.iload_n 1, 1) := by decide +kernel
theorem dX7_hint_19 : decode cX7_hint 19 = .ok (.iload_n 2, 1) := by decide +kernel
theorem dX7_hint_20 : decode cX7_hint 20 = .ok (.invokevirtual 147, 3) := by decide +kernel
theorem dX7_hint_23 : decode cX7_hint 23 = .ok (.ireturn, 1) := by decide +kernel
theorem dX7_pass_0 : decode cX7_pass 0 = .ok (.aload_n 0, 1) := by decide +kernel
theorem dX7_pass_1 : decode cX7_pass 1 = .ok (.iload_n 1, 1) := by decide +kernel
theorem dX7_pass_2 : decode cX7_pass 2 = .ok (.invokevirtual 150, 3) := by decide +kernel
theorem dX7_pass_5 : decode cX7_pass 5 = .ok (.istore_n 2, 1) := by decide +kernel
theorem dX7_pass_6 : decode cX7_pass 6 = .ok (.iload_n 2, 1) := by decide +kernel
theorem dX7_pass_7 : decode cX7_pass 7 = .ok (.ifCond .eq 5, 3) := by decide +kernel
theorem dX7_pass_10 : decode cX7_pass 10 = .ok (.iload_n 2, 1) := by decide +kernel
theorem dX7_pass_11 : decode cX7_pass 11 = .ok (.ireturn, 1) := by decide +kernel
theorem dX7_pass_12 : decode cX7_pass 12 = .ok (.aload_n 0, 1) := by decide +kernel
theorem dX7_pass_13 : decode cX7_pass 13 = .ok (.invokevirtual 117, 3) := by decide +kernel
theorem dX7_pass_16 : decode cX7_pass 16 = .ok (.aload_n 0, 1) := by decide +kernel
theorem dX7_pass_17 : decode cX7_pass 17 = .ok (.iconst 0, 1) := by decide +kernel
theorem dX7_pass_18 : decode cX7_pass 18 = .ok (.iload_n 1, 1) := by decide +kernel
theorem dX7_pass_19 : decode cX7_pass 19 = .ok (.invokevirtual 153, 3) := by decide +kernel
theorem dX7_pass_22 : decode cX7_pass 22 = .ok (.ireturn, 1) := by decide +kernel
theorem dX7_types_0 : decode cX7_types 0 = .ok (.aload_n 0, 1) := by decide +kernel
theorem dX7_types_1 : decode cX7_types 1 = .ok (.getfield 156, 3) := by decide +kernel
theorem dX7_types_4 : decode cX7_types 4 = .ok (.bipush 80, 2) := by decide +kernel
theorem dX7_types_6 : decode cX7_types 6 = .ok (.if_icmp .ge 23, 3) := by decide +kernel
theorem dX7_types_9 : decode cX7_types 9 = .ok (.aload_n 0, 1) := by decide +kernel
theorem dX7_types_10 : decode cX7_types 10 = .ok (.getfield 17, 3) := by decide +kernel
theorem dX7_types_13 : decode cX7_types 13 = .ok (.aload_n 0, 1) := by decide +kernel
theorem dX7_types_14 : decode cX7_types 14 = .ok (.getfield 156, 3) := by decide +kernel
theorem dX7_types_17 : decode cX7_types 17 = .ok (.iload_n 1, 1) := by decide +kernel
theorem dX7_types_18 : decode cX7_types 18 = .ok (.iastore, 1) := by decide +kernel
theorem dX7_types_19 : decode cX7_types 19 = .ok (.aload_n 0, 1) := by decide +kernel
theorem dX7_types_20 : decode cX7_types 20 = .ok (.dup, 1) := by decide +kernel
theorem dX7_types_21 : decode cX7_types 21 = .ok (.getfield 156, 3) := by decide +kernel
theorem dX7_types_24 : decode cX7_types 24 = .ok (.iconst 1, 1) := by decide +kernel
theorem dX7_types_25 : decode cX7_types 25 = .ok (.iadd, 1) := by decide +kernel
theorem dX7_types_26 : decode cX7_types 26 = .ok (.putfield 156, 3) := by decide +kernel
theorem dX7_types_29 : decode cX7_types 29 = .ok (.return_, 1) := by decide +kernel
theorem dX7_typesNumber_0 : decode cX7_typesNumber 0 = .ok (.ldc 159, 2) := by decide +kernel
theorem dX7_typesNumber_2 : decode cX7_typesNumber 2 = .ok (.istore_n 2, 1) := by decide +kernel
theorem dX7_typesNumber_3 : decode cX7_typesNumber 3 = .ok (.iload_n 2, 1) := by decide +kernel
theorem dX7_typesNumber_4 : decode cX7_typesNumber 4 = .ok (.iconst 1, 1) := by decide +kernel
theorem dX7_typesNumber_5 : decode cX7_typesNumber 5 = .ok (.if_icmp .le 29, 3) := by decide +kernel
theorem dX7_typesNumber_8 : decode cX7_typesNumber 8 = .ok (.iload_n 1, 1) := by decide +kernel
theorem dX7_typesNumber_9 : decode cX7_typesNumber 9 = .ok (.iload_n 2, 1) := by decide +kernel
theorem dX7_typesNumber_10 : decode cX7_typesNumber 10 = .ok (.if_icmp .lt 16, 3) := by decide +kernel
theorem dX7_typesNumber_13 : decode cX7_typesNumber 13 = .ok (.aload_n 0, 1) := by decide +kernel
theorem dX7_typesNumber_14 : decode cX7_typesNumber 14 = .ok (.bipush 48, 2) := by decide +kernel
