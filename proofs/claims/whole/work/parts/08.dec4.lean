theorem dX7_typesNumber_16 : decode cX7_typesNumber 16 = .ok (.iload_n 1, 1) := by decide +kernel
theorem dX7_typesNumber_17 : decode cX7_typesNumber 17 = .ok (.iload_n 2, 1) := by decide +kernel
theorem dX7_typesNumber_18 : decode cX7_typesNumber 18 = .ok (.idiv, 1) := by decide +kernel
theorem dX7_typesNumber_19 : decode cX7_typesNumber 19 = .ok (.bipush 10, 2) := by decide +kernel
theorem dX7_typesNumber_21 : decode cX7_typesNumber 21 = .ok (.irem, 1) := by decide +kernel
theorem dX7_typesNumber_22 : decode cX7_typesNumber 22 = .ok (.iadd, 1) := by decide +kernel
theorem dX7_typesNumber_23 : decode cX7_typesNumber 23 = .ok (.invokevirtual 160, 3) := by decide +kernel
theorem dX7_typesNumber_26 : decode cX7_typesNumber 26 = .ok (.iload_n 2, 1) := by decide +kernel
theorem dX7_typesNumber_27 : decode cX7_typesNumber 27 = .ok (.bipush 10, 2) := by decide +kernel
theorem dX7_typesNumber_29 : decode cX7_typesNumber 29 = .ok (.idiv, 1) := by decide +kernel
theorem dX7_typesNumber_30 : decode cX7_typesNumber 30 = .ok (.istore_n 2, 1) := by decide +kernel
theorem dX7_typesNumber_31 : decode cX7_typesNumber 31 = .ok (.goto (-28), 3) := by decide +kernel
theorem dX7_typesNumber_34 : decode cX7_typesNumber 34 = .ok (.aload_n 0, 1) := by decide +kernel
theorem dX7_typesNumber_35 : decode cX7_typesNumber 35 = .ok (.bipush 48, 2) := by decide +kernel
theorem dX7_typesNumber_37 : decode cX7_typesNumber 37 = .ok (.iload_n 1, 1) := by decide +kernel
theorem dX7_typesNumber_38 : decode cX7_typesNumber 38 = .ok (.bipush 10, 2) := by decide +kernel
theorem dX7_typesNumber_40 : decode cX7_typesNumber 40 = .ok (.irem, 1) := by decide +kernel
theorem dX7_typesNumber_41 : decode cX7_typesNumber 41 = .ok (.iadd, 1) := by decide +kernel
theorem dX7_typesNumber_42 : decode cX7_typesNumber 42 = .ok (.invokevirtual 160, 3) := by decide +kernel
theorem dX7_typesNumber_45 : decode cX7_typesNumber 45 = .ok (.return_, 1) := by decide +kernel
theorem dX7_write_0 : decode cX7_write 0 = .ok (.aload_n 0, 1) := by decide +kernel
theorem dX7_write_1 : decode cX7_write 1 = .ok (.iload_n 1, 1) := by decide +kernel
theorem dX7_write_2 : decode cX7_write 2 = .ok (.invokevirtual 95, 3) := by decide +kernel
theorem dX7_write_5 : decode cX7_write 5 = .ok (.ifCond .ne 5, 3) := by decide +kernel
theorem dX7_write_8 : decode cX7_write 8 = .ok (.iconst (-1), 1) := by decide +kernel
theorem dX7_write_9 : decode cX7_write 9 = .ok (.ireturn, 1) := by decide +kernel
theorem dX7_write_10 : decode cX7_write 10 = .ok (.aload_n 0, 1) := by decide +kernel
theorem dX7_write_11 : decode cX7_write 11 = .ok (.iconst 0, 1) := by decide +kernel
theorem dX7_write_12 : decode cX7_write 12 = .ok (.putfield 156, 3) := by decide +kernel
theorem dX7_write_15 : decode cX7_write 15 = .ok (.aload_n 0, 1) := by decide +kernel
theorem dX7_write_16 : decode cX7_write 16 = .ok (.bipush 99, 2) := by decide +kernel
theorem dX7_write_18 : decode cX7_write 18 = .ok (.invokevirtual 160, 3) := by decide +kernel
theorem dX7_write_21 : decode cX7_write 21 = .ok (.aload_n 0, 1) := by decide +kernel
theorem dX7_write_22 : decode cX7_write 22 = .ok (.iload_n 1, 1) := by decide +kernel
theorem dX7_write_23 : decode cX7_write 23 = .ok (.invokevirtual 164, 3) := by decide +kernel
theorem dX7_write_26 : decode cX7_write 26 = .ok (.aload_n 0, 1) := by decide +kernel
theorem dX7_write_27 : decode cX7_write 27 = .ok (.bipush 64, 2) := by decide +kernel
theorem dX7_write_29 : decode cX7_write 29 = .ok (.invokevirtual 160, 3) := by decide +kernel
theorem dX7_write_32 : decode cX7_write 32 = .ok (.aload_n 0, 1) := by decide +kernel
theorem dX7_write_33 : decode cX7_write 33 = .ok (.aload_n 0, 1) := by decide +kernel
theorem dX7_write_34 : decode cX7_write 34 = .ok (.getfield 7, 3) := by decide +kernel
theorem dX7_write_37 : decode cX7_write 37 = .ok (.iconst 0, 1) := by decide +kernel
theorem dX7_write_38 : decode cX7_write 38 = .ok (.iload_n 1, 1) := by decide +kernel
theorem dX7_write_39 : decode cX7_write 39 = .ok (.invokestatic 40, 3) := by decide +kernel
theorem dX7_write_42 : decode cX7_write 42 = .ok (.iaload, 1) := by decide +kernel
theorem dX7_write_43 : decode cX7_write 43 = .ok (.invokevirtual 164, 3) := by decide +kernel
theorem dX7_write_46 : decode cX7_write 46 = .ok (.aload_n 0, 1) := by decide +kernel
theorem dX7_write_47 : decode cX7_write 47 = .ok (.bipush 42, 2) := by decide +kernel
theorem dX7_write_49 : decode cX7_write 49 = .ok (.invokevirtual 160, 3) := by decide +kernel
theorem dX7_write_52 : decode cX7_write 52 = .ok (.aload_n 0, 1) := by decide +kernel
theorem dX7_write_53 : decode cX7_write 53 = .ok (.aload_n 0, 1) := by decide +kernel
theorem dX7_write_54 : decode cX7_write 54 = .ok (.getfield 7, 3) := by decide +kernel
theorem dX7_write_57 : decode cX7_write 57 = .ok (.iconst 0, 1) := by decide +kernel
theorem dX7_write_58 : decode cX7_write 58 = .ok (.iload_n 1, 1) := by decide +kernel
theorem dX7_write_59 : decode cX7_write 59 = .ok (.invokestatic 40, 3) := by decide +kernel
theorem dX7_write_62 : decode cX7_write 62 = .ok (.iconst 1, 1) := by decide +kernel
theorem dX7_write_63 : decode cX7_write 63 = .ok (.iadd, 1) := by decide +kernel
theorem dX7_write_64 : decode cX7_write 64 = .ok (.iaload, 1) := by decide +kernel
theorem dX7_write_65 : decode cX7_write 65 = .ok (.invokevirtual 164, 3) := by decide +kernel
theorem dX7_write_68 : decode cX7_write 68 = .ok (.iconst 0, 1) := by decide +kernel
theorem dX7_write_69 : decode cX7_write 69 = .ok (.istore_n 2, 1) := by decide +kernel
theorem dX7_write_70 : decode cX7_write 70 = .ok (.iload_n 2, 1) := by decide +kernel
theorem dX7_write_71 : decode cX7_write 71 = .ok (.aload_n 0, 1) := by decide +kernel
theorem dX7_write_72 : decode cX7_write 72 = .ok (.getfield 7, 3) := by decide +kernel
theorem dX7_write_75 : decode cX7_write 75 = .ok (.iconst 5, 1) := by decide +kernel
theorem dX7_write_76 : decode cX7_write 76 = .ok (.iaload, 1) := by decide +kernel
theorem dX7_write_77 : decode cX7_write 77 = .ok (.if_icmp .ge 95, 3) := by decide +kernel
theorem dX7_write_80 : decode cX7_write 80 = .ok (.iconst 0, 1) := by decide +kernel
theorem dX7_write_81 : decode cX7_write 81 = .ok (.iload_n 1, 1) := by decide +kernel
theorem dX7_write_82 : decode cX7_write 82 = .ok (.iload_n 2, 1) := by decide +kernel
theorem dX7_write_83 : decode cX7_write 83 = .ok (.invokestatic 36, 3) := by decide +kernel
theorem dX7_write_86 : decode cX7_write 86 = .ok (.istore_n 3, 1) := by decide +kernel
theorem dX7_write_87 : decode cX7_write 87 = .ok (.aload_n 0, 1) := by decide +kernel
theorem dX7_write_88 : decode cX7_write 88 = .ok (.getfield 7, 3) := by decide +kernel
theorem dX7_write_91 : decode cX7_write 91 = .ok (.iload_n 3, 1) := by decide +kernel
theorem dX7_write_92 : decode cX7_write 92 = .ok (.iaload, 1) := by decide +kernel
theorem dX7_write_93 : decode cX7_write 93 = .ok (.ifCond .gt 28, 3) := by decide +kernel
theorem dX7_write_96 : decode cX7_write 96 = .ok (.aload_n 0, 1) := by decide +kernel
theorem dX7_write_97 : decode cX7_write 97 = .ok (.getfield 7, 3) := by decide +kernel
theorem dX7_write_100 : decode cX7_write 100 = .ok (.iload_n 3, 1) := by decide +kernel
theorem dX7_write_101 : decode cX7_write 101 = .ok (.iconst 1, 1) := by decide +kernel
theorem dX7_write_102 : decode cX7_write 102 = .ok (.iadd, 1) := by decide +kernel
theorem dX7_write_103 : decode cX7_write 103 = .ok (.iaload, 1) := by decide +kernel
theorem dX7_write_104 : decode cX7_write 104 = .ok (.aload_n 0, 1) := by decide +kernel
theorem dX7_write_105 : decode cX7_write 105 = .ok (.getfield 7, 3) := by decide +kernel
theorem dX7_write_108 : decode cX7_write 108 = .ok (.iconst 0, 1) := by decide +kernel
theorem dX7_write_109 : decode cX7_write 109 = .ok (.iload_n 2, 1) := by decide +kernel
theorem dX7_write_110 : decode cX7_write 110 = .ok (.invokestatic 31, 3) := by decide +kernel
theorem dX7_write_113 : decode cX7_write 113 = .ok (.iconst 2, 1) := by decide +kernel
theorem dX7_write_114 : decode cX7_write 114 = .ok (.iadd, 1) := by decide +kernel
theorem dX7_write_115 : decode cX7_write 115 = .ok (.iaload, 1) := by decide +kernel
theorem dX7_write_116 : decode cX7_write 116 = .ok (.iconst 1, 1) := by decide +kernel
theorem dX7_write_117 : decode cX7_write 117 = .ok (.isub, 1) := by decide +kernel
theorem dX7_write_118 : decode cX7_write 118 = .ok (.if_icmp .ge 48, 3) := by decide +kernel
theorem dX7_write_121 : decode cX7_write 121 = .ok (.aload_n 0, 1) := by decide +kernel
theorem dX7_write_122 : decode cX7_write 122 = .ok (.bipush 59, 2) := by decide +kernel
theorem dX7_write_124 : decode cX7_write 124 = .ok (.invokevirtual 160, 3) := by decide +kernel
theorem dX7_write_127 : decode cX7_write 127 = .ok (.aload_n 0, 1) := by decide +kernel
theorem dX7_write_128 : decode cX7_write 128 = .ok (.iload_n 2, 1) := by decide +kernel
theorem dX7_write_129 : decode cX7_write 129 = .ok (.invokevirtual 164, 3) := by decide +kernel
theorem dX7_write_132 : decode cX7_write 132 = .ok (.aload_n 0, 1) := by decide +kernel
theorem dX7_write_133 : decode cX7_write 133 = .ok (.bipush 58, 2) := by decide +kernel
theorem dX7_write_135 : decode cX7_write 135 = .ok (.invokevirtual 160, 3) := by decide +kernel
theorem dX7_write_138 : decode cX7_write 138 = .ok (.aload_n 0, 1) := by decide +kernel
theorem dX7_write_139 : decode cX7_write 139 = .ok (.aload_n 0, 1) := by decide +kernel
theorem dX7_write_140 : decode cX7_write 140 = .ok (.getfield 7, 3) := by decide +kernel
theorem dX7_write_143 : decode cX7_write 143 = .ok (.iload_n 3, 1) := by decide +kernel
theorem dX7_write_144 : decode cX7_write 144 = .ok (.iaload, 1) := by decide +kernel
theorem dX7_write_145 : decode cX7_write 145 = .ok (.invokevirtual 164, 3) := by decide +kernel
theorem dX7_write_148 : decode cX7_write 148 = .ok (.aload_n 0, 1) := by decide +kernel
theorem dX7_write_149 : decode cX7_write 149 = .ok (.bipush 45, 2) := by decide +kernel
theorem dX7_write_151 : decode cX7_write 151 = .ok (.invokevirtual 160, 3) := by decide +kernel
theorem dX7_write_154 : decode cX7_write 154 = .ok (.aload_n 0, 1) := by decide +kernel
theorem dX7_write_155 : decode cX7_write 155 = .ok (.aload_n 0, 1) := by decide +kernel
theorem dX7_write_156 : decode cX7_write 156 = .ok (.getfield 7, 3) := by decide +kernel
theorem dX7_write_159 : decode cX7_write 159 = .ok (.iload_n 3, 1) := by decide +kernel
theorem dX7_write_160 : decode cX7_write 160 = .ok (.iconst 1, 1) := by decide +kernel
theorem dX7_write_161 : decode cX7_write 161 = .ok (.iadd, 1) := by decide +kernel
theorem dX7_write_162 : decode cX7_write 162 = .ok (.iaload, 1) := by decide +kernel
theorem dX7_write_163 : decode cX7_write 163 = .ok (.invokevirtual 164, 3) := by decide +kernel
theorem dX7_write_166 : decode cX7_write 166 = .ok (.iinc 2 1, 3) := by decide +kernel
theorem dX7_write_169 : decode cX7_write 169 = .ok (.goto (-99), 3) := by decide +kernel
theorem dX7_write_172 : decode cX7_write 172 = .ok (.aload_n 0, 1) := by decide +kernel
theorem dX7_write_173 : decode cX7_write 173 = .ok (.getfield 156, 3) := by decide +kernel
theorem dX7_write_176 : decode cX7_write 176 = .ok (.ireturn, 1) := by decide +kernel
theorem dX7_ofBridge_0 : decode cX7_ofBridge 0 = .ok (.aload_n 0, 1) := by decide +kernel
theorem dX7_ofBridge_1 : decode cX7_ofBridge 1 = .ok (.iload_n 1, 1) := by decide +kernel
theorem dX7_ofBridge_2 : decode cX7_ofBridge 2 = .ok (.invokevirtual 98, 3) := by decide +kernel
theorem dX7_ofBridge_5 : decode cX7_ofBridge 5 = .ok (.ifCond .ne 5, 3) := by decide +kernel
theorem dX7_ofBridge_8 : decode cX7_ofBridge 8 = .ok (.iconst (-1), 1) := by decide +kernel
theorem dX7_ofBridge_9 : decode cX7_ofBridge 9 = .ok (.ireturn, 1) := by decide +kernel
theorem dX7_ofBridge_10 : decode cX7_ofBridge 10 = .ok (.iload_n 2, 1) := by decide +kernel
theorem dX7_ofBridge_11 : decode cX7_ofBridge 11 = .ok (.i2l, 1) := by decide +kernel
theorem dX7_ofBridge_12 : decode cX7_ofBridge 12 = .ok (.lconst 0, 1) := by decide +kernel
theorem dX7_ofBridge_13 : decode cX7_ofBridge 13 = .ok (.ldc2_w 79, 3) := by decide +kernel
theorem dX7_ofBridge_16 : decode cX7_ofBridge 16 = .ok (.invokestatic 81, 3) := by decide +kernel
theorem dX7_ofBridge_19 : decode cX7_ofBridge 19 = .ok (.ifCond .ne 6, 3) := by decide +kernel
theorem dX7_ofBridge_22 : decode cX7_ofBridge 22 = .ok (.bipush (-2), 2) := by decide +kernel
theorem dX7_ofBridge_24 : decode cX7_ofBridge 24 = .ok (.ireturn, 1) := by decide +kernel
theorem dX7_ofBridge_25 : decode cX7_ofBridge 25 = .ok (.iload_n 2, 1) := by decide +kernel
theorem dX7_ofBridge_26 : decode cX7_ofBridge 26 = .ok (.iconst 4, 1) := by decide +kernel
theorem dX7_ofBridge_27 : decode cX7_ofBridge 27 = .ok (.if_icmp .ne 12, 3) := by decide +kernel
theorem dX7_ofBridge_30 : decode cX7_ofBridge 30 = .ok (.aload_n 0, 1) := by decide +kernel
theorem dX7_ofBridge_31 : decode cX7_ofBridge 31 = .ok (.iconst 0, 1) := by decide +kernel
theorem dX7_ofBridge_32 : decode cX7_ofBridge 32 = .ok (.iload_n 1, 1) := by decide +kernel
theorem dX7_ofBridge_33 : decode cX7_ofBridge 33 = .ok (.invokevirtual 47, 3) := by decide +kernel
theorem dX7_ofBridge_36 : decode cX7_ofBridge 36 = .ok (.goto 26, 3) := by decide +kernel
theorem dX7_ofBridge_39 : decode cX7_ofBridge 39 = .ok (.aload_n 0, 1) := by decide +kernel
theorem dX7_ofBridge_40 : decode cX7_ofBridge 40 = .ok (.getfield 7, 3) := by decide +kernel
theorem dX7_ofBridge_43 : decode cX7_ofBridge 43 = .ok (.iconst 0, 1) := by decide +kernel
theorem dX7_ofBridge_44 : decode cX7_ofBridge 44 = .ok (.iload_n 1, 1) := by decide +kernel
theorem dX7_ofBridge_45 : decode cX7_ofBridge 45 = .ok (.invokestatic 31, 3) := by decide +kernel
theorem dX7_ofBridge_48 : decode cX7_ofBridge 48 = .ok (.iload_n 2, 1) := by decide +kernel
theorem dX7_ofBridge_49 : decode cX7_ofBridge 49 = .ok (.iconst 4, 1) := by decide +kernel
theorem dX7_ofBridge_50 : decode cX7_ofBridge 50 = .ok (.if_icmp .ge 7, 3) := by decide +kernel
theorem dX7_ofBridge_53 : decode cX7_ofBridge 53 = .ok (.iload_n 2, 1) := by decide +kernel
theorem dX7_ofBridge_54 : decode cX7_ofBridge 54 = .ok (.goto 6, 3) := by decide +kernel
theorem dX7_ofBridge_57 : decode cX7_ofBridge 57 = .ok (.iload_n 2, 1) := by decide +kernel
theorem dX7_ofBridge_58 : decode cX7_ofBridge 58 = .ok (.iconst 1, 1) := by decide +kernel
theorem dX7_ofBridge_59 : decode cX7_ofBridge 59 = .ok (.isub, 1) := by decide +kernel
theorem dX7_ofBridge_60 : decode cX7_ofBridge 60 = .ok (.iadd, 1) := by decide +kernel
theorem dX7_ofBridge_61 : decode cX7_ofBridge 61 = .ok (.iaload, 1) := by decide +kernel
theorem dX7_ofBridge_62 : decode cX7_ofBridge 62 = .ok (.ireturn, 1) := by decide +kernel
theorem dX7_ofCart_0 : decode cX7_ofCart 0 = .ok (.aload_n 0, 1) := by decide +kernel
theorem dX7_ofCart_1 : decode cX7_ofCart 1 = .ok (.iload_n 1, 1) := by decide +kernel
theorem dX7_ofCart_2 : decode cX7_ofCart 2 = .ok (.invokevirtual 95, 3) := by decide +kernel
theorem dX7_ofCart_5 : decode cX7_ofCart 5 = .ok (.ifCond .ne 7, 3) := by decide +kernel
theorem dX7_ofCart_8 : decode cX7_ofCart 8 = .ok (.iconst (-1), 1) := by decide +kernel
theorem dX7_ofCart_9 : decode cX7_ofCart 9 = .ok (.goto 32, 3) := by decide +kernel
theorem dX7_ofCart_12 : decode cX7_ofCart 12 = .ok (.iload_n 2, 1) := by decide +kernel
theorem dX7_ofCart_13 : decode cX7_ofCart 13 = .ok (.i2l, 1) := by decide +kernel
theorem dX7_ofCart_14 : decode cX7_ofCart 14 = .ok (.lconst 0, 1) := by decide +kernel
theorem dX7_ofCart_15 : decode cX7_ofCart 15 = .ok (.ldc2_w 79, 3) := by decide +kernel
theorem dX7_ofCart_18 : decode cX7_ofCart 18 = .ok (.invokestatic 81, 3) := by decide +kernel
theorem dX7_ofCart_21 : decode cX7_ofCart 21 = .ok (.ifCond .ne 8, 3) := by decide +kernel
theorem dX7_ofCart_24 : decode cX7_ofCart 24 = .ok (.bipush (-2), 2) := by decide +kernel
theorem dX7_ofCart_26 : decode cX7_ofCart 26 = .ok (.goto 15, 3) := by decide +kernel
theorem dX7_ofCart_29 : decode cX7_ofCart 29 = .ok (.aload_n 0, 1) := by decide +kernel
theorem dX7_ofCart_30 : decode cX7_ofCart 30 = .ok (.getfield 7, 3) := by decide +kernel
theorem dX7_ofCart_33 : decode cX7_ofCart 33 = .ok (.iconst 0, 1) := by decide +kernel
theorem dX7_ofCart_34 : decode cX7_ofCart 34 = .ok (.iload_n 1, 1) := by decide +kernel
theorem dX7_ofCart_35 : decode cX7_ofCart 35 = .ok (.invokestatic 40, 3) := by decide +kernel
theorem dX7_ofCart_38 : decode cX7_ofCart 38 = .ok (.iload_n 2, 1) := by decide +kernel
theorem dX7_ofCart_39 : decode cX7_ofCart 39 = .ok (.iadd, 1) := by decide +kernel
theorem dX7_ofCart_40 : decode cX7_ofCart 40 = .ok (.iaload, 1) := by decide +kernel
theorem dX7_ofCart_41 : decode cX7_ofCart 41 = .ok (.ireturn, 1) := by decide +kernel
theorem dX7_knows_0 : decode cX7_knows 0 = .ok (.aload_n 0, 1) := by decide +kernel
theorem dX7_knows_1 : decode cX7_knows 1 = .ok (.iload_n 1, 1) := by decide +kernel
theorem dX7_knows_2 : decode cX7_knows 2 = .ok (.invokevirtual 95, 3) := by decide +kernel
theorem dX7_knows_5 : decode cX7_knows 5 = .ok (.ifCond .eq 11, 3) := by decide +kernel
theorem dX7_knows_8 : decode cX7_knows 8 = .ok (.aload_n 0, 1) := by decide +kernel
theorem dX7_knows_9 : decode cX7_knows 9 = .ok (.iload_n 2, 1) := by decide +kernel
theorem dX7_knows_10 : decode cX7_knows 10 = .ok (.invokevirtual 98, 3) := by decide +kernel
theorem dX7_knows_13 : decode cX7_knows 13 = .ok (.ifCond .ne 5, 3) := by decide +kernel
theorem dX7_knows_16 : decode cX7_knows 16 = .ok (.iconst (-1), 1) := by decide +kernel
theorem dX7_knows_17 : decode cX7_knows 17 = .ok (.ireturn, 1) := by decide +kernel
theorem dX7_knows_18 : decode cX7_knows 18 = .ok (.iload_n 3, 1) := by decide +kernel
theorem dX7_knows_19 : decode cX7_knows 19 = .ok (.ifCond .eq 8, 3) := by decide +kernel
theorem dX7_knows_22 : decode cX7_knows 22 = .ok (.iload_n 3, 1) := by decide +kernel
theorem dX7_knows_23 : decode cX7_knows 23 = .ok (.iconst 1, 1) := by decide +kernel
theorem dX7_knows_24 : decode cX7_knows 24 = .ok (.if_icmp .ne 19, 3) := by decide +kernel
theorem dX7_knows_27 : decode cX7_knows 27 = .ok (.aload_n 0, 1) := by decide +kernel
theorem dX7_knows_28 : decode cX7_knows 28 = .ok (.getfield 7, 3) := by decide +kernel
theorem dX7_knows_31 : decode cX7_knows 31 = .ok (.iconst 0, 1) := by decide +kernel
theorem dX7_knows_32 : decode cX7_knows 32 = .ok (.iload_n 1, 1) := by decide +kernel
theorem dX7_knows_33 : decode cX7_knows 33 = .ok (.iload_n 2, 1) := by decide +kernel
theorem dX7_knows_34 : decode cX7_knows 34 = .ok (.invokestatic 36, 3) := by decide +kernel
theorem dX7_knows_37 : decode cX7_knows 37 = .ok (.iload_n 3, 1) := by decide +kernel
theorem dX7_knows_38 : decode cX7_knows 38 = .ok (.iadd, 1) := by decide +kernel
theorem dX7_knows_39 : decode cX7_knows 39 = .ok (.iaload, 1) := by decide +kernel
theorem dX7_knows_40 : decode cX7_knows 40 = .ok (.goto 5, 3) := by decide +kernel
theorem dX7_knows_43 : decode cX7_knows 43 = .ok (.bipush (-2), 2) := by decide +kernel
theorem dX7_knows_45 : decode cX7_knows 45 = .ok (.ireturn, 1) := by decide +kernel
theorem dX7_waits_0 : decode cX7_waits 0 = .ok (.aload_n 0, 1) := by decide +kernel
theorem dX7_waits_1 : decode cX7_waits 1 = .ok (.iload_n 1, 1) := by decide +kernel
theorem dX7_waits_2 : decode cX7_waits 2 = .ok (.invokevirtual 98, 3) := by decide +kernel
theorem dX7_waits_5 : decode cX7_waits 5 = .ok (.ifCond .eq 21, 3) := by decide +kernel
theorem dX7_waits_8 : decode cX7_waits 8 = .ok (.iload_n 2, 1) := by decide +kernel
theorem dX7_waits_9 : decode cX7_waits 9 = .ok (.i2l, 1) := by decide +kernel
theorem dX7_waits_10 : decode cX7_waits 10 = .ok (.lconst 0, 1) := by decide +kernel
theorem dX7_waits_11 : decode cX7_waits 11 = .ok (.aload_n 0, 1) := by decide +kernel
theorem dX7_waits_12 : decode cX7_waits 12 = .ok (.iconst 0, 1) := by decide +kernel
theorem dX7_waits_13 : decode cX7_waits 13 = .ok (.iload_n 1, 1) := by decide +kernel
theorem dX7_waits_14 : decode cX7_waits 14 = .ok (.invokevirtual 47, 3) := by decide +kernel
theorem dX7_waits_17 : decode cX7_waits 17 = .ok (.iconst 1, 1) := by decide +kernel
theorem dX7_waits_18 : decode cX7_waits 18 = .ok (.isub, 1) := by decide +kernel
theorem dX7_waits_19 : decode cX7_waits 19 = .ok (.i2l, 1) := by decide +kernel
theorem dX7_waits_20 : decode cX7_waits 20 = .ok (.invokestatic 81, 3) := by decide +kernel
theorem dX7_waits_23 : decode cX7_waits 23 = .ok (.ifCond .ne 7, 3) := by decide +kernel
theorem dX7_waits_26 : decode cX7_waits 26 = .ok (.iconst (-1), 1) := by decide +kernel
theorem dX7_waits_27 : decode cX7_waits 27 = .ok (.goto 10, 3) := by decide +kernel
theorem dX7_waits_30 : decode cX7_waits 30 = .ok (.aload_n 0, 1) := by decide +kernel
theorem dX7_waits_31 : decode cX7_waits 31 = .ok (.iconst 0, 1) := by decide +kernel
theorem dX7_waits_32 : decode cX7_waits 32 = .ok (.iload_n 1, 1) := by decide +kernel
theorem dX7_waits_33 : decode cX7_waits 33 = .ok (.iload_n 2, 1) := by decide +kernel
theorem dX7_waits_34 : decode cX7_waits 34 = .ok (.invokevirtual 50, 3) := by decide +kernel
theorem dX7_waits_37 : decode cX7_waits 37 = .ok (.ireturn, 1) := by decide +kernel
theorem dX7_sign_0 : decode cX7_sign 0 = .ok (.iload_n 1, 1) := by decide +kernel
theorem dX7_sign_1 : decode cX7_sign 1 = .ok (.i2l, 1) := by decide +kernel
theorem dX7_sign_2 : decode cX7_sign 2 = .ok (.lconst 0, 1) := by decide +kernel
theorem dX7_sign_3 : decode cX7_sign 3 = .ok (.aload_n 0, 1) := by decide +kernel
theorem dX7_sign_4 : decode cX7_sign 4 = .ok (.getfield 156, 3) := by decide +kernel
theorem dX7_sign_7 : decode cX7_sign 7 = .ok (.iconst 1, 1) := by decide +kernel
theorem dX7_sign_8 : decode cX7_sign 8 = .ok (.isub, 1) := by decide +kernel
theorem dX7_sign_9 : decode cX7_sign 9 = .ok (.i2l, 1) := by decide +kernel
theorem dX7_sign_10 : decode cX7_sign 10 = .ok (.invokestatic 81, 3) := by decide +kernel
theorem dX7_sign_13 : decode cX7_sign 13 = .ok (.ifCond .eq 12, 3) := by decide +kernel
theorem dX7_sign_16 : decode cX7_sign 16 = .ok (.aload_n 0, 1) := by decide +kernel
theorem dX7_sign_17 : decode cX7_sign 17 = .ok (.getfield 17, 3) := by decide +kernel
theorem dX7_sign_20 : decode cX7_sign 20 = .ok (.iload_n 1, 1) := by decide +kernel
theorem dX7_sign_21 : decode cX7_sign 21 = .ok (.iaload, 1) := by decide +kernel
theorem dX7_sign_22 : decode cX7_sign 22 = .ok (.goto 4, 3) := by decide +kernel
theorem dX7_sign_25 : decode cX7_sign 25 = .ok (.iconst (-1), 1) := by decide +kernel
theorem dX7_sign_26 : decode cX7_sign 26 = .ok (.ireturn, 1) := by decide +kernel
theorem dX7_inTills_0 : decode cX7_inTills 0 = .ok (.iconst 0, 1) := by decide +kernel
theorem dX7_inTills_1 : decode cX7_inTills 1 = .ok (.istore_n 1, 1) := by decide +kernel
theorem dX7_inTills_2 : decode cX7_inTills 2 = .ok (.iconst 0, 1) := by decide +kernel
theorem dX7_inTills_3 : decode cX7_inTills 3 = .ok (.istore_n 2, 1) := by decide +kernel
theorem dX7_inTills_4 : decode cX7_inTills 4 = .ok (.iload_n 2, 1) := by decide +kernel
theorem dX7_inTills_5 : decode cX7_inTills 5 = .ok (.aload_n 0, 1) := by decide +kernel
theorem dX7_inTills_6 : decode cX7_inTills 6 = .ok (.getfield 7, 3) := by decide +kernel
theorem dX7_inTills_9 : decode cX7_inTills 9 = .ok (.iconst 5, 1) := by decide +kernel
theorem dX7_inTills_10 : decode cX7_inTills 10 = .ok (.iaload, 1) := by decide +kernel
theorem dX7_inTills_11 : decode cX7_inTills 11 = .ok (.if_icmp .ge 24, 3) := by decide +kernel
theorem dX7_inTills_14 : decode cX7_inTills 14 = .ok (.iload_n 1, 1) := by decide +kernel
theorem dX7_inTills_15 : decode cX7_inTills 15 = .ok (.aload_n 0, 1) := by decide +kernel
theorem dX7_inTills_16 : decode cX7_inTills 16 = .ok (.getfield 7, 3) := by decide +kernel
theorem dX7_inTills_19 : decode cX7_inTills 19 = .ok (.iconst 0, 1) := by decide +kernel
theorem dX7_inTills_20 : decode cX7_inTills 20 = .ok (.iload_n 2, 1) := by decide +kernel
theorem dX7_inTills_21 : decode cX7_inTills 21 = .ok (.invokestatic 31, 3) := by decide +kernel
theorem dX7_inTills_24 : decode cX7_inTills 24 = .ok (.iconst 4, 1) := by decide +kernel
theorem dX7_inTills_25 : decode cX7_inTills 25 = .ok (.iadd, 1) := by decide +kernel
theorem dX7_inTills_26 : decode cX7_inTills 26 = .ok (.iaload, 1) := by decide +kernel
theorem dX7_inTills_27 : decode cX7_inTills 27 = .ok (.iadd, 1) := by decide +kernel
theorem dX7_inTills_28 : decode cX7_inTills 28 = .ok (.istore_n 1, 1) := by decide +kernel
theorem dX7_inTills_29 : decode cX7_inTills 29 = .ok (.iinc 2 1, 3) := by decide +kernel
theorem dX7_inTills_32 : decode cX7_inTills 32 = .ok (.goto (-28), 3) := by decide +kernel
theorem dX7_inTills_35 : decode cX7_inTills 35 = .ok (.iload_n 1, 1) := by decide +kernel
theorem dX7_inTills_36 : decode cX7_inTills 36 = .ok (.ireturn, 1) := by decide +kernel
theorem dX7_count_0 : decode cX7_count 0 = .ok (.iload_n 1, 1) := by decide +kernel
theorem dX7_count_1 : decode cX7_count 1 = .ok (.tableswitch 158 0 14 #[75, 82, 89, 97, 103, 110, 117, 122, 130, 138, 138, 138, 138, 148, 153], 75) := by decide +kernel
theorem dX7_count_76 : decode cX7_count 76 = .ok (.aload_n 0, 1) := by decide +kernel
theorem dX7_count_77 : decode cX7_count 77 = .ok (.getfield 7, 3) := by decide +kernel
theorem dX7_count_80 : decode cX7_count 80 = .ok (.iconst 4, 1) := by decide +kernel
theorem dX7_count_81 : decode cX7_count 81 = .ok (.iaload, 1) := by decide +kernel
theorem dX7_count_82 : decode cX7_count 82 = .ok (.ireturn, 1) := by decide +kernel
theorem dX7_count_83 : decode cX7_count 83 = .ok (.aload_n 0, 1) := by decide +kernel
theorem dX7_count_84 : decode cX7_count 84 = .ok (.getfield 7, 3) := by decide +kernel
theorem dX7_count_87 : decode cX7_count 87 = .ok (.iconst 5, 1) := by decide +kernel
theorem dX7_count_88 : decode cX7_count 88 = .ok (.iaload, 1) := by decide +kernel
theorem dX7_count_89 : decode cX7_count 89 = .ok (.ireturn, 1) := by decide +kernel
theorem dX7_count_90 : decode cX7_count 90 = .ok (.aload_n 0, 1) := by decide +kernel
theorem dX7_count_91 : decode cX7_count 91 = .ok (.getfield 7, 3) := by decide +kernel
theorem dX7_count_94 : decode cX7_count 94 = .ok (.bipush 6, 2) := by decide +kernel
theorem dX7_count_96 : decode cX7_count 96 = .ok (.iaload, 1) := by decide +kernel
theorem dX7_count_97 : decode cX7_count 97 = .ok (.ireturn, 1) := by decide +kernel
theorem dX7_count_98 : decode cX7_count 98 = .ok (.aload_n 0, 1) := by decide +kernel
theorem dX7_count_99 : decode cX7_count 99 = .ok (.iconst 0, 1) := by decide +kernel
theorem dX7_count_100 : decode cX7_count 100 = .ok (.invokevirtual 167, 3) := by decide +kernel
theorem dX7_count_103 : decode cX7_count 103 = .ok (.ireturn, 1) := by decide +kernel
theorem dX7_count_104 : decode cX7_count 104 = .ok (.aload_n 0, 1) := by decide +kernel
theorem dX7_count_105 : decode cX7_count 105 = .ok (.iconst 0, 1) := by decide +kernel
theorem dX7_count_106 : decode cX7_count 106 = .ok (.iconst 5, 1) := by decide +kernel
theorem dX7_count_107 : decode cX7_count 107 = .ok (.invokevirtual 170, 3) := by decide +kernel
theorem dX7_count_110 : decode cX7_count 110 = .ok (.ireturn, 1) := by decide +kernel
theorem dX7_count_111 : decode cX7_count 111 = .ok (.aload_n 0, 1) := by decide +kernel
theorem dX7_count_112 : decode cX7_count 112 = .ok (.iconst 0, 1) := by decide +kernel
theorem dX7_count_113 : decode cX7_count 113 = .ok (.iconst 1, 1) := by decide +kernel
theorem dX7_count_114 : decode cX7_count 114 = .ok (.invokevirtual 170, 3) := by decide +kernel
theorem dX7_count_117 : decode cX7_count 117 = .ok (.ireturn, 1) := by decide +kernel
theorem dX7_count_118 : decode cX7_count 118 = .ok (.aload_n 0, 1) := by decide +kernel
theorem dX7_count_119 : decode cX7_count 119 = .ok (.invokevirtual 173, 3) := by decide +kernel
theorem dX7_count_122 : decode cX7_count 122 = .ok (.ireturn, 1) := by decide +kernel
theorem dX7_count_123 : decode cX7_count 123 = .ok (.aload_n 0, 1) := by decide +kernel
theorem dX7_count_124 : decode cX7_count 124 = .ok (.getfield 7, 3) := by decide +kernel
theorem dX7_count_127 : decode cX7_count 127 = .ok (.bipush 8, 2) := by decide +kernel
theorem dX7_count_129 : decode cX7_count 129 = .ok (.iaload, 1) := by decide +kernel
theorem dX7_count_130 : decode cX7_count 130 = .ok (.ireturn, 1) := by decide +kernel
theorem dX7_count_131 : decode cX7_count 131 = .ok (.aload_n 0, 1) := by decide +kernel
theorem dX7_count_132 : decode cX7_count 132 = .ok (.getfield 7, 3) := by decide +kernel
theorem dX7_count_135 : decode cX7_count 135 = .ok (.bipush 9, 2) := by decide +kernel
theorem dX7_count_137 : decode cX7_count 137 = .ok (.iaload, 1) := by decide +kernel
theorem dX7_count_138 : decode cX7_count 138 = .ok (.ireturn, 1) := by decide +kernel
theorem dX7_count_139 : decode cX7_count 139 = .ok (.aload_n 0, 1) := by decide +kernel
theorem dX7_count_140 : decode cX7_count 140 = .ok (.getfield 7, 3) := by decide +kernel
theorem dX7_count_143 : decode cX7_count 143 = .ok (.iload_n 1, 1) := by decide +kernel
theorem dX7_count_144 : decode cX7_count 144 = .ok (.bipush 9, 2) := by decide +kernel
theorem dX7_count_146 : decode cX7_count 146 = .ok (.isub, 1) := by decide +kernel
theorem dX7_count_147 : decode cX7_count 147 = .ok (.iaload, 1) := by decide +kernel
theorem dX7_count_148 : decode cX7_count 148 = .ok (.ireturn, 1) := by decide +kernel
theorem dX7_count_149 : decode cX7_count 149 = .ok (.aload_n 0, 1) := by decide +kernel
theorem dX7_count_150 : decode cX7_count 150 = .ok (.getfield 156, 3) := by decide +kernel
theorem dX7_count_153 : decode cX7_count 153 = .ok (.ireturn, 1) := by decide +kernel
theorem dX7_count_154 : decode cX7_count 154 = .ok (.aload_n 0, 1) := by decide +kernel
theorem dX7_count_155 : decode cX7_count 155 = .ok (.getfield 23, 3) := by decide +kernel
theorem dX7_count_158 : decode cX7_count 158 = .ok (.ireturn, 1) := by decide +kernel
theorem dX7_count_159 : decode cX7_count 159 = .ok (.bipush (-2), 2) := by decide +kernel
theorem dX7_count_161 : decode cX7_count 161 = .ok (.ireturn, 1) := by decide +kernel
theorem dX7_next_0 : decode cX7_next 0 = .ok (.aload_n 0, 1) := by decide +kernel
theorem dX7_next_1 : decode cX7_next 1 = .ok (.iload_n 1, 1) := by decide +kernel
theorem dX7_next_2 : decode cX7_next 2 = .ok (.invokevirtual 98, 3) := by decide +kernel
theorem dX7_next_5 : decode cX7_next 5 = .ok (.ifCond .eq 12, 3) := by decide +kernel
theorem dX7_next_8 : decode cX7_next 8 = .ok (.aload_n 0, 1) := by decide +kernel
theorem dX7_next_9 : decode cX7_next 9 = .ok (.iconst 0, 1) := by decide +kernel
theorem dX7_next_10 : decode cX7_next 10 = .ok (.iload_n 1, 1) := by decide +kernel
theorem dX7_next_11 : decode cX7_next 11 = .ok (.invokevirtual 60, 3) := by decide +kernel
theorem dX7_next_14 : decode cX7_next 14 = .ok (.goto 4, 3) := by decide +kernel
theorem dX7_next_17 : decode cX7_next 17 = .ok (.iconst (-1), 1) := by decide +kernel
theorem dX7_next_18 : decode cX7_next 18 = .ok (.ireturn, 1) := by decide +kernel
theorem dX7_why_0 : decode cX7_why 0 = .ok (.aload_n 0, 1) := by decide +kernel
theorem dX7_why_1 : decode cX7_why 1 = .ok (.iload_n 1, 1) := by decide +kernel
theorem dX7_why_2 : decode cX7_why 2 = .ok (.invokevirtual 95, 3) := by decide +kernel
theorem dX7_why_5 : decode cX7_why 5 = .ok (.ifCond .ne 5, 3) := by decide +kernel
theorem dX7_why_8 : decode cX7_why 8 = .ok (.iconst (-1), 1) := by decide +kernel
theorem dX7_why_9 : decode cX7_why 9 = .ok (.ireturn, 1) := by decide +kernel
theorem dX7_why_10 : decode cX7_why 10 = .ok (.aload_n 0, 1) := by decide +kernel
theorem dX7_why_11 : decode cX7_why 11 = .ok (.getfield 7, 3) := by decide +kernel
theorem dX7_why_14 : decode cX7_why 14 = .ok (.iconst 0, 1) := by decide +kernel
theorem dX7_why_15 : decode cX7_why 15 = .ok (.iload_n 1, 1) := by decide +kernel
theorem dX7_why_16 : decode cX7_why 16 = .ok (.invokestatic 40, 3) := by decide +kernel
theorem dX7_why_19 : decode cX7_why 19 = .ok (.iconst 2, 1) := by decide +kernel
theorem dX7_why_20 : decode cX7_why 20 = .ok (.iadd, 1) := by decide +kernel
theorem dX7_why_21 : decode cX7_why 21 = .ok (.iaload, 1) := by decide +kernel
theorem dX7_why_22 : decode cX7_why 22 = .ok (.istore_n 2, 1) := by decide +kernel
theorem dX7_why_23 : decode cX7_why 23 = .ok (.iload_n 2, 1) := by decide +kernel
theorem dX7_why_24 : decode cX7_why 24 = .ok (.bipush (-6), 2) := by decide +kernel
theorem dX7_why_26 : decode cX7_why 26 = .ok (.if_icmp .ne 5, 3) := by decide +kernel
theorem dX7_why_29 : decode cX7_why 29 = .ok (.iconst 1, 1) := by decide +kernel
theorem dX7_why_30 : decode cX7_why 30 = .ok (.ireturn, 1) := by decide +kernel
theorem dX7_why_31 : decode cX7_why 31 = .ok (.aload_n 0, 1) := by decide +kernel
theorem dX7_why_32 : decode cX7_why 32 = .ok (.iconst 0, 1) := by decide +kernel
theorem dX7_why_33 : decode cX7_why 33 = .ok (.iload_n 2, 1) := by decide +kernel
theorem dX7_why_34 : decode cX7_why 34 = .ok (.invokevirtual 60, 3) := by decide +kernel
theorem dX7_why_37 : decode cX7_why 37 = .ok (.iload_n 1, 1) := by decide +kernel
theorem dX7_why_38 : decode cX7_why 38 = .ok (.if_icmp .ne 5, 3) := by decide +kernel
theorem dX7_why_41 : decode cX7_why 41 = .ok (.iconst 0, 1) := by decide +kernel
theorem dX7_why_42 : decode cX7_why 42 = .ok (.ireturn, 1) := by decide +kernel
theorem dX7_why_43 : decode cX7_why 43 = .ok (.aload_n 0, 1) := by decide +kernel
theorem dX7_why_44 : decode cX7_why 44 = .ok (.iconst 0, 1) := by decide +kernel
theorem dX7_why_45 : decode cX7_why 45 = .ok (.iload_n 2, 1) := by decide +kernel
theorem dX7_why_46 : decode cX7_why 46 = .ok (.invokevirtual 47, 3) := by decide +kernel
theorem dX7_why_49 : decode cX7_why 49 = .ok (.iconst 1, 1) := by decide +kernel
theorem dX7_why_50 : decode cX7_why 50 = .ok (.if_icmp .ne 5, 3) := by decide +kernel
theorem dX7_why_53 : decode cX7_why 53 = .ok (.iconst 2, 1) := by decide +kernel
theorem dX7_why_54 : decode cX7_why 54 = .ok (.ireturn, 1) := by decide +kernel
theorem dX7_why_55 : decode cX7_why 55 = .ok (.aload_n 0, 1) := by decide +kernel
theorem dX7_why_56 : decode cX7_why 56 = .ok (.iconst 0, 1) := by decide +kernel
theorem dX7_why_57 : decode cX7_why 57 = .ok (.iload_n 2, 1) := by decide +kernel
theorem dX7_why_58 : decode cX7_why 58 = .ok (.iconst 0, 1) := by decide +kernel
theorem dX7_why_59 : decode cX7_why 59 = .ok (.invokevirtual 50, 3) := by decide +kernel
theorem dX7_why_62 : decode cX7_why 62 = .ok (.iload_n 1, 1) := by decide +kernel
theorem dX7_why_63 : decode cX7_why 63 = .ok (.if_icmp .eq 16, 3) := by decide +kernel
theorem dX7_why_66 : decode cX7_why 66 = .ok (.aload_n 0, 1) := by decide +kernel
theorem dX7_why_67 : decode cX7_why 67 = .ok (.iconst 0, 1) := by decide +kernel
theorem dX7_why_68 : decode cX7_why 68 = .ok (.iload_n 2, 1) := by decide +kernel
theorem dX7_why_69 : decode cX7_why 69 = .ok (.iconst 1, 1) := by decide +kernel
theorem dX7_why_70 : decode cX7_why 70 = .ok (.invokevirtual 50, 3) := by decide +kernel
theorem dX7_why_73 : decode cX7_why 73 = .ok (.iload_n 1, 1) := by decide +kernel
theorem dX7_why_74 : decode cX7_why 74 = .ok (.if_icmp .eq 5, 3) := by decide +kernel
theorem dX7_why_77 : decode cX7_why 77 = .ok (.iconst 3, 1) := by decide +kernel
theorem dX7_why_78 : decode cX7_why 78 = .ok (.ireturn, 1) := by decide +kernel
theorem dX7_why_79 : decode cX7_why 79 = .ok (.aload_n 0, 1) := by decide +kernel
theorem dX7_why_80 : decode cX7_why 80 = .ok (.iconst 0, 1) := by decide +kernel
theorem dX7_why_81 : decode cX7_why 81 = .ok (.iload_n 2, 1) := by decide +kernel
theorem dX7_why_82 : decode cX7_why 82 = .ok (.invokevirtual 56, 3) := by decide +kernel
theorem dX7_why_85 : decode cX7_why 85 = .ok (.ifCond .ne 7, 3) := by decide +kernel
theorem dX7_why_88 : decode cX7_why 88 = .ok (.iconst 4, 1) := by decide +kernel
theorem dX7_why_89 : decode cX7_why 89 = .ok (.goto 20, 3) := by decide +kernel
theorem dX7_why_92 : decode cX7_why 92 = .ok (.aload_n 0, 1) := by decide +kernel
theorem dX7_why_93 : decode cX7_why 93 = .ok (.iconst 0, 1) := by decide +kernel
theorem dX7_why_94 : decode cX7_why 94 = .ok (.iload_n 2, 1) := by decide +kernel
theorem dX7_why_95 : decode cX7_why 95 = .ok (.invokevirtual 60, 3) := by decide +kernel
theorem dX7_why_98 : decode cX7_why 98 = .ok (.bipush (-6), 2) := by decide +kernel
theorem dX7_why_100 : decode cX7_why 100 = .ok (.if_icmp .ne 8, 3) := by decide +kernel
theorem dX7_why_103 : decode cX7_why 103 = .ok (.bipush 6, 2) := by decide +kernel
theorem dX7_why_105 : decode cX7_why 105 = .ok (.goto 4, 3) := by decide +kernel
theorem dX7_why_108 : decode cX7_why 108 = .ok (.iconst 5, 1) := by decide +kernel
theorem dX7_why_109 : decode cX7_why 109 = .ok (.ireturn, 1) := by decide +kernel
theorem dX7_overIn_0 : decode cX7_overIn 0 = .ok (.aload_n 0, 1) := by decide +kernel
theorem dX7_overIn_1 : decode cX7_overIn 1 = .ok (.iload_n 1, 1) := by decide +kernel
theorem dX7_overIn_2 : decode cX7_overIn 2 = .ok (.invokevirtual 95, 3) := by decide +kernel
theorem dX7_overIn_5 : decode cX7_overIn 5 = .ok (.ifCond .ne 5, 3) := by decide +kernel
theorem dX7_overIn_8 : decode cX7_overIn 8 = .ok (.iconst (-1), 1) := by decide +kernel
theorem dX7_overIn_9 : decode cX7_overIn 9 = .ok (.ireturn, 1) := by decide +kernel
theorem dX7_overIn_10 : decode cX7_overIn 10 = .ok (.aload_n 0, 1) := by decide +kernel
theorem dX7_overIn_11 : decode cX7_overIn 11 = .ok (.getfield 7, 3) := by decide +kernel
theorem dX7_overIn_14 : decode cX7_overIn 14 = .ok (.iconst 0, 1) := by decide +kernel
theorem dX7_overIn_15 : decode cX7_overIn 15 = .ok (.iload_n 1, 1) := by decide +kernel
theorem dX7_overIn_16 : decode cX7_overIn 16 = .ok (.invokestatic 40, 3) := by decide +kernel
theorem dX7_overIn_19 : decode cX7_overIn 19 = .ok (.iconst 2, 1) := by decide +kernel
theorem dX7_overIn_20 : decode cX7_overIn 20 = .ok (.iadd, 1) := by decide +kernel
theorem dX7_overIn_21 : decode cX7_overIn 21 = .ok (.iaload, 1) := by decide +kernel
theorem dX7_overIn_22 : decode cX7_overIn 22 = .ok (.bipush (-6), 2) := by decide +kernel
theorem dX7_overIn_24 : decode cX7_overIn 24 = .ok (.if_icmp .ne 6, 3) := by decide +kernel
theorem dX7_overIn_27 : decode cX7_overIn 27 = .ok (.bipush (-5), 2) := by decide +kernel
theorem dX7_overIn_29 : decode cX7_overIn 29 = .ok (.ireturn, 1) := by decide +kernel
theorem dX7_overIn_30 : decode cX7_overIn 30 = .ok (.aload_n 0, 1) := by decide +kernel
theorem dX7_overIn_31 : decode cX7_overIn 31 = .ok (.iconst 0, 1) := by decide +kernel
theorem dX7_overIn_32 : decode cX7_overIn 32 = .ok (.bipush 9, 2) := by decide +kernel
theorem dX7_overIn_34 : decode cX7_overIn 34 = .ok (.invokevirtual 27, 3) := by decide +kernel
theorem dX7_overIn_37 : decode cX7_overIn 37 = .ok (.sipush 3240, 3) := by decide +kernel
theorem dX7_overIn_40 : decode cX7_overIn 40 = .ok (.istore_n 2, 1) := by decide +kernel
theorem dX7_overIn_41 : decode cX7_overIn 41 = .ok (.iconst 0, 1) := by decide +kernel
theorem dX7_overIn_42 : decode cX7_overIn 42 = .ok (.istore_n 3, 1) := by decide +kernel
theorem dX7_overIn_43 : decode cX7_overIn 43 = .ok (.iload_n 3, 1) := by decide +kernel
theorem dX7_overIn_44 : decode cX7_overIn 44 = .ok (.bipush 100, 2) := by decide +kernel
theorem dX7_overIn_46 : decode cX7_overIn 46 = .ok (.if_icmp .ge 33, 3) := by decide +kernel
theorem dX7_overIn_49 : decode cX7_overIn 49 = .ok (.aload_n 0, 1) := by decide +kernel
theorem dX7_overIn_50 : decode cX7_overIn 50 = .ok (.getfield 7, 3) := by decide +kernel
theorem dX7_overIn_53 : decode cX7_overIn 53 = .ok (.iload_n 2, 1) := by decide +kernel
theorem dX7_overIn_54 : decode cX7_overIn 54 = .ok (.iload_n 1, 1) := by decide +kernel
theorem dX7_overIn_55 : decode cX7_overIn 55 = .ok (.invokestatic 40, 3) := by decide +kernel
theorem dX7_overIn_58 : decode cX7_overIn 58 = .ok (.iconst 2, 1) := by decide +kernel
theorem dX7_overIn_59 : decode cX7_overIn 59 = .ok (.iadd, 1) := by decide +kernel
theorem dX7_overIn_60 : decode cX7_overIn 60 = .ok (.iaload, 1) := by decide +kernel
theorem dX7_overIn_61 : decode cX7_overIn 61 = .ok (.bipush (-6), 2) := by decide +kernel
theorem dX7_overIn_63 : decode cX7_overIn 63 = .ok (.if_icmp .eq 16, 3) := by decide +kernel
theorem dX7_overIn_66 : decode cX7_overIn 66 = .ok (.aload_n 0, 1) := by decide +kernel
theorem dX7_overIn_67 : decode cX7_overIn 67 = .ok (.iload_n 2, 1) := by decide +kernel
theorem dX7_overIn_68 : decode cX7_overIn 68 = .ok (.invokevirtual 76, 3) := by decide +kernel
theorem dX7_overIn_71 : decode cX7_overIn 71 = .ok (.istore 4, 2) := by decide +kernel
theorem dX7_overIn_73 : decode cX7_overIn 73 = .ok (.iinc 3 1, 3) := by decide +kernel
theorem dX7_overIn_76 : decode cX7_overIn 76 = .ok (.goto (-33), 3) := by decide +kernel
theorem dX7_overIn_79 : decode cX7_overIn 79 = .ok (.aload_n 0, 1) := by decide +kernel
theorem dX7_overIn_80 : decode cX7_overIn 80 = .ok (.getfield 7, 3) := by decide +kernel
theorem dX7_overIn_83 : decode cX7_overIn 83 = .ok (.iload_n 2, 1) := by decide +kernel
theorem dX7_overIn_84 : decode cX7_overIn 84 = .ok (.iload_n 1, 1) := by decide +kernel
theorem dX7_overIn_85 : decode cX7_overIn 85 = .ok (.invokestatic 40, 3) := by decide +kernel
theorem dX7_overIn_88 : decode cX7_overIn 88 = .ok (.iconst 2, 1) := by decide +kernel
theorem dX7_overIn_89 : decode cX7_overIn 89 = .ok (.iadd, 1) := by decide +kernel
theorem dX7_overIn_90 : decode cX7_overIn 90 = .ok (.iaload, 1) := by decide +kernel
theorem dX7_overIn_91 : decode cX7_overIn 91 = .ok (.bipush (-6), 2) := by decide +kernel
theorem dX7_overIn_93 : decode cX7_overIn 93 = .ok (.if_icmp .ne 7, 3) := by decide +kernel
theorem dX7_overIn_96 : decode cX7_overIn 96 = .ok (.iload_n 3, 1) := by decide +kernel
theorem dX7_overIn_97 : decode cX7_overIn 97 = .ok (.goto 5, 3) := by decide +kernel
theorem dX7_overIn_100 : decode cX7_overIn 100 = .ok (.bipush (-6), 2) := by decide +kernel
theorem dX7_overIn_102 : decode cX7_overIn 102 = .ok (.ireturn, 1) := by decide +kernel
theorem dX7_nearer_0 : decode cX7_nearer 0 = .ok (.iconst 0, 1) := by decide +kernel
theorem dX7_nearer_1 : decode cX7_nearer 1 = .ok (.istore 4, 2) := by decide +kernel
theorem dX7_nearer_3 : decode cX7_nearer 3 = .ok (.iload_n 0, 1) := by decide +kernel
theorem dX7_nearer_4 : decode cX7_nearer 4 = .ok (.istore 5, 2) := by decide +kernel
theorem dX7_nearer_6 : decode cX7_nearer 6 = .ok (.iload 5, 2) := by decide +kernel
theorem dX7_nearer_8 : decode cX7_nearer 8 = .ok (.iload_n 1, 1) := by decide +kernel
theorem dX7_nearer_9 : decode cX7_nearer 9 = .ok (.if_icmp .gt 36, 3) := by decide +kernel
theorem dX7_nearer_12 : decode cX7_nearer 12 = .ok (.iload 4, 2) := by decide +kernel
theorem dX7_nearer_14 : decode cX7_nearer 14 = .ok (.iload 5, 2) := by decide +kernel
theorem dX7_nearer_16 : decode cX7_nearer 16 = .ok (.iload_n 2, 1) := by decide +kernel
theorem dX7_nearer_17 : decode cX7_nearer 17 = .ok (.isub, 1) := by decide +kernel
theorem dX7_nearer_18 : decode cX7_nearer 18 = .ok (.invokestatic 43, 3) := by decide +kernel
theorem dX7_nearer_21 : decode cX7_nearer 21 = .ok (.iload 5, 2) := by decide +kernel
theorem dX7_nearer_23 : decode cX7_nearer 23 = .ok (.iload_n 3, 1) := by decide +kernel
theorem dX7_nearer_24 : decode cX7_nearer 24 = .ok (.isub, 1) := by decide +kernel
theorem dX7_nearer_25 : decode cX7_nearer 25 = .ok (.invokestatic 43, 3) := by decide +kernel
theorem dX7_nearer_28 : decode cX7_nearer 28 = .ok (.if_icmp .ge 7, 3) := by decide +kernel
theorem dX7_nearer_31 : decode cX7_nearer 31 = .ok (.iconst 1, 1) := by decide +kernel
theorem dX7_nearer_32 : decode cX7_nearer 32 = .ok (.goto 4, 3) := by decide +kernel
theorem dX7_nearer_35 : decode cX7_nearer 35 = .ok (.iconst 0, 1) := by decide +kernel
theorem dX7_nearer_36 : decode cX7_nearer 36 = .ok (.iadd, 1) := by decide +kernel
theorem dX7_nearer_37 : decode cX7_nearer 37 = .ok (.istore 4, 2) := by decide +kernel
theorem dX7_nearer_39 : decode cX7_nearer 39 = .ok (.iinc 5 1, 3) := by decide +kernel
theorem dX7_nearer_42 : decode cX7_nearer 42 = .ok (.goto (-36), 3) := by decide +kernel
theorem dX7_nearer_45 : decode cX7_nearer 45 = .ok (.iload 4, 2) := by decide +kernel
theorem dX7_nearer_47 : decode cX7_nearer 47 = .ok (.ireturn, 1) := by decide +kernel
theorem dX7_wins_0 : decode cX7_wins 0 = .ok (.aload_n 0, 1) := by decide +kernel
theorem dX7_wins_1 : decode cX7_wins 1 = .ok (.iload_n 1, 1) := by decide +kernel
theorem dX7_wins_2 : decode cX7_wins 2 = .ok (.invokevirtual 95, 3) := by decide +kernel
theorem dX7_wins_5 : decode cX7_wins 5 = .ok (.ifCond .eq 11, 3) := by decide +kernel
theorem dX7_wins_8 : decode cX7_wins 8 = .ok (.aload_n 0, 1) := by decide +kernel
theorem dX7_wins_9 : decode cX7_wins 9 = .ok (.iload_n 2, 1) := by decide +kernel
theorem dX7_wins_10 : decode cX7_wins 10 = .ok (.invokevirtual 98, 3) := by decide +kernel
theorem dX7_wins_13 : decode cX7_wins 13 = .ok (.ifCond .ne 5, 3) := by decide +kernel
theorem dX7_wins_16 : decode cX7_wins 16 = .ok (.iconst (-1), 1) := by decide +kernel
theorem dX7_wins_17 : decode cX7_wins 17 = .ok (.ireturn, 1) := by decide +kernel
theorem dX7_wins_18 : decode cX7_wins 18 = .ok (.aload_n 0, 1) := by decide +kernel
theorem dX7_wins_19 : decode cX7_wins 19 = .ok (.iload_n 2, 1) := by decide +kernel
theorem dX7_wins_20 : decode cX7_wins 20 = .ok (.iload_n 3, 1) := by decide +kernel
theorem dX7_wins_21 : decode cX7_wins 21 = .ok (.invokevirtual 101, 3) := by decide +kernel
theorem dX7_wins_24 : decode cX7_wins 24 = .ok (.ifCond .eq 13, 3) := by decide +kernel
theorem dX7_wins_27 : decode cX7_wins 27 = .ok (.aload_n 0, 1) := by decide +kernel
theorem dX7_wins_28 : decode cX7_wins 28 = .ok (.iload_n 2, 1) := by decide +kernel
theorem dX7_wins_29 : decode cX7_wins 29 = .ok (.iload 4, 2) := by decide +kernel
theorem dX7_wins_31 : decode cX7_wins 31 = .ok (.invokevirtual 101, 3) := by decide +kernel
theorem dX7_wins_34 : decode cX7_wins 34 = .ok (.ifCond .ne 6, 3) := by decide +kernel
theorem dX7_wins_37 : decode cX7_wins 37 = .ok (.bipush (-2), 2) := by decide +kernel
theorem dX7_wins_39 : decode cX7_wins 39 = .ok (.ireturn, 1) := by decide +kernel
theorem dX7_wins_40 : decode cX7_wins 40 = .ok (.iconst 0, 1) := by decide +kernel
theorem dX7_wins_41 : decode cX7_wins 41 = .ok (.iload_n 1, 1) := by decide +kernel
theorem dX7_wins_42 : decode cX7_wins 42 = .ok (.iload_n 2, 1) := by decide +kernel
theorem dX7_wins_43 : decode cX7_wins 43 = .ok (.invokestatic 36, 3) := by decide +kernel
theorem dX7_wins_46 : decode cX7_wins 46 = .ok (.istore 5, 2) := by decide +kernel
theorem dX7_wins_48 : decode cX7_wins 48 = .ok (.aload_n 0, 1) := by decide +kernel
theorem dX7_wins_49 : decode cX7_wins 49 = .ok (.getfield 7, 3) := by decide +kernel
theorem dX7_wins_52 : decode cX7_wins 52 = .ok (.iload 5, 2) := by decide +kernel
theorem dX7_wins_54 : decode cX7_wins 54 = .ok (.iaload, 1) := by decide +kernel
theorem dX7_wins_55 : decode cX7_wins 55 = .ok (.aload_n 0, 1) := by decide +kernel
theorem dX7_wins_56 : decode cX7_wins 56 = .ok (.getfield 7, 3) := by decide +kernel
theorem dX7_wins_59 : decode cX7_wins 59 = .ok (.iload 5, 2) := by decide +kernel
theorem dX7_wins_61 : decode cX7_wins 61 = .ok (.iconst 1, 1) := by decide +kernel
theorem dX7_wins_62 : decode cX7_wins 62 = .ok (.iadd, 1) := by decide +kernel
theorem dX7_wins_63 : decode cX7_wins 63 = .ok (.iaload, 1) := by decide +kernel
theorem dX7_wins_64 : decode cX7_wins 64 = .ok (.iload_n 3, 1) := by decide +kernel
theorem dX7_wins_65 : decode cX7_wins 65 = .ok (.iload 4, 2) := by decide +kernel
theorem dX7_wins_67 : decode cX7_wins 67 = .ok (.invokestatic 177, 3) := by decide +kernel
theorem dX7_wins_70 : decode cX7_wins 70 = .ok (.ireturn, 1) := by decide +kernel
theorem dX7_bestGuess_0 : decode cX7_bestGuess 0 = .ok (.aload_n 0, 1) := by decide +kernel
theorem dX7_bestGuess_1 : decode cX7_bestGuess 1 = .ok (.iload_n 1, 1) := by decide +kernel
theorem dX7_bestGuess_2 : decode cX7_bestGuess 2 = .ok (.invokevirtual 95, 3) := by decide +kernel
theorem dX7_bestGuess_5 : decode cX7_bestGuess 5 = .ok (.ifCond .eq 11, 3) := by decide +kernel
theorem dX7_bestGuess_8 : decode cX7_bestGuess 8 = .ok (.aload_n 0, 1) := by decide +kernel
theorem dX7_bestGuess_9 : decode cX7_bestGuess 9 = .ok (.iload_n 2, 1) := by decide +kernel
theorem dX7_bestGuess_10 : decode cX7_bestGuess 10 = .ok (.invokevirtual 98, 3) := by decide +kernel
theorem dX7_bestGuess_13 : decode cX7_bestGuess 13 = .ok (.ifCond .ne 5, 3) := by decide +kernel
theorem dX7_bestGuess_16 : decode cX7_bestGuess 16 = .ok (.iconst (-1), 1) := by decide +kernel
theorem dX7_bestGuess_17 : decode cX7_bestGuess 17 = .ok (.ireturn, 1) := by decide +kernel
theorem dX7_bestGuess_18 : decode cX7_bestGuess 18 = .ok (.aload_n 0, 1) := by decide +kernel
theorem dX7_bestGuess_19 : decode cX7_bestGuess 19 = .ok (.iload_n 2, 1) := by decide +kernel
theorem dX7_bestGuess_20 : decode cX7_bestGuess 20 = .ok (.iload_n 3, 1) := by decide +kernel
theorem dX7_bestGuess_21 : decode cX7_bestGuess 21 = .ok (.invokevirtual 101, 3) := by decide +kernel
theorem dX7_bestGuess_24 : decode cX7_bestGuess 24 = .ok (.ifCond .eq 14, 3) := by decide +kernel
theorem dX7_bestGuess_27 : decode cX7_bestGuess 27 = .ok (.iload 4, 2) := by decide +kernel
theorem dX7_bestGuess_29 : decode cX7_bestGuess 29 = .ok (.i2l, 1) := by decide +kernel
theorem dX7_bestGuess_30 : decode cX7_bestGuess 30 = .ok (.lconst 0, 1) := by decide +kernel
theorem dX7_bestGuess_31 : decode cX7_bestGuess 31 = .ok (.lconst 1, 1) := by decide +kernel
theorem dX7_bestGuess_32 : decode cX7_bestGuess 32 = .ok (.invokestatic 81, 3) := by decide +kernel
theorem dX7_bestGuess_35 : decode cX7_bestGuess 35 = .ok (.ifCond .ne 6, 3) := by decide +kernel
theorem dX7_bestGuess_38 : decode cX7_bestGuess 38 = .ok (.bipush (-2), 2) := by decide +kernel
theorem dX7_bestGuess_40 : decode cX7_bestGuess 40 = .ok (.ireturn, 1) := by decide +kernel
theorem dX7_bestGuess_41 : decode cX7_bestGuess 41 = .ok (.iconst 0, 1) := by decide +kernel
theorem dX7_bestGuess_42 : decode cX7_bestGuess 42 = .ok (.iload_n 1, 1) := by decide +kernel
theorem dX7_bestGuess_43 : decode cX7_bestGuess 43 = .ok (.iload_n 2, 1) := by decide +kernel
theorem dX7_bestGuess_44 : decode cX7_bestGuess 44 = .ok (.invokestatic 36, 3) := by decide +kernel
theorem dX7_bestGuess_47 : decode cX7_bestGuess 47 = .ok (.istore 5, 2) := by decide +kernel
theorem dX7_bestGuess_49 : decode cX7_bestGuess 49 = .ok (.iconst 0, 1) := by decide +kernel
theorem dX7_bestGuess_50 : decode cX7_bestGuess 50 = .ok (.istore 6, 2) := by decide +kernel
theorem dX7_bestGuess_52 : decode cX7_bestGuess 52 = .ok (.aload_n 0, 1) := by decide +kernel
theorem dX7_bestGuess_53 : decode cX7_bestGuess 53 = .ok (.getfield 7, 3) := by decide +kernel
theorem dX7_bestGuess_56 : decode cX7_bestGuess 56 = .ok (.iload 5, 2) := by decide +kernel
theorem dX7_bestGuess_58 : decode cX7_bestGuess 58 = .ok (.iaload, 1) := by decide +kernel
theorem dX7_bestGuess_59 : decode cX7_bestGuess 59 = .ok (.aload_n 0, 1) := by decide +kernel
theorem dX7_bestGuess_60 : decode cX7_bestGuess 60 = .ok (.getfield 7, 3) := by decide +kernel
theorem dX7_bestGuess_63 : decode cX7_bestGuess 63 = .ok (.iload 5, 2) := by decide +kernel
theorem dX7_bestGuess_65 : decode cX7_bestGuess 65 = .ok (.iconst 1, 1) := by decide +kernel
theorem dX7_bestGuess_66 : decode cX7_bestGuess 66 = .ok (.iadd, 1) := by decide +kernel
theorem dX7_bestGuess_67 : decode cX7_bestGuess 67 = .ok (.iaload, 1) := by decide +kernel
theorem dX7_bestGuess_68 : decode cX7_bestGuess 68 = .ok (.iconst 0, 1) := by decide +kernel
theorem dX7_bestGuess_69 : decode cX7_bestGuess 69 = .ok (.iload_n 3, 1) := by decide +kernel
theorem dX7_bestGuess_70 : decode cX7_bestGuess 70 = .ok (.invokestatic 177, 3) := by decide +kernel
theorem dX7_bestGuess_73 : decode cX7_bestGuess 73 = .ok (.istore 7, 2) := by decide +kernel
theorem dX7_bestGuess_75 : decode cX7_bestGuess 75 = .ok (.iconst 1, 1) := by decide +kernel
theorem dX7_bestGuess_76 : decode cX7_bestGuess 76 = .ok (.istore 8, 2) := by decide +kernel
theorem dX7_bestGuess_78 : decode cX7_bestGuess 78 = .ok (.iload 8, 2) := by decide +kernel
theorem dX7_bestGuess_80 : decode cX7_bestGuess 80 = .ok (.aload_n 0, 1) := by decide +kernel
theorem dX7_bestGuess_81 : decode cX7_bestGuess 81 = .ok (.getfield 7, 3) := by decide +kernel
theorem dX7_bestGuess_84 : decode cX7_bestGuess 84 = .ok (.iconst 0, 1) := by decide +kernel
theorem dX7_bestGuess_85 : decode cX7_bestGuess 85 = .ok (.iload_n 2, 1) := by decide +kernel
theorem dX7_bestGuess_86 : decode cX7_bestGuess 86 = .ok (.invokestatic 31, 3) := by decide +kernel
theorem dX7_bestGuess_89 : decode cX7_bestGuess 89 = .ok (.iconst 2, 1) := by decide +kernel
theorem dX7_bestGuess_90 : decode cX7_bestGuess 90 = .ok (.iadd, 1) := by decide +kernel
theorem dX7_bestGuess_91 : decode cX7_bestGuess 91 = .ok (.iaload, 1) := by decide +kernel
theorem dX7_bestGuess_92 : decode cX7_bestGuess 92 = .ok (.if_icmp .ge 65, 3) := by decide +kernel
theorem dX7_bestGuess_95 : decode cX7_bestGuess 95 = .ok (.aload_n 0, 1) := by decide +kernel
theorem dX7_bestGuess_96 : decode cX7_bestGuess 96 = .ok (.getfield 7, 3) := by decide +kernel
theorem dX7_bestGuess_99 : decode cX7_bestGuess 99 = .ok (.iload 5, 2) := by decide +kernel
theorem dX7_bestGuess_101 : decode cX7_bestGuess 101 = .ok (.iaload, 1) := by decide +kernel
theorem dX7_bestGuess_102 : decode cX7_bestGuess 102 = .ok (.aload_n 0, 1) := by decide +kernel
theorem dX7_bestGuess_103 : decode cX7_bestGuess 103 = .ok (.getfield 7, 3) := by decide +kernel
theorem dX7_bestGuess_106 : decode cX7_bestGuess 106 = .ok (.iload 5, 2) := by decide +kernel
theorem dX7_bestGuess_108 : decode cX7_bestGuess 108 = .ok (.iconst 1, 1) := by decide +kernel
theorem dX7_bestGuess_109 : decode cX7_bestGuess 109 = .ok (.iadd, 1) := by decide +kernel
theorem dX7_bestGuess_110 : decode cX7_bestGuess 110 = .ok (.iaload, 1) := by decide +kernel
theorem dX7_bestGuess_111 : decode cX7_bestGuess 111 = .ok (.iload 8, 2) := by decide +kernel
theorem dX7_bestGuess_113 : decode cX7_bestGuess 113 = .ok (.iload_n 3, 1) := by decide +kernel
theorem dX7_bestGuess_114 : decode cX7_bestGuess 114 = .ok (.invokestatic 177, 3) := by decide +kernel
theorem dX7_bestGuess_117 : decode cX7_bestGuess 117 = .ok (.istore 9, 2) := by decide +kernel
theorem dX7_bestGuess_119 : decode cX7_bestGuess 119 = .ok (.iload 9, 2) := by decide +kernel
theorem dX7_bestGuess_121 : decode cX7_bestGuess 121 = .ok (.iload 7, 2) := by decide +kernel
theorem dX7_bestGuess_123 : decode cX7_bestGuess 123 = .ok (.if_icmp .le 8, 3) := by decide +kernel
theorem dX7_bestGuess_126 : decode cX7_bestGuess 126 = .ok (.iload 8, 2) := by decide +kernel
theorem dX7_bestGuess_128 : decode cX7_bestGuess 128 = .ok (.goto 5, 3) := by decide +kernel
theorem dX7_bestGuess_131 : decode cX7_bestGuess 131 = .ok (.iload 6, 2) := by decide +kernel
theorem dX7_bestGuess_133 : decode cX7_bestGuess 133 = .ok (.istore 6, 2) := by decide +kernel
theorem dX7_bestGuess_135 : decode cX7_bestGuess 135 = .ok (.iload 9, 2) := by decide +kernel
theorem dX7_bestGuess_137 : decode cX7_bestGuess 137 = .ok (.iload 7, 2) := by decide +kernel
theorem dX7_bestGuess_139 : decode cX7_bestGuess 139 = .ok (.if_icmp .le 8, 3) := by decide +kernel
theorem dX7_bestGuess_142 : decode cX7_bestGuess 142 = .ok (.iload 9, 2) := by decide +kernel
theorem dX7_bestGuess_144 : decode cX7_bestGuess 144 = .ok (.goto 5, 3) := by decide +kernel
theorem dX7_bestGuess_147 : decode cX7_bestGuess 147 = .ok (.iload 7, 2) := by decide +kernel
theorem dX7_bestGuess_149 : decode cX7_bestGuess 149 = .ok (.istore 7, 2) := by decide +kernel
theorem dX7_bestGuess_151 : decode cX7_bestGuess 151 = .ok (.iinc 8 1, 3) := by decide +kernel
theorem dX7_bestGuess_154 : decode cX7_bestGuess 154 = .ok (.goto (-76), 3) := by decide +kernel
theorem dX7_bestGuess_157 : decode cX7_bestGuess 157 = .ok (.iload 4, 2) := by decide +kernel
theorem dX7_bestGuess_159 : decode cX7_bestGuess 159 = .ok (.ifCond .ne 8, 3) := by decide +kernel
theorem dX7_bestGuess_162 : decode cX7_bestGuess 162 = .ok (.iload 6, 2) := by decide +kernel
theorem dX7_bestGuess_164 : decode cX7_bestGuess 164 = .ok (.goto 5, 3) := by decide +kernel
theorem dX7_bestGuess_167 : decode cX7_bestGuess 167 = .ok (.iload 7, 2) := by decide +kernel
theorem dX7_bestGuess_169 : decode cX7_bestGuess 169 = .ok (.ireturn, 1) := by decide +kernel
theorem dX7_measures_0 : decode cX7_measures 0 = .ok (.iconst 0, 1) := by decide +kernel
theorem dX7_measures_1 : decode cX7_measures 1 = .ok (.istore_n 2, 1) := by decide +kernel
theorem dX7_measures_2 : decode cX7_measures 2 = .ok (.iload_n 2, 1) := by decide +kernel
theorem dX7_measures_3 : decode cX7_measures 3 = .ok (.bipush 8, 2) := by decide +kernel
theorem dX7_measures_5 : decode cX7_measures 5 = .ok (.if_icmp .ge 26, 3) := by decide +kernel
theorem dX7_measures_8 : decode cX7_measures 8 = .ok (.aload_n 0, 1) := by decide +kernel
theorem dX7_measures_9 : decode cX7_measures 9 = .ok (.getfield 20, 3) := by decide +kernel
theorem dX7_measures_12 : decode cX7_measures 12 = .ok (.iload_n 2, 1) := by decide +kernel
theorem dX7_measures_13 : decode cX7_measures 13 = .ok (.iload_n 2, 1) := by decide +kernel
theorem dX7_measures_14 : decode cX7_measures 14 = .ok (.iload_n 1, 1) := by decide +kernel
theorem dX7_measures_15 : decode cX7_measures 15 = .ok (.if_icmp .ne 7, 3) := by decide +kernel
theorem dX7_measures_18 : decode cX7_measures 18 = .ok (.iconst 0, 1) := by decide +kernel
theorem dX7_measures_19 : decode cX7_measures 19 = .ok (.goto 5, 3) := by decide +kernel
theorem dX7_measures_22 : decode cX7_measures 22 = .ok (.bipush 8, 2) := by decide +kernel
theorem dX7_measures_24 : decode cX7_measures 24 = .ok (.iastore, 1) := by decide +kernel
theorem dX7_measures_25 : decode cX7_measures 25 = .ok (.iinc 2 1, 3) := by decide +kernel
theorem dX7_measures_28 : decode cX7_measures 28 = .ok (.goto (-26), 3) := by decide +kernel
theorem dX7_measures_31 : decode cX7_measures 31 = .ok (.iconst 1, 1) := by decide +kernel
theorem dX7_measures_32 : decode cX7_measures 32 = .ok (.istore_n 2, 1) := by decide +kernel
theorem dX7_measures_33 : decode cX7_measures 33 = .ok (.iload_n 2, 1) := by decide +kernel
theorem dX7_measures_34 : decode cX7_measures 34 = .ok (.bipush 8, 2) := by decide +kernel
theorem dX7_measures_36 : decode cX7_measures 36 = .ok (.if_icmp .ge 143, 3) := by decide +kernel
theorem dX7_measures_39 : decode cX7_measures 39 = .ok (.iconst 0, 1) := by decide +kernel
theorem dX7_measures_40 : decode cX7_measures 40 = .ok (.istore_n 3, 1) := by decide +kernel
theorem dX7_measures_41 : decode cX7_measures 41 = .ok (.iload_n 3, 1) := by decide +kernel
theorem dX7_measures_42 : decode cX7_measures 42 = .ok (.aload_n 0, 1) := by decide +kernel
theorem dX7_measures_43 : decode cX7_measures 43 = .ok (.getfield 7, 3) := by decide +kernel
theorem dX7_measures_46 : decode cX7_measures 46 = .ok (.iconst 5, 1) := by decide +kernel
theorem dX7_measures_47 : decode cX7_measures 47 = .ok (.iaload, 1) := by decide +kernel
theorem dX7_measures_48 : decode cX7_measures 48 = .ok (.if_icmp .ge 125, 3) := by decide +kernel
theorem dX7_measures_51 : decode cX7_measures 51 = .ok (.aload_n 0, 1) := by decide +kernel
theorem dX7_measures_52 : decode cX7_measures 52 = .ok (.getfield 7, 3) := by decide +kernel
theorem dX7_measures_55 : decode cX7_measures 55 = .ok (.iconst 0, 1) := by decide +kernel
theorem dX7_measures_56 : decode cX7_measures 56 = .ok (.iload_n 3, 1) := by decide +kernel
theorem dX7_measures_57 : decode cX7_measures 57 = .ok (.invokestatic 31, 3) := by decide +kernel
theorem dX7_measures_60 : decode cX7_measures 60 = .ok (.iaload, 1) := by decide +kernel
theorem dX7_measures_61 : decode cX7_measures 61 = .ok (.istore 4, 2) := by decide +kernel
theorem dX7_measures_63 : decode cX7_measures 63 = .ok (.aload_n 0, 1) := by decide +kernel
theorem dX7_measures_64 : decode cX7_measures 64 = .ok (.getfield 7, 3) := by decide +kernel
theorem dX7_measures_67 : decode cX7_measures 67 = .ok (.iconst 0, 1) := by decide +kernel
theorem dX7_measures_68 : decode cX7_measures 68 = .ok (.iload_n 3, 1) := by decide +kernel
theorem dX7_measures_69 : decode cX7_measures 69 = .ok (.invokestatic 31, 3) := by decide +kernel
theorem dX7_measures_72 : decode cX7_measures 72 = .ok (.iconst 1, 1) := by decide +kernel
theorem dX7_measures_73 : decode cX7_measures 73 = .ok (.iadd, 1) := by decide +kernel
theorem dX7_measures_74 : decode cX7_measures 74 = .ok (.iaload, 1) := by decide +kernel
theorem dX7_measures_75 : decode cX7_measures 75 = .ok (.istore 5, 2) := by decide +kernel
theorem dX7_measures_77 : decode cX7_measures 77 = .ok (.aload_n 0, 1) := by decide +kernel
theorem dX7_measures_78 : decode cX7_measures 78 = .ok (.getfield 20, 3) := by decide +kernel
theorem dX7_measures_81 : decode cX7_measures 81 = .ok (.iload 4, 2) := by decide +kernel
theorem dX7_measures_83 : decode cX7_measures 83 = .ok (.aload_n 0, 1) := by decide +kernel
theorem dX7_measures_84 : decode cX7_measures 84 = .ok (.getfield 20, 3) := by decide +kernel
theorem dX7_measures_87 : decode cX7_measures 87 = .ok (.iload 5, 2) := by decide +kernel
theorem dX7_measures_89 : decode cX7_measures 89 = .ok (.iaload, 1) := by decide +kernel
theorem dX7_measures_90 : decode cX7_measures 90 = .ok (.iconst 1, 1) := by decide +kernel
theorem dX7_measures_91 : decode cX7_measures 91 = .ok (.iadd, 1) := by decide +kernel
theorem dX7_measures_92 : decode cX7_measures 92 = .ok (.aload_n 0, 1) := by decide +kernel
theorem dX7_measures_93 : decode cX7_measures 93 = .ok (.getfield 20, 3) := by decide +kernel
theorem dX7_measures_96 : decode cX7_measures 96 = .ok (.iload 4, 2) := by decide +kernel
theorem dX7_measures_98 : decode cX7_measures 98 = .ok (.iaload, 1) := by decide +kernel
theorem dX7_measures_99 : decode cX7_measures 99 = .ok (.if_icmp .ge 15, 3) := by decide +kernel
theorem dX7_measures_102 : decode cX7_measures 102 = .ok (.aload_n 0, 1) := by decide +kernel
theorem dX7_measures_103 : decode cX7_measures 103 = .ok (.getfield 20, 3) := by decide +kernel
theorem dX7_measures_106 : decode cX7_measures 106 = .ok (.iload 5, 2) := by decide +kernel
theorem dX7_measures_108 : decode cX7_measures 108 = .ok (.iaload, 1) := by decide +kernel
theorem dX7_measures_109 : decode cX7_measures 109 = .ok (.iconst 1, 1) := by decide +kernel
theorem dX7_measures_110 : decode cX7_measures 110 = .ok (.iadd, 1) := by decide +kernel
theorem dX7_measures_111 : decode cX7_measures 111 = .ok (.goto 10, 3) := by decide +kernel
theorem dX7_measures_114 : decode cX7_measures 114 = .ok (.aload_n 0, 1) := by decide +kernel
theorem dX7_measures_115 : decode cX7_measures 115 = .ok (.getfield 20, 3) := by decide +kernel
theorem dX7_measures_118 : decode cX7_measures 118 = .ok (.iload 4, 2) := by decide +kernel
theorem dX7_measures_120 : decode cX7_measures 120 = .ok (.iaload, 1) := by decide +kernel
theorem dX7_measures_121 : decode cX7_measures 121 = .ok (.iastore, 1) := by decide +kernel
theorem dX7_measures_122 : decode cX7_measures 122 = .ok (.aload_n 0, 1) := by decide +kernel
theorem dX7_measures_123 : decode cX7_measures 123 = .ok (.getfield 20, 3) := by decide +kernel
theorem dX7_measures_126 : decode cX7_measures 126 = .ok (.iload 5, 2) := by decide +kernel
theorem dX7_measures_128 : decode cX7_measures 128 = .ok (.aload_n 0, 1) := by decide +kernel
theorem dX7_measures_129 : decode cX7_measures 129 = .ok (.getfield 20, 3) := by decide +kernel
theorem dX7_measures_132 : decode cX7_measures 132 = .ok (.iload 4, 2) := by decide +kernel
theorem dX7_measures_134 : decode cX7_measures 134 = .ok (.iaload, 1) := by decide +kernel
theorem dX7_measures_135 : decode cX7_measures 135 = .ok (.iconst 1, 1) := by decide +kernel
theorem dX7_measures_136 : decode cX7_measures 136 = .ok (.iadd, 1) := by decide +kernel
theorem dX7_measures_137 : decode cX7_measures 137 = .ok (.aload_n 0, 1) := by decide +kernel
theorem dX7_measures_138 : decode cX7_measures 138 = .ok (.getfield 20, 3) := by decide +kernel
theorem dX7_measures_141 : decode cX7_measures 141 = .ok (.iload 5, 2) := by decide +kernel
theorem dX7_measures_143 : decode cX7_measures 143 = .ok (.iaload, 1) := by decide +kernel
theorem dX7_measures_144 : decode cX7_measures 144 = .ok (.if_icmp .ge 15, 3) := by decide +kernel
theorem dX7_measures_147 : decode cX7_measures 147 = .ok (.aload_n 0, 1) := by decide +kernel
theorem dX7_measures_148 : decode cX7_measures 148 = .ok (.getfield 20, 3) := by decide +kernel
theorem dX7_measures_151 : decode cX7_measures 151 = .ok (.iload 4, 2) := by decide +kernel
theorem dX7_measures_153 : decode cX7_measures 153 = .ok (.iaload, 1) := by decide +kernel
theorem dX7_measures_154 : decode cX7_measures 154 = .ok (.iconst 1, 1) := by decide +kernel
theorem dX7_measures_155 : decode cX7_measures 155 = .ok (.iadd, 1) := by decide +kernel
theorem dX7_measures_156 : decode cX7_measures 156 = .ok (.goto 10, 3) := by decide +kernel
theorem dX7_measures_159 : decode cX7_measures 159 = .ok (.aload_n 0, 1) := by decide +kernel
theorem dX7_measures_160 : decode cX7_measures 160 = .ok (.getfield 20, 3) := by decide +kernel
theorem dX7_measures_163 : decode cX7_measures 163 = .ok (.iload 5, 2) := by decide +kernel
theorem dX7_measures_165 : decode cX7_measures 165 = .ok (.iaload, 1) := by decide +kernel
theorem dX7_measures_166 : decode cX7_measures 166 = .ok (.iastore, 1) := by decide +kernel
theorem dX7_measures_167 : decode cX7_measures 167 = .ok (.iinc 3 1, 3) := by decide +kernel
theorem dX7_measures_170 : decode cX7_measures 170 = .ok (.goto (-129), 3) := by decide +kernel
theorem dX7_measures_173 : decode cX7_measures 173 = .ok (.iinc 2 1, 3) := by decide +kernel
theorem dX7_measures_176 : decode cX7_measures 176 = .ok (.goto (-143), 3) := by decide +kernel
theorem dX7_measures_179 : decode cX7_measures 179 = .ok (.return_, 1) := by decide +kernel
theorem dX7_firstBridge_0 : decode cX7_firstBridge 0 = .ok (.bipush (-6), 2) := by decide +kernel
theorem dX7_firstBridge_2 : decode cX7_firstBridge 2 = .ok (.istore_n 2, 1) := by decide +kernel
theorem dX7_firstBridge_3 : decode cX7_firstBridge 3 = .ok (.aload_n 0, 1) := by decide +kernel
theorem dX7_firstBridge_4 : decode cX7_firstBridge 4 = .ok (.getfield 7, 3) := by decide +kernel
theorem dX7_firstBridge_7 : decode cX7_firstBridge 7 = .ok (.iconst 5, 1) := by decide +kernel
theorem dX7_firstBridge_8 : decode cX7_firstBridge 8 = .ok (.iaload, 1) := by decide +kernel
theorem dX7_firstBridge_9 : decode cX7_firstBridge 9 = .ok (.iconst 1, 1) := by decide +kernel
theorem dX7_firstBridge_10 : decode cX7_firstBridge 10 = .ok (.isub, 1) := by decide +kernel
theorem dX7_firstBridge_11 : decode cX7_firstBridge 11 = .ok (.istore_n 3, 1) := by decide +kernel
theorem dX7_firstBridge_12 : decode cX7_firstBridge 12 = .ok (.iload_n 3, 1) := by decide +kernel
theorem dX7_firstBridge_13 : decode cX7_firstBridge 13 = .ok (.ifCond .lt 101, 3) := by decide +kernel
theorem dX7_firstBridge_16 : decode cX7_firstBridge 16 = .ok (.aload_n 0, 1) := by decide +kernel
theorem dX7_firstBridge_17 : decode cX7_firstBridge 17 = .ok (.getfield 7, 3) := by decide +kernel
theorem dX7_firstBridge_20 : decode cX7_firstBridge 20 = .ok (.iconst 0, 1) := by decide +kernel
theorem dX7_firstBridge_21 : decode cX7_firstBridge 21 = .ok (.iload_n 3, 1) := by decide +kernel
theorem dX7_firstBridge_22 : decode cX7_firstBridge 22 = .ok (.invokestatic 31, 3) := by decide +kernel
theorem dX7_firstBridge_25 : decode cX7_firstBridge 25 = .ok (.iaload, 1) := by decide +kernel
theorem dX7_firstBridge_26 : decode cX7_firstBridge 26 = .ok (.istore 4, 2) := by decide +kernel
theorem dX7_firstBridge_28 : decode cX7_firstBridge 28 = .ok (.aload_n 0, 1) := by decide +kernel
theorem dX7_firstBridge_29 : decode cX7_firstBridge 29 = .ok (.getfield 7, 3) := by decide +kernel
theorem dX7_firstBridge_32 : decode cX7_firstBridge 32 = .ok (.iconst 0, 1) := by decide +kernel
theorem dX7_firstBridge_33 : decode cX7_firstBridge 33 = .ok (.iload_n 3, 1) := by decide +kernel
theorem dX7_firstBridge_34 : decode cX7_firstBridge 34 = .ok (.invokestatic 31, 3) := by decide +kernel
theorem dX7_firstBridge_37 : decode cX7_firstBridge 37 = .ok (.iconst 1, 1) := by decide +kernel
theorem dX7_firstBridge_38 : decode cX7_firstBridge 38 = .ok (.iadd, 1) := by decide +kernel
theorem dX7_firstBridge_39 : decode cX7_firstBridge 39 = .ok (.iaload, 1) := by decide +kernel
theorem dX7_firstBridge_40 : decode cX7_firstBridge 40 = .ok (.istore 5, 2) := by decide +kernel
theorem dX7_firstBridge_42 : decode cX7_firstBridge 42 = .ok (.iload 4, 2) := by decide +kernel
theorem dX7_firstBridge_44 : decode cX7_firstBridge 44 = .ok (.iload_n 1, 1) := by decide +kernel
theorem dX7_firstBridge_45 : decode cX7_firstBridge 45 = .ok (.if_icmp .ne 21, 3) := by decide +kernel
theorem dX7_firstBridge_48 : decode cX7_firstBridge 48 = .ok (.aload_n 0, 1) := by decide +kernel
theorem dX7_firstBridge_49 : decode cX7_firstBridge 49 = .ok (.getfield 20, 3) := by decide +kernel
theorem dX7_firstBridge_52 : decode cX7_firstBridge 52 = .ok (.iload 5, 2) := by decide +kernel
theorem dX7_firstBridge_54 : decode cX7_firstBridge 54 = .ok (.iaload, 1) := by decide +kernel
theorem dX7_firstBridge_55 : decode cX7_firstBridge 55 = .ok (.aload_n 0, 1) := by decide +kernel
theorem dX7_firstBridge_56 : decode cX7_firstBridge 56 = .ok (.getfield 20, 3) := by decide +kernel
theorem dX7_firstBridge_59 : decode cX7_firstBridge 59 = .ok (.iload_n 1, 1) := by decide +kernel
theorem dX7_firstBridge_60 : decode cX7_firstBridge 60 = .ok (.iaload, 1) := by decide +kernel
theorem dX7_firstBridge_61 : decode cX7_firstBridge 61 = .ok (.iconst 1, 1) := by decide +kernel
theorem dX7_firstBridge_62 : decode cX7_firstBridge 62 = .ok (.isub, 1) := by decide +kernel
theorem dX7_firstBridge_63 : decode cX7_firstBridge 63 = .ok (.if_icmp .eq 27, 3) := by decide +kernel
theorem dX7_firstBridge_66 : decode cX7_firstBridge 66 = .ok (.iload 5, 2) := by decide +kernel
theorem dX7_firstBridge_68 : decode cX7_firstBridge 68 = .ok (.iload_n 1, 1) := by decide +kernel
theorem dX7_firstBridge_69 : decode cX7_firstBridge 69 = .ok (.if_icmp .ne 25, 3) := by decide +kernel
theorem dX7_firstBridge_72 : decode cX7_firstBridge 72 = .ok (.aload_n 0, 1) := by decide +kernel
theorem dX7_firstBridge_73 : decode cX7_firstBridge 73 = .ok (.getfield 20, 3) := by decide +kernel
theorem dX7_firstBridge_76 : decode cX7_firstBridge 76 = .ok (.iload 4, 2) := by decide +kernel
theorem dX7_firstBridge_78 : decode cX7_firstBridge 78 = .ok (.iaload, 1) := by decide +kernel
theorem dX7_firstBridge_79 : decode cX7_firstBridge 79 = .ok (.aload_n 0, 1) := by decide +kernel
theorem dX7_firstBridge_80 : decode cX7_firstBridge 80 = .ok (.getfield 20, 3) := by decide +kernel
theorem dX7_firstBridge_83 : decode cX7_firstBridge 83 = .ok (.iload_n 1, 1) := by decide +kernel
theorem dX7_firstBridge_84 : decode cX7_firstBridge 84 = .ok (.iaload, 1) := by decide +kernel
theorem dX7_firstBridge_85 : decode cX7_firstBridge 85 = .ok (.iconst 1, 1) := by decide +kernel
theorem dX7_firstBridge_86 : decode cX7_firstBridge 86 = .ok (.isub, 1) := by decide +kernel
theorem dX7_firstBridge_87 : decode cX7_firstBridge 87 = .ok (.if_icmp .ne 7, 3) := by decide +kernel
theorem dX7_firstBridge_90 : decode cX7_firstBridge 90 = .ok (.iconst 1, 1) := by decide +kernel
theorem dX7_firstBridge_91 : decode cX7_firstBridge 91 = .ok (.goto 4, 3) := by decide +kernel
theorem dX7_firstBridge_94 : decode cX7_firstBridge 94 = .ok (.iconst 0, 1) := by decide +kernel
theorem dX7_firstBridge_95 : decode cX7_firstBridge 95 = .ok (.istore 6, 2) := by decide +kernel
theorem dX7_firstBridge_97 : decode cX7_firstBridge 97 = .ok (.iload 6, 2) := by decide +kernel
theorem dX7_firstBridge_99 : decode cX7_firstBridge 99 = .ok (.ifCond .eq 7, 3) := by decide +kernel
theorem dX7_firstBridge_102 : decode cX7_firstBridge 102 = .ok (.iload_n 3, 1) := by decide +kernel
theorem dX7_firstBridge_103 : decode cX7_firstBridge 103 = .ok (.goto 4, 3) := by decide +kernel
theorem dX7_firstBridge_106 : decode cX7_firstBridge 106 = .ok (.iload_n 2, 1) := by decide +kernel
theorem dX7_firstBridge_107 : decode cX7_firstBridge 107 = .ok (.istore_n 2, 1) := by decide +kernel
theorem dX7_firstBridge_108 : decode cX7_firstBridge 108 = .ok (.iinc 3 (-1), 3) := by decide +kernel
theorem dX7_firstBridge_111 : decode cX7_firstBridge 111 = .ok (.goto (-99), 3) := by decide +kernel
theorem dX7_firstBridge_114 : decode cX7_firstBridge 114 = .ok (.iload_n 2, 1) := by decide +kernel
theorem dX7_firstBridge_115 : decode cX7_firstBridge 115 = .ok (.ireturn, 1) := by decide +kernel
theorem dX7_route_0 : decode cX7_route 0 = .ok (.iload_n 1, 1) := by decide +kernel
theorem dX7_route_1 : decode cX7_route 1 = .ok (.invokestatic 85, 3) := by decide +kernel
theorem dX7_route_4 : decode cX7_route 4 = .ok (.ifCond .eq 10, 3) := by decide +kernel
theorem dX7_route_7 : decode cX7_route 7 = .ok (.iload_n 2, 1) := by decide +kernel
theorem dX7_route_8 : decode cX7_route 8 = .ok (.invokestatic 85, 3) := by decide +kernel
theorem dX7_route_11 : decode cX7_route 11 = .ok (.ifCond .ne 5, 3) := by decide +kernel
theorem dX7_route_14 : decode cX7_route 14 = .ok (.iconst (-1), 1) := by decide +kernel
theorem dX7_route_15 : decode cX7_route 15 = .ok (.ireturn, 1) := by decide +kernel
theorem dX7_route_16 : decode cX7_route 16 = .ok (.iload_n 3, 1) := by decide +kernel
theorem dX7_route_17 : decode cX7_route 17 = .ok (.i2l, 1) := by decide +kernel
theorem dX7_route_18 : decode cX7_route 18 = .ok (.lconst 0, 1) := by decide +kernel
theorem dX7_route_19 : decode cX7_route 19 = .ok (.lconst 1, 1) := by decide +kernel
theorem dX7_route_20 : decode cX7_route 20 = .ok (.invokestatic 81, 3) := by decide +kernel
theorem dX7_route_23 : decode cX7_route 23 = .ok (.ifCond .ne 6, 3) := by decide +kernel
theorem dX7_route_26 : decode cX7_route 26 = .ok (.bipush (-2), 2) := by decide +kernel
theorem dX7_route_28 : decode cX7_route 28 = .ok (.ireturn, 1) := by decide +kernel
theorem dX7_route_29 : decode cX7_route 29 = .ok (.aload_n 0, 1) := by decide +kernel
theorem dX7_route_30 : decode cX7_route 30 = .ok (.iload_n 2, 1) := by decide +kernel
theorem dX7_route_31 : decode cX7_route 31 = .ok (.invokevirtual 181, 3) := by decide +kernel
theorem dX7_route_34 : decode cX7_route 34 = .ok (.aload_n 0, 1) := by decide +kernel
theorem dX7_route_35 : decode cX7_route 35 = .ok (.getfield 20, 3) := by decide +kernel
theorem dX7_route_38 : decode cX7_route 38 = .ok (.iload_n 1, 1) := by decide +kernel
theorem dX7_route_39 : decode cX7_route 39 = .ok (.iaload, 1) := by decide +kernel
theorem dX7_route_40 : decode cX7_route 40 = .ok (.bipush 8, 2) := by decide +kernel
theorem dX7_route_42 : decode cX7_route 42 = .ok (.if_icmp .ne 8, 3) := by decide +kernel
theorem dX7_route_45 : decode cX7_route 45 = .ok (.bipush (-6), 2) := by decide +kernel
theorem dX7_route_47 : decode cX7_route 47 = .ok (.goto 21, 3) := by decide +kernel
theorem dX7_route_50 : decode cX7_route 50 = .ok (.iload_n 3, 1) := by decide +kernel
theorem dX7_route_51 : decode cX7_route 51 = .ok (.ifCond .ne 12, 3) := by decide +kernel
theorem dX7_route_54 : decode cX7_route 54 = .ok (.aload_n 0, 1) := by decide +kernel
theorem dX7_route_55 : decode cX7_route 55 = .ok (.getfield 20, 3) := by decide +kernel
theorem dX7_route_58 : decode cX7_route 58 = .ok (.iload_n 1, 1) := by decide +kernel
theorem dX7_route_59 : decode cX7_route 59 = .ok (.iaload, 1) := by decide +kernel
theorem dX7_route_60 : decode cX7_route 60 = .ok (.goto 8, 3) := by decide +kernel
theorem dX7_route_63 : decode cX7_route 63 = .ok (.aload_n 0, 1) := by decide +kernel
theorem dX7_route_64 : decode cX7_route 64 = .ok (.iload_n 1, 1) := by decide +kernel
theorem dX7_route_65 : decode cX7_route 65 = .ok (.invokevirtual 184, 3) := by decide +kernel
theorem dX7_route_68 : decode cX7_route 68 = .ok (.ireturn, 1) := by decide +kernel
theorem dX7_would_0 : decode cX7_would 0 = .ok (.iload_n 1, 1) := by decide +kernel
theorem dX7_would_1 : decode cX7_would 1 = .ok (.i2l, 1) := by decide +kernel
theorem dX7_would_2 : decode cX7_would 2 = .ok (.lconst 1, 1) := by decide +kernel
theorem dX7_would_3 : decode cX7_would 3 = .ok (.ldc2_w 108, 3) := by decide +kernel
theorem dX7_would_6 : decode cX7_would 6 = .ok (.invokestatic 81, 3) := by decide +kernel
theorem dX7_would_9 : decode cX7_would 9 = .ok (.ifCond .eq 15, 3) := by decide +kernel
theorem dX7_would_12 : decode cX7_would 12 = .ok (.iload_n 2, 1) := by decide +kernel
theorem dX7_would_13 : decode cX7_would 13 = .ok (.i2l, 1) := by decide +kernel
theorem dX7_would_14 : decode cX7_would 14 = .ok (.lconst 0, 1) := by decide +kernel
theorem dX7_would_15 : decode cX7_would 15 = .ok (.ldc2_w 187, 3) := by decide +kernel
theorem dX7_would_18 : decode cX7_would 18 = .ok (.invokestatic 81, 3) := by decide +kernel
theorem dX7_would_21 : decode cX7_would 21 = .ok (.ifCond .ne 6, 3) := by decide +kernel
theorem dX7_would_24 : decode cX7_would 24 = .ok (.bipush (-2), 2) := by decide +kernel
theorem dX7_would_26 : decode cX7_would 26 = .ok (.ireturn, 1) := by decide +kernel
theorem dX7_would_27 : decode cX7_would 27 = .ok (.aload_n 0, 1) := by decide +kernel
theorem dX7_would_28 : decode cX7_would 28 = .ok (.iconst 0, 1) := by decide +kernel
theorem dX7_would_29 : decode cX7_would 29 = .ok (.bipush 9, 2) := by decide +kernel
theorem dX7_would_31 : decode cX7_would 31 = .ok (.invokevirtual 27, 3) := by decide +kernel
theorem dX7_would_34 : decode cX7_would 34 = .ok (.sipush 3240, 3) := by decide +kernel
theorem dX7_would_37 : decode cX7_would 37 = .ok (.istore_n 3, 1) := by decide +kernel
theorem dX7_would_38 : decode cX7_would 38 = .ok (.aload_n 0, 1) := by decide +kernel
theorem dX7_would_39 : decode cX7_would 39 = .ok (.iload_n 3, 1) := by decide +kernel
theorem dX7_would_40 : decode cX7_would 40 = .ok (.iload_n 1, 1) := by decide +kernel
theorem dX7_would_41 : decode cX7_would 41 = .ok (.invokevirtual 153, 3) := by decide +kernel
theorem dX7_would_44 : decode cX7_would 44 = .ok (.istore 4, 2) := by decide +kernel
theorem dX7_would_46 : decode cX7_would 46 = .ok (.iload_n 2, 1) := by decide +kernel
theorem dX7_would_47 : decode cX7_would 47 = .ok (.ifCond .ne 8, 3) := by decide +kernel
theorem dX7_would_50 : decode cX7_would 50 = .ok (.iload 4, 2) := by decide +kernel
theorem dX7_would_52 : decode cX7_would 52 = .ok (.goto 54, 3) := by decide +kernel
theorem dX7_would_55 : decode cX7_would 55 = .ok (.iload_n 2, 1) := by decide +kernel
theorem dX7_would_56 : decode cX7_would 56 = .ok (.iconst 1, 1) := by decide +kernel
theorem dX7_would_57 : decode cX7_would 57 = .ok (.if_icmp .ne 21, 3) := by decide +kernel
theorem dX7_would_60 : decode cX7_would 60 = .ok (.aload_n 0, 1) := by decide +kernel
theorem dX7_would_61 : decode cX7_would 61 = .ok (.iload_n 3, 1) := by decide +kernel
theorem dX7_would_62 : decode cX7_would 62 = .ok (.bipush 6, 2) := by decide +kernel
theorem dX7_would_64 : decode cX7_would 64 = .ok (.invokevirtual 170, 3) := by decide +kernel
theorem dX7_would_67 : decode cX7_would 67 = .ok (.aload_n 0, 1) := by decide +kernel
theorem dX7_would_68 : decode cX7_would 68 = .ok (.iconst 0, 1) := by decide +kernel
theorem dX7_would_69 : decode cX7_would 69 = .ok (.bipush 6, 2) := by decide +kernel
theorem dX7_would_71 : decode cX7_would 71 = .ok (.invokevirtual 170, 3) := by decide +kernel
theorem dX7_would_74 : decode cX7_would 74 = .ok (.isub, 1) := by decide +kernel
theorem dX7_would_75 : decode cX7_would 75 = .ok (.goto 31, 3) := by decide +kernel
theorem dX7_would_78 : decode cX7_would 78 = .ok (.iload_n 2, 1) := by decide +kernel
theorem dX7_would_79 : decode cX7_would 79 = .ok (.iconst 2, 1) := by decide +kernel
theorem dX7_would_80 : decode cX7_would 80 = .ok (.if_icmp .ne 21, 3) := by decide +kernel
theorem dX7_would_83 : decode cX7_would 83 = .ok (.aload_n 0, 1) := by decide +kernel
theorem dX7_would_84 : decode cX7_would 84 = .ok (.iload_n 3, 1) := by decide +kernel
theorem dX7_would_85 : decode cX7_would 85 = .ok (.bipush 7, 2) := by decide +kernel
theorem dX7_would_87 : decode cX7_would 87 = .ok (.invokevirtual 170, 3) := by decide +kernel
theorem dX7_would_90 : decode cX7_would 90 = .ok (.aload_n 0, 1) := by decide +kernel
theorem dX7_would_91 : decode cX7_would 91 = .ok (.iconst 0, 1) := by decide +kernel
theorem dX7_would_92 : decode cX7_would 92 = .ok (.bipush 7, 2) := by decide +kernel
theorem dX7_would_94 : decode cX7_would 94 = .ok (.invokevirtual 170, 3) := by decide +kernel
theorem dX7_would_97 : decode cX7_would 97 = .ok (.isub, 1) := by decide +kernel
theorem dX7_would_98 : decode cX7_would 98 = .ok (.goto 8, 3) := by decide +kernel
theorem dX7_would_101 : decode cX7_would 101 = .ok (.aload_n 0, 1) := by decide +kernel
theorem dX7_would_102 : decode cX7_would 102 = .ok (.iload_n 3, 1) := by decide +kernel
theorem dX7_would_103 : decode cX7_would 103 = .ok (.invokevirtual 167, 3) := by decide +kernel
theorem dX7_would_106 : decode cX7_would 106 = .ok (.ireturn, 1) := by decide +kernel
theorem dX7_charactersOf_0 : decode cX7_charactersOf 0 = .ok (.lload_n 0, 1) := by decide +kernel
theorem dX7_charactersOf_1 : decode cX7_charactersOf 1 = .ok (.lstore_n 2, 1) := by decide +kernel
theorem dX7_charactersOf_2 : decode cX7_charactersOf 2 = .ok (.iconst 0, 1) := by decide +kernel
theorem dX7_charactersOf_3 : decode cX7_charactersOf 3 = .ok (.istore 4, 2) := by decide +kernel
theorem dX7_charactersOf_5 : decode cX7_charactersOf 5 = .ok (.iload 4, 2) := by decide +kernel
theorem dX7_charactersOf_7 : decode cX7_charactersOf 7 = .ok (.bipush 8, 2) := by decide +kernel
theorem dX7_charactersOf_9 : decode cX7_charactersOf 9 = .ok (.if_icmp .ge 31, 3) := by decide +kernel
theorem dX7_charactersOf_12 : decode cX7_charactersOf 12 = .ok (.lload_n 2, 1) := by decide +kernel
theorem dX7_charactersOf_13 : decode cX7_charactersOf 13 = .ok (.ldc2_w 189, 3) := by decide +kernel
theorem dX7_charactersOf_16 : decode cX7_charactersOf 16 = .ok (.land, 1) := by decide +kernel
theorem dX7_charactersOf_17 : decode cX7_charactersOf 17 = .ok (.ldc2_w 191, 3) := by decide +kernel
theorem dX7_charactersOf_20 : decode cX7_charactersOf 20 = .ok (.ldc2_w 193, 3) := by decide +kernel
theorem dX7_charactersOf_23 : decode cX7_charactersOf 23 = .ok (.invokestatic 81, 3) := by decide +kernel
theorem dX7_charactersOf_26 : decode cX7_charactersOf 26 = .ok (.ifCond .eq 14, 3) := by decide +kernel
theorem dX7_charactersOf_29 : decode cX7_charactersOf 29 = .ok (.lload_n 2, 1) := by decide +kernel
theorem dX7_charactersOf_30 : decode cX7_charactersOf 30 = .ok (.bipush 8, 2) := by decide +kernel
theorem dX7_charactersOf_32 : decode cX7_charactersOf 32 = .ok (.lushr, 1) := by decide +kernel
theorem dX7_charactersOf_33 : decode cX7_charactersOf 33 = .ok (.lstore_n 2, 1) := by decide +kernel
theorem dX7_charactersOf_34 : decode cX7_charactersOf 34 = .ok (.iinc 4 1, 3) := by decide +kernel
theorem dX7_charactersOf_37 : decode cX7_charactersOf 37 = .ok (.goto (-32), 3) := by decide +kernel
theorem dX7_charactersOf_40 : decode cX7_charactersOf 40 = .ok (.lload_n 2, 1) := by decide +kernel
theorem dX7_charactersOf_41 : decode cX7_charactersOf 41 = .ok (.lconst 0, 1) := by decide +kernel
theorem dX7_charactersOf_42 : decode cX7_charactersOf 42 = .ok (.lcmp, 1) := by decide +kernel
theorem dX7_charactersOf_43 : decode cX7_charactersOf 43 = .ok (.ifCond .ne 8, 3) := by decide +kernel
theorem dX7_charactersOf_46 : decode cX7_charactersOf 46 = .ok (.iload 4, 2) := by decide +kernel
theorem dX7_charactersOf_48 : decode cX7_charactersOf 48 = .ok (.goto 4, 3) := by decide +kernel
theorem dX7_charactersOf_51 : decode cX7_charactersOf 51 = .ok (.iconst 0, 1) := by decide +kernel
theorem dX7_charactersOf_52 : decode cX7_charactersOf 52 = .ok (.ireturn, 1) := by decide +kernel
theorem dX7_put_0 : decode cX7_put 0 = .ok (.lload_n 1, 1) := by decide +kernel
theorem dX7_put_1 : decode cX7_put 1 = .ok (.invokestatic 195, 3) := by decide +kernel
theorem dX7_put_4 : decode cX7_put 4 = .ok (.istore_n 3, 1) := by decide +kernel
theorem dX7_put_5 : decode cX7_put 5 = .ok (.iload_n 3, 1) := by decide +kernel
theorem dX7_put_6 : decode cX7_put 6 = .ok (.ifCond .ne 6, 3) := by decide +kernel
theorem dX7_put_9 : decode cX7_put 9 = .ok (.bipush (-2), 2) := by decide +kernel
theorem dX7_put_11 : decode cX7_put 11 = .ok (.ireturn, 1) := by decide +kernel
theorem dX7_put_12 : decode cX7_put 12 = .ok (.aload_n 0, 1) := by decide +kernel
theorem dX7_put_13 : decode cX7_put 13 = .ok (.getfield 156, 3) := by decide +kernel
theorem dX7_put_16 : decode cX7_put 16 = .ok (.iload_n 3, 1) := by decide +kernel
theorem dX7_put_17 : decode cX7_put 17 = .ok (.iadd, 1) := by decide +kernel
theorem dX7_put_18 : decode cX7_put 18 = .ok (.bipush 80, 2) := by decide +kernel
theorem dX7_put_20 : decode cX7_put 20 = .ok (.if_icmp .le 6, 3) := by decide +kernel
theorem dX7_put_23 : decode cX7_put 23 = .ok (.bipush (-4), 2) := by decide +kernel
theorem dX7_put_25 : decode cX7_put 25 = .ok (.ireturn, 1) := by decide +kernel
theorem dX7_put_26 : decode cX7_put 26 = .ok (.iconst 0, 1) := by decide +kernel
theorem dX7_put_27 : decode cX7_put 27 = .ok (.istore 4, 2) := by decide +kernel
theorem dX7_put_29 : decode cX7_put 29 = .ok (.iload 4, 2) := by decide +kernel
theorem dX7_put_31 : decode cX7_put 31 = .ok (.iload_n 3, 1) := by decide +kernel
theorem dX7_put_32 : decode cX7_put 32 = .ok (.if_icmp .ge 37, 3) := by decide +kernel
theorem dX7_put_35 : decode cX7_put 35 = .ok (.aload_n 0, 1) := by decide +kernel
theorem dX7_put_36 : decode cX7_put 36 = .ok (.getfield 17, 3) := by decide +kernel
theorem dX7_put_39 : decode cX7_put 39 = .ok (.aload_n 0, 1) := by decide +kernel
theorem dX7_put_40 : decode cX7_put 40 = .ok (.getfield 156, 3) := by decide +kernel
theorem dX7_put_43 : decode cX7_put 43 = .ok (.iload 4, 2) := by decide +kernel
theorem dX7_put_45 : decode cX7_put 45 = .ok (.iadd, 1) := by decide +kernel
theorem dX7_put_46 : decode cX7_put 46 = .ok (.lload_n 1, 1) := by decide +kernel
theorem dX7_put_47 : decode cX7_put 47 = .ok (.bipush 8, 2) := by decide +kernel
theorem dX7_put_49 : decode cX7_put 49 = .ok (.iload_n 3, 1) := by decide +kernel
theorem dX7_put_50 : decode cX7_put 50 = .ok (.iconst 1, 1) := by decide +kernel
theorem dX7_put_51 : decode cX7_put 51 = .ok (.isub, 1) := by decide +kernel
theorem dX7_put_52 : decode cX7_put 52 = .ok (.iload 4, 2) := by decide +kernel
theorem dX7_put_54 : decode cX7_put 54 = .ok (.isub, 1) := by decide +kernel
theorem dX7_put_55 : decode cX7_put 55 = .ok (.imul, 1) := by decide +kernel
theorem dX7_put_56 : decode cX7_put 56 = .ok (.lushr, 1) := by decide +kernel
theorem dX7_put_57 : decode cX7_put 57 = .ok (.ldc2_w 189, 3) := by decide +kernel
theorem dX7_put_60 : decode cX7_put 60 = .ok (.land, 1) := by decide +kernel
theorem dX7_put_61 : decode cX7_put 61 = .ok (.l2i, 1) := by decide +kernel
theorem dX7_put_62 : decode cX7_put 62 = .ok (.iastore, 1) := by decide +kernel
theorem dX7_put_63 : decode cX7_put 63 = .ok (.iinc 4 1, 3) := by decide +kernel
theorem dX7_put_66 : decode cX7_put 66 = .ok (.goto (-37), 3) := by decide +kernel
theorem dX7_put_69 : decode cX7_put 69 = .ok (.aload_n 0, 1) := by decide +kernel
theorem dX7_put_70 : decode cX7_put 70 = .ok (.dup, 1) := by decide +kernel
theorem dX7_put_71 : decode cX7_put 71 = .ok (.getfield 156, 3) := by decide +kernel
theorem dX7_put_74 : decode cX7_put 74 = .ok (.iload_n 3, 1) := by decide +kernel
theorem dX7_put_75 : decode cX7_put 75 = .ok (.iadd, 1) := by decide +kernel
theorem dX7_put_76 : decode cX7_put 76 = .ok (.putfield 156, 3) := by decide +kernel
theorem dX7_put_79 : decode cX7_put 79 = .ok (.aload_n 0, 1) := by decide +kernel
theorem dX7_put_80 : decode cX7_put 80 = .ok (.getfield 156, 3) := by decide +kernel
theorem dX7_put_83 : decode cX7_put 83 = .ok (.ireturn, 1) := by decide +kernel
theorem dX7_wipe_0 : decode cX7_wipe 0 = .ok (.aload_n 0, 1) := by decide +kernel
theorem dX7_wipe_1 : decode cX7_wipe 1 = .ok (.getfield 156, 3) := by decide +kernel
theorem dX7_wipe_4 : decode cX7_wipe 4 = .ok (.istore_n 1, 1) := by decide +kernel
theorem dX7_wipe_5 : decode cX7_wipe 5 = .ok (.aload_n 0, 1) := by decide +kernel
theorem dX7_wipe_6 : decode cX7_wipe 6 = .ok (.iconst 0, 1) := by decide +kernel
theorem dX7_wipe_7 : decode cX7_wipe 7 = .ok (.putfield 156, 3) := by decide +kernel
theorem dX7_wipe_10 : decode cX7_wipe 10 = .ok (.iload_n 1, 1) := by decide +kernel
theorem dX7_wipe_11 : decode cX7_wipe 11 = .ok (.ireturn, 1) := by decide +kernel
theorem dX7_isHere_0 : decode cX7_isHere 0 = .ok (.aload_n 0, 1) := by decide +kernel
theorem dX7_isHere_1 : decode cX7_isHere 1 = .ok (.getfield 199, 3) := by decide +kernel
theorem dX7_isHere_4 : decode cX7_isHere 4 = .ok (.aload_n 0, 1) := by decide +kernel
theorem dX7_isHere_5 : decode cX7_isHere 5 = .ok (.getfield 156, 3) := by decide +kernel
theorem dX7_isHere_8 : decode cX7_isHere 8 = .ok (.if_icmp .ge 27, 3) := by decide +kernel
theorem dX7_isHere_11 : decode cX7_isHere 11 = .ok (.aload_n 0, 1) := by decide +kernel
theorem dX7_isHere_12 : decode cX7_isHere 12 = .ok (.getfield 17, 3) := by decide +kernel
theorem dX7_isHere_15 : decode cX7_isHere 15 = .ok (.aload_n 0, 1) := by decide +kernel
theorem dX7_isHere_16 : decode cX7_isHere 16 = .ok (.getfield 199, 3) := by decide +kernel
theorem dX7_isHere_19 : decode cX7_isHere 19 = .ok (.iaload, 1) := by decide +kernel
theorem dX7_isHere_20 : decode cX7_isHere 20 = .ok (.i2l, 1) := by decide +kernel
theorem dX7_isHere_21 : decode cX7_isHere 21 = .ok (.iload_n 1, 1) := by decide +kernel
theorem dX7_isHere_22 : decode cX7_isHere 22 = .ok (.i2l, 1) := by decide +kernel
theorem dX7_isHere_23 : decode cX7_isHere 23 = .ok (.iload_n 2, 1) := by decide +kernel
theorem dX7_isHere_24 : decode cX7_isHere 24 = .ok (.i2l, 1) := by decide +kernel
theorem dX7_isHere_25 : decode cX7_isHere 25 = .ok (.invokestatic 81, 3) := by decide +kernel
theorem dX7_isHere_28 : decode cX7_isHere 28 = .ok (.ifCond .eq 7, 3) := by decide +kernel
theorem dX7_isHere_31 : decode cX7_isHere 31 = .ok (.iconst 1, 1) := by decide +kernel
theorem dX7_isHere_32 : decode cX7_isHere 32 = .ok (.goto 4, 3) := by decide +kernel
theorem dX7_isHere_35 : decode cX7_isHere 35 = .ok (.iconst 0, 1) := by decide +kernel
theorem dX7_isHere_36 : decode cX7_isHere 36 = .ok (.ireturn, 1) := by decide +kernel
theorem dX7_takes_0 : decode cX7_takes 0 = .ok (.aload_n 0, 1) := by decide +kernel
theorem dX7_takes_1 : decode cX7_takes 1 = .ok (.iload_n 1, 1) := by decide +kernel
theorem dX7_takes_2 : decode cX7_takes 2 = .ok (.iload_n 1, 1) := by decide +kernel
theorem dX7_takes_3 : decode cX7_takes 3 = .ok (.invokevirtual 202, 3) := by decide +kernel
theorem dX7_takes_6 : decode cX7_takes 6 = .ok (.istore_n 2, 1) := by decide +kernel
theorem dX7_takes_7 : decode cX7_takes 7 = .ok (.aload_n 0, 1) := by decide +kernel
theorem dX7_takes_8 : decode cX7_takes 8 = .ok (.dup, 1) := by decide +kernel
theorem dX7_takes_9 : decode cX7_takes 9 = .ok (.getfield 199, 3) := by decide +kernel
theorem dX7_takes_12 : decode cX7_takes 12 = .ok (.iload_n 2, 1) := by decide +kernel
theorem dX7_takes_13 : decode cX7_takes 13 = .ok (.ifCond .eq 7, 3) := by decide +kernel
theorem dX7_takes_16 : decode cX7_takes 16 = .ok (.iconst 1, 1) := by decide +kernel
theorem dX7_takes_17 : decode cX7_takes 17 = .ok (.goto 4, 3) := by decide +kernel
theorem dX7_takes_20 : decode cX7_takes 20 = .ok (.iconst 0, 1) := by decide +kernel
theorem dX7_takes_21 : decode cX7_takes 21 = .ok (.iadd, 1) := by decide +kernel
theorem dX7_takes_22 : decode cX7_takes 22 = .ok (.putfield 199, 3) := by decide +kernel
theorem dX7_takes_25 : decode cX7_takes 25 = .ok (.iload_n 2, 1) := by decide +kernel
theorem dX7_takes_26 : decode cX7_takes 26 = .ok (.ireturn, 1) := by decide +kernel
theorem dX7_digit_0 : decode cX7_digit 0 = .ok (.aload_n 0, 1) := by decide +kernel
theorem dX7_digit_1 : decode cX7_digit 1 = .ok (.bipush 48, 2) := by decide +kernel
theorem dX7_digit_3 : decode cX7_digit 3 = .ok (.bipush 57, 2) := by decide +kernel
theorem dX7_digit_5 : decode cX7_digit 5 = .ok (.invokevirtual 202, 3) := by decide +kernel
theorem dX7_digit_8 : decode cX7_digit 8 = .ok (.ifCond .eq 18, 3) := by decide +kernel
theorem dX7_digit_11 : decode cX7_digit 11 = .ok (.aload_n 0, 1) := by decide +kernel
theorem dX7_digit_12 : decode cX7_digit 12 = .ok (.getfield 17, 3) := by decide +kernel
theorem dX7_digit_15 : decode cX7_digit 15 = .ok (.aload_n 0, 1) := by decide +kernel
theorem dX7_digit_16 : decode cX7_digit 16 = .ok (.getfield 199, 3) := by decide +kernel
theorem dX7_digit_19 : decode cX7_digit 19 = .ok (.iaload, 1) := by decide +kernel
theorem dX7_digit_20 : decode cX7_digit 20 = .ok (.bipush 48, 2) := by decide +kernel
theorem dX7_digit_22 : decode cX7_digit 22 = .ok (.isub, 1) := by decide +kernel
theorem dX7_digit_23 : decode cX7_digit 23 = .ok (.goto 5, 3) := by decide +kernel
theorem dX7_digit_26 : decode cX7_digit 26 = .ok (.bipush (-6), 2) := by decide +kernel
theorem dX7_digit_28 : decode cX7_digit 28 = .ok (.istore_n 1, 1) := by decide +kernel
theorem dX7_digit_29 : decode cX7_digit 29 = .ok (.aload_n 0, 1) := by decide +kernel
theorem dX7_digit_30 : decode cX7_digit 30 = .ok (.dup, 1) := by decide +kernel
theorem dX7_digit_31 : decode cX7_digit 31 = .ok (.getfield 199, 3) := by decide +kernel
theorem dX7_digit_34 : decode cX7_digit 34 = .ok (.iload_n 1, 1) := by decide +kernel
theorem dX7_digit_35 : decode cX7_digit 35 = .ok (.bipush (-6), 2) := by decide +kernel
theorem dX7_digit_37 : decode cX7_digit 37 = .ok (.if_icmp .ne 7, 3) := by decide +kernel
theorem dX7_digit_40 : decode cX7_digit 40 = .ok (.iconst 0, 1) := by decide +kernel
theorem dX7_digit_41 : decode cX7_digit 41 = .ok (.goto 4, 3) := by decide +kernel
theorem dX7_digit_44 : decode cX7_digit 44 = .ok (.iconst 1, 1) := by decide +kernel
theorem dX7_digit_45 : decode cX7_digit 45 = .ok (.iadd, 1) := by decide +kernel
theorem dX7_digit_46 : decode cX7_digit 46 = .ok (.putfield 199, 3) := by decide +kernel
theorem dX7_digit_49 : decode cX7_digit 49 = .ok (.iload_n 1, 1) := by decide +kernel
theorem dX7_digit_50 : decode cX7_digit 50 = .ok (.ireturn, 1) := by decide +kernel
theorem dX7_number_0 : decode cX7_number 0 = .ok (.aload_n 0, 1) := by decide +kernel
theorem dX7_number_1 : decode cX7_number 1 = .ok (.invokevirtual 205, 3) := by decide +kernel
theorem dX7_number_4 : decode cX7_number 4 = .ok (.istore_n 1, 1) := by decide +kernel
theorem dX7_number_5 : decode cX7_number 5 = .ok (.iload_n 1, 1) := by decide +kernel
theorem dX7_number_6 : decode cX7_number 6 = .ok (.i2l, 1) := by decide +kernel
theorem dX7_number_7 : decode cX7_number 7 = .ok (.lconst 1, 1) := by decide +kernel
theorem dX7_number_8 : decode cX7_number 8 = .ok (.ldc2_w 208, 3) := by decide +kernel
theorem dX7_number_11 : decode cX7_number 11 = .ok (.invokestatic 81, 3) := by decide +kernel
theorem dX7_number_14 : decode cX7_number 14 = .ok (.ifCond .eq 45, 3) := by decide +kernel
theorem dX7_number_17 : decode cX7_number 17 = .ok (.aload_n 0, 1) := by decide +kernel
theorem dX7_number_18 : decode cX7_number 18 = .ok (.bipush 48, 2) := by decide +kernel
theorem dX7_number_20 : decode cX7_number 20 = .ok (.bipush 57, 2) := by decide +kernel
theorem dX7_number_22 : decode cX7_number 22 = .ok (.invokevirtual 202, 3) := by decide +kernel
theorem dX7_number_25 : decode cX7_number 25 = .ok (.ifCond .eq 34, 3) := by decide +kernel
theorem dX7_number_28 : decode cX7_number 28 = .ok (.bipush 10, 2) := by decide +kernel
theorem dX7_number_30 : decode cX7_number 30 = .ok (.iload_n 1, 1) := by decide +kernel
theorem dX7_number_31 : decode cX7_number 31 = .ok (.imul, 1) := by decide +kernel
theorem dX7_number_32 : decode cX7_number 32 = .ok (.aload_n 0, 1) := by decide +kernel
theorem dX7_number_33 : decode cX7_number 33 = .ok (.getfield 17, 3) := by decide +kernel
theorem dX7_number_36 : decode cX7_number 36 = .ok (.aload_n 0, 1) := by decide +kernel
theorem dX7_number_37 : decode cX7_number 37 = .ok (.getfield 199, 3) := by decide +kernel
theorem dX7_number_40 : decode cX7_number 40 = .ok (.iaload, 1) := by decide +kernel
theorem dX7_number_41 : decode cX7_number 41 = .ok (.iadd, 1) := by decide +kernel
theorem dX7_number_42 : decode cX7_number 42 = .ok (.bipush 48, 2) := by decide +kernel
theorem dX7_number_44 : decode cX7_number 44 = .ok (.isub, 1) := by decide +kernel
theorem dX7_number_45 : decode cX7_number 45 = .ok (.istore_n 1, 1) := by decide +kernel
theorem dX7_number_46 : decode cX7_number 46 = .ok (.aload_n 0, 1) := by decide +kernel
theorem dX7_number_47 : decode cX7_number 47 = .ok (.dup, 1) := by decide +kernel
theorem dX7_number_48 : decode cX7_number 48 = .ok (.getfield 199, 3) := by decide +kernel
theorem dX7_number_51 : decode cX7_number 51 = .ok (.iconst 1, 1) := by decide +kernel
theorem dX7_number_52 : decode cX7_number 52 = .ok (.iadd, 1) := by decide +kernel
theorem dX7_number_53 : decode cX7_number 53 = .ok (.putfield 199, 3) := by decide +kernel
theorem dX7_number_56 : decode cX7_number 56 = .ok (.goto (-51), 3) := by decide +kernel
theorem dX7_number_59 : decode cX7_number 59 = .ok (.iload_n 1, 1) := by decide +kernel
theorem dX7_number_60 : decode cX7_number 60 = .ok (.ireturn, 1) := by decide +kernel
theorem dX7_readsOne_0 : decode cX7_readsOne 0 = .ok (.aload_n 0, 1) := by decide +kernel
theorem dX7_readsOne_1 : decode cX7_readsOne 1 = .ok (.aload_n 0, 1) := by decide +kernel
theorem dX7_readsOne_2 : decode cX7_readsOne 2 = .ok (.invokevirtual 205, 3) := by decide +kernel
theorem dX7_readsOne_5 : decode cX7_readsOne 5 = .ok (.putfield 210, 3) := by decide +kernel
theorem dX7_readsOne_8 : decode cX7_readsOne 8 = .ok (.aload_n 0, 1) := by decide +kernel
theorem dX7_readsOne_9 : decode cX7_readsOne 9 = .ok (.getfield 210, 3) := by decide +kernel
theorem dX7_readsOne_12 : decode cX7_readsOne 12 = .ok (.bipush (-6), 2) := by decide +kernel
theorem dX7_readsOne_14 : decode cX7_readsOne 14 = .ok (.if_icmp .eq 7, 3) := by decide +kernel
theorem dX7_readsOne_17 : decode cX7_readsOne 17 = .ok (.iconst 1, 1) := by decide +kernel
theorem dX7_readsOne_18 : decode cX7_readsOne 18 = .ok (.goto 4, 3) := by decide +kernel
theorem dX7_readsOne_21 : decode cX7_readsOne 21 = .ok (.iconst 0, 1) := by decide +kernel
theorem dX7_readsOne_22 : decode cX7_readsOne 22 = .ok (.ireturn, 1) := by decide +kernel
theorem dX7_readsTwo_0 : decode cX7_readsTwo 0 = .ok (.aload_n 0, 1) := by decide +kernel
theorem dX7_readsTwo_1 : decode cX7_readsTwo 1 = .ok (.iload_n 1, 1) := by decide +kernel
theorem dX7_readsTwo_2 : decode cX7_readsTwo 2 = .ok (.ifCond .eq 10, 3) := by decide +kernel
theorem dX7_readsTwo_5 : decode cX7_readsTwo 5 = .ok (.aload_n 0, 1) := by decide +kernel
theorem dX7_readsTwo_6 : decode cX7_readsTwo 6 = .ok (.invokevirtual 205, 3) := by decide +kernel
theorem dX7_readsTwo_9 : decode cX7_readsTwo 9 = .ok (.goto 7, 3) := by decide +kernel
theorem dX7_readsTwo_12 : decode cX7_readsTwo 12 = .ok (.aload_n 0, 1) := by decide +kernel
theorem dX7_readsTwo_13 : decode cX7_readsTwo 13 = .ok (.invokevirtual 213, 3) := by decide +kernel
theorem dX7_readsTwo_16 : decode cX7_readsTwo 16 = .ok (.putfield 216, 3) := by decide +kernel
theorem dX7_readsTwo_19 : decode cX7_readsTwo 19 = .ok (.aload_n 0, 1) := by decide +kernel
theorem dX7_readsTwo_20 : decode cX7_readsTwo 20 = .ok (.getfield 216, 3) := by decide +kernel
theorem dX7_readsTwo_23 : decode cX7_readsTwo 23 = .ok (.bipush (-6), 2) := by decide +kernel
theorem dX7_readsTwo_25 : decode cX7_readsTwo 25 = .ok (.if_icmp .eq 7, 3) := by decide +kernel
theorem dX7_readsTwo_28 : decode cX7_readsTwo 28 = .ok (.iconst 1, 1) := by decide +kernel
theorem dX7_readsTwo_29 : decode cX7_readsTwo 29 = .ok (.goto 4, 3) := by decide +kernel
theorem dX7_readsTwo_32 : decode cX7_readsTwo 32 = .ok (.iconst 0, 1) := by decide +kernel
theorem dX7_readsTwo_33 : decode cX7_readsTwo 33 = .ok (.ireturn, 1) := by decide +kernel
theorem dX7_readsThree_0 : decode cX7_readsThree 0 = .ok (.aload_n 0, 1) := by decide +kernel
theorem dX7_readsThree_1 : decode cX7_readsThree 1 = .ok (.aload_n 0, 1) := by decide +kernel
theorem dX7_readsThree_2 : decode cX7_readsThree 2 = .ok (.invokevirtual 213, 3) := by decide +kernel
theorem dX7_readsThree_5 : decode cX7_readsThree 5 = .ok (.putfield 219, 3) := by decide +kernel
theorem dX7_readsThree_8 : decode cX7_readsThree 8 = .ok (.aload_n 0, 1) := by decide +kernel
theorem dX7_readsThree_9 : decode cX7_readsThree 9 = .ok (.getfield 219, 3) := by decide +kernel
theorem dX7_readsThree_12 : decode cX7_readsThree 12 = .ok (.bipush (-6), 2) := by decide +kernel
theorem dX7_readsThree_14 : decode cX7_readsThree 14 = .ok (.if_icmp .eq 7, 3) := by decide +kernel
theorem dX7_readsThree_17 : decode cX7_readsThree 17 = .ok (.iconst 1, 1) := by decide +kernel
theorem dX7_readsThree_18 : decode cX7_readsThree 18 = .ok (.goto 4, 3) := by decide +kernel
theorem dX7_readsThree_21 : decode cX7_readsThree 21 = .ok (.iconst 0, 1) := by decide +kernel
theorem dX7_readsThree_22 : decode cX7_readsThree 22 = .ok (.ireturn, 1) := by decide +kernel
theorem dX7_readsOrder_0 : decode cX7_readsOrder 0 = .ok (.aload_n 0, 1) := by decide +kernel
theorem dX7_readsOrder_1 : decode cX7_readsOrder 1 = .ok (.aload_n 0, 1) := by decide +kernel
theorem dX7_readsOrder_2 : decode cX7_readsOrder 2 = .ok (.getfield 199, 3) := by decide +kernel
theorem dX7_readsOrder_5 : decode cX7_readsOrder 5 = .ok (.aload_n 0, 1) := by decide +kernel
theorem dX7_readsOrder_6 : decode cX7_readsOrder 6 = .ok (.getfield 156, 3) := by decide +kernel
theorem dX7_readsOrder_9 : decode cX7_readsOrder 9 = .ok (.if_icmp .ge 16, 3) := by decide +kernel
theorem dX7_readsOrder_12 : decode cX7_readsOrder 12 = .ok (.aload_n 0, 1) := by decide +kernel
theorem dX7_readsOrder_13 : decode cX7_readsOrder 13 = .ok (.getfield 17, 3) := by decide +kernel
theorem dX7_readsOrder_16 : decode cX7_readsOrder 16 = .ok (.aload_n 0, 1) := by decide +kernel
theorem dX7_readsOrder_17 : decode cX7_readsOrder 17 = .ok (.getfield 199, 3) := by decide +kernel
theorem dX7_readsOrder_20 : decode cX7_readsOrder 20 = .ok (.iaload, 1) := by decide +kernel
theorem dX7_readsOrder_21 : decode cX7_readsOrder 21 = .ok (.i2c, 1) := by decide +kernel
theorem dX7_readsOrder_22 : decode cX7_readsOrder 22 = .ok (.goto 5, 3) := by decide +kernel
theorem dX7_readsOrder_25 : decode cX7_readsOrder 25 = .ok (.bipush 32, 2) := by decide +kernel
theorem dX7_readsOrder_27 : decode cX7_readsOrder 27 = .ok (.putfield 222, 3) := by decide +kernel
theorem dX7_readsOrder_30 : decode cX7_readsOrder 30 = .ok (.aload_n 0, 1) := by decide +kernel
theorem dX7_readsOrder_31 : decode cX7_readsOrder 31 = .ok (.dup, 1) := by decide +kernel
theorem dX7_readsOrder_32 : decode cX7_readsOrder 32 = .ok (.getfield 199, 3) := by decide +kernel
theorem dX7_readsOrder_35 : decode cX7_readsOrder 35 = .ok (.iconst 1, 1) := by decide +kernel
theorem dX7_readsOrder_36 : decode cX7_readsOrder 36 = .ok (.iadd, 1) := by decide +kernel
theorem dX7_readsOrder_37 : decode cX7_readsOrder 37 = .ok (.putfield 199, 3) := by decide +kernel
theorem dX7_readsOrder_40 : decode cX7_readsOrder 40 = .ok (.aload_n 0, 1) := by decide +kernel
theorem dX7_readsOrder_41 : decode cX7_readsOrder 41 = .ok (.getfield 222, 3) := by decide +kernel
theorem dX7_readsOrder_44 : decode cX7_readsOrder 44 = .ok (.tableswitch 228 98 112 #[76, 113, 228, 228, 228, 142, 188, 228, 228, 228, 218, 228, 228, 228, 223], 76) := by decide +kernel
theorem dX7_readsOrder_120 : decode cX7_readsOrder 120 = .ok (.aload_n 0, 1) := by decide +kernel
theorem dX7_readsOrder_121 : decode cX7_readsOrder 121 = .ok (.invokevirtual 226, 3) := by decide +kernel
theorem dX7_readsOrder_124 : decode cX7_readsOrder 124 = .ok (.ifCond .eq 31, 3) := by decide +kernel
theorem dX7_readsOrder_127 : decode cX7_readsOrder 127 = .ok (.aload_n 0, 1) := by decide +kernel
theorem dX7_readsOrder_128 : decode cX7_readsOrder 128 = .ok (.iconst 1, 1) := by decide +kernel
theorem dX7_readsOrder_129 : decode cX7_readsOrder 129 = .ok (.invokevirtual 230, 3) := by decide +kernel
theorem dX7_readsOrder_132 : decode cX7_readsOrder 132 = .ok (.ifCond .eq 23, 3) := by decide +kernel
theorem dX7_readsOrder_135 : decode cX7_readsOrder 135 = .ok (.aload_n 0, 1) := by decide +kernel
theorem dX7_readsOrder_136 : decode cX7_readsOrder 136 = .ok (.bipush 42, 2) := by decide +kernel
theorem dX7_readsOrder_138 : decode cX7_readsOrder 138 = .ok (.invokevirtual 234, 3) := by decide +kernel
theorem dX7_readsOrder_141 : decode cX7_readsOrder 141 = .ok (.ifCond .eq 14, 3) := by decide +kernel
theorem dX7_readsOrder_144 : decode cX7_readsOrder 144 = .ok (.aload_n 0, 1) := by decide +kernel
theorem dX7_readsOrder_145 : decode cX7_readsOrder 145 = .ok (.invokevirtual 237, 3) := by decide +kernel
theorem dX7_readsOrder_148 : decode cX7_readsOrder 148 = .ok (.ifCond .eq 7, 3) := by decide +kernel
theorem dX7_readsOrder_151 : decode cX7_readsOrder 151 = .ok (.iconst 1, 1) := by decide +kernel
theorem dX7_readsOrder_152 : decode cX7_readsOrder 152 = .ok (.goto 4, 3) := by decide +kernel
theorem dX7_readsOrder_155 : decode cX7_readsOrder 155 = .ok (.iconst 0, 1) := by decide +kernel
theorem dX7_readsOrder_156 : decode cX7_readsOrder 156 = .ok (.ireturn, 1) := by decide +kernel
theorem dX7_readsOrder_157 : decode cX7_readsOrder 157 = .ok (.aload_n 0, 1) := by decide +kernel
theorem dX7_readsOrder_158 : decode cX7_readsOrder 158 = .ok (.invokevirtual 226, 3) := by decide +kernel
theorem dX7_readsOrder_161 : decode cX7_readsOrder 161 = .ok (.ifCond .eq 23, 3) := by decide +kernel
theorem dX7_readsOrder_164 : decode cX7_readsOrder 164 = .ok (.aload_n 0, 1) := by decide +kernel
theorem dX7_readsOrder_165 : decode cX7_readsOrder 165 = .ok (.bipush 42, 2) := by decide +kernel
theorem dX7_readsOrder_167 : decode cX7_readsOrder 167 = .ok (.invokevirtual 234, 3) := by decide +kernel
theorem dX7_readsOrder_170 : decode cX7_readsOrder 170 = .ok (.ifCond .eq 14, 3) := by decide +kernel
theorem dX7_readsOrder_173 : decode cX7_readsOrder 173 = .ok (.aload_n 0, 1) := by decide +kernel
theorem dX7_readsOrder_174 : decode cX7_readsOrder 174 = .ok (.invokevirtual 237, 3) := by decide +kernel
theorem dX7_readsOrder_177 : decode cX7_readsOrder 177 = .ok (.ifCond .eq 7, 3) := by decide +kernel
theorem dX7_readsOrder_180 : decode cX7_readsOrder 180 = .ok (.iconst 1, 1) := by decide +kernel
theorem dX7_readsOrder_181 : decode cX7_readsOrder 181 = .ok (.goto 4, 3) := by decide +kernel
theorem dX7_readsOrder_184 : decode cX7_readsOrder 184 = .ok (.iconst 0, 1) := by decide +kernel
theorem dX7_readsOrder_185 : decode cX7_readsOrder 185 = .ok (.ireturn, 1) := by decide +kernel
theorem dX7_readsOrder_186 : decode cX7_readsOrder 186 = .ok (.aload_n 0, 1) := by decide +kernel
theorem dX7_readsOrder_187 : decode cX7_readsOrder 187 = .ok (.invokevirtual 226, 3) := by decide +kernel
theorem dX7_readsOrder_190 : decode cX7_readsOrder 190 = .ok (.ifCond .eq 40, 3) := by decide +kernel
theorem dX7_readsOrder_193 : decode cX7_readsOrder 193 = .ok (.aload_n 0, 1) := by decide +kernel
theorem dX7_readsOrder_194 : decode cX7_readsOrder 194 = .ok (.bipush 58, 2) := by decide +kernel
theorem dX7_readsOrder_196 : decode cX7_readsOrder 196 = .ok (.invokevirtual 234, 3) := by decide +kernel
theorem dX7_readsOrder_199 : decode cX7_readsOrder 199 = .ok (.ifCond .eq 31, 3) := by decide +kernel
theorem dX7_readsOrder_202 : decode cX7_readsOrder 202 = .ok (.aload_n 0, 1) := by decide +kernel
theorem dX7_readsOrder_203 : decode cX7_readsOrder 203 = .ok (.iconst 0, 1) := by decide +kernel
theorem dX7_readsOrder_204 : decode cX7_readsOrder 204 = .ok (.invokevirtual 230, 3) := by decide +kernel
theorem dX7_readsOrder_207 : decode cX7_readsOrder 207 = .ok (.ifCond .eq 23, 3) := by decide +kernel
theorem dX7_readsOrder_210 : decode cX7_readsOrder 210 = .ok (.aload_n 0, 1) := by decide +kernel
theorem dX7_readsOrder_211 : decode cX7_readsOrder 211 = .ok (.bipush 61, 2) := by decide +kernel
theorem dX7_readsOrder_213 : decode cX7_readsOrder 213 = .ok (.invokevirtual 234, 3) := by decide +kernel
theorem dX7_readsOrder_216 : decode cX7_readsOrder 216 = .ok (.ifCond .eq 14, 3) := by decide +kernel
theorem dX7_readsOrder_219 : decode cX7_readsOrder 219 = .ok (.aload_n 0, 1) := by decide +kernel
theorem dX7_readsOrder_220 : decode cX7_readsOrder 220 = .ok (.invokevirtual 237, 3) := by decide +kernel
theorem dX7_readsOrder_223 : decode cX7_readsOrder 223 = .ok (.ifCond .eq 7, 3) := by decide +kernel
theorem dX7_readsOrder_226 : decode cX7_readsOrder 226 = .ok (.iconst 1, 1) := by decide +kernel
theorem dX7_readsOrder_227 : decode cX7_readsOrder 227 = .ok (.goto 4, 3) := by decide +kernel
theorem dX7_readsOrder_230 : decode cX7_readsOrder 230 = .ok (.iconst 0, 1) := by decide +kernel
theorem dX7_readsOrder_231 : decode cX7_readsOrder 231 = .ok (.ireturn, 1) := by decide +kernel
theorem dX7_readsOrder_232 : decode cX7_readsOrder 232 = .ok (.aload_n 0, 1) := by decide +kernel
theorem dX7_readsOrder_233 : decode cX7_readsOrder 233 = .ok (.invokevirtual 226, 3) := by decide +kernel
theorem dX7_readsOrder_236 : decode cX7_readsOrder 236 = .ok (.ifCond .eq 24, 3) := by decide +kernel
theorem dX7_readsOrder_239 : decode cX7_readsOrder 239 = .ok (.aload_n 0, 1) := by decide +kernel
theorem dX7_readsOrder_240 : decode cX7_readsOrder 240 = .ok (.bipush 58, 2) := by decide +kernel
theorem dX7_readsOrder_242 : decode cX7_readsOrder 242 = .ok (.invokevirtual 234, 3) := by decide +kernel
theorem dX7_readsOrder_245 : decode cX7_readsOrder 245 = .ok (.ifCond .eq 15, 3) := by decide +kernel
theorem dX7_readsOrder_248 : decode cX7_readsOrder 248 = .ok (.aload_n 0, 1) := by decide +kernel
theorem dX7_readsOrder_249 : decode cX7_readsOrder 249 = .ok (.iconst 0, 1) := by decide +kernel
theorem dX7_readsOrder_250 : decode cX7_readsOrder 250 = .ok (.invokevirtual 230, 3) := by decide +kernel
theorem dX7_readsOrder_253 : decode cX7_readsOrder 253 = .ok (.ifCond .eq 7, 3) := by decide +kernel
theorem dX7_readsOrder_256 : decode cX7_readsOrder 256 = .ok (.iconst 1, 1) := by decide +kernel
theorem dX7_readsOrder_257 : decode cX7_readsOrder 257 = .ok (.goto 4, 3) := by decide +kernel
theorem dX7_readsOrder_260 : decode cX7_readsOrder 260 = .ok (.iconst 0, 1) := by decide +kernel
theorem dX7_readsOrder_261 : decode cX7_readsOrder 261 = .ok (.ireturn, 1) := by decide +kernel
theorem dX7_readsOrder_262 : decode cX7_readsOrder 262 = .ok (.aload_n 0, 1) := by decide +kernel
theorem dX7_readsOrder_263 : decode cX7_readsOrder 263 = .ok (.invokevirtual 226, 3) := by decide +kernel
theorem dX7_readsOrder_266 : decode cX7_readsOrder 266 = .ok (.ireturn, 1) := by decide +kernel
theorem dX7_readsOrder_267 : decode cX7_readsOrder 267 = .ok (.aload_n 0, 1) := by decide +kernel
theorem dX7_readsOrder_268 : decode cX7_readsOrder 268 = .ok (.invokevirtual 237, 3) := by decide +kernel
theorem dX7_readsOrder_271 : decode cX7_readsOrder 271 = .ok (.ireturn, 1) := by decide +kernel
theorem dX7_readsOrder_272 : decode cX7_readsOrder 272 = .ok (.aload_n 0, 1) := by decide +kernel
theorem dX7_readsOrder_273 : decode cX7_readsOrder 273 = .ok (.dup, 1) := by decide +kernel
theorem dX7_readsOrder_274 : decode cX7_readsOrder 274 = .ok (.getfield 199, 3) := by decide +kernel
theorem dX7_readsOrder_277 : decode cX7_readsOrder 277 = .ok (.iconst 1, 1) := by decide +kernel
theorem dX7_readsOrder_278 : decode cX7_readsOrder 278 = .ok (.isub, 1) := by decide +kernel
theorem dX7_readsOrder_279 : decode cX7_readsOrder 279 = .ok (.putfield 199, 3) := by decide +kernel
theorem dX7_readsOrder_282 : decode cX7_readsOrder 282 = .ok (.iconst 0, 1) := by decide +kernel
theorem dX7_readsOrder_283 : decode cX7_readsOrder 283 = .ok (.ireturn, 1) := by decide +kernel
theorem dX7_fault_0 : decode cX7_fault 0 = .ok (.aload_n 0, 1) := by decide +kernel
theorem dX7_fault_1 : decode cX7_fault 1 = .ok (.iconst 0, 1) := by decide +kernel
theorem dX7_fault_2 : decode cX7_fault 2 = .ok (.putfield 199, 3) := by decide +kernel
theorem dX7_fault_5 : decode cX7_fault 5 = .ok (.iconst 1, 1) := by decide +kernel
theorem dX7_fault_6 : decode cX7_fault 6 = .ok (.istore_n 1, 1) := by decide +kernel
theorem dX7_fault_7 : decode cX7_fault 7 = .ok (.iload_n 1, 1) := by decide +kernel
theorem dX7_fault_8 : decode cX7_fault 8 = .ok (.ifCond .eq 25, 3) := by decide +kernel
theorem dX7_fault_11 : decode cX7_fault 11 = .ok (.aload_n 0, 1) := by decide +kernel
theorem dX7_fault_12 : decode cX7_fault 12 = .ok (.invokevirtual 240, 3) := by decide +kernel
theorem dX7_fault_15 : decode cX7_fault 15 = .ok (.ifCond .ne 8, 3) := by decide +kernel
theorem dX7_fault_18 : decode cX7_fault 18 = .ok (.aload_n 0, 1) := by decide +kernel
theorem dX7_fault_19 : decode cX7_fault 19 = .ok (.getfield 199, 3) := by decide +kernel
theorem dX7_fault_22 : decode cX7_fault 22 = .ok (.ireturn, 1) := by decide +kernel
theorem dX7_fault_23 : decode cX7_fault 23 = .ok (.aload_n 0, 1) := by decide +kernel
theorem dX7_fault_24 : decode cX7_fault 24 = .ok (.bipush 59, 2) := by decide +kernel
theorem dX7_fault_26 : decode cX7_fault 26 = .ok (.invokevirtual 234, 3) := by decide +kernel
theorem dX7_fault_29 : decode cX7_fault 29 = .ok (.istore_n 1, 1) := by decide +kernel
theorem dX7_fault_30 : decode cX7_fault 30 = .ok (.goto (-23), 3) := by decide +kernel
theorem dX7_fault_33 : decode cX7_fault 33 = .ok (.aload_n 0, 1) := by decide +kernel
theorem dX7_fault_34 : decode cX7_fault 34 = .ok (.getfield 199, 3) := by decide +kernel
theorem dX7_fault_37 : decode cX7_fault 37 = .ok (.aload_n 0, 1) := by decide +kernel
theorem dX7_fault_38 : decode cX7_fault 38 = .ok (.getfield 156, 3) := by decide +kernel
theorem dX7_fault_41 : decode cX7_fault 41 = .ok (.if_icmp .ne 8, 3) := by decide +kernel
theorem dX7_fault_44 : decode cX7_fault 44 = .ok (.bipush (-6), 2) := by decide +kernel
theorem dX7_fault_46 : decode cX7_fault 46 = .ok (.goto 7, 3) := by decide +kernel
theorem dX7_fault_49 : decode cX7_fault 49 = .ok (.aload_n 0, 1) := by decide +kernel
theorem dX7_fault_50 : decode cX7_fault 50 = .ok (.getfield 199, 3) := by decide +kernel
theorem dX7_fault_53 : decode cX7_fault 53 = .ok (.ireturn, 1) := by decide +kernel
theorem dX7_orderError_0 : decode cX7_orderError 0 = .ok (.aload_n 0, 1) := by decide +kernel
theorem dX7_orderError_1 : decode cX7_orderError 1 = .ok (.getfield 222, 3) := by decide +kernel
theorem dX7_orderError_4 : decode cX7_orderError 4 = .ok (.tableswitch 129 98 108 #[60, 77, 129, 129, 129, 90, 107, 129, 129, 129, 120], 60) := by decide +kernel
theorem dX7_orderError_64 : decode cX7_orderError 64 = .ok (.aload_n 0, 1) := by decide +kernel
theorem dX7_orderError_65 : decode cX7_orderError 65 = .ok (.aload_n 0, 1) := by decide +kernel
theorem dX7_orderError_66 : decode cX7_orderError 66 = .ok (.getfield 210, 3) := by decide +kernel
theorem dX7_orderError_69 : decode cX7_orderError 69 = .ok (.aload_n 0, 1) := by decide +kernel
theorem dX7_orderError_70 : decode cX7_orderError 70 = .ok (.getfield 216, 3) := by decide +kernel
theorem dX7_orderError_73 : decode cX7_orderError 73 = .ok (.aload_n 0, 1) := by decide +kernel
theorem dX7_orderError_74 : decode cX7_orderError 74 = .ok (.getfield 219, 3) := by decide +kernel
theorem dX7_orderError_77 : decode cX7_orderError 77 = .ok (.invokevirtual 120, 3) := by decide +kernel
theorem dX7_orderError_80 : decode cX7_orderError 80 = .ok (.ireturn, 1) := by decide +kernel
theorem dX7_orderError_81 : decode cX7_orderError 81 = .ok (.aload_n 0, 1) := by decide +kernel
theorem dX7_orderError_82 : decode cX7_orderError 82 = .ok (.aload_n 0, 1) := by decide +kernel
theorem dX7_orderError_83 : decode cX7_orderError 83 = .ok (.getfield 210, 3) := by decide +kernel
theorem dX7_orderError_86 : decode cX7_orderError 86 = .ok (.aload_n 0, 1) := by decide +kernel
theorem dX7_orderError_87 : decode cX7_orderError 87 = .ok (.getfield 219, 3) := by decide +kernel
theorem dX7_orderError_90 : decode cX7_orderError 90 = .ok (.invokevirtual 126, 3) := by decide +kernel
theorem dX7_orderError_93 : decode cX7_orderError 93 = .ok (.ireturn, 1) := by decide +kernel
theorem dX7_orderError_94 : decode cX7_orderError 94 = .ok (.aload_n 0, 1) := by decide +kernel
theorem dX7_orderError_95 : decode cX7_orderError 95 = .ok (.aload_n 0, 1) := by decide +kernel
theorem dX7_orderError_96 : decode cX7_orderError 96 = .ok (.getfield 210, 3) := by decide +kernel
theorem dX7_orderError_99 : decode cX7_orderError 99 = .ok (.aload_n 0, 1) := by decide +kernel
theorem dX7_orderError_100 : decode cX7_orderError 100 = .ok (.getfield 216, 3) := by decide +kernel
theorem dX7_orderError_103 : decode cX7_orderError 103 = .ok (.aload_n 0, 1) := by decide +kernel
theorem dX7_orderError_104 : decode cX7_orderError 104 = .ok (.getfield 219, 3) := by decide +kernel
theorem dX7_orderError_107 : decode cX7_orderError 107 = .ok (.invokevirtual 132, 3) := by decide +kernel
theorem dX7_orderError_110 : decode cX7_orderError 110 = .ok (.ireturn, 1) := by decide +kernel
theorem dX7_orderError_111 : decode cX7_orderError 111 = .ok (.aload_n 0, 1) := by decide +kernel
theorem dX7_orderError_112 : decode cX7_orderError 112 = .ok (.aload_n 0, 1) := by decide +kernel
theorem dX7_orderError_113 : decode cX7_orderError 113 = .ok (.getfield 210, 3) := by decide +kernel
theorem dX7_orderError_116 : decode cX7_orderError 116 = .ok (.aload_n 0, 1) := by decide +kernel
theorem dX7_orderError_117 : decode cX7_orderError 117 = .ok (.getfield 216, 3) := by decide +kernel
theorem dX7_orderError_120 : decode cX7_orderError 120 = .ok (.invokevirtual 144, 3) := by decide +kernel
theorem dX7_orderError_123 : decode cX7_orderError 123 = .ok (.ireturn, 1) := by decide +kernel
theorem dX7_orderError_124 : decode cX7_orderError 124 = .ok (.aload_n 0, 1) := by decide +kernel
theorem dX7_orderError_125 : decode cX7_orderError 125 = .ok (.aload_n 0, 1) := by decide +kernel
theorem dX7_orderError_126 : decode cX7_orderError 126 = .ok (.getfield 210, 3) := by decide +kernel
theorem dX7_orderError_129 : decode cX7_orderError 129 = .ok (.invokevirtual 138, 3) := by decide +kernel
theorem dX7_orderError_132 : decode cX7_orderError 132 = .ok (.ireturn, 1) := by decide +kernel
theorem dX7_orderError_133 : decode cX7_orderError 133 = .ok (.aload_n 0, 1) := by decide +kernel
theorem dX7_orderError_134 : decode cX7_orderError 134 = .ok (.aload_n 0, 1) := by decide +kernel
theorem dX7_orderError_135 : decode cX7_orderError 135 = .ok (.getfield 219, 3) := by decide +kernel
theorem dX7_orderError_138 : decode cX7_orderError 138 = .ok (.invokevirtual 150, 3) := by decide +kernel
theorem dX7_orderError_141 : decode cX7_orderError 141 = .ok (.ireturn, 1) := by decide +kernel
theorem dX7_does_0 : decode cX7_does 0 = .ok (.aload_n 0, 1) := by decide +kernel
theorem dX7_does_1 : decode cX7_does 1 = .ok (.getfield 222, 3) := by decide +kernel
theorem dX7_does_4 : decode cX7_does 4 = .ok (.tableswitch 129 98 108 #[60, 77, 129, 129, 129, 90, 107, 129, 129, 129, 120], 60) := by decide +kernel
theorem dX7_does_64 : decode cX7_does 64 = .ok (.aload_n 0, 1) := by decide +kernel
theorem dX7_does_65 : decode cX7_does 65 = .ok (.aload_n 0, 1) := by decide +kernel
theorem dX7_does_66 : decode cX7_does 66 = .ok (.getfield 210, 3) := by decide +kernel
theorem dX7_does_69 : decode cX7_does 69 = .ok (.aload_n 0, 1) := by decide +kernel
theorem dX7_does_70 : decode cX7_does 70 = .ok (.getfield 216, 3) := by decide +kernel
theorem dX7_does_73 : decode cX7_does 73 = .ok (.aload_n 0, 1) := by decide +kernel
theorem dX7_does_74 : decode cX7_does 74 = .ok (.getfield 219, 3) := by decide +kernel
theorem dX7_does_77 : decode cX7_does 77 = .ok (.invokevirtual 123, 3) := by decide +kernel
theorem dX7_does_80 : decode cX7_does 80 = .ok (.ireturn, 1) := by decide +kernel
theorem dX7_does_81 : decode cX7_does 81 = .ok (.aload_n 0, 1) := by decide +kernel
theorem dX7_does_82 : decode cX7_does 82 = .ok (.aload_n 0, 1) := by decide +kernel
theorem dX7_does_83 : decode cX7_does 83 = .ok (.getfield 210, 3) := by decide +kernel
theorem dX7_does_86 : decode cX7_does 86 = .ok (.aload_n 0, 1) := by decide +kernel
theorem dX7_does_87 : decode cX7_does 87 = .ok (.getfield 219, 3) := by decide +kernel
theorem dX7_does_90 : decode cX7_does 90 = .ok (.invokevirtual 129, 3) := by decide +kernel
theorem dX7_does_93 : decode cX7_does 93 = .ok (.ireturn, 1) := by decide +kernel
theorem dX7_does_94 : decode cX7_does 94 = .ok (.aload_n 0, 1) := by decide +kernel
theorem dX7_does_95 : decode cX7_does 95 = .ok (.aload_n 0, 1) := by decide +kernel
theorem dX7_does_96 : decode cX7_does 96 = .ok (.getfield 210, 3) := by decide +kernel
theorem dX7_does_99 : decode cX7_does 99 = .ok (.aload_n 0, 1) := by decide +kernel
theorem dX7_does_100 : decode cX7_does 100 = .ok (.getfield 216, 3) := by decide +kernel
theorem dX7_does_103 : decode cX7_does 103 = .ok (.aload_n 0, 1) := by decide +kernel
theorem dX7_does_104 : decode cX7_does 104 = .ok (.getfield 219, 3) := by decide +kernel
theorem dX7_does_107 : decode cX7_does 107 = .ok (.invokevirtual 135, 3) := by decide +kernel
theorem dX7_does_110 : decode cX7_does 110 = .ok (.ireturn, 1) := by decide +kernel
theorem dX7_does_111 : decode cX7_does 111 = .ok (.aload_n 0, 1) := by decide +kernel
theorem dX7_does_112 : decode cX7_does 112 = .ok (.aload_n 0, 1) := by decide +kernel
theorem dX7_does_113 : decode cX7_does 113 = .ok (.getfield 210, 3) := by decide +kernel
theorem dX7_does_116 : decode cX7_does 116 = .ok (.aload_n 0, 1) := by decide +kernel
theorem dX7_does_117 : decode cX7_does 117 = .ok (.getfield 216, 3) := by decide +kernel
theorem dX7_does_120 : decode cX7_does 120 = .ok (.invokevirtual 147, 3) := by decide +kernel
theorem dX7_does_123 : decode cX7_does 123 = .ok (.ireturn, 1) := by decide +kernel
theorem dX7_does_124 : decode cX7_does 124 = .ok (.aload_n 0, 1) := by decide +kernel
theorem dX7_does_125 : decode cX7_does 125 = .ok (.aload_n 0, 1) := by decide +kernel
theorem dX7_does_126 : decode cX7_does 126 = .ok (.getfield 210, 3) := by decide +kernel
theorem dX7_does_129 : decode cX7_does 129 = .ok (.invokevirtual 141, 3) := by decide +kernel
theorem dX7_does_132 : decode cX7_does 132 = .ok (.ireturn, 1) := by decide +kernel
theorem dX7_does_133 : decode cX7_does 133 = .ok (.aload_n 0, 1) := by decide +kernel
theorem dX7_does_134 : decode cX7_does 134 = .ok (.iconst 0, 1) := by decide +kernel
theorem dX7_does_135 : decode cX7_does 135 = .ok (.aload_n 0, 1) := by decide +kernel
theorem dX7_does_136 : decode cX7_does 136 = .ok (.getfield 219, 3) := by decide +kernel
theorem dX7_does_139 : decode cX7_does 139 = .ok (.invokevirtual 153, 3) := by decide +kernel
theorem dX7_does_142 : decode cX7_does 142 = .ok (.ireturn, 1) := by decide +kernel
theorem dX7_carryOut_0 : decode cX7_carryOut 0 = .ok (.aload_n 0, 1) := by decide +kernel
theorem dX7_carryOut_1 : decode cX7_carryOut 1 = .ok (.invokevirtual 243, 3) := by decide +kernel
theorem dX7_carryOut_4 : decode cX7_carryOut 4 = .ok (.bipush (-6), 2) := by decide +kernel
theorem dX7_carryOut_6 : decode cX7_carryOut 6 = .ok (.if_icmp .eq 6, 3) := by decide +kernel
theorem dX7_carryOut_9 : decode cX7_carryOut 9 = .ok (.bipush (-3), 2) := by decide +kernel
theorem dX7_carryOut_11 : decode cX7_carryOut 11 = .ok (.ireturn, 1) := by decide +kernel
theorem dX7_carryOut_12 : decode cX7_carryOut 12 = .ok (.aload_n 0, 1) := by decide +kernel
theorem dX7_carryOut_13 : decode cX7_carryOut 13 = .ok (.invokevirtual 117, 3) := by decide +kernel
theorem dX7_carryOut_16 : decode cX7_carryOut 16 = .ok (.aload_n 0, 1) := by decide +kernel
theorem dX7_carryOut_17 : decode cX7_carryOut 17 = .ok (.iconst 0, 1) := by decide +kernel
theorem dX7_carryOut_18 : decode cX7_carryOut 18 = .ok (.putfield 199, 3) := by decide +kernel
theorem dX7_carryOut_21 : decode cX7_carryOut 21 = .ok (.iconst 0, 1) := by decide +kernel
theorem dX7_carryOut_22 : decode cX7_carryOut 22 = .ok (.istore_n 1, 1) := by decide +kernel
theorem dX7_carryOut_23 : decode cX7_carryOut 23 = .ok (.iconst 1, 1) := by decide +kernel
theorem dX7_carryOut_24 : decode cX7_carryOut 24 = .ok (.istore_n 2, 1) := by decide +kernel
theorem dX7_carryOut_25 : decode cX7_carryOut 25 = .ok (.iload_n 2, 1) := by decide +kernel
theorem dX7_carryOut_26 : decode cX7_carryOut 26 = .ok (.ifCond .eq 72, 3) := by decide +kernel
theorem dX7_carryOut_29 : decode cX7_carryOut 29 = .ok (.aload_n 0, 1) := by decide +kernel
theorem dX7_carryOut_30 : decode cX7_carryOut 30 = .ok (.invokevirtual 240, 3) := by decide +kernel
theorem dX7_carryOut_33 : decode cX7_carryOut 33 = .ok (.ifCond .eq 14, 3) := by decide +kernel
theorem dX7_carryOut_36 : decode cX7_carryOut 36 = .ok (.aload_n 0, 1) := by decide +kernel
theorem dX7_carryOut_37 : decode cX7_carryOut 37 = .ok (.invokevirtual 246, 3) := by decide +kernel
theorem dX7_carryOut_40 : decode cX7_carryOut 40 = .ok (.ifCond .ne 7, 3) := by decide +kernel
theorem dX7_carryOut_43 : decode cX7_carryOut 43 = .ok (.iconst 1, 1) := by decide +kernel
theorem dX7_carryOut_44 : decode cX7_carryOut 44 = .ok (.goto 4, 3) := by decide +kernel
theorem dX7_carryOut_47 : decode cX7_carryOut 47 = .ok (.iconst 0, 1) := by decide +kernel
theorem dX7_carryOut_48 : decode cX7_carryOut 48 = .ok (.istore_n 3, 1) := by decide +kernel
theorem dX7_carryOut_49 : decode cX7_carryOut 49 = .ok (.iload_n 3, 1) := by decide +kernel
theorem dX7_carryOut_50 : decode cX7_carryOut 50 = .ok (.ifCond .eq 10, 3) := by decide +kernel
theorem dX7_carryOut_53 : decode cX7_carryOut 53 = .ok (.aload_n 0, 1) := by decide +kernel
theorem dX7_carryOut_54 : decode cX7_carryOut 54 = .ok (.invokevirtual 249, 3) := by decide +kernel
theorem dX7_carryOut_57 : decode cX7_carryOut 57 = .ok (.goto 5, 3) := by decide +kernel
theorem dX7_carryOut_60 : decode cX7_carryOut 60 = .ok (.bipush (-6), 2) := by decide +kernel
theorem dX7_carryOut_62 : decode cX7_carryOut 62 = .ok (.istore 4, 2) := by decide +kernel
theorem dX7_carryOut_64 : decode cX7_carryOut 64 = .ok (.iload_n 1, 1) := by decide +kernel
theorem dX7_carryOut_65 : decode cX7_carryOut 65 = .ok (.iload_n 3, 1) := by decide +kernel
theorem dX7_carryOut_66 : decode cX7_carryOut 66 = .ok (.ifCond .eq 7, 3) := by decide +kernel
theorem dX7_carryOut_69 : decode cX7_carryOut 69 = .ok (.iconst 1, 1) := by decide +kernel
theorem dX7_carryOut_70 : decode cX7_carryOut 70 = .ok (.goto 4, 3) := by decide +kernel
theorem dX7_carryOut_73 : decode cX7_carryOut 73 = .ok (.iconst 0, 1) := by decide +kernel
theorem dX7_carryOut_74 : decode cX7_carryOut 74 = .ok (.iadd, 1) := by decide +kernel
theorem dX7_carryOut_75 : decode cX7_carryOut 75 = .ok (.istore_n 1, 1) := by decide +kernel
theorem dX7_carryOut_76 : decode cX7_carryOut 76 = .ok (.iload_n 3, 1) := by decide +kernel
theorem dX7_carryOut_77 : decode cX7_carryOut 77 = .ok (.ifCond .eq 16, 3) := by decide +kernel
theorem dX7_carryOut_80 : decode cX7_carryOut 80 = .ok (.aload_n 0, 1) := by decide +kernel
theorem dX7_carryOut_81 : decode cX7_carryOut 81 = .ok (.bipush 59, 2) := by decide +kernel
theorem dX7_carryOut_83 : decode cX7_carryOut 83 = .ok (.invokevirtual 234, 3) := by decide +kernel
theorem dX7_carryOut_86 : decode cX7_carryOut 86 = .ok (.ifCond .eq 7, 3) := by decide +kernel
theorem dX7_carryOut_89 : decode cX7_carryOut 89 = .ok (.iconst 1, 1) := by decide +kernel
theorem dX7_carryOut_90 : decode cX7_carryOut 90 = .ok (.goto 4, 3) := by decide +kernel
theorem dX7_carryOut_93 : decode cX7_carryOut 93 = .ok (.iconst 0, 1) := by decide +kernel
theorem dX7_carryOut_94 : decode cX7_carryOut 94 = .ok (.istore_n 2, 1) := by decide +kernel
theorem dX7_carryOut_95 : decode cX7_carryOut 95 = .ok (.goto (-70), 3) := by decide +kernel
theorem dX7_carryOut_98 : decode cX7_carryOut 98 = .ok (.aload_n 0, 1) := by decide +kernel
theorem dX7_carryOut_99 : decode cX7_carryOut 99 = .ok (.iconst 0, 1) := by decide +kernel
theorem dX7_carryOut_100 : decode cX7_carryOut 100 = .ok (.putfield 156, 3) := by decide +kernel
theorem dX7_carryOut_103 : decode cX7_carryOut 103 = .ok (.iload_n 1, 1) := by decide +kernel
theorem dX7_carryOut_104 : decode cX7_carryOut 104 = .ok (.ireturn, 1) := by decide +kernel
theorem dX7_undo_0 : decode cX7_undo 0 = .ok (.aload_n 0, 1) := by decide +kernel
theorem dX7_undo_1 : decode cX7_undo 1 = .ok (.getfield 23, 3) := by decide +kernel
theorem dX7_undo_4 : decode cX7_undo 4 = .ok (.ifCond .ne 6, 3) := by decide +kernel
theorem dX7_undo_7 : decode cX7_undo 7 = .ok (.bipush (-5), 2) := by decide +kernel
theorem dX7_undo_9 : decode cX7_undo 9 = .ok (.ireturn, 1) := by decide +kernel
theorem dX7_undo_10 : decode cX7_undo 10 = .ok (.aload_n 0, 1) := by decide +kernel
theorem dX7_undo_11 : decode cX7_undo 11 = .ok (.aload_n 0, 1) := by decide +kernel
theorem dX7_undo_12 : decode cX7_undo 12 = .ok (.getfield 23, 3) := by decide +kernel
theorem dX7_undo_15 : decode cX7_undo 15 = .ok (.iconst 0, 1) := by decide +kernel
theorem dX7_undo_16 : decode cX7_undo 16 = .ok (.invokevirtual 27, 3) := by decide +kernel
theorem dX7_undo_19 : decode cX7_undo 19 = .ok (.aload_n 0, 1) := by decide +kernel
theorem dX7_undo_20 : decode cX7_undo 20 = .ok (.dup, 1) := by decide +kernel
theorem dX7_undo_21 : decode cX7_undo 21 = .ok (.getfield 23, 3) := by decide +kernel
theorem dX7_undo_24 : decode cX7_undo 24 = .ok (.iconst 1, 1) := by decide +kernel
theorem dX7_undo_25 : decode cX7_undo 25 = .ok (.isub, 1) := by decide +kernel
theorem dX7_undo_26 : decode cX7_undo 26 = .ok (.putfield 23, 3) := by decide +kernel
theorem dX7_undo_29 : decode cX7_undo 29 = .ok (.aload_n 0, 1) := by decide +kernel
theorem dX7_undo_30 : decode cX7_undo 30 = .ok (.getfield 23, 3) := by decide +kernel
theorem dX7_undo_33 : decode cX7_undo 33 = .ok (.ireturn, 1) := by decide +kernel
theorem dX7_isSlot_0 : decode cX7_isSlot 0 = .ok (.iload_n 0, 1) := by decide +kernel
theorem dX7_isSlot_1 : decode cX7_isSlot 1 = .ok (.ifCond .eq 8, 3) := by decide +kernel
theorem dX7_isSlot_4 : decode cX7_isSlot 4 = .ok (.iload_n 0, 1) := by decide +kernel
theorem dX7_isSlot_5 : decode cX7_isSlot 5 = .ok (.iconst 1, 1) := by decide +kernel
theorem dX7_isSlot_6 : decode cX7_isSlot 6 = .ok (.if_icmp .ne 7, 3) := by decide +kernel
theorem dX7_isSlot_9 : decode cX7_isSlot 9 = .ok (.iconst 1, 1) := by decide +kernel
theorem dX7_isSlot_10 : decode cX7_isSlot 10 = .ok (.goto 4, 3) := by decide +kernel
theorem dX7_isSlot_13 : decode cX7_isSlot 13 = .ok (.iconst 0, 1) := by decide +kernel
theorem dX7_isSlot_14 : decode cX7_isSlot 14 = .ok (.ireturn, 1) := by decide +kernel
theorem dX7_save_0 : decode cX7_save 0 = .ok (.iload_n 1, 1) := by decide +kernel
theorem dX7_save_1 : decode cX7_save 1 = .ok (.invokestatic 252, 3) := by decide +kernel
theorem dX7_save_4 : decode cX7_save 4 = .ok (.ifCond .ne 6, 3) := by decide +kernel
theorem dX7_save_7 : decode cX7_save 7 = .ok (.bipush (-2), 2) := by decide +kernel
theorem dX7_save_9 : decode cX7_save 9 = .ok (.ireturn, 1) := by decide +kernel
theorem dX7_save_10 : decode cX7_save 10 = .ok (.aload_n 0, 1) := by decide +kernel
theorem dX7_save_11 : decode cX7_save 11 = .ok (.iconst 0, 1) := by decide +kernel
theorem dX7_save_12 : decode cX7_save 12 = .ok (.bipush 7, 2) := by decide +kernel
theorem dX7_save_14 : decode cX7_save 14 = .ok (.iload_n 1, 1) := by decide +kernel
theorem dX7_save_15 : decode cX7_save 15 = .ok (.iadd, 1) := by decide +kernel
theorem dX7_save_16 : decode cX7_save 16 = .ok (.invokevirtual 27, 3) := by decide +kernel
theorem dX7_save_19 : decode cX7_save 19 = .ok (.aload_n 0, 1) := by decide +kernel
theorem dX7_save_20 : decode cX7_save 20 = .ok (.getfield 13, 3) := by decide +kernel
theorem dX7_save_23 : decode cX7_save 23 = .ok (.iload_n 1, 1) := by decide +kernel
theorem dX7_save_24 : decode cX7_save 24 = .ok (.iconst 1, 1) := by decide +kernel
theorem dX7_save_25 : decode cX7_save 25 = .ok (.bastore, 1) := by decide +kernel
theorem dX7_save_26 : decode cX7_save 26 = .ok (.aload_n 0, 1) := by decide +kernel
theorem dX7_save_27 : decode cX7_save 27 = .ok (.getfield 7, 3) := by decide +kernel
theorem dX7_save_30 : decode cX7_save 30 = .ok (.bipush 6, 2) := by decide +kernel
theorem dX7_save_32 : decode cX7_save 32 = .ok (.iaload, 1) := by decide +kernel
theorem dX7_save_33 : decode cX7_save 33 = .ok (.ireturn, 1) := by decide +kernel
theorem dX7_restore_0 : decode cX7_restore 0 = .ok (.iload_n 1, 1) := by decide +kernel
theorem dX7_restore_1 : decode cX7_restore 1 = .ok (.invokestatic 252, 3) := by decide +kernel
theorem dX7_restore_4 : decode cX7_restore 4 = .ok (.ifCond .ne 6, 3) := by decide +kernel
theorem dX7_restore_7 : decode cX7_restore 7 = .ok (.bipush (-2), 2) := by decide +kernel
theorem dX7_restore_9 : decode cX7_restore 9 = .ok (.ireturn, 1) := by decide +kernel
theorem dX7_restore_10 : decode cX7_restore 10 = .ok (.aload_n 0, 1) := by decide +kernel
theorem dX7_restore_11 : decode cX7_restore 11 = .ok (.getfield 13, 3) := by decide +kernel
theorem dX7_restore_14 : decode cX7_restore 14 = .ok (.iload_n 1, 1) := by decide +kernel
theorem dX7_restore_15 : decode cX7_restore 15 = .ok (.baload, 1) := by decide +kernel
theorem dX7_restore_16 : decode cX7_restore 16 = .ok (.ifCond .ne 6, 3) := by decide +kernel
theorem dX7_restore_19 : decode cX7_restore 19 = .ok (.bipush (-5), 2) := by decide +kernel
theorem dX7_restore_21 : decode cX7_restore 21 = .ok (.ireturn, 1) := by decide +kernel
theorem dX7_restore_22 : decode cX7_restore 22 = .ok (.aload_n 0, 1) := by decide +kernel
theorem dX7_restore_23 : decode cX7_restore 23 = .ok (.invokevirtual 117, 3) := by decide +kernel
theorem dX7_restore_26 : decode cX7_restore 26 = .ok (.aload_n 0, 1) := by decide +kernel
theorem dX7_restore_27 : decode cX7_restore 27 = .ok (.bipush 7, 2) := by decide +kernel
theorem dX7_restore_29 : decode cX7_restore 29 = .ok (.iload_n 1, 1) := by decide +kernel
theorem dX7_restore_30 : decode cX7_restore 30 = .ok (.iadd, 1) := by decide +kernel
theorem dX7_restore_31 : decode cX7_restore 31 = .ok (.iconst 0, 1) := by decide +kernel
theorem dX7_restore_32 : decode cX7_restore 32 = .ok (.invokevirtual 27, 3) := by decide +kernel
theorem dX7_restore_35 : decode cX7_restore 35 = .ok (.aload_n 0, 1) := by decide +kernel
theorem dX7_restore_36 : decode cX7_restore 36 = .ok (.getfield 7, 3) := by decide +kernel
theorem dX7_restore_39 : decode cX7_restore 39 = .ok (.bipush 6, 2) := by decide +kernel
theorem dX7_restore_41 : decode cX7_restore 41 = .ok (.iaload, 1) := by decide +kernel
theorem dX7_restore_42 : decode cX7_restore 42 = .ok (.ireturn, 1) := by decide +kernel
