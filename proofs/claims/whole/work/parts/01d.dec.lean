theorem dX12_last_0 : decode cX12_last 0 = .ok (.iload_n 1, 1) := by decide +kernel
theorem dX12_last_1 : decode cX12_last 1 = .ok (.iload_n 2, 1) := by decide +kernel
theorem dX12_last_2 : decode cX12_last 2 = .ok (.iload_n 3, 1) := by decide +kernel
theorem dX12_last_3 : decode cX12_last 3 = .ok (.invokestatic 189, 3) := by decide +kernel
theorem dX12_last_6 : decode cX12_last 6 = .ok (.ifCond .ne 5, 3) := by decide +kernel
theorem dX12_last_9 : decode cX12_last 9 = .ok (.iconst (-1), 1) := by decide +kernel
theorem dX12_last_10 : decode cX12_last 10 = .ok (.ireturn, 1) := by decide +kernel
theorem dX12_last_11 : decode cX12_last 11 = .ok (.aload_n 0, 1) := by decide +kernel
theorem dX12_last_12 : decode cX12_last 12 = .ok (.iload_n 2, 1) := by decide +kernel
theorem dX12_last_13 : decode cX12_last 13 = .ok (.iload_n 3, 1) := by decide +kernel
theorem dX12_last_14 : decode cX12_last 14 = .ok (.invokevirtual 267, 3) := by decide +kernel
theorem dX12_last_17 : decode cX12_last 17 = .ok (.aload_n 0, 1) := by decide +kernel
theorem dX12_last_18 : decode cX12_last 18 = .ok (.aload_n 0, 1) := by decide +kernel
theorem dX12_last_19 : decode cX12_last 19 = .ok (.getfield 261, 3) := by decide +kernel
theorem dX12_last_22 : decode cX12_last 22 = .ok (.iload_n 1, 1) := by decide +kernel
theorem dX12_last_23 : decode cX12_last 23 = .ok (.bipush 20, 2) := by decide +kernel
theorem dX12_last_25 : decode cX12_last 25 = .ok (.invokevirtual 213, 3) := by decide +kernel
theorem dX12_last_28 : decode cX12_last 28 = .ok (.ireturn, 1) := by decide +kernel
theorem dX12_rests_0 : decode cX12_rests 0 = .ok (.iload_n 1, 1) := by decide +kernel
theorem dX12_rests_1 : decode cX12_rests 1 = .ok (.invokestatic 165, 3) := by decide +kernel
theorem dX12_rests_4 : decode cX12_rests 4 = .ok (.ifCond .eq 22, 3) := by decide +kernel
theorem dX12_rests_7 : decode cX12_rests 7 = .ok (.iload_n 2, 1) := by decide +kernel
theorem dX12_rests_8 : decode cX12_rests 8 = .ok (.invokestatic 165, 3) := by decide +kernel
theorem dX12_rests_11 : decode cX12_rests 11 = .ok (.ifCond .eq 15, 3) := by decide +kernel
theorem dX12_rests_14 : decode cX12_rests 14 = .ok (.iload_n 3, 1) := by decide +kernel
theorem dX12_rests_15 : decode cX12_rests 15 = .ok (.i2l, 1) := by decide +kernel
theorem dX12_rests_16 : decode cX12_rests 16 = .ok (.lconst 0, 1) := by decide +kernel
theorem dX12_rests_17 : decode cX12_rests 17 = .ok (.ldc2_w 103, 3) := by decide +kernel
theorem dX12_rests_20 : decode cX12_rests 20 = .ok (.invokestatic 95, 3) := by decide +kernel
theorem dX12_rests_23 : decode cX12_rests 23 = .ok (.ifCond .ne 5, 3) := by decide +kernel
theorem dX12_rests_26 : decode cX12_rests 26 = .ok (.iconst (-1), 1) := by decide +kernel
theorem dX12_rests_27 : decode cX12_rests 27 = .ok (.ireturn, 1) := by decide +kernel
theorem dX12_rests_28 : decode cX12_rests 28 = .ok (.aload_n 0, 1) := by decide +kernel
theorem dX12_rests_29 : decode cX12_rests 29 = .ok (.iload_n 1, 1) := by decide +kernel
theorem dX12_rests_30 : decode cX12_rests 30 = .ok (.iload_n 2, 1) := by decide +kernel
theorem dX12_rests_31 : decode cX12_rests 31 = .ok (.invokevirtual 267, 3) := by decide +kernel
theorem dX12_rests_34 : decode cX12_rests 34 = .ok (.iload_n 3, 1) := by decide +kernel
theorem dX12_rests_35 : decode cX12_rests 35 = .ok (.ifCond .ne 10, 3) := by decide +kernel
theorem dX12_rests_38 : decode cX12_rests 38 = .ok (.aload_n 0, 1) := by decide +kernel
theorem dX12_rests_39 : decode cX12_rests 39 = .ok (.getfield 248, 3) := by decide +kernel
theorem dX12_rests_42 : decode cX12_rests 42 = .ok (.goto 36, 3) := by decide +kernel
theorem dX12_rests_45 : decode cX12_rests 45 = .ok (.iload_n 3, 1) := by decide +kernel
theorem dX12_rests_46 : decode cX12_rests 46 = .ok (.iconst 1, 1) := by decide +kernel
theorem dX12_rests_47 : decode cX12_rests 47 = .ok (.if_icmp .ne 24, 3) := by decide +kernel
theorem dX12_rests_50 : decode cX12_rests 50 = .ok (.aload_n 0, 1) := by decide +kernel
theorem dX12_rests_51 : decode cX12_rests 51 = .ok (.getfield 248, 3) := by decide +kernel
theorem dX12_rests_54 : decode cX12_rests 54 = .ok (.ifCond .ne 7, 3) := by decide +kernel
theorem dX12_rests_57 : decode cX12_rests 57 = .ok (.iconst (-1), 1) := by decide +kernel
theorem dX12_rests_58 : decode cX12_rests 58 = .ok (.goto 20, 3) := by decide +kernel
theorem dX12_rests_61 : decode cX12_rests 61 = .ok (.aload_n 0, 1) := by decide +kernel
theorem dX12_rests_62 : decode cX12_rests 62 = .ok (.getfield 251, 3) := by decide +kernel
theorem dX12_rests_65 : decode cX12_rests 65 = .ok (.invokestatic 270, 3) := by decide +kernel
theorem dX12_rests_68 : decode cX12_rests 68 = .ok (.goto 10, 3) := by decide +kernel
theorem dX12_rests_71 : decode cX12_rests 71 = .ok (.aload_n 0, 1) := by decide +kernel
theorem dX12_rests_72 : decode cX12_rests 72 = .ok (.getfield 255, 3) := by decide +kernel
theorem dX12_rests_75 : decode cX12_rests 75 = .ok (.invokestatic 270, 3) := by decide +kernel
theorem dX12_rests_78 : decode cX12_rests 78 = .ok (.ireturn, 1) := by decide +kernel
theorem dX12_laysWays_0 : decode cX12_laysWays 0 = .ok (.bipush 50, 2) := by decide +kernel
theorem dX12_laysWays_2 : decode cX12_laysWays 2 = .ok (.istore_n 3, 1) := by decide +kernel
theorem dX12_laysWays_3 : decode cX12_laysWays 3 = .ok (.iconst 0, 1) := by decide +kernel
theorem dX12_laysWays_4 : decode cX12_laysWays 4 = .ok (.istore 4, 2) := by decide +kernel
theorem dX12_laysWays_6 : decode cX12_laysWays 6 = .ok (.iload 4, 2) := by decide +kernel
theorem dX12_laysWays_8 : decode cX12_laysWays 8 = .ok (.iload_n 1, 1) := by decide +kernel
theorem dX12_laysWays_9 : decode cX12_laysWays 9 = .ok (.if_icmp .ge 46, 3) := by decide +kernel
theorem dX12_laysWays_12 : decode cX12_laysWays 12 = .ok (.aload_n 0, 1) := by decide +kernel
theorem dX12_laysWays_13 : decode cX12_laysWays 13 = .ok (.getfield 49, 3) := by decide +kernel
theorem dX12_laysWays_16 : decode cX12_laysWays 16 = .ok (.iload 4, 2) := by decide +kernel
theorem dX12_laysWays_18 : decode cX12_laysWays 18 = .ok (.iload_n 3, 1) := by decide +kernel
theorem dX12_laysWays_19 : decode cX12_laysWays 19 = .ok (.iastore, 1) := by decide +kernel
theorem dX12_laysWays_20 : decode cX12_laysWays 20 = .ok (.aload_n 0, 1) := by decide +kernel
theorem dX12_laysWays_21 : decode cX12_laysWays 21 = .ok (.getfield 52, 3) := by decide +kernel
theorem dX12_laysWays_24 : decode cX12_laysWays 24 = .ok (.iload 4, 2) := by decide +kernel
theorem dX12_laysWays_26 : decode cX12_laysWays 26 = .ok (.iconst 1, 1) := by decide +kernel
theorem dX12_laysWays_27 : decode cX12_laysWays 27 = .ok (.iastore, 1) := by decide +kernel
theorem dX12_laysWays_28 : decode cX12_laysWays 28 = .ok (.aload_n 0, 1) := by decide +kernel
theorem dX12_laysWays_29 : decode cX12_laysWays 29 = .ok (.getfield 55, 3) := by decide +kernel
theorem dX12_laysWays_32 : decode cX12_laysWays 32 = .ok (.iload_n 3, 1) := by decide +kernel
theorem dX12_laysWays_33 : decode cX12_laysWays 33 = .ok (.iconst 1, 1) := by decide +kernel
theorem dX12_laysWays_34 : decode cX12_laysWays 34 = .ok (.bastore, 1) := by decide +kernel
theorem dX12_laysWays_35 : decode cX12_laysWays 35 = .ok (.aload_n 0, 1) := by decide +kernel
theorem dX12_laysWays_36 : decode cX12_laysWays 36 = .ok (.iload_n 3, 1) := by decide +kernel
theorem dX12_laysWays_37 : decode cX12_laysWays 37 = .ok (.iload_n 2, 1) := by decide +kernel
theorem dX12_laysWays_38 : decode cX12_laysWays 38 = .ok (.iload 4, 2) := by decide +kernel
theorem dX12_laysWays_40 : decode cX12_laysWays 40 = .ok (.invokestatic 222, 3) := by decide +kernel
theorem dX12_laysWays_43 : decode cX12_laysWays 43 = .ok (.invokevirtual 182, 3) := by decide +kernel
theorem dX12_laysWays_46 : decode cX12_laysWays 46 = .ok (.iinc 3 1, 3) := by decide +kernel
theorem dX12_laysWays_49 : decode cX12_laysWays 49 = .ok (.iinc 4 1, 3) := by decide +kernel
theorem dX12_laysWays_52 : decode cX12_laysWays 52 = .ok (.goto (-46), 3) := by decide +kernel
theorem dX12_laysWays_55 : decode cX12_laysWays 55 = .ok (.iconst 2, 1) := by decide +kernel
theorem dX12_laysWays_56 : decode cX12_laysWays 56 = .ok (.istore 4, 2) := by decide +kernel
theorem dX12_laysWays_58 : decode cX12_laysWays 58 = .ok (.iload 4, 2) := by decide +kernel
theorem dX12_laysWays_60 : decode cX12_laysWays 60 = .ok (.iload_n 1, 1) := by decide +kernel
theorem dX12_laysWays_61 : decode cX12_laysWays 61 = .ok (.if_icmp .gt 111, 3) := by decide +kernel
theorem dX12_laysWays_64 : decode cX12_laysWays 64 = .ok (.iconst 0, 1) := by decide +kernel
theorem dX12_laysWays_65 : decode cX12_laysWays 65 = .ok (.istore 5, 2) := by decide +kernel
theorem dX12_laysWays_67 : decode cX12_laysWays 67 = .ok (.iload 5, 2) := by decide +kernel
theorem dX12_laysWays_69 : decode cX12_laysWays 69 = .ok (.iload 4, 2) := by decide +kernel
theorem dX12_laysWays_71 : decode cX12_laysWays 71 = .ok (.iadd, 1) := by decide +kernel
theorem dX12_laysWays_72 : decode cX12_laysWays 72 = .ok (.iload_n 1, 1) := by decide +kernel
theorem dX12_laysWays_73 : decode cX12_laysWays 73 = .ok (.if_icmp .gt 93, 3) := by decide +kernel
theorem dX12_laysWays_76 : decode cX12_laysWays 76 = .ok (.bipush 6, 2) := by decide +kernel
theorem dX12_laysWays_78 : decode cX12_laysWays 78 = .ok (.iload 4, 2) := by decide +kernel
theorem dX12_laysWays_80 : decode cX12_laysWays 80 = .ok (.iconst 1, 1) := by decide +kernel
theorem dX12_laysWays_81 : decode cX12_laysWays 81 = .ok (.isub, 1) := by decide +kernel
theorem dX12_laysWays_82 : decode cX12_laysWays 82 = .ok (.imul, 1) := by decide +kernel
theorem dX12_laysWays_83 : decode cX12_laysWays 83 = .ok (.iload 5, 2) := by decide +kernel
theorem dX12_laysWays_85 : decode cX12_laysWays 85 = .ok (.iadd, 1) := by decide +kernel
theorem dX12_laysWays_86 : decode cX12_laysWays 86 = .ok (.istore 6, 2) := by decide +kernel
theorem dX12_laysWays_88 : decode cX12_laysWays 88 = .ok (.aload_n 0, 1) := by decide +kernel
theorem dX12_laysWays_89 : decode cX12_laysWays 89 = .ok (.getfield 49, 3) := by decide +kernel
theorem dX12_laysWays_92 : decode cX12_laysWays 92 = .ok (.iload 6, 2) := by decide +kernel
theorem dX12_laysWays_94 : decode cX12_laysWays 94 = .ok (.iload_n 3, 1) := by decide +kernel
theorem dX12_laysWays_95 : decode cX12_laysWays 95 = .ok (.iastore, 1) := by decide +kernel
theorem dX12_laysWays_96 : decode cX12_laysWays 96 = .ok (.iconst 1, 1) := by decide +kernel
theorem dX12_laysWays_97 : decode cX12_laysWays 97 = .ok (.istore 7, 2) := by decide +kernel
theorem dX12_laysWays_99 : decode cX12_laysWays 99 = .ok (.iload 7, 2) := by decide +kernel
theorem dX12_laysWays_101 : decode cX12_laysWays 101 = .ok (.iload 4, 2) := by decide +kernel
theorem dX12_laysWays_103 : decode cX12_laysWays 103 = .ok (.if_icmp .ge 41, 3) := by decide +kernel
theorem dX12_laysWays_106 : decode cX12_laysWays 106 = .ok (.aload_n 0, 1) := by decide +kernel
theorem dX12_laysWays_107 : decode cX12_laysWays 107 = .ok (.iload_n 3, 1) := by decide +kernel
theorem dX12_laysWays_108 : decode cX12_laysWays 108 = .ok (.bipush 6, 2) := by decide +kernel
theorem dX12_laysWays_110 : decode cX12_laysWays 110 = .ok (.iload 7, 2) := by decide +kernel
theorem dX12_laysWays_112 : decode cX12_laysWays 112 = .ok (.iconst 1, 1) := by decide +kernel
theorem dX12_laysWays_113 : decode cX12_laysWays 113 = .ok (.isub, 1) := by decide +kernel
theorem dX12_laysWays_114 : decode cX12_laysWays 114 = .ok (.imul, 1) := by decide +kernel
theorem dX12_laysWays_115 : decode cX12_laysWays 115 = .ok (.iload 5, 2) := by decide +kernel
theorem dX12_laysWays_117 : decode cX12_laysWays 117 = .ok (.iadd, 1) := by decide +kernel
theorem dX12_laysWays_118 : decode cX12_laysWays 118 = .ok (.bipush 6, 2) := by decide +kernel
theorem dX12_laysWays_120 : decode cX12_laysWays 120 = .ok (.iload 4, 2) := by decide +kernel
theorem dX12_laysWays_122 : decode cX12_laysWays 122 = .ok (.iload 7, 2) := by decide +kernel
theorem dX12_laysWays_124 : decode cX12_laysWays 124 = .ok (.isub, 1) := by decide +kernel
theorem dX12_laysWays_125 : decode cX12_laysWays 125 = .ok (.iconst 1, 1) := by decide +kernel
theorem dX12_laysWays_126 : decode cX12_laysWays 126 = .ok (.isub, 1) := by decide +kernel
theorem dX12_laysWays_127 : decode cX12_laysWays 127 = .ok (.imul, 1) := by decide +kernel
theorem dX12_laysWays_128 : decode cX12_laysWays 128 = .ok (.iload 5, 2) := by decide +kernel
theorem dX12_laysWays_130 : decode cX12_laysWays 130 = .ok (.iadd, 1) := by decide +kernel
theorem dX12_laysWays_131 : decode cX12_laysWays 131 = .ok (.iload 7, 2) := by decide +kernel
theorem dX12_laysWays_133 : decode cX12_laysWays 133 = .ok (.iadd, 1) := by decide +kernel
theorem dX12_laysWays_134 : decode cX12_laysWays 134 = .ok (.invokevirtual 274, 3) := by decide +kernel
theorem dX12_laysWays_137 : decode cX12_laysWays 137 = .ok (.istore_n 3, 1) := by decide +kernel
theorem dX12_laysWays_138 : decode cX12_laysWays 138 = .ok (.iinc 7 1, 3) := by decide +kernel
theorem dX12_laysWays_141 : decode cX12_laysWays 141 = .ok (.goto (-42), 3) := by decide +kernel
theorem dX12_laysWays_144 : decode cX12_laysWays 144 = .ok (.aload_n 0, 1) := by decide +kernel
theorem dX12_laysWays_145 : decode cX12_laysWays 145 = .ok (.getfield 52, 3) := by decide +kernel
theorem dX12_laysWays_148 : decode cX12_laysWays 148 = .ok (.iload 6, 2) := by decide +kernel
theorem dX12_laysWays_150 : decode cX12_laysWays 150 = .ok (.iload_n 3, 1) := by decide +kernel
theorem dX12_laysWays_151 : decode cX12_laysWays 151 = .ok (.aload_n 0, 1) := by decide +kernel
theorem dX12_laysWays_152 : decode cX12_laysWays 152 = .ok (.getfield 49, 3) := by decide +kernel
theorem dX12_laysWays_155 : decode cX12_laysWays 155 = .ok (.iload 6, 2) := by decide +kernel
theorem dX12_laysWays_157 : decode cX12_laysWays 157 = .ok (.iaload, 1) := by decide +kernel
theorem dX12_laysWays_158 : decode cX12_laysWays 158 = .ok (.isub, 1) := by decide +kernel
theorem dX12_laysWays_159 : decode cX12_laysWays 159 = .ok (.iastore, 1) := by decide +kernel
theorem dX12_laysWays_160 : decode cX12_laysWays 160 = .ok (.iinc 5 1, 3) := by decide +kernel
theorem dX12_laysWays_163 : decode cX12_laysWays 163 = .ok (.goto (-96), 3) := by decide +kernel
theorem dX12_laysWays_166 : decode cX12_laysWays 166 = .ok (.iinc 4 1, 3) := by decide +kernel
theorem dX12_laysWays_169 : decode cX12_laysWays 169 = .ok (.goto (-111), 3) := by decide +kernel
theorem dX12_laysWays_172 : decode cX12_laysWays 172 = .ok (.return_, 1) := by decide +kernel
theorem dX12_joins_0 : decode cX12_joins 0 = .ok (.iload_n 1, 1) := by decide +kernel
theorem dX12_joins_1 : decode cX12_joins 1 = .ok (.istore 4, 2) := by decide +kernel
theorem dX12_joins_3 : decode cX12_joins 3 = .ok (.aload_n 0, 1) := by decide +kernel
theorem dX12_joins_4 : decode cX12_joins 4 = .ok (.getfield 49, 3) := by decide +kernel
theorem dX12_joins_7 : decode cX12_joins 7 = .ok (.iload_n 2, 1) := by decide +kernel
theorem dX12_joins_8 : decode cX12_joins 8 = .ok (.iaload, 1) := by decide +kernel
theorem dX12_joins_9 : decode cX12_joins 9 = .ok (.istore 5, 2) := by decide +kernel
theorem dX12_joins_11 : decode cX12_joins 11 = .ok (.iload 5, 2) := by decide +kernel
theorem dX12_joins_13 : decode cX12_joins 13 = .ok (.aload_n 0, 1) := by decide +kernel
theorem dX12_joins_14 : decode cX12_joins 14 = .ok (.getfield 49, 3) := by decide +kernel
theorem dX12_joins_17 : decode cX12_joins 17 = .ok (.iload_n 2, 1) := by decide +kernel
theorem dX12_joins_18 : decode cX12_joins 18 = .ok (.iaload, 1) := by decide +kernel
theorem dX12_joins_19 : decode cX12_joins 19 = .ok (.aload_n 0, 1) := by decide +kernel
theorem dX12_joins_20 : decode cX12_joins 20 = .ok (.getfield 52, 3) := by decide +kernel
theorem dX12_joins_23 : decode cX12_joins 23 = .ok (.iload_n 2, 1) := by decide +kernel
theorem dX12_joins_24 : decode cX12_joins 24 = .ok (.iaload, 1) := by decide +kernel
theorem dX12_joins_25 : decode cX12_joins 25 = .ok (.iadd, 1) := by decide +kernel
theorem dX12_joins_26 : decode cX12_joins 26 = .ok (.if_icmp .ge 89, 3) := by decide +kernel
theorem dX12_joins_29 : decode cX12_joins 29 = .ok (.aload_n 0, 1) := by decide +kernel
theorem dX12_joins_30 : decode cX12_joins 30 = .ok (.getfield 49, 3) := by decide +kernel
theorem dX12_joins_33 : decode cX12_joins 33 = .ok (.iload_n 3, 1) := by decide +kernel
theorem dX12_joins_34 : decode cX12_joins 34 = .ok (.iaload, 1) := by decide +kernel
theorem dX12_joins_35 : decode cX12_joins 35 = .ok (.istore 6, 2) := by decide +kernel
theorem dX12_joins_37 : decode cX12_joins 37 = .ok (.iload 6, 2) := by decide +kernel
theorem dX12_joins_39 : decode cX12_joins 39 = .ok (.aload_n 0, 1) := by decide +kernel
theorem dX12_joins_40 : decode cX12_joins 40 = .ok (.getfield 49, 3) := by decide +kernel
theorem dX12_joins_43 : decode cX12_joins 43 = .ok (.iload_n 3, 1) := by decide +kernel
theorem dX12_joins_44 : decode cX12_joins 44 = .ok (.iaload, 1) := by decide +kernel
theorem dX12_joins_45 : decode cX12_joins 45 = .ok (.aload_n 0, 1) := by decide +kernel
theorem dX12_joins_46 : decode cX12_joins 46 = .ok (.getfield 52, 3) := by decide +kernel
theorem dX12_joins_49 : decode cX12_joins 49 = .ok (.iload_n 3, 1) := by decide +kernel
theorem dX12_joins_50 : decode cX12_joins 50 = .ok (.iaload, 1) := by decide +kernel
theorem dX12_joins_51 : decode cX12_joins 51 = .ok (.iadd, 1) := by decide +kernel
theorem dX12_joins_52 : decode cX12_joins 52 = .ok (.if_icmp .ge 57, 3) := by decide +kernel
theorem dX12_joins_55 : decode cX12_joins 55 = .ok (.aload_n 0, 1) := by decide +kernel
theorem dX12_joins_56 : decode cX12_joins 56 = .ok (.getfield 55, 3) := by decide +kernel
theorem dX12_joins_59 : decode cX12_joins 59 = .ok (.iload 4, 2) := by decide +kernel
theorem dX12_joins_61 : decode cX12_joins 61 = .ok (.aload_n 0, 1) := by decide +kernel
theorem dX12_joins_62 : decode cX12_joins 62 = .ok (.getfield 55, 3) := by decide +kernel
theorem dX12_joins_65 : decode cX12_joins 65 = .ok (.iload 5, 2) := by decide +kernel
theorem dX12_joins_67 : decode cX12_joins 67 = .ok (.baload, 1) := by decide +kernel
theorem dX12_joins_68 : decode cX12_joins 68 = .ok (.ifCond .eq 30, 3) := by decide +kernel
theorem dX12_joins_71 : decode cX12_joins 71 = .ok (.aload_n 0, 1) := by decide +kernel
theorem dX12_joins_72 : decode cX12_joins 72 = .ok (.getfield 55, 3) := by decide +kernel
theorem dX12_joins_75 : decode cX12_joins 75 = .ok (.iload 6, 2) := by decide +kernel
theorem dX12_joins_77 : decode cX12_joins 77 = .ok (.baload, 1) := by decide +kernel
theorem dX12_joins_78 : decode cX12_joins 78 = .ok (.ifCond .eq 20, 3) := by decide +kernel
theorem dX12_joins_81 : decode cX12_joins 81 = .ok (.aload_n 0, 1) := by decide +kernel
theorem dX12_joins_82 : decode cX12_joins 82 = .ok (.iload 4, 2) := by decide +kernel
theorem dX12_joins_84 : decode cX12_joins 84 = .ok (.iload 5, 2) := by decide +kernel
theorem dX12_joins_86 : decode cX12_joins 86 = .ok (.iload 6, 2) := by decide +kernel
theorem dX12_joins_88 : decode cX12_joins 88 = .ok (.invokevirtual 197, 3) := by decide +kernel
theorem dX12_joins_91 : decode cX12_joins 91 = .ok (.ifCond .eq 7, 3) := by decide +kernel
theorem dX12_joins_94 : decode cX12_joins 94 = .ok (.iconst 1, 1) := by decide +kernel
theorem dX12_joins_95 : decode cX12_joins 95 = .ok (.goto 4, 3) := by decide +kernel
theorem dX12_joins_98 : decode cX12_joins 98 = .ok (.iconst 0, 1) := by decide +kernel
theorem dX12_joins_99 : decode cX12_joins 99 = .ok (.bastore, 1) := by decide +kernel
theorem dX12_joins_100 : decode cX12_joins 100 = .ok (.iinc 4 1, 3) := by decide +kernel
theorem dX12_joins_103 : decode cX12_joins 103 = .ok (.iinc 6 1, 3) := by decide +kernel
theorem dX12_joins_106 : decode cX12_joins 106 = .ok (.goto (-69), 3) := by decide +kernel
theorem dX12_joins_109 : decode cX12_joins 109 = .ok (.iinc 5 1, 3) := by decide +kernel
theorem dX12_joins_112 : decode cX12_joins 112 = .ok (.goto (-101), 3) := by decide +kernel
theorem dX12_joins_115 : decode cX12_joins 115 = .ok (.iload 4, 2) := by decide +kernel
theorem dX12_joins_117 : decode cX12_joins 117 = .ok (.ireturn, 1) := by decide +kernel
theorem dX12_bracket_0 : decode cX12_bracket 0 = .ok (.iload_n 1, 1) := by decide +kernel
theorem dX12_bracket_1 : decode cX12_bracket 1 = .ok (.invokestatic 165, 3) := by decide +kernel
theorem dX12_bracket_4 : decode cX12_bracket 4 = .ok (.ifCond .eq 12, 3) := by decide +kernel
theorem dX12_bracket_7 : decode cX12_bracket 7 = .ok (.iload_n 2, 1) := by decide +kernel
theorem dX12_bracket_8 : decode cX12_bracket 8 = .ok (.iload_n 3, 1) := by decide +kernel
theorem dX12_bracket_9 : decode cX12_bracket 9 = .ok (.iconst 2, 1) := by decide +kernel
theorem dX12_bracket_10 : decode cX12_bracket 10 = .ok (.invokestatic 219, 3) := by decide +kernel
theorem dX12_bracket_13 : decode cX12_bracket 13 = .ok (.ifCond .ne 5, 3) := by decide +kernel
theorem dX12_bracket_16 : decode cX12_bracket 16 = .ok (.iconst (-1), 1) := by decide +kernel
theorem dX12_bracket_17 : decode cX12_bracket 17 = .ok (.ireturn, 1) := by decide +kernel
theorem dX12_bracket_18 : decode cX12_bracket 18 = .ok (.aload_n 0, 1) := by decide +kernel
theorem dX12_bracket_19 : decode cX12_bracket 19 = .ok (.iload_n 2, 1) := by decide +kernel
theorem dX12_bracket_20 : decode cX12_bracket 20 = .ok (.iload_n 3, 1) := by decide +kernel
theorem dX12_bracket_21 : decode cX12_bracket 21 = .ok (.invokevirtual 277, 3) := by decide +kernel
theorem dX12_bracket_24 : decode cX12_bracket 24 = .ok (.bipush 6, 2) := by decide +kernel
theorem dX12_bracket_26 : decode cX12_bracket 26 = .ok (.iload_n 2, 1) := by decide +kernel
theorem dX12_bracket_27 : decode cX12_bracket 27 = .ok (.iconst 1, 1) := by decide +kernel
theorem dX12_bracket_28 : decode cX12_bracket 28 = .ok (.isub, 1) := by decide +kernel
theorem dX12_bracket_29 : decode cX12_bracket 29 = .ok (.imul, 1) := by decide +kernel
theorem dX12_bracket_30 : decode cX12_bracket 30 = .ok (.istore 5, 2) := by decide +kernel
theorem dX12_bracket_32 : decode cX12_bracket 32 = .ok (.iload 4, 2) := by decide +kernel
theorem dX12_bracket_34 : decode cX12_bracket 34 = .ok (.i2l, 1) := by decide +kernel
theorem dX12_bracket_35 : decode cX12_bracket 35 = .ok (.lconst 0, 1) := by decide +kernel
theorem dX12_bracket_36 : decode cX12_bracket 36 = .ok (.aload_n 0, 1) := by decide +kernel
theorem dX12_bracket_37 : decode cX12_bracket 37 = .ok (.getfield 52, 3) := by decide +kernel
theorem dX12_bracket_40 : decode cX12_bracket 40 = .ok (.iload 5, 2) := by decide +kernel
theorem dX12_bracket_42 : decode cX12_bracket 42 = .ok (.iaload, 1) := by decide +kernel
theorem dX12_bracket_43 : decode cX12_bracket 43 = .ok (.iconst 1, 1) := by decide +kernel
theorem dX12_bracket_44 : decode cX12_bracket 44 = .ok (.isub, 1) := by decide +kernel
theorem dX12_bracket_45 : decode cX12_bracket 45 = .ok (.i2l, 1) := by decide +kernel
theorem dX12_bracket_46 : decode cX12_bracket 46 = .ok (.invokestatic 95, 3) := by decide +kernel
theorem dX12_bracket_49 : decode cX12_bracket 49 = .ok (.ifCond .ne 5, 3) := by decide +kernel
theorem dX12_bracket_52 : decode cX12_bracket 52 = .ok (.iconst (-1), 1) := by decide +kernel
theorem dX12_bracket_53 : decode cX12_bracket 53 = .ok (.ireturn, 1) := by decide +kernel
theorem dX12_bracket_54 : decode cX12_bracket 54 = .ok (.aload_n 0, 1) := by decide +kernel
theorem dX12_bracket_55 : decode cX12_bracket 55 = .ok (.aload_n 0, 1) := by decide +kernel
theorem dX12_bracket_56 : decode cX12_bracket 56 = .ok (.getfield 55, 3) := by decide +kernel
theorem dX12_bracket_59 : decode cX12_bracket 59 = .ok (.aload_n 0, 1) := by decide +kernel
theorem dX12_bracket_60 : decode cX12_bracket 60 = .ok (.getfield 49, 3) := by decide +kernel
theorem dX12_bracket_63 : decode cX12_bracket 63 = .ok (.iload 5, 2) := by decide +kernel
theorem dX12_bracket_65 : decode cX12_bracket 65 = .ok (.iaload, 1) := by decide +kernel
theorem dX12_bracket_66 : decode cX12_bracket 66 = .ok (.iload 4, 2) := by decide +kernel
theorem dX12_bracket_68 : decode cX12_bracket 68 = .ok (.iadd, 1) := by decide +kernel
theorem dX12_bracket_69 : decode cX12_bracket 69 = .ok (.baload, 1) := by decide +kernel
theorem dX12_bracket_70 : decode cX12_bracket 70 = .ok (.iload_n 1, 1) := by decide +kernel
theorem dX12_bracket_71 : decode cX12_bracket 71 = .ok (.aload_n 0, 1) := by decide +kernel
theorem dX12_bracket_72 : decode cX12_bracket 72 = .ok (.getfield 49, 3) := by decide +kernel
theorem dX12_bracket_75 : decode cX12_bracket 75 = .ok (.iload 5, 2) := by decide +kernel
theorem dX12_bracket_77 : decode cX12_bracket 77 = .ok (.iaload, 1) := by decide +kernel
theorem dX12_bracket_78 : decode cX12_bracket 78 = .ok (.iload 4, 2) := by decide +kernel
theorem dX12_bracket_80 : decode cX12_bracket 80 = .ok (.iadd, 1) := by decide +kernel
theorem dX12_bracket_81 : decode cX12_bracket 81 = .ok (.invokevirtual 213, 3) := by decide +kernel
theorem dX12_bracket_84 : decode cX12_bracket 84 = .ok (.ireturn, 1) := by decide +kernel
theorem dX12_bracketed_0 : decode cX12_bracketed 0 = .ok (.iload_n 1, 1) := by decide +kernel
theorem dX12_bracketed_1 : decode cX12_bracketed 1 = .ok (.iload_n 2, 1) := by decide +kernel
theorem dX12_bracketed_2 : decode cX12_bracketed 2 = .ok (.iconst 2, 1) := by decide +kernel
theorem dX12_bracketed_3 : decode cX12_bracketed 3 = .ok (.invokestatic 219, 3) := by decide +kernel
theorem dX12_bracketed_6 : decode cX12_bracketed 6 = .ok (.ifCond .ne 5, 3) := by decide +kernel
theorem dX12_bracketed_9 : decode cX12_bracketed 9 = .ok (.iconst (-1), 1) := by decide +kernel
theorem dX12_bracketed_10 : decode cX12_bracketed 10 = .ok (.ireturn, 1) := by decide +kernel
theorem dX12_bracketed_11 : decode cX12_bracketed 11 = .ok (.aload_n 0, 1) := by decide +kernel
theorem dX12_bracketed_12 : decode cX12_bracketed 12 = .ok (.iload_n 1, 1) := by decide +kernel
theorem dX12_bracketed_13 : decode cX12_bracketed 13 = .ok (.iload_n 2, 1) := by decide +kernel
theorem dX12_bracketed_14 : decode cX12_bracketed 14 = .ok (.invokevirtual 277, 3) := by decide +kernel
theorem dX12_bracketed_17 : decode cX12_bracketed 17 = .ok (.aload_n 0, 1) := by decide +kernel
theorem dX12_bracketed_18 : decode cX12_bracketed 18 = .ok (.getfield 49, 3) := by decide +kernel
theorem dX12_bracketed_21 : decode cX12_bracketed 21 = .ok (.bipush 6, 2) := by decide +kernel
theorem dX12_bracketed_23 : decode cX12_bracketed 23 = .ok (.iload_n 1, 1) := by decide +kernel
theorem dX12_bracketed_24 : decode cX12_bracketed 24 = .ok (.iconst 1, 1) := by decide +kernel
theorem dX12_bracketed_25 : decode cX12_bracketed 25 = .ok (.isub, 1) := by decide +kernel
theorem dX12_bracketed_26 : decode cX12_bracketed 26 = .ok (.imul, 1) := by decide +kernel
theorem dX12_bracketed_27 : decode cX12_bracketed 27 = .ok (.iaload, 1) := by decide +kernel
theorem dX12_bracketed_28 : decode cX12_bracketed 28 = .ok (.istore_n 3, 1) := by decide +kernel
theorem dX12_bracketed_29 : decode cX12_bracketed 29 = .ok (.aload_n 0, 1) := by decide +kernel
theorem dX12_bracketed_30 : decode cX12_bracketed 30 = .ok (.getfield 52, 3) := by decide +kernel
theorem dX12_bracketed_33 : decode cX12_bracketed 33 = .ok (.bipush 6, 2) := by decide +kernel
theorem dX12_bracketed_35 : decode cX12_bracketed 35 = .ok (.iload_n 1, 1) := by decide +kernel
theorem dX12_bracketed_36 : decode cX12_bracketed 36 = .ok (.iconst 1, 1) := by decide +kernel
theorem dX12_bracketed_37 : decode cX12_bracketed 37 = .ok (.isub, 1) := by decide +kernel
theorem dX12_bracketed_38 : decode cX12_bracketed 38 = .ok (.imul, 1) := by decide +kernel
theorem dX12_bracketed_39 : decode cX12_bracketed 39 = .ok (.iaload, 1) := by decide +kernel
theorem dX12_bracketed_40 : decode cX12_bracketed 40 = .ok (.istore 4, 2) := by decide +kernel
theorem dX12_bracketed_42 : decode cX12_bracketed 42 = .ok (.iconst 0, 1) := by decide +kernel
theorem dX12_bracketed_43 : decode cX12_bracketed 43 = .ok (.istore 5, 2) := by decide +kernel
theorem dX12_bracketed_45 : decode cX12_bracketed 45 = .ok (.iload_n 3, 1) := by decide +kernel
theorem dX12_bracketed_46 : decode cX12_bracketed 46 = .ok (.istore 6, 2) := by decide +kernel
theorem dX12_bracketed_48 : decode cX12_bracketed 48 = .ok (.iload 6, 2) := by decide +kernel
theorem dX12_bracketed_50 : decode cX12_bracketed 50 = .ok (.iload_n 3, 1) := by decide +kernel
theorem dX12_bracketed_51 : decode cX12_bracketed 51 = .ok (.iload 4, 2) := by decide +kernel
theorem dX12_bracketed_53 : decode cX12_bracketed 53 = .ok (.iadd, 1) := by decide +kernel
theorem dX12_bracketed_54 : decode cX12_bracketed 54 = .ok (.if_icmp .ge 72, 3) := by decide +kernel
theorem dX12_bracketed_57 : decode cX12_bracketed 57 = .ok (.aload_n 0, 1) := by decide +kernel
theorem dX12_bracketed_58 : decode cX12_bracketed 58 = .ok (.getfield 55, 3) := by decide +kernel
theorem dX12_bracketed_61 : decode cX12_bracketed 61 = .ok (.iload 6, 2) := by decide +kernel
theorem dX12_bracketed_63 : decode cX12_bracketed 63 = .ok (.baload, 1) := by decide +kernel
theorem dX12_bracketed_64 : decode cX12_bracketed 64 = .ok (.ifCond .ne 6, 3) := by decide +kernel
theorem dX12_bracketed_67 : decode cX12_bracketed 67 = .ok (.bipush (-2), 2) := by decide +kernel
theorem dX12_bracketed_69 : decode cX12_bracketed 69 = .ok (.ireturn, 1) := by decide +kernel
theorem dX12_bracketed_70 : decode cX12_bracketed 70 = .ok (.iconst 1, 1) := by decide +kernel
theorem dX12_bracketed_71 : decode cX12_bracketed 71 = .ok (.istore 7, 2) := by decide +kernel
theorem dX12_bracketed_73 : decode cX12_bracketed 73 = .ok (.iload_n 3, 1) := by decide +kernel
theorem dX12_bracketed_74 : decode cX12_bracketed 74 = .ok (.istore 8, 2) := by decide +kernel
theorem dX12_bracketed_76 : decode cX12_bracketed 76 = .ok (.iload 8, 2) := by decide +kernel
theorem dX12_bracketed_78 : decode cX12_bracketed 78 = .ok (.iload 6, 2) := by decide +kernel
theorem dX12_bracketed_80 : decode cX12_bracketed 80 = .ok (.if_icmp .ge 32, 3) := by decide +kernel
theorem dX12_bracketed_83 : decode cX12_bracketed 83 = .ok (.iload 7, 2) := by decide +kernel
theorem dX12_bracketed_85 : decode cX12_bracketed 85 = .ok (.ifCond .eq 27, 3) := by decide +kernel
theorem dX12_bracketed_88 : decode cX12_bracketed 88 = .ok (.aload_n 0, 1) := by decide +kernel
theorem dX12_bracketed_89 : decode cX12_bracketed 89 = .ok (.iload 6, 2) := by decide +kernel
theorem dX12_bracketed_91 : decode cX12_bracketed 91 = .ok (.iload 8, 2) := by decide +kernel
theorem dX12_bracketed_93 : decode cX12_bracketed 93 = .ok (.invokevirtual 280, 3) := by decide +kernel
theorem dX12_bracketed_96 : decode cX12_bracketed 96 = .ok (.ifCond .ne 7, 3) := by decide +kernel
theorem dX12_bracketed_99 : decode cX12_bracketed 99 = .ok (.iconst 1, 1) := by decide +kernel
theorem dX12_bracketed_100 : decode cX12_bracketed 100 = .ok (.goto 4, 3) := by decide +kernel
theorem dX12_bracketed_103 : decode cX12_bracketed 103 = .ok (.iconst 0, 1) := by decide +kernel
theorem dX12_bracketed_104 : decode cX12_bracketed 104 = .ok (.istore 7, 2) := by decide +kernel
theorem dX12_bracketed_106 : decode cX12_bracketed 106 = .ok (.iinc 8 1, 3) := by decide +kernel
theorem dX12_bracketed_109 : decode cX12_bracketed 109 = .ok (.goto (-33), 3) := by decide +kernel
theorem dX12_bracketed_112 : decode cX12_bracketed 112 = .ok (.iload 7, 2) := by decide +kernel
theorem dX12_bracketed_114 : decode cX12_bracketed 114 = .ok (.ifCond .eq 6, 3) := by decide +kernel
theorem dX12_bracketed_117 : decode cX12_bracketed 117 = .ok (.iinc 5 1, 3) := by decide +kernel
theorem dX12_bracketed_120 : decode cX12_bracketed 120 = .ok (.iinc 6 1, 3) := by decide +kernel
theorem dX12_bracketed_123 : decode cX12_bracketed 123 = .ok (.goto (-75), 3) := by decide +kernel
theorem dX12_bracketed_126 : decode cX12_bracketed 126 = .ok (.iload 5, 2) := by decide +kernel
theorem dX12_bracketed_128 : decode cX12_bracketed 128 = .ok (.ireturn, 1) := by decide +kernel
theorem dX12_feed_0 : decode cX12_feed 0 = .ok (.aload_n 0, 1) := by decide +kernel
theorem dX12_feed_1 : decode cX12_feed 1 = .ok (.getfield 283, 3) := by decide +kernel
theorem dX12_feed_4 : decode cX12_feed 4 = .ok (.bipush 20, 2) := by decide +kernel
theorem dX12_feed_6 : decode cX12_feed 6 = .ok (.iadd, 1) := by decide +kernel
theorem dX12_feed_7 : decode cX12_feed 7 = .ok (.sipush 200, 3) := by decide +kernel
theorem dX12_feed_10 : decode cX12_feed 10 = .ok (.if_icmp .le 5, 3) := by decide +kernel
theorem dX12_feed_13 : decode cX12_feed 13 = .ok (.iconst (-1), 1) := by decide +kernel
theorem dX12_feed_14 : decode cX12_feed 14 = .ok (.ireturn, 1) := by decide +kernel
theorem dX12_feed_15 : decode cX12_feed 15 = .ok (.iconst 0, 1) := by decide +kernel
theorem dX12_feed_16 : decode cX12_feed 16 = .ok (.istore 6, 2) := by decide +kernel
theorem dX12_feed_18 : decode cX12_feed 18 = .ok (.iload 6, 2) := by decide +kernel
theorem dX12_feed_20 : decode cX12_feed 20 = .ok (.bipush 20, 2) := by decide +kernel
theorem dX12_feed_22 : decode cX12_feed 22 = .ok (.if_icmp .ge 93, 3) := by decide +kernel
theorem dX12_feed_25 : decode cX12_feed 25 = .ok (.iload 6, 2) := by decide +kernel
theorem dX12_feed_27 : decode cX12_feed 27 = .ok (.iconst 4, 1) := by decide +kernel
theorem dX12_feed_28 : decode cX12_feed 28 = .ok (.if_icmp .ge 7, 3) := by decide +kernel
theorem dX12_feed_31 : decode cX12_feed 31 = .ok (.iload_n 1, 1) := by decide +kernel
theorem dX12_feed_32 : decode cX12_feed 32 = .ok (.goto 39, 3) := by decide +kernel
theorem dX12_feed_35 : decode cX12_feed 35 = .ok (.iload 6, 2) := by decide +kernel
theorem dX12_feed_37 : decode cX12_feed 37 = .ok (.bipush 8, 2) := by decide +kernel
theorem dX12_feed_39 : decode cX12_feed 39 = .ok (.if_icmp .ge 7, 3) := by decide +kernel
theorem dX12_feed_42 : decode cX12_feed 42 = .ok (.iload_n 2, 1) := by decide +kernel
theorem dX12_feed_43 : decode cX12_feed 43 = .ok (.goto 28, 3) := by decide +kernel
theorem dX12_feed_46 : decode cX12_feed 46 = .ok (.iload 6, 2) := by decide +kernel
theorem dX12_feed_48 : decode cX12_feed 48 = .ok (.bipush 12, 2) := by decide +kernel
theorem dX12_feed_50 : decode cX12_feed 50 = .ok (.if_icmp .ge 7, 3) := by decide +kernel
theorem dX12_feed_53 : decode cX12_feed 53 = .ok (.iload_n 3, 1) := by decide +kernel
theorem dX12_feed_54 : decode cX12_feed 54 = .ok (.goto 17, 3) := by decide +kernel
theorem dX12_feed_57 : decode cX12_feed 57 = .ok (.iload 6, 2) := by decide +kernel
theorem dX12_feed_59 : decode cX12_feed 59 = .ok (.bipush 16, 2) := by decide +kernel
theorem dX12_feed_61 : decode cX12_feed 61 = .ok (.if_icmp .ge 8, 3) := by decide +kernel
theorem dX12_feed_64 : decode cX12_feed 64 = .ok (.iload 4, 2) := by decide +kernel
theorem dX12_feed_66 : decode cX12_feed 66 = .ok (.goto 5, 3) := by decide +kernel
theorem dX12_feed_69 : decode cX12_feed 69 = .ok (.iload 5, 2) := by decide +kernel
theorem dX12_feed_71 : decode cX12_feed 71 = .ok (.istore 7, 2) := by decide +kernel
theorem dX12_feed_73 : decode cX12_feed 73 = .ok (.aload_n 0, 1) := by decide +kernel
theorem dX12_feed_74 : decode cX12_feed 74 = .ok (.getfield 59, 3) := by decide +kernel
theorem dX12_feed_77 : decode cX12_feed 77 = .ok (.aload_n 0, 1) := by decide +kernel
theorem dX12_feed_78 : decode cX12_feed 78 = .ok (.getfield 283, 3) := by decide +kernel
theorem dX12_feed_81 : decode cX12_feed 81 = .ok (.iload 7, 2) := by decide +kernel
theorem dX12_feed_83 : decode cX12_feed 83 = .ok (.bipush 24, 2) := by decide +kernel
theorem dX12_feed_85 : decode cX12_feed 85 = .ok (.bipush 8, 2) := by decide +kernel
theorem dX12_feed_87 : decode cX12_feed 87 = .ok (.iload 6, 2) := by decide +kernel
theorem dX12_feed_89 : decode cX12_feed 89 = .ok (.iconst 4, 1) := by decide +kernel
theorem dX12_feed_90 : decode cX12_feed 90 = .ok (.irem, 1) := by decide +kernel
theorem dX12_feed_91 : decode cX12_feed 91 = .ok (.imul, 1) := by decide +kernel
theorem dX12_feed_92 : decode cX12_feed 92 = .ok (.isub, 1) := by decide +kernel
theorem dX12_feed_93 : decode cX12_feed 93 = .ok (.ishr, 1) := by decide +kernel
theorem dX12_feed_94 : decode cX12_feed 94 = .ok (.sipush 255, 3) := by decide +kernel
theorem dX12_feed_97 : decode cX12_feed 97 = .ok (.iand, 1) := by decide +kernel
theorem dX12_feed_98 : decode cX12_feed 98 = .ok (.iastore, 1) := by decide +kernel
theorem dX12_feed_99 : decode cX12_feed 99 = .ok (.aload_n 0, 1) := by decide +kernel
theorem dX12_feed_100 : decode cX12_feed 100 = .ok (.dup, 1) := by decide +kernel
theorem dX12_feed_101 : decode cX12_feed 101 = .ok (.getfield 283, 3) := by decide +kernel
theorem dX12_feed_104 : decode cX12_feed 104 = .ok (.iconst 1, 1) := by decide +kernel
theorem dX12_feed_105 : decode cX12_feed 105 = .ok (.iadd, 1) := by decide +kernel
theorem dX12_feed_106 : decode cX12_feed 106 = .ok (.putfield 283, 3) := by decide +kernel
theorem dX12_feed_109 : decode cX12_feed 109 = .ok (.iinc 6 1, 3) := by decide +kernel
theorem dX12_feed_112 : decode cX12_feed 112 = .ok (.goto (-94), 3) := by decide +kernel
theorem dX12_feed_115 : decode cX12_feed 115 = .ok (.aload_n 0, 1) := by decide +kernel
theorem dX12_feed_116 : decode cX12_feed 116 = .ok (.getfield 283, 3) := by decide +kernel
theorem dX12_feed_119 : decode cX12_feed 119 = .ok (.ireturn, 1) := by decide +kernel
theorem dX12_back_0 : decode cX12_back 0 = .ok (.iload_n 1, 1) := by decide +kernel
theorem dX12_back_1 : decode cX12_back 1 = .ok (.i2l, 1) := by decide +kernel
theorem dX12_back_2 : decode cX12_back 2 = .ok (.lconst 0, 1) := by decide +kernel
theorem dX12_back_3 : decode cX12_back 3 = .ok (.aload_n 0, 1) := by decide +kernel
theorem dX12_back_4 : decode cX12_back 4 = .ok (.getfield 283, 3) := by decide +kernel
theorem dX12_back_7 : decode cX12_back 7 = .ok (.i2l, 1) := by decide +kernel
theorem dX12_back_8 : decode cX12_back 8 = .ok (.invokestatic 95, 3) := by decide +kernel
theorem dX12_back_11 : decode cX12_back 11 = .ok (.ifCond .ne 5, 3) := by decide +kernel
theorem dX12_back_14 : decode cX12_back 14 = .ok (.iconst (-1), 1) := by decide +kernel
theorem dX12_back_15 : decode cX12_back 15 = .ok (.ireturn, 1) := by decide +kernel
theorem dX12_back_16 : decode cX12_back 16 = .ok (.aload_n 0, 1) := by decide +kernel
theorem dX12_back_17 : decode cX12_back 17 = .ok (.dup, 1) := by decide +kernel
theorem dX12_back_18 : decode cX12_back 18 = .ok (.getfield 283, 3) := by decide +kernel
theorem dX12_back_21 : decode cX12_back 21 = .ok (.iload_n 1, 1) := by decide +kernel
theorem dX12_back_22 : decode cX12_back 22 = .ok (.isub, 1) := by decide +kernel
theorem dX12_back_23 : decode cX12_back 23 = .ok (.putfield 283, 3) := by decide +kernel
theorem dX12_back_26 : decode cX12_back 26 = .ok (.aload_n 0, 1) := by decide +kernel
theorem dX12_back_27 : decode cX12_back 27 = .ok (.getfield 283, 3) := by decide +kernel
theorem dX12_back_30 : decode cX12_back 30 = .ok (.ireturn, 1) := by decide +kernel
theorem dX12_opens_0 : decode cX12_opens 0 = .ok (.aload_n 0, 1) := by decide +kernel
theorem dX12_opens_1 : decode cX12_opens 1 = .ok (.getfield 62, 3) := by decide +kernel
theorem dX12_opens_4 : decode cX12_opens 4 = .ok (.aload_n 0, 1) := by decide +kernel
theorem dX12_opens_5 : decode cX12_opens 5 = .ok (.getfield 286, 3) := by decide +kernel
theorem dX12_opens_8 : decode cX12_opens 8 = .ok (.iload_n 1, 1) := by decide +kernel
theorem dX12_opens_9 : decode cX12_opens 9 = .ok (.iastore, 1) := by decide +kernel
theorem dX12_opens_10 : decode cX12_opens 10 = .ok (.aload_n 0, 1) := by decide +kernel
theorem dX12_opens_11 : decode cX12_opens 11 = .ok (.dup, 1) := by decide +kernel
theorem dX12_opens_12 : decode cX12_opens 12 = .ok (.getfield 286, 3) := by decide +kernel
theorem dX12_opens_15 : decode cX12_opens 15 = .ok (.iconst 1, 1) := by decide +kernel
theorem dX12_opens_16 : decode cX12_opens 16 = .ok (.iadd, 1) := by decide +kernel
theorem dX12_opens_17 : decode cX12_opens 17 = .ok (.putfield 286, 3) := by decide +kernel
theorem dX12_opens_20 : decode cX12_opens 20 = .ok (.iload_n 1, 1) := by decide +kernel
theorem dX12_opens_21 : decode cX12_opens 21 = .ok (.iconst 2, 1) := by decide +kernel
theorem dX12_opens_22 : decode cX12_opens 22 = .ok (.if_icmp .eq 4, 3) := by decide +kernel
theorem dX12_opens_25 : decode cX12_opens 25 = .ok (.return_, 1) := by decide +kernel
theorem dX12_opens_26 : decode cX12_opens 26 = .ok (.aload_n 0, 1) := by decide +kernel
theorem dX12_opens_27 : decode cX12_opens 27 = .ok (.dup, 1) := by decide +kernel
theorem dX12_opens_28 : decode cX12_opens 28 = .ok (.getfield 289, 3) := by decide +kernel
theorem dX12_opens_31 : decode cX12_opens 31 = .ok (.iconst 1, 1) := by decide +kernel
theorem dX12_opens_32 : decode cX12_opens 32 = .ok (.iadd, 1) := by decide +kernel
theorem dX12_opens_33 : decode cX12_opens 33 = .ok (.putfield 289, 3) := by decide +kernel
theorem dX12_opens_36 : decode cX12_opens 36 = .ok (.aload_n 0, 1) := by decide +kernel
theorem dX12_opens_37 : decode cX12_opens 37 = .ok (.getfield 65, 3) := by decide +kernel
theorem dX12_opens_40 : decode cX12_opens 40 = .ok (.aload_n 0, 1) := by decide +kernel
theorem dX12_opens_41 : decode cX12_opens 41 = .ok (.getfield 289, 3) := by decide +kernel
theorem dX12_opens_44 : decode cX12_opens 44 = .ok (.iconst 0, 1) := by decide +kernel
theorem dX12_opens_45 : decode cX12_opens 45 = .ok (.bastore, 1) := by decide +kernel
theorem dX12_opens_46 : decode cX12_opens 46 = .ok (.aload_n 0, 1) := by decide +kernel
theorem dX12_opens_47 : decode cX12_opens 47 = .ok (.getfield 68, 3) := by decide +kernel
theorem dX12_opens_50 : decode cX12_opens 50 = .ok (.aload_n 0, 1) := by decide +kernel
theorem dX12_opens_51 : decode cX12_opens 51 = .ok (.getfield 289, 3) := by decide +kernel
theorem dX12_opens_54 : decode cX12_opens 54 = .ok (.iconst 0, 1) := by decide +kernel
theorem dX12_opens_55 : decode cX12_opens 55 = .ok (.bastore, 1) := by decide +kernel
theorem dX12_opens_56 : decode cX12_opens 56 = .ok (.aload_n 0, 1) := by decide +kernel
theorem dX12_opens_57 : decode cX12_opens 57 = .ok (.getfield 71, 3) := by decide +kernel
theorem dX12_opens_60 : decode cX12_opens 60 = .ok (.aload_n 0, 1) := by decide +kernel
theorem dX12_opens_61 : decode cX12_opens 61 = .ok (.getfield 289, 3) := by decide +kernel
theorem dX12_opens_64 : decode cX12_opens 64 = .ok (.iconst 1, 1) := by decide +kernel
theorem dX12_opens_65 : decode cX12_opens 65 = .ok (.iastore, 1) := by decide +kernel
theorem dX12_opens_66 : decode cX12_opens 66 = .ok (.return_, 1) := by decide +kernel
theorem dX12_factors_0 : decode cX12_factors 0 = .ok (.aload_n 0, 1) := by decide +kernel
theorem dX12_factors_1 : decode cX12_factors 1 = .ok (.bipush 11, 2) := by decide +kernel
theorem dX12_factors_3 : decode cX12_factors 3 = .ok (.iload_n 1, 1) := by decide +kernel
theorem dX12_factors_4 : decode cX12_factors 4 = .ok (.invokevirtual 182, 3) := by decide +kernel
theorem dX12_factors_7 : decode cX12_factors 7 = .ok (.aload_n 0, 1) := by decide +kernel
theorem dX12_factors_8 : decode cX12_factors 8 = .ok (.getfield 286, 3) := by decide +kernel
theorem dX12_factors_11 : decode cX12_factors 11 = .ok (.ifCond .le 39, 3) := by decide +kernel
theorem dX12_factors_14 : decode cX12_factors 14 = .ok (.aload_n 0, 1) := by decide +kernel
theorem dX12_factors_15 : decode cX12_factors 15 = .ok (.getfield 62, 3) := by decide +kernel
theorem dX12_factors_18 : decode cX12_factors 18 = .ok (.aload_n 0, 1) := by decide +kernel
theorem dX12_factors_19 : decode cX12_factors 19 = .ok (.getfield 286, 3) := by decide +kernel
theorem dX12_factors_22 : decode cX12_factors 22 = .ok (.iconst 1, 1) := by decide +kernel
theorem dX12_factors_23 : decode cX12_factors 23 = .ok (.isub, 1) := by decide +kernel
theorem dX12_factors_24 : decode cX12_factors 24 = .ok (.iaload, 1) := by decide +kernel
theorem dX12_factors_25 : decode cX12_factors 25 = .ok (.iconst 1, 1) := by decide +kernel
theorem dX12_factors_26 : decode cX12_factors 26 = .ok (.if_icmp .ne 24, 3) := by decide +kernel
theorem dX12_factors_29 : decode cX12_factors 29 = .ok (.aload_n 0, 1) := by decide +kernel
theorem dX12_factors_30 : decode cX12_factors 30 = .ok (.bipush 11, 2) := by decide +kernel
theorem dX12_factors_32 : decode cX12_factors 32 = .ok (.bipush 11, 2) := by decide +kernel
theorem dX12_factors_34 : decode cX12_factors 34 = .ok (.invokevirtual 200, 3) := by decide +kernel
theorem dX12_factors_37 : decode cX12_factors 37 = .ok (.aload_n 0, 1) := by decide +kernel
theorem dX12_factors_38 : decode cX12_factors 38 = .ok (.dup, 1) := by decide +kernel
theorem dX12_factors_39 : decode cX12_factors 39 = .ok (.getfield 286, 3) := by decide +kernel
theorem dX12_factors_42 : decode cX12_factors 42 = .ok (.iconst 1, 1) := by decide +kernel
theorem dX12_factors_43 : decode cX12_factors 43 = .ok (.isub, 1) := by decide +kernel
theorem dX12_factors_44 : decode cX12_factors 44 = .ok (.putfield 286, 3) := by decide +kernel
theorem dX12_factors_47 : decode cX12_factors 47 = .ok (.goto (-40), 3) := by decide +kernel
theorem dX12_factors_50 : decode cX12_factors 50 = .ok (.bipush 37, 2) := by decide +kernel
theorem dX12_factors_52 : decode cX12_factors 52 = .ok (.aload_n 0, 1) := by decide +kernel
theorem dX12_factors_53 : decode cX12_factors 53 = .ok (.getfield 289, 3) := by decide +kernel
theorem dX12_factors_56 : decode cX12_factors 56 = .ok (.iadd, 1) := by decide +kernel
theorem dX12_factors_57 : decode cX12_factors 57 = .ok (.istore_n 2, 1) := by decide +kernel
theorem dX12_factors_58 : decode cX12_factors 58 = .ok (.aload_n 0, 1) := by decide +kernel
theorem dX12_factors_59 : decode cX12_factors 59 = .ok (.getfield 68, 3) := by decide +kernel
theorem dX12_factors_62 : decode cX12_factors 62 = .ok (.aload_n 0, 1) := by decide +kernel
theorem dX12_factors_63 : decode cX12_factors 63 = .ok (.getfield 289, 3) := by decide +kernel
theorem dX12_factors_66 : decode cX12_factors 66 = .ok (.baload, 1) := by decide +kernel
theorem dX12_factors_67 : decode cX12_factors 67 = .ok (.ifCond .ne 13, 3) := by decide +kernel
theorem dX12_factors_70 : decode cX12_factors 70 = .ok (.aload_n 0, 1) := by decide +kernel
theorem dX12_factors_71 : decode cX12_factors 71 = .ok (.iload_n 2, 1) := by decide +kernel
theorem dX12_factors_72 : decode cX12_factors 72 = .ok (.bipush 11, 2) := by decide +kernel
theorem dX12_factors_74 : decode cX12_factors 74 = .ok (.invokevirtual 182, 3) := by decide +kernel
theorem dX12_factors_77 : decode cX12_factors 77 = .ok (.goto 19, 3) := by decide +kernel
theorem dX12_factors_80 : decode cX12_factors 80 = .ok (.aload_n 0, 1) := by decide +kernel
theorem dX12_factors_81 : decode cX12_factors 81 = .ok (.iload_n 2, 1) := by decide +kernel
theorem dX12_factors_82 : decode cX12_factors 82 = .ok (.iload_n 2, 1) := by decide +kernel
theorem dX12_factors_83 : decode cX12_factors 83 = .ok (.bipush 11, 2) := by decide +kernel
theorem dX12_factors_85 : decode cX12_factors 85 = .ok (.invokevirtual 197, 3) := by decide +kernel
theorem dX12_factors_88 : decode cX12_factors 88 = .ok (.ifCond .ne 8, 3) := by decide +kernel
theorem dX12_factors_91 : decode cX12_factors 91 = .ok (.aload_n 0, 1) := by decide +kernel
theorem dX12_factors_92 : decode cX12_factors 92 = .ok (.iconst 0, 1) := by decide +kernel
theorem dX12_factors_93 : decode cX12_factors 93 = .ok (.putfield 292, 3) := by decide +kernel
theorem dX12_factors_96 : decode cX12_factors 96 = .ok (.aload_n 0, 1) := by decide +kernel
theorem dX12_factors_97 : decode cX12_factors 97 = .ok (.getfield 68, 3) := by decide +kernel
theorem dX12_factors_100 : decode cX12_factors 100 = .ok (.aload_n 0, 1) := by decide +kernel
theorem dX12_factors_101 : decode cX12_factors 101 = .ok (.getfield 289, 3) := by decide +kernel
theorem dX12_factors_104 : decode cX12_factors 104 = .ok (.iconst 1, 1) := by decide +kernel
theorem dX12_factors_105 : decode cX12_factors 105 = .ok (.bastore, 1) := by decide +kernel
theorem dX12_factors_106 : decode cX12_factors 106 = .ok (.return_, 1) := by decide +kernel
theorem dX12_sums_0 : decode cX12_sums 0 = .ok (.bipush 24, 2) := by decide +kernel
theorem dX12_sums_2 : decode cX12_sums 2 = .ok (.aload_n 0, 1) := by decide +kernel
theorem dX12_sums_3 : decode cX12_sums 3 = .ok (.getfield 289, 3) := by decide +kernel
theorem dX12_sums_6 : decode cX12_sums 6 = .ok (.iadd, 1) := by decide +kernel
theorem dX12_sums_7 : decode cX12_sums 7 = .ok (.istore_n 1, 1) := by decide +kernel
theorem dX12_sums_8 : decode cX12_sums 8 = .ok (.aload_n 0, 1) := by decide +kernel
theorem dX12_sums_9 : decode cX12_sums 9 = .ok (.getfield 65, 3) := by decide +kernel
theorem dX12_sums_12 : decode cX12_sums 12 = .ok (.aload_n 0, 1) := by decide +kernel
theorem dX12_sums_13 : decode cX12_sums 13 = .ok (.getfield 289, 3) := by decide +kernel
theorem dX12_sums_16 : decode cX12_sums 16 = .ok (.baload, 1) := by decide +kernel
theorem dX12_sums_17 : decode cX12_sums 17 = .ok (.ifCond .ne 18, 3) := by decide +kernel
theorem dX12_sums_20 : decode cX12_sums 20 = .ok (.aload_n 0, 1) := by decide +kernel
theorem dX12_sums_21 : decode cX12_sums 21 = .ok (.iload_n 1, 1) := by decide +kernel
theorem dX12_sums_22 : decode cX12_sums 22 = .ok (.bipush 37, 2) := by decide +kernel
theorem dX12_sums_24 : decode cX12_sums 24 = .ok (.aload_n 0, 1) := by decide +kernel
theorem dX12_sums_25 : decode cX12_sums 25 = .ok (.getfield 289, 3) := by decide +kernel
theorem dX12_sums_28 : decode cX12_sums 28 = .ok (.iadd, 1) := by decide +kernel
theorem dX12_sums_29 : decode cX12_sums 29 = .ok (.invokevirtual 182, 3) := by decide +kernel
theorem dX12_sums_32 : decode cX12_sums 32 = .ok (.goto 33, 3) := by decide +kernel
theorem dX12_sums_35 : decode cX12_sums 35 = .ok (.aload_n 0, 1) := by decide +kernel
theorem dX12_sums_36 : decode cX12_sums 36 = .ok (.iload_n 1, 1) := by decide +kernel
theorem dX12_sums_37 : decode cX12_sums 37 = .ok (.iload_n 1, 1) := by decide +kernel
theorem dX12_sums_38 : decode cX12_sums 38 = .ok (.bipush 37, 2) := by decide +kernel
theorem dX12_sums_40 : decode cX12_sums 40 = .ok (.aload_n 0, 1) := by decide +kernel
theorem dX12_sums_41 : decode cX12_sums 41 = .ok (.getfield 289, 3) := by decide +kernel
theorem dX12_sums_44 : decode cX12_sums 44 = .ok (.iadd, 1) := by decide +kernel
theorem dX12_sums_45 : decode cX12_sums 45 = .ok (.aload_n 0, 1) := by decide +kernel
theorem dX12_sums_46 : decode cX12_sums 46 = .ok (.getfield 71, 3) := by decide +kernel
theorem dX12_sums_49 : decode cX12_sums 49 = .ok (.aload_n 0, 1) := by decide +kernel
theorem dX12_sums_50 : decode cX12_sums 50 = .ok (.getfield 289, 3) := by decide +kernel
theorem dX12_sums_53 : decode cX12_sums 53 = .ok (.iaload, 1) := by decide +kernel
theorem dX12_sums_54 : decode cX12_sums 54 = .ok (.invokevirtual 193, 3) := by decide +kernel
theorem dX12_sums_57 : decode cX12_sums 57 = .ok (.ifCond .ne 8, 3) := by decide +kernel
theorem dX12_sums_60 : decode cX12_sums 60 = .ok (.aload_n 0, 1) := by decide +kernel
theorem dX12_sums_61 : decode cX12_sums 61 = .ok (.iconst 0, 1) := by decide +kernel
theorem dX12_sums_62 : decode cX12_sums 62 = .ok (.putfield 292, 3) := by decide +kernel
theorem dX12_sums_65 : decode cX12_sums 65 = .ok (.aload_n 0, 1) := by decide +kernel
theorem dX12_sums_66 : decode cX12_sums 66 = .ok (.getfield 65, 3) := by decide +kernel
theorem dX12_sums_69 : decode cX12_sums 69 = .ok (.aload_n 0, 1) := by decide +kernel
theorem dX12_sums_70 : decode cX12_sums 70 = .ok (.getfield 289, 3) := by decide +kernel
theorem dX12_sums_73 : decode cX12_sums 73 = .ok (.iconst 1, 1) := by decide +kernel
theorem dX12_sums_74 : decode cX12_sums 74 = .ok (.bastore, 1) := by decide +kernel
theorem dX12_sums_75 : decode cX12_sums 75 = .ok (.aload_n 0, 1) := by decide +kernel
theorem dX12_sums_76 : decode cX12_sums 76 = .ok (.getfield 68, 3) := by decide +kernel
theorem dX12_sums_79 : decode cX12_sums 79 = .ok (.aload_n 0, 1) := by decide +kernel
theorem dX12_sums_80 : decode cX12_sums 80 = .ok (.getfield 289, 3) := by decide +kernel
theorem dX12_sums_83 : decode cX12_sums 83 = .ok (.iconst 0, 1) := by decide +kernel
theorem dX12_sums_84 : decode cX12_sums 84 = .ok (.bastore, 1) := by decide +kernel
theorem dX12_sums_85 : decode cX12_sums 85 = .ok (.return_, 1) := by decide +kernel
theorem dX12_begins_0 : decode cX12_begins 0 = .ok (.iload_n 1, 1) := by decide +kernel
theorem dX12_begins_1 : decode cX12_begins 1 = .ok (.bipush 126, 2) := by decide +kernel
theorem dX12_begins_3 : decode cX12_begins 3 = .ok (.if_icmp .eq 9, 3) := by decide +kernel
theorem dX12_begins_6 : decode cX12_begins 6 = .ok (.iload_n 1, 1) := by decide +kernel
theorem dX12_begins_7 : decode cX12_begins 7 = .ok (.bipush 40, 2) := by decide +kernel
theorem dX12_begins_9 : decode cX12_begins 9 = .ok (.if_icmp .ne 41, 3) := by decide +kernel
theorem dX12_begins_12 : decode cX12_begins 12 = .ok (.aload_n 0, 1) := by decide +kernel
theorem dX12_begins_13 : decode cX12_begins 13 = .ok (.getfield 286, 3) := by decide +kernel
theorem dX12_begins_16 : decode cX12_begins 16 = .ok (.bipush 12, 2) := by decide +kernel
theorem dX12_begins_18 : decode cX12_begins 18 = .ok (.if_icmp .ne 5, 3) := by decide +kernel
theorem dX12_begins_21 : decode cX12_begins 21 = .ok (.iconst 0, 1) := by decide +kernel
theorem dX12_begins_22 : decode cX12_begins 22 = .ok (.ireturn, 1) := by decide +kernel
theorem dX12_begins_23 : decode cX12_begins 23 = .ok (.aload_n 0, 1) := by decide +kernel
theorem dX12_begins_24 : decode cX12_begins 24 = .ok (.iload_n 1, 1) := by decide +kernel
theorem dX12_begins_25 : decode cX12_begins 25 = .ok (.bipush 126, 2) := by decide +kernel
theorem dX12_begins_27 : decode cX12_begins 27 = .ok (.if_icmp .ne 7, 3) := by decide +kernel
theorem dX12_begins_30 : decode cX12_begins 30 = .ok (.iconst 1, 1) := by decide +kernel
theorem dX12_begins_31 : decode cX12_begins 31 = .ok (.goto 4, 3) := by decide +kernel
theorem dX12_begins_34 : decode cX12_begins 34 = .ok (.iconst 2, 1) := by decide +kernel
theorem dX12_begins_35 : decode cX12_begins 35 = .ok (.invokevirtual 295, 3) := by decide +kernel
theorem dX12_begins_38 : decode cX12_begins 38 = .ok (.aload_n 0, 1) := by decide +kernel
theorem dX12_begins_39 : decode cX12_begins 39 = .ok (.dup, 1) := by decide +kernel
theorem dX12_begins_40 : decode cX12_begins 40 = .ok (.getfield 298, 3) := by decide +kernel
theorem dX12_begins_43 : decode cX12_begins 43 = .ok (.iconst 1, 1) := by decide +kernel
theorem dX12_begins_44 : decode cX12_begins 44 = .ok (.iadd, 1) := by decide +kernel
theorem dX12_begins_45 : decode cX12_begins 45 = .ok (.putfield 298, 3) := by decide +kernel
theorem dX12_begins_48 : decode cX12_begins 48 = .ok (.iconst 1, 1) := by decide +kernel
theorem dX12_begins_49 : decode cX12_begins 49 = .ok (.ireturn, 1) := by decide +kernel
theorem dX12_begins_50 : decode cX12_begins 50 = .ok (.iload_n 1, 1) := by decide +kernel
theorem dX12_begins_51 : decode cX12_begins 51 = .ok (.i2l, 1) := by decide +kernel
theorem dX12_begins_52 : decode cX12_begins 52 = .ok (.ldc2_w 301, 3) := by decide +kernel
theorem dX12_begins_55 : decode cX12_begins 55 = .ok (.ldc2_w 303, 3) := by decide +kernel
theorem dX12_begins_58 : decode cX12_begins 58 = .ok (.invokestatic 95, 3) := by decide +kernel
theorem dX12_begins_61 : decode cX12_begins 61 = .ok (.ifCond .eq 23, 3) := by decide +kernel
theorem dX12_begins_64 : decode cX12_begins 64 = .ok (.aload_n 0, 1) := by decide +kernel
theorem dX12_begins_65 : decode cX12_begins 65 = .ok (.iload_n 1, 1) := by decide +kernel
theorem dX12_begins_66 : decode cX12_begins 66 = .ok (.bipush 97, 2) := by decide +kernel
theorem dX12_begins_68 : decode cX12_begins 68 = .ok (.isub, 1) := by decide +kernel
theorem dX12_begins_69 : decode cX12_begins 69 = .ok (.invokevirtual 305, 3) := by decide +kernel
theorem dX12_begins_72 : decode cX12_begins 72 = .ok (.aload_n 0, 1) := by decide +kernel
theorem dX12_begins_73 : decode cX12_begins 73 = .ok (.dup, 1) := by decide +kernel
theorem dX12_begins_74 : decode cX12_begins 74 = .ok (.getfield 298, 3) := by decide +kernel
theorem dX12_begins_77 : decode cX12_begins 77 = .ok (.iconst 1, 1) := by decide +kernel
theorem dX12_begins_78 : decode cX12_begins 78 = .ok (.iadd, 1) := by decide +kernel
theorem dX12_begins_79 : decode cX12_begins 79 = .ok (.putfield 298, 3) := by decide +kernel
theorem dX12_begins_82 : decode cX12_begins 82 = .ok (.iconst 1, 1) := by decide +kernel
theorem dX12_begins_83 : decode cX12_begins 83 = .ok (.ireturn, 1) := by decide +kernel
theorem dX12_begins_84 : decode cX12_begins 84 = .ok (.iload_n 1, 1) := by decide +kernel
theorem dX12_begins_85 : decode cX12_begins 85 = .ok (.i2l, 1) := by decide +kernel
theorem dX12_begins_86 : decode cX12_begins 86 = .ok (.ldc2_w 308, 3) := by decide +kernel
theorem dX12_begins_89 : decode cX12_begins 89 = .ok (.ldc2_w 310, 3) := by decide +kernel
theorem dX12_begins_92 : decode cX12_begins 92 = .ok (.invokestatic 95, 3) := by decide +kernel
theorem dX12_begins_95 : decode cX12_begins 95 = .ok (.ifCond .ne 5, 3) := by decide +kernel
theorem dX12_begins_98 : decode cX12_begins 98 = .ok (.iconst 0, 1) := by decide +kernel
theorem dX12_begins_99 : decode cX12_begins 99 = .ok (.ireturn, 1) := by decide +kernel
theorem dX12_begins_100 : decode cX12_begins 100 = .ok (.aload_n 0, 1) := by decide +kernel
theorem dX12_begins_101 : decode cX12_begins 101 = .ok (.getfield 298, 3) := by decide +kernel
theorem dX12_begins_104 : decode cX12_begins 104 = .ok (.istore_n 2, 1) := by decide +kernel
theorem dX12_begins_105 : decode cX12_begins 105 = .ok (.iconst 0, 1) := by decide +kernel
theorem dX12_begins_106 : decode cX12_begins 106 = .ok (.istore_n 3, 1) := by decide +kernel
theorem dX12_begins_107 : decode cX12_begins 107 = .ok (.aload_n 0, 1) := by decide +kernel
theorem dX12_begins_108 : decode cX12_begins 108 = .ok (.getfield 298, 3) := by decide +kernel
theorem dX12_begins_111 : decode cX12_begins 111 = .ok (.aload_n 0, 1) := by decide +kernel
theorem dX12_begins_112 : decode cX12_begins 112 = .ok (.getfield 283, 3) := by decide +kernel
theorem dX12_begins_115 : decode cX12_begins 115 = .ok (.if_icmp .ge 63, 3) := by decide +kernel
theorem dX12_begins_118 : decode cX12_begins 118 = .ok (.aload_n 0, 1) := by decide +kernel
theorem dX12_begins_119 : decode cX12_begins 119 = .ok (.getfield 59, 3) := by decide +kernel
theorem dX12_begins_122 : decode cX12_begins 122 = .ok (.aload_n 0, 1) := by decide +kernel
theorem dX12_begins_123 : decode cX12_begins 123 = .ok (.getfield 298, 3) := by decide +kernel
theorem dX12_begins_126 : decode cX12_begins 126 = .ok (.iaload, 1) := by decide +kernel
theorem dX12_begins_127 : decode cX12_begins 127 = .ok (.i2l, 1) := by decide +kernel
theorem dX12_begins_128 : decode cX12_begins 128 = .ok (.ldc2_w 308, 3) := by decide +kernel
theorem dX12_begins_131 : decode cX12_begins 131 = .ok (.ldc2_w 310, 3) := by decide +kernel
theorem dX12_begins_134 : decode cX12_begins 134 = .ok (.invokestatic 95, 3) := by decide +kernel
theorem dX12_begins_137 : decode cX12_begins 137 = .ok (.ifCond .eq 41, 3) := by decide +kernel
theorem dX12_begins_140 : decode cX12_begins 140 = .ok (.iload_n 3, 1) := by decide +kernel
theorem dX12_begins_141 : decode cX12_begins 141 = .ok (.sipush 999, 3) := by decide +kernel
theorem dX12_begins_144 : decode cX12_begins 144 = .ok (.if_icmp .gt 21, 3) := by decide +kernel
theorem dX12_begins_147 : decode cX12_begins 147 = .ok (.bipush 10, 2) := by decide +kernel
theorem dX12_begins_149 : decode cX12_begins 149 = .ok (.iload_n 3, 1) := by decide +kernel
theorem dX12_begins_150 : decode cX12_begins 150 = .ok (.imul, 1) := by decide +kernel
theorem dX12_begins_151 : decode cX12_begins 151 = .ok (.aload_n 0, 1) := by decide +kernel
theorem dX12_begins_152 : decode cX12_begins 152 = .ok (.getfield 59, 3) := by decide +kernel
theorem dX12_begins_155 : decode cX12_begins 155 = .ok (.aload_n 0, 1) := by decide +kernel
theorem dX12_begins_156 : decode cX12_begins 156 = .ok (.getfield 298, 3) := by decide +kernel
theorem dX12_begins_159 : decode cX12_begins 159 = .ok (.iaload, 1) := by decide +kernel
theorem dX12_begins_160 : decode cX12_begins 160 = .ok (.iadd, 1) := by decide +kernel
theorem dX12_begins_161 : decode cX12_begins 161 = .ok (.bipush 48, 2) := by decide +kernel
theorem dX12_begins_163 : decode cX12_begins 163 = .ok (.isub, 1) := by decide +kernel
theorem dX12_begins_164 : decode cX12_begins 164 = .ok (.istore_n 3, 1) := by decide +kernel
theorem dX12_begins_165 : decode cX12_begins 165 = .ok (.aload_n 0, 1) := by decide +kernel
theorem dX12_begins_166 : decode cX12_begins 166 = .ok (.dup, 1) := by decide +kernel
theorem dX12_begins_167 : decode cX12_begins 167 = .ok (.getfield 298, 3) := by decide +kernel
theorem dX12_begins_170 : decode cX12_begins 170 = .ok (.iconst 1, 1) := by decide +kernel
theorem dX12_begins_171 : decode cX12_begins 171 = .ok (.iadd, 1) := by decide +kernel
theorem dX12_begins_172 : decode cX12_begins 172 = .ok (.putfield 298, 3) := by decide +kernel
theorem dX12_begins_175 : decode cX12_begins 175 = .ok (.goto (-68), 3) := by decide +kernel
theorem dX12_begins_178 : decode cX12_begins 178 = .ok (.iload_n 3, 1) := by decide +kernel
theorem dX12_begins_179 : decode cX12_begins 179 = .ok (.sipush 999, 3) := by decide +kernel
theorem dX12_begins_182 : decode cX12_begins 182 = .ok (.if_icmp .le 10, 3) := by decide +kernel
theorem dX12_begins_185 : decode cX12_begins 185 = .ok (.aload_n 0, 1) := by decide +kernel
theorem dX12_begins_186 : decode cX12_begins 186 = .ok (.iload_n 2, 1) := by decide +kernel
theorem dX12_begins_187 : decode cX12_begins 187 = .ok (.putfield 298, 3) := by decide +kernel
theorem dX12_begins_190 : decode cX12_begins 190 = .ok (.iconst 0, 1) := by decide +kernel
theorem dX12_begins_191 : decode cX12_begins 191 = .ok (.ireturn, 1) := by decide +kernel
theorem dX12_begins_192 : decode cX12_begins 192 = .ok (.aload_n 0, 1) := by decide +kernel
theorem dX12_begins_193 : decode cX12_begins 193 = .ok (.bipush 12, 2) := by decide +kernel
theorem dX12_begins_195 : decode cX12_begins 195 = .ok (.invokevirtual 171, 3) := by decide +kernel
theorem dX12_begins_198 : decode cX12_begins 198 = .ok (.aload_n 0, 1) := by decide +kernel
theorem dX12_begins_199 : decode cX12_begins 199 = .ok (.getfield 17, 3) := by decide +kernel
theorem dX12_begins_202 : decode cX12_begins 202 = .ok (.bipush 96, 2) := by decide +kernel
theorem dX12_begins_204 : decode cX12_begins 204 = .ok (.iconst 2, 1) := by decide +kernel
theorem dX12_begins_205 : decode cX12_begins 205 = .ok (.iload_n 3, 1) := by decide +kernel
theorem dX12_begins_206 : decode cX12_begins 206 = .ok (.imul, 1) := by decide +kernel
theorem dX12_begins_207 : decode cX12_begins 207 = .ok (.iastore, 1) := by decide +kernel
theorem dX12_begins_208 : decode cX12_begins 208 = .ok (.aload_n 0, 1) := by decide +kernel
theorem dX12_begins_209 : decode cX12_begins 209 = .ok (.bipush 12, 2) := by decide +kernel
theorem dX12_begins_211 : decode cX12_begins 211 = .ok (.invokevirtual 305, 3) := by decide +kernel
theorem dX12_begins_214 : decode cX12_begins 214 = .ok (.iconst 1, 1) := by decide +kernel
theorem dX12_begins_215 : decode cX12_begins 215 = .ok (.ireturn, 1) := by decide +kernel
theorem dX12_follows_0 : decode cX12_follows 0 = .ok (.iload_n 1, 1) := by decide +kernel
theorem dX12_follows_1 : decode cX12_follows 1 = .ok (.bipush 41, 2) := by decide +kernel
theorem dX12_follows_3 : decode cX12_follows 3 = .ok (.if_icmp .ne 52, 3) := by decide +kernel
theorem dX12_follows_6 : decode cX12_follows 6 = .ok (.aload_n 0, 1) := by decide +kernel
theorem dX12_follows_7 : decode cX12_follows 7 = .ok (.getfield 289, 3) := by decide +kernel
theorem dX12_follows_10 : decode cX12_follows 10 = .ok (.ifCond .ne 5, 3) := by decide +kernel
theorem dX12_follows_13 : decode cX12_follows 13 = .ok (.iconst 0, 1) := by decide +kernel
theorem dX12_follows_14 : decode cX12_follows 14 = .ok (.ireturn, 1) := by decide +kernel
theorem dX12_follows_15 : decode cX12_follows 15 = .ok (.aload_n 0, 1) := by decide +kernel
theorem dX12_follows_16 : decode cX12_follows 16 = .ok (.invokevirtual 312, 3) := by decide +kernel
theorem dX12_follows_19 : decode cX12_follows 19 = .ok (.aload_n 0, 1) := by decide +kernel
theorem dX12_follows_20 : decode cX12_follows 20 = .ok (.dup, 1) := by decide +kernel
theorem dX12_follows_21 : decode cX12_follows 21 = .ok (.getfield 289, 3) := by decide +kernel
theorem dX12_follows_24 : decode cX12_follows 24 = .ok (.iconst 1, 1) := by decide +kernel
theorem dX12_follows_25 : decode cX12_follows 25 = .ok (.isub, 1) := by decide +kernel
theorem dX12_follows_26 : decode cX12_follows 26 = .ok (.putfield 289, 3) := by decide +kernel
theorem dX12_follows_29 : decode cX12_follows 29 = .ok (.aload_n 0, 1) := by decide +kernel
theorem dX12_follows_30 : decode cX12_follows 30 = .ok (.dup, 1) := by decide +kernel
theorem dX12_follows_31 : decode cX12_follows 31 = .ok (.getfield 286, 3) := by decide +kernel
theorem dX12_follows_34 : decode cX12_follows 34 = .ok (.iconst 1, 1) := by decide +kernel
theorem dX12_follows_35 : decode cX12_follows 35 = .ok (.isub, 1) := by decide +kernel
theorem dX12_follows_36 : decode cX12_follows 36 = .ok (.putfield 286, 3) := by decide +kernel
theorem dX12_follows_39 : decode cX12_follows 39 = .ok (.aload_n 0, 1) := by decide +kernel
theorem dX12_follows_40 : decode cX12_follows 40 = .ok (.bipush 24, 2) := by decide +kernel
theorem dX12_follows_42 : decode cX12_follows 42 = .ok (.aload_n 0, 1) := by decide +kernel
theorem dX12_follows_43 : decode cX12_follows 43 = .ok (.getfield 289, 3) := by decide +kernel
theorem dX12_follows_46 : decode cX12_follows 46 = .ok (.iadd, 1) := by decide +kernel
theorem dX12_follows_47 : decode cX12_follows 47 = .ok (.iconst 1, 1) := by decide +kernel
theorem dX12_follows_48 : decode cX12_follows 48 = .ok (.iadd, 1) := by decide +kernel
theorem dX12_follows_49 : decode cX12_follows 49 = .ok (.invokevirtual 305, 3) := by decide +kernel
theorem dX12_follows_52 : decode cX12_follows 52 = .ok (.goto 50, 3) := by decide +kernel
theorem dX12_follows_55 : decode cX12_follows 55 = .ok (.iload_n 1, 1) := by decide +kernel
theorem dX12_follows_56 : decode cX12_follows 56 = .ok (.bipush 43, 2) := by decide +kernel
theorem dX12_follows_58 : decode cX12_follows 58 = .ok (.if_icmp .eq 9, 3) := by decide +kernel
theorem dX12_follows_61 : decode cX12_follows 61 = .ok (.iload_n 1, 1) := by decide +kernel
theorem dX12_follows_62 : decode cX12_follows 62 = .ok (.bipush 45, 2) := by decide +kernel
theorem dX12_follows_64 : decode cX12_follows 64 = .ok (.if_icmp .ne 30, 3) := by decide +kernel
theorem dX12_follows_67 : decode cX12_follows 67 = .ok (.aload_n 0, 1) := by decide +kernel
theorem dX12_follows_68 : decode cX12_follows 68 = .ok (.invokevirtual 312, 3) := by decide +kernel
theorem dX12_follows_71 : decode cX12_follows 71 = .ok (.aload_n 0, 1) := by decide +kernel
theorem dX12_follows_72 : decode cX12_follows 72 = .ok (.getfield 71, 3) := by decide +kernel
theorem dX12_follows_75 : decode cX12_follows 75 = .ok (.aload_n 0, 1) := by decide +kernel
theorem dX12_follows_76 : decode cX12_follows 76 = .ok (.getfield 289, 3) := by decide +kernel
theorem dX12_follows_79 : decode cX12_follows 79 = .ok (.iload_n 1, 1) := by decide +kernel
theorem dX12_follows_80 : decode cX12_follows 80 = .ok (.bipush 43, 2) := by decide +kernel
theorem dX12_follows_82 : decode cX12_follows 82 = .ok (.if_icmp .ne 7, 3) := by decide +kernel
theorem dX12_follows_85 : decode cX12_follows 85 = .ok (.iconst 1, 1) := by decide +kernel
theorem dX12_follows_86 : decode cX12_follows 86 = .ok (.goto 4, 3) := by decide +kernel
theorem dX12_follows_89 : decode cX12_follows 89 = .ok (.iconst (-1), 1) := by decide +kernel
theorem dX12_follows_90 : decode cX12_follows 90 = .ok (.iastore, 1) := by decide +kernel
theorem dX12_follows_91 : decode cX12_follows 91 = .ok (.goto 11, 3) := by decide +kernel
theorem dX12_follows_94 : decode cX12_follows 94 = .ok (.iload_n 1, 1) := by decide +kernel
theorem dX12_follows_95 : decode cX12_follows 95 = .ok (.bipush 42, 2) := by decide +kernel
theorem dX12_follows_97 : decode cX12_follows 97 = .ok (.if_icmp .eq 5, 3) := by decide +kernel
theorem dX12_follows_100 : decode cX12_follows 100 = .ok (.iconst 0, 1) := by decide +kernel
theorem dX12_follows_101 : decode cX12_follows 101 = .ok (.ireturn, 1) := by decide +kernel
theorem dX12_follows_102 : decode cX12_follows 102 = .ok (.aload_n 0, 1) := by decide +kernel
theorem dX12_follows_103 : decode cX12_follows 103 = .ok (.dup, 1) := by decide +kernel
theorem dX12_follows_104 : decode cX12_follows 104 = .ok (.getfield 298, 3) := by decide +kernel
theorem dX12_follows_107 : decode cX12_follows 107 = .ok (.iconst 1, 1) := by decide +kernel
theorem dX12_follows_108 : decode cX12_follows 108 = .ok (.iadd, 1) := by decide +kernel
theorem dX12_follows_109 : decode cX12_follows 109 = .ok (.putfield 298, 3) := by decide +kernel
theorem dX12_follows_112 : decode cX12_follows 112 = .ok (.iconst 1, 1) := by decide +kernel
theorem dX12_follows_113 : decode cX12_follows 113 = .ok (.ireturn, 1) := by decide +kernel
theorem dX12_works_0 : decode cX12_works 0 = .ok (.aload_n 0, 1) := by decide +kernel
theorem dX12_works_1 : decode cX12_works 1 = .ok (.iconst 0, 1) := by decide +kernel
theorem dX12_works_2 : decode cX12_works 2 = .ok (.putfield 286, 3) := by decide +kernel
theorem dX12_works_5 : decode cX12_works 5 = .ok (.aload_n 0, 1) := by decide +kernel
theorem dX12_works_6 : decode cX12_works 6 = .ok (.iconst 0, 1) := by decide +kernel
theorem dX12_works_7 : decode cX12_works 7 = .ok (.putfield 289, 3) := by decide +kernel
theorem dX12_works_10 : decode cX12_works 10 = .ok (.aload_n 0, 1) := by decide +kernel
theorem dX12_works_11 : decode cX12_works 11 = .ok (.getfield 65, 3) := by decide +kernel
theorem dX12_works_14 : decode cX12_works 14 = .ok (.iconst 0, 1) := by decide +kernel
theorem dX12_works_15 : decode cX12_works 15 = .ok (.iconst 0, 1) := by decide +kernel
theorem dX12_works_16 : decode cX12_works 16 = .ok (.bastore, 1) := by decide +kernel
theorem dX12_works_17 : decode cX12_works 17 = .ok (.aload_n 0, 1) := by decide +kernel
theorem dX12_works_18 : decode cX12_works 18 = .ok (.getfield 68, 3) := by decide +kernel
theorem dX12_works_21 : decode cX12_works 21 = .ok (.iconst 0, 1) := by decide +kernel
theorem dX12_works_22 : decode cX12_works 22 = .ok (.iconst 0, 1) := by decide +kernel
theorem dX12_works_23 : decode cX12_works 23 = .ok (.bastore, 1) := by decide +kernel
theorem dX12_works_24 : decode cX12_works 24 = .ok (.aload_n 0, 1) := by decide +kernel
theorem dX12_works_25 : decode cX12_works 25 = .ok (.getfield 71, 3) := by decide +kernel
theorem dX12_works_28 : decode cX12_works 28 = .ok (.iconst 0, 1) := by decide +kernel
theorem dX12_works_29 : decode cX12_works 29 = .ok (.iconst 1, 1) := by decide +kernel
theorem dX12_works_30 : decode cX12_works 30 = .ok (.iastore, 1) := by decide +kernel
theorem dX12_works_31 : decode cX12_works 31 = .ok (.aload_n 0, 1) := by decide +kernel
theorem dX12_works_32 : decode cX12_works 32 = .ok (.iconst 1, 1) := by decide +kernel
theorem dX12_works_33 : decode cX12_works 33 = .ok (.putfield 292, 3) := by decide +kernel
theorem dX12_works_36 : decode cX12_works 36 = .ok (.aload_n 0, 1) := by decide +kernel
theorem dX12_works_37 : decode cX12_works 37 = .ok (.iconst 0, 1) := by decide +kernel
theorem dX12_works_38 : decode cX12_works 38 = .ok (.putfield 298, 3) := by decide +kernel
theorem dX12_works_41 : decode cX12_works 41 = .ok (.iconst 1, 1) := by decide +kernel
theorem dX12_works_42 : decode cX12_works 42 = .ok (.istore_n 1, 1) := by decide +kernel
theorem dX12_works_43 : decode cX12_works 43 = .ok (.aload_n 0, 1) := by decide +kernel
theorem dX12_works_44 : decode cX12_works 44 = .ok (.getfield 298, 3) := by decide +kernel
theorem dX12_works_47 : decode cX12_works 47 = .ok (.aload_n 0, 1) := by decide +kernel
theorem dX12_works_48 : decode cX12_works 48 = .ok (.getfield 283, 3) := by decide +kernel
theorem dX12_works_51 : decode cX12_works 51 = .ok (.if_icmp .ge 98, 3) := by decide +kernel
theorem dX12_works_54 : decode cX12_works 54 = .ok (.aload_n 0, 1) := by decide +kernel
theorem dX12_works_55 : decode cX12_works 55 = .ok (.getfield 59, 3) := by decide +kernel
theorem dX12_works_58 : decode cX12_works 58 = .ok (.aload_n 0, 1) := by decide +kernel
theorem dX12_works_59 : decode cX12_works 59 = .ok (.getfield 298, 3) := by decide +kernel
theorem dX12_works_62 : decode cX12_works 62 = .ok (.iaload, 1) := by decide +kernel
theorem dX12_works_63 : decode cX12_works 63 = .ok (.istore_n 2, 1) := by decide +kernel
theorem dX12_works_64 : decode cX12_works 64 = .ok (.iload_n 2, 1) := by decide +kernel
theorem dX12_works_65 : decode cX12_works 65 = .ok (.bipush 32, 2) := by decide +kernel
theorem dX12_works_67 : decode cX12_works 67 = .ok (.if_icmp .ne 16, 3) := by decide +kernel
theorem dX12_works_70 : decode cX12_works 70 = .ok (.aload_n 0, 1) := by decide +kernel
theorem dX12_works_71 : decode cX12_works 71 = .ok (.dup, 1) := by decide +kernel
theorem dX12_works_72 : decode cX12_works 72 = .ok (.getfield 298, 3) := by decide +kernel
theorem dX12_works_75 : decode cX12_works 75 = .ok (.iconst 1, 1) := by decide +kernel
theorem dX12_works_76 : decode cX12_works 76 = .ok (.iadd, 1) := by decide +kernel
theorem dX12_works_77 : decode cX12_works 77 = .ok (.putfield 298, 3) := by decide +kernel
theorem dX12_works_80 : decode cX12_works 80 = .ok (.goto (-37), 3) := by decide +kernel
theorem dX12_works_83 : decode cX12_works 83 = .ok (.iload_n 1, 1) := by decide +kernel
theorem dX12_works_84 : decode cX12_works 84 = .ok (.ifCond .eq 37, 3) := by decide +kernel
theorem dX12_works_87 : decode cX12_works 87 = .ok (.aload_n 0, 1) := by decide +kernel
theorem dX12_works_88 : decode cX12_works 88 = .ok (.iload_n 2, 1) := by decide +kernel
theorem dX12_works_89 : decode cX12_works 89 = .ok (.invokevirtual 315, 3) := by decide +kernel
theorem dX12_works_92 : decode cX12_works 92 = .ok (.ifCond .ne 8, 3) := by decide +kernel
theorem dX12_works_95 : decode cX12_works 95 = .ok (.aload_n 0, 1) := by decide +kernel
theorem dX12_works_96 : decode cX12_works 96 = .ok (.getfield 298, 3) := by decide +kernel
theorem dX12_works_99 : decode cX12_works 99 = .ok (.ireturn, 1) := by decide +kernel
theorem dX12_works_100 : decode cX12_works 100 = .ok (.iload_n 2, 1) := by decide +kernel
theorem dX12_works_101 : decode cX12_works 101 = .ok (.bipush 126, 2) := by decide +kernel
theorem dX12_works_103 : decode cX12_works 103 = .ok (.if_icmp .eq 9, 3) := by decide +kernel
theorem dX12_works_106 : decode cX12_works 106 = .ok (.iload_n 2, 1) := by decide +kernel
theorem dX12_works_107 : decode cX12_works 107 = .ok (.bipush 40, 2) := by decide +kernel
theorem dX12_works_109 : decode cX12_works 109 = .ok (.if_icmp .ne 7, 3) := by decide +kernel
theorem dX12_works_112 : decode cX12_works 112 = .ok (.iconst 1, 1) := by decide +kernel
theorem dX12_works_113 : decode cX12_works 113 = .ok (.goto 4, 3) := by decide +kernel
theorem dX12_works_116 : decode cX12_works 116 = .ok (.iconst 0, 1) := by decide +kernel
theorem dX12_works_117 : decode cX12_works 117 = .ok (.istore_n 1, 1) := by decide +kernel
theorem dX12_works_118 : decode cX12_works 118 = .ok (.goto 28, 3) := by decide +kernel
theorem dX12_works_121 : decode cX12_works 121 = .ok (.aload_n 0, 1) := by decide +kernel
theorem dX12_works_122 : decode cX12_works 122 = .ok (.iload_n 2, 1) := by decide +kernel
theorem dX12_works_123 : decode cX12_works 123 = .ok (.invokevirtual 318, 3) := by decide +kernel
theorem dX12_works_126 : decode cX12_works 126 = .ok (.ifCond .ne 8, 3) := by decide +kernel
theorem dX12_works_129 : decode cX12_works 129 = .ok (.aload_n 0, 1) := by decide +kernel
theorem dX12_works_130 : decode cX12_works 130 = .ok (.getfield 298, 3) := by decide +kernel
theorem dX12_works_133 : decode cX12_works 133 = .ok (.ireturn, 1) := by decide +kernel
theorem dX12_works_134 : decode cX12_works 134 = .ok (.iload_n 2, 1) := by decide +kernel
theorem dX12_works_135 : decode cX12_works 135 = .ok (.bipush 41, 2) := by decide +kernel
theorem dX12_works_137 : decode cX12_works 137 = .ok (.if_icmp .eq 7, 3) := by decide +kernel
theorem dX12_works_140 : decode cX12_works 140 = .ok (.iconst 1, 1) := by decide +kernel
theorem dX12_works_141 : decode cX12_works 141 = .ok (.goto 4, 3) := by decide +kernel
theorem dX12_works_144 : decode cX12_works 144 = .ok (.iconst 0, 1) := by decide +kernel
theorem dX12_works_145 : decode cX12_works 145 = .ok (.istore_n 1, 1) := by decide +kernel
theorem dX12_works_146 : decode cX12_works 146 = .ok (.goto (-103), 3) := by decide +kernel
theorem dX12_works_149 : decode cX12_works 149 = .ok (.iload_n 1, 1) := by decide +kernel
theorem dX12_works_150 : decode cX12_works 150 = .ok (.ifCond .ne 10, 3) := by decide +kernel
theorem dX12_works_153 : decode cX12_works 153 = .ok (.aload_n 0, 1) := by decide +kernel
theorem dX12_works_154 : decode cX12_works 154 = .ok (.getfield 289, 3) := by decide +kernel
theorem dX12_works_157 : decode cX12_works 157 = .ok (.ifCond .le 8, 3) := by decide +kernel
theorem dX12_works_160 : decode cX12_works 160 = .ok (.aload_n 0, 1) := by decide +kernel
theorem dX12_works_161 : decode cX12_works 161 = .ok (.getfield 283, 3) := by decide +kernel
theorem dX12_works_164 : decode cX12_works 164 = .ok (.ireturn, 1) := by decide +kernel
theorem dX12_works_165 : decode cX12_works 165 = .ok (.aload_n 0, 1) := by decide +kernel
theorem dX12_works_166 : decode cX12_works 166 = .ok (.invokevirtual 312, 3) := by decide +kernel
theorem dX12_works_169 : decode cX12_works 169 = .ok (.iconst (-1), 1) := by decide +kernel
theorem dX12_works_170 : decode cX12_works 170 = .ok (.ireturn, 1) := by decide +kernel
theorem dX12_work_0 : decode cX12_work 0 = .ok (.iload_n 1, 1) := by decide +kernel
theorem dX12_work_1 : decode cX12_work 1 = .ok (.invokestatic 165, 3) := by decide +kernel
theorem dX12_work_4 : decode cX12_work 4 = .ok (.ifCond .ne 5, 3) := by decide +kernel
theorem dX12_work_7 : decode cX12_work 7 = .ok (.iconst (-1), 1) := by decide +kernel
theorem dX12_work_8 : decode cX12_work 8 = .ok (.ireturn, 1) := by decide +kernel
theorem dX12_work_9 : decode cX12_work 9 = .ok (.aload_n 0, 1) := by decide +kernel
theorem dX12_work_10 : decode cX12_work 10 = .ok (.invokevirtual 321, 3) := by decide +kernel
theorem dX12_work_13 : decode cX12_work 13 = .ok (.istore_n 2, 1) := by decide +kernel
theorem dX12_work_14 : decode cX12_work 14 = .ok (.aload_n 0, 1) := by decide +kernel
theorem dX12_work_15 : decode cX12_work 15 = .ok (.iconst 0, 1) := by decide +kernel
theorem dX12_work_16 : decode cX12_work 16 = .ok (.putfield 283, 3) := by decide +kernel
theorem dX12_work_19 : decode cX12_work 19 = .ok (.iload_n 2, 1) := by decide +kernel
theorem dX12_work_20 : decode cX12_work 20 = .ok (.iconst (-1), 1) := by decide +kernel
theorem dX12_work_21 : decode cX12_work 21 = .ok (.if_icmp .eq 10, 3) := by decide +kernel
theorem dX12_work_24 : decode cX12_work 24 = .ok (.bipush (-4), 2) := by decide +kernel
theorem dX12_work_26 : decode cX12_work 26 = .ok (.iload_n 2, 1) := by decide +kernel
theorem dX12_work_27 : decode cX12_work 27 = .ok (.isub, 1) := by decide +kernel
theorem dX12_work_28 : decode cX12_work 28 = .ok (.goto 14, 3) := by decide +kernel
theorem dX12_work_31 : decode cX12_work 31 = .ok (.aload_n 0, 1) := by decide +kernel
theorem dX12_work_32 : decode cX12_work 32 = .ok (.aload_n 0, 1) := by decide +kernel
theorem dX12_work_33 : decode cX12_work 33 = .ok (.getfield 292, 3) := by decide +kernel
theorem dX12_work_36 : decode cX12_work 36 = .ok (.iload_n 1, 1) := by decide +kernel
theorem dX12_work_37 : decode cX12_work 37 = .ok (.bipush 24, 2) := by decide +kernel
theorem dX12_work_39 : decode cX12_work 39 = .ok (.invokevirtual 213, 3) := by decide +kernel
theorem dX12_work_42 : decode cX12_work 42 = .ok (.ireturn, 1) := by decide +kernel
theorem dX12_part_0 : decode cX12_part 0 = .ok (.iload_n 1, 1) := by decide +kernel
theorem dX12_part_1 : decode cX12_part 1 = .ok (.invokestatic 165, 3) := by decide +kernel
theorem dX12_part_4 : decode cX12_part 4 = .ok (.ifCond .eq 24, 3) := by decide +kernel
theorem dX12_part_7 : decode cX12_part 7 = .ok (.iload_n 2, 1) := by decide +kernel
theorem dX12_part_8 : decode cX12_part 8 = .ok (.invokestatic 168, 3) := by decide +kernel
theorem dX12_part_11 : decode cX12_part 11 = .ok (.ifCond .eq 17, 3) := by decide +kernel
theorem dX12_part_14 : decode cX12_part 14 = .ok (.aload_n 0, 1) := by decide +kernel
theorem dX12_part_15 : decode cX12_part 15 = .ok (.getfield 17, 3) := by decide +kernel
theorem dX12_part_18 : decode cX12_part 18 = .ok (.bipush 8, 2) := by decide +kernel
theorem dX12_part_20 : decode cX12_part 20 = .ok (.iload_n 1, 1) := by decide +kernel
theorem dX12_part_21 : decode cX12_part 21 = .ok (.imul, 1) := by decide +kernel
theorem dX12_part_22 : decode cX12_part 22 = .ok (.iload_n 2, 1) := by decide +kernel
theorem dX12_part_23 : decode cX12_part 23 = .ok (.iadd, 1) := by decide +kernel
theorem dX12_part_24 : decode cX12_part 24 = .ok (.iaload, 1) := by decide +kernel
theorem dX12_part_25 : decode cX12_part 25 = .ok (.goto 6, 3) := by decide +kernel
theorem dX12_part_28 : decode cX12_part 28 = .ok (.sipush (-30000), 3) := by decide +kernel
theorem dX12_part_31 : decode cX12_part 31 = .ok (.ireturn, 1) := by decide +kernel
theorem dX12_norm_0 : decode cX12_norm 0 = .ok (.iload_n 1, 1) := by decide +kernel
theorem dX12_norm_1 : decode cX12_norm 1 = .ok (.invokestatic 165, 3) := by decide +kernel
theorem dX12_norm_4 : decode cX12_norm 4 = .ok (.ifCond .eq 14, 3) := by decide +kernel
theorem dX12_norm_7 : decode cX12_norm 7 = .ok (.aload_n 0, 1) := by decide +kernel
theorem dX12_norm_8 : decode cX12_norm 8 = .ok (.iload_n 1, 1) := by decide +kernel
theorem dX12_norm_9 : decode cX12_norm 9 = .ok (.invokevirtual 137, 3) := by decide +kernel
theorem dX12_norm_12 : decode cX12_norm 12 = .ok (.invokestatic 270, 3) := by decide +kernel
theorem dX12_norm_15 : decode cX12_norm 15 = .ok (.goto 4, 3) := by decide +kernel
theorem dX12_norm_18 : decode cX12_norm 18 = .ok (.iconst (-1), 1) := by decide +kernel
theorem dX12_norm_19 : decode cX12_norm 19 = .ok (.ireturn, 1) := by decide +kernel
theorem dX12_writes_0 : decode cX12_writes 0 = .ok (.aload_n 0, 1) := by decide +kernel
theorem dX12_writes_1 : decode cX12_writes 1 = .ok (.getfield 74, 3) := by decide +kernel
theorem dX12_writes_4 : decode cX12_writes 4 = .ok (.aload_n 0, 1) := by decide +kernel
theorem dX12_writes_5 : decode cX12_writes 5 = .ok (.getfield 325, 3) := by decide +kernel
theorem dX12_writes_8 : decode cX12_writes 8 = .ok (.iload_n 1, 1) := by decide +kernel
theorem dX12_writes_9 : decode cX12_writes 9 = .ok (.iastore, 1) := by decide +kernel
theorem dX12_writes_10 : decode cX12_writes 10 = .ok (.aload_n 0, 1) := by decide +kernel
theorem dX12_writes_11 : decode cX12_writes 11 = .ok (.dup, 1) := by decide +kernel
theorem dX12_writes_12 : decode cX12_writes 12 = .ok (.getfield 325, 3) := by decide +kernel
theorem dX12_writes_15 : decode cX12_writes 15 = .ok (.iconst 1, 1) := by decide +kernel
theorem dX12_writes_16 : decode cX12_writes 16 = .ok (.iadd, 1) := by decide +kernel
theorem dX12_writes_17 : decode cX12_writes 17 = .ok (.putfield 325, 3) := by decide +kernel
theorem dX12_writes_20 : decode cX12_writes 20 = .ok (.return_, 1) := by decide +kernel
theorem dX12_writesNumber_0 : decode cX12_writesNumber 0 = .ok (.iconst 1, 1) := by decide +kernel
theorem dX12_writesNumber_1 : decode cX12_writesNumber 1 = .ok (.istore_n 2, 1) := by decide +kernel
theorem dX12_writesNumber_2 : decode cX12_writesNumber 2 = .ok (.iload_n 1, 1) := by decide +kernel
theorem dX12_writesNumber_3 : decode cX12_writesNumber 3 = .ok (.iload_n 2, 1) := by decide +kernel
theorem dX12_writesNumber_4 : decode cX12_writesNumber 4 = .ok (.idiv, 1) := by decide +kernel
theorem dX12_writesNumber_5 : decode cX12_writesNumber 5 = .ok (.bipush 9, 2) := by decide +kernel
theorem dX12_writesNumber_7 : decode cX12_writesNumber 7 = .ok (.if_icmp .le 11, 3) := by decide +kernel
theorem dX12_writesNumber_10 : decode cX12_writesNumber 10 = .ok (.iload_n 2, 1) := by decide +kernel
theorem dX12_writesNumber_11 : decode cX12_writesNumber 11 = .ok (.bipush 10, 2) := by decide +kernel
theorem dX12_writesNumber_13 : decode cX12_writesNumber 13 = .ok (.imul, 1) := by decide +kernel
theorem dX12_writesNumber_14 : decode cX12_writesNumber 14 = .ok (.istore_n 2, 1) := by decide +kernel
theorem dX12_writesNumber_15 : decode cX12_writesNumber 15 = .ok (.goto (-13), 3) := by decide +kernel
theorem dX12_writesNumber_18 : decode cX12_writesNumber 18 = .ok (.iload_n 2, 1) := by decide +kernel
theorem dX12_writesNumber_19 : decode cX12_writesNumber 19 = .ok (.ifCond .le 24, 3) := by decide +kernel
theorem dX12_writesNumber_22 : decode cX12_writesNumber 22 = .ok (.aload_n 0, 1) := by decide +kernel
theorem dX12_writesNumber_23 : decode cX12_writesNumber 23 = .ok (.bipush 48, 2) := by decide +kernel
theorem dX12_writesNumber_25 : decode cX12_writesNumber 25 = .ok (.iload_n 1, 1) := by decide +kernel
theorem dX12_writesNumber_26 : decode cX12_writesNumber 26 = .ok (.iload_n 2, 1) := by decide +kernel
theorem dX12_writesNumber_27 : decode cX12_writesNumber 27 = .ok (.idiv, 1) := by decide +kernel
theorem dX12_writesNumber_28 : decode cX12_writesNumber 28 = .ok (.bipush 10, 2) := by decide +kernel
theorem dX12_writesNumber_30 : decode cX12_writesNumber 30 = .ok (.irem, 1) := by decide +kernel
theorem dX12_writesNumber_31 : decode cX12_writesNumber 31 = .ok (.iadd, 1) := by decide +kernel
theorem dX12_writesNumber_32 : decode cX12_writesNumber 32 = .ok (.invokevirtual 328, 3) := by decide +kernel
theorem dX12_writesNumber_35 : decode cX12_writesNumber 35 = .ok (.iload_n 2, 1) := by decide +kernel
theorem dX12_writesNumber_36 : decode cX12_writesNumber 36 = .ok (.bipush 10, 2) := by decide +kernel
theorem dX12_writesNumber_38 : decode cX12_writesNumber 38 = .ok (.idiv, 1) := by decide +kernel
theorem dX12_writesNumber_39 : decode cX12_writesNumber 39 = .ok (.istore_n 2, 1) := by decide +kernel
theorem dX12_writesNumber_40 : decode cX12_writesNumber 40 = .ok (.goto (-22), 3) := by decide +kernel
theorem dX12_writesNumber_43 : decode cX12_writesNumber 43 = .ok (.return_, 1) := by decide +kernel
theorem dX12_writesAll_0 : decode cX12_writesAll 0 = .ok (.aload_n 0, 1) := by decide +kernel
theorem dX12_writesAll_1 : decode cX12_writesAll 1 = .ok (.iconst 0, 1) := by decide +kernel
theorem dX12_writesAll_2 : decode cX12_writesAll 2 = .ok (.putfield 325, 3) := by decide +kernel
theorem dX12_writesAll_5 : decode cX12_writesAll 5 = .ok (.iconst 0, 1) := by decide +kernel
theorem dX12_writesAll_6 : decode cX12_writesAll 6 = .ok (.istore_n 2, 1) := by decide +kernel
theorem dX12_writesAll_7 : decode cX12_writesAll 7 = .ok (.iload_n 2, 1) := by decide +kernel
theorem dX12_writesAll_8 : decode cX12_writesAll 8 = .ok (.bipush 8, 2) := by decide +kernel
theorem dX12_writesAll_10 : decode cX12_writesAll 10 = .ok (.if_icmp .ge 120, 3) := by decide +kernel
theorem dX12_writesAll_13 : decode cX12_writesAll 13 = .ok (.aload_n 0, 1) := by decide +kernel
theorem dX12_writesAll_14 : decode cX12_writesAll 14 = .ok (.getfield 17, 3) := by decide +kernel
theorem dX12_writesAll_17 : decode cX12_writesAll 17 = .ok (.bipush 8, 2) := by decide +kernel
theorem dX12_writesAll_19 : decode cX12_writesAll 19 = .ok (.iload_n 1, 1) := by decide +kernel
theorem dX12_writesAll_20 : decode cX12_writesAll 20 = .ok (.imul, 1) := by decide +kernel
theorem dX12_writesAll_21 : decode cX12_writesAll 21 = .ok (.iload_n 2, 1) := by decide +kernel
theorem dX12_writesAll_22 : decode cX12_writesAll 22 = .ok (.iadd, 1) := by decide +kernel
theorem dX12_writesAll_23 : decode cX12_writesAll 23 = .ok (.iaload, 1) := by decide +kernel
theorem dX12_writesAll_24 : decode cX12_writesAll 24 = .ok (.istore_n 3, 1) := by decide +kernel
theorem dX12_writesAll_25 : decode cX12_writesAll 25 = .ok (.iload_n 3, 1) := by decide +kernel
theorem dX12_writesAll_26 : decode cX12_writesAll 26 = .ok (.ifCond .ne 6, 3) := by decide +kernel
theorem dX12_writesAll_29 : decode cX12_writesAll 29 = .ok (.goto 95, 3) := by decide +kernel
theorem dX12_writesAll_32 : decode cX12_writesAll 32 = .ok (.iload_n 3, 1) := by decide +kernel
theorem dX12_writesAll_33 : decode cX12_writesAll 33 = .ok (.ifCond .ge 12, 3) := by decide +kernel
theorem dX12_writesAll_36 : decode cX12_writesAll 36 = .ok (.aload_n 0, 1) := by decide +kernel
theorem dX12_writesAll_37 : decode cX12_writesAll 37 = .ok (.bipush 45, 2) := by decide +kernel
theorem dX12_writesAll_39 : decode cX12_writesAll 39 = .ok (.invokevirtual 328, 3) := by decide +kernel
theorem dX12_writesAll_42 : decode cX12_writesAll 42 = .ok (.goto 16, 3) := by decide +kernel
theorem dX12_writesAll_45 : decode cX12_writesAll 45 = .ok (.aload_n 0, 1) := by decide +kernel
theorem dX12_writesAll_46 : decode cX12_writesAll 46 = .ok (.getfield 325, 3) := by decide +kernel
theorem dX12_writesAll_49 : decode cX12_writesAll 49 = .ok (.ifCond .le 9, 3) := by decide +kernel
theorem dX12_writesAll_52 : decode cX12_writesAll 52 = .ok (.aload_n 0, 1) := by decide +kernel
theorem dX12_writesAll_53 : decode cX12_writesAll 53 = .ok (.bipush 43, 2) := by decide +kernel
theorem dX12_writesAll_55 : decode cX12_writesAll 55 = .ok (.invokevirtual 328, 3) := by decide +kernel
theorem dX12_writesAll_58 : decode cX12_writesAll 58 = .ok (.iload_n 3, 1) := by decide +kernel
theorem dX12_writesAll_59 : decode cX12_writesAll 59 = .ok (.ifCond .ge 8, 3) := by decide +kernel
theorem dX12_writesAll_62 : decode cX12_writesAll 62 = .ok (.iload_n 3, 1) := by decide +kernel
theorem dX12_writesAll_63 : decode cX12_writesAll 63 = .ok (.ineg, 1) := by decide +kernel
theorem dX12_writesAll_64 : decode cX12_writesAll 64 = .ok (.goto 4, 3) := by decide +kernel
theorem dX12_writesAll_67 : decode cX12_writesAll 67 = .ok (.iload_n 3, 1) := by decide +kernel
theorem dX12_writesAll_68 : decode cX12_writesAll 68 = .ok (.istore 4, 2) := by decide +kernel
theorem dX12_writesAll_70 : decode cX12_writesAll 70 = .ok (.aload_n 0, 1) := by decide +kernel
theorem dX12_writesAll_71 : decode cX12_writesAll 71 = .ok (.iload 4, 2) := by decide +kernel
theorem dX12_writesAll_73 : decode cX12_writesAll 73 = .ok (.iconst 2, 1) := by decide +kernel
theorem dX12_writesAll_74 : decode cX12_writesAll 74 = .ok (.irem, 1) := by decide +kernel
theorem dX12_writesAll_75 : decode cX12_writesAll 75 = .ok (.ifCond .ne 10, 3) := by decide +kernel
theorem dX12_writesAll_78 : decode cX12_writesAll 78 = .ok (.iload 4, 2) := by decide +kernel
theorem dX12_writesAll_80 : decode cX12_writesAll 80 = .ok (.iconst 2, 1) := by decide +kernel
theorem dX12_writesAll_81 : decode cX12_writesAll 81 = .ok (.idiv, 1) := by decide +kernel
theorem dX12_writesAll_82 : decode cX12_writesAll 82 = .ok (.goto 5, 3) := by decide +kernel
theorem dX12_writesAll_85 : decode cX12_writesAll 85 = .ok (.iload 4, 2) := by decide +kernel
theorem dX12_writesAll_87 : decode cX12_writesAll 87 = .ok (.invokevirtual 331, 3) := by decide +kernel
theorem dX12_writesAll_90 : decode cX12_writesAll 90 = .ok (.iload 4, 2) := by decide +kernel
theorem dX12_writesAll_92 : decode cX12_writesAll 92 = .ok (.iconst 2, 1) := by decide +kernel
theorem dX12_writesAll_93 : decode cX12_writesAll 93 = .ok (.irem, 1) := by decide +kernel
theorem dX12_writesAll_94 : decode cX12_writesAll 94 = .ok (.iconst 1, 1) := by decide +kernel
theorem dX12_writesAll_95 : decode cX12_writesAll 95 = .ok (.if_icmp .ne 15, 3) := by decide +kernel
theorem dX12_writesAll_98 : decode cX12_writesAll 98 = .ok (.aload_n 0, 1) := by decide +kernel
theorem dX12_writesAll_99 : decode cX12_writesAll 99 = .ok (.bipush 47, 2) := by decide +kernel
theorem dX12_writesAll_101 : decode cX12_writesAll 101 = .ok (.invokevirtual 328, 3) := by decide +kernel
theorem dX12_writesAll_104 : decode cX12_writesAll 104 = .ok (.aload_n 0, 1) := by decide +kernel
theorem dX12_writesAll_105 : decode cX12_writesAll 105 = .ok (.bipush 50, 2) := by decide +kernel
theorem dX12_writesAll_107 : decode cX12_writesAll 107 = .ok (.invokevirtual 328, 3) := by decide +kernel
theorem dX12_writesAll_110 : decode cX12_writesAll 110 = .ok (.aload_n 0, 1) := by decide +kernel
theorem dX12_writesAll_111 : decode cX12_writesAll 111 = .ok (.bipush 101, 2) := by decide +kernel
theorem dX12_writesAll_113 : decode cX12_writesAll 113 = .ok (.invokevirtual 328, 3) := by decide +kernel
theorem dX12_writesAll_116 : decode cX12_writesAll 116 = .ok (.aload_n 0, 1) := by decide +kernel
theorem dX12_writesAll_117 : decode cX12_writesAll 117 = .ok (.bipush 48, 2) := by decide +kernel
theorem dX12_writesAll_119 : decode cX12_writesAll 119 = .ok (.iload_n 2, 1) := by decide +kernel
theorem dX12_writesAll_120 : decode cX12_writesAll 120 = .ok (.iadd, 1) := by decide +kernel
theorem dX12_writesAll_121 : decode cX12_writesAll 121 = .ok (.invokevirtual 328, 3) := by decide +kernel
theorem dX12_writesAll_124 : decode cX12_writesAll 124 = .ok (.iinc 2 1, 3) := by decide +kernel
theorem dX12_writesAll_127 : decode cX12_writesAll 127 = .ok (.goto (-120), 3) := by decide +kernel
theorem dX12_writesAll_130 : decode cX12_writesAll 130 = .ok (.aload_n 0, 1) := by decide +kernel
theorem dX12_writesAll_131 : decode cX12_writesAll 131 = .ok (.getfield 325, 3) := by decide +kernel
theorem dX12_writesAll_134 : decode cX12_writesAll 134 = .ok (.ifCond .ne 9, 3) := by decide +kernel
theorem dX12_writesAll_137 : decode cX12_writesAll 137 = .ok (.aload_n 0, 1) := by decide +kernel
theorem dX12_writesAll_138 : decode cX12_writesAll 138 = .ok (.bipush 48, 2) := by decide +kernel
theorem dX12_writesAll_140 : decode cX12_writesAll 140 = .ok (.invokevirtual 328, 3) := by decide +kernel
theorem dX12_writesAll_143 : decode cX12_writesAll 143 = .ok (.return_, 1) := by decide +kernel
theorem dX12_spell_0 : decode cX12_spell 0 = .ok (.iload_n 1, 1) := by decide +kernel
theorem dX12_spell_1 : decode cX12_spell 1 = .ok (.invokestatic 165, 3) := by decide +kernel
theorem dX12_spell_4 : decode cX12_spell 4 = .ok (.ifCond .eq 8, 3) := by decide +kernel
theorem dX12_spell_7 : decode cX12_spell 7 = .ok (.iload_n 2, 1) := by decide +kernel
theorem dX12_spell_8 : decode cX12_spell 8 = .ok (.iconst (-1), 1) := by decide +kernel
theorem dX12_spell_9 : decode cX12_spell 9 = .ok (.if_icmp .ge 5, 3) := by decide +kernel
theorem dX12_spell_12 : decode cX12_spell 12 = .ok (.iconst (-1), 1) := by decide +kernel
theorem dX12_spell_13 : decode cX12_spell 13 = .ok (.ireturn, 1) := by decide +kernel
theorem dX12_spell_14 : decode cX12_spell 14 = .ok (.aload_n 0, 1) := by decide +kernel
theorem dX12_spell_15 : decode cX12_spell 15 = .ok (.iload_n 1, 1) := by decide +kernel
theorem dX12_spell_16 : decode cX12_spell 16 = .ok (.invokevirtual 334, 3) := by decide +kernel
theorem dX12_spell_19 : decode cX12_spell 19 = .ok (.iload_n 2, 1) := by decide +kernel
theorem dX12_spell_20 : decode cX12_spell 20 = .ok (.iconst (-1), 1) := by decide +kernel
theorem dX12_spell_21 : decode cX12_spell 21 = .ok (.if_icmp .ne 10, 3) := by decide +kernel
theorem dX12_spell_24 : decode cX12_spell 24 = .ok (.aload_n 0, 1) := by decide +kernel
theorem dX12_spell_25 : decode cX12_spell 25 = .ok (.getfield 325, 3) := by decide +kernel
theorem dX12_spell_28 : decode cX12_spell 28 = .ok (.goto 21, 3) := by decide +kernel
theorem dX12_spell_31 : decode cX12_spell 31 = .ok (.iload_n 2, 1) := by decide +kernel
theorem dX12_spell_32 : decode cX12_spell 32 = .ok (.aload_n 0, 1) := by decide +kernel
theorem dX12_spell_33 : decode cX12_spell 33 = .ok (.getfield 325, 3) := by decide +kernel
theorem dX12_spell_36 : decode cX12_spell 36 = .ok (.if_icmp .ge 12, 3) := by decide +kernel
theorem dX12_spell_39 : decode cX12_spell 39 = .ok (.aload_n 0, 1) := by decide +kernel
theorem dX12_spell_40 : decode cX12_spell 40 = .ok (.getfield 74, 3) := by decide +kernel
theorem dX12_spell_43 : decode cX12_spell 43 = .ok (.iload_n 2, 1) := by decide +kernel
theorem dX12_spell_44 : decode cX12_spell 44 = .ok (.iaload, 1) := by decide +kernel
theorem dX12_spell_45 : decode cX12_spell 45 = .ok (.goto 4, 3) := by decide +kernel
theorem dX12_spell_48 : decode cX12_spell 48 = .ok (.iconst (-1), 1) := by decide +kernel
theorem dX12_spell_49 : decode cX12_spell 49 = .ok (.ireturn, 1) := by decide +kernel
theorem dX12_turned_0 : decode cX12_turned 0 = .ok (.iload_n 1, 1) := by decide +kernel
theorem dX12_turned_1 : decode cX12_turned 1 = .ok (.invokestatic 165, 3) := by decide +kernel
theorem dX12_turned_4 : decode cX12_turned 4 = .ok (.ifCond .eq 25, 3) := by decide +kernel
theorem dX12_turned_7 : decode cX12_turned 7 = .ok (.iload_n 2, 1) := by decide +kernel
theorem dX12_turned_8 : decode cX12_turned 8 = .ok (.invokestatic 207, 3) := by decide +kernel
theorem dX12_turned_11 : decode cX12_turned 11 = .ok (.ifCond .eq 18, 3) := by decide +kernel
theorem dX12_turned_14 : decode cX12_turned 14 = .ok (.iload_n 3, 1) := by decide +kernel
theorem dX12_turned_15 : decode cX12_turned 15 = .ok (.invokestatic 168, 3) := by decide +kernel
theorem dX12_turned_18 : decode cX12_turned 18 = .ok (.ifCond .eq 11, 3) := by decide +kernel
theorem dX12_turned_21 : decode cX12_turned 21 = .ok (.iload 4, 2) := by decide +kernel
theorem dX12_turned_23 : decode cX12_turned 23 = .ok (.invokestatic 168, 3) := by decide +kernel
theorem dX12_turned_26 : decode cX12_turned 26 = .ok (.ifCond .ne 7, 3) := by decide +kernel
theorem dX12_turned_29 : decode cX12_turned 29 = .ok (.sipush (-30000), 3) := by decide +kernel
theorem dX12_turned_32 : decode cX12_turned 32 = .ok (.ireturn, 1) := by decide +kernel
theorem dX12_turned_33 : decode cX12_turned 33 = .ok (.aload_n 0, 1) := by decide +kernel
theorem dX12_turned_34 : decode cX12_turned 34 = .ok (.bipush 10, 2) := by decide +kernel
theorem dX12_turned_36 : decode cX12_turned 36 = .ok (.invokevirtual 171, 3) := by decide +kernel
theorem dX12_turned_39 : decode cX12_turned 39 = .ok (.aload_n 0, 1) := by decide +kernel
theorem dX12_turned_40 : decode cX12_turned 40 = .ok (.getfield 17, 3) := by decide +kernel
theorem dX12_turned_43 : decode cX12_turned 43 = .ok (.bipush 80, 2) := by decide +kernel
theorem dX12_turned_45 : decode cX12_turned 45 = .ok (.iload_n 3, 1) := by decide +kernel
theorem dX12_turned_46 : decode cX12_turned 46 = .ok (.iadd, 1) := by decide +kernel
theorem dX12_turned_47 : decode cX12_turned 47 = .ok (.iconst 2, 1) := by decide +kernel
theorem dX12_turned_48 : decode cX12_turned 48 = .ok (.iastore, 1) := by decide +kernel
theorem dX12_turned_49 : decode cX12_turned 49 = .ok (.aload_n 0, 1) := by decide +kernel
theorem dX12_turned_50 : decode cX12_turned 50 = .ok (.bipush 9, 2) := by decide +kernel
theorem dX12_turned_52 : decode cX12_turned 52 = .ok (.bipush 10, 2) := by decide +kernel
theorem dX12_turned_54 : decode cX12_turned 54 = .ok (.iload_n 1, 1) := by decide +kernel
theorem dX12_turned_55 : decode cX12_turned 55 = .ok (.iload_n 2, 1) := by decide +kernel
theorem dX12_turned_56 : decode cX12_turned 56 = .ok (.invokevirtual 210, 3) := by decide +kernel
theorem dX12_turned_59 : decode cX12_turned 59 = .ok (.ifCond .eq 16, 3) := by decide +kernel
theorem dX12_turned_62 : decode cX12_turned 62 = .ok (.aload_n 0, 1) := by decide +kernel
theorem dX12_turned_63 : decode cX12_turned 63 = .ok (.getfield 17, 3) := by decide +kernel
theorem dX12_turned_66 : decode cX12_turned 66 = .ok (.bipush 72, 2) := by decide +kernel
theorem dX12_turned_68 : decode cX12_turned 68 = .ok (.iload 4, 2) := by decide +kernel
theorem dX12_turned_70 : decode cX12_turned 70 = .ok (.iadd, 1) := by decide +kernel
theorem dX12_turned_71 : decode cX12_turned 71 = .ok (.iaload, 1) := by decide +kernel
theorem dX12_turned_72 : decode cX12_turned 72 = .ok (.goto 6, 3) := by decide +kernel
theorem dX12_turned_75 : decode cX12_turned 75 = .ok (.sipush (-30000), 3) := by decide +kernel
theorem dX12_turned_78 : decode cX12_turned 78 = .ok (.ireturn, 1) := by decide +kernel
theorem dX12_odd_0 : decode cX12_odd 0 = .ok (.iload_n 1, 1) := by decide +kernel
theorem dX12_odd_1 : decode cX12_odd 1 = .ok (.invokestatic 165, 3) := by decide +kernel
theorem dX12_odd_4 : decode cX12_odd 4 = .ok (.ifCond .eq 11, 3) := by decide +kernel
theorem dX12_odd_7 : decode cX12_odd 7 = .ok (.aload_n 0, 1) := by decide +kernel
theorem dX12_odd_8 : decode cX12_odd 8 = .ok (.iload_n 1, 1) := by decide +kernel
theorem dX12_odd_9 : decode cX12_odd 9 = .ok (.invokevirtual 128, 3) := by decide +kernel
theorem dX12_odd_12 : decode cX12_odd 12 = .ok (.goto 4, 3) := by decide +kernel
theorem dX12_odd_15 : decode cX12_odd 15 = .ok (.iconst (-1), 1) := by decide +kernel
theorem dX12_odd_16 : decode cX12_odd 16 = .ok (.ireturn, 1) := by decide +kernel
theorem dX12_whole_0 : decode cX12_whole 0 = .ok (.iload_n 1, 1) := by decide +kernel
theorem dX12_whole_1 : decode cX12_whole 1 = .ok (.invokestatic 165, 3) := by decide +kernel
theorem dX12_whole_4 : decode cX12_whole 4 = .ok (.ifCond .eq 19, 3) := by decide +kernel
theorem dX12_whole_7 : decode cX12_whole 7 = .ok (.aload_n 0, 1) := by decide +kernel
theorem dX12_whole_8 : decode cX12_whole 8 = .ok (.iload_n 1, 1) := by decide +kernel
theorem dX12_whole_9 : decode cX12_whole 9 = .ok (.invokevirtual 134, 3) := by decide +kernel
theorem dX12_whole_12 : decode cX12_whole 12 = .ok (.ifCond .eq 7, 3) := by decide +kernel
theorem dX12_whole_15 : decode cX12_whole 15 = .ok (.iconst 1, 1) := by decide +kernel
theorem dX12_whole_16 : decode cX12_whole 16 = .ok (.goto 8, 3) := by decide +kernel
theorem dX12_whole_19 : decode cX12_whole 19 = .ok (.iconst 0, 1) := by decide +kernel
theorem dX12_whole_20 : decode cX12_whole 20 = .ok (.goto 4, 3) := by decide +kernel
theorem dX12_whole_23 : decode cX12_whole 23 = .ok (.iconst (-1), 1) := by decide +kernel
theorem dX12_whole_24 : decode cX12_whole 24 = .ok (.ireturn, 1) := by decide +kernel
theorem dX12_orders_0 : decode cX12_orders 0 = .ok (.iload_n 1, 1) := by decide +kernel
theorem dX12_orders_1 : decode cX12_orders 1 = .ok (.invokestatic 165, 3) := by decide +kernel
theorem dX12_orders_4 : decode cX12_orders 4 = .ok (.ifCond .ne 5, 3) := by decide +kernel
theorem dX12_orders_7 : decode cX12_orders 7 = .ok (.iconst (-1), 1) := by decide +kernel
theorem dX12_orders_8 : decode cX12_orders 8 = .ok (.ireturn, 1) := by decide +kernel
theorem dX12_orders_9 : decode cX12_orders 9 = .ok (.iconst 0, 1) := by decide +kernel
theorem dX12_orders_10 : decode cX12_orders 10 = .ok (.istore_n 2, 1) := by decide +kernel
theorem dX12_orders_11 : decode cX12_orders 11 = .ok (.iconst 0, 1) := by decide +kernel
theorem dX12_orders_12 : decode cX12_orders 12 = .ok (.istore_n 3, 1) := by decide +kernel
theorem dX12_orders_13 : decode cX12_orders 13 = .ok (.iload_n 3, 1) := by decide +kernel
theorem dX12_orders_14 : decode cX12_orders 14 = .ok (.bipush 8, 2) := by decide +kernel
theorem dX12_orders_16 : decode cX12_orders 16 = .ok (.if_icmp .ge 27, 3) := by decide +kernel
theorem dX12_orders_19 : decode cX12_orders 19 = .ok (.iload_n 3, 1) := by decide +kernel
theorem dX12_orders_20 : decode cX12_orders 20 = .ok (.aload_n 0, 1) := by decide +kernel
theorem dX12_orders_21 : decode cX12_orders 21 = .ok (.iload_n 1, 1) := by decide +kernel
theorem dX12_orders_22 : decode cX12_orders 22 = .ok (.invokevirtual 128, 3) := by decide +kernel
theorem dX12_orders_25 : decode cX12_orders 25 = .ok (.invokestatic 131, 3) := by decide +kernel
theorem dX12_orders_28 : decode cX12_orders 28 = .ok (.ifCond .eq 9, 3) := by decide +kernel
theorem dX12_orders_31 : decode cX12_orders 31 = .ok (.iload_n 2, 1) := by decide +kernel
theorem dX12_orders_32 : decode cX12_orders 32 = .ok (.iconst 1, 1) := by decide +kernel
theorem dX12_orders_33 : decode cX12_orders 33 = .ok (.iload_n 3, 1) := by decide +kernel
theorem dX12_orders_34 : decode cX12_orders 34 = .ok (.ishl, 1) := by decide +kernel
theorem dX12_orders_35 : decode cX12_orders 35 = .ok (.ior, 1) := by decide +kernel
theorem dX12_orders_36 : decode cX12_orders 36 = .ok (.istore_n 2, 1) := by decide +kernel
theorem dX12_orders_37 : decode cX12_orders 37 = .ok (.iinc 3 1, 3) := by decide +kernel
theorem dX12_orders_40 : decode cX12_orders 40 = .ok (.goto (-27), 3) := by decide +kernel
theorem dX12_orders_43 : decode cX12_orders 43 = .ok (.iload_n 2, 1) := by decide +kernel
theorem dX12_orders_44 : decode cX12_orders 44 = .ok (.ireturn, 1) := by decide +kernel
theorem dX12_same_0 : decode cX12_same 0 = .ok (.iload_n 1, 1) := by decide +kernel
theorem dX12_same_1 : decode cX12_same 1 = .ok (.invokestatic 165, 3) := by decide +kernel
theorem dX12_same_4 : decode cX12_same 4 = .ok (.ifCond .eq 27, 3) := by decide +kernel
theorem dX12_same_7 : decode cX12_same 7 = .ok (.iload_n 2, 1) := by decide +kernel
theorem dX12_same_8 : decode cX12_same 8 = .ok (.invokestatic 165, 3) := by decide +kernel
theorem dX12_same_11 : decode cX12_same 11 = .ok (.ifCond .eq 20, 3) := by decide +kernel
theorem dX12_same_14 : decode cX12_same 14 = .ok (.aload_n 0, 1) := by decide +kernel
theorem dX12_same_15 : decode cX12_same 15 = .ok (.iload_n 1, 1) := by decide +kernel
theorem dX12_same_16 : decode cX12_same 16 = .ok (.iload_n 2, 1) := by decide +kernel
theorem dX12_same_17 : decode cX12_same 17 = .ok (.invokevirtual 280, 3) := by decide +kernel
theorem dX12_same_20 : decode cX12_same 20 = .ok (.ifCond .eq 7, 3) := by decide +kernel
theorem dX12_same_23 : decode cX12_same 23 = .ok (.iconst 1, 1) := by decide +kernel
theorem dX12_same_24 : decode cX12_same 24 = .ok (.goto 8, 3) := by decide +kernel
theorem dX12_same_27 : decode cX12_same 27 = .ok (.iconst 0, 1) := by decide +kernel
theorem dX12_same_28 : decode cX12_same 28 = .ok (.goto 4, 3) := by decide +kernel
theorem dX12_same_31 : decode cX12_same 31 = .ok (.iconst (-1), 1) := by decide +kernel
theorem dX12_same_32 : decode cX12_same 32 = .ok (.ireturn, 1) := by decide +kernel
theorem dX12_many_0 : decode cX12_many 0 = .ok (.iload_n 1, 1) := by decide +kernel
theorem dX12_many_1 : decode cX12_many 1 = .ok (.invokestatic 175, 3) := by decide +kernel
theorem dX12_many_4 : decode cX12_many 4 = .ok (.ifCond .eq 11, 3) := by decide +kernel
theorem dX12_many_7 : decode cX12_many 7 = .ok (.aload_n 0, 1) := by decide +kernel
theorem dX12_many_8 : decode cX12_many 8 = .ok (.iload_n 1, 1) := by decide +kernel
theorem dX12_many_9 : decode cX12_many 9 = .ok (.invokevirtual 158, 3) := by decide +kernel
theorem dX12_many_12 : decode cX12_many 12 = .ok (.goto 4, 3) := by decide +kernel
theorem dX12_many_15 : decode cX12_many 15 = .ok (.iconst (-1), 1) := by decide +kernel
theorem dX12_many_16 : decode cX12_many 16 = .ok (.ireturn, 1) := by decide +kernel
theorem dX12_listedPart_0 : decode cX12_listedPart 0 = .ok (.iload_n 1, 1) := by decide +kernel
theorem dX12_listedPart_1 : decode cX12_listedPart 1 = .ok (.invokestatic 175, 3) := by decide +kernel
theorem dX12_listedPart_4 : decode cX12_listedPart 4 = .ok (.ifCond .eq 27, 3) := by decide +kernel
theorem dX12_listedPart_7 : decode cX12_listedPart 7 = .ok (.iload_n 2, 1) := by decide +kernel
theorem dX12_listedPart_8 : decode cX12_listedPart 8 = .ok (.i2l, 1) := by decide +kernel
theorem dX12_listedPart_9 : decode cX12_listedPart 9 = .ok (.lconst 0, 1) := by decide +kernel
theorem dX12_listedPart_10 : decode cX12_listedPart 10 = .ok (.aload_n 0, 1) := by decide +kernel
theorem dX12_listedPart_11 : decode cX12_listedPart 11 = .ok (.iload_n 1, 1) := by decide +kernel
theorem dX12_listedPart_12 : decode cX12_listedPart 12 = .ok (.invokevirtual 158, 3) := by decide +kernel
theorem dX12_listedPart_15 : decode cX12_listedPart 15 = .ok (.iconst 1, 1) := by decide +kernel
theorem dX12_listedPart_16 : decode cX12_listedPart 16 = .ok (.isub, 1) := by decide +kernel
theorem dX12_listedPart_17 : decode cX12_listedPart 17 = .ok (.i2l, 1) := by decide +kernel
theorem dX12_listedPart_18 : decode cX12_listedPart 18 = .ok (.invokestatic 95, 3) := by decide +kernel
theorem dX12_listedPart_21 : decode cX12_listedPart 21 = .ok (.ifCond .eq 10, 3) := by decide +kernel
theorem dX12_listedPart_24 : decode cX12_listedPart 24 = .ok (.iload_n 3, 1) := by decide +kernel
theorem dX12_listedPart_25 : decode cX12_listedPart 25 = .ok (.invokestatic 168, 3) := by decide +kernel
theorem dX12_listedPart_28 : decode cX12_listedPart 28 = .ok (.ifCond .ne 7, 3) := by decide +kernel
theorem dX12_listedPart_31 : decode cX12_listedPart 31 = .ok (.sipush (-30000), 3) := by decide +kernel
theorem dX12_listedPart_34 : decode cX12_listedPart 34 = .ok (.ireturn, 1) := by decide +kernel
theorem dX12_listedPart_35 : decode cX12_listedPart 35 = .ok (.aload_n 0, 1) := by decide +kernel
theorem dX12_listedPart_36 : decode cX12_listedPart 36 = .ok (.getfield 28, 3) := by decide +kernel
theorem dX12_listedPart_39 : decode cX12_listedPart 39 = .ok (.bipush 8, 2) := by decide +kernel
theorem dX12_listedPart_41 : decode cX12_listedPart 41 = .ok (.iload_n 1, 1) := by decide +kernel
theorem dX12_listedPart_42 : decode cX12_listedPart 42 = .ok (.invokestatic 143, 3) := by decide +kernel
theorem dX12_listedPart_45 : decode cX12_listedPart 45 = .ok (.iload_n 2, 1) := by decide +kernel
theorem dX12_listedPart_46 : decode cX12_listedPart 46 = .ok (.iadd, 1) := by decide +kernel
theorem dX12_listedPart_47 : decode cX12_listedPart 47 = .ok (.imul, 1) := by decide +kernel
theorem dX12_listedPart_48 : decode cX12_listedPart 48 = .ok (.iload_n 3, 1) := by decide +kernel
theorem dX12_listedPart_49 : decode cX12_listedPart 49 = .ok (.iadd, 1) := by decide +kernel
theorem dX12_listedPart_50 : decode cX12_listedPart 50 = .ok (.iaload, 1) := by decide +kernel
theorem dX12_listedPart_51 : decode cX12_listedPart 51 = .ok (.ireturn, 1) := by decide +kernel
theorem dX12_place_0 : decode cX12_place 0 = .ok (.iload_n 1, 1) := by decide +kernel
theorem dX12_place_1 : decode cX12_place 1 = .ok (.invokestatic 165, 3) := by decide +kernel
theorem dX12_place_4 : decode cX12_place 4 = .ok (.ifCond .ne 5, 3) := by decide +kernel
theorem dX12_place_7 : decode cX12_place 7 = .ok (.iconst (-1), 1) := by decide +kernel
theorem dX12_place_8 : decode cX12_place 8 = .ok (.ireturn, 1) := by decide +kernel
theorem dX12_place_9 : decode cX12_place 9 = .ok (.aload_n 0, 1) := by decide +kernel
theorem dX12_place_10 : decode cX12_place 10 = .ok (.iload_n 1, 1) := by decide +kernel
theorem dX12_place_11 : decode cX12_place 11 = .ok (.invokevirtual 337, 3) := by decide +kernel
theorem dX12_place_14 : decode cX12_place 14 = .ok (.istore_n 2, 1) := by decide +kernel
theorem dX12_place_15 : decode cX12_place 15 = .ok (.iload_n 2, 1) := by decide +kernel
theorem dX12_place_16 : decode cX12_place 16 = .ok (.iconst (-1), 1) := by decide +kernel
theorem dX12_place_17 : decode cX12_place 17 = .ok (.if_icmp .ne 8, 3) := by decide +kernel
theorem dX12_place_20 : decode cX12_place 20 = .ok (.bipush (-2), 2) := by decide +kernel
theorem dX12_place_22 : decode cX12_place 22 = .ok (.goto 4, 3) := by decide +kernel
theorem dX12_place_25 : decode cX12_place 25 = .ok (.iload_n 2, 1) := by decide +kernel
theorem dX12_place_26 : decode cX12_place 26 = .ok (.ireturn, 1) := by decide +kernel
theorem dX12_isWholeBy_0 : decode cX12_isWholeBy 0 = .ok (.iconst 0, 1) := by decide +kernel
theorem dX12_isWholeBy_1 : decode cX12_isWholeBy 1 = .ok (.istore_n 3, 1) := by decide +kernel
theorem dX12_isWholeBy_2 : decode cX12_isWholeBy 2 = .ok (.iconst 0, 1) := by decide +kernel
theorem dX12_isWholeBy_3 : decode cX12_isWholeBy 3 = .ok (.istore 4, 2) := by decide +kernel
theorem dX12_isWholeBy_5 : decode cX12_isWholeBy 5 = .ok (.iload 4, 2) := by decide +kernel
theorem dX12_isWholeBy_7 : decode cX12_isWholeBy 7 = .ok (.bipush 8, 2) := by decide +kernel
theorem dX12_isWholeBy_9 : decode cX12_isWholeBy 9 = .ok (.if_icmp .ge 50, 3) := by decide +kernel
theorem dX12_isWholeBy_12 : decode cX12_isWholeBy 12 = .ok (.aload_n 0, 1) := by decide +kernel
theorem dX12_isWholeBy_13 : decode cX12_isWholeBy 13 = .ok (.getfield 20, 3) := by decide +kernel
theorem dX12_isWholeBy_16 : decode cX12_isWholeBy 16 = .ok (.iload 4, 2) := by decide +kernel
theorem dX12_isWholeBy_18 : decode cX12_isWholeBy 18 = .ok (.laload, 1) := by decide +kernel
theorem dX12_isWholeBy_19 : decode cX12_isWholeBy 19 = .ok (.lload_n 1, 1) := by decide +kernel
theorem dX12_isWholeBy_20 : decode cX12_isWholeBy 20 = .ok (.lrem, 1) := by decide +kernel
theorem dX12_isWholeBy_21 : decode cX12_isWholeBy 21 = .ok (.lconst 0, 1) := by decide +kernel
theorem dX12_isWholeBy_22 : decode cX12_isWholeBy 22 = .ok (.lcmp, 1) := by decide +kernel
theorem dX12_isWholeBy_23 : decode cX12_isWholeBy 23 = .ok (.ifCond .eq 5, 3) := by decide +kernel
theorem dX12_isWholeBy_26 : decode cX12_isWholeBy 26 = .ok (.iconst 0, 1) := by decide +kernel
theorem dX12_isWholeBy_27 : decode cX12_isWholeBy 27 = .ok (.ireturn, 1) := by decide +kernel
theorem dX12_isWholeBy_28 : decode cX12_isWholeBy 28 = .ok (.aload_n 0, 1) := by decide +kernel
theorem dX12_isWholeBy_29 : decode cX12_isWholeBy 29 = .ok (.getfield 20, 3) := by decide +kernel
theorem dX12_isWholeBy_32 : decode cX12_isWholeBy 32 = .ok (.iload 4, 2) := by decide +kernel
theorem dX12_isWholeBy_34 : decode cX12_isWholeBy 34 = .ok (.laload, 1) := by decide +kernel
theorem dX12_isWholeBy_35 : decode cX12_isWholeBy 35 = .ok (.lload_n 1, 1) := by decide +kernel
theorem dX12_isWholeBy_36 : decode cX12_isWholeBy 36 = .ok (.ldiv, 1) := by decide +kernel
theorem dX12_isWholeBy_37 : decode cX12_isWholeBy 37 = .ok (.ldc2_w 103, 3) := by decide +kernel
theorem dX12_isWholeBy_40 : decode cX12_isWholeBy 40 = .ok (.lrem, 1) := by decide +kernel
theorem dX12_isWholeBy_41 : decode cX12_isWholeBy 41 = .ok (.lconst 0, 1) := by decide +kernel
theorem dX12_isWholeBy_42 : decode cX12_isWholeBy 42 = .ok (.lcmp, 1) := by decide +kernel
theorem dX12_isWholeBy_43 : decode cX12_isWholeBy 43 = .ok (.ifCond .eq 10, 3) := by decide +kernel
theorem dX12_isWholeBy_46 : decode cX12_isWholeBy 46 = .ok (.iload_n 3, 1) := by decide +kernel
theorem dX12_isWholeBy_47 : decode cX12_isWholeBy 47 = .ok (.iconst 1, 1) := by decide +kernel
theorem dX12_isWholeBy_48 : decode cX12_isWholeBy 48 = .ok (.iload 4, 2) := by decide +kernel
theorem dX12_isWholeBy_50 : decode cX12_isWholeBy 50 = .ok (.ishl, 1) := by decide +kernel
theorem dX12_isWholeBy_51 : decode cX12_isWholeBy 51 = .ok (.ior, 1) := by decide +kernel
theorem dX12_isWholeBy_52 : decode cX12_isWholeBy 52 = .ok (.istore_n 3, 1) := by decide +kernel
theorem dX12_isWholeBy_53 : decode cX12_isWholeBy 53 = .ok (.iinc 4 1, 3) := by decide +kernel
theorem dX12_isWholeBy_56 : decode cX12_isWholeBy 56 = .ok (.goto (-51), 3) := by decide +kernel
theorem dX12_isWholeBy_59 : decode cX12_isWholeBy 59 = .ok (.aload_n 0, 1) := by decide +kernel
theorem dX12_isWholeBy_60 : decode cX12_isWholeBy 60 = .ok (.getfield 24, 3) := by decide +kernel
theorem dX12_isWholeBy_63 : decode cX12_isWholeBy 63 = .ok (.iload_n 3, 1) := by decide +kernel
theorem dX12_isWholeBy_64 : decode cX12_isWholeBy 64 = .ok (.invokestatic 131, 3) := by decide +kernel
theorem dX12_isWholeBy_67 : decode cX12_isWholeBy 67 = .ok (.ireturn, 1) := by decide +kernel
theorem dX12_isDivisor_0 : decode cX12_isDivisor 0 = .ok (.iload 4, 2) := by decide +kernel
theorem dX12_isDivisor_2 : decode cX12_isDivisor 2 = .ok (.ifCond .eq 14, 3) := by decide +kernel
theorem dX12_isDivisor_5 : decode cX12_isDivisor 5 = .ok (.aload_n 0, 1) := by decide +kernel
theorem dX12_isDivisor_6 : decode cX12_isDivisor 6 = .ok (.iload_n 1, 1) := by decide +kernel
theorem dX12_isDivisor_7 : decode cX12_isDivisor 7 = .ok (.iload_n 2, 1) := by decide +kernel
theorem dX12_isDivisor_8 : decode cX12_isDivisor 8 = .ok (.iconst 0, 1) := by decide +kernel
theorem dX12_isDivisor_9 : decode cX12_isDivisor 9 = .ok (.iconst 1, 1) := by decide +kernel
theorem dX12_isDivisor_10 : decode cX12_isDivisor 10 = .ok (.invokevirtual 105, 3) := by decide +kernel
theorem dX12_isDivisor_13 : decode cX12_isDivisor 13 = .ok (.goto 11, 3) := by decide +kernel
theorem dX12_isDivisor_16 : decode cX12_isDivisor 16 = .ok (.aload_n 0, 1) := by decide +kernel
theorem dX12_isDivisor_17 : decode cX12_isDivisor 17 = .ok (.iload_n 2, 1) := by decide +kernel
theorem dX12_isDivisor_18 : decode cX12_isDivisor 18 = .ok (.iload_n 1, 1) := by decide +kernel
theorem dX12_isDivisor_19 : decode cX12_isDivisor 19 = .ok (.iconst 1, 1) := by decide +kernel
theorem dX12_isDivisor_20 : decode cX12_isDivisor 20 = .ok (.iconst 0, 1) := by decide +kernel
theorem dX12_isDivisor_21 : decode cX12_isDivisor 21 = .ok (.invokevirtual 105, 3) := by decide +kernel
theorem dX12_isDivisor_24 : decode cX12_isDivisor 24 = .ok (.istore 5, 2) := by decide +kernel
theorem dX12_isDivisor_26 : decode cX12_isDivisor 26 = .ok (.iload 5, 2) := by decide +kernel
theorem dX12_isDivisor_28 : decode cX12_isDivisor 28 = .ok (.ifCond .eq 16, 3) := by decide +kernel
theorem dX12_isDivisor_31 : decode cX12_isDivisor 31 = .ok (.aload_n 0, 1) := by decide +kernel
theorem dX12_isDivisor_32 : decode cX12_isDivisor 32 = .ok (.iload_n 3, 1) := by decide +kernel
theorem dX12_isDivisor_33 : decode cX12_isDivisor 33 = .ok (.i2l, 1) := by decide +kernel
theorem dX12_isDivisor_34 : decode cX12_isDivisor 34 = .ok (.invokevirtual 340, 3) := by decide +kernel
theorem dX12_isDivisor_37 : decode cX12_isDivisor 37 = .ok (.ifCond .eq 7, 3) := by decide +kernel
theorem dX12_isDivisor_40 : decode cX12_isDivisor 40 = .ok (.iconst 1, 1) := by decide +kernel
theorem dX12_isDivisor_41 : decode cX12_isDivisor 41 = .ok (.goto 4, 3) := by decide +kernel
theorem dX12_isDivisor_44 : decode cX12_isDivisor 44 = .ok (.iconst 0, 1) := by decide +kernel
theorem dX12_isDivisor_45 : decode cX12_isDivisor 45 = .ok (.ireturn, 1) := by decide +kernel
theorem dX12_divisorsOf_0 : decode cX12_divisorsOf 0 = .ok (.aload_n 0, 1) := by decide +kernel
theorem dX12_divisorsOf_1 : decode cX12_divisorsOf 1 = .ok (.iload_n 2, 1) := by decide +kernel
theorem dX12_divisorsOf_2 : decode cX12_divisorsOf 2 = .ok (.invokevirtual 158, 3) := by decide +kernel
theorem dX12_divisorsOf_5 : decode cX12_divisorsOf 5 = .ok (.istore 5, 2) := by decide +kernel
theorem dX12_divisorsOf_7 : decode cX12_divisorsOf 7 = .ok (.iconst 0, 1) := by decide +kernel
theorem dX12_divisorsOf_8 : decode cX12_divisorsOf 8 = .ok (.istore 6, 2) := by decide +kernel
theorem dX12_divisorsOf_10 : decode cX12_divisorsOf 10 = .ok (.iconst 0, 1) := by decide +kernel
theorem dX12_divisorsOf_11 : decode cX12_divisorsOf 11 = .ok (.istore 7, 2) := by decide +kernel
theorem dX12_divisorsOf_13 : decode cX12_divisorsOf 13 = .ok (.iload 7, 2) := by decide +kernel
theorem dX12_divisorsOf_15 : decode cX12_divisorsOf 15 = .ok (.iload 5, 2) := by decide +kernel
theorem dX12_divisorsOf_17 : decode cX12_divisorsOf 17 = .ok (.if_icmp .ge 46, 3) := by decide +kernel
theorem dX12_divisorsOf_20 : decode cX12_divisorsOf 20 = .ok (.aload_n 0, 1) := by decide +kernel
theorem dX12_divisorsOf_21 : decode cX12_divisorsOf 21 = .ok (.bipush 9, 2) := by decide +kernel
theorem dX12_divisorsOf_23 : decode cX12_divisorsOf 23 = .ok (.iload_n 2, 1) := by decide +kernel
theorem dX12_divisorsOf_24 : decode cX12_divisorsOf 24 = .ok (.iload 7, 2) := by decide +kernel
theorem dX12_divisorsOf_26 : decode cX12_divisorsOf 26 = .ok (.invokevirtual 178, 3) := by decide +kernel
theorem dX12_divisorsOf_29 : decode cX12_divisorsOf 29 = .ok (.aload_n 0, 1) := by decide +kernel
theorem dX12_divisorsOf_30 : decode cX12_divisorsOf 30 = .ok (.iload_n 1, 1) := by decide +kernel
theorem dX12_divisorsOf_31 : decode cX12_divisorsOf 31 = .ok (.bipush 9, 2) := by decide +kernel
theorem dX12_divisorsOf_33 : decode cX12_divisorsOf 33 = .ok (.iload_n 2, 1) := by decide +kernel
theorem dX12_divisorsOf_34 : decode cX12_divisorsOf 34 = .ok (.iload_n 3, 1) := by decide +kernel
theorem dX12_divisorsOf_35 : decode cX12_divisorsOf 35 = .ok (.invokevirtual 344, 3) := by decide +kernel
theorem dX12_divisorsOf_38 : decode cX12_divisorsOf 38 = .ok (.ifCond .ne 6, 3) := by decide +kernel
theorem dX12_divisorsOf_41 : decode cX12_divisorsOf 41 = .ok (.goto 16, 3) := by decide +kernel
theorem dX12_divisorsOf_44 : decode cX12_divisorsOf 44 = .ok (.iload 6, 2) := by decide +kernel
theorem dX12_divisorsOf_46 : decode cX12_divisorsOf 46 = .ok (.iload 4, 2) := by decide +kernel
theorem dX12_divisorsOf_48 : decode cX12_divisorsOf 48 = .ok (.if_icmp .ne 6, 3) := by decide +kernel
theorem dX12_divisorsOf_51 : decode cX12_divisorsOf 51 = .ok (.iload 7, 2) := by decide +kernel
theorem dX12_divisorsOf_53 : decode cX12_divisorsOf 53 = .ok (.ireturn, 1) := by decide +kernel
theorem dX12_divisorsOf_54 : decode cX12_divisorsOf 54 = .ok (.iinc 6 1, 3) := by decide +kernel
theorem dX12_divisorsOf_57 : decode cX12_divisorsOf 57 = .ok (.iinc 7 1, 3) := by decide +kernel
theorem dX12_divisorsOf_60 : decode cX12_divisorsOf 60 = .ok (.goto (-47), 3) := by decide +kernel
theorem dX12_divisorsOf_63 : decode cX12_divisorsOf 63 = .ok (.iload 4, 2) := by decide +kernel
theorem dX12_divisorsOf_65 : decode cX12_divisorsOf 65 = .ok (.iconst (-1), 1) := by decide +kernel
theorem dX12_divisorsOf_66 : decode cX12_divisorsOf 66 = .ok (.if_icmp .ne 8, 3) := by decide +kernel
theorem dX12_divisorsOf_69 : decode cX12_divisorsOf 69 = .ok (.iload 6, 2) := by decide +kernel
theorem dX12_divisorsOf_71 : decode cX12_divisorsOf 71 = .ok (.goto 5, 3) := by decide +kernel
theorem dX12_divisorsOf_74 : decode cX12_divisorsOf 74 = .ok (.bipush (-2), 2) := by decide +kernel
theorem dX12_divisorsOf_76 : decode cX12_divisorsOf 76 = .ok (.ireturn, 1) := by decide +kernel
theorem dX12_divisors_0 : decode cX12_divisors 0 = .ok (.iload_n 1, 1) := by decide +kernel
theorem dX12_divisors_1 : decode cX12_divisors 1 = .ok (.invokestatic 165, 3) := by decide +kernel
theorem dX12_divisors_4 : decode cX12_divisors 4 = .ok (.ifCond .eq 26, 3) := by decide +kernel
theorem dX12_divisors_7 : decode cX12_divisors 7 = .ok (.iload_n 2, 1) := by decide +kernel
theorem dX12_divisors_8 : decode cX12_divisors 8 = .ok (.i2l, 1) := by decide +kernel
theorem dX12_divisors_9 : decode cX12_divisors 9 = .ok (.lconst 1, 1) := by decide +kernel
theorem dX12_divisors_10 : decode cX12_divisors 10 = .ok (.ldc2_w 150, 3) := by decide +kernel
theorem dX12_divisors_13 : decode cX12_divisors 13 = .ok (.invokestatic 95, 3) := by decide +kernel
theorem dX12_divisors_16 : decode cX12_divisors 16 = .ok (.ifCond .eq 14, 3) := by decide +kernel
theorem dX12_divisors_19 : decode cX12_divisors 19 = .ok (.aload_n 0, 1) := by decide +kernel
theorem dX12_divisors_20 : decode cX12_divisors 20 = .ok (.iload_n 1, 1) := by decide +kernel
theorem dX12_divisors_21 : decode cX12_divisors 21 = .ok (.iload_n 2, 1) := by decide +kernel
theorem dX12_divisors_22 : decode cX12_divisors 22 = .ok (.iload_n 3, 1) := by decide +kernel
theorem dX12_divisors_23 : decode cX12_divisors 23 = .ok (.iconst (-1), 1) := by decide +kernel
theorem dX12_divisors_24 : decode cX12_divisors 24 = .ok (.invokevirtual 348, 3) := by decide +kernel
theorem dX12_divisors_27 : decode cX12_divisors 27 = .ok (.goto 4, 3) := by decide +kernel
theorem dX12_divisors_30 : decode cX12_divisors 30 = .ok (.iconst (-1), 1) := by decide +kernel
theorem dX12_divisors_31 : decode cX12_divisors 31 = .ok (.ireturn, 1) := by decide +kernel
theorem dX12_divisor_0 : decode cX12_divisor 0 = .ok (.iload_n 1, 1) := by decide +kernel
theorem dX12_divisor_1 : decode cX12_divisor 1 = .ok (.invokestatic 165, 3) := by decide +kernel
theorem dX12_divisor_4 : decode cX12_divisor 4 = .ok (.ifCond .eq 32, 3) := by decide +kernel
theorem dX12_divisor_7 : decode cX12_divisor 7 = .ok (.iload_n 2, 1) := by decide +kernel
theorem dX12_divisor_8 : decode cX12_divisor 8 = .ok (.i2l, 1) := by decide +kernel
theorem dX12_divisor_9 : decode cX12_divisor 9 = .ok (.lconst 1, 1) := by decide +kernel
theorem dX12_divisor_10 : decode cX12_divisor 10 = .ok (.ldc2_w 150, 3) := by decide +kernel
theorem dX12_divisor_13 : decode cX12_divisor 13 = .ok (.invokestatic 95, 3) := by decide +kernel
theorem dX12_divisor_16 : decode cX12_divisor 16 = .ok (.ifCond .eq 20, 3) := by decide +kernel
theorem dX12_divisor_19 : decode cX12_divisor 19 = .ok (.iload 4, 2) := by decide +kernel
theorem dX12_divisor_21 : decode cX12_divisor 21 = .ok (.ifCond .lt 15, 3) := by decide +kernel
theorem dX12_divisor_24 : decode cX12_divisor 24 = .ok (.aload_n 0, 1) := by decide +kernel
theorem dX12_divisor_25 : decode cX12_divisor 25 = .ok (.iload_n 1, 1) := by decide +kernel
theorem dX12_divisor_26 : decode cX12_divisor 26 = .ok (.iload_n 2, 1) := by decide +kernel
theorem dX12_divisor_27 : decode cX12_divisor 27 = .ok (.iload_n 3, 1) := by decide +kernel
theorem dX12_divisor_28 : decode cX12_divisor 28 = .ok (.iload 4, 2) := by decide +kernel
theorem dX12_divisor_30 : decode cX12_divisor 30 = .ok (.invokevirtual 348, 3) := by decide +kernel
theorem dX12_divisor_33 : decode cX12_divisor 33 = .ok (.goto 4, 3) := by decide +kernel
theorem dX12_divisor_36 : decode cX12_divisor 36 = .ok (.iconst (-1), 1) := by decide +kernel
theorem dX12_divisor_37 : decode cX12_divisor 37 = .ok (.ireturn, 1) := by decide +kernel
theorem dX12_innerOf_0 : decode cX12_innerOf 0 = .ok (.lconst 0, 1) := by decide +kernel
theorem dX12_innerOf_1 : decode cX12_innerOf 1 = .ok (.lstore_n 3, 1) := by decide +kernel
theorem dX12_innerOf_2 : decode cX12_innerOf 2 = .ok (.iconst 0, 1) := by decide +kernel
theorem dX12_innerOf_3 : decode cX12_innerOf 3 = .ok (.istore 5, 2) := by decide +kernel
theorem dX12_innerOf_5 : decode cX12_innerOf 5 = .ok (.iload 5, 2) := by decide +kernel
theorem dX12_innerOf_7 : decode cX12_innerOf 7 = .ok (.bipush 8, 2) := by decide +kernel
theorem dX12_innerOf_9 : decode cX12_innerOf 9 = .ok (.if_icmp .ge 39, 3) := by decide +kernel
theorem dX12_innerOf_12 : decode cX12_innerOf 12 = .ok (.lload_n 3, 1) := by decide +kernel
theorem dX12_innerOf_13 : decode cX12_innerOf 13 = .ok (.aload_n 0, 1) := by decide +kernel
theorem dX12_innerOf_14 : decode cX12_innerOf 14 = .ok (.getfield 17, 3) := by decide +kernel
theorem dX12_innerOf_17 : decode cX12_innerOf 17 = .ok (.bipush 8, 2) := by decide +kernel
theorem dX12_innerOf_19 : decode cX12_innerOf 19 = .ok (.iload_n 1, 1) := by decide +kernel
theorem dX12_innerOf_20 : decode cX12_innerOf 20 = .ok (.imul, 1) := by decide +kernel
theorem dX12_innerOf_21 : decode cX12_innerOf 21 = .ok (.iload 5, 2) := by decide +kernel
theorem dX12_innerOf_23 : decode cX12_innerOf 23 = .ok (.iadd, 1) := by decide +kernel
theorem dX12_innerOf_24 : decode cX12_innerOf 24 = .ok (.iaload, 1) := by decide +kernel
theorem dX12_innerOf_25 : decode cX12_innerOf 25 = .ok (.i2l, 1) := by decide +kernel
theorem dX12_innerOf_26 : decode cX12_innerOf 26 = .ok (.aload_n 0, 1) := by decide +kernel
theorem dX12_innerOf_27 : decode cX12_innerOf 27 = .ok (.getfield 17, 3) := by decide +kernel
theorem dX12_innerOf_30 : decode cX12_innerOf 30 = .ok (.bipush 8, 2) := by decide +kernel
theorem dX12_innerOf_32 : decode cX12_innerOf 32 = .ok (.iload_n 2, 1) := by decide +kernel
theorem dX12_innerOf_33 : decode cX12_innerOf 33 = .ok (.imul, 1) := by decide +kernel
theorem dX12_innerOf_34 : decode cX12_innerOf 34 = .ok (.iload 5, 2) := by decide +kernel
theorem dX12_innerOf_36 : decode cX12_innerOf 36 = .ok (.iadd, 1) := by decide +kernel
theorem dX12_innerOf_37 : decode cX12_innerOf 37 = .ok (.iaload, 1) := by decide +kernel
theorem dX12_innerOf_38 : decode cX12_innerOf 38 = .ok (.i2l, 1) := by decide +kernel
theorem dX12_innerOf_39 : decode cX12_innerOf 39 = .ok (.lmul, 1) := by decide +kernel
theorem dX12_innerOf_40 : decode cX12_innerOf 40 = .ok (.ladd, 1) := by decide +kernel
theorem dX12_innerOf_41 : decode cX12_innerOf 41 = .ok (.lstore_n 3, 1) := by decide +kernel
theorem dX12_innerOf_42 : decode cX12_innerOf 42 = .ok (.iinc 5 1, 3) := by decide +kernel
theorem dX12_innerOf_45 : decode cX12_innerOf 45 = .ok (.goto (-40), 3) := by decide +kernel
theorem dX12_innerOf_48 : decode cX12_innerOf 48 = .ok (.lload_n 3, 1) := by decide +kernel
theorem dX12_innerOf_49 : decode cX12_innerOf 49 = .ok (.invokestatic 270, 3) := by decide +kernel
theorem dX12_innerOf_52 : decode cX12_innerOf 52 = .ok (.ireturn, 1) := by decide +kernel
theorem dX12_inner_0 : decode cX12_inner 0 = .ok (.iload_n 1, 1) := by decide +kernel
theorem dX12_inner_1 : decode cX12_inner 1 = .ok (.invokestatic 165, 3) := by decide +kernel
theorem dX12_inner_4 : decode cX12_inner 4 = .ok (.ifCond .eq 19, 3) := by decide +kernel
theorem dX12_inner_7 : decode cX12_inner 7 = .ok (.iload_n 2, 1) := by decide +kernel
theorem dX12_inner_8 : decode cX12_inner 8 = .ok (.invokestatic 165, 3) := by decide +kernel
theorem dX12_inner_11 : decode cX12_inner 11 = .ok (.ifCond .eq 12, 3) := by decide +kernel
theorem dX12_inner_14 : decode cX12_inner 14 = .ok (.aload_n 0, 1) := by decide +kernel
theorem dX12_inner_15 : decode cX12_inner 15 = .ok (.iload_n 1, 1) := by decide +kernel
theorem dX12_inner_16 : decode cX12_inner 16 = .ok (.iload_n 2, 1) := by decide +kernel
theorem dX12_inner_17 : decode cX12_inner 17 = .ok (.invokevirtual 352, 3) := by decide +kernel
theorem dX12_inner_20 : decode cX12_inner 20 = .ok (.goto 4, 3) := by decide +kernel
theorem dX12_inner_23 : decode cX12_inner 23 = .ok (.iconst (-1), 1) := by decide +kernel
theorem dX12_inner_24 : decode cX12_inner 24 = .ok (.ireturn, 1) := by decide +kernel
theorem dX12_angles_0 : decode cX12_angles 0 = .ok (.iload_n 1, 1) := by decide +kernel
theorem dX12_angles_1 : decode cX12_angles 1 = .ok (.invokestatic 165, 3) := by decide +kernel
theorem dX12_angles_4 : decode cX12_angles 4 = .ok (.ifCond .eq 10, 3) := by decide +kernel
theorem dX12_angles_7 : decode cX12_angles 7 = .ok (.iload_n 2, 1) := by decide +kernel
theorem dX12_angles_8 : decode cX12_angles 8 = .ok (.invokestatic 175, 3) := by decide +kernel
theorem dX12_angles_11 : decode cX12_angles 11 = .ok (.ifCond .ne 5, 3) := by decide +kernel
theorem dX12_angles_14 : decode cX12_angles 14 = .ok (.iconst (-1), 1) := by decide +kernel
theorem dX12_angles_15 : decode cX12_angles 15 = .ok (.ireturn, 1) := by decide +kernel
theorem dX12_angles_16 : decode cX12_angles 16 = .ok (.aload_n 0, 1) := by decide +kernel
theorem dX12_angles_17 : decode cX12_angles 17 = .ok (.iload_n 2, 1) := by decide +kernel
theorem dX12_angles_18 : decode cX12_angles 18 = .ok (.invokevirtual 158, 3) := by decide +kernel
theorem dX12_angles_21 : decode cX12_angles 21 = .ok (.istore 4, 2) := by decide +kernel
theorem dX12_angles_23 : decode cX12_angles 23 = .ok (.iconst 0, 1) := by decide +kernel
theorem dX12_angles_24 : decode cX12_angles 24 = .ok (.istore 5, 2) := by decide +kernel
theorem dX12_angles_26 : decode cX12_angles 26 = .ok (.iconst 0, 1) := by decide +kernel
theorem dX12_angles_27 : decode cX12_angles 27 = .ok (.istore 6, 2) := by decide +kernel
theorem dX12_angles_29 : decode cX12_angles 29 = .ok (.iload 6, 2) := by decide +kernel
theorem dX12_angles_31 : decode cX12_angles 31 = .ok (.iload 4, 2) := by decide +kernel
theorem dX12_angles_33 : decode cX12_angles 33 = .ok (.if_icmp .ge 32, 3) := by decide +kernel
theorem dX12_angles_36 : decode cX12_angles 36 = .ok (.aload_n 0, 1) := by decide +kernel
theorem dX12_angles_37 : decode cX12_angles 37 = .ok (.bipush 9, 2) := by decide +kernel
theorem dX12_angles_39 : decode cX12_angles 39 = .ok (.iload_n 2, 1) := by decide +kernel
theorem dX12_angles_40 : decode cX12_angles 40 = .ok (.iload 6, 2) := by decide +kernel
theorem dX12_angles_42 : decode cX12_angles 42 = .ok (.invokevirtual 178, 3) := by decide +kernel
theorem dX12_angles_45 : decode cX12_angles 45 = .ok (.aload_n 0, 1) := by decide +kernel
theorem dX12_angles_46 : decode cX12_angles 46 = .ok (.iload_n 1, 1) := by decide +kernel
theorem dX12_angles_47 : decode cX12_angles 47 = .ok (.bipush 9, 2) := by decide +kernel
theorem dX12_angles_49 : decode cX12_angles 49 = .ok (.invokevirtual 352, 3) := by decide +kernel
theorem dX12_angles_52 : decode cX12_angles 52 = .ok (.iload_n 3, 1) := by decide +kernel
theorem dX12_angles_53 : decode cX12_angles 53 = .ok (.if_icmp .ne 6, 3) := by decide +kernel
theorem dX12_angles_56 : decode cX12_angles 56 = .ok (.iinc 5 1, 3) := by decide +kernel
theorem dX12_angles_59 : decode cX12_angles 59 = .ok (.iinc 6 1, 3) := by decide +kernel
theorem dX12_angles_62 : decode cX12_angles 62 = .ok (.goto (-33), 3) := by decide +kernel
theorem dX12_angles_65 : decode cX12_angles 65 = .ok (.iload 5, 2) := by decide +kernel
theorem dX12_angles_67 : decode cX12_angles 67 = .ok (.ireturn, 1) := by decide +kernel
theorem dX12_areAlike_0 : decode cX12_areAlike 0 = .ok (.iconst 0, 1) := by decide +kernel
theorem dX12_areAlike_1 : decode cX12_areAlike 1 = .ok (.istore 4, 2) := by decide +kernel
theorem dX12_areAlike_3 : decode cX12_areAlike 3 = .ok (.iload 4, 2) := by decide +kernel
theorem dX12_areAlike_5 : decode cX12_areAlike 5 = .ok (.bipush 8, 2) := by decide +kernel
theorem dX12_areAlike_7 : decode cX12_areAlike 7 = .ok (.if_icmp .ge 42, 3) := by decide +kernel
theorem dX12_areAlike_10 : decode cX12_areAlike 10 = .ok (.aload_n 0, 1) := by decide +kernel
theorem dX12_areAlike_11 : decode cX12_areAlike 11 = .ok (.getfield 20, 3) := by decide +kernel
theorem dX12_areAlike_14 : decode cX12_areAlike 14 = .ok (.iload 4, 2) := by decide +kernel
theorem dX12_areAlike_16 : decode cX12_areAlike 16 = .ok (.aload_n 0, 1) := by decide +kernel
theorem dX12_areAlike_17 : decode cX12_areAlike 17 = .ok (.getfield 17, 3) := by decide +kernel
theorem dX12_areAlike_20 : decode cX12_areAlike 20 = .ok (.bipush 8, 2) := by decide +kernel
theorem dX12_areAlike_22 : decode cX12_areAlike 22 = .ok (.iload_n 1, 1) := by decide +kernel
theorem dX12_areAlike_23 : decode cX12_areAlike 23 = .ok (.imul, 1) := by decide +kernel
theorem dX12_areAlike_24 : decode cX12_areAlike 24 = .ok (.iload 4, 2) := by decide +kernel
theorem dX12_areAlike_26 : decode cX12_areAlike 26 = .ok (.iadd, 1) := by decide +kernel
theorem dX12_areAlike_27 : decode cX12_areAlike 27 = .ok (.iaload, 1) := by decide +kernel
theorem dX12_areAlike_28 : decode cX12_areAlike 28 = .ok (.aload_n 0, 1) := by decide +kernel
theorem dX12_areAlike_29 : decode cX12_areAlike 29 = .ok (.getfield 17, 3) := by decide +kernel
theorem dX12_areAlike_32 : decode cX12_areAlike 32 = .ok (.bipush 8, 2) := by decide +kernel
theorem dX12_areAlike_34 : decode cX12_areAlike 34 = .ok (.iload_n 2, 1) := by decide +kernel
theorem dX12_areAlike_35 : decode cX12_areAlike 35 = .ok (.imul, 1) := by decide +kernel
theorem dX12_areAlike_36 : decode cX12_areAlike 36 = .ok (.iload 4, 2) := by decide +kernel
theorem dX12_areAlike_38 : decode cX12_areAlike 38 = .ok (.iadd, 1) := by decide +kernel
theorem dX12_areAlike_39 : decode cX12_areAlike 39 = .ok (.iaload, 1) := by decide +kernel
theorem dX12_areAlike_40 : decode cX12_areAlike 40 = .ok (.isub, 1) := by decide +kernel
theorem dX12_areAlike_41 : decode cX12_areAlike 41 = .ok (.i2l, 1) := by decide +kernel
theorem dX12_areAlike_42 : decode cX12_areAlike 42 = .ok (.lastore, 1) := by decide +kernel
theorem dX12_areAlike_43 : decode cX12_areAlike 43 = .ok (.iinc 4 1, 3) := by decide +kernel
theorem dX12_areAlike_46 : decode cX12_areAlike 46 = .ok (.goto (-43), 3) := by decide +kernel
theorem dX12_areAlike_49 : decode cX12_areAlike 49 = .ok (.aload_n 0, 1) := by decide +kernel
theorem dX12_areAlike_50 : decode cX12_areAlike 50 = .ok (.iload_n 3, 1) := by decide +kernel
theorem dX12_areAlike_51 : decode cX12_areAlike 51 = .ok (.i2l, 1) := by decide +kernel
theorem dX12_areAlike_52 : decode cX12_areAlike 52 = .ok (.invokevirtual 340, 3) := by decide +kernel
theorem dX12_areAlike_55 : decode cX12_areAlike 55 = .ok (.ireturn, 1) := by decide +kernel
theorem dX12_alike_0 : decode cX12_alike 0 = .ok (.iload_n 1, 1) := by decide +kernel
theorem dX12_alike_1 : decode cX12_alike 1 = .ok (.invokestatic 165, 3) := by decide +kernel
theorem dX12_alike_4 : decode cX12_alike 4 = .ok (.ifCond .eq 40, 3) := by decide +kernel
theorem dX12_alike_7 : decode cX12_alike 7 = .ok (.iload_n 2, 1) := by decide +kernel
theorem dX12_alike_8 : decode cX12_alike 8 = .ok (.invokestatic 165, 3) := by decide +kernel
theorem dX12_alike_11 : decode cX12_alike 11 = .ok (.ifCond .eq 33, 3) := by decide +kernel
theorem dX12_alike_14 : decode cX12_alike 14 = .ok (.iload_n 3, 1) := by decide +kernel
theorem dX12_alike_15 : decode cX12_alike 15 = .ok (.i2l, 1) := by decide +kernel
theorem dX12_alike_16 : decode cX12_alike 16 = .ok (.lconst 1, 1) := by decide +kernel
theorem dX12_alike_17 : decode cX12_alike 17 = .ok (.ldc2_w 205, 3) := by decide +kernel
theorem dX12_alike_20 : decode cX12_alike 20 = .ok (.invokestatic 95, 3) := by decide +kernel
theorem dX12_alike_23 : decode cX12_alike 23 = .ok (.ifCond .eq 21, 3) := by decide +kernel
theorem dX12_alike_26 : decode cX12_alike 26 = .ok (.aload_n 0, 1) := by decide +kernel
theorem dX12_alike_27 : decode cX12_alike 27 = .ok (.iload_n 1, 1) := by decide +kernel
theorem dX12_alike_28 : decode cX12_alike 28 = .ok (.iload_n 2, 1) := by decide +kernel
theorem dX12_alike_29 : decode cX12_alike 29 = .ok (.iload_n 3, 1) := by decide +kernel
theorem dX12_alike_30 : decode cX12_alike 30 = .ok (.invokevirtual 355, 3) := by decide +kernel
theorem dX12_alike_33 : decode cX12_alike 33 = .ok (.ifCond .eq 7, 3) := by decide +kernel
theorem dX12_alike_36 : decode cX12_alike 36 = .ok (.iconst 1, 1) := by decide +kernel
theorem dX12_alike_37 : decode cX12_alike 37 = .ok (.goto 8, 3) := by decide +kernel
theorem dX12_alike_40 : decode cX12_alike 40 = .ok (.iconst 0, 1) := by decide +kernel
theorem dX12_alike_41 : decode cX12_alike 41 = .ok (.goto 4, 3) := by decide +kernel
theorem dX12_alike_44 : decode cX12_alike 44 = .ok (.iconst (-1), 1) := by decide +kernel
theorem dX12_alike_45 : decode cX12_alike 45 = .ok (.ireturn, 1) := by decide +kernel
theorem dX12_alikeMany_0 : decode cX12_alikeMany 0 = .ok (.iload_n 1, 1) := by decide +kernel
theorem dX12_alikeMany_1 : decode cX12_alikeMany 1 = .ok (.invokestatic 165, 3) := by decide +kernel
theorem dX12_alikeMany_4 : decode cX12_alikeMany 4 = .ok (.ifCond .eq 22, 3) := by decide +kernel
theorem dX12_alikeMany_7 : decode cX12_alikeMany 7 = .ok (.iload_n 2, 1) := by decide +kernel
theorem dX12_alikeMany_8 : decode cX12_alikeMany 8 = .ok (.invokestatic 175, 3) := by decide +kernel
theorem dX12_alikeMany_11 : decode cX12_alikeMany 11 = .ok (.ifCond .eq 15, 3) := by decide +kernel
theorem dX12_alikeMany_14 : decode cX12_alikeMany 14 = .ok (.iload_n 3, 1) := by decide +kernel
theorem dX12_alikeMany_15 : decode cX12_alikeMany 15 = .ok (.i2l, 1) := by decide +kernel
theorem dX12_alikeMany_16 : decode cX12_alikeMany 16 = .ok (.lconst 1, 1) := by decide +kernel
theorem dX12_alikeMany_17 : decode cX12_alikeMany 17 = .ok (.ldc2_w 205, 3) := by decide +kernel
theorem dX12_alikeMany_20 : decode cX12_alikeMany 20 = .ok (.invokestatic 95, 3) := by decide +kernel
theorem dX12_alikeMany_23 : decode cX12_alikeMany 23 = .ok (.ifCond .ne 5, 3) := by decide +kernel
theorem dX12_alikeMany_26 : decode cX12_alikeMany 26 = .ok (.iconst (-1), 1) := by decide +kernel
theorem dX12_alikeMany_27 : decode cX12_alikeMany 27 = .ok (.ireturn, 1) := by decide +kernel
theorem dX12_alikeMany_28 : decode cX12_alikeMany 28 = .ok (.aload_n 0, 1) := by decide +kernel
theorem dX12_alikeMany_29 : decode cX12_alikeMany 29 = .ok (.iload_n 2, 1) := by decide +kernel
theorem dX12_alikeMany_30 : decode cX12_alikeMany 30 = .ok (.invokevirtual 158, 3) := by decide +kernel
theorem dX12_alikeMany_33 : decode cX12_alikeMany 33 = .ok (.istore 4, 2) := by decide +kernel
theorem dX12_alikeMany_35 : decode cX12_alikeMany 35 = .ok (.iconst 0, 1) := by decide +kernel
theorem dX12_alikeMany_36 : decode cX12_alikeMany 36 = .ok (.istore 5, 2) := by decide +kernel
theorem dX12_alikeMany_38 : decode cX12_alikeMany 38 = .ok (.iconst 0, 1) := by decide +kernel
theorem dX12_alikeMany_39 : decode cX12_alikeMany 39 = .ok (.istore 6, 2) := by decide +kernel
theorem dX12_alikeMany_41 : decode cX12_alikeMany 41 = .ok (.iload 6, 2) := by decide +kernel
theorem dX12_alikeMany_43 : decode cX12_alikeMany 43 = .ok (.iload 4, 2) := by decide +kernel
theorem dX12_alikeMany_45 : decode cX12_alikeMany 45 = .ok (.if_icmp .ge 32, 3) := by decide +kernel
theorem dX12_alikeMany_48 : decode cX12_alikeMany 48 = .ok (.aload_n 0, 1) := by decide +kernel
theorem dX12_alikeMany_49 : decode cX12_alikeMany 49 = .ok (.bipush 9, 2) := by decide +kernel
theorem dX12_alikeMany_51 : decode cX12_alikeMany 51 = .ok (.iload_n 2, 1) := by decide +kernel
theorem dX12_alikeMany_52 : decode cX12_alikeMany 52 = .ok (.iload 6, 2) := by decide +kernel
theorem dX12_alikeMany_54 : decode cX12_alikeMany 54 = .ok (.invokevirtual 178, 3) := by decide +kernel
theorem dX12_alikeMany_57 : decode cX12_alikeMany 57 = .ok (.aload_n 0, 1) := by decide +kernel
theorem dX12_alikeMany_58 : decode cX12_alikeMany 58 = .ok (.iload_n 1, 1) := by decide +kernel
theorem dX12_alikeMany_59 : decode cX12_alikeMany 59 = .ok (.bipush 9, 2) := by decide +kernel
theorem dX12_alikeMany_61 : decode cX12_alikeMany 61 = .ok (.iload_n 3, 1) := by decide +kernel
theorem dX12_alikeMany_62 : decode cX12_alikeMany 62 = .ok (.invokevirtual 355, 3) := by decide +kernel
theorem dX12_alikeMany_65 : decode cX12_alikeMany 65 = .ok (.ifCond .eq 6, 3) := by decide +kernel
theorem dX12_alikeMany_68 : decode cX12_alikeMany 68 = .ok (.iinc 5 1, 3) := by decide +kernel
theorem dX12_alikeMany_71 : decode cX12_alikeMany 71 = .ok (.iinc 6 1, 3) := by decide +kernel
theorem dX12_alikeMany_74 : decode cX12_alikeMany 74 = .ok (.goto (-33), 3) := by decide +kernel
theorem dX12_alikeMany_77 : decode cX12_alikeMany 77 = .ok (.iload 5, 2) := by decide +kernel
theorem dX12_alikeMany_79 : decode cX12_alikeMany 79 = .ok (.ireturn, 1) := by decide +kernel
theorem dX12_doCommute_0 : decode cX12_doCommute 0 = .ok (.aload_n 0, 1) := by decide +kernel
theorem dX12_doCommute_1 : decode cX12_doCommute 1 = .ok (.bipush 10, 2) := by decide +kernel
theorem dX12_doCommute_3 : decode cX12_doCommute 3 = .ok (.iload_n 1, 1) := by decide +kernel
theorem dX12_doCommute_4 : decode cX12_doCommute 4 = .ok (.iload_n 2, 1) := by decide +kernel
theorem dX12_doCommute_5 : decode cX12_doCommute 5 = .ok (.invokevirtual 197, 3) := by decide +kernel
theorem dX12_doCommute_8 : decode cX12_doCommute 8 = .ok (.ifCond .eq 29, 3) := by decide +kernel
theorem dX12_doCommute_11 : decode cX12_doCommute 11 = .ok (.aload_n 0, 1) := by decide +kernel
theorem dX12_doCommute_12 : decode cX12_doCommute 12 = .ok (.bipush 11, 2) := by decide +kernel
theorem dX12_doCommute_14 : decode cX12_doCommute 14 = .ok (.iload_n 2, 1) := by decide +kernel
theorem dX12_doCommute_15 : decode cX12_doCommute 15 = .ok (.iload_n 1, 1) := by decide +kernel
theorem dX12_doCommute_16 : decode cX12_doCommute 16 = .ok (.invokevirtual 197, 3) := by decide +kernel
theorem dX12_doCommute_19 : decode cX12_doCommute 19 = .ok (.ifCond .eq 18, 3) := by decide +kernel
theorem dX12_doCommute_22 : decode cX12_doCommute 22 = .ok (.aload_n 0, 1) := by decide +kernel
theorem dX12_doCommute_23 : decode cX12_doCommute 23 = .ok (.bipush 10, 2) := by decide +kernel
theorem dX12_doCommute_25 : decode cX12_doCommute 25 = .ok (.bipush 11, 2) := by decide +kernel
theorem dX12_doCommute_27 : decode cX12_doCommute 27 = .ok (.invokevirtual 280, 3) := by decide +kernel
theorem dX12_doCommute_30 : decode cX12_doCommute 30 = .ok (.ifCond .eq 7, 3) := by decide +kernel
theorem dX12_doCommute_33 : decode cX12_doCommute 33 = .ok (.iconst 1, 1) := by decide +kernel
theorem dX12_doCommute_34 : decode cX12_doCommute 34 = .ok (.goto 4, 3) := by decide +kernel
theorem dX12_doCommute_37 : decode cX12_doCommute 37 = .ok (.iconst 0, 1) := by decide +kernel
theorem dX12_doCommute_38 : decode cX12_doCommute 38 = .ok (.ireturn, 1) := by decide +kernel
theorem dX12_commuting_0 : decode cX12_commuting 0 = .ok (.iload_n 1, 1) := by decide +kernel
theorem dX12_commuting_1 : decode cX12_commuting 1 = .ok (.invokestatic 165, 3) := by decide +kernel
theorem dX12_commuting_4 : decode cX12_commuting 4 = .ok (.ifCond .eq 10, 3) := by decide +kernel
theorem dX12_commuting_7 : decode cX12_commuting 7 = .ok (.iload_n 2, 1) := by decide +kernel
theorem dX12_commuting_8 : decode cX12_commuting 8 = .ok (.invokestatic 175, 3) := by decide +kernel
theorem dX12_commuting_11 : decode cX12_commuting 11 = .ok (.ifCond .ne 5, 3) := by decide +kernel
theorem dX12_commuting_14 : decode cX12_commuting 14 = .ok (.iconst (-1), 1) := by decide +kernel
theorem dX12_commuting_15 : decode cX12_commuting 15 = .ok (.ireturn, 1) := by decide +kernel
theorem dX12_commuting_16 : decode cX12_commuting 16 = .ok (.aload_n 0, 1) := by decide +kernel
theorem dX12_commuting_17 : decode cX12_commuting 17 = .ok (.iload_n 2, 1) := by decide +kernel
theorem dX12_commuting_18 : decode cX12_commuting 18 = .ok (.invokevirtual 158, 3) := by decide +kernel
theorem dX12_commuting_21 : decode cX12_commuting 21 = .ok (.istore_n 3, 1) := by decide +kernel
theorem dX12_commuting_22 : decode cX12_commuting 22 = .ok (.iconst 0, 1) := by decide +kernel
theorem dX12_commuting_23 : decode cX12_commuting 23 = .ok (.istore 4, 2) := by decide +kernel
theorem dX12_commuting_25 : decode cX12_commuting 25 = .ok (.iconst 0, 1) := by decide +kernel
theorem dX12_commuting_26 : decode cX12_commuting 26 = .ok (.istore 5, 2) := by decide +kernel
theorem dX12_commuting_28 : decode cX12_commuting 28 = .ok (.iload 5, 2) := by decide +kernel
theorem dX12_commuting_30 : decode cX12_commuting 30 = .ok (.iload_n 3, 1) := by decide +kernel
theorem dX12_commuting_31 : decode cX12_commuting 31 = .ok (.if_icmp .ge 31, 3) := by decide +kernel
theorem dX12_commuting_34 : decode cX12_commuting 34 = .ok (.aload_n 0, 1) := by decide +kernel
theorem dX12_commuting_35 : decode cX12_commuting 35 = .ok (.bipush 9, 2) := by decide +kernel
theorem dX12_commuting_37 : decode cX12_commuting 37 = .ok (.iload_n 2, 1) := by decide +kernel
theorem dX12_commuting_38 : decode cX12_commuting 38 = .ok (.iload 5, 2) := by decide +kernel
theorem dX12_commuting_40 : decode cX12_commuting 40 = .ok (.invokevirtual 178, 3) := by decide +kernel
theorem dX12_commuting_43 : decode cX12_commuting 43 = .ok (.aload_n 0, 1) := by decide +kernel
theorem dX12_commuting_44 : decode cX12_commuting 44 = .ok (.iload_n 1, 1) := by decide +kernel
theorem dX12_commuting_45 : decode cX12_commuting 45 = .ok (.bipush 9, 2) := by decide +kernel
theorem dX12_commuting_47 : decode cX12_commuting 47 = .ok (.invokevirtual 358, 3) := by decide +kernel
theorem dX12_commuting_50 : decode cX12_commuting 50 = .ok (.ifCond .eq 6, 3) := by decide +kernel
theorem dX12_commuting_53 : decode cX12_commuting 53 = .ok (.iinc 4 1, 3) := by decide +kernel
theorem dX12_commuting_56 : decode cX12_commuting 56 = .ok (.iinc 5 1, 3) := by decide +kernel
theorem dX12_commuting_59 : decode cX12_commuting 59 = .ok (.goto (-31), 3) := by decide +kernel
theorem dX12_commuting_62 : decode cX12_commuting 62 = .ok (.iload 4, 2) := by decide +kernel
theorem dX12_commuting_64 : decode cX12_commuting 64 = .ok (.ireturn, 1) := by decide +kernel
theorem dX12_sides_0 : decode cX12_sides 0 = .ok (.iload_n 1, 1) := by decide +kernel
theorem dX12_sides_1 : decode cX12_sides 1 = .ok (.invokestatic 165, 3) := by decide +kernel
theorem dX12_sides_4 : decode cX12_sides 4 = .ok (.ifCond .eq 10, 3) := by decide +kernel
theorem dX12_sides_7 : decode cX12_sides 7 = .ok (.iload_n 2, 1) := by decide +kernel
theorem dX12_sides_8 : decode cX12_sides 8 = .ok (.invokestatic 165, 3) := by decide +kernel
theorem dX12_sides_11 : decode cX12_sides 11 = .ok (.ifCond .ne 5, 3) := by decide +kernel
theorem dX12_sides_14 : decode cX12_sides 14 = .ok (.iconst (-1), 1) := by decide +kernel
theorem dX12_sides_15 : decode cX12_sides 15 = .ok (.ireturn, 1) := by decide +kernel
theorem dX12_sides_16 : decode cX12_sides 16 = .ok (.aload_n 0, 1) := by decide +kernel
theorem dX12_sides_17 : decode cX12_sides 17 = .ok (.iconst 1, 1) := by decide +kernel
theorem dX12_sides_18 : decode cX12_sides 18 = .ok (.invokevirtual 158, 3) := by decide +kernel
theorem dX12_sides_21 : decode cX12_sides 21 = .ok (.istore 4, 2) := by decide +kernel
theorem dX12_sides_23 : decode cX12_sides 23 = .ok (.iconst 0, 1) := by decide +kernel
theorem dX12_sides_24 : decode cX12_sides 24 = .ok (.istore 5, 2) := by decide +kernel
theorem dX12_sides_26 : decode cX12_sides 26 = .ok (.iconst 0, 1) := by decide +kernel
theorem dX12_sides_27 : decode cX12_sides 27 = .ok (.istore 6, 2) := by decide +kernel
theorem dX12_sides_29 : decode cX12_sides 29 = .ok (.iload 6, 2) := by decide +kernel
theorem dX12_sides_31 : decode cX12_sides 31 = .ok (.iload 4, 2) := by decide +kernel
theorem dX12_sides_33 : decode cX12_sides 33 = .ok (.if_icmp .ge 63, 3) := by decide +kernel
theorem dX12_sides_36 : decode cX12_sides 36 = .ok (.aload_n 0, 1) := by decide +kernel
theorem dX12_sides_37 : decode cX12_sides 37 = .ok (.bipush 9, 2) := by decide +kernel
theorem dX12_sides_39 : decode cX12_sides 39 = .ok (.iconst 1, 1) := by decide +kernel
theorem dX12_sides_40 : decode cX12_sides 40 = .ok (.iload 6, 2) := by decide +kernel
theorem dX12_sides_42 : decode cX12_sides 42 = .ok (.invokevirtual 178, 3) := by decide +kernel
theorem dX12_sides_45 : decode cX12_sides 45 = .ok (.iload_n 3, 1) := by decide +kernel
theorem dX12_sides_46 : decode cX12_sides 46 = .ok (.ifCond .eq 15, 3) := by decide +kernel
theorem dX12_sides_49 : decode cX12_sides 49 = .ok (.aload_n 0, 1) := by decide +kernel
theorem dX12_sides_50 : decode cX12_sides 50 = .ok (.bipush 10, 2) := by decide +kernel
theorem dX12_sides_52 : decode cX12_sides 52 = .ok (.iload_n 1, 1) := by decide +kernel
theorem dX12_sides_53 : decode cX12_sides 53 = .ok (.bipush 9, 2) := by decide +kernel
theorem dX12_sides_55 : decode cX12_sides 55 = .ok (.invokevirtual 197, 3) := by decide +kernel
theorem dX12_sides_58 : decode cX12_sides 58 = .ok (.goto 12, 3) := by decide +kernel
theorem dX12_sides_61 : decode cX12_sides 61 = .ok (.aload_n 0, 1) := by decide +kernel
theorem dX12_sides_62 : decode cX12_sides 62 = .ok (.bipush 10, 2) := by decide +kernel
theorem dX12_sides_64 : decode cX12_sides 64 = .ok (.bipush 9, 2) := by decide +kernel
theorem dX12_sides_66 : decode cX12_sides 66 = .ok (.iload_n 1, 1) := by decide +kernel
theorem dX12_sides_67 : decode cX12_sides 67 = .ok (.invokevirtual 197, 3) := by decide +kernel
theorem dX12_sides_70 : decode cX12_sides 70 = .ok (.istore 7, 2) := by decide +kernel
theorem dX12_sides_72 : decode cX12_sides 72 = .ok (.iload 7, 2) := by decide +kernel
theorem dX12_sides_74 : decode cX12_sides 74 = .ok (.ifCond .eq 16, 3) := by decide +kernel
theorem dX12_sides_77 : decode cX12_sides 77 = .ok (.aload_n 0, 1) := by decide +kernel
theorem dX12_sides_78 : decode cX12_sides 78 = .ok (.bipush 10, 2) := by decide +kernel
theorem dX12_sides_80 : decode cX12_sides 80 = .ok (.iload_n 2, 1) := by decide +kernel
theorem dX12_sides_81 : decode cX12_sides 81 = .ok (.invokevirtual 280, 3) := by decide +kernel
theorem dX12_sides_84 : decode cX12_sides 84 = .ok (.ifCond .eq 6, 3) := by decide +kernel
theorem dX12_sides_87 : decode cX12_sides 87 = .ok (.iinc 5 1, 3) := by decide +kernel
theorem dX12_sides_90 : decode cX12_sides 90 = .ok (.iinc 6 1, 3) := by decide +kernel
theorem dX12_sides_93 : decode cX12_sides 93 = .ok (.goto (-64), 3) := by decide +kernel
theorem dX12_sides_96 : decode cX12_sides 96 = .ok (.iload 5, 2) := by decide +kernel
theorem dX12_sides_98 : decode cX12_sides 98 = .ok (.ireturn, 1) := by decide +kernel
theorem dX12_cycleOf_0 : decode cX12_cycleOf 0 = .ok (.aload_n 0, 1) := by decide +kernel
theorem dX12_cycleOf_1 : decode cX12_cycleOf 1 = .ok (.bipush 10, 2) := by decide +kernel
theorem dX12_cycleOf_3 : decode cX12_cycleOf 3 = .ok (.iload_n 1, 1) := by decide +kernel
theorem dX12_cycleOf_4 : decode cX12_cycleOf 4 = .ok (.invokevirtual 182, 3) := by decide +kernel
theorem dX12_cycleOf_7 : decode cX12_cycleOf 7 = .ok (.iconst 1, 1) := by decide +kernel
theorem dX12_cycleOf_8 : decode cX12_cycleOf 8 = .ok (.istore_n 2, 1) := by decide +kernel
theorem dX12_cycleOf_9 : decode cX12_cycleOf 9 = .ok (.iload_n 2, 1) := by decide +kernel
theorem dX12_cycleOf_10 : decode cX12_cycleOf 10 = .ok (.bipush 60, 2) := by decide +kernel
theorem dX12_cycleOf_12 : decode cX12_cycleOf 12 = .ok (.if_icmp .gt 37, 3) := by decide +kernel
theorem dX12_cycleOf_15 : decode cX12_cycleOf 15 = .ok (.aload_n 0, 1) := by decide +kernel
theorem dX12_cycleOf_16 : decode cX12_cycleOf 16 = .ok (.bipush 10, 2) := by decide +kernel
theorem dX12_cycleOf_18 : decode cX12_cycleOf 18 = .ok (.bipush 8, 2) := by decide +kernel
theorem dX12_cycleOf_20 : decode cX12_cycleOf 20 = .ok (.invokevirtual 280, 3) := by decide +kernel
theorem dX12_cycleOf_23 : decode cX12_cycleOf 23 = .ok (.ifCond .eq 5, 3) := by decide +kernel
theorem dX12_cycleOf_26 : decode cX12_cycleOf 26 = .ok (.iload_n 2, 1) := by decide +kernel
theorem dX12_cycleOf_27 : decode cX12_cycleOf 27 = .ok (.ireturn, 1) := by decide +kernel
theorem dX12_cycleOf_28 : decode cX12_cycleOf 28 = .ok (.aload_n 0, 1) := by decide +kernel
theorem dX12_cycleOf_29 : decode cX12_cycleOf 29 = .ok (.bipush 10, 2) := by decide +kernel
theorem dX12_cycleOf_31 : decode cX12_cycleOf 31 = .ok (.bipush 10, 2) := by decide +kernel
theorem dX12_cycleOf_33 : decode cX12_cycleOf 33 = .ok (.iload_n 1, 1) := by decide +kernel
theorem dX12_cycleOf_34 : decode cX12_cycleOf 34 = .ok (.invokevirtual 197, 3) := by decide +kernel
theorem dX12_cycleOf_37 : decode cX12_cycleOf 37 = .ok (.ifCond .ne 6, 3) := by decide +kernel
theorem dX12_cycleOf_40 : decode cX12_cycleOf 40 = .ok (.bipush (-2), 2) := by decide +kernel
theorem dX12_cycleOf_42 : decode cX12_cycleOf 42 = .ok (.ireturn, 1) := by decide +kernel
theorem dX12_cycleOf_43 : decode cX12_cycleOf 43 = .ok (.iinc 2 1, 3) := by decide +kernel
theorem dX12_cycleOf_46 : decode cX12_cycleOf 46 = .ok (.goto (-37), 3) := by decide +kernel
theorem dX12_cycleOf_49 : decode cX12_cycleOf 49 = .ok (.bipush (-2), 2) := by decide +kernel
theorem dX12_cycleOf_51 : decode cX12_cycleOf 51 = .ok (.ireturn, 1) := by decide +kernel
theorem dX12_cycle_0 : decode cX12_cycle 0 = .ok (.iload_n 1, 1) := by decide +kernel
theorem dX12_cycle_1 : decode cX12_cycle 1 = .ok (.invokestatic 165, 3) := by decide +kernel
theorem dX12_cycle_4 : decode cX12_cycle 4 = .ok (.ifCond .eq 11, 3) := by decide +kernel
theorem dX12_cycle_7 : decode cX12_cycle 7 = .ok (.aload_n 0, 1) := by decide +kernel
theorem dX12_cycle_8 : decode cX12_cycle 8 = .ok (.iload_n 1, 1) := by decide +kernel
theorem dX12_cycle_9 : decode cX12_cycle 9 = .ok (.invokevirtual 361, 3) := by decide +kernel
theorem dX12_cycle_12 : decode cX12_cycle 12 = .ok (.goto 4, 3) := by decide +kernel
theorem dX12_cycle_15 : decode cX12_cycle 15 = .ok (.iconst (-1), 1) := by decide +kernel
theorem dX12_cycle_16 : decode cX12_cycle 16 = .ok (.ireturn, 1) := by decide +kernel
theorem dX12_cycles_0 : decode cX12_cycles 0 = .ok (.iload_n 1, 1) := by decide +kernel
theorem dX12_cycles_1 : decode cX12_cycles 1 = .ok (.i2l, 1) := by decide +kernel
theorem dX12_cycles_2 : decode cX12_cycles 2 = .ok (.lconst 1, 1) := by decide +kernel
theorem dX12_cycles_3 : decode cX12_cycles 3 = .ok (.ldc2_w 226, 3) := by decide +kernel
theorem dX12_cycles_6 : decode cX12_cycles 6 = .ok (.invokestatic 95, 3) := by decide +kernel
theorem dX12_cycles_9 : decode cX12_cycles 9 = .ok (.ifCond .ne 5, 3) := by decide +kernel
theorem dX12_cycles_12 : decode cX12_cycles 12 = .ok (.iconst (-1), 1) := by decide +kernel
theorem dX12_cycles_13 : decode cX12_cycles 13 = .ok (.ireturn, 1) := by decide +kernel
theorem dX12_cycles_14 : decode cX12_cycles 14 = .ok (.aload_n 0, 1) := by decide +kernel
theorem dX12_cycles_15 : decode cX12_cycles 15 = .ok (.iconst 1, 1) := by decide +kernel
theorem dX12_cycles_16 : decode cX12_cycles 16 = .ok (.invokevirtual 158, 3) := by decide +kernel
theorem dX12_cycles_19 : decode cX12_cycles 19 = .ok (.istore_n 2, 1) := by decide +kernel
theorem dX12_cycles_20 : decode cX12_cycles 20 = .ok (.iconst 0, 1) := by decide +kernel
theorem dX12_cycles_21 : decode cX12_cycles 21 = .ok (.istore_n 3, 1) := by decide +kernel
theorem dX12_cycles_22 : decode cX12_cycles 22 = .ok (.iconst 0, 1) := by decide +kernel
theorem dX12_cycles_23 : decode cX12_cycles 23 = .ok (.istore 4, 2) := by decide +kernel
theorem dX12_cycles_25 : decode cX12_cycles 25 = .ok (.iload 4, 2) := by decide +kernel
theorem dX12_cycles_27 : decode cX12_cycles 27 = .ok (.iload_n 2, 1) := by decide +kernel
theorem dX12_cycles_28 : decode cX12_cycles 28 = .ok (.if_icmp .ge 31, 3) := by decide +kernel
theorem dX12_cycles_31 : decode cX12_cycles 31 = .ok (.aload_n 0, 1) := by decide +kernel
theorem dX12_cycles_32 : decode cX12_cycles 32 = .ok (.bipush 9, 2) := by decide +kernel
theorem dX12_cycles_34 : decode cX12_cycles 34 = .ok (.iconst 1, 1) := by decide +kernel
theorem dX12_cycles_35 : decode cX12_cycles 35 = .ok (.iload 4, 2) := by decide +kernel
theorem dX12_cycles_37 : decode cX12_cycles 37 = .ok (.invokevirtual 178, 3) := by decide +kernel
theorem dX12_cycles_40 : decode cX12_cycles 40 = .ok (.aload_n 0, 1) := by decide +kernel
theorem dX12_cycles_41 : decode cX12_cycles 41 = .ok (.bipush 9, 2) := by decide +kernel
theorem dX12_cycles_43 : decode cX12_cycles 43 = .ok (.invokevirtual 361, 3) := by decide +kernel
theorem dX12_cycles_46 : decode cX12_cycles 46 = .ok (.iload_n 1, 1) := by decide +kernel
theorem dX12_cycles_47 : decode cX12_cycles 47 = .ok (.if_icmp .ne 6, 3) := by decide +kernel
theorem dX12_cycles_50 : decode cX12_cycles 50 = .ok (.iinc 3 1, 3) := by decide +kernel
theorem dX12_cycles_53 : decode cX12_cycles 53 = .ok (.iinc 4 1, 3) := by decide +kernel
theorem dX12_cycles_56 : decode cX12_cycles 56 = .ok (.goto (-31), 3) := by decide +kernel
theorem dX12_cycles_59 : decode cX12_cycles 59 = .ok (.iload_n 3, 1) := by decide +kernel
theorem dX12_cycles_60 : decode cX12_cycles 60 = .ok (.ireturn, 1) := by decide +kernel
theorem dX12_laysTable_0 : decode cX12_laysTable 0 = .ok (.aload_n 0, 1) := by decide +kernel
theorem dX12_laysTable_1 : decode cX12_laysTable 1 = .ok (.getfield 81, 3) := by decide +kernel
theorem dX12_laysTable_4 : decode cX12_laysTable 4 = .ok (.aload_n 0, 1) := by decide +kernel
theorem dX12_laysTable_5 : decode cX12_laysTable 5 = .ok (.getfield 24, 3) := by decide +kernel
theorem dX12_laysTable_8 : decode cX12_laysTable 8 = .ok (.if_icmp .ne 4, 3) := by decide +kernel
theorem dX12_laysTable_11 : decode cX12_laysTable 11 = .ok (.return_, 1) := by decide +kernel
theorem dX12_laysTable_12 : decode cX12_laysTable 12 = .ok (.aload_n 0, 1) := by decide +kernel
theorem dX12_laysTable_13 : decode cX12_laysTable 13 = .ok (.aload_n 0, 1) := by decide +kernel
theorem dX12_laysTable_14 : decode cX12_laysTable 14 = .ok (.getfield 24, 3) := by decide +kernel
theorem dX12_laysTable_17 : decode cX12_laysTable 17 = .ok (.putfield 81, 3) := by decide +kernel
theorem dX12_laysTable_20 : decode cX12_laysTable 20 = .ok (.aload_n 0, 1) := by decide +kernel
theorem dX12_laysTable_21 : decode cX12_laysTable 21 = .ok (.iconst 1, 1) := by decide +kernel
theorem dX12_laysTable_22 : decode cX12_laysTable 22 = .ok (.invokevirtual 158, 3) := by decide +kernel
theorem dX12_laysTable_25 : decode cX12_laysTable 25 = .ok (.istore_n 1, 1) := by decide +kernel
theorem dX12_laysTable_26 : decode cX12_laysTable 26 = .ok (.iconst 0, 1) := by decide +kernel
theorem dX12_laysTable_27 : decode cX12_laysTable 27 = .ok (.istore_n 2, 1) := by decide +kernel
theorem dX12_laysTable_28 : decode cX12_laysTable 28 = .ok (.iload_n 2, 1) := by decide +kernel
theorem dX12_laysTable_29 : decode cX12_laysTable 29 = .ok (.iload_n 1, 1) := by decide +kernel
theorem dX12_laysTable_30 : decode cX12_laysTable 30 = .ok (.if_icmp .ge 73, 3) := by decide +kernel
theorem dX12_laysTable_33 : decode cX12_laysTable 33 = .ok (.iconst 0, 1) := by decide +kernel
theorem dX12_laysTable_34 : decode cX12_laysTable 34 = .ok (.istore_n 3, 1) := by decide +kernel
theorem dX12_laysTable_35 : decode cX12_laysTable 35 = .ok (.iload_n 3, 1) := by decide +kernel
theorem dX12_laysTable_36 : decode cX12_laysTable 36 = .ok (.iload_n 1, 1) := by decide +kernel
theorem dX12_laysTable_37 : decode cX12_laysTable 37 = .ok (.if_icmp .ge 60, 3) := by decide +kernel
theorem dX12_laysTable_40 : decode cX12_laysTable 40 = .ok (.aload_n 0, 1) := by decide +kernel
theorem dX12_laysTable_41 : decode cX12_laysTable 41 = .ok (.bipush 9, 2) := by decide +kernel
theorem dX12_laysTable_43 : decode cX12_laysTable 43 = .ok (.iconst 1, 1) := by decide +kernel
theorem dX12_laysTable_44 : decode cX12_laysTable 44 = .ok (.iload_n 2, 1) := by decide +kernel
theorem dX12_laysTable_45 : decode cX12_laysTable 45 = .ok (.invokevirtual 178, 3) := by decide +kernel
theorem dX12_laysTable_48 : decode cX12_laysTable 48 = .ok (.aload_n 0, 1) := by decide +kernel
theorem dX12_laysTable_49 : decode cX12_laysTable 49 = .ok (.bipush 10, 2) := by decide +kernel
theorem dX12_laysTable_51 : decode cX12_laysTable 51 = .ok (.iconst 1, 1) := by decide +kernel
theorem dX12_laysTable_52 : decode cX12_laysTable 52 = .ok (.iload_n 3, 1) := by decide +kernel
theorem dX12_laysTable_53 : decode cX12_laysTable 53 = .ok (.invokevirtual 178, 3) := by decide +kernel
theorem dX12_laysTable_56 : decode cX12_laysTable 56 = .ok (.aload_n 0, 1) := by decide +kernel
theorem dX12_laysTable_57 : decode cX12_laysTable 57 = .ok (.getfield 78, 3) := by decide +kernel
theorem dX12_laysTable_60 : decode cX12_laysTable 60 = .ok (.sipush 240, 3) := by decide +kernel
theorem dX12_laysTable_63 : decode cX12_laysTable 63 = .ok (.iload_n 2, 1) := by decide +kernel
theorem dX12_laysTable_64 : decode cX12_laysTable 64 = .ok (.imul, 1) := by decide +kernel
theorem dX12_laysTable_65 : decode cX12_laysTable 65 = .ok (.iload_n 3, 1) := by decide +kernel
theorem dX12_laysTable_66 : decode cX12_laysTable 66 = .ok (.iadd, 1) := by decide +kernel
theorem dX12_laysTable_67 : decode cX12_laysTable 67 = .ok (.aload_n 0, 1) := by decide +kernel
theorem dX12_laysTable_68 : decode cX12_laysTable 68 = .ok (.bipush 11, 2) := by decide +kernel
theorem dX12_laysTable_70 : decode cX12_laysTable 70 = .ok (.bipush 9, 2) := by decide +kernel
theorem dX12_laysTable_72 : decode cX12_laysTable 72 = .ok (.bipush 10, 2) := by decide +kernel
theorem dX12_laysTable_74 : decode cX12_laysTable 74 = .ok (.invokevirtual 197, 3) := by decide +kernel
theorem dX12_laysTable_77 : decode cX12_laysTable 77 = .ok (.ifCond .eq 12, 3) := by decide +kernel
theorem dX12_laysTable_80 : decode cX12_laysTable 80 = .ok (.aload_n 0, 1) := by decide +kernel
theorem dX12_laysTable_81 : decode cX12_laysTable 81 = .ok (.bipush 11, 2) := by decide +kernel
theorem dX12_laysTable_83 : decode cX12_laysTable 83 = .ok (.invokevirtual 337, 3) := by decide +kernel
theorem dX12_laysTable_86 : decode cX12_laysTable 86 = .ok (.goto 4, 3) := by decide +kernel
theorem dX12_laysTable_89 : decode cX12_laysTable 89 = .ok (.iconst (-1), 1) := by decide +kernel
theorem dX12_laysTable_90 : decode cX12_laysTable 90 = .ok (.iastore, 1) := by decide +kernel
theorem dX12_laysTable_91 : decode cX12_laysTable 91 = .ok (.iinc 3 1, 3) := by decide +kernel
theorem dX12_laysTable_94 : decode cX12_laysTable 94 = .ok (.goto (-59), 3) := by decide +kernel
theorem dX12_laysTable_97 : decode cX12_laysTable 97 = .ok (.iinc 2 1, 3) := by decide +kernel
theorem dX12_laysTable_100 : decode cX12_laysTable 100 = .ok (.goto (-72), 3) := by decide +kernel
theorem dX12_laysTable_103 : decode cX12_laysTable 103 = .ok (.return_, 1) := by decide +kernel
theorem dX12_table_0 : decode cX12_table 0 = .ok (.aload_n 0, 1) := by decide +kernel
theorem dX12_table_1 : decode cX12_table 1 = .ok (.iconst 1, 1) := by decide +kernel
theorem dX12_table_2 : decode cX12_table 2 = .ok (.invokevirtual 158, 3) := by decide +kernel
theorem dX12_table_5 : decode cX12_table 5 = .ok (.istore_n 3, 1) := by decide +kernel
theorem dX12_table_6 : decode cX12_table 6 = .ok (.iload_n 1, 1) := by decide +kernel
theorem dX12_table_7 : decode cX12_table 7 = .ok (.i2l, 1) := by decide +kernel
theorem dX12_table_8 : decode cX12_table 8 = .ok (.lconst 0, 1) := by decide +kernel
theorem dX12_table_9 : decode cX12_table 9 = .ok (.iload_n 3, 1) := by decide +kernel
theorem dX12_table_10 : decode cX12_table 10 = .ok (.iconst 1, 1) := by decide +kernel
theorem dX12_table_11 : decode cX12_table 11 = .ok (.isub, 1) := by decide +kernel
theorem dX12_table_12 : decode cX12_table 12 = .ok (.i2l, 1) := by decide +kernel
theorem dX12_table_13 : decode cX12_table 13 = .ok (.invokestatic 95, 3) := by decide +kernel
theorem dX12_table_16 : decode cX12_table 16 = .ok (.ifCond .eq 16, 3) := by decide +kernel
theorem dX12_table_19 : decode cX12_table 19 = .ok (.iload_n 2, 1) := by decide +kernel
theorem dX12_table_20 : decode cX12_table 20 = .ok (.i2l, 1) := by decide +kernel
theorem dX12_table_21 : decode cX12_table 21 = .ok (.lconst 0, 1) := by decide +kernel
theorem dX12_table_22 : decode cX12_table 22 = .ok (.iload_n 3, 1) := by decide +kernel
theorem dX12_table_23 : decode cX12_table 23 = .ok (.iconst 1, 1) := by decide +kernel
theorem dX12_table_24 : decode cX12_table 24 = .ok (.isub, 1) := by decide +kernel
theorem dX12_table_25 : decode cX12_table 25 = .ok (.i2l, 1) := by decide +kernel
theorem dX12_table_26 : decode cX12_table 26 = .ok (.invokestatic 95, 3) := by decide +kernel
theorem dX12_table_29 : decode cX12_table 29 = .ok (.ifCond .ne 5, 3) := by decide +kernel
theorem dX12_table_32 : decode cX12_table 32 = .ok (.iconst (-1), 1) := by decide +kernel
theorem dX12_table_33 : decode cX12_table 33 = .ok (.ireturn, 1) := by decide +kernel
theorem dX12_table_34 : decode cX12_table 34 = .ok (.aload_n 0, 1) := by decide +kernel
theorem dX12_table_35 : decode cX12_table 35 = .ok (.invokevirtual 364, 3) := by decide +kernel
theorem dX12_table_38 : decode cX12_table 38 = .ok (.aload_n 0, 1) := by decide +kernel
theorem dX12_table_39 : decode cX12_table 39 = .ok (.getfield 78, 3) := by decide +kernel
theorem dX12_table_42 : decode cX12_table 42 = .ok (.sipush 240, 3) := by decide +kernel
theorem dX12_table_45 : decode cX12_table 45 = .ok (.iload_n 1, 1) := by decide +kernel
theorem dX12_table_46 : decode cX12_table 46 = .ok (.imul, 1) := by decide +kernel
theorem dX12_table_47 : decode cX12_table 47 = .ok (.iload_n 2, 1) := by decide +kernel
theorem dX12_table_48 : decode cX12_table 48 = .ok (.iadd, 1) := by decide +kernel
theorem dX12_table_49 : decode cX12_table 49 = .ok (.iaload, 1) := by decide +kernel
theorem dX12_table_50 : decode cX12_table 50 = .ok (.ireturn, 1) := by decide +kernel
theorem dX12_adds__0 : decode cX12_adds_ 0 = .ok (.aload_n 0, 1) := by decide +kernel
theorem dX12_adds__1 : decode cX12_adds_ 1 = .ok (.getfield 84, 3) := by decide +kernel
theorem dX12_adds__4 : decode cX12_adds_ 4 = .ok (.iload_n 1, 1) := by decide +kernel
theorem dX12_adds__5 : decode cX12_adds_ 5 = .ok (.baload, 1) := by decide +kernel
theorem dX12_adds__6 : decode cX12_adds_ 6 = .ok (.ifCond .eq 4, 3) := by decide +kernel
theorem dX12_adds__9 : decode cX12_adds_ 9 = .ok (.return_, 1) := by decide +kernel
theorem dX12_adds__10 : decode cX12_adds_ 10 = .ok (.aload_n 0, 1) := by decide +kernel
theorem dX12_adds__11 : decode cX12_adds_ 11 = .ok (.getfield 84, 3) := by decide +kernel
theorem dX12_adds__14 : decode cX12_adds_ 14 = .ok (.iload_n 1, 1) := by decide +kernel
theorem dX12_adds__15 : decode cX12_adds_ 15 = .ok (.iconst 1, 1) := by decide +kernel
theorem dX12_adds__16 : decode cX12_adds_ 16 = .ok (.bastore, 1) := by decide +kernel
theorem dX12_adds__17 : decode cX12_adds_ 17 = .ok (.aload_n 0, 1) := by decide +kernel
theorem dX12_adds__18 : decode cX12_adds_ 18 = .ok (.getfield 87, 3) := by decide +kernel
theorem dX12_adds__21 : decode cX12_adds_ 21 = .ok (.aload_n 0, 1) := by decide +kernel
theorem dX12_adds__22 : decode cX12_adds_ 22 = .ok (.getfield 367, 3) := by decide +kernel
theorem dX12_adds__25 : decode cX12_adds_ 25 = .ok (.iload_n 1, 1) := by decide +kernel
theorem dX12_adds__26 : decode cX12_adds_ 26 = .ok (.iastore, 1) := by decide +kernel
theorem dX12_adds__27 : decode cX12_adds_ 27 = .ok (.aload_n 0, 1) := by decide +kernel
theorem dX12_adds__28 : decode cX12_adds_ 28 = .ok (.dup, 1) := by decide +kernel
theorem dX12_adds__29 : decode cX12_adds_ 29 = .ok (.getfield 367, 3) := by decide +kernel
theorem dX12_adds__32 : decode cX12_adds_ 32 = .ok (.iconst 1, 1) := by decide +kernel
theorem dX12_adds__33 : decode cX12_adds_ 33 = .ok (.iadd, 1) := by decide +kernel
theorem dX12_adds__34 : decode cX12_adds_ 34 = .ok (.putfield 367, 3) := by decide +kernel
theorem dX12_adds__37 : decode cX12_adds_ 37 = .ok (.return_, 1) := by decide +kernel
theorem dX12_laysMade_0 : decode cX12_laysMade 0 = .ok (.aload_n 0, 1) := by decide +kernel
theorem dX12_laysMade_1 : decode cX12_laysMade 1 = .ok (.iconst 0, 1) := by decide +kernel
theorem dX12_laysMade_2 : decode cX12_laysMade 2 = .ok (.putfield 367, 3) := by decide +kernel
theorem dX12_laysMade_5 : decode cX12_laysMade 5 = .ok (.iconst 0, 1) := by decide +kernel
theorem dX12_laysMade_6 : decode cX12_laysMade 6 = .ok (.istore_n 2, 1) := by decide +kernel
theorem dX12_laysMade_7 : decode cX12_laysMade 7 = .ok (.iload_n 2, 1) := by decide +kernel
theorem dX12_laysMade_8 : decode cX12_laysMade 8 = .ok (.sipush 240, 3) := by decide +kernel
theorem dX12_laysMade_11 : decode cX12_laysMade 11 = .ok (.if_icmp .ge 16, 3) := by decide +kernel
theorem dX12_laysMade_14 : decode cX12_laysMade 14 = .ok (.aload_n 0, 1) := by decide +kernel
theorem dX12_laysMade_15 : decode cX12_laysMade 15 = .ok (.getfield 84, 3) := by decide +kernel
theorem dX12_laysMade_18 : decode cX12_laysMade 18 = .ok (.iload_n 2, 1) := by decide +kernel
theorem dX12_laysMade_19 : decode cX12_laysMade 19 = .ok (.iconst 0, 1) := by decide +kernel
theorem dX12_laysMade_20 : decode cX12_laysMade 20 = .ok (.bastore, 1) := by decide +kernel
theorem dX12_laysMade_21 : decode cX12_laysMade 21 = .ok (.iinc 2 1, 3) := by decide +kernel
theorem dX12_laysMade_24 : decode cX12_laysMade 24 = .ok (.goto (-17), 3) := by decide +kernel
theorem dX12_laysMade_27 : decode cX12_laysMade 27 = .ok (.iconst 0, 1) := by decide +kernel
theorem dX12_laysMade_28 : decode cX12_laysMade 28 = .ok (.istore_n 2, 1) := by decide +kernel
theorem dX12_laysMade_29 : decode cX12_laysMade 29 = .ok (.iload_n 2, 1) := by decide +kernel
theorem dX12_laysMade_30 : decode cX12_laysMade 30 = .ok (.bipush 8, 2) := by decide +kernel
theorem dX12_laysMade_32 : decode cX12_laysMade 32 = .ok (.if_icmp .ge 27, 3) := by decide +kernel
theorem dX12_laysMade_35 : decode cX12_laysMade 35 = .ok (.iload_n 1, 1) := by decide +kernel
theorem dX12_laysMade_36 : decode cX12_laysMade 36 = .ok (.iload_n 2, 1) := by decide +kernel
theorem dX12_laysMade_37 : decode cX12_laysMade 37 = .ok (.invokestatic 121, 3) := by decide +kernel
theorem dX12_laysMade_40 : decode cX12_laysMade 40 = .ok (.ifCond .eq 13, 3) := by decide +kernel
theorem dX12_laysMade_43 : decode cX12_laysMade 43 = .ok (.aload_n 0, 1) := by decide +kernel
theorem dX12_laysMade_44 : decode cX12_laysMade 44 = .ok (.iload_n 2, 1) := by decide +kernel
theorem dX12_laysMade_45 : decode cX12_laysMade 45 = .ok (.invokevirtual 370, 3) := by decide +kernel
theorem dX12_laysMade_48 : decode cX12_laysMade 48 = .ok (.ifCond .ne 5, 3) := by decide +kernel
theorem dX12_laysMade_51 : decode cX12_laysMade 51 = .ok (.iconst 0, 1) := by decide +kernel
theorem dX12_laysMade_52 : decode cX12_laysMade 52 = .ok (.ireturn, 1) := by decide +kernel
theorem dX12_laysMade_53 : decode cX12_laysMade 53 = .ok (.iinc 2 1, 3) := by decide +kernel
theorem dX12_laysMade_56 : decode cX12_laysMade 56 = .ok (.goto (-27), 3) := by decide +kernel
theorem dX12_laysMade_59 : decode cX12_laysMade 59 = .ok (.aload_n 0, 1) := by decide +kernel
theorem dX12_laysMade_60 : decode cX12_laysMade 60 = .ok (.invokevirtual 364, 3) := by decide +kernel
theorem dX12_laysMade_63 : decode cX12_laysMade 63 = .ok (.iconst 0, 1) := by decide +kernel
theorem dX12_laysMade_64 : decode cX12_laysMade 64 = .ok (.istore_n 2, 1) := by decide +kernel
theorem dX12_laysMade_65 : decode cX12_laysMade 65 = .ok (.iload_n 2, 1) := by decide +kernel
theorem dX12_laysMade_66 : decode cX12_laysMade 66 = .ok (.bipush 8, 2) := by decide +kernel
theorem dX12_laysMade_68 : decode cX12_laysMade 68 = .ok (.if_icmp .ge 26, 3) := by decide +kernel
theorem dX12_laysMade_71 : decode cX12_laysMade 71 = .ok (.iload_n 1, 1) := by decide +kernel
theorem dX12_laysMade_72 : decode cX12_laysMade 72 = .ok (.iload_n 2, 1) := by decide +kernel
theorem dX12_laysMade_73 : decode cX12_laysMade 73 = .ok (.invokestatic 121, 3) := by decide +kernel
theorem dX12_laysMade_76 : decode cX12_laysMade 76 = .ok (.ifCond .eq 12, 3) := by decide +kernel
theorem dX12_laysMade_79 : decode cX12_laysMade 79 = .ok (.aload_n 0, 1) := by decide +kernel
theorem dX12_laysMade_80 : decode cX12_laysMade 80 = .ok (.aload_n 0, 1) := by decide +kernel
theorem dX12_laysMade_81 : decode cX12_laysMade 81 = .ok (.iload_n 2, 1) := by decide +kernel
theorem dX12_laysMade_82 : decode cX12_laysMade 82 = .ok (.invokevirtual 337, 3) := by decide +kernel
theorem dX12_laysMade_85 : decode cX12_laysMade 85 = .ok (.invokevirtual 373, 3) := by decide +kernel
theorem dX12_laysMade_88 : decode cX12_laysMade 88 = .ok (.iinc 2 1, 3) := by decide +kernel
theorem dX12_laysMade_91 : decode cX12_laysMade 91 = .ok (.goto (-26), 3) := by decide +kernel
theorem dX12_laysMade_94 : decode cX12_laysMade 94 = .ok (.iconst 0, 1) := by decide +kernel
theorem dX12_laysMade_95 : decode cX12_laysMade 95 = .ok (.istore_n 2, 1) := by decide +kernel
theorem dX12_laysMade_96 : decode cX12_laysMade 96 = .ok (.iload_n 2, 1) := by decide +kernel
theorem dX12_laysMade_97 : decode cX12_laysMade 97 = .ok (.aload_n 0, 1) := by decide +kernel
theorem dX12_laysMade_98 : decode cX12_laysMade 98 = .ok (.getfield 367, 3) := by decide +kernel
theorem dX12_laysMade_101 : decode cX12_laysMade 101 = .ok (.if_icmp .ge 74, 3) := by decide +kernel
theorem dX12_laysMade_104 : decode cX12_laysMade 104 = .ok (.iconst 0, 1) := by decide +kernel
theorem dX12_laysMade_105 : decode cX12_laysMade 105 = .ok (.istore_n 3, 1) := by decide +kernel
theorem dX12_laysMade_106 : decode cX12_laysMade 106 = .ok (.iload_n 3, 1) := by decide +kernel
theorem dX12_laysMade_107 : decode cX12_laysMade 107 = .ok (.iload_n 2, 1) := by decide +kernel
theorem dX12_laysMade_108 : decode cX12_laysMade 108 = .ok (.if_icmp .gt 61, 3) := by decide +kernel
theorem dX12_laysMade_111 : decode cX12_laysMade 111 = .ok (.aload_n 0, 1) := by decide +kernel
theorem dX12_laysMade_112 : decode cX12_laysMade 112 = .ok (.aload_n 0, 1) := by decide +kernel
theorem dX12_laysMade_113 : decode cX12_laysMade 113 = .ok (.getfield 78, 3) := by decide +kernel
theorem dX12_laysMade_116 : decode cX12_laysMade 116 = .ok (.sipush 240, 3) := by decide +kernel
theorem dX12_laysMade_119 : decode cX12_laysMade 119 = .ok (.aload_n 0, 1) := by decide +kernel
theorem dX12_laysMade_120 : decode cX12_laysMade 120 = .ok (.getfield 87, 3) := by decide +kernel
theorem dX12_laysMade_123 : decode cX12_laysMade 123 = .ok (.iload_n 2, 1) := by decide +kernel
theorem dX12_laysMade_124 : decode cX12_laysMade 124 = .ok (.iaload, 1) := by decide +kernel
theorem dX12_laysMade_125 : decode cX12_laysMade 125 = .ok (.imul, 1) := by decide +kernel
theorem dX12_laysMade_126 : decode cX12_laysMade 126 = .ok (.aload_n 0, 1) := by decide +kernel
theorem dX12_laysMade_127 : decode cX12_laysMade 127 = .ok (.getfield 87, 3) := by decide +kernel
theorem dX12_laysMade_130 : decode cX12_laysMade 130 = .ok (.iload_n 3, 1) := by decide +kernel
theorem dX12_laysMade_131 : decode cX12_laysMade 131 = .ok (.iaload, 1) := by decide +kernel
theorem dX12_laysMade_132 : decode cX12_laysMade 132 = .ok (.iadd, 1) := by decide +kernel
theorem dX12_laysMade_133 : decode cX12_laysMade 133 = .ok (.iaload, 1) := by decide +kernel
theorem dX12_laysMade_134 : decode cX12_laysMade 134 = .ok (.invokevirtual 373, 3) := by decide +kernel
theorem dX12_laysMade_137 : decode cX12_laysMade 137 = .ok (.aload_n 0, 1) := by decide +kernel
theorem dX12_laysMade_138 : decode cX12_laysMade 138 = .ok (.aload_n 0, 1) := by decide +kernel
theorem dX12_laysMade_139 : decode cX12_laysMade 139 = .ok (.getfield 78, 3) := by decide +kernel
theorem dX12_laysMade_142 : decode cX12_laysMade 142 = .ok (.sipush 240, 3) := by decide +kernel
theorem dX12_laysMade_145 : decode cX12_laysMade 145 = .ok (.aload_n 0, 1) := by decide +kernel
theorem dX12_laysMade_146 : decode cX12_laysMade 146 = .ok (.getfield 87, 3) := by decide +kernel
theorem dX12_laysMade_149 : decode cX12_laysMade 149 = .ok (.iload_n 3, 1) := by decide +kernel
theorem dX12_laysMade_150 : decode cX12_laysMade 150 = .ok (.iaload, 1) := by decide +kernel
theorem dX12_laysMade_151 : decode cX12_laysMade 151 = .ok (.imul, 1) := by decide +kernel
theorem dX12_laysMade_152 : decode cX12_laysMade 152 = .ok (.aload_n 0, 1) := by decide +kernel
theorem dX12_laysMade_153 : decode cX12_laysMade 153 = .ok (.getfield 87, 3) := by decide +kernel
theorem dX12_laysMade_156 : decode cX12_laysMade 156 = .ok (.iload_n 2, 1) := by decide +kernel
theorem dX12_laysMade_157 : decode cX12_laysMade 157 = .ok (.iaload, 1) := by decide +kernel
theorem dX12_laysMade_158 : decode cX12_laysMade 158 = .ok (.iadd, 1) := by decide +kernel
theorem dX12_laysMade_159 : decode cX12_laysMade 159 = .ok (.iaload, 1) := by decide +kernel
theorem dX12_laysMade_160 : decode cX12_laysMade 160 = .ok (.invokevirtual 373, 3) := by decide +kernel
theorem dX12_laysMade_163 : decode cX12_laysMade 163 = .ok (.iinc 3 1, 3) := by decide +kernel
theorem dX12_laysMade_166 : decode cX12_laysMade 166 = .ok (.goto (-60), 3) := by decide +kernel
theorem dX12_laysMade_169 : decode cX12_laysMade 169 = .ok (.iinc 2 1, 3) := by decide +kernel
theorem dX12_laysMade_172 : decode cX12_laysMade 172 = .ok (.goto (-76), 3) := by decide +kernel
theorem dX12_laysMade_175 : decode cX12_laysMade 175 = .ok (.iconst 0, 1) := by decide +kernel
theorem dX12_laysMade_176 : decode cX12_laysMade 176 = .ok (.istore_n 2, 1) := by decide +kernel
theorem dX12_laysMade_177 : decode cX12_laysMade 177 = .ok (.iconst 0, 1) := by decide +kernel
theorem dX12_laysMade_178 : decode cX12_laysMade 178 = .ok (.istore_n 3, 1) := by decide +kernel
theorem dX12_laysMade_179 : decode cX12_laysMade 179 = .ok (.iload_n 3, 1) := by decide +kernel
theorem dX12_laysMade_180 : decode cX12_laysMade 180 = .ok (.sipush 240, 3) := by decide +kernel
theorem dX12_laysMade_183 : decode cX12_laysMade 183 = .ok (.if_icmp .ge 31, 3) := by decide +kernel
theorem dX12_laysMade_186 : decode cX12_laysMade 186 = .ok (.aload_n 0, 1) := by decide +kernel
theorem dX12_laysMade_187 : decode cX12_laysMade 187 = .ok (.getfield 84, 3) := by decide +kernel
theorem dX12_laysMade_190 : decode cX12_laysMade 190 = .ok (.iload_n 3, 1) := by decide +kernel
theorem dX12_laysMade_191 : decode cX12_laysMade 191 = .ok (.baload, 1) := by decide +kernel
theorem dX12_laysMade_192 : decode cX12_laysMade 192 = .ok (.ifCond .ne 6, 3) := by decide +kernel
theorem dX12_laysMade_195 : decode cX12_laysMade 195 = .ok (.goto 13, 3) := by decide +kernel
theorem dX12_laysMade_198 : decode cX12_laysMade 198 = .ok (.aload_n 0, 1) := by decide +kernel
theorem dX12_laysMade_199 : decode cX12_laysMade 199 = .ok (.getfield 87, 3) := by decide +kernel
theorem dX12_laysMade_202 : decode cX12_laysMade 202 = .ok (.iload_n 2, 1) := by decide +kernel
theorem dX12_laysMade_203 : decode cX12_laysMade 203 = .ok (.iload_n 3, 1) := by decide +kernel
theorem dX12_laysMade_204 : decode cX12_laysMade 204 = .ok (.iastore, 1) := by decide +kernel
theorem dX12_laysMade_205 : decode cX12_laysMade 205 = .ok (.iinc 2 1, 3) := by decide +kernel
theorem dX12_laysMade_208 : decode cX12_laysMade 208 = .ok (.iinc 3 1, 3) := by decide +kernel
theorem dX12_laysMade_211 : decode cX12_laysMade 211 = .ok (.goto (-32), 3) := by decide +kernel
theorem dX12_laysMade_214 : decode cX12_laysMade 214 = .ok (.iconst 1, 1) := by decide +kernel
theorem dX12_laysMade_215 : decode cX12_laysMade 215 = .ok (.ireturn, 1) := by decide +kernel
theorem dX12_madeProduct_0 : decode cX12_madeProduct 0 = .ok (.aload_n 0, 1) := by decide +kernel
theorem dX12_madeProduct_1 : decode cX12_madeProduct 1 = .ok (.getfield 78, 3) := by decide +kernel
theorem dX12_madeProduct_4 : decode cX12_madeProduct 4 = .ok (.sipush 240, 3) := by decide +kernel
theorem dX12_madeProduct_7 : decode cX12_madeProduct 7 = .ok (.iload_n 1, 1) := by decide +kernel
theorem dX12_madeProduct_8 : decode cX12_madeProduct 8 = .ok (.imul, 1) := by decide +kernel
theorem dX12_madeProduct_9 : decode cX12_madeProduct 9 = .ok (.iload_n 2, 1) := by decide +kernel
theorem dX12_madeProduct_10 : decode cX12_madeProduct 10 = .ok (.iadd, 1) := by decide +kernel
theorem dX12_madeProduct_11 : decode cX12_madeProduct 11 = .ok (.iaload, 1) := by decide +kernel
theorem dX12_madeProduct_12 : decode cX12_madeProduct 12 = .ok (.ireturn, 1) := by decide +kernel
theorem dX12_areAssociative_0 : decode cX12_areAssociative 0 = .ok (.iconst 0, 1) := by decide +kernel
theorem dX12_areAssociative_1 : decode cX12_areAssociative 1 = .ok (.istore_n 1, 1) := by decide +kernel
theorem dX12_areAssociative_2 : decode cX12_areAssociative 2 = .ok (.iload_n 1, 1) := by decide +kernel
theorem dX12_areAssociative_3 : decode cX12_areAssociative 3 = .ok (.aload_n 0, 1) := by decide +kernel
theorem dX12_areAssociative_4 : decode cX12_areAssociative 4 = .ok (.getfield 367, 3) := by decide +kernel
theorem dX12_areAssociative_7 : decode cX12_areAssociative 7 = .ok (.if_icmp .ge 104, 3) := by decide +kernel
theorem dX12_areAssociative_10 : decode cX12_areAssociative 10 = .ok (.iconst 0, 1) := by decide +kernel
theorem dX12_areAssociative_11 : decode cX12_areAssociative 11 = .ok (.istore_n 2, 1) := by decide +kernel
theorem dX12_areAssociative_12 : decode cX12_areAssociative 12 = .ok (.iload_n 2, 1) := by decide +kernel
theorem dX12_areAssociative_13 : decode cX12_areAssociative 13 = .ok (.aload_n 0, 1) := by decide +kernel
theorem dX12_areAssociative_14 : decode cX12_areAssociative 14 = .ok (.getfield 367, 3) := by decide +kernel
theorem dX12_areAssociative_17 : decode cX12_areAssociative 17 = .ok (.if_icmp .ge 88, 3) := by decide +kernel
theorem dX12_areAssociative_20 : decode cX12_areAssociative 20 = .ok (.aload_n 0, 1) := by decide +kernel
theorem dX12_areAssociative_21 : decode cX12_areAssociative 21 = .ok (.aload_n 0, 1) := by decide +kernel
theorem dX12_areAssociative_22 : decode cX12_areAssociative 22 = .ok (.getfield 87, 3) := by decide +kernel
theorem dX12_areAssociative_25 : decode cX12_areAssociative 25 = .ok (.iload_n 1, 1) := by decide +kernel
theorem dX12_areAssociative_26 : decode cX12_areAssociative 26 = .ok (.iaload, 1) := by decide +kernel
theorem dX12_areAssociative_27 : decode cX12_areAssociative 27 = .ok (.aload_n 0, 1) := by decide +kernel
theorem dX12_areAssociative_28 : decode cX12_areAssociative 28 = .ok (.getfield 87, 3) := by decide +kernel
theorem dX12_areAssociative_31 : decode cX12_areAssociative 31 = .ok (.iload_n 2, 1) := by decide +kernel
theorem dX12_areAssociative_32 : decode cX12_areAssociative 32 = .ok (.iaload, 1) := by decide +kernel
theorem dX12_areAssociative_33 : decode cX12_areAssociative 33 = .ok (.invokevirtual 375, 3) := by decide +kernel
theorem dX12_areAssociative_36 : decode cX12_areAssociative 36 = .ok (.istore_n 3, 1) := by decide +kernel
theorem dX12_areAssociative_37 : decode cX12_areAssociative 37 = .ok (.iconst 0, 1) := by decide +kernel
theorem dX12_areAssociative_38 : decode cX12_areAssociative 38 = .ok (.istore 4, 2) := by decide +kernel
theorem dX12_areAssociative_40 : decode cX12_areAssociative 40 = .ok (.iload 4, 2) := by decide +kernel
theorem dX12_areAssociative_42 : decode cX12_areAssociative 42 = .ok (.aload_n 0, 1) := by decide +kernel
theorem dX12_areAssociative_43 : decode cX12_areAssociative 43 = .ok (.getfield 367, 3) := by decide +kernel
theorem dX12_areAssociative_46 : decode cX12_areAssociative 46 = .ok (.if_icmp .ge 53, 3) := by decide +kernel
theorem dX12_areAssociative_49 : decode cX12_areAssociative 49 = .ok (.aload_n 0, 1) := by decide +kernel
theorem dX12_areAssociative_50 : decode cX12_areAssociative 50 = .ok (.iload_n 3, 1) := by decide +kernel
theorem dX12_areAssociative_51 : decode cX12_areAssociative 51 = .ok (.aload_n 0, 1) := by decide +kernel
theorem dX12_areAssociative_52 : decode cX12_areAssociative 52 = .ok (.getfield 87, 3) := by decide +kernel
theorem dX12_areAssociative_55 : decode cX12_areAssociative 55 = .ok (.iload 4, 2) := by decide +kernel
theorem dX12_areAssociative_57 : decode cX12_areAssociative 57 = .ok (.iaload, 1) := by decide +kernel
theorem dX12_areAssociative_58 : decode cX12_areAssociative 58 = .ok (.invokevirtual 375, 3) := by decide +kernel
theorem dX12_areAssociative_61 : decode cX12_areAssociative 61 = .ok (.aload_n 0, 1) := by decide +kernel
theorem dX12_areAssociative_62 : decode cX12_areAssociative 62 = .ok (.aload_n 0, 1) := by decide +kernel
theorem dX12_areAssociative_63 : decode cX12_areAssociative 63 = .ok (.getfield 87, 3) := by decide +kernel
theorem dX12_areAssociative_66 : decode cX12_areAssociative 66 = .ok (.iload_n 1, 1) := by decide +kernel
theorem dX12_areAssociative_67 : decode cX12_areAssociative 67 = .ok (.iaload, 1) := by decide +kernel
theorem dX12_areAssociative_68 : decode cX12_areAssociative 68 = .ok (.aload_n 0, 1) := by decide +kernel
theorem dX12_areAssociative_69 : decode cX12_areAssociative 69 = .ok (.aload_n 0, 1) := by decide +kernel
theorem dX12_areAssociative_70 : decode cX12_areAssociative 70 = .ok (.getfield 87, 3) := by decide +kernel
theorem dX12_areAssociative_73 : decode cX12_areAssociative 73 = .ok (.iload_n 2, 1) := by decide +kernel
theorem dX12_areAssociative_74 : decode cX12_areAssociative 74 = .ok (.iaload, 1) := by decide +kernel
theorem dX12_areAssociative_75 : decode cX12_areAssociative 75 = .ok (.aload_n 0, 1) := by decide +kernel
theorem dX12_areAssociative_76 : decode cX12_areAssociative 76 = .ok (.getfield 87, 3) := by decide +kernel
theorem dX12_areAssociative_79 : decode cX12_areAssociative 79 = .ok (.iload 4, 2) := by decide +kernel
theorem dX12_areAssociative_81 : decode cX12_areAssociative 81 = .ok (.iaload, 1) := by decide +kernel
theorem dX12_areAssociative_82 : decode cX12_areAssociative 82 = .ok (.invokevirtual 375, 3) := by decide +kernel
theorem dX12_areAssociative_85 : decode cX12_areAssociative 85 = .ok (.invokevirtual 375, 3) := by decide +kernel
theorem dX12_areAssociative_88 : decode cX12_areAssociative 88 = .ok (.if_icmp .eq 5, 3) := by decide +kernel
theorem dX12_areAssociative_91 : decode cX12_areAssociative 91 = .ok (.iconst 0, 1) := by decide +kernel
theorem dX12_areAssociative_92 : decode cX12_areAssociative 92 = .ok (.ireturn, 1) := by decide +kernel
theorem dX12_areAssociative_93 : decode cX12_areAssociative 93 = .ok (.iinc 4 1, 3) := by decide +kernel
theorem dX12_areAssociative_96 : decode cX12_areAssociative 96 = .ok (.goto (-56), 3) := by decide +kernel
theorem dX12_areAssociative_99 : decode cX12_areAssociative 99 = .ok (.iinc 2 1, 3) := by decide +kernel
theorem dX12_areAssociative_102 : decode cX12_areAssociative 102 = .ok (.goto (-90), 3) := by decide +kernel
theorem dX12_areAssociative_105 : decode cX12_areAssociative 105 = .ok (.iinc 1 1, 3) := by decide +kernel
theorem dX12_areAssociative_108 : decode cX12_areAssociative 108 = .ok (.goto (-106), 3) := by decide +kernel
theorem dX12_areAssociative_111 : decode cX12_areAssociative 111 = .ok (.iconst 1, 1) := by decide +kernel
theorem dX12_areAssociative_112 : decode cX12_areAssociative 112 = .ok (.ireturn, 1) := by decide +kernel
theorem dX12_center_0 : decode cX12_center 0 = .ok (.iconst 0, 1) := by decide +kernel
theorem dX12_center_1 : decode cX12_center 1 = .ok (.istore_n 1, 1) := by decide +kernel
theorem dX12_center_2 : decode cX12_center 2 = .ok (.iconst 0, 1) := by decide +kernel
theorem dX12_center_3 : decode cX12_center 3 = .ok (.istore_n 2, 1) := by decide +kernel
theorem dX12_center_4 : decode cX12_center 4 = .ok (.iload_n 2, 1) := by decide +kernel
theorem dX12_center_5 : decode cX12_center 5 = .ok (.aload_n 0, 1) := by decide +kernel
theorem dX12_center_6 : decode cX12_center 6 = .ok (.getfield 367, 3) := by decide +kernel
theorem dX12_center_9 : decode cX12_center 9 = .ok (.if_icmp .ge 83, 3) := by decide +kernel
theorem dX12_center_12 : decode cX12_center 12 = .ok (.iconst 1, 1) := by decide +kernel
theorem dX12_center_13 : decode cX12_center 13 = .ok (.istore_n 3, 1) := by decide +kernel
theorem dX12_center_14 : decode cX12_center 14 = .ok (.iconst 0, 1) := by decide +kernel
theorem dX12_center_15 : decode cX12_center 15 = .ok (.istore 4, 2) := by decide +kernel
theorem dX12_center_17 : decode cX12_center 17 = .ok (.iload 4, 2) := by decide +kernel
theorem dX12_center_19 : decode cX12_center 19 = .ok (.aload_n 0, 1) := by decide +kernel
theorem dX12_center_20 : decode cX12_center 20 = .ok (.getfield 367, 3) := by decide +kernel
theorem dX12_center_23 : decode cX12_center 23 = .ok (.if_icmp .ge 56, 3) := by decide +kernel
theorem dX12_center_26 : decode cX12_center 26 = .ok (.iload_n 3, 1) := by decide +kernel
theorem dX12_center_27 : decode cX12_center 27 = .ok (.ifCond .eq 52, 3) := by decide +kernel
theorem dX12_center_30 : decode cX12_center 30 = .ok (.aload_n 0, 1) := by decide +kernel
theorem dX12_center_31 : decode cX12_center 31 = .ok (.aload_n 0, 1) := by decide +kernel
theorem dX12_center_32 : decode cX12_center 32 = .ok (.getfield 87, 3) := by decide +kernel
theorem dX12_center_35 : decode cX12_center 35 = .ok (.iload_n 2, 1) := by decide +kernel
theorem dX12_center_36 : decode cX12_center 36 = .ok (.iaload, 1) := by decide +kernel
theorem dX12_center_37 : decode cX12_center 37 = .ok (.aload_n 0, 1) := by decide +kernel
theorem dX12_center_38 : decode cX12_center 38 = .ok (.getfield 87, 3) := by decide +kernel
theorem dX12_center_41 : decode cX12_center 41 = .ok (.iload 4, 2) := by decide +kernel
theorem dX12_center_43 : decode cX12_center 43 = .ok (.iaload, 1) := by decide +kernel
theorem dX12_center_44 : decode cX12_center 44 = .ok (.invokevirtual 375, 3) := by decide +kernel
theorem dX12_center_47 : decode cX12_center 47 = .ok (.aload_n 0, 1) := by decide +kernel
theorem dX12_center_48 : decode cX12_center 48 = .ok (.aload_n 0, 1) := by decide +kernel
theorem dX12_center_49 : decode cX12_center 49 = .ok (.getfield 87, 3) := by decide +kernel
theorem dX12_center_52 : decode cX12_center 52 = .ok (.iload 4, 2) := by decide +kernel
theorem dX12_center_54 : decode cX12_center 54 = .ok (.iaload, 1) := by decide +kernel
theorem dX12_center_55 : decode cX12_center 55 = .ok (.aload_n 0, 1) := by decide +kernel
theorem dX12_center_56 : decode cX12_center 56 = .ok (.getfield 87, 3) := by decide +kernel
theorem dX12_center_59 : decode cX12_center 59 = .ok (.iload_n 2, 1) := by decide +kernel
theorem dX12_center_60 : decode cX12_center 60 = .ok (.iaload, 1) := by decide +kernel
theorem dX12_center_61 : decode cX12_center 61 = .ok (.invokevirtual 375, 3) := by decide +kernel
theorem dX12_center_64 : decode cX12_center 64 = .ok (.if_icmp .ne 7, 3) := by decide +kernel
theorem dX12_center_67 : decode cX12_center 67 = .ok (.iconst 1, 1) := by decide +kernel
theorem dX12_center_68 : decode cX12_center 68 = .ok (.goto 4, 3) := by decide +kernel
theorem dX12_center_71 : decode cX12_center 71 = .ok (.iconst 0, 1) := by decide +kernel
theorem dX12_center_72 : decode cX12_center 72 = .ok (.istore_n 3, 1) := by decide +kernel
theorem dX12_center_73 : decode cX12_center 73 = .ok (.iinc 4 1, 3) := by decide +kernel
theorem dX12_center_76 : decode cX12_center 76 = .ok (.goto (-59), 3) := by decide +kernel
theorem dX12_center_79 : decode cX12_center 79 = .ok (.iload_n 3, 1) := by decide +kernel
theorem dX12_center_80 : decode cX12_center 80 = .ok (.ifCond .eq 6, 3) := by decide +kernel
theorem dX12_center_83 : decode cX12_center 83 = .ok (.iinc 1 1, 3) := by decide +kernel
theorem dX12_center_86 : decode cX12_center 86 = .ok (.iinc 2 1, 3) := by decide +kernel
theorem dX12_center_89 : decode cX12_center 89 = .ok (.goto (-85), 3) := by decide +kernel
theorem dX12_center_92 : decode cX12_center 92 = .ok (.iload_n 1, 1) := by decide +kernel
theorem dX12_center_93 : decode cX12_center 93 = .ok (.ireturn, 1) := by decide +kernel
theorem dX12_squares_0 : decode cX12_squares 0 = .ok (.aload_n 0, 1) := by decide +kernel
theorem dX12_squares_1 : decode cX12_squares 1 = .ok (.bipush 9, 2) := by decide +kernel
theorem dX12_squares_3 : decode cX12_squares 3 = .ok (.invokevirtual 171, 3) := by decide +kernel
theorem dX12_squares_6 : decode cX12_squares 6 = .ok (.aload_n 0, 1) := by decide +kernel
theorem dX12_squares_7 : decode cX12_squares 7 = .ok (.getfield 17, 3) := by decide +kernel
theorem dX12_squares_10 : decode cX12_squares 10 = .ok (.bipush 72, 2) := by decide +kernel
theorem dX12_squares_12 : decode cX12_squares 12 = .ok (.iconst 2, 1) := by decide +kernel
theorem dX12_squares_13 : decode cX12_squares 13 = .ok (.iastore, 1) := by decide +kernel
theorem dX12_squares_14 : decode cX12_squares 14 = .ok (.aload_n 0, 1) := by decide +kernel
theorem dX12_squares_15 : decode cX12_squares 15 = .ok (.bipush 9, 2) := by decide +kernel
theorem dX12_squares_17 : decode cX12_squares 17 = .ok (.invokevirtual 337, 3) := by decide +kernel
theorem dX12_squares_20 : decode cX12_squares 20 = .ok (.istore_n 1, 1) := by decide +kernel
theorem dX12_squares_21 : decode cX12_squares 21 = .ok (.iconst 0, 1) := by decide +kernel
theorem dX12_squares_22 : decode cX12_squares 22 = .ok (.istore_n 2, 1) := by decide +kernel
theorem dX12_squares_23 : decode cX12_squares 23 = .ok (.iconst 0, 1) := by decide +kernel
theorem dX12_squares_24 : decode cX12_squares 24 = .ok (.istore_n 3, 1) := by decide +kernel
theorem dX12_squares_25 : decode cX12_squares 25 = .ok (.iload_n 3, 1) := by decide +kernel
theorem dX12_squares_26 : decode cX12_squares 26 = .ok (.aload_n 0, 1) := by decide +kernel
theorem dX12_squares_27 : decode cX12_squares 27 = .ok (.getfield 367, 3) := by decide +kernel
theorem dX12_squares_30 : decode cX12_squares 30 = .ok (.if_icmp .ge 32, 3) := by decide +kernel
theorem dX12_squares_33 : decode cX12_squares 33 = .ok (.aload_n 0, 1) := by decide +kernel
theorem dX12_squares_34 : decode cX12_squares 34 = .ok (.aload_n 0, 1) := by decide +kernel
theorem dX12_squares_35 : decode cX12_squares 35 = .ok (.getfield 87, 3) := by decide +kernel
theorem dX12_squares_38 : decode cX12_squares 38 = .ok (.iload_n 3, 1) := by decide +kernel
theorem dX12_squares_39 : decode cX12_squares 39 = .ok (.iaload, 1) := by decide +kernel
theorem dX12_squares_40 : decode cX12_squares 40 = .ok (.aload_n 0, 1) := by decide +kernel
theorem dX12_squares_41 : decode cX12_squares 41 = .ok (.getfield 87, 3) := by decide +kernel
theorem dX12_squares_44 : decode cX12_squares 44 = .ok (.iload_n 3, 1) := by decide +kernel
theorem dX12_squares_45 : decode cX12_squares 45 = .ok (.iaload, 1) := by decide +kernel
theorem dX12_squares_46 : decode cX12_squares 46 = .ok (.invokevirtual 375, 3) := by decide +kernel
theorem dX12_squares_49 : decode cX12_squares 49 = .ok (.iload_n 1, 1) := by decide +kernel
theorem dX12_squares_50 : decode cX12_squares 50 = .ok (.if_icmp .ne 6, 3) := by decide +kernel
theorem dX12_squares_53 : decode cX12_squares 53 = .ok (.iinc 2 1, 3) := by decide +kernel
theorem dX12_squares_56 : decode cX12_squares 56 = .ok (.iinc 3 1, 3) := by decide +kernel
theorem dX12_squares_59 : decode cX12_squares 59 = .ok (.goto (-34), 3) := by decide +kernel
theorem dX12_squares_62 : decode cX12_squares 62 = .ok (.iload_n 2, 1) := by decide +kernel
theorem dX12_squares_63 : decode cX12_squares 63 = .ok (.ireturn, 1) := by decide +kernel
theorem dX12_made_0 : decode cX12_made 0 = .ok (.iload_n 1, 1) := by decide +kernel
theorem dX12_made_1 : decode cX12_made 1 = .ok (.i2l, 1) := by decide +kernel
theorem dX12_made_2 : decode cX12_made 2 = .ok (.lconst 1, 1) := by decide +kernel
theorem dX12_made_3 : decode cX12_made 3 = .ok (.ldc2_w 378, 3) := by decide +kernel
theorem dX12_made_6 : decode cX12_made 6 = .ok (.invokestatic 95, 3) := by decide +kernel
theorem dX12_made_9 : decode cX12_made 9 = .ok (.ifCond .eq 15, 3) := by decide +kernel
theorem dX12_made_12 : decode cX12_made 12 = .ok (.iload_n 2, 1) := by decide +kernel
theorem dX12_made_13 : decode cX12_made 13 = .ok (.i2l, 1) := by decide +kernel
theorem dX12_made_14 : decode cX12_made 14 = .ok (.lconst 0, 1) := by decide +kernel
theorem dX12_made_15 : decode cX12_made 15 = .ok (.ldc2_w 141, 3) := by decide +kernel
theorem dX12_made_18 : decode cX12_made 18 = .ok (.invokestatic 95, 3) := by decide +kernel
theorem dX12_made_21 : decode cX12_made 21 = .ok (.ifCond .ne 5, 3) := by decide +kernel
theorem dX12_made_24 : decode cX12_made 24 = .ok (.iconst (-1), 1) := by decide +kernel
theorem dX12_made_25 : decode cX12_made 25 = .ok (.ireturn, 1) := by decide +kernel
theorem dX12_made_26 : decode cX12_made 26 = .ok (.aload_n 0, 1) := by decide +kernel
theorem dX12_made_27 : decode cX12_made 27 = .ok (.iload_n 1, 1) := by decide +kernel
theorem dX12_made_28 : decode cX12_made 28 = .ok (.invokevirtual 380, 3) := by decide +kernel
theorem dX12_made_31 : decode cX12_made 31 = .ok (.ifCond .ne 6, 3) := by decide +kernel
theorem dX12_made_34 : decode cX12_made 34 = .ok (.bipush (-2), 2) := by decide +kernel
theorem dX12_made_36 : decode cX12_made 36 = .ok (.ireturn, 1) := by decide +kernel
theorem dX12_made_37 : decode cX12_made 37 = .ok (.iload_n 2, 1) := by decide +kernel
theorem dX12_made_38 : decode cX12_made 38 = .ok (.tableswitch 70 0 3 #[30, 35, 48, 65], 30) := by decide +kernel
theorem dX12_made_68 : decode cX12_made 68 = .ok (.aload_n 0, 1) := by decide +kernel
theorem dX12_made_69 : decode cX12_made 69 = .ok (.getfield 367, 3) := by decide +kernel
theorem dX12_made_72 : decode cX12_made 72 = .ok (.ireturn, 1) := by decide +kernel
theorem dX12_made_73 : decode cX12_made 73 = .ok (.aload_n 0, 1) := by decide +kernel
theorem dX12_made_74 : decode cX12_made 74 = .ok (.invokevirtual 383, 3) := by decide +kernel
theorem dX12_made_77 : decode cX12_made 77 = .ok (.ifCond .eq 7, 3) := by decide +kernel
theorem dX12_made_80 : decode cX12_made 80 = .ok (.iconst 1, 1) := by decide +kernel
theorem dX12_made_81 : decode cX12_made 81 = .ok (.goto 4, 3) := by decide +kernel
theorem dX12_made_84 : decode cX12_made 84 = .ok (.iconst 0, 1) := by decide +kernel
theorem dX12_made_85 : decode cX12_made 85 = .ok (.ireturn, 1) := by decide +kernel
theorem dX12_made_86 : decode cX12_made 86 = .ok (.aload_n 0, 1) := by decide +kernel
theorem dX12_made_87 : decode cX12_made 87 = .ok (.invokevirtual 386, 3) := by decide +kernel
theorem dX12_made_90 : decode cX12_made 90 = .ok (.aload_n 0, 1) := by decide +kernel
theorem dX12_made_91 : decode cX12_made 91 = .ok (.getfield 367, 3) := by decide +kernel
theorem dX12_made_94 : decode cX12_made 94 = .ok (.if_icmp .ne 7, 3) := by decide +kernel
theorem dX12_made_97 : decode cX12_made 97 = .ok (.iconst 1, 1) := by decide +kernel
theorem dX12_made_98 : decode cX12_made 98 = .ok (.goto 4, 3) := by decide +kernel
theorem dX12_made_101 : decode cX12_made 101 = .ok (.iconst 0, 1) := by decide +kernel
theorem dX12_made_102 : decode cX12_made 102 = .ok (.ireturn, 1) := by decide +kernel
theorem dX12_made_103 : decode cX12_made 103 = .ok (.aload_n 0, 1) := by decide +kernel
theorem dX12_made_104 : decode cX12_made 104 = .ok (.invokevirtual 386, 3) := by decide +kernel
theorem dX12_made_107 : decode cX12_made 107 = .ok (.ireturn, 1) := by decide +kernel
theorem dX12_made_108 : decode cX12_made 108 = .ok (.aload_n 0, 1) := by decide +kernel
theorem dX12_made_109 : decode cX12_made 109 = .ok (.invokevirtual 389, 3) := by decide +kernel
theorem dX12_made_112 : decode cX12_made 112 = .ok (.ireturn, 1) := by decide +kernel
theorem dX12_madeAt_0 : decode cX12_madeAt 0 = .ok (.iload_n 1, 1) := by decide +kernel
theorem dX12_madeAt_1 : decode cX12_madeAt 1 = .ok (.i2l, 1) := by decide +kernel
theorem dX12_madeAt_2 : decode cX12_madeAt 2 = .ok (.lconst 1, 1) := by decide +kernel
theorem dX12_madeAt_3 : decode cX12_madeAt 3 = .ok (.ldc2_w 378, 3) := by decide +kernel
theorem dX12_madeAt_6 : decode cX12_madeAt 6 = .ok (.invokestatic 95, 3) := by decide +kernel
theorem dX12_madeAt_9 : decode cX12_madeAt 9 = .ok (.ifCond .eq 7, 3) := by decide +kernel
theorem dX12_madeAt_12 : decode cX12_madeAt 12 = .ok (.iload_n 2, 1) := by decide +kernel
theorem dX12_madeAt_13 : decode cX12_madeAt 13 = .ok (.ifCond .ge 5, 3) := by decide +kernel
theorem dX12_madeAt_16 : decode cX12_madeAt 16 = .ok (.iconst (-1), 1) := by decide +kernel
theorem dX12_madeAt_17 : decode cX12_madeAt 17 = .ok (.ireturn, 1) := by decide +kernel
theorem dX12_madeAt_18 : decode cX12_madeAt 18 = .ok (.aload_n 0, 1) := by decide +kernel
theorem dX12_madeAt_19 : decode cX12_madeAt 19 = .ok (.iload_n 1, 1) := by decide +kernel
theorem dX12_madeAt_20 : decode cX12_madeAt 20 = .ok (.invokevirtual 380, 3) := by decide +kernel
theorem dX12_madeAt_23 : decode cX12_madeAt 23 = .ok (.ifCond .ne 6, 3) := by decide +kernel
theorem dX12_madeAt_26 : decode cX12_madeAt 26 = .ok (.bipush (-2), 2) := by decide +kernel
theorem dX12_madeAt_28 : decode cX12_madeAt 28 = .ok (.ireturn, 1) := by decide +kernel
theorem dX12_madeAt_29 : decode cX12_madeAt 29 = .ok (.iload_n 2, 1) := by decide +kernel
theorem dX12_madeAt_30 : decode cX12_madeAt 30 = .ok (.aload_n 0, 1) := by decide +kernel
theorem dX12_madeAt_31 : decode cX12_madeAt 31 = .ok (.getfield 367, 3) := by decide +kernel
theorem dX12_madeAt_34 : decode cX12_madeAt 34 = .ok (.if_icmp .ge 12, 3) := by decide +kernel
theorem dX12_madeAt_37 : decode cX12_madeAt 37 = .ok (.aload_n 0, 1) := by decide +kernel
theorem dX12_madeAt_38 : decode cX12_madeAt 38 = .ok (.getfield 87, 3) := by decide +kernel
theorem dX12_madeAt_41 : decode cX12_madeAt 41 = .ok (.iload_n 2, 1) := by decide +kernel
theorem dX12_madeAt_42 : decode cX12_madeAt 42 = .ok (.iaload, 1) := by decide +kernel
theorem dX12_madeAt_43 : decode cX12_madeAt 43 = .ok (.goto 4, 3) := by decide +kernel
theorem dX12_madeAt_46 : decode cX12_madeAt 46 = .ok (.iconst (-1), 1) := by decide +kernel
theorem dX12_madeAt_47 : decode cX12_madeAt 47 = .ok (.ireturn, 1) := by decide +kernel
theorem dX12_turnCycle_0 : decode cX12_turnCycle 0 = .ok (.iload_n 1, 1) := by decide +kernel
theorem dX12_turnCycle_1 : decode cX12_turnCycle 1 = .ok (.invokestatic 165, 3) := by decide +kernel
theorem dX12_turnCycle_4 : decode cX12_turnCycle 4 = .ok (.ifCond .eq 17, 3) := by decide +kernel
theorem dX12_turnCycle_7 : decode cX12_turnCycle 7 = .ok (.iload_n 2, 1) := by decide +kernel
theorem dX12_turnCycle_8 : decode cX12_turnCycle 8 = .ok (.invokestatic 165, 3) := by decide +kernel
theorem dX12_turnCycle_11 : decode cX12_turnCycle 11 = .ok (.ifCond .eq 10, 3) := by decide +kernel
theorem dX12_turnCycle_14 : decode cX12_turnCycle 14 = .ok (.iload_n 3, 1) := by decide +kernel
theorem dX12_turnCycle_15 : decode cX12_turnCycle 15 = .ok (.invokestatic 207, 3) := by decide +kernel
theorem dX12_turnCycle_18 : decode cX12_turnCycle 18 = .ok (.ifCond .ne 5, 3) := by decide +kernel
theorem dX12_turnCycle_21 : decode cX12_turnCycle 21 = .ok (.iconst (-1), 1) := by decide +kernel
theorem dX12_turnCycle_22 : decode cX12_turnCycle 22 = .ok (.ireturn, 1) := by decide +kernel
theorem dX12_turnCycle_23 : decode cX12_turnCycle 23 = .ok (.aload_n 0, 1) := by decide +kernel
theorem dX12_turnCycle_24 : decode cX12_turnCycle 24 = .ok (.bipush 10, 2) := by decide +kernel
theorem dX12_turnCycle_26 : decode cX12_turnCycle 26 = .ok (.iload_n 1, 1) := by decide +kernel
theorem dX12_turnCycle_27 : decode cX12_turnCycle 27 = .ok (.invokevirtual 182, 3) := by decide +kernel
theorem dX12_turnCycle_30 : decode cX12_turnCycle 30 = .ok (.iconst 1, 1) := by decide +kernel
theorem dX12_turnCycle_31 : decode cX12_turnCycle 31 = .ok (.istore 4, 2) := by decide +kernel
theorem dX12_turnCycle_33 : decode cX12_turnCycle 33 = .ok (.iload 4, 2) := by decide +kernel
theorem dX12_turnCycle_35 : decode cX12_turnCycle 35 = .ok (.bipush 60, 2) := by decide +kernel
theorem dX12_turnCycle_37 : decode cX12_turnCycle 37 = .ok (.if_icmp .gt 46, 3) := by decide +kernel
theorem dX12_turnCycle_40 : decode cX12_turnCycle 40 = .ok (.aload_n 0, 1) := by decide +kernel
theorem dX12_turnCycle_41 : decode cX12_turnCycle 41 = .ok (.bipush 9, 2) := by decide +kernel
theorem dX12_turnCycle_43 : decode cX12_turnCycle 43 = .ok (.bipush 10, 2) := by decide +kernel
theorem dX12_turnCycle_45 : decode cX12_turnCycle 45 = .ok (.iload_n 2, 1) := by decide +kernel
theorem dX12_turnCycle_46 : decode cX12_turnCycle 46 = .ok (.iload_n 3, 1) := by decide +kernel
theorem dX12_turnCycle_47 : decode cX12_turnCycle 47 = .ok (.invokevirtual 210, 3) := by decide +kernel
theorem dX12_turnCycle_50 : decode cX12_turnCycle 50 = .ok (.ifCond .ne 6, 3) := by decide +kernel
theorem dX12_turnCycle_53 : decode cX12_turnCycle 53 = .ok (.bipush (-2), 2) := by decide +kernel
theorem dX12_turnCycle_55 : decode cX12_turnCycle 55 = .ok (.ireturn, 1) := by decide +kernel
theorem dX12_turnCycle_56 : decode cX12_turnCycle 56 = .ok (.aload_n 0, 1) := by decide +kernel
theorem dX12_turnCycle_57 : decode cX12_turnCycle 57 = .ok (.bipush 9, 2) := by decide +kernel
theorem dX12_turnCycle_59 : decode cX12_turnCycle 59 = .ok (.iload_n 1, 1) := by decide +kernel
theorem dX12_turnCycle_60 : decode cX12_turnCycle 60 = .ok (.invokevirtual 280, 3) := by decide +kernel
theorem dX12_turnCycle_63 : decode cX12_turnCycle 63 = .ok (.ifCond .eq 6, 3) := by decide +kernel
theorem dX12_turnCycle_66 : decode cX12_turnCycle 66 = .ok (.iload 4, 2) := by decide +kernel
theorem dX12_turnCycle_68 : decode cX12_turnCycle 68 = .ok (.ireturn, 1) := by decide +kernel
theorem dX12_turnCycle_69 : decode cX12_turnCycle 69 = .ok (.aload_n 0, 1) := by decide +kernel
theorem dX12_turnCycle_70 : decode cX12_turnCycle 70 = .ok (.bipush 10, 2) := by decide +kernel
theorem dX12_turnCycle_72 : decode cX12_turnCycle 72 = .ok (.bipush 9, 2) := by decide +kernel
theorem dX12_turnCycle_74 : decode cX12_turnCycle 74 = .ok (.invokevirtual 182, 3) := by decide +kernel
theorem dX12_turnCycle_77 : decode cX12_turnCycle 77 = .ok (.iinc 4 1, 3) := by decide +kernel
theorem dX12_turnCycle_80 : decode cX12_turnCycle 80 = .ok (.goto (-47), 3) := by decide +kernel
theorem dX12_turnCycle_83 : decode cX12_turnCycle 83 = .ok (.bipush (-2), 2) := by decide +kernel
theorem dX12_turnCycle_85 : decode cX12_turnCycle 85 = .ok (.ireturn, 1) := by decide +kernel
theorem dX12_shared_0 : decode cX12_shared 0 = .ok (.iload_n 1, 1) := by decide +kernel
theorem dX12_shared_1 : decode cX12_shared 1 = .ok (.i2l, 1) := by decide +kernel
theorem dX12_shared_2 : decode cX12_shared 2 = .ok (.lconst 0, 1) := by decide +kernel
theorem dX12_shared_3 : decode cX12_shared 3 = .ok (.ldc2_w 93, 3) := by decide +kernel
theorem dX12_shared_6 : decode cX12_shared 6 = .ok (.invokestatic 95, 3) := by decide +kernel
theorem dX12_shared_9 : decode cX12_shared 9 = .ok (.ifCond .eq 15, 3) := by decide +kernel
theorem dX12_shared_12 : decode cX12_shared 12 = .ok (.iload_n 2, 1) := by decide +kernel
theorem dX12_shared_13 : decode cX12_shared 13 = .ok (.i2l, 1) := by decide +kernel
theorem dX12_shared_14 : decode cX12_shared 14 = .ok (.lconst 0, 1) := by decide +kernel
theorem dX12_shared_15 : decode cX12_shared 15 = .ok (.ldc2_w 93, 3) := by decide +kernel
theorem dX12_shared_18 : decode cX12_shared 18 = .ok (.invokestatic 95, 3) := by decide +kernel
theorem dX12_shared_21 : decode cX12_shared 21 = .ok (.ifCond .ne 5, 3) := by decide +kernel
theorem dX12_shared_24 : decode cX12_shared 24 = .ok (.iconst (-1), 1) := by decide +kernel
theorem dX12_shared_25 : decode cX12_shared 25 = .ok (.ireturn, 1) := by decide +kernel
theorem dX12_shared_26 : decode cX12_shared 26 = .ok (.aload_n 0, 1) := by decide +kernel
theorem dX12_shared_27 : decode cX12_shared 27 = .ok (.iconst 1, 1) := by decide +kernel
theorem dX12_shared_28 : decode cX12_shared 28 = .ok (.iload_n 1, 1) := by decide +kernel
theorem dX12_shared_29 : decode cX12_shared 29 = .ok (.invokevirtual 152, 3) := by decide +kernel
theorem dX12_shared_32 : decode cX12_shared 32 = .ok (.iconst 0, 1) := by decide +kernel
theorem dX12_shared_33 : decode cX12_shared 33 = .ok (.istore_n 3, 1) := by decide +kernel
theorem dX12_shared_34 : decode cX12_shared 34 = .ok (.iconst 0, 1) := by decide +kernel
theorem dX12_shared_35 : decode cX12_shared 35 = .ok (.istore 4, 2) := by decide +kernel
theorem dX12_shared_37 : decode cX12_shared 37 = .ok (.iload 4, 2) := by decide +kernel
theorem dX12_shared_39 : decode cX12_shared 39 = .ok (.aload_n 0, 1) := by decide +kernel
theorem dX12_shared_40 : decode cX12_shared 40 = .ok (.getfield 31, 3) := by decide +kernel
theorem dX12_shared_43 : decode cX12_shared 43 = .ok (.iconst 1, 1) := by decide +kernel
theorem dX12_shared_44 : decode cX12_shared 44 = .ok (.iaload, 1) := by decide +kernel
theorem dX12_shared_45 : decode cX12_shared 45 = .ok (.if_icmp .ge 34, 3) := by decide +kernel
theorem dX12_shared_48 : decode cX12_shared 48 = .ok (.aload_n 0, 1) := by decide +kernel
theorem dX12_shared_49 : decode cX12_shared 49 = .ok (.bipush 9, 2) := by decide +kernel
theorem dX12_shared_51 : decode cX12_shared 51 = .ok (.iconst 1, 1) := by decide +kernel
theorem dX12_shared_52 : decode cX12_shared 52 = .ok (.iload 4, 2) := by decide +kernel
theorem dX12_shared_54 : decode cX12_shared 54 = .ok (.invokevirtual 178, 3) := by decide +kernel
theorem dX12_shared_57 : decode cX12_shared 57 = .ok (.iload_n 2, 1) := by decide +kernel
theorem dX12_shared_58 : decode cX12_shared 58 = .ok (.aload_n 0, 1) := by decide +kernel
theorem dX12_shared_59 : decode cX12_shared 59 = .ok (.bipush 9, 2) := by decide +kernel
theorem dX12_shared_61 : decode cX12_shared 61 = .ok (.invokevirtual 128, 3) := by decide +kernel
theorem dX12_shared_64 : decode cX12_shared 64 = .ok (.invokestatic 131, 3) := by decide +kernel
theorem dX12_shared_67 : decode cX12_shared 67 = .ok (.ifCond .eq 6, 3) := by decide +kernel
theorem dX12_shared_70 : decode cX12_shared 70 = .ok (.iinc 3 1, 3) := by decide +kernel
theorem dX12_shared_73 : decode cX12_shared 73 = .ok (.iinc 4 1, 3) := by decide +kernel
theorem dX12_shared_76 : decode cX12_shared 76 = .ok (.goto (-39), 3) := by decide +kernel
theorem dX12_shared_79 : decode cX12_shared 79 = .ok (.iload_n 3, 1) := by decide +kernel
theorem dX12_shared_80 : decode cX12_shared 80 = .ok (.ireturn, 1) := by decide +kernel
theorem dX12_nucleus_0 : decode cX12_nucleus 0 = .ok (.iload_n 1, 1) := by decide +kernel
theorem dX12_nucleus_1 : decode cX12_nucleus 1 = .ok (.invokestatic 165, 3) := by decide +kernel
theorem dX12_nucleus_4 : decode cX12_nucleus 4 = .ok (.ifCond .eq 10, 3) := by decide +kernel
theorem dX12_nucleus_7 : decode cX12_nucleus 7 = .ok (.iload_n 2, 1) := by decide +kernel
theorem dX12_nucleus_8 : decode cX12_nucleus 8 = .ok (.invokestatic 165, 3) := by decide +kernel
theorem dX12_nucleus_11 : decode cX12_nucleus 11 = .ok (.ifCond .ne 5, 3) := by decide +kernel
theorem dX12_nucleus_14 : decode cX12_nucleus 14 = .ok (.iconst (-1), 1) := by decide +kernel
theorem dX12_nucleus_15 : decode cX12_nucleus 15 = .ok (.ireturn, 1) := by decide +kernel
theorem dX12_nucleus_16 : decode cX12_nucleus 16 = .ok (.aload_n 0, 1) := by decide +kernel
theorem dX12_nucleus_17 : decode cX12_nucleus 17 = .ok (.iconst 1, 1) := by decide +kernel
theorem dX12_nucleus_18 : decode cX12_nucleus 18 = .ok (.invokevirtual 158, 3) := by decide +kernel
theorem dX12_nucleus_21 : decode cX12_nucleus 21 = .ok (.istore_n 3, 1) := by decide +kernel
theorem dX12_nucleus_22 : decode cX12_nucleus 22 = .ok (.iconst 0, 1) := by decide +kernel
theorem dX12_nucleus_23 : decode cX12_nucleus 23 = .ok (.istore 4, 2) := by decide +kernel
theorem dX12_nucleus_25 : decode cX12_nucleus 25 = .ok (.iconst 0, 1) := by decide +kernel
theorem dX12_nucleus_26 : decode cX12_nucleus 26 = .ok (.istore 5, 2) := by decide +kernel
theorem dX12_nucleus_28 : decode cX12_nucleus 28 = .ok (.iload 5, 2) := by decide +kernel
theorem dX12_nucleus_30 : decode cX12_nucleus 30 = .ok (.iload_n 3, 1) := by decide +kernel
theorem dX12_nucleus_31 : decode cX12_nucleus 31 = .ok (.if_icmp .ge 92, 3) := by decide +kernel
theorem dX12_nucleus_34 : decode cX12_nucleus 34 = .ok (.aload_n 0, 1) := by decide +kernel
theorem dX12_nucleus_35 : decode cX12_nucleus 35 = .ok (.bipush 9, 2) := by decide +kernel
theorem dX12_nucleus_37 : decode cX12_nucleus 37 = .ok (.iconst 1, 1) := by decide +kernel
theorem dX12_nucleus_38 : decode cX12_nucleus 38 = .ok (.iload 5, 2) := by decide +kernel
theorem dX12_nucleus_40 : decode cX12_nucleus 40 = .ok (.invokevirtual 178, 3) := by decide +kernel
theorem dX12_nucleus_43 : decode cX12_nucleus 43 = .ok (.aload_n 0, 1) := by decide +kernel
theorem dX12_nucleus_44 : decode cX12_nucleus 44 = .ok (.bipush 10, 2) := by decide +kernel
theorem dX12_nucleus_46 : decode cX12_nucleus 46 = .ok (.bipush 9, 2) := by decide +kernel
theorem dX12_nucleus_48 : decode cX12_nucleus 48 = .ok (.iload_n 1, 1) := by decide +kernel
theorem dX12_nucleus_49 : decode cX12_nucleus 49 = .ok (.invokevirtual 197, 3) := by decide +kernel
theorem dX12_nucleus_52 : decode cX12_nucleus 52 = .ok (.ifCond .eq 43, 3) := by decide +kernel
theorem dX12_nucleus_55 : decode cX12_nucleus 55 = .ok (.aload_n 0, 1) := by decide +kernel
theorem dX12_nucleus_56 : decode cX12_nucleus 56 = .ok (.bipush 10, 2) := by decide +kernel
theorem dX12_nucleus_58 : decode cX12_nucleus 58 = .ok (.bipush 10, 2) := by decide +kernel
theorem dX12_nucleus_60 : decode cX12_nucleus 60 = .ok (.iload_n 2, 1) := by decide +kernel
theorem dX12_nucleus_61 : decode cX12_nucleus 61 = .ok (.invokevirtual 197, 3) := by decide +kernel
theorem dX12_nucleus_64 : decode cX12_nucleus 64 = .ok (.ifCond .eq 31, 3) := by decide +kernel
theorem dX12_nucleus_67 : decode cX12_nucleus 67 = .ok (.aload_n 0, 1) := by decide +kernel
theorem dX12_nucleus_68 : decode cX12_nucleus 68 = .ok (.bipush 11, 2) := by decide +kernel
theorem dX12_nucleus_70 : decode cX12_nucleus 70 = .ok (.iload_n 1, 1) := by decide +kernel
theorem dX12_nucleus_71 : decode cX12_nucleus 71 = .ok (.iload_n 2, 1) := by decide +kernel
theorem dX12_nucleus_72 : decode cX12_nucleus 72 = .ok (.invokevirtual 197, 3) := by decide +kernel
theorem dX12_nucleus_75 : decode cX12_nucleus 75 = .ok (.ifCond .eq 20, 3) := by decide +kernel
theorem dX12_nucleus_78 : decode cX12_nucleus 78 = .ok (.aload_n 0, 1) := by decide +kernel
theorem dX12_nucleus_79 : decode cX12_nucleus 79 = .ok (.bipush 11, 2) := by decide +kernel
theorem dX12_nucleus_81 : decode cX12_nucleus 81 = .ok (.bipush 9, 2) := by decide +kernel
theorem dX12_nucleus_83 : decode cX12_nucleus 83 = .ok (.bipush 11, 2) := by decide +kernel
theorem dX12_nucleus_85 : decode cX12_nucleus 85 = .ok (.invokevirtual 197, 3) := by decide +kernel
theorem dX12_nucleus_88 : decode cX12_nucleus 88 = .ok (.ifCond .eq 7, 3) := by decide +kernel
theorem dX12_nucleus_91 : decode cX12_nucleus 91 = .ok (.iconst 1, 1) := by decide +kernel
theorem dX12_nucleus_92 : decode cX12_nucleus 92 = .ok (.goto 4, 3) := by decide +kernel
theorem dX12_nucleus_95 : decode cX12_nucleus 95 = .ok (.iconst 0, 1) := by decide +kernel
theorem dX12_nucleus_96 : decode cX12_nucleus 96 = .ok (.istore 6, 2) := by decide +kernel
theorem dX12_nucleus_98 : decode cX12_nucleus 98 = .ok (.iload 6, 2) := by decide +kernel
theorem dX12_nucleus_100 : decode cX12_nucleus 100 = .ok (.ifCond .eq 17, 3) := by decide +kernel
theorem dX12_nucleus_103 : decode cX12_nucleus 103 = .ok (.aload_n 0, 1) := by decide +kernel
theorem dX12_nucleus_104 : decode cX12_nucleus 104 = .ok (.bipush 10, 2) := by decide +kernel
theorem dX12_nucleus_106 : decode cX12_nucleus 106 = .ok (.bipush 11, 2) := by decide +kernel
theorem dX12_nucleus_108 : decode cX12_nucleus 108 = .ok (.invokevirtual 280, 3) := by decide +kernel
theorem dX12_nucleus_111 : decode cX12_nucleus 111 = .ok (.ifCond .eq 6, 3) := by decide +kernel
theorem dX12_nucleus_114 : decode cX12_nucleus 114 = .ok (.iinc 4 1, 3) := by decide +kernel
theorem dX12_nucleus_117 : decode cX12_nucleus 117 = .ok (.iinc 5 1, 3) := by decide +kernel
theorem dX12_nucleus_120 : decode cX12_nucleus 120 = .ok (.goto (-92), 3) := by decide +kernel
theorem dX12_nucleus_123 : decode cX12_nucleus 123 = .ok (.iload 4, 2) := by decide +kernel
theorem dX12_nucleus_125 : decode cX12_nucleus 125 = .ok (.ireturn, 1) := by decide +kernel
theorem dX12_both_0 : decode cX12_both 0 = .ok (.aload_n 0, 1) := by decide +kernel
theorem dX12_both_1 : decode cX12_both 1 = .ok (.bipush 14, 2) := by decide +kernel
theorem dX12_both_3 : decode cX12_both 3 = .ok (.iload_n 1, 1) := by decide +kernel
theorem dX12_both_4 : decode cX12_both 4 = .ok (.iload_n 2, 1) := by decide +kernel
theorem dX12_both_5 : decode cX12_both 5 = .ok (.invokevirtual 197, 3) := by decide +kernel
theorem dX12_both_8 : decode cX12_both 8 = .ok (.ifCond .eq 19, 3) := by decide +kernel
theorem dX12_both_11 : decode cX12_both 11 = .ok (.aload_n 0, 1) := by decide +kernel
theorem dX12_both_12 : decode cX12_both 12 = .ok (.bipush 15, 2) := by decide +kernel
theorem dX12_both_14 : decode cX12_both 14 = .ok (.iload_n 3, 1) := by decide +kernel
theorem dX12_both_15 : decode cX12_both 15 = .ok (.iload 4, 2) := by decide +kernel
theorem dX12_both_17 : decode cX12_both 17 = .ok (.invokevirtual 197, 3) := by decide +kernel
theorem dX12_both_20 : decode cX12_both 20 = .ok (.ifCond .eq 7, 3) := by decide +kernel
theorem dX12_both_23 : decode cX12_both 23 = .ok (.iconst 1, 1) := by decide +kernel
theorem dX12_both_24 : decode cX12_both 24 = .ok (.goto 4, 3) := by decide +kernel
theorem dX12_both_27 : decode cX12_both 27 = .ok (.iconst 0, 1) := by decide +kernel
theorem dX12_both_28 : decode cX12_both 28 = .ok (.ireturn, 1) := by decide +kernel
theorem dX12_laws_0 : decode cX12_laws 0 = .ok (.iload_n 1, 1) := by decide +kernel
theorem dX12_laws_1 : decode cX12_laws 1 = .ok (.iload_n 2, 1) := by decide +kernel
theorem dX12_laws_2 : decode cX12_laws 2 = .ok (.iload_n 3, 1) := by decide +kernel
theorem dX12_laws_3 : decode cX12_laws 3 = .ok (.invokestatic 189, 3) := by decide +kernel
theorem dX12_laws_6 : decode cX12_laws 6 = .ok (.ifCond .ne 5, 3) := by decide +kernel
theorem dX12_laws_9 : decode cX12_laws 9 = .ok (.iconst (-1), 1) := by decide +kernel
theorem dX12_laws_10 : decode cX12_laws 10 = .ok (.ireturn, 1) := by decide +kernel
theorem dX12_laws_11 : decode cX12_laws 11 = .ok (.iconst 0, 1) := by decide +kernel
theorem dX12_laws_12 : decode cX12_laws 12 = .ok (.istore 4, 2) := by decide +kernel
theorem dX12_laws_14 : decode cX12_laws 14 = .ok (.aload_n 0, 1) := by decide +kernel
theorem dX12_laws_15 : decode cX12_laws 15 = .ok (.bipush 9, 2) := by decide +kernel
theorem dX12_laws_17 : decode cX12_laws 17 = .ok (.iload_n 1, 1) := by decide +kernel
theorem dX12_laws_18 : decode cX12_laws 18 = .ok (.iload_n 2, 1) := by decide +kernel
theorem dX12_laws_19 : decode cX12_laws 19 = .ok (.invokevirtual 197, 3) := by decide +kernel
theorem dX12_laws_22 : decode cX12_laws 22 = .ok (.ifCond .eq 36, 3) := by decide +kernel
theorem dX12_laws_25 : decode cX12_laws 25 = .ok (.aload_n 0, 1) := by decide +kernel
theorem dX12_laws_26 : decode cX12_laws 26 = .ok (.bipush 10, 2) := by decide +kernel
theorem dX12_laws_28 : decode cX12_laws 28 = .ok (.iload_n 2, 1) := by decide +kernel
theorem dX12_laws_29 : decode cX12_laws 29 = .ok (.iload_n 3, 1) := by decide +kernel
theorem dX12_laws_30 : decode cX12_laws 30 = .ok (.invokevirtual 197, 3) := by decide +kernel
theorem dX12_laws_33 : decode cX12_laws 33 = .ok (.ifCond .eq 25, 3) := by decide +kernel
theorem dX12_laws_36 : decode cX12_laws 36 = .ok (.aload_n 0, 1) := by decide +kernel
theorem dX12_laws_37 : decode cX12_laws 37 = .ok (.bipush 11, 2) := by decide +kernel
theorem dX12_laws_39 : decode cX12_laws 39 = .ok (.iload_n 2, 1) := by decide +kernel
theorem dX12_laws_40 : decode cX12_laws 40 = .ok (.iload_n 1, 1) := by decide +kernel
theorem dX12_laws_41 : decode cX12_laws 41 = .ok (.invokevirtual 197, 3) := by decide +kernel
theorem dX12_laws_44 : decode cX12_laws 44 = .ok (.ifCond .eq 14, 3) := by decide +kernel
theorem dX12_laws_47 : decode cX12_laws 47 = .ok (.aload_n 0, 1) := by decide +kernel
theorem dX12_laws_48 : decode cX12_laws 48 = .ok (.bipush 12, 2) := by decide +kernel
theorem dX12_laws_50 : decode cX12_laws 50 = .ok (.iload_n 1, 1) := by decide +kernel
theorem dX12_laws_51 : decode cX12_laws 51 = .ok (.iload_n 1, 1) := by decide +kernel
theorem dX12_laws_52 : decode cX12_laws 52 = .ok (.invokevirtual 197, 3) := by decide +kernel
theorem dX12_laws_55 : decode cX12_laws 55 = .ok (.ifCond .ne 6, 3) := by decide +kernel
theorem dX12_laws_58 : decode cX12_laws 58 = .ok (.bipush (-2), 2) := by decide +kernel
theorem dX12_laws_60 : decode cX12_laws 60 = .ok (.ireturn, 1) := by decide +kernel
theorem dX12_laws_61 : decode cX12_laws 61 = .ok (.aload_n 0, 1) := by decide +kernel
theorem dX12_laws_62 : decode cX12_laws 62 = .ok (.bipush 9, 2) := by decide +kernel
theorem dX12_laws_64 : decode cX12_laws 64 = .ok (.iload_n 3, 1) := by decide +kernel
theorem dX12_laws_65 : decode cX12_laws 65 = .ok (.iload_n 1, 1) := by decide +kernel
theorem dX12_laws_66 : decode cX12_laws 66 = .ok (.bipush 10, 2) := by decide +kernel
theorem dX12_laws_68 : decode cX12_laws 68 = .ok (.invokevirtual 392, 3) := by decide +kernel
theorem dX12_laws_71 : decode cX12_laws 71 = .ok (.ifCond .ne 6, 3) := by decide +kernel
theorem dX12_laws_74 : decode cX12_laws 74 = .ok (.bipush (-2), 2) := by decide +kernel
theorem dX12_laws_76 : decode cX12_laws 76 = .ok (.ireturn, 1) := by decide +kernel
theorem dX12_laws_77 : decode cX12_laws 77 = .ok (.aload_n 0, 1) := by decide +kernel
theorem dX12_laws_78 : decode cX12_laws 78 = .ok (.bipush 14, 2) := by decide +kernel
theorem dX12_laws_80 : decode cX12_laws 80 = .ok (.bipush 15, 2) := by decide +kernel
theorem dX12_laws_82 : decode cX12_laws 82 = .ok (.invokevirtual 280, 3) := by decide +kernel
theorem dX12_laws_85 : decode cX12_laws 85 = .ok (.ifCond .eq 9, 3) := by decide +kernel
theorem dX12_laws_88 : decode cX12_laws 88 = .ok (.iload 4, 2) := by decide +kernel
theorem dX12_laws_90 : decode cX12_laws 90 = .ok (.iconst 1, 1) := by decide +kernel
theorem dX12_laws_91 : decode cX12_laws 91 = .ok (.ior, 1) := by decide +kernel
theorem dX12_laws_92 : decode cX12_laws 92 = .ok (.istore 4, 2) := by decide +kernel
theorem dX12_laws_94 : decode cX12_laws 94 = .ok (.aload_n 0, 1) := by decide +kernel
theorem dX12_laws_95 : decode cX12_laws 95 = .ok (.bipush 9, 2) := by decide +kernel
theorem dX12_laws_97 : decode cX12_laws 97 = .ok (.bipush 11, 2) := by decide +kernel
theorem dX12_laws_99 : decode cX12_laws 99 = .ok (.invokevirtual 280, 3) := by decide +kernel
theorem dX12_laws_102 : decode cX12_laws 102 = .ok (.ifCond .eq 9, 3) := by decide +kernel
theorem dX12_laws_105 : decode cX12_laws 105 = .ok (.iload 4, 2) := by decide +kernel
theorem dX12_laws_107 : decode cX12_laws 107 = .ok (.iconst 2, 1) := by decide +kernel
theorem dX12_laws_108 : decode cX12_laws 108 = .ok (.ior, 1) := by decide +kernel
theorem dX12_laws_109 : decode cX12_laws 109 = .ok (.istore 4, 2) := by decide +kernel
theorem dX12_laws_111 : decode cX12_laws 111 = .ok (.aload_n 0, 1) := by decide +kernel
theorem dX12_laws_112 : decode cX12_laws 112 = .ok (.iload_n 1, 1) := by decide +kernel
theorem dX12_laws_113 : decode cX12_laws 113 = .ok (.bipush 9, 2) := by decide +kernel
theorem dX12_laws_115 : decode cX12_laws 115 = .ok (.bipush 12, 2) := by decide +kernel
theorem dX12_laws_117 : decode cX12_laws 117 = .ok (.iload_n 2, 1) := by decide +kernel
theorem dX12_laws_118 : decode cX12_laws 118 = .ok (.invokevirtual 392, 3) := by decide +kernel
theorem dX12_laws_121 : decode cX12_laws 121 = .ok (.ifCond .ne 6, 3) := by decide +kernel
theorem dX12_laws_124 : decode cX12_laws 124 = .ok (.bipush (-2), 2) := by decide +kernel
theorem dX12_laws_126 : decode cX12_laws 126 = .ok (.ireturn, 1) := by decide +kernel
theorem dX12_laws_127 : decode cX12_laws 127 = .ok (.aload_n 0, 1) := by decide +kernel
theorem dX12_laws_128 : decode cX12_laws 128 = .ok (.bipush 14, 2) := by decide +kernel
theorem dX12_laws_130 : decode cX12_laws 130 = .ok (.bipush 15, 2) := by decide +kernel
theorem dX12_laws_132 : decode cX12_laws 132 = .ok (.invokevirtual 280, 3) := by decide +kernel
theorem dX12_laws_135 : decode cX12_laws 135 = .ok (.ifCond .eq 9, 3) := by decide +kernel
theorem dX12_laws_138 : decode cX12_laws 138 = .ok (.iload 4, 2) := by decide +kernel
theorem dX12_laws_140 : decode cX12_laws 140 = .ok (.iconst 4, 1) := by decide +kernel
theorem dX12_laws_141 : decode cX12_laws 141 = .ok (.ior, 1) := by decide +kernel
theorem dX12_laws_142 : decode cX12_laws 142 = .ok (.istore 4, 2) := by decide +kernel
theorem dX12_laws_144 : decode cX12_laws 144 = .ok (.aload_n 0, 1) := by decide +kernel
theorem dX12_laws_145 : decode cX12_laws 145 = .ok (.bipush 11, 2) := by decide +kernel
theorem dX12_laws_147 : decode cX12_laws 147 = .ok (.iload_n 1, 1) := by decide +kernel
theorem dX12_laws_148 : decode cX12_laws 148 = .ok (.iload_n 2, 1) := by decide +kernel
theorem dX12_laws_149 : decode cX12_laws 149 = .ok (.bipush 12, 2) := by decide +kernel
theorem dX12_laws_151 : decode cX12_laws 151 = .ok (.invokevirtual 392, 3) := by decide +kernel
theorem dX12_laws_154 : decode cX12_laws 154 = .ok (.ifCond .ne 6, 3) := by decide +kernel
theorem dX12_laws_157 : decode cX12_laws 157 = .ok (.bipush (-2), 2) := by decide +kernel
theorem dX12_laws_159 : decode cX12_laws 159 = .ok (.ireturn, 1) := by decide +kernel
theorem dX12_laws_160 : decode cX12_laws 160 = .ok (.aload_n 0, 1) := by decide +kernel
theorem dX12_laws_161 : decode cX12_laws 161 = .ok (.bipush 14, 2) := by decide +kernel
theorem dX12_laws_163 : decode cX12_laws 163 = .ok (.bipush 15, 2) := by decide +kernel
theorem dX12_laws_165 : decode cX12_laws 165 = .ok (.invokevirtual 280, 3) := by decide +kernel
theorem dX12_laws_168 : decode cX12_laws 168 = .ok (.ifCond .eq 10, 3) := by decide +kernel
theorem dX12_laws_171 : decode cX12_laws 171 = .ok (.iload 4, 2) := by decide +kernel
theorem dX12_laws_173 : decode cX12_laws 173 = .ok (.bipush 8, 2) := by decide +kernel
theorem dX12_laws_175 : decode cX12_laws 175 = .ok (.ior, 1) := by decide +kernel
theorem dX12_laws_176 : decode cX12_laws 176 = .ok (.istore 4, 2) := by decide +kernel
theorem dX12_laws_178 : decode cX12_laws 178 = .ok (.aload_n 0, 1) := by decide +kernel
theorem dX12_laws_179 : decode cX12_laws 179 = .ok (.iload_n 1, 1) := by decide +kernel
theorem dX12_laws_180 : decode cX12_laws 180 = .ok (.bipush 11, 2) := by decide +kernel
theorem dX12_laws_182 : decode cX12_laws 182 = .ok (.bipush 9, 2) := by decide +kernel
theorem dX12_laws_184 : decode cX12_laws 184 = .ok (.iload_n 1, 1) := by decide +kernel
theorem dX12_laws_185 : decode cX12_laws 185 = .ok (.invokevirtual 392, 3) := by decide +kernel
theorem dX12_laws_188 : decode cX12_laws 188 = .ok (.ifCond .ne 6, 3) := by decide +kernel
theorem dX12_laws_191 : decode cX12_laws 191 = .ok (.bipush (-2), 2) := by decide +kernel
theorem dX12_laws_193 : decode cX12_laws 193 = .ok (.ireturn, 1) := by decide +kernel
theorem dX12_laws_194 : decode cX12_laws 194 = .ok (.aload_n 0, 1) := by decide +kernel
theorem dX12_laws_195 : decode cX12_laws 195 = .ok (.bipush 14, 2) := by decide +kernel
theorem dX12_laws_197 : decode cX12_laws 197 = .ok (.bipush 15, 2) := by decide +kernel
theorem dX12_laws_199 : decode cX12_laws 199 = .ok (.invokevirtual 280, 3) := by decide +kernel
theorem dX12_laws_202 : decode cX12_laws 202 = .ok (.ifCond .eq 10, 3) := by decide +kernel
theorem dX12_laws_205 : decode cX12_laws 205 = .ok (.iload 4, 2) := by decide +kernel
theorem dX12_laws_207 : decode cX12_laws 207 = .ok (.bipush 16, 2) := by decide +kernel
theorem dX12_laws_209 : decode cX12_laws 209 = .ok (.ior, 1) := by decide +kernel
theorem dX12_laws_210 : decode cX12_laws 210 = .ok (.istore 4, 2) := by decide +kernel
theorem dX12_laws_212 : decode cX12_laws 212 = .ok (.aload_n 0, 1) := by decide +kernel
theorem dX12_laws_213 : decode cX12_laws 213 = .ok (.bipush 13, 2) := by decide +kernel
theorem dX12_laws_215 : decode cX12_laws 215 = .ok (.iload_n 3, 1) := by decide +kernel
theorem dX12_laws_216 : decode cX12_laws 216 = .ok (.iload_n 1, 1) := by decide +kernel
theorem dX12_laws_217 : decode cX12_laws 217 = .ok (.invokevirtual 197, 3) := by decide +kernel
theorem dX12_laws_220 : decode cX12_laws 220 = .ok (.ifCond .eq 29, 3) := by decide +kernel
theorem dX12_laws_223 : decode cX12_laws 223 = .ok (.aload_n 0, 1) := by decide +kernel
theorem dX12_laws_224 : decode cX12_laws 224 = .ok (.bipush 20, 2) := by decide +kernel
theorem dX12_laws_226 : decode cX12_laws 226 = .ok (.iload_n 3, 1) := by decide +kernel
theorem dX12_laws_227 : decode cX12_laws 227 = .ok (.bipush 9, 2) := by decide +kernel
theorem dX12_laws_229 : decode cX12_laws 229 = .ok (.invokevirtual 197, 3) := by decide +kernel
theorem dX12_laws_232 : decode cX12_laws 232 = .ok (.ifCond .eq 17, 3) := by decide +kernel
theorem dX12_laws_235 : decode cX12_laws 235 = .ok (.aload_n 0, 1) := by decide +kernel
theorem dX12_laws_236 : decode cX12_laws 236 = .ok (.bipush 13, 2) := by decide +kernel
theorem dX12_laws_238 : decode cX12_laws 238 = .ok (.bipush 10, 2) := by decide +kernel
theorem dX12_laws_240 : decode cX12_laws 240 = .ok (.bipush 20, 2) := by decide +kernel
theorem dX12_laws_242 : decode cX12_laws 242 = .ok (.iload_n 3, 1) := by decide +kernel
theorem dX12_laws_243 : decode cX12_laws 243 = .ok (.invokevirtual 392, 3) := by decide +kernel
theorem dX12_laws_246 : decode cX12_laws 246 = .ok (.ifCond .ne 6, 3) := by decide +kernel
theorem dX12_laws_249 : decode cX12_laws 249 = .ok (.bipush (-2), 2) := by decide +kernel
theorem dX12_laws_251 : decode cX12_laws 251 = .ok (.ireturn, 1) := by decide +kernel
theorem dX12_laws_252 : decode cX12_laws 252 = .ok (.aload_n 0, 1) := by decide +kernel
theorem dX12_laws_253 : decode cX12_laws 253 = .ok (.bipush 14, 2) := by decide +kernel
theorem dX12_laws_255 : decode cX12_laws 255 = .ok (.bipush 15, 2) := by decide +kernel
theorem dX12_laws_257 : decode cX12_laws 257 = .ok (.invokevirtual 280, 3) := by decide +kernel
theorem dX12_laws_260 : decode cX12_laws 260 = .ok (.ifCond .eq 10, 3) := by decide +kernel
theorem dX12_laws_263 : decode cX12_laws 263 = .ok (.iload 4, 2) := by decide +kernel
theorem dX12_laws_265 : decode cX12_laws 265 = .ok (.bipush 32, 2) := by decide +kernel
theorem dX12_laws_267 : decode cX12_laws 267 = .ok (.ior, 1) := by decide +kernel
theorem dX12_laws_268 : decode cX12_laws 268 = .ok (.istore 4, 2) := by decide +kernel
theorem dX12_laws_270 : decode cX12_laws 270 = .ok (.ldc2_w 141, 3) := by decide +kernel
theorem dX12_laws_273 : decode cX12_laws 273 = .ok (.aload_n 0, 1) := by decide +kernel
theorem dX12_laws_274 : decode cX12_laws 274 = .ok (.bipush 9, 2) := by decide +kernel
theorem dX12_laws_276 : decode cX12_laws 276 = .ok (.invokevirtual 137, 3) := by decide +kernel
theorem dX12_laws_279 : decode cX12_laws 279 = .ok (.lmul, 1) := by decide +kernel
theorem dX12_laws_280 : decode cX12_laws 280 = .ok (.aload_n 0, 1) := by decide +kernel
theorem dX12_laws_281 : decode cX12_laws 281 = .ok (.iload_n 1, 1) := by decide +kernel
theorem dX12_laws_282 : decode cX12_laws 282 = .ok (.invokevirtual 137, 3) := by decide +kernel
theorem dX12_laws_285 : decode cX12_laws 285 = .ok (.aload_n 0, 1) := by decide +kernel
theorem dX12_laws_286 : decode cX12_laws 286 = .ok (.iload_n 2, 1) := by decide +kernel
theorem dX12_laws_287 : decode cX12_laws 287 = .ok (.invokevirtual 137, 3) := by decide +kernel
theorem dX12_laws_290 : decode cX12_laws 290 = .ok (.lmul, 1) := by decide +kernel
theorem dX12_laws_291 : decode cX12_laws 291 = .ok (.lcmp, 1) := by decide +kernel
theorem dX12_laws_292 : decode cX12_laws 292 = .ok (.ifCond .ne 10, 3) := by decide +kernel
theorem dX12_laws_295 : decode cX12_laws 295 = .ok (.iload 4, 2) := by decide +kernel
theorem dX12_laws_297 : decode cX12_laws 297 = .ok (.bipush 64, 2) := by decide +kernel
theorem dX12_laws_299 : decode cX12_laws 299 = .ok (.ior, 1) := by decide +kernel
theorem dX12_laws_300 : decode cX12_laws 300 = .ok (.istore 4, 2) := by decide +kernel
theorem dX12_laws_302 : decode cX12_laws 302 = .ok (.aload_n 0, 1) := by decide +kernel
theorem dX12_laws_303 : decode cX12_laws 303 = .ok (.bipush 13, 2) := by decide +kernel
theorem dX12_laws_305 : decode cX12_laws 305 = .ok (.bipush 13, 2) := by decide +kernel
theorem dX12_laws_307 : decode cX12_laws 307 = .ok (.iload_n 3, 1) := by decide +kernel
theorem dX12_laws_308 : decode cX12_laws 308 = .ok (.invokevirtual 197, 3) := by decide +kernel
theorem dX12_laws_311 : decode cX12_laws 311 = .ok (.ifCond .eq 39, 3) := by decide +kernel
theorem dX12_laws_314 : decode cX12_laws 314 = .ok (.aload_n 0, 1) := by decide +kernel
theorem dX12_laws_315 : decode cX12_laws 315 = .ok (.bipush 20, 2) := by decide +kernel
theorem dX12_laws_317 : decode cX12_laws 317 = .ok (.iload_n 3, 1) := by decide +kernel
theorem dX12_laws_318 : decode cX12_laws 318 = .ok (.iload_n 2, 1) := by decide +kernel
theorem dX12_laws_319 : decode cX12_laws 319 = .ok (.invokevirtual 197, 3) := by decide +kernel
theorem dX12_laws_322 : decode cX12_laws 322 = .ok (.ifCond .eq 28, 3) := by decide +kernel
theorem dX12_laws_325 : decode cX12_laws 325 = .ok (.aload_n 0, 1) := by decide +kernel
theorem dX12_laws_326 : decode cX12_laws 326 = .ok (.bipush 20, 2) := by decide +kernel
theorem dX12_laws_328 : decode cX12_laws 328 = .ok (.iload_n 1, 1) := by decide +kernel
theorem dX12_laws_329 : decode cX12_laws 329 = .ok (.bipush 20, 2) := by decide +kernel
theorem dX12_laws_331 : decode cX12_laws 331 = .ok (.invokevirtual 197, 3) := by decide +kernel
theorem dX12_laws_334 : decode cX12_laws 334 = .ok (.ifCond .eq 16, 3) := by decide +kernel
theorem dX12_laws_337 : decode cX12_laws 337 = .ok (.aload_n 0, 1) := by decide +kernel
theorem dX12_laws_338 : decode cX12_laws 338 = .ok (.bipush 13, 2) := by decide +kernel
theorem dX12_laws_340 : decode cX12_laws 340 = .ok (.iload_n 2, 1) := by decide +kernel
theorem dX12_laws_341 : decode cX12_laws 341 = .ok (.iload_n 3, 1) := by decide +kernel
theorem dX12_laws_342 : decode cX12_laws 342 = .ok (.bipush 20, 2) := by decide +kernel
theorem dX12_laws_344 : decode cX12_laws 344 = .ok (.invokevirtual 392, 3) := by decide +kernel
theorem dX12_laws_347 : decode cX12_laws 347 = .ok (.ifCond .ne 6, 3) := by decide +kernel
theorem dX12_laws_350 : decode cX12_laws 350 = .ok (.bipush (-2), 2) := by decide +kernel
theorem dX12_laws_352 : decode cX12_laws 352 = .ok (.ireturn, 1) := by decide +kernel
theorem dX12_laws_353 : decode cX12_laws 353 = .ok (.aload_n 0, 1) := by decide +kernel
theorem dX12_laws_354 : decode cX12_laws 354 = .ok (.bipush 14, 2) := by decide +kernel
theorem dX12_laws_356 : decode cX12_laws 356 = .ok (.bipush 15, 2) := by decide +kernel
theorem dX12_laws_358 : decode cX12_laws 358 = .ok (.invokevirtual 280, 3) := by decide +kernel
theorem dX12_laws_361 : decode cX12_laws 361 = .ok (.ifCond .eq 11, 3) := by decide +kernel
theorem dX12_laws_364 : decode cX12_laws 364 = .ok (.iload 4, 2) := by decide +kernel
theorem dX12_laws_366 : decode cX12_laws 366 = .ok (.sipush 128, 3) := by decide +kernel
theorem dX12_laws_369 : decode cX12_laws 369 = .ok (.ior, 1) := by decide +kernel
theorem dX12_laws_370 : decode cX12_laws 370 = .ok (.istore 4, 2) := by decide +kernel
theorem dX12_laws_372 : decode cX12_laws 372 = .ok (.iload 4, 2) := by decide +kernel
theorem dX12_laws_374 : decode cX12_laws 374 = .ok (.ireturn, 1) := by decide +kernel
theorem dX12_keep_0 : decode cX12_keep 0 = .ok (.aload_n 0, 1) := by decide +kernel
theorem dX12_keep_1 : decode cX12_keep 1 = .ok (.getfield 395, 3) := by decide +kernel
theorem dX12_keep_4 : decode cX12_keep 4 = .ok (.bipush 6, 2) := by decide +kernel
theorem dX12_keep_6 : decode cX12_keep 6 = .ok (.if_icmp .ne 5, 3) := by decide +kernel
theorem dX12_keep_9 : decode cX12_keep 9 = .ok (.iconst (-1), 1) := by decide +kernel
theorem dX12_keep_10 : decode cX12_keep 10 = .ok (.ireturn, 1) := by decide +kernel
theorem dX12_keep_11 : decode cX12_keep 11 = .ok (.iconst 0, 1) := by decide +kernel
theorem dX12_keep_12 : decode cX12_keep 12 = .ok (.istore_n 1, 1) := by decide +kernel
theorem dX12_keep_13 : decode cX12_keep 13 = .ok (.iload_n 1, 1) := by decide +kernel
theorem dX12_keep_14 : decode cX12_keep 14 = .ok (.bipush 64, 2) := by decide +kernel
theorem dX12_keep_16 : decode cX12_keep 16 = .ok (.if_icmp .ge 29, 3) := by decide +kernel
theorem dX12_keep_19 : decode cX12_keep 19 = .ok (.aload_n 0, 1) := by decide +kernel
theorem dX12_keep_20 : decode cX12_keep 20 = .ok (.getfield 90, 3) := by decide +kernel
theorem dX12_keep_23 : decode cX12_keep 23 = .ok (.bipush 65, 2) := by decide +kernel
theorem dX12_keep_25 : decode cX12_keep 25 = .ok (.aload_n 0, 1) := by decide +kernel
theorem dX12_keep_26 : decode cX12_keep 26 = .ok (.getfield 395, 3) := by decide +kernel
theorem dX12_keep_29 : decode cX12_keep 29 = .ok (.imul, 1) := by decide +kernel
theorem dX12_keep_30 : decode cX12_keep 30 = .ok (.iload_n 1, 1) := by decide +kernel
theorem dX12_keep_31 : decode cX12_keep 31 = .ok (.iadd, 1) := by decide +kernel
theorem dX12_keep_32 : decode cX12_keep 32 = .ok (.aload_n 0, 1) := by decide +kernel
theorem dX12_keep_33 : decode cX12_keep 33 = .ok (.getfield 17, 3) := by decide +kernel
theorem dX12_keep_36 : decode cX12_keep 36 = .ok (.iload_n 1, 1) := by decide +kernel
theorem dX12_keep_37 : decode cX12_keep 37 = .ok (.iaload, 1) := by decide +kernel
theorem dX12_keep_38 : decode cX12_keep 38 = .ok (.iastore, 1) := by decide +kernel
theorem dX12_keep_39 : decode cX12_keep 39 = .ok (.iinc 1 1, 3) := by decide +kernel
theorem dX12_keep_42 : decode cX12_keep 42 = .ok (.goto (-29), 3) := by decide +kernel
theorem dX12_keep_45 : decode cX12_keep 45 = .ok (.aload_n 0, 1) := by decide +kernel
theorem dX12_keep_46 : decode cX12_keep 46 = .ok (.getfield 90, 3) := by decide +kernel
theorem dX12_keep_49 : decode cX12_keep 49 = .ok (.bipush 65, 2) := by decide +kernel
theorem dX12_keep_51 : decode cX12_keep 51 = .ok (.aload_n 0, 1) := by decide +kernel
theorem dX12_keep_52 : decode cX12_keep 52 = .ok (.getfield 395, 3) := by decide +kernel
theorem dX12_keep_55 : decode cX12_keep 55 = .ok (.imul, 1) := by decide +kernel
theorem dX12_keep_56 : decode cX12_keep 56 = .ok (.bipush 64, 2) := by decide +kernel
theorem dX12_keep_58 : decode cX12_keep 58 = .ok (.iadd, 1) := by decide +kernel
theorem dX12_keep_59 : decode cX12_keep 59 = .ok (.aload_n 0, 1) := by decide +kernel
theorem dX12_keep_60 : decode cX12_keep 60 = .ok (.getfield 24, 3) := by decide +kernel
theorem dX12_keep_63 : decode cX12_keep 63 = .ok (.iastore, 1) := by decide +kernel
theorem dX12_keep_64 : decode cX12_keep 64 = .ok (.aload_n 0, 1) := by decide +kernel
theorem dX12_keep_65 : decode cX12_keep 65 = .ok (.dup, 1) := by decide +kernel
theorem dX12_keep_66 : decode cX12_keep 66 = .ok (.getfield 395, 3) := by decide +kernel
theorem dX12_keep_69 : decode cX12_keep 69 = .ok (.iconst 1, 1) := by decide +kernel
theorem dX12_keep_70 : decode cX12_keep 70 = .ok (.iadd, 1) := by decide +kernel
theorem dX12_keep_71 : decode cX12_keep 71 = .ok (.putfield 395, 3) := by decide +kernel
theorem dX12_keep_74 : decode cX12_keep 74 = .ok (.aload_n 0, 1) := by decide +kernel
theorem dX12_keep_75 : decode cX12_keep 75 = .ok (.getfield 395, 3) := by decide +kernel
theorem dX12_keep_78 : decode cX12_keep 78 = .ok (.ireturn, 1) := by decide +kernel
theorem dX12_restore_0 : decode cX12_restore 0 = .ok (.aload_n 0, 1) := by decide +kernel
theorem dX12_restore_1 : decode cX12_restore 1 = .ok (.getfield 395, 3) := by decide +kernel
theorem dX12_restore_4 : decode cX12_restore 4 = .ok (.ifCond .ne 5, 3) := by decide +kernel
theorem dX12_restore_7 : decode cX12_restore 7 = .ok (.iconst (-1), 1) := by decide +kernel
theorem dX12_restore_8 : decode cX12_restore 8 = .ok (.ireturn, 1) := by decide +kernel
theorem dX12_restore_9 : decode cX12_restore 9 = .ok (.aload_n 0, 1) := by decide +kernel
theorem dX12_restore_10 : decode cX12_restore 10 = .ok (.dup, 1) := by decide +kernel
theorem dX12_restore_11 : decode cX12_restore 11 = .ok (.getfield 395, 3) := by decide +kernel
theorem dX12_restore_14 : decode cX12_restore 14 = .ok (.iconst 1, 1) := by decide +kernel
theorem dX12_restore_15 : decode cX12_restore 15 = .ok (.isub, 1) := by decide +kernel
theorem dX12_restore_16 : decode cX12_restore 16 = .ok (.putfield 395, 3) := by decide +kernel
theorem dX12_restore_19 : decode cX12_restore 19 = .ok (.iconst 0, 1) := by decide +kernel
theorem dX12_restore_20 : decode cX12_restore 20 = .ok (.istore_n 1, 1) := by decide +kernel
theorem dX12_restore_21 : decode cX12_restore 21 = .ok (.iload_n 1, 1) := by decide +kernel
theorem dX12_restore_22 : decode cX12_restore 22 = .ok (.bipush 64, 2) := by decide +kernel
theorem dX12_restore_24 : decode cX12_restore 24 = .ok (.if_icmp .ge 29, 3) := by decide +kernel
theorem dX12_restore_27 : decode cX12_restore 27 = .ok (.aload_n 0, 1) := by decide +kernel
theorem dX12_restore_28 : decode cX12_restore 28 = .ok (.getfield 17, 3) := by decide +kernel
theorem dX12_restore_31 : decode cX12_restore 31 = .ok (.iload_n 1, 1) := by decide +kernel
theorem dX12_restore_32 : decode cX12_restore 32 = .ok (.aload_n 0, 1) := by decide +kernel
theorem dX12_restore_33 : decode cX12_restore 33 = .ok (.getfield 90, 3) := by decide +kernel
theorem dX12_restore_36 : decode cX12_restore 36 = .ok (.bipush 65, 2) := by decide +kernel
theorem dX12_restore_38 : decode cX12_restore 38 = .ok (.aload_n 0, 1) := by decide +kernel
theorem dX12_restore_39 : decode cX12_restore 39 = .ok (.getfield 395, 3) := by decide +kernel
theorem dX12_restore_42 : decode cX12_restore 42 = .ok (.imul, 1) := by decide +kernel
theorem dX12_restore_43 : decode cX12_restore 43 = .ok (.iload_n 1, 1) := by decide +kernel
theorem dX12_restore_44 : decode cX12_restore 44 = .ok (.iadd, 1) := by decide +kernel
theorem dX12_restore_45 : decode cX12_restore 45 = .ok (.iaload, 1) := by decide +kernel
theorem dX12_restore_46 : decode cX12_restore 46 = .ok (.iastore, 1) := by decide +kernel
theorem dX12_restore_47 : decode cX12_restore 47 = .ok (.iinc 1 1, 3) := by decide +kernel
theorem dX12_restore_50 : decode cX12_restore 50 = .ok (.goto (-29), 3) := by decide +kernel
theorem dX12_restore_53 : decode cX12_restore 53 = .ok (.aload_n 0, 1) := by decide +kernel
theorem dX12_restore_54 : decode cX12_restore 54 = .ok (.aload_n 0, 1) := by decide +kernel
theorem dX12_restore_55 : decode cX12_restore 55 = .ok (.getfield 90, 3) := by decide +kernel
theorem dX12_restore_58 : decode cX12_restore 58 = .ok (.bipush 65, 2) := by decide +kernel
theorem dX12_restore_60 : decode cX12_restore 60 = .ok (.aload_n 0, 1) := by decide +kernel
theorem dX12_restore_61 : decode cX12_restore 61 = .ok (.getfield 395, 3) := by decide +kernel
theorem dX12_restore_64 : decode cX12_restore 64 = .ok (.imul, 1) := by decide +kernel
theorem dX12_restore_65 : decode cX12_restore 65 = .ok (.bipush 64, 2) := by decide +kernel
theorem dX12_restore_67 : decode cX12_restore 67 = .ok (.iadd, 1) := by decide +kernel
theorem dX12_restore_68 : decode cX12_restore 68 = .ok (.iaload, 1) := by decide +kernel
theorem dX12_restore_69 : decode cX12_restore 69 = .ok (.putfield 24, 3) := by decide +kernel
theorem dX12_restore_72 : decode cX12_restore 72 = .ok (.aload_n 0, 1) := by decide +kernel
theorem dX12_restore_73 : decode cX12_restore 73 = .ok (.getfield 395, 3) := by decide +kernel
theorem dX12_restore_76 : decode cX12_restore 76 = .ok (.ireturn, 1) := by decide +kernel
theorem dX12_wholes_0 : decode cX12_wholes 0 = .ok (.iconst 0, 1) := by decide +kernel
theorem dX12_wholes_1 : decode cX12_wholes 1 = .ok (.istore_n 1, 1) := by decide +kernel
theorem dX12_wholes_2 : decode cX12_wholes 2 = .ok (.iconst 0, 1) := by decide +kernel
theorem dX12_wholes_3 : decode cX12_wholes 3 = .ok (.istore_n 2, 1) := by decide +kernel
theorem dX12_wholes_4 : decode cX12_wholes 4 = .ok (.iload_n 2, 1) := by decide +kernel
theorem dX12_wholes_5 : decode cX12_wholes 5 = .ok (.bipush 8, 2) := by decide +kernel
theorem dX12_wholes_7 : decode cX12_wholes 7 = .ok (.if_icmp .ge 23, 3) := by decide +kernel
theorem dX12_wholes_10 : decode cX12_wholes 10 = .ok (.aload_n 0, 1) := by decide +kernel
theorem dX12_wholes_11 : decode cX12_wholes 11 = .ok (.iload_n 2, 1) := by decide +kernel
theorem dX12_wholes_12 : decode cX12_wholes 12 = .ok (.invokevirtual 134, 3) := by decide +kernel
theorem dX12_wholes_15 : decode cX12_wholes 15 = .ok (.ifCond .eq 9, 3) := by decide +kernel
theorem dX12_wholes_18 : decode cX12_wholes 18 = .ok (.iload_n 1, 1) := by decide +kernel
theorem dX12_wholes_19 : decode cX12_wholes 19 = .ok (.iconst 1, 1) := by decide +kernel
theorem dX12_wholes_20 : decode cX12_wholes 20 = .ok (.iload_n 2, 1) := by decide +kernel
theorem dX12_wholes_21 : decode cX12_wholes 21 = .ok (.ishl, 1) := by decide +kernel
theorem dX12_wholes_22 : decode cX12_wholes 22 = .ok (.ior, 1) := by decide +kernel
theorem dX12_wholes_23 : decode cX12_wholes 23 = .ok (.istore_n 1, 1) := by decide +kernel
theorem dX12_wholes_24 : decode cX12_wholes 24 = .ok (.iinc 2 1, 3) := by decide +kernel
theorem dX12_wholes_27 : decode cX12_wholes 27 = .ok (.goto (-23), 3) := by decide +kernel
theorem dX12_wholes_30 : decode cX12_wholes 30 = .ok (.iload_n 1, 1) := by decide +kernel
theorem dX12_wholes_31 : decode cX12_wholes 31 = .ok (.ireturn, 1) := by decide +kernel
theorem dX12_noughts_0 : decode cX12_noughts 0 = .ok (.iconst 0, 1) := by decide +kernel
theorem dX12_noughts_1 : decode cX12_noughts 1 = .ok (.istore_n 1, 1) := by decide +kernel
theorem dX12_noughts_2 : decode cX12_noughts 2 = .ok (.iconst 0, 1) := by decide +kernel
theorem dX12_noughts_3 : decode cX12_noughts 3 = .ok (.istore_n 2, 1) := by decide +kernel
theorem dX12_noughts_4 : decode cX12_noughts 4 = .ok (.iload_n 2, 1) := by decide +kernel
theorem dX12_noughts_5 : decode cX12_noughts 5 = .ok (.bipush 8, 2) := by decide +kernel
theorem dX12_noughts_7 : decode cX12_noughts 7 = .ok (.if_icmp .ge 23, 3) := by decide +kernel
theorem dX12_noughts_10 : decode cX12_noughts 10 = .ok (.aload_n 0, 1) := by decide +kernel
theorem dX12_noughts_11 : decode cX12_noughts 11 = .ok (.iload_n 2, 1) := by decide +kernel
theorem dX12_noughts_12 : decode cX12_noughts 12 = .ok (.invokevirtual 258, 3) := by decide +kernel
theorem dX12_noughts_15 : decode cX12_noughts 15 = .ok (.ifCond .eq 9, 3) := by decide +kernel
theorem dX12_noughts_18 : decode cX12_noughts 18 = .ok (.iload_n 1, 1) := by decide +kernel
theorem dX12_noughts_19 : decode cX12_noughts 19 = .ok (.iconst 1, 1) := by decide +kernel
theorem dX12_noughts_20 : decode cX12_noughts 20 = .ok (.iload_n 2, 1) := by decide +kernel
theorem dX12_noughts_21 : decode cX12_noughts 21 = .ok (.ishl, 1) := by decide +kernel
theorem dX12_noughts_22 : decode cX12_noughts 22 = .ok (.ior, 1) := by decide +kernel
theorem dX12_noughts_23 : decode cX12_noughts 23 = .ok (.istore_n 1, 1) := by decide +kernel
theorem dX12_noughts_24 : decode cX12_noughts 24 = .ok (.iinc 2 1, 3) := by decide +kernel
theorem dX12_noughts_27 : decode cX12_noughts 27 = .ok (.goto (-23), 3) := by decide +kernel
theorem dX12_noughts_30 : decode cX12_noughts 30 = .ok (.iload_n 1, 1) := by decide +kernel
theorem dX12_noughts_31 : decode cX12_noughts 31 = .ok (.ireturn, 1) := by decide +kernel
theorem dX12_count_0 : decode cX12_count 0 = .ok (.iload_n 1, 1) := by decide +kernel
theorem dX12_count_1 : decode cX12_count 1 = .ok (.tableswitch 61 0 4 #[35, 40, 46, 51, 56], 35) := by decide +kernel
theorem dX12_count_36 : decode cX12_count 36 = .ok (.aload_n 0, 1) := by decide +kernel
theorem dX12_count_37 : decode cX12_count 37 = .ok (.getfield 24, 3) := by decide +kernel
theorem dX12_count_40 : decode cX12_count 40 = .ok (.ireturn, 1) := by decide +kernel
theorem dX12_count_41 : decode cX12_count 41 = .ok (.aload_n 0, 1) := by decide +kernel
theorem dX12_count_42 : decode cX12_count 42 = .ok (.iconst 1, 1) := by decide +kernel
theorem dX12_count_43 : decode cX12_count 43 = .ok (.invokevirtual 158, 3) := by decide +kernel
theorem dX12_count_46 : decode cX12_count 46 = .ok (.ireturn, 1) := by decide +kernel
theorem dX12_count_47 : decode cX12_count 47 = .ok (.aload_n 0, 1) := by decide +kernel
theorem dX12_count_48 : decode cX12_count 48 = .ok (.invokevirtual 398, 3) := by decide +kernel
theorem dX12_count_51 : decode cX12_count 51 = .ok (.ireturn, 1) := by decide +kernel
theorem dX12_count_52 : decode cX12_count 52 = .ok (.aload_n 0, 1) := by decide +kernel
theorem dX12_count_53 : decode cX12_count 53 = .ok (.getfield 395, 3) := by decide +kernel
theorem dX12_count_56 : decode cX12_count 56 = .ok (.ireturn, 1) := by decide +kernel
theorem dX12_count_57 : decode cX12_count 57 = .ok (.aload_n 0, 1) := by decide +kernel
theorem dX12_count_58 : decode cX12_count 58 = .ok (.invokevirtual 401, 3) := by decide +kernel
theorem dX12_count_61 : decode cX12_count 61 = .ok (.ireturn, 1) := by decide +kernel
theorem dX12_count_62 : decode cX12_count 62 = .ok (.iconst (-1), 1) := by decide +kernel
theorem dX12_count_63 : decode cX12_count 63 = .ok (.ireturn, 1) := by decide +kernel
