theorem dX0_init_0 : decode cX0_init 0 = .ok (.aload_n 0, 1) := by decide +kernel
theorem dX0_init_1 : decode cX0_init 1 = .ok (.invokespecial 3, 3) := by decide +kernel
theorem dX0_init_4 : decode cX0_init 4 = .ok (.aload_n 0, 1) := by decide +kernel
theorem dX0_init_5 : decode cX0_init 5 = .ok (.bipush 8, 2) := by decide +kernel
theorem dX0_init_7 : decode cX0_init 7 = .ok (.newarray .int, 2) := by decide +kernel
theorem dX0_init_9 : decode cX0_init 9 = .ok (.putfield 9, 3) := by decide +kernel
theorem dX0_init_12 : decode cX0_init 12 = .ok (.aload_n 0, 1) := by decide +kernel
theorem dX0_init_13 : decode cX0_init 13 = .ok (.bipush 8, 2) := by decide +kernel
theorem dX0_init_15 : decode cX0_init 15 = .ok (.newarray .int, 2) := by decide +kernel
theorem dX0_init_17 : decode cX0_init 17 = .ok (.putfield 15, 3) := by decide +kernel
theorem dX0_init_20 : decode cX0_init 20 = .ok (.aload_n 0, 1) := by decide +kernel
theorem dX0_init_21 : decode cX0_init 21 = .ok (.bipush 8, 2) := by decide +kernel
theorem dX0_init_23 : decode cX0_init 23 = .ok (.newarray .int, 2) := by decide +kernel
theorem dX0_init_25 : decode cX0_init 25 = .ok (.putfield 18, 3) := by decide +kernel
theorem dX0_init_28 : decode cX0_init 28 = .ok (.aload_n 0, 1) := by decide +kernel
theorem dX0_init_29 : decode cX0_init 29 = .ok (.bipush 8, 2) := by decide +kernel
theorem dX0_init_31 : decode cX0_init 31 = .ok (.newarray .int, 2) := by decide +kernel
theorem dX0_init_33 : decode cX0_init 33 = .ok (.putfield 21, 3) := by decide +kernel
theorem dX0_init_36 : decode cX0_init 36 = .ok (.aload_n 0, 1) := by decide +kernel
theorem dX0_init_37 : decode cX0_init 37 = .ok (.bipush 8, 2) := by decide +kernel
theorem dX0_init_39 : decode cX0_init 39 = .ok (.newarray .int, 2) := by decide +kernel
theorem dX0_init_41 : decode cX0_init 41 = .ok (.putfield 24, 3) := by decide +kernel
theorem dX0_init_44 : decode cX0_init 44 = .ok (.aload_n 0, 1) := by decide +kernel
theorem dX0_init_45 : decode cX0_init 45 = .ok (.bipush 8, 2) := by decide +kernel
theorem dX0_init_47 : decode cX0_init 47 = .ok (.newarray .long, 2) := by decide +kernel
theorem dX0_init_49 : decode cX0_init 49 = .ok (.putfield 27, 3) := by decide +kernel
theorem dX0_init_52 : decode cX0_init 52 = .ok (.aload_n 0, 1) := by decide +kernel
theorem dX0_init_53 : decode cX0_init 53 = .ok (.iconst 0, 1) := by decide +kernel
theorem dX0_init_54 : decode cX0_init 54 = .ok (.putfield 31, 3) := by decide +kernel
theorem dX0_init_57 : decode cX0_init 57 = .ok (.aload_n 0, 1) := by decide +kernel
theorem dX0_init_58 : decode cX0_init 58 = .ok (.lconst 0, 1) := by decide +kernel
theorem dX0_init_59 : decode cX0_init 59 = .ok (.putfield 35, 3) := by decide +kernel
theorem dX0_init_62 : decode cX0_init 62 = .ok (.aload_n 0, 1) := by decide +kernel
theorem dX0_init_63 : decode cX0_init 63 = .ok (.aload_n 1, 1) := by decide +kernel
theorem dX0_init_64 : decode cX0_init 64 = .ok (.putfield 39, 3) := by decide +kernel
theorem dX0_init_67 : decode cX0_init 67 = .ok (.aload_n 0, 1) := by decide +kernel
theorem dX0_init_68 : decode cX0_init 68 = .ok (.aload_n 2, 1) := by decide +kernel
theorem dX0_init_69 : decode cX0_init 69 = .ok (.putfield 43, 3) := by decide +kernel
theorem dX0_init_72 : decode cX0_init 72 = .ok (.return_, 1) := by decide +kernel
theorem dX0_split_0 : decode cX0_split 0 = .ok (.aload_n 2, 1) := by decide +kernel
theorem dX0_split_1 : decode cX0_split 1 = .ok (.invokestatic 47, 3) := by decide +kernel
theorem dX0_split_4 : decode cX0_split 4 = .ok (.lstore_n 3, 1) := by decide +kernel
theorem dX0_split_5 : decode cX0_split 5 = .ok (.lload_n 3, 1) := by decide +kernel
theorem dX0_split_6 : decode cX0_split 6 = .ok (.lconst 0, 1) := by decide +kernel
theorem dX0_split_7 : decode cX0_split 7 = .ok (.lcmp, 1) := by decide +kernel
theorem dX0_split_8 : decode cX0_split 8 = .ok (.ifCond .eq 13, 3) := by decide +kernel
theorem dX0_split_11 : decode cX0_split 11 = .ok (.lload_n 3, 1) := by decide +kernel
theorem dX0_split_12 : decode cX0_split 12 = .ok (.ldc2_w 53, 3) := by decide +kernel
theorem dX0_split_15 : decode cX0_split 15 = .ok (.lrem, 1) := by decide +kernel
theorem dX0_split_16 : decode cX0_split 16 = .ok (.lconst 0, 1) := by decide +kernel
theorem dX0_split_17 : decode cX0_split 17 = .ok (.lcmp, 1) := by decide +kernel
theorem dX0_split_18 : decode cX0_split 18 = .ok (.ifCond .eq 5, 3) := by decide +kernel
theorem dX0_split_21 : decode cX0_split 21 = .ok (.iconst 0, 1) := by decide +kernel
theorem dX0_split_22 : decode cX0_split 22 = .ok (.ireturn, 1) := by decide +kernel
theorem dX0_split_23 : decode cX0_split 23 = .ok (.aload_n 0, 1) := by decide +kernel
theorem dX0_split_24 : decode cX0_split 24 = .ok (.getfield 18, 3) := by decide +kernel
theorem dX0_split_27 : decode cX0_split 27 = .ok (.aload_n 2, 1) := by decide +kernel
theorem dX0_split_28 : decode cX0_split 28 = .ok (.invokestatic 55, 3) := by decide +kernel
theorem dX0_split_31 : decode cX0_split 31 = .ok (.aload_n 0, 1) := by decide +kernel
theorem dX0_split_32 : decode cX0_split 32 = .ok (.getfield 27, 3) := by decide +kernel
theorem dX0_split_35 : decode cX0_split 35 = .ok (.aload_n 1, 1) := by decide +kernel
theorem dX0_split_36 : decode cX0_split 36 = .ok (.aload_n 0, 1) := by decide +kernel
theorem dX0_split_37 : decode cX0_split 37 = .ok (.getfield 18, 3) := by decide +kernel
theorem dX0_split_40 : decode cX0_split 40 = .ok (.invokestatic 59, 3) := by decide +kernel
theorem dX0_split_43 : decode cX0_split 43 = .ok (.aload_n 0, 1) := by decide +kernel
theorem dX0_split_44 : decode cX0_split 44 = .ok (.getfield 27, 3) := by decide +kernel
theorem dX0_split_47 : decode cX0_split 47 = .ok (.invokestatic 63, 3) := by decide +kernel
theorem dX0_split_50 : decode cX0_split 50 = .ok (.ifCond .eq 69, 3) := by decide +kernel
theorem dX0_split_53 : decode cX0_split 53 = .ok (.aload_n 0, 1) := by decide +kernel
theorem dX0_split_54 : decode cX0_split 54 = .ok (.getfield 39, 3) := by decide +kernel
theorem dX0_split_57 : decode cX0_split 57 = .ok (.aload_n 0, 1) := by decide +kernel
theorem dX0_split_58 : decode cX0_split 58 = .ok (.getfield 9, 3) := by decide +kernel
theorem dX0_split_61 : decode cX0_split 61 = .ok (.aload_n 0, 1) := by decide +kernel
theorem dX0_split_62 : decode cX0_split 62 = .ok (.getfield 27, 3) := by decide +kernel
theorem dX0_split_65 : decode cX0_split 65 = .ok (.lload_n 3, 1) := by decide +kernel
theorem dX0_split_66 : decode cX0_split 66 = .ok (.ldc2_w 53, 3) := by decide +kernel
theorem dX0_split_69 : decode cX0_split 69 = .ok (.ldiv, 1) := by decide +kernel
theorem dX0_split_70 : decode cX0_split 70 = .ok (.invokevirtual 67, 3) := by decide +kernel
theorem dX0_split_73 : decode cX0_split 73 = .ok (.ifCond .eq 46, 3) := by decide +kernel
theorem dX0_split_76 : decode cX0_split 76 = .ok (.aload_n 0, 1) := by decide +kernel
theorem dX0_split_77 : decode cX0_split 77 = .ok (.getfield 43, 3) := by decide +kernel
theorem dX0_split_80 : decode cX0_split 80 = .ok (.aload_n 0, 1) := by decide +kernel
theorem dX0_split_81 : decode cX0_split 81 = .ok (.getfield 15, 3) := by decide +kernel
theorem dX0_split_84 : decode cX0_split 84 = .ok (.aload_n 0, 1) := by decide +kernel
theorem dX0_split_85 : decode cX0_split 85 = .ok (.getfield 9, 3) := by decide +kernel
theorem dX0_split_88 : decode cX0_split 88 = .ok (.aload_n 2, 1) := by decide +kernel
theorem dX0_split_89 : decode cX0_split 89 = .ok (.invokevirtual 73, 3) := by decide +kernel
theorem dX0_split_92 : decode cX0_split 92 = .ok (.ifCond .eq 27, 3) := by decide +kernel
theorem dX0_split_95 : decode cX0_split 95 = .ok (.aload_n 0, 1) := by decide +kernel
theorem dX0_split_96 : decode cX0_split 96 = .ok (.getfield 43, 3) := by decide +kernel
theorem dX0_split_99 : decode cX0_split 99 = .ok (.aload_n 0, 1) := by decide +kernel
theorem dX0_split_100 : decode cX0_split 100 = .ok (.getfield 15, 3) := by decide +kernel
theorem dX0_split_103 : decode cX0_split 103 = .ok (.aload_n 1, 1) := by decide +kernel
theorem dX0_split_104 : decode cX0_split 104 = .ok (.aload_n 0, 1) := by decide +kernel
theorem dX0_split_105 : decode cX0_split 105 = .ok (.getfield 15, 3) := by decide +kernel
theorem dX0_split_108 : decode cX0_split 108 = .ok (.iconst (-1), 1) := by decide +kernel
theorem dX0_split_109 : decode cX0_split 109 = .ok (.invokevirtual 79, 3) := by decide +kernel
theorem dX0_split_112 : decode cX0_split 112 = .ok (.ifCond .eq 7, 3) := by decide +kernel
theorem dX0_split_115 : decode cX0_split 115 = .ok (.iconst 1, 1) := by decide +kernel
theorem dX0_split_116 : decode cX0_split 116 = .ok (.goto 4, 3) := by decide +kernel
theorem dX0_split_119 : decode cX0_split 119 = .ok (.iconst 0, 1) := by decide +kernel
theorem dX0_split_120 : decode cX0_split 120 = .ok (.ireturn, 1) := by decide +kernel
theorem dX0_walk_0 : decode cX0_walk 0 = .ok (.aload_n 0, 1) := by decide +kernel
theorem dX0_walk_1 : decode cX0_walk 1 = .ok (.getfield 21, 3) := by decide +kernel
theorem dX0_walk_4 : decode cX0_walk 4 = .ok (.aload_n 1, 1) := by decide +kernel
theorem dX0_walk_5 : decode cX0_walk 5 = .ok (.invokestatic 83, 3) := by decide +kernel
theorem dX0_walk_8 : decode cX0_walk 8 = .ok (.aload_n 0, 1) := by decide +kernel
theorem dX0_walk_9 : decode cX0_walk 9 = .ok (.getfield 24, 3) := by decide +kernel
theorem dX0_walk_12 : decode cX0_walk 12 = .ok (.aload_n 2, 1) := by decide +kernel
theorem dX0_walk_13 : decode cX0_walk 13 = .ok (.invokestatic 83, 3) := by decide +kernel
theorem dX0_walk_16 : decode cX0_walk 16 = .ok (.aload_n 0, 1) := by decide +kernel
theorem dX0_walk_17 : decode cX0_walk 17 = .ok (.iconst 0, 1) := by decide +kernel
theorem dX0_walk_18 : decode cX0_walk 18 = .ok (.putfield 31, 3) := by decide +kernel
theorem dX0_walk_21 : decode cX0_walk 21 = .ok (.aload_n 0, 1) := by decide +kernel
theorem dX0_walk_22 : decode cX0_walk 22 = .ok (.lconst 0, 1) := by decide +kernel
theorem dX0_walk_23 : decode cX0_walk 23 = .ok (.putfield 35, 3) := by decide +kernel
theorem dX0_walk_26 : decode cX0_walk 26 = .ok (.aload_n 0, 1) := by decide +kernel
theorem dX0_walk_27 : decode cX0_walk 27 = .ok (.getfield 31, 3) := by decide +kernel
theorem dX0_walk_30 : decode cX0_walk 30 = .ok (.bipush 60, 2) := by decide +kernel
theorem dX0_walk_32 : decode cX0_walk 32 = .ok (.if_icmp .ge 57, 3) := by decide +kernel
theorem dX0_walk_35 : decode cX0_walk 35 = .ok (.aload_n 0, 1) := by decide +kernel
theorem dX0_walk_36 : decode cX0_walk 36 = .ok (.aload_n 0, 1) := by decide +kernel
theorem dX0_walk_37 : decode cX0_walk 37 = .ok (.getfield 21, 3) := by decide +kernel
theorem dX0_walk_40 : decode cX0_walk 40 = .ok (.aload_n 0, 1) := by decide +kernel
theorem dX0_walk_41 : decode cX0_walk 41 = .ok (.getfield 24, 3) := by decide +kernel
theorem dX0_walk_44 : decode cX0_walk 44 = .ok (.invokevirtual 86, 3) := by decide +kernel
theorem dX0_walk_47 : decode cX0_walk 47 = .ok (.ifCond .eq 42, 3) := by decide +kernel
theorem dX0_walk_50 : decode cX0_walk 50 = .ok (.aload_n 0, 1) := by decide +kernel
theorem dX0_walk_51 : decode cX0_walk 51 = .ok (.invokevirtual 90, 3) := by decide +kernel
theorem dX0_walk_54 : decode cX0_walk 54 = .ok (.aload_n 0, 1) := by decide +kernel
theorem dX0_walk_55 : decode cX0_walk 55 = .ok (.getfield 21, 3) := by decide +kernel
theorem dX0_walk_58 : decode cX0_walk 58 = .ok (.aload_n 0, 1) := by decide +kernel
theorem dX0_walk_59 : decode cX0_walk 59 = .ok (.getfield 24, 3) := by decide +kernel
theorem dX0_walk_62 : decode cX0_walk 62 = .ok (.invokestatic 83, 3) := by decide +kernel
theorem dX0_walk_65 : decode cX0_walk 65 = .ok (.aload_n 0, 1) := by decide +kernel
theorem dX0_walk_66 : decode cX0_walk 66 = .ok (.getfield 24, 3) := by decide +kernel
theorem dX0_walk_69 : decode cX0_walk 69 = .ok (.aload_n 0, 1) := by decide +kernel
theorem dX0_walk_70 : decode cX0_walk 70 = .ok (.getfield 15, 3) := by decide +kernel
theorem dX0_walk_73 : decode cX0_walk 73 = .ok (.invokestatic 83, 3) := by decide +kernel
theorem dX0_walk_76 : decode cX0_walk 76 = .ok (.aload_n 0, 1) := by decide +kernel
theorem dX0_walk_77 : decode cX0_walk 77 = .ok (.dup, 1) := by decide +kernel
theorem dX0_walk_78 : decode cX0_walk 78 = .ok (.getfield 31, 3) := by decide +kernel
theorem dX0_walk_81 : decode cX0_walk 81 = .ok (.iconst 1, 1) := by decide +kernel
theorem dX0_walk_82 : decode cX0_walk 82 = .ok (.iadd, 1) := by decide +kernel
theorem dX0_walk_83 : decode cX0_walk 83 = .ok (.putfield 31, 3) := by decide +kernel
theorem dX0_walk_86 : decode cX0_walk 86 = .ok (.goto (-60), 3) := by decide +kernel
theorem dX0_walk_89 : decode cX0_walk 89 = .ok (.return_, 1) := by decide +kernel
theorem dX0_lastOfWalk_0 : decode cX0_lastOfWalk 0 = .ok (.aload_n 0, 1) := by decide +kernel
theorem dX0_lastOfWalk_1 : decode cX0_lastOfWalk 1 = .ok (.getfield 24, 3) := by decide +kernel
theorem dX0_lastOfWalk_4 : decode cX0_lastOfWalk 4 = .ok (.invokestatic 93, 3) := by decide +kernel
theorem dX0_lastOfWalk_7 : decode cX0_lastOfWalk 7 = .ok (.ifCond .eq 10, 3) := by decide +kernel
theorem dX0_lastOfWalk_10 : decode cX0_lastOfWalk 10 = .ok (.aload_n 0, 1) := by decide +kernel
theorem dX0_lastOfWalk_11 : decode cX0_lastOfWalk 11 = .ok (.getfield 21, 3) := by decide +kernel
theorem dX0_lastOfWalk_14 : decode cX0_lastOfWalk 14 = .ok (.goto 7, 3) := by decide +kernel
theorem dX0_lastOfWalk_17 : decode cX0_lastOfWalk 17 = .ok (.aload_n 0, 1) := by decide +kernel
theorem dX0_lastOfWalk_18 : decode cX0_lastOfWalk 18 = .ok (.getfield 24, 3) := by decide +kernel
theorem dX0_lastOfWalk_21 : decode cX0_lastOfWalk 21 = .ok (.areturn, 1) := by decide +kernel
theorem dX0_lastNormBy4_0 : decode cX0_lastNormBy4 0 = .ok (.aload_n 0, 1) := by decide +kernel
theorem dX0_lastNormBy4_1 : decode cX0_lastNormBy4 1 = .ok (.getfield 24, 3) := by decide +kernel
theorem dX0_lastNormBy4_4 : decode cX0_lastNormBy4 4 = .ok (.invokestatic 47, 3) := by decide +kernel
theorem dX0_lastNormBy4_7 : decode cX0_lastNormBy4 7 = .ok (.lreturn, 1) := by decide +kernel
theorem dX0_divides_0 : decode cX0_divides 0 = .ok (.aload_n 0, 1) := by decide +kernel
theorem dX0_divides_1 : decode cX0_divides 1 = .ok (.getfield 18, 3) := by decide +kernel
theorem dX0_divides_4 : decode cX0_divides 4 = .ok (.aload_n 1, 1) := by decide +kernel
theorem dX0_divides_5 : decode cX0_divides 5 = .ok (.invokestatic 55, 3) := by decide +kernel
theorem dX0_divides_8 : decode cX0_divides 8 = .ok (.iload 4, 2) := by decide +kernel
theorem dX0_divides_10 : decode cX0_divides 10 = .ok (.ifCond .eq 18, 3) := by decide +kernel
theorem dX0_divides_13 : decode cX0_divides 13 = .ok (.aload_n 0, 1) := by decide +kernel
theorem dX0_divides_14 : decode cX0_divides 14 = .ok (.getfield 27, 3) := by decide +kernel
theorem dX0_divides_17 : decode cX0_divides 17 = .ok (.aload_n 3, 1) := by decide +kernel
theorem dX0_divides_18 : decode cX0_divides 18 = .ok (.aload_n 0, 1) := by decide +kernel
theorem dX0_divides_19 : decode cX0_divides 19 = .ok (.getfield 18, 3) := by decide +kernel
theorem dX0_divides_22 : decode cX0_divides 22 = .ok (.invokestatic 59, 3) := by decide +kernel
theorem dX0_divides_25 : decode cX0_divides 25 = .ok (.goto 15, 3) := by decide +kernel
theorem dX0_divides_28 : decode cX0_divides 28 = .ok (.aload_n 0, 1) := by decide +kernel
theorem dX0_divides_29 : decode cX0_divides 29 = .ok (.getfield 27, 3) := by decide +kernel
theorem dX0_divides_32 : decode cX0_divides 32 = .ok (.aload_n 0, 1) := by decide +kernel
theorem dX0_divides_33 : decode cX0_divides 33 = .ok (.getfield 18, 3) := by decide +kernel
theorem dX0_divides_36 : decode cX0_divides 36 = .ok (.aload_n 3, 1) := by decide +kernel
theorem dX0_divides_37 : decode cX0_divides 37 = .ok (.invokestatic 59, 3) := by decide +kernel
theorem dX0_divides_40 : decode cX0_divides 40 = .ok (.aload_n 0, 1) := by decide +kernel
theorem dX0_divides_41 : decode cX0_divides 41 = .ok (.getfield 39, 3) := by decide +kernel
theorem dX0_divides_44 : decode cX0_divides 44 = .ok (.aload_n 0, 1) := by decide +kernel
theorem dX0_divides_45 : decode cX0_divides 45 = .ok (.getfield 27, 3) := by decide +kernel
theorem dX0_divides_48 : decode cX0_divides 48 = .ok (.ldc2_w 97, 3) := by decide +kernel
theorem dX0_divides_51 : decode cX0_divides 51 = .ok (.iload_n 2, 1) := by decide +kernel
theorem dX0_divides_52 : decode cX0_divides 52 = .ok (.i2l, 1) := by decide +kernel
theorem dX0_divides_53 : decode cX0_divides 53 = .ok (.lmul, 1) := by decide +kernel
theorem dX0_divides_54 : decode cX0_divides 54 = .ok (.invokevirtual 99, 3) := by decide +kernel
theorem dX0_divides_57 : decode cX0_divides 57 = .ok (.ireturn, 1) := by decide +kernel
theorem dX0_noteShare_0 : decode cX0_noteShare 0 = .ok (.aload_n 0, 1) := by decide +kernel
theorem dX0_noteShare_1 : decode cX0_noteShare 1 = .ok (.getfield 24, 3) := by decide +kernel
theorem dX0_noteShare_4 : decode cX0_noteShare 4 = .ok (.invokestatic 47, 3) := by decide +kernel
theorem dX0_noteShare_7 : decode cX0_noteShare 7 = .ok (.lstore_n 1, 1) := by decide +kernel
theorem dX0_noteShare_8 : decode cX0_noteShare 8 = .ok (.lload_n 1, 1) := by decide +kernel
theorem dX0_noteShare_9 : decode cX0_noteShare 9 = .ok (.lconst 0, 1) := by decide +kernel
theorem dX0_noteShare_10 : decode cX0_noteShare 10 = .ok (.lcmp, 1) := by decide +kernel
theorem dX0_noteShare_11 : decode cX0_noteShare 11 = .ok (.ifCond .le 27, 3) := by decide +kernel
theorem dX0_noteShare_14 : decode cX0_noteShare 14 = .ok (.aload_n 0, 1) := by decide +kernel
theorem dX0_noteShare_15 : decode cX0_noteShare 15 = .ok (.aload_n 0, 1) := by decide +kernel
theorem dX0_noteShare_16 : decode cX0_noteShare 16 = .ok (.getfield 35, 3) := by decide +kernel
theorem dX0_noteShare_19 : decode cX0_noteShare 19 = .ok (.ldc2_w 103, 3) := by decide +kernel
theorem dX0_noteShare_22 : decode cX0_noteShare 22 = .ok (.aload_n 0, 1) := by decide +kernel
theorem dX0_noteShare_23 : decode cX0_noteShare 23 = .ok (.getfield 15, 3) := by decide +kernel
theorem dX0_noteShare_26 : decode cX0_noteShare 26 = .ok (.invokestatic 47, 3) := by decide +kernel
theorem dX0_noteShare_29 : decode cX0_noteShare 29 = .ok (.lmul, 1) := by decide +kernel
theorem dX0_noteShare_30 : decode cX0_noteShare 30 = .ok (.lload_n 1, 1) := by decide +kernel
theorem dX0_noteShare_31 : decode cX0_noteShare 31 = .ok (.ldiv, 1) := by decide +kernel
theorem dX0_noteShare_32 : decode cX0_noteShare 32 = .ok (.invokestatic 105, 3) := by decide +kernel
theorem dX0_noteShare_35 : decode cX0_noteShare 35 = .ok (.putfield 35, 3) := by decide +kernel
theorem dX0_noteShare_38 : decode cX0_noteShare 38 = .ok (.return_, 1) := by decide +kernel
theorem dX1_init_0 : decode cX1_init 0 = .ok (.aload_n 0, 1) := by decide +kernel
theorem dX1_init_1 : decode cX1_init 1 = .ok (.invokespecial 3, 3) := by decide +kernel
theorem dX1_init_4 : decode cX1_init 4 = .ok (.aload_n 0, 1) := by decide +kernel
theorem dX1_init_5 : decode cX1_init 5 = .ok (.bipush 6, 2) := by decide +kernel
theorem dX1_init_7 : decode cX1_init 7 = .ok (.newarray .int, 2) := by decide +kernel
theorem dX1_init_9 : decode cX1_init 9 = .ok (.putfield 11, 3) := by decide +kernel
theorem dX1_init_12 : decode cX1_init 12 = .ok (.aload_n 0, 1) := by decide +kernel
theorem dX1_init_13 : decode cX1_init 13 = .ok (.sipush 384, 3) := by decide +kernel
theorem dX1_init_16 : decode cX1_init 16 = .ok (.newarray .int, 2) := by decide +kernel
theorem dX1_init_18 : decode cX1_init 18 = .ok (.putfield 15, 3) := by decide +kernel
theorem dX1_init_21 : decode cX1_init 21 = .ok (.aload_n 0, 1) := by decide +kernel
theorem dX1_init_22 : decode cX1_init 22 = .ok (.iconst 0, 1) := by decide +kernel
theorem dX1_init_23 : decode cX1_init 23 = .ok (.putfield 18, 3) := by decide +kernel
theorem dX1_init_26 : decode cX1_init 26 = .ok (.return_, 1) := by decide +kernel
theorem dX1_push_0 : decode cX1_push 0 = .ok (.aload_n 0, 1) := by decide +kernel
theorem dX1_push_1 : decode cX1_push 1 = .ok (.getfield 18, 3) := by decide +kernel
theorem dX1_push_4 : decode cX1_push 4 = .ok (.bipush 6, 2) := by decide +kernel
theorem dX1_push_6 : decode cX1_push 6 = .ok (.if_icmp .lt 5, 3) := by decide +kernel
theorem dX1_push_9 : decode cX1_push 9 = .ok (.iconst 0, 1) := by decide +kernel
theorem dX1_push_10 : decode cX1_push 10 = .ok (.ireturn, 1) := by decide +kernel
theorem dX1_push_11 : decode cX1_push 11 = .ok (.iconst 0, 1) := by decide +kernel
theorem dX1_push_12 : decode cX1_push 12 = .ok (.istore_n 3, 1) := by decide +kernel
theorem dX1_push_13 : decode cX1_push 13 = .ok (.iload_n 3, 1) := by decide +kernel
theorem dX1_push_14 : decode cX1_push 14 = .ok (.bipush 8, 2) := by decide +kernel
theorem dX1_push_16 : decode cX1_push 16 = .ok (.if_icmp .ge 34, 3) := by decide +kernel
theorem dX1_push_19 : decode cX1_push 19 = .ok (.aload_n 1, 1) := by decide +kernel
theorem dX1_push_20 : decode cX1_push 20 = .ok (.iload_n 3, 1) := by decide +kernel
theorem dX1_push_21 : decode cX1_push 21 = .ok (.aaload, 1) := by decide +kernel
theorem dX1_push_22 : decode cX1_push 22 = .ok (.iconst 0, 1) := by decide +kernel
theorem dX1_push_23 : decode cX1_push 23 = .ok (.aload_n 0, 1) := by decide +kernel
theorem dX1_push_24 : decode cX1_push 24 = .ok (.getfield 15, 3) := by decide +kernel
theorem dX1_push_27 : decode cX1_push 27 = .ok (.aload_n 0, 1) := by decide +kernel
theorem dX1_push_28 : decode cX1_push 28 = .ok (.getfield 18, 3) := by decide +kernel
theorem dX1_push_31 : decode cX1_push 31 = .ok (.bipush 64, 2) := by decide +kernel
theorem dX1_push_33 : decode cX1_push 33 = .ok (.imul, 1) := by decide +kernel
theorem dX1_push_34 : decode cX1_push 34 = .ok (.iload_n 3, 1) := by decide +kernel
theorem dX1_push_35 : decode cX1_push 35 = .ok (.bipush 8, 2) := by decide +kernel
theorem dX1_push_37 : decode cX1_push 37 = .ok (.imul, 1) := by decide +kernel
theorem dX1_push_38 : decode cX1_push 38 = .ok (.iadd, 1) := by decide +kernel
theorem dX1_push_39 : decode cX1_push 39 = .ok (.bipush 8, 2) := by decide +kernel
theorem dX1_push_41 : decode cX1_push 41 = .ok (.invokestatic 22, 3) := by decide +kernel
theorem dX1_push_44 : decode cX1_push 44 = .ok (.iinc 3 1, 3) := by decide +kernel
theorem dX1_push_47 : decode cX1_push 47 = .ok (.goto (-34), 3) := by decide +kernel
theorem dX1_push_50 : decode cX1_push 50 = .ok (.aload_n 0, 1) := by decide +kernel
theorem dX1_push_51 : decode cX1_push 51 = .ok (.getfield 11, 3) := by decide +kernel
theorem dX1_push_54 : decode cX1_push 54 = .ok (.aload_n 0, 1) := by decide +kernel
theorem dX1_push_55 : decode cX1_push 55 = .ok (.getfield 18, 3) := by decide +kernel
theorem dX1_push_58 : decode cX1_push 58 = .ok (.iload_n 2, 1) := by decide +kernel
theorem dX1_push_59 : decode cX1_push 59 = .ok (.iastore, 1) := by decide +kernel
theorem dX1_push_60 : decode cX1_push 60 = .ok (.aload_n 0, 1) := by decide +kernel
theorem dX1_push_61 : decode cX1_push 61 = .ok (.dup, 1) := by decide +kernel
theorem dX1_push_62 : decode cX1_push 62 = .ok (.getfield 18, 3) := by decide +kernel
theorem dX1_push_65 : decode cX1_push 65 = .ok (.iconst 1, 1) := by decide +kernel
theorem dX1_push_66 : decode cX1_push 66 = .ok (.iadd, 1) := by decide +kernel
theorem dX1_push_67 : decode cX1_push 67 = .ok (.putfield 18, 3) := by decide +kernel
theorem dX1_push_70 : decode cX1_push 70 = .ok (.iconst 1, 1) := by decide +kernel
theorem dX1_push_71 : decode cX1_push 71 = .ok (.ireturn, 1) := by decide +kernel
theorem dX1_pop_0 : decode cX1_pop 0 = .ok (.aload_n 0, 1) := by decide +kernel
theorem dX1_pop_1 : decode cX1_pop 1 = .ok (.getfield 18, 3) := by decide +kernel
theorem dX1_pop_4 : decode cX1_pop 4 = .ok (.ifCond .gt 5, 3) := by decide +kernel
theorem dX1_pop_7 : decode cX1_pop 7 = .ok (.iconst (-1), 1) := by decide +kernel
theorem dX1_pop_8 : decode cX1_pop 8 = .ok (.ireturn, 1) := by decide +kernel
theorem dX1_pop_9 : decode cX1_pop 9 = .ok (.aload_n 0, 1) := by decide +kernel
theorem dX1_pop_10 : decode cX1_pop 10 = .ok (.dup, 1) := by decide +kernel
theorem dX1_pop_11 : decode cX1_pop 11 = .ok (.getfield 18, 3) := by decide +kernel
theorem dX1_pop_14 : decode cX1_pop 14 = .ok (.iconst 1, 1) := by decide +kernel
theorem dX1_pop_15 : decode cX1_pop 15 = .ok (.isub, 1) := by decide +kernel
theorem dX1_pop_16 : decode cX1_pop 16 = .ok (.putfield 18, 3) := by decide +kernel
theorem dX1_pop_19 : decode cX1_pop 19 = .ok (.iconst 0, 1) := by decide +kernel
theorem dX1_pop_20 : decode cX1_pop 20 = .ok (.istore_n 2, 1) := by decide +kernel
theorem dX1_pop_21 : decode cX1_pop 21 = .ok (.iload_n 2, 1) := by decide +kernel
theorem dX1_pop_22 : decode cX1_pop 22 = .ok (.bipush 8, 2) := by decide +kernel
theorem dX1_pop_24 : decode cX1_pop 24 = .ok (.if_icmp .ge 34, 3) := by decide +kernel
theorem dX1_pop_27 : decode cX1_pop 27 = .ok (.aload_n 0, 1) := by decide +kernel
theorem dX1_pop_28 : decode cX1_pop 28 = .ok (.getfield 15, 3) := by decide +kernel
theorem dX1_pop_31 : decode cX1_pop 31 = .ok (.aload_n 0, 1) := by decide +kernel
theorem dX1_pop_32 : decode cX1_pop 32 = .ok (.getfield 18, 3) := by decide +kernel
theorem dX1_pop_35 : decode cX1_pop 35 = .ok (.bipush 64, 2) := by decide +kernel
theorem dX1_pop_37 : decode cX1_pop 37 = .ok (.imul, 1) := by decide +kernel
theorem dX1_pop_38 : decode cX1_pop 38 = .ok (.iload_n 2, 1) := by decide +kernel
theorem dX1_pop_39 : decode cX1_pop 39 = .ok (.bipush 8, 2) := by decide +kernel
theorem dX1_pop_41 : decode cX1_pop 41 = .ok (.imul, 1) := by decide +kernel
theorem dX1_pop_42 : decode cX1_pop 42 = .ok (.iadd, 1) := by decide +kernel
theorem dX1_pop_43 : decode cX1_pop 43 = .ok (.aload_n 1, 1) := by decide +kernel
theorem dX1_pop_44 : decode cX1_pop 44 = .ok (.iload_n 2, 1) := by decide +kernel
theorem dX1_pop_45 : decode cX1_pop 45 = .ok (.aaload, 1) := by decide +kernel
theorem dX1_pop_46 : decode cX1_pop 46 = .ok (.iconst 0, 1) := by decide +kernel
theorem dX1_pop_47 : decode cX1_pop 47 = .ok (.bipush 8, 2) := by decide +kernel
theorem dX1_pop_49 : decode cX1_pop 49 = .ok (.invokestatic 22, 3) := by decide +kernel
theorem dX1_pop_52 : decode cX1_pop 52 = .ok (.iinc 2 1, 3) := by decide +kernel
theorem dX1_pop_55 : decode cX1_pop 55 = .ok (.goto (-34), 3) := by decide +kernel
theorem dX1_pop_58 : decode cX1_pop 58 = .ok (.aload_n 0, 1) := by decide +kernel
theorem dX1_pop_59 : decode cX1_pop 59 = .ok (.getfield 11, 3) := by decide +kernel
theorem dX1_pop_62 : decode cX1_pop 62 = .ok (.aload_n 0, 1) := by decide +kernel
theorem dX1_pop_63 : decode cX1_pop 63 = .ok (.getfield 18, 3) := by decide +kernel
theorem dX1_pop_66 : decode cX1_pop 66 = .ok (.iaload, 1) := by decide +kernel
theorem dX1_pop_67 : decode cX1_pop 67 = .ok (.ireturn, 1) := by decide +kernel
theorem dX2_init_0 : decode cX2_init 0 = .ok (.aload_n 0, 1) := by decide +kernel
theorem dX2_init_1 : decode cX2_init 1 = .ok (.invokespecial 3, 3) := by decide +kernel
theorem dX2_init_4 : decode cX2_init 4 = .ok (.aload_n 0, 1) := by decide +kernel
theorem dX2_init_5 : decode cX2_init 5 = .ok (.iconst 1, 1) := by decide +kernel
theorem dX2_init_6 : decode cX2_init 6 = .ok (.putfield 9, 3) := by decide +kernel
theorem dX2_init_9 : decode cX2_init 9 = .ok (.aload_n 0, 1) := by decide +kernel
theorem dX2_init_10 : decode cX2_init 10 = .ok (.iconst 2, 1) := by decide +kernel
theorem dX2_init_11 : decode cX2_init 11 = .ok (.bipush 8, 2) := by decide +kernel
theorem dX2_init_13 : decode cX2_init 13 = .ok (.multianewarray 15 2, 4) := by decide +kernel
theorem dX2_init_17 : decode cX2_init 17 = .ok (.putfield 17, 3) := by decide +kernel
theorem dX2_init_20 : decode cX2_init 20 = .ok (.aload_n 0, 1) := by decide +kernel
theorem dX2_init_21 : decode cX2_init 21 = .ok (.iconst 2, 1) := by decide +kernel
theorem dX2_init_22 : decode cX2_init 22 = .ok (.bipush 8, 2) := by decide +kernel
theorem dX2_init_24 : decode cX2_init 24 = .ok (.multianewarray 15 2, 4) := by decide +kernel
theorem dX2_init_28 : decode cX2_init 28 = .ok (.putfield 20, 3) := by decide +kernel
theorem dX2_init_31 : decode cX2_init 31 = .ok (.aload_n 0, 1) := by decide +kernel
theorem dX2_init_32 : decode cX2_init 32 = .ok (.bipush 8, 2) := by decide +kernel
theorem dX2_init_34 : decode cX2_init 34 = .ok (.newarray .long, 2) := by decide +kernel
theorem dX2_init_36 : decode cX2_init 36 = .ok (.putfield 23, 3) := by decide +kernel
theorem dX2_init_39 : decode cX2_init 39 = .ok (.return_, 1) := by decide +kernel
theorem dX2_manyWords_0 : decode cX2_manyWords 0 = .ok (.iload_n 0, 1) := by decide +kernel
theorem dX2_manyWords_1 : decode cX2_manyWords 1 = .ok (.ifCond .ne 7, 3) := by decide +kernel
theorem dX2_manyWords_4 : decode cX2_manyWords 4 = .ok (.iconst 1, 1) := by decide +kernel
theorem dX2_manyWords_5 : decode cX2_manyWords 5 = .ok (.goto 5, 3) := by decide +kernel
theorem dX2_manyWords_8 : decode cX2_manyWords 8 = .ok (.bipush 16, 2) := by decide +kernel
theorem dX2_manyWords_10 : decode cX2_manyWords 10 = .ok (.ireturn, 1) := by decide +kernel
theorem dX2_exchange_0 : decode cX2_exchange 0 = .ok (.iload_n 0, 1) := by decide +kernel
theorem dX2_exchange_1 : decode cX2_exchange 1 = .ok (.iconst 1, 1) := by decide +kernel
theorem dX2_exchange_2 : decode cX2_exchange 2 = .ok (.iand, 1) := by decide +kernel
theorem dX2_exchange_3 : decode cX2_exchange 3 = .ok (.iload_n 0, 1) := by decide +kernel
theorem dX2_exchange_4 : decode cX2_exchange 4 = .ok (.iload_n 1, 1) := by decide +kernel
theorem dX2_exchange_5 : decode cX2_exchange 5 = .ok (.ishr, 1) := by decide +kernel
theorem dX2_exchange_6 : decode cX2_exchange 6 = .ok (.iconst 1, 1) := by decide +kernel
theorem dX2_exchange_7 : decode cX2_exchange 7 = .ok (.iand, 1) := by decide +kernel
theorem dX2_exchange_8 : decode cX2_exchange 8 = .ok (.if_icmp .eq 7, 3) := by decide +kernel
theorem dX2_exchange_11 : decode cX2_exchange 11 = .ok (.iconst 1, 1) := by decide +kernel
theorem dX2_exchange_12 : decode cX2_exchange 12 = .ok (.goto 4, 3) := by decide +kernel
theorem dX2_exchange_15 : decode cX2_exchange 15 = .ok (.iconst 0, 1) := by decide +kernel
theorem dX2_exchange_16 : decode cX2_exchange 16 = .ok (.istore_n 2, 1) := by decide +kernel
theorem dX2_exchange_17 : decode cX2_exchange 17 = .ok (.iload_n 2, 1) := by decide +kernel
theorem dX2_exchange_18 : decode cX2_exchange 18 = .ok (.ifCond .eq 13, 3) := by decide +kernel
theorem dX2_exchange_21 : decode cX2_exchange 21 = .ok (.iload_n 0, 1) := by decide +kernel
theorem dX2_exchange_22 : decode cX2_exchange 22 = .ok (.iconst 1, 1) := by decide +kernel
theorem dX2_exchange_23 : decode cX2_exchange 23 = .ok (.iconst 1, 1) := by decide +kernel
theorem dX2_exchange_24 : decode cX2_exchange 24 = .ok (.iload_n 1, 1) := by decide +kernel
theorem dX2_exchange_25 : decode cX2_exchange 25 = .ok (.ishl, 1) := by decide +kernel
theorem dX2_exchange_26 : decode cX2_exchange 26 = .ok (.ior, 1) := by decide +kernel
theorem dX2_exchange_27 : decode cX2_exchange 27 = .ok (.ixor, 1) := by decide +kernel
theorem dX2_exchange_28 : decode cX2_exchange 28 = .ok (.goto 4, 3) := by decide +kernel
theorem dX2_exchange_31 : decode cX2_exchange 31 = .ok (.iload_n 0, 1) := by decide +kernel
theorem dX2_exchange_32 : decode cX2_exchange 32 = .ok (.ireturn, 1) := by decide +kernel
theorem dX2_mayBeOdd_0 : decode cX2_mayBeOdd 0 = .ok (.iload_n 0, 1) := by decide +kernel
theorem dX2_mayBeOdd_1 : decode cX2_mayBeOdd 1 = .ok (.ifCond .ne 13, 3) := by decide +kernel
theorem dX2_mayBeOdd_4 : decode cX2_mayBeOdd 4 = .ok (.iload_n 1, 1) := by decide +kernel
theorem dX2_mayBeOdd_5 : decode cX2_mayBeOdd 5 = .ok (.ifCond .ne 7, 3) := by decide +kernel
theorem dX2_mayBeOdd_8 : decode cX2_mayBeOdd 8 = .ok (.iconst 1, 1) := by decide +kernel
theorem dX2_mayBeOdd_9 : decode cX2_mayBeOdd 9 = .ok (.goto 4, 3) := by decide +kernel
theorem dX2_mayBeOdd_12 : decode cX2_mayBeOdd 12 = .ok (.iconst 0, 1) := by decide +kernel
theorem dX2_mayBeOdd_13 : decode cX2_mayBeOdd 13 = .ok (.ireturn, 1) := by decide +kernel
theorem dX2_mayBeOdd_14 : decode cX2_mayBeOdd 14 = .ok (.iload_n 1, 1) := by decide +kernel
theorem dX2_mayBeOdd_15 : decode cX2_mayBeOdd 15 = .ok (.iload_n 0, 1) := by decide +kernel
theorem dX2_mayBeOdd_16 : decode cX2_mayBeOdd 16 = .ok (.invokestatic 27, 3) := by decide +kernel
theorem dX2_mayBeOdd_19 : decode cX2_mayBeOdd 19 = .ok (.istore_n 2, 1) := by decide +kernel
theorem dX2_mayBeOdd_20 : decode cX2_mayBeOdd 20 = .ok (.iconst 0, 1) := by decide +kernel
theorem dX2_mayBeOdd_21 : decode cX2_mayBeOdd 21 = .ok (.istore_n 3, 1) := by decide +kernel
theorem dX2_mayBeOdd_22 : decode cX2_mayBeOdd 22 = .ok (.iload_n 3, 1) := by decide +kernel
theorem dX2_mayBeOdd_23 : decode cX2_mayBeOdd 23 = .ok (.bipush 16, 2) := by decide +kernel
theorem dX2_mayBeOdd_25 : decode cX2_mayBeOdd 25 = .ok (.if_icmp .ge 20, 3) := by decide +kernel
theorem dX2_mayBeOdd_28 : decode cX2_mayBeOdd 28 = .ok (.getstatic 31, 3) := by decide +kernel
theorem dX2_mayBeOdd_31 : decode cX2_mayBeOdd 31 = .ok (.iload_n 3, 1) := by decide +kernel
theorem dX2_mayBeOdd_32 : decode cX2_mayBeOdd 32 = .ok (.iaload, 1) := by decide +kernel
theorem dX2_mayBeOdd_33 : decode cX2_mayBeOdd 33 = .ok (.iload_n 2, 1) := by decide +kernel
theorem dX2_mayBeOdd_34 : decode cX2_mayBeOdd 34 = .ok (.if_icmp .ne 5, 3) := by decide +kernel
theorem dX2_mayBeOdd_37 : decode cX2_mayBeOdd 37 = .ok (.iconst 1, 1) := by decide +kernel
theorem dX2_mayBeOdd_38 : decode cX2_mayBeOdd 38 = .ok (.ireturn, 1) := by decide +kernel
theorem dX2_mayBeOdd_39 : decode cX2_mayBeOdd 39 = .ok (.iinc 3 1, 3) := by decide +kernel
theorem dX2_mayBeOdd_42 : decode cX2_mayBeOdd 42 = .ok (.goto (-20), 3) := by decide +kernel
theorem dX2_mayBeOdd_45 : decode cX2_mayBeOdd 45 = .ok (.iconst 0, 1) := by decide +kernel
theorem dX2_mayBeOdd_46 : decode cX2_mayBeOdd 46 = .ok (.ireturn, 1) := by decide +kernel
theorem dX2_manyUnitsOfBoth_0 : decode cX2_manyUnitsOfBoth 0 = .ok (.iload_n 0, 1) := by decide +kernel
theorem dX2_manyUnitsOfBoth_1 : decode cX2_manyUnitsOfBoth 1 = .ok (.invokestatic 35, 3) := by decide +kernel
theorem dX2_manyUnitsOfBoth_4 : decode cX2_manyUnitsOfBoth 4 = .ok (.istore_n 2, 1) := by decide +kernel
theorem dX2_manyUnitsOfBoth_5 : decode cX2_manyUnitsOfBoth 5 = .ok (.iconst 0, 1) := by decide +kernel
theorem dX2_manyUnitsOfBoth_6 : decode cX2_manyUnitsOfBoth 6 = .ok (.istore_n 3, 1) := by decide +kernel
theorem dX2_manyUnitsOfBoth_7 : decode cX2_manyUnitsOfBoth 7 = .ok (.iconst 0, 1) := by decide +kernel
theorem dX2_manyUnitsOfBoth_8 : decode cX2_manyUnitsOfBoth 8 = .ok (.istore 4, 2) := by decide +kernel
theorem dX2_manyUnitsOfBoth_10 : decode cX2_manyUnitsOfBoth 10 = .ok (.iload 4, 2) := by decide +kernel
theorem dX2_manyUnitsOfBoth_12 : decode cX2_manyUnitsOfBoth 12 = .ok (.iload_n 2, 1) := by decide +kernel
theorem dX2_manyUnitsOfBoth_13 : decode cX2_manyUnitsOfBoth 13 = .ok (.if_icmp .ge 42, 3) := by decide +kernel
theorem dX2_manyUnitsOfBoth_16 : decode cX2_manyUnitsOfBoth 16 = .ok (.getstatic 31, 3) := by decide +kernel
theorem dX2_manyUnitsOfBoth_19 : decode cX2_manyUnitsOfBoth 19 = .ok (.iload 4, 2) := by decide +kernel
theorem dX2_manyUnitsOfBoth_21 : decode cX2_manyUnitsOfBoth 21 = .ok (.iaload, 1) := by decide +kernel
theorem dX2_manyUnitsOfBoth_22 : decode cX2_manyUnitsOfBoth 22 = .ok (.iload_n 0, 1) := by decide +kernel
theorem dX2_manyUnitsOfBoth_23 : decode cX2_manyUnitsOfBoth 23 = .ok (.invokestatic 27, 3) := by decide +kernel
theorem dX2_manyUnitsOfBoth_26 : decode cX2_manyUnitsOfBoth 26 = .ok (.istore 5, 2) := by decide +kernel
theorem dX2_manyUnitsOfBoth_28 : decode cX2_manyUnitsOfBoth 28 = .ok (.iload 5, 2) := by decide +kernel
theorem dX2_manyUnitsOfBoth_30 : decode cX2_manyUnitsOfBoth 30 = .ok (.invokestatic 39, 3) := by decide +kernel
theorem dX2_manyUnitsOfBoth_33 : decode cX2_manyUnitsOfBoth 33 = .ok (.iconst 4, 1) := by decide +kernel
theorem dX2_manyUnitsOfBoth_34 : decode cX2_manyUnitsOfBoth 34 = .ok (.if_icmp .gt 15, 3) := by decide +kernel
theorem dX2_manyUnitsOfBoth_37 : decode cX2_manyUnitsOfBoth 37 = .ok (.iload_n 1, 1) := by decide +kernel
theorem dX2_manyUnitsOfBoth_38 : decode cX2_manyUnitsOfBoth 38 = .ok (.iload 5, 2) := by decide +kernel
theorem dX2_manyUnitsOfBoth_40 : decode cX2_manyUnitsOfBoth 40 = .ok (.invokestatic 44, 3) := by decide +kernel
theorem dX2_manyUnitsOfBoth_43 : decode cX2_manyUnitsOfBoth 43 = .ok (.ifCond .eq 6, 3) := by decide +kernel
theorem dX2_manyUnitsOfBoth_46 : decode cX2_manyUnitsOfBoth 46 = .ok (.iinc 3 16, 3) := by decide +kernel
theorem dX2_manyUnitsOfBoth_49 : decode cX2_manyUnitsOfBoth 49 = .ok (.iinc 4 1, 3) := by decide +kernel
theorem dX2_manyUnitsOfBoth_52 : decode cX2_manyUnitsOfBoth 52 = .ok (.goto (-42), 3) := by decide +kernel
theorem dX2_manyUnitsOfBoth_55 : decode cX2_manyUnitsOfBoth 55 = .ok (.iload_n 3, 1) := by decide +kernel
theorem dX2_manyUnitsOfBoth_56 : decode cX2_manyUnitsOfBoth 56 = .ok (.ireturn, 1) := by decide +kernel
theorem dX2_isWhole_0 : decode cX2_isWhole 0 = .ok (.aload_n 0, 1) := by decide +kernel
theorem dX2_isWhole_1 : decode cX2_isWhole 1 = .ok (.getfield 9, 3) := by decide +kernel
theorem dX2_isWhole_4 : decode cX2_isWhole 4 = .ok (.aload_n 1, 1) := by decide +kernel
theorem dX2_isWhole_5 : decode cX2_isWhole 5 = .ok (.invokestatic 48, 3) := by decide +kernel
theorem dX2_isWhole_8 : decode cX2_isWhole 8 = .ok (.invokestatic 44, 3) := by decide +kernel
theorem dX2_isWhole_11 : decode cX2_isWhole 11 = .ok (.ireturn, 1) := by decide +kernel
theorem dX2_isWholeBy_0 : decode cX2_isWholeBy 0 = .ok (.lload_n 2, 1) := by decide +kernel
theorem dX2_isWholeBy_1 : decode cX2_isWholeBy 1 = .ok (.lconst 1, 1) := by decide +kernel
theorem dX2_isWholeBy_2 : decode cX2_isWholeBy 2 = .ok (.lcmp, 1) := by decide +kernel
theorem dX2_isWholeBy_3 : decode cX2_isWholeBy 3 = .ok (.ifCond .ge 5, 3) := by decide +kernel
theorem dX2_isWholeBy_6 : decode cX2_isWholeBy 6 = .ok (.iconst 0, 1) := by decide +kernel
theorem dX2_isWholeBy_7 : decode cX2_isWholeBy 7 = .ok (.ireturn, 1) := by decide +kernel
theorem dX2_isWholeBy_8 : decode cX2_isWholeBy 8 = .ok (.iconst 0, 1) := by decide +kernel
theorem dX2_isWholeBy_9 : decode cX2_isWholeBy 9 = .ok (.istore 4, 2) := by decide +kernel
theorem dX2_isWholeBy_11 : decode cX2_isWholeBy 11 = .ok (.iconst 0, 1) := by decide +kernel
theorem dX2_isWholeBy_12 : decode cX2_isWholeBy 12 = .ok (.istore 5, 2) := by decide +kernel
theorem dX2_isWholeBy_14 : decode cX2_isWholeBy 14 = .ok (.iload 5, 2) := by decide +kernel
theorem dX2_isWholeBy_16 : decode cX2_isWholeBy 16 = .ok (.bipush 8, 2) := by decide +kernel
theorem dX2_isWholeBy_18 : decode cX2_isWholeBy 18 = .ok (.if_icmp .ge 39, 3) := by decide +kernel
theorem dX2_isWholeBy_21 : decode cX2_isWholeBy 21 = .ok (.aload_n 1, 1) := by decide +kernel
theorem dX2_isWholeBy_22 : decode cX2_isWholeBy 22 = .ok (.iload 5, 2) := by decide +kernel
theorem dX2_isWholeBy_24 : decode cX2_isWholeBy 24 = .ok (.laload, 1) := by decide +kernel
theorem dX2_isWholeBy_25 : decode cX2_isWholeBy 25 = .ok (.lload_n 2, 1) := by decide +kernel
theorem dX2_isWholeBy_26 : decode cX2_isWholeBy 26 = .ok (.lrem, 1) := by decide +kernel
theorem dX2_isWholeBy_27 : decode cX2_isWholeBy 27 = .ok (.lconst 0, 1) := by decide +kernel
theorem dX2_isWholeBy_28 : decode cX2_isWholeBy 28 = .ok (.lcmp, 1) := by decide +kernel
theorem dX2_isWholeBy_29 : decode cX2_isWholeBy 29 = .ok (.ifCond .eq 5, 3) := by decide +kernel
theorem dX2_isWholeBy_32 : decode cX2_isWholeBy 32 = .ok (.iconst 0, 1) := by decide +kernel
theorem dX2_isWholeBy_33 : decode cX2_isWholeBy 33 = .ok (.ireturn, 1) := by decide +kernel
theorem dX2_isWholeBy_34 : decode cX2_isWholeBy 34 = .ok (.iload 4, 2) := by decide +kernel
theorem dX2_isWholeBy_36 : decode cX2_isWholeBy 36 = .ok (.aload_n 1, 1) := by decide +kernel
theorem dX2_isWholeBy_37 : decode cX2_isWholeBy 37 = .ok (.iload 5, 2) := by decide +kernel
theorem dX2_isWholeBy_39 : decode cX2_isWholeBy 39 = .ok (.laload, 1) := by decide +kernel
theorem dX2_isWholeBy_40 : decode cX2_isWholeBy 40 = .ok (.lload_n 2, 1) := by decide +kernel
theorem dX2_isWholeBy_41 : decode cX2_isWholeBy 41 = .ok (.ldiv, 1) := by decide +kernel
theorem dX2_isWholeBy_42 : decode cX2_isWholeBy 42 = .ok (.lconst 1, 1) := by decide +kernel
theorem dX2_isWholeBy_43 : decode cX2_isWholeBy 43 = .ok (.land, 1) := by decide +kernel
theorem dX2_isWholeBy_44 : decode cX2_isWholeBy 44 = .ok (.l2i, 1) := by decide +kernel
theorem dX2_isWholeBy_45 : decode cX2_isWholeBy 45 = .ok (.iload 5, 2) := by decide +kernel
theorem dX2_isWholeBy_47 : decode cX2_isWholeBy 47 = .ok (.ishl, 1) := by decide +kernel
theorem dX2_isWholeBy_48 : decode cX2_isWholeBy 48 = .ok (.ior, 1) := by decide +kernel
theorem dX2_isWholeBy_49 : decode cX2_isWholeBy 49 = .ok (.istore 4, 2) := by decide +kernel
theorem dX2_isWholeBy_51 : decode cX2_isWholeBy 51 = .ok (.iinc 5 1, 3) := by decide +kernel
theorem dX2_isWholeBy_54 : decode cX2_isWholeBy 54 = .ok (.goto (-40), 3) := by decide +kernel
theorem dX2_isWholeBy_57 : decode cX2_isWholeBy 57 = .ok (.aload_n 0, 1) := by decide +kernel
theorem dX2_isWholeBy_58 : decode cX2_isWholeBy 58 = .ok (.getfield 9, 3) := by decide +kernel
theorem dX2_isWholeBy_61 : decode cX2_isWholeBy 61 = .ok (.iload 4, 2) := by decide +kernel
theorem dX2_isWholeBy_63 : decode cX2_isWholeBy 63 = .ok (.invokestatic 44, 3) := by decide +kernel
theorem dX2_isWholeBy_66 : decode cX2_isWholeBy 66 = .ok (.ireturn, 1) := by decide +kernel
theorem dX2_layNearest_0 : decode cX2_layNearest 0 = .ok (.lload_n 3, 1) := by decide +kernel
theorem dX2_layNearest_1 : decode cX2_layNearest 1 = .ok (.lconst 1, 1) := by decide +kernel
theorem dX2_layNearest_2 : decode cX2_layNearest 2 = .ok (.lcmp, 1) := by decide +kernel
theorem dX2_layNearest_3 : decode cX2_layNearest 3 = .ok (.ifCond .ge 5, 3) := by decide +kernel
theorem dX2_layNearest_6 : decode cX2_layNearest 6 = .ok (.iconst 0, 1) := by decide +kernel
theorem dX2_layNearest_7 : decode cX2_layNearest 7 = .ok (.ireturn, 1) := by decide +kernel
theorem dX2_layNearest_8 : decode cX2_layNearest 8 = .ok (.iconst 0, 1) := by decide +kernel
theorem dX2_layNearest_9 : decode cX2_layNearest 9 = .ok (.istore 5, 2) := by decide +kernel
theorem dX2_layNearest_11 : decode cX2_layNearest 11 = .ok (.iload 5, 2) := by decide +kernel
theorem dX2_layNearest_13 : decode cX2_layNearest 13 = .ok (.bipush 8, 2) := by decide +kernel
theorem dX2_layNearest_15 : decode cX2_layNearest 15 = .ok (.if_icmp .ge 33, 3) := by decide +kernel
theorem dX2_layNearest_18 : decode cX2_layNearest 18 = .ok (.aload_n 0, 1) := by decide +kernel
theorem dX2_layNearest_19 : decode cX2_layNearest 19 = .ok (.iconst 0, 1) := by decide +kernel
theorem dX2_layNearest_20 : decode cX2_layNearest 20 = .ok (.iload 5, 2) := by decide +kernel
theorem dX2_layNearest_22 : decode cX2_layNearest 22 = .ok (.aload_n 2, 1) := by decide +kernel
theorem dX2_layNearest_23 : decode cX2_layNearest 23 = .ok (.iload 5, 2) := by decide +kernel
theorem dX2_layNearest_25 : decode cX2_layNearest 25 = .ok (.laload, 1) := by decide +kernel
theorem dX2_layNearest_26 : decode cX2_layNearest 26 = .ok (.lload_n 3, 1) := by decide +kernel
theorem dX2_layNearest_27 : decode cX2_layNearest 27 = .ok (.invokevirtual 54, 3) := by decide +kernel
theorem dX2_layNearest_30 : decode cX2_layNearest 30 = .ok (.aload_n 0, 1) := by decide +kernel
theorem dX2_layNearest_31 : decode cX2_layNearest 31 = .ok (.iconst 1, 1) := by decide +kernel
theorem dX2_layNearest_32 : decode cX2_layNearest 32 = .ok (.iload 5, 2) := by decide +kernel
theorem dX2_layNearest_34 : decode cX2_layNearest 34 = .ok (.aload_n 2, 1) := by decide +kernel
theorem dX2_layNearest_35 : decode cX2_layNearest 35 = .ok (.iload 5, 2) := by decide +kernel
theorem dX2_layNearest_37 : decode cX2_layNearest 37 = .ok (.laload, 1) := by decide +kernel
theorem dX2_layNearest_38 : decode cX2_layNearest 38 = .ok (.lload_n 3, 1) := by decide +kernel
theorem dX2_layNearest_39 : decode cX2_layNearest 39 = .ok (.invokevirtual 54, 3) := by decide +kernel
theorem dX2_layNearest_42 : decode cX2_layNearest 42 = .ok (.iinc 5 1, 3) := by decide +kernel
theorem dX2_layNearest_45 : decode cX2_layNearest 45 = .ok (.goto (-34), 3) := by decide +kernel
theorem dX2_layNearest_48 : decode cX2_layNearest 48 = .ok (.aload_n 0, 1) := by decide +kernel
theorem dX2_layNearest_49 : decode cX2_layNearest 49 = .ok (.invokevirtual 58, 3) := by decide +kernel
theorem dX2_layNearest_52 : decode cX2_layNearest 52 = .ok (.istore 5, 2) := by decide +kernel
theorem dX2_layNearest_54 : decode cX2_layNearest 54 = .ok (.iconst 0, 1) := by decide +kernel
theorem dX2_layNearest_55 : decode cX2_layNearest 55 = .ok (.istore 6, 2) := by decide +kernel
theorem dX2_layNearest_57 : decode cX2_layNearest 57 = .ok (.iload 6, 2) := by decide +kernel
theorem dX2_layNearest_59 : decode cX2_layNearest 59 = .ok (.bipush 8, 2) := by decide +kernel
theorem dX2_layNearest_61 : decode cX2_layNearest 61 = .ok (.if_icmp .ge 31, 3) := by decide +kernel
theorem dX2_layNearest_64 : decode cX2_layNearest 64 = .ok (.aload_n 0, 1) := by decide +kernel
theorem dX2_layNearest_65 : decode cX2_layNearest 65 = .ok (.getfield 23, 3) := by decide +kernel
theorem dX2_layNearest_68 : decode cX2_layNearest 68 = .ok (.iload 6, 2) := by decide +kernel
theorem dX2_layNearest_70 : decode cX2_layNearest 70 = .ok (.aload_n 0, 1) := by decide +kernel
theorem dX2_layNearest_71 : decode cX2_layNearest 71 = .ok (.getfield 17, 3) := by decide +kernel
theorem dX2_layNearest_74 : decode cX2_layNearest 74 = .ok (.iload 5, 2) := by decide +kernel
theorem dX2_layNearest_76 : decode cX2_layNearest 76 = .ok (.iload 6, 2) := by decide +kernel
theorem dX2_layNearest_78 : decode cX2_layNearest 78 = .ok (.ishr, 1) := by decide +kernel
theorem dX2_layNearest_79 : decode cX2_layNearest 79 = .ok (.iconst 1, 1) := by decide +kernel
theorem dX2_layNearest_80 : decode cX2_layNearest 80 = .ok (.iand, 1) := by decide +kernel
theorem dX2_layNearest_81 : decode cX2_layNearest 81 = .ok (.aaload, 1) := by decide +kernel
theorem dX2_layNearest_82 : decode cX2_layNearest 82 = .ok (.iload 6, 2) := by decide +kernel
theorem dX2_layNearest_84 : decode cX2_layNearest 84 = .ok (.laload, 1) := by decide +kernel
theorem dX2_layNearest_85 : decode cX2_layNearest 85 = .ok (.lastore, 1) := by decide +kernel
theorem dX2_layNearest_86 : decode cX2_layNearest 86 = .ok (.iinc 6 1, 3) := by decide +kernel
theorem dX2_layNearest_89 : decode cX2_layNearest 89 = .ok (.goto (-32), 3) := by decide +kernel
theorem dX2_layNearest_92 : decode cX2_layNearest 92 = .ok (.aload_n 1, 1) := by decide +kernel
theorem dX2_layNearest_93 : decode cX2_layNearest 93 = .ok (.aload_n 0, 1) := by decide +kernel
theorem dX2_layNearest_94 : decode cX2_layNearest 94 = .ok (.getfield 23, 3) := by decide +kernel
theorem dX2_layNearest_97 : decode cX2_layNearest 97 = .ok (.invokestatic 62, 3) := by decide +kernel
theorem dX2_layNearest_100 : decode cX2_layNearest 100 = .ok (.ireturn, 1) := by decide +kernel
theorem dX2_findNear_0 : decode cX2_findNear 0 = .ok (.ldc2_w 66, 3) := by decide +kernel
theorem dX2_findNear_3 : decode cX2_findNear 3 = .ok (.lload_n 3, 1) := by decide +kernel
theorem dX2_findNear_4 : decode cX2_findNear 4 = .ok (.lload 5, 2) := by decide +kernel
theorem dX2_findNear_6 : decode cX2_findNear 6 = .ok (.iload_n 1, 1) := by decide +kernel
theorem dX2_findNear_7 : decode cX2_findNear 7 = .ok (.i2l, 1) := by decide +kernel
theorem dX2_findNear_8 : decode cX2_findNear 8 = .ok (.lmul, 1) := by decide +kernel
theorem dX2_findNear_9 : decode cX2_findNear 9 = .ok (.lsub, 1) := by decide +kernel
theorem dX2_findNear_10 : decode cX2_findNear 10 = .ok (.lload 5, 2) := by decide +kernel
theorem dX2_findNear_12 : decode cX2_findNear 12 = .ok (.ladd, 1) := by decide +kernel
theorem dX2_findNear_13 : decode cX2_findNear 13 = .ok (.lconst 1, 1) := by decide +kernel
theorem dX2_findNear_14 : decode cX2_findNear 14 = .ok (.lsub, 1) := by decide +kernel
theorem dX2_findNear_15 : decode cX2_findNear 15 = .ok (.ldc2_w 66, 3) := by decide +kernel
theorem dX2_findNear_18 : decode cX2_findNear 18 = .ok (.lload 5, 2) := by decide +kernel
theorem dX2_findNear_20 : decode cX2_findNear 20 = .ok (.lmul, 1) := by decide +kernel
theorem dX2_findNear_21 : decode cX2_findNear 21 = .ok (.invokestatic 68, 3) := by decide +kernel
theorem dX2_findNear_24 : decode cX2_findNear 24 = .ok (.lmul, 1) := by decide +kernel
theorem dX2_findNear_25 : decode cX2_findNear 25 = .ok (.iload_n 1, 1) := by decide +kernel
theorem dX2_findNear_26 : decode cX2_findNear 26 = .ok (.i2l, 1) := by decide +kernel
theorem dX2_findNear_27 : decode cX2_findNear 27 = .ok (.ladd, 1) := by decide +kernel
theorem dX2_findNear_28 : decode cX2_findNear 28 = .ok (.lstore 7, 2) := by decide +kernel
theorem dX2_findNear_30 : decode cX2_findNear 30 = .ok (.lload_n 3, 1) := by decide +kernel
theorem dX2_findNear_31 : decode cX2_findNear 31 = .ok (.lload 5, 2) := by decide +kernel
theorem dX2_findNear_33 : decode cX2_findNear 33 = .ok (.lload 7, 2) := by decide +kernel
theorem dX2_findNear_35 : decode cX2_findNear 35 = .ok (.lmul, 1) := by decide +kernel
theorem dX2_findNear_36 : decode cX2_findNear 36 = .ok (.lsub, 1) := by decide +kernel
theorem dX2_findNear_37 : decode cX2_findNear 37 = .ok (.lstore 9, 2) := by decide +kernel
theorem dX2_findNear_39 : decode cX2_findNear 39 = .ok (.aload_n 0, 1) := by decide +kernel
theorem dX2_findNear_40 : decode cX2_findNear 40 = .ok (.getfield 17, 3) := by decide +kernel
theorem dX2_findNear_43 : decode cX2_findNear 43 = .ok (.iload_n 1, 1) := by decide +kernel
theorem dX2_findNear_44 : decode cX2_findNear 44 = .ok (.aaload, 1) := by decide +kernel
theorem dX2_findNear_45 : decode cX2_findNear 45 = .ok (.iload_n 2, 1) := by decide +kernel
theorem dX2_findNear_46 : decode cX2_findNear 46 = .ok (.lload 7, 2) := by decide +kernel
theorem dX2_findNear_48 : decode cX2_findNear 48 = .ok (.lastore, 1) := by decide +kernel
theorem dX2_findNear_49 : decode cX2_findNear 49 = .ok (.aload_n 0, 1) := by decide +kernel
theorem dX2_findNear_50 : decode cX2_findNear 50 = .ok (.getfield 20, 3) := by decide +kernel
theorem dX2_findNear_53 : decode cX2_findNear 53 = .ok (.iload_n 1, 1) := by decide +kernel
theorem dX2_findNear_54 : decode cX2_findNear 54 = .ok (.aaload, 1) := by decide +kernel
theorem dX2_findNear_55 : decode cX2_findNear 55 = .ok (.iload_n 2, 1) := by decide +kernel
theorem dX2_findNear_56 : decode cX2_findNear 56 = .ok (.lload 9, 2) := by decide +kernel
theorem dX2_findNear_58 : decode cX2_findNear 58 = .ok (.lload 9, 2) := by decide +kernel
theorem dX2_findNear_60 : decode cX2_findNear 60 = .ok (.lmul, 1) := by decide +kernel
theorem dX2_findNear_61 : decode cX2_findNear 61 = .ok (.lastore, 1) := by decide +kernel
theorem dX2_findNear_62 : decode cX2_findNear 62 = .ok (.return_, 1) := by decide +kernel
theorem dX2_bestWord_0 : decode cX2_bestWord 0 = .ok (.getstatic 31, 3) := by decide +kernel
theorem dX2_bestWord_3 : decode cX2_bestWord 3 = .ok (.iconst 0, 1) := by decide +kernel
theorem dX2_bestWord_4 : decode cX2_bestWord 4 = .ok (.iaload, 1) := by decide +kernel
theorem dX2_bestWord_5 : decode cX2_bestWord 5 = .ok (.aload_n 0, 1) := by decide +kernel
theorem dX2_bestWord_6 : decode cX2_bestWord 6 = .ok (.getfield 9, 3) := by decide +kernel
theorem dX2_bestWord_9 : decode cX2_bestWord 9 = .ok (.invokestatic 27, 3) := by decide +kernel
theorem dX2_bestWord_12 : decode cX2_bestWord 12 = .ok (.istore_n 1, 1) := by decide +kernel
theorem dX2_bestWord_13 : decode cX2_bestWord 13 = .ok (.aload_n 0, 1) := by decide +kernel
theorem dX2_bestWord_14 : decode cX2_bestWord 14 = .ok (.iload_n 1, 1) := by decide +kernel
theorem dX2_bestWord_15 : decode cX2_bestWord 15 = .ok (.invokevirtual 74, 3) := by decide +kernel
theorem dX2_bestWord_18 : decode cX2_bestWord 18 = .ok (.lstore_n 2, 1) := by decide +kernel
theorem dX2_bestWord_19 : decode cX2_bestWord 19 = .ok (.aload_n 0, 1) := by decide +kernel
theorem dX2_bestWord_20 : decode cX2_bestWord 20 = .ok (.getfield 9, 3) := by decide +kernel
theorem dX2_bestWord_23 : decode cX2_bestWord 23 = .ok (.invokestatic 35, 3) := by decide +kernel
theorem dX2_bestWord_26 : decode cX2_bestWord 26 = .ok (.istore 4, 2) := by decide +kernel
theorem dX2_bestWord_28 : decode cX2_bestWord 28 = .ok (.iconst 1, 1) := by decide +kernel
theorem dX2_bestWord_29 : decode cX2_bestWord 29 = .ok (.istore 5, 2) := by decide +kernel
theorem dX2_bestWord_31 : decode cX2_bestWord 31 = .ok (.iload 5, 2) := by decide +kernel
theorem dX2_bestWord_33 : decode cX2_bestWord 33 = .ok (.iload 4, 2) := by decide +kernel
theorem dX2_bestWord_35 : decode cX2_bestWord 35 = .ok (.if_icmp .ge 62, 3) := by decide +kernel
theorem dX2_bestWord_38 : decode cX2_bestWord 38 = .ok (.getstatic 31, 3) := by decide +kernel
theorem dX2_bestWord_41 : decode cX2_bestWord 41 = .ok (.iload 5, 2) := by decide +kernel
theorem dX2_bestWord_43 : decode cX2_bestWord 43 = .ok (.iaload, 1) := by decide +kernel
theorem dX2_bestWord_44 : decode cX2_bestWord 44 = .ok (.aload_n 0, 1) := by decide +kernel
theorem dX2_bestWord_45 : decode cX2_bestWord 45 = .ok (.getfield 9, 3) := by decide +kernel
theorem dX2_bestWord_48 : decode cX2_bestWord 48 = .ok (.invokestatic 27, 3) := by decide +kernel
theorem dX2_bestWord_51 : decode cX2_bestWord 51 = .ok (.istore 6, 2) := by decide +kernel
theorem dX2_bestWord_53 : decode cX2_bestWord 53 = .ok (.aload_n 0, 1) := by decide +kernel
theorem dX2_bestWord_54 : decode cX2_bestWord 54 = .ok (.iload 6, 2) := by decide +kernel
theorem dX2_bestWord_56 : decode cX2_bestWord 56 = .ok (.invokevirtual 74, 3) := by decide +kernel
theorem dX2_bestWord_59 : decode cX2_bestWord 59 = .ok (.lstore 7, 2) := by decide +kernel
theorem dX2_bestWord_61 : decode cX2_bestWord 61 = .ok (.lload 7, 2) := by decide +kernel
theorem dX2_bestWord_63 : decode cX2_bestWord 63 = .ok (.lload_n 2, 1) := by decide +kernel
theorem dX2_bestWord_64 : decode cX2_bestWord 64 = .ok (.lcmp, 1) := by decide +kernel
theorem dX2_bestWord_65 : decode cX2_bestWord 65 = .ok (.ifCond .lt 20, 3) := by decide +kernel
theorem dX2_bestWord_68 : decode cX2_bestWord 68 = .ok (.lload 7, 2) := by decide +kernel
theorem dX2_bestWord_70 : decode cX2_bestWord 70 = .ok (.lload_n 2, 1) := by decide +kernel
theorem dX2_bestWord_71 : decode cX2_bestWord 71 = .ok (.lcmp, 1) := by decide +kernel
theorem dX2_bestWord_72 : decode cX2_bestWord 72 = .ok (.ifCond .ne 19, 3) := by decide +kernel
theorem dX2_bestWord_75 : decode cX2_bestWord 75 = .ok (.aload_n 0, 1) := by decide +kernel
theorem dX2_bestWord_76 : decode cX2_bestWord 76 = .ok (.iload 6, 2) := by decide +kernel
theorem dX2_bestWord_78 : decode cX2_bestWord 78 = .ok (.iload_n 1, 1) := by decide +kernel
theorem dX2_bestWord_79 : decode cX2_bestWord 79 = .ok (.invokevirtual 78, 3) := by decide +kernel
theorem dX2_bestWord_82 : decode cX2_bestWord 82 = .ok (.ifCond .eq 9, 3) := by decide +kernel
theorem dX2_bestWord_85 : decode cX2_bestWord 85 = .ok (.iload 6, 2) := by decide +kernel
theorem dX2_bestWord_87 : decode cX2_bestWord 87 = .ok (.istore_n 1, 1) := by decide +kernel
theorem dX2_bestWord_88 : decode cX2_bestWord 88 = .ok (.lload 7, 2) := by decide +kernel
theorem dX2_bestWord_90 : decode cX2_bestWord 90 = .ok (.lstore_n 2, 1) := by decide +kernel
theorem dX2_bestWord_91 : decode cX2_bestWord 91 = .ok (.iinc 5 1, 3) := by decide +kernel
theorem dX2_bestWord_94 : decode cX2_bestWord 94 = .ok (.goto (-63), 3) := by decide +kernel
theorem dX2_bestWord_97 : decode cX2_bestWord 97 = .ok (.iload_n 1, 1) := by decide +kernel
theorem dX2_bestWord_98 : decode cX2_bestWord 98 = .ok (.ireturn, 1) := by decide +kernel
theorem dX2_missOf_0 : decode cX2_missOf 0 = .ok (.lconst 0, 1) := by decide +kernel
theorem dX2_missOf_1 : decode cX2_missOf 1 = .ok (.lstore_n 2, 1) := by decide +kernel
theorem dX2_missOf_2 : decode cX2_missOf 2 = .ok (.iconst 0, 1) := by decide +kernel
theorem dX2_missOf_3 : decode cX2_missOf 3 = .ok (.istore 4, 2) := by decide +kernel
theorem dX2_missOf_5 : decode cX2_missOf 5 = .ok (.iload 4, 2) := by decide +kernel
theorem dX2_missOf_7 : decode cX2_missOf 7 = .ok (.bipush 8, 2) := by decide +kernel
theorem dX2_missOf_9 : decode cX2_missOf 9 = .ok (.if_icmp .ge 26, 3) := by decide +kernel
theorem dX2_missOf_12 : decode cX2_missOf 12 = .ok (.lload_n 2, 1) := by decide +kernel
theorem dX2_missOf_13 : decode cX2_missOf 13 = .ok (.aload_n 0, 1) := by decide +kernel
theorem dX2_missOf_14 : decode cX2_missOf 14 = .ok (.getfield 20, 3) := by decide +kernel
theorem dX2_missOf_17 : decode cX2_missOf 17 = .ok (.iload_n 1, 1) := by decide +kernel
theorem dX2_missOf_18 : decode cX2_missOf 18 = .ok (.iload 4, 2) := by decide +kernel
theorem dX2_missOf_20 : decode cX2_missOf 20 = .ok (.ishr, 1) := by decide +kernel
theorem dX2_missOf_21 : decode cX2_missOf 21 = .ok (.iconst 1, 1) := by decide +kernel
theorem dX2_missOf_22 : decode cX2_missOf 22 = .ok (.iand, 1) := by decide +kernel
theorem dX2_missOf_23 : decode cX2_missOf 23 = .ok (.aaload, 1) := by decide +kernel
theorem dX2_missOf_24 : decode cX2_missOf 24 = .ok (.iload 4, 2) := by decide +kernel
theorem dX2_missOf_26 : decode cX2_missOf 26 = .ok (.laload, 1) := by decide +kernel
theorem dX2_missOf_27 : decode cX2_missOf 27 = .ok (.ladd, 1) := by decide +kernel
theorem dX2_missOf_28 : decode cX2_missOf 28 = .ok (.lstore_n 2, 1) := by decide +kernel
theorem dX2_missOf_29 : decode cX2_missOf 29 = .ok (.iinc 4 1, 3) := by decide +kernel
theorem dX2_missOf_32 : decode cX2_missOf 32 = .ok (.goto (-27), 3) := by decide +kernel
theorem dX2_missOf_35 : decode cX2_missOf 35 = .ok (.lload_n 2, 1) := by decide +kernel
theorem dX2_missOf_36 : decode cX2_missOf 36 = .ok (.lreturn, 1) := by decide +kernel
theorem dX2_isListedAhead_0 : decode cX2_isListedAhead 0 = .ok (.iconst 0, 1) := by decide +kernel
theorem dX2_isListedAhead_1 : decode cX2_isListedAhead 1 = .ok (.istore_n 3, 1) := by decide +kernel
theorem dX2_isListedAhead_2 : decode cX2_isListedAhead 2 = .ok (.iload_n 3, 1) := by decide +kernel
theorem dX2_isListedAhead_3 : decode cX2_isListedAhead 3 = .ok (.bipush 8, 2) := by decide +kernel
theorem dX2_isListedAhead_5 : decode cX2_isListedAhead 5 = .ok (.if_icmp .ge 56, 3) := by decide +kernel
theorem dX2_isListedAhead_8 : decode cX2_isListedAhead 8 = .ok (.aload_n 0, 1) := by decide +kernel
theorem dX2_isListedAhead_9 : decode cX2_isListedAhead 9 = .ok (.getfield 17, 3) := by decide +kernel
theorem dX2_isListedAhead_12 : decode cX2_isListedAhead 12 = .ok (.iload_n 1, 1) := by decide +kernel
theorem dX2_isListedAhead_13 : decode cX2_isListedAhead 13 = .ok (.iload_n 3, 1) := by decide +kernel
theorem dX2_isListedAhead_14 : decode cX2_isListedAhead 14 = .ok (.ishr, 1) := by decide +kernel
theorem dX2_isListedAhead_15 : decode cX2_isListedAhead 15 = .ok (.iconst 1, 1) := by decide +kernel
theorem dX2_isListedAhead_16 : decode cX2_isListedAhead 16 = .ok (.iand, 1) := by decide +kernel
theorem dX2_isListedAhead_17 : decode cX2_isListedAhead 17 = .ok (.aaload, 1) := by decide +kernel
theorem dX2_isListedAhead_18 : decode cX2_isListedAhead 18 = .ok (.iload_n 3, 1) := by decide +kernel
theorem dX2_isListedAhead_19 : decode cX2_isListedAhead 19 = .ok (.laload, 1) := by decide +kernel
theorem dX2_isListedAhead_20 : decode cX2_isListedAhead 20 = .ok (.aload_n 0, 1) := by decide +kernel
theorem dX2_isListedAhead_21 : decode cX2_isListedAhead 21 = .ok (.getfield 17, 3) := by decide +kernel
theorem dX2_isListedAhead_24 : decode cX2_isListedAhead 24 = .ok (.iload_n 2, 1) := by decide +kernel
theorem dX2_isListedAhead_25 : decode cX2_isListedAhead 25 = .ok (.iload_n 3, 1) := by decide +kernel
theorem dX2_isListedAhead_26 : decode cX2_isListedAhead 26 = .ok (.ishr, 1) := by decide +kernel
theorem dX2_isListedAhead_27 : decode cX2_isListedAhead 27 = .ok (.iconst 1, 1) := by decide +kernel
theorem dX2_isListedAhead_28 : decode cX2_isListedAhead 28 = .ok (.iand, 1) := by decide +kernel
theorem dX2_isListedAhead_29 : decode cX2_isListedAhead 29 = .ok (.aaload, 1) := by decide +kernel
theorem dX2_isListedAhead_30 : decode cX2_isListedAhead 30 = .ok (.iload_n 3, 1) := by decide +kernel
theorem dX2_isListedAhead_31 : decode cX2_isListedAhead 31 = .ok (.laload, 1) := by decide +kernel
theorem dX2_isListedAhead_32 : decode cX2_isListedAhead 32 = .ok (.lsub, 1) := by decide +kernel
theorem dX2_isListedAhead_33 : decode cX2_isListedAhead 33 = .ok (.lstore 4, 2) := by decide +kernel
theorem dX2_isListedAhead_35 : decode cX2_isListedAhead 35 = .ok (.lload 4, 2) := by decide +kernel
theorem dX2_isListedAhead_37 : decode cX2_isListedAhead 37 = .ok (.lconst 0, 1) := by decide +kernel
theorem dX2_isListedAhead_38 : decode cX2_isListedAhead 38 = .ok (.lcmp, 1) := by decide +kernel
theorem dX2_isListedAhead_39 : decode cX2_isListedAhead 39 = .ok (.ifCond .eq 16, 3) := by decide +kernel
theorem dX2_isListedAhead_42 : decode cX2_isListedAhead 42 = .ok (.lload 4, 2) := by decide +kernel
theorem dX2_isListedAhead_44 : decode cX2_isListedAhead 44 = .ok (.lconst 0, 1) := by decide +kernel
theorem dX2_isListedAhead_45 : decode cX2_isListedAhead 45 = .ok (.lcmp, 1) := by decide +kernel
theorem dX2_isListedAhead_46 : decode cX2_isListedAhead 46 = .ok (.ifCond .ge 7, 3) := by decide +kernel
theorem dX2_isListedAhead_49 : decode cX2_isListedAhead 49 = .ok (.iconst 1, 1) := by decide +kernel
theorem dX2_isListedAhead_50 : decode cX2_isListedAhead 50 = .ok (.goto 4, 3) := by decide +kernel
theorem dX2_isListedAhead_53 : decode cX2_isListedAhead 53 = .ok (.iconst 0, 1) := by decide +kernel
theorem dX2_isListedAhead_54 : decode cX2_isListedAhead 54 = .ok (.ireturn, 1) := by decide +kernel
theorem dX2_isListedAhead_55 : decode cX2_isListedAhead 55 = .ok (.iinc 3 1, 3) := by decide +kernel
theorem dX2_isListedAhead_58 : decode cX2_isListedAhead 58 = .ok (.goto (-56), 3) := by decide +kernel
theorem dX2_isListedAhead_61 : decode cX2_isListedAhead 61 = .ok (.iconst 0, 1) := by decide +kernel
theorem dX2_isListedAhead_62 : decode cX2_isListedAhead 62 = .ok (.ireturn, 1) := by decide +kernel
theorem dX3_init_0 : decode cX3_init 0 = .ok (.aload_n 0, 1) := by decide +kernel
theorem dX3_init_1 : decode cX3_init 1 = .ok (.invokespecial 3, 3) := by decide +kernel
theorem dX3_init_4 : decode cX3_init 4 = .ok (.aload_n 0, 1) := by decide +kernel
theorem dX3_init_5 : decode cX3_init 5 = .ok (.bipush 8, 2) := by decide +kernel
theorem dX3_init_7 : decode cX3_init 7 = .ok (.newarray .int, 2) := by decide +kernel
theorem dX3_init_9 : decode cX3_init 9 = .ok (.putfield 9, 3) := by decide +kernel
theorem dX3_init_12 : decode cX3_init 12 = .ok (.aload_n 0, 1) := by decide +kernel
theorem dX3_init_13 : decode cX3_init 13 = .ok (.bipush 8, 2) := by decide +kernel
theorem dX3_init_15 : decode cX3_init 15 = .ok (.newarray .int, 2) := by decide +kernel
theorem dX3_init_17 : decode cX3_init 17 = .ok (.putfield 15, 3) := by decide +kernel
theorem dX3_init_20 : decode cX3_init 20 = .ok (.aload_n 0, 1) := by decide +kernel
theorem dX3_init_21 : decode cX3_init 21 = .ok (.bipush 8, 2) := by decide +kernel
theorem dX3_init_23 : decode cX3_init 23 = .ok (.newarray .int, 2) := by decide +kernel
theorem dX3_init_25 : decode cX3_init 25 = .ok (.putfield 18, 3) := by decide +kernel
theorem dX3_init_28 : decode cX3_init 28 = .ok (.aload_n 0, 1) := by decide +kernel
theorem dX3_init_29 : decode cX3_init 29 = .ok (.bipush 8, 2) := by decide +kernel
theorem dX3_init_31 : decode cX3_init 31 = .ok (.newarray .int, 2) := by decide +kernel
theorem dX3_init_33 : decode cX3_init 33 = .ok (.putfield 21, 3) := by decide +kernel
theorem dX3_init_36 : decode cX3_init 36 = .ok (.aload_n 0, 1) := by decide +kernel
theorem dX3_init_37 : decode cX3_init 37 = .ok (.bipush 8, 2) := by decide +kernel
theorem dX3_init_39 : decode cX3_init 39 = .ok (.newarray .int, 2) := by decide +kernel
theorem dX3_init_41 : decode cX3_init 41 = .ok (.putfield 24, 3) := by decide +kernel
theorem dX3_init_44 : decode cX3_init 44 = .ok (.aload_n 0, 1) := by decide +kernel
theorem dX3_init_45 : decode cX3_init 45 = .ok (.bipush 8, 2) := by decide +kernel
theorem dX3_init_47 : decode cX3_init 47 = .ok (.newarray .int, 2) := by decide +kernel
theorem dX3_init_49 : decode cX3_init 49 = .ok (.putfield 27, 3) := by decide +kernel
theorem dX3_init_52 : decode cX3_init 52 = .ok (.aload_n 0, 1) := by decide +kernel
theorem dX3_init_53 : decode cX3_init 53 = .ok (.bipush 8, 2) := by decide +kernel
theorem dX3_init_55 : decode cX3_init 55 = .ok (.newarray .int, 2) := by decide +kernel
theorem dX3_init_57 : decode cX3_init 57 = .ok (.putfield 30, 3) := by decide +kernel
theorem dX3_init_60 : decode cX3_init 60 = .ok (.aload_n 0, 1) := by decide +kernel
theorem dX3_init_61 : decode cX3_init 61 = .ok (.bipush 8, 2) := by decide +kernel
theorem dX3_init_63 : decode cX3_init 63 = .ok (.newarray .int, 2) := by decide +kernel
theorem dX3_init_65 : decode cX3_init 65 = .ok (.putfield 33, 3) := by decide +kernel
theorem dX3_init_68 : decode cX3_init 68 = .ok (.aload_n 0, 1) := by decide +kernel
theorem dX3_init_69 : decode cX3_init 69 = .ok (.aload_n 1, 1) := by decide +kernel
theorem dX3_init_70 : decode cX3_init 70 = .ok (.putfield 36, 3) := by decide +kernel
theorem dX3_init_73 : decode cX3_init 73 = .ok (.return_, 1) := by decide +kernel
theorem dX3_whichHold_0 : decode cX3_whichHold 0 = .ok (.aload_n 0, 1) := by decide +kernel
theorem dX3_whichHold_1 : decode cX3_whichHold 1 = .ok (.aload_n 1, 1) := by decide +kernel
theorem dX3_whichHold_2 : decode cX3_whichHold 2 = .ok (.aload_n 2, 1) := by decide +kernel
theorem dX3_whichHold_3 : decode cX3_whichHold 3 = .ok (.aload_n 3, 1) := by decide +kernel
theorem dX3_whichHold_4 : decode cX3_whichHold 4 = .ok (.invokevirtual 40, 3) := by decide +kernel
theorem dX3_whichHold_7 : decode cX3_whichHold 7 = .ok (.ifCond .ne 6, 3) := by decide +kernel
theorem dX3_whichHold_10 : decode cX3_whichHold 10 = .ok (.bipush (-2), 2) := by decide +kernel
theorem dX3_whichHold_12 : decode cX3_whichHold 12 = .ok (.ireturn, 1) := by decide +kernel
theorem dX3_whichHold_13 : decode cX3_whichHold 13 = .ok (.iconst 0, 1) := by decide +kernel
theorem dX3_whichHold_14 : decode cX3_whichHold 14 = .ok (.istore 4, 2) := by decide +kernel
theorem dX3_whichHold_16 : decode cX3_whichHold 16 = .ok (.iconst 0, 1) := by decide +kernel
theorem dX3_whichHold_17 : decode cX3_whichHold 17 = .ok (.istore 5, 2) := by decide +kernel
theorem dX3_whichHold_19 : decode cX3_whichHold 19 = .ok (.iload 5, 2) := by decide +kernel
theorem dX3_whichHold_21 : decode cX3_whichHold 21 = .ok (.bipush 8, 2) := by decide +kernel
theorem dX3_whichHold_23 : decode cX3_whichHold 23 = .ok (.if_icmp .ge 66, 3) := by decide +kernel
theorem dX3_whichHold_26 : decode cX3_whichHold 26 = .ok (.aload_n 0, 1) := by decide +kernel
theorem dX3_whichHold_27 : decode cX3_whichHold 27 = .ok (.iload 5, 2) := by decide +kernel
theorem dX3_whichHold_29 : decode cX3_whichHold 29 = .ok (.aload_n 1, 1) := by decide +kernel
theorem dX3_whichHold_30 : decode cX3_whichHold 30 = .ok (.aload_n 2, 1) := by decide +kernel
theorem dX3_whichHold_31 : decode cX3_whichHold 31 = .ok (.aload_n 3, 1) := by decide +kernel
theorem dX3_whichHold_32 : decode cX3_whichHold 32 = .ok (.invokevirtual 44, 3) := by decide +kernel
theorem dX3_whichHold_35 : decode cX3_whichHold 35 = .ok (.ifCond .ne 6, 3) := by decide +kernel
theorem dX3_whichHold_38 : decode cX3_whichHold 38 = .ok (.bipush (-2), 2) := by decide +kernel
theorem dX3_whichHold_40 : decode cX3_whichHold 40 = .ok (.ireturn, 1) := by decide +kernel
theorem dX3_whichHold_41 : decode cX3_whichHold 41 = .ok (.iload 5, 2) := by decide +kernel
theorem dX3_whichHold_43 : decode cX3_whichHold 43 = .ok (.bipush 6, 2) := by decide +kernel
theorem dX3_whichHold_45 : decode cX3_whichHold 45 = .ok (.if_icmp .ne 15, 3) := by decide +kernel
theorem dX3_whichHold_48 : decode cX3_whichHold 48 = .ok (.aload_n 0, 1) := by decide +kernel
theorem dX3_whichHold_49 : decode cX3_whichHold 49 = .ok (.aload_n 1, 1) := by decide +kernel
theorem dX3_whichHold_50 : decode cX3_whichHold 50 = .ok (.aload_n 2, 1) := by decide +kernel
theorem dX3_whichHold_51 : decode cX3_whichHold 51 = .ok (.invokevirtual 48, 3) := by decide +kernel
theorem dX3_whichHold_54 : decode cX3_whichHold 54 = .ok (.ifCond .eq 29, 3) := by decide +kernel
theorem dX3_whichHold_57 : decode cX3_whichHold 57 = .ok (.goto 17, 3) := by decide +kernel
theorem dX3_whichHold_60 : decode cX3_whichHold 60 = .ok (.aload_n 0, 1) := by decide +kernel
theorem dX3_whichHold_61 : decode cX3_whichHold 61 = .ok (.getfield 30, 3) := by decide +kernel
theorem dX3_whichHold_64 : decode cX3_whichHold 64 = .ok (.aload_n 0, 1) := by decide +kernel
theorem dX3_whichHold_65 : decode cX3_whichHold 65 = .ok (.getfield 33, 3) := by decide +kernel
theorem dX3_whichHold_68 : decode cX3_whichHold 68 = .ok (.invokestatic 52, 3) := by decide +kernel
theorem dX3_whichHold_71 : decode cX3_whichHold 71 = .ok (.ifCond .eq 12, 3) := by decide +kernel
theorem dX3_whichHold_74 : decode cX3_whichHold 74 = .ok (.iload 4, 2) := by decide +kernel
theorem dX3_whichHold_76 : decode cX3_whichHold 76 = .ok (.iconst 1, 1) := by decide +kernel
theorem dX3_whichHold_77 : decode cX3_whichHold 77 = .ok (.iload 5, 2) := by decide +kernel
theorem dX3_whichHold_79 : decode cX3_whichHold 79 = .ok (.ishl, 1) := by decide +kernel
theorem dX3_whichHold_80 : decode cX3_whichHold 80 = .ok (.ior, 1) := by decide +kernel
theorem dX3_whichHold_81 : decode cX3_whichHold 81 = .ok (.istore 4, 2) := by decide +kernel
theorem dX3_whichHold_83 : decode cX3_whichHold 83 = .ok (.iinc 5 1, 3) := by decide +kernel
theorem dX3_whichHold_86 : decode cX3_whichHold 86 = .ok (.goto (-67), 3) := by decide +kernel
theorem dX3_whichHold_89 : decode cX3_whichHold 89 = .ok (.iload 4, 2) := by decide +kernel
theorem dX3_whichHold_91 : decode cX3_whichHold 91 = .ok (.ireturn, 1) := by decide +kernel
theorem dX3_multiplyPairs_0 : decode cX3_multiplyPairs 0 = .ok (.aload_n 0, 1) := by decide +kernel
theorem dX3_multiplyPairs_1 : decode cX3_multiplyPairs 1 = .ok (.getfield 36, 3) := by decide +kernel
theorem dX3_multiplyPairs_4 : decode cX3_multiplyPairs 4 = .ok (.aload_n 0, 1) := by decide +kernel
theorem dX3_multiplyPairs_5 : decode cX3_multiplyPairs 5 = .ok (.getfield 9, 3) := by decide +kernel
theorem dX3_multiplyPairs_8 : decode cX3_multiplyPairs 8 = .ok (.aload_n 1, 1) := by decide +kernel
theorem dX3_multiplyPairs_9 : decode cX3_multiplyPairs 9 = .ok (.aload_n 1, 1) := by decide +kernel
theorem dX3_multiplyPairs_10 : decode cX3_multiplyPairs 10 = .ok (.invokevirtual 57, 3) := by decide +kernel
theorem dX3_multiplyPairs_13 : decode cX3_multiplyPairs 13 = .ok (.ifCond .eq 87, 3) := by decide +kernel
theorem dX3_multiplyPairs_16 : decode cX3_multiplyPairs 16 = .ok (.aload_n 0, 1) := by decide +kernel
theorem dX3_multiplyPairs_17 : decode cX3_multiplyPairs 17 = .ok (.getfield 36, 3) := by decide +kernel
theorem dX3_multiplyPairs_20 : decode cX3_multiplyPairs 20 = .ok (.aload_n 0, 1) := by decide +kernel
theorem dX3_multiplyPairs_21 : decode cX3_multiplyPairs 21 = .ok (.getfield 15, 3) := by decide +kernel
theorem dX3_multiplyPairs_24 : decode cX3_multiplyPairs 24 = .ok (.aload_n 1, 1) := by decide +kernel
theorem dX3_multiplyPairs_25 : decode cX3_multiplyPairs 25 = .ok (.aload_n 2, 1) := by decide +kernel
theorem dX3_multiplyPairs_26 : decode cX3_multiplyPairs 26 = .ok (.invokevirtual 57, 3) := by decide +kernel
theorem dX3_multiplyPairs_29 : decode cX3_multiplyPairs 29 = .ok (.ifCond .eq 71, 3) := by decide +kernel
theorem dX3_multiplyPairs_32 : decode cX3_multiplyPairs 32 = .ok (.aload_n 0, 1) := by decide +kernel
theorem dX3_multiplyPairs_33 : decode cX3_multiplyPairs 33 = .ok (.getfield 36, 3) := by decide +kernel
theorem dX3_multiplyPairs_36 : decode cX3_multiplyPairs 36 = .ok (.aload_n 0, 1) := by decide +kernel
theorem dX3_multiplyPairs_37 : decode cX3_multiplyPairs 37 = .ok (.getfield 18, 3) := by decide +kernel
theorem dX3_multiplyPairs_40 : decode cX3_multiplyPairs 40 = .ok (.aload_n 2, 1) := by decide +kernel
theorem dX3_multiplyPairs_41 : decode cX3_multiplyPairs 41 = .ok (.aload_n 1, 1) := by decide +kernel
theorem dX3_multiplyPairs_42 : decode cX3_multiplyPairs 42 = .ok (.invokevirtual 57, 3) := by decide +kernel
theorem dX3_multiplyPairs_45 : decode cX3_multiplyPairs 45 = .ok (.ifCond .eq 55, 3) := by decide +kernel
theorem dX3_multiplyPairs_48 : decode cX3_multiplyPairs 48 = .ok (.aload_n 0, 1) := by decide +kernel
theorem dX3_multiplyPairs_49 : decode cX3_multiplyPairs 49 = .ok (.getfield 36, 3) := by decide +kernel
theorem dX3_multiplyPairs_52 : decode cX3_multiplyPairs 52 = .ok (.aload_n 0, 1) := by decide +kernel
theorem dX3_multiplyPairs_53 : decode cX3_multiplyPairs 53 = .ok (.getfield 21, 3) := by decide +kernel
theorem dX3_multiplyPairs_56 : decode cX3_multiplyPairs 56 = .ok (.aload_n 2, 1) := by decide +kernel
theorem dX3_multiplyPairs_57 : decode cX3_multiplyPairs 57 = .ok (.aload_n 3, 1) := by decide +kernel
theorem dX3_multiplyPairs_58 : decode cX3_multiplyPairs 58 = .ok (.invokevirtual 57, 3) := by decide +kernel
theorem dX3_multiplyPairs_61 : decode cX3_multiplyPairs 61 = .ok (.ifCond .eq 39, 3) := by decide +kernel
theorem dX3_multiplyPairs_64 : decode cX3_multiplyPairs 64 = .ok (.aload_n 0, 1) := by decide +kernel
theorem dX3_multiplyPairs_65 : decode cX3_multiplyPairs 65 = .ok (.getfield 36, 3) := by decide +kernel
theorem dX3_multiplyPairs_68 : decode cX3_multiplyPairs 68 = .ok (.aload_n 0, 1) := by decide +kernel
theorem dX3_multiplyPairs_69 : decode cX3_multiplyPairs 69 = .ok (.getfield 24, 3) := by decide +kernel
theorem dX3_multiplyPairs_72 : decode cX3_multiplyPairs 72 = .ok (.aload_n 3, 1) := by decide +kernel
theorem dX3_multiplyPairs_73 : decode cX3_multiplyPairs 73 = .ok (.aload_n 1, 1) := by decide +kernel
theorem dX3_multiplyPairs_74 : decode cX3_multiplyPairs 74 = .ok (.invokevirtual 57, 3) := by decide +kernel
theorem dX3_multiplyPairs_77 : decode cX3_multiplyPairs 77 = .ok (.ifCond .eq 23, 3) := by decide +kernel
theorem dX3_multiplyPairs_80 : decode cX3_multiplyPairs 80 = .ok (.aload_n 0, 1) := by decide +kernel
theorem dX3_multiplyPairs_81 : decode cX3_multiplyPairs 81 = .ok (.getfield 36, 3) := by decide +kernel
theorem dX3_multiplyPairs_84 : decode cX3_multiplyPairs 84 = .ok (.aload_n 0, 1) := by decide +kernel
theorem dX3_multiplyPairs_85 : decode cX3_multiplyPairs 85 = .ok (.getfield 27, 3) := by decide +kernel
theorem dX3_multiplyPairs_88 : decode cX3_multiplyPairs 88 = .ok (.aload_n 3, 1) := by decide +kernel
theorem dX3_multiplyPairs_89 : decode cX3_multiplyPairs 89 = .ok (.aload_n 2, 1) := by decide +kernel
theorem dX3_multiplyPairs_90 : decode cX3_multiplyPairs 90 = .ok (.invokevirtual 57, 3) := by decide +kernel
theorem dX3_multiplyPairs_93 : decode cX3_multiplyPairs 93 = .ok (.ifCond .eq 7, 3) := by decide +kernel
theorem dX3_multiplyPairs_96 : decode cX3_multiplyPairs 96 = .ok (.iconst 1, 1) := by decide +kernel
theorem dX3_multiplyPairs_97 : decode cX3_multiplyPairs 97 = .ok (.goto 4, 3) := by decide +kernel
theorem dX3_multiplyPairs_100 : decode cX3_multiplyPairs 100 = .ok (.iconst 0, 1) := by decide +kernel
theorem dX3_multiplyPairs_101 : decode cX3_multiplyPairs 101 = .ok (.ireturn, 1) := by decide +kernel
theorem dX3_layBothSides_0 : decode cX3_layBothSides 0 = .ok (.iload_n 1, 1) := by decide +kernel
theorem dX3_layBothSides_1 : decode cX3_layBothSides 1 = .ok (.tableswitch 314 0 6 #[43, 88, 112, 156, 200, 244, 312], 43) := by decide +kernel
theorem dX3_layBothSides_44 : decode cX3_layBothSides 44 = .ok (.aload_n 0, 1) := by decide +kernel
theorem dX3_layBothSides_45 : decode cX3_layBothSides 45 = .ok (.getfield 36, 3) := by decide +kernel
theorem dX3_layBothSides_48 : decode cX3_layBothSides 48 = .ok (.aload_n 0, 1) := by decide +kernel
theorem dX3_layBothSides_49 : decode cX3_layBothSides 49 = .ok (.getfield 30, 3) := by decide +kernel
theorem dX3_layBothSides_52 : decode cX3_layBothSides 52 = .ok (.aload_n 0, 1) := by decide +kernel
theorem dX3_layBothSides_53 : decode cX3_layBothSides 53 = .ok (.getfield 15, 3) := by decide +kernel
theorem dX3_layBothSides_56 : decode cX3_layBothSides 56 = .ok (.aload 4, 2) := by decide +kernel
theorem dX3_layBothSides_58 : decode cX3_layBothSides 58 = .ok (.invokevirtual 57, 3) := by decide +kernel
theorem dX3_layBothSides_61 : decode cX3_layBothSides 61 = .ok (.ifCond .eq 26, 3) := by decide +kernel
theorem dX3_layBothSides_64 : decode cX3_layBothSides 64 = .ok (.aload_n 0, 1) := by decide +kernel
theorem dX3_layBothSides_65 : decode cX3_layBothSides 65 = .ok (.getfield 36, 3) := by decide +kernel
theorem dX3_layBothSides_68 : decode cX3_layBothSides 68 = .ok (.aload_n 0, 1) := by decide +kernel
theorem dX3_layBothSides_69 : decode cX3_layBothSides 69 = .ok (.getfield 33, 3) := by decide +kernel
theorem dX3_layBothSides_72 : decode cX3_layBothSides 72 = .ok (.aload_n 2, 1) := by decide +kernel
theorem dX3_layBothSides_73 : decode cX3_layBothSides 73 = .ok (.aload_n 0, 1) := by decide +kernel
theorem dX3_layBothSides_74 : decode cX3_layBothSides 74 = .ok (.getfield 21, 3) := by decide +kernel
theorem dX3_layBothSides_77 : decode cX3_layBothSides 77 = .ok (.invokevirtual 57, 3) := by decide +kernel
theorem dX3_layBothSides_80 : decode cX3_layBothSides 80 = .ok (.ifCond .eq 7, 3) := by decide +kernel
theorem dX3_layBothSides_83 : decode cX3_layBothSides 83 = .ok (.iconst 1, 1) := by decide +kernel
theorem dX3_layBothSides_84 : decode cX3_layBothSides 84 = .ok (.goto 4, 3) := by decide +kernel
theorem dX3_layBothSides_87 : decode cX3_layBothSides 87 = .ok (.iconst 0, 1) := by decide +kernel
theorem dX3_layBothSides_88 : decode cX3_layBothSides 88 = .ok (.ireturn, 1) := by decide +kernel
theorem dX3_layBothSides_89 : decode cX3_layBothSides 89 = .ok (.aload_n 0, 1) := by decide +kernel
theorem dX3_layBothSides_90 : decode cX3_layBothSides 90 = .ok (.getfield 30, 3) := by decide +kernel
theorem dX3_layBothSides_93 : decode cX3_layBothSides 93 = .ok (.aload_n 0, 1) := by decide +kernel
theorem dX3_layBothSides_94 : decode cX3_layBothSides 94 = .ok (.getfield 15, 3) := by decide +kernel
theorem dX3_layBothSides_97 : decode cX3_layBothSides 97 = .ok (.invokestatic 62, 3) := by decide +kernel
theorem dX3_layBothSides_100 : decode cX3_layBothSides 100 = .ok (.aload_n 0, 1) := by decide +kernel
theorem dX3_layBothSides_101 : decode cX3_layBothSides 101 = .ok (.getfield 33, 3) := by decide +kernel
theorem dX3_layBothSides_104 : decode cX3_layBothSides 104 = .ok (.aload_n 0, 1) := by decide +kernel
theorem dX3_layBothSides_105 : decode cX3_layBothSides 105 = .ok (.getfield 18, 3) := by decide +kernel
theorem dX3_layBothSides_108 : decode cX3_layBothSides 108 = .ok (.invokestatic 62, 3) := by decide +kernel
theorem dX3_layBothSides_111 : decode cX3_layBothSides 111 = .ok (.iconst 1, 1) := by decide +kernel
theorem dX3_layBothSides_112 : decode cX3_layBothSides 112 = .ok (.ireturn, 1) := by decide +kernel
theorem dX3_layBothSides_113 : decode cX3_layBothSides 113 = .ok (.aload_n 0, 1) := by decide +kernel
theorem dX3_layBothSides_114 : decode cX3_layBothSides 114 = .ok (.getfield 36, 3) := by decide +kernel
theorem dX3_layBothSides_117 : decode cX3_layBothSides 117 = .ok (.aload_n 0, 1) := by decide +kernel
theorem dX3_layBothSides_118 : decode cX3_layBothSides 118 = .ok (.getfield 30, 3) := by decide +kernel
theorem dX3_layBothSides_121 : decode cX3_layBothSides 121 = .ok (.aload_n 2, 1) := by decide +kernel
theorem dX3_layBothSides_122 : decode cX3_layBothSides 122 = .ok (.aload_n 0, 1) := by decide +kernel
theorem dX3_layBothSides_123 : decode cX3_layBothSides 123 = .ok (.getfield 15, 3) := by decide +kernel
theorem dX3_layBothSides_126 : decode cX3_layBothSides 126 = .ok (.invokevirtual 57, 3) := by decide +kernel
theorem dX3_layBothSides_129 : decode cX3_layBothSides 129 = .ok (.ifCond .eq 26, 3) := by decide +kernel
theorem dX3_layBothSides_132 : decode cX3_layBothSides 132 = .ok (.aload_n 0, 1) := by decide +kernel
theorem dX3_layBothSides_133 : decode cX3_layBothSides 133 = .ok (.getfield 36, 3) := by decide +kernel
theorem dX3_layBothSides_136 : decode cX3_layBothSides 136 = .ok (.aload_n 0, 1) := by decide +kernel
theorem dX3_layBothSides_137 : decode cX3_layBothSides 137 = .ok (.getfield 33, 3) := by decide +kernel
theorem dX3_layBothSides_140 : decode cX3_layBothSides 140 = .ok (.aload_n 0, 1) := by decide +kernel
theorem dX3_layBothSides_141 : decode cX3_layBothSides 141 = .ok (.getfield 9, 3) := by decide +kernel
theorem dX3_layBothSides_144 : decode cX3_layBothSides 144 = .ok (.aload_n 3, 1) := by decide +kernel
theorem dX3_layBothSides_145 : decode cX3_layBothSides 145 = .ok (.invokevirtual 57, 3) := by decide +kernel
theorem dX3_layBothSides_148 : decode cX3_layBothSides 148 = .ok (.ifCond .eq 7, 3) := by decide +kernel
theorem dX3_layBothSides_151 : decode cX3_layBothSides 151 = .ok (.iconst 1, 1) := by decide +kernel
theorem dX3_layBothSides_152 : decode cX3_layBothSides 152 = .ok (.goto 4, 3) := by decide +kernel
theorem dX3_layBothSides_155 : decode cX3_layBothSides 155 = .ok (.iconst 0, 1) := by decide +kernel
theorem dX3_layBothSides_156 : decode cX3_layBothSides 156 = .ok (.ireturn, 1) := by decide +kernel
theorem dX3_layBothSides_157 : decode cX3_layBothSides 157 = .ok (.aload_n 0, 1) := by decide +kernel
theorem dX3_layBothSides_158 : decode cX3_layBothSides 158 = .ok (.getfield 36, 3) := by decide +kernel
theorem dX3_layBothSides_161 : decode cX3_layBothSides 161 = .ok (.aload_n 0, 1) := by decide +kernel
theorem dX3_layBothSides_162 : decode cX3_layBothSides 162 = .ok (.getfield 30, 3) := by decide +kernel
theorem dX3_layBothSides_165 : decode cX3_layBothSides 165 = .ok (.aload_n 0, 1) := by decide +kernel
theorem dX3_layBothSides_166 : decode cX3_layBothSides 166 = .ok (.getfield 18, 3) := by decide +kernel
theorem dX3_layBothSides_169 : decode cX3_layBothSides 169 = .ok (.aload_n 2, 1) := by decide +kernel
theorem dX3_layBothSides_170 : decode cX3_layBothSides 170 = .ok (.invokevirtual 57, 3) := by decide +kernel
theorem dX3_layBothSides_173 : decode cX3_layBothSides 173 = .ok (.ifCond .eq 26, 3) := by decide +kernel
theorem dX3_layBothSides_176 : decode cX3_layBothSides 176 = .ok (.aload_n 0, 1) := by decide +kernel
theorem dX3_layBothSides_177 : decode cX3_layBothSides 177 = .ok (.getfield 36, 3) := by decide +kernel
theorem dX3_layBothSides_180 : decode cX3_layBothSides 180 = .ok (.aload_n 0, 1) := by decide +kernel
theorem dX3_layBothSides_181 : decode cX3_layBothSides 181 = .ok (.getfield 33, 3) := by decide +kernel
theorem dX3_layBothSides_184 : decode cX3_layBothSides 184 = .ok (.aload_n 3, 1) := by decide +kernel
theorem dX3_layBothSides_185 : decode cX3_layBothSides 185 = .ok (.aload_n 0, 1) := by decide +kernel
theorem dX3_layBothSides_186 : decode cX3_layBothSides 186 = .ok (.getfield 9, 3) := by decide +kernel
theorem dX3_layBothSides_189 : decode cX3_layBothSides 189 = .ok (.invokevirtual 57, 3) := by decide +kernel
theorem dX3_layBothSides_192 : decode cX3_layBothSides 192 = .ok (.ifCond .eq 7, 3) := by decide +kernel
theorem dX3_layBothSides_195 : decode cX3_layBothSides 195 = .ok (.iconst 1, 1) := by decide +kernel
theorem dX3_layBothSides_196 : decode cX3_layBothSides 196 = .ok (.goto 4, 3) := by decide +kernel
theorem dX3_layBothSides_199 : decode cX3_layBothSides 199 = .ok (.iconst 0, 1) := by decide +kernel
theorem dX3_layBothSides_200 : decode cX3_layBothSides 200 = .ok (.ireturn, 1) := by decide +kernel
theorem dX3_layBothSides_201 : decode cX3_layBothSides 201 = .ok (.aload_n 0, 1) := by decide +kernel
theorem dX3_layBothSides_202 : decode cX3_layBothSides 202 = .ok (.getfield 36, 3) := by decide +kernel
theorem dX3_layBothSides_205 : decode cX3_layBothSides 205 = .ok (.aload_n 0, 1) := by decide +kernel
theorem dX3_layBothSides_206 : decode cX3_layBothSides 206 = .ok (.getfield 30, 3) := by decide +kernel
theorem dX3_layBothSides_209 : decode cX3_layBothSides 209 = .ok (.aload_n 2, 1) := by decide +kernel
theorem dX3_layBothSides_210 : decode cX3_layBothSides 210 = .ok (.aload_n 0, 1) := by decide +kernel
theorem dX3_layBothSides_211 : decode cX3_layBothSides 211 = .ok (.getfield 18, 3) := by decide +kernel
theorem dX3_layBothSides_214 : decode cX3_layBothSides 214 = .ok (.invokevirtual 57, 3) := by decide +kernel
theorem dX3_layBothSides_217 : decode cX3_layBothSides 217 = .ok (.ifCond .eq 26, 3) := by decide +kernel
theorem dX3_layBothSides_220 : decode cX3_layBothSides 220 = .ok (.aload_n 0, 1) := by decide +kernel
theorem dX3_layBothSides_221 : decode cX3_layBothSides 221 = .ok (.getfield 36, 3) := by decide +kernel
theorem dX3_layBothSides_224 : decode cX3_layBothSides 224 = .ok (.aload_n 0, 1) := by decide +kernel
theorem dX3_layBothSides_225 : decode cX3_layBothSides 225 = .ok (.getfield 33, 3) := by decide +kernel
theorem dX3_layBothSides_228 : decode cX3_layBothSides 228 = .ok (.aload_n 0, 1) := by decide +kernel
theorem dX3_layBothSides_229 : decode cX3_layBothSides 229 = .ok (.getfield 15, 3) := by decide +kernel
theorem dX3_layBothSides_232 : decode cX3_layBothSides 232 = .ok (.aload_n 2, 1) := by decide +kernel
theorem dX3_layBothSides_233 : decode cX3_layBothSides 233 = .ok (.invokevirtual 57, 3) := by decide +kernel
theorem dX3_layBothSides_236 : decode cX3_layBothSides 236 = .ok (.ifCond .eq 7, 3) := by decide +kernel
theorem dX3_layBothSides_239 : decode cX3_layBothSides 239 = .ok (.iconst 1, 1) := by decide +kernel
theorem dX3_layBothSides_240 : decode cX3_layBothSides 240 = .ok (.goto 4, 3) := by decide +kernel
theorem dX3_layBothSides_243 : decode cX3_layBothSides 243 = .ok (.iconst 0, 1) := by decide +kernel
theorem dX3_layBothSides_244 : decode cX3_layBothSides 244 = .ok (.ireturn, 1) := by decide +kernel
theorem dX3_layBothSides_245 : decode cX3_layBothSides 245 = .ok (.aload_n 0, 1) := by decide +kernel
theorem dX3_layBothSides_246 : decode cX3_layBothSides 246 = .ok (.getfield 36, 3) := by decide +kernel
theorem dX3_layBothSides_249 : decode cX3_layBothSides 249 = .ok (.aload_n 0, 1) := by decide +kernel
theorem dX3_layBothSides_250 : decode cX3_layBothSides 250 = .ok (.getfield 30, 3) := by decide +kernel
theorem dX3_layBothSides_253 : decode cX3_layBothSides 253 = .ok (.aload_n 0, 1) := by decide +kernel
theorem dX3_layBothSides_254 : decode cX3_layBothSides 254 = .ok (.getfield 24, 3) := by decide +kernel
theorem dX3_layBothSides_257 : decode cX3_layBothSides 257 = .ok (.aload_n 0, 1) := by decide +kernel
theorem dX3_layBothSides_258 : decode cX3_layBothSides 258 = .ok (.getfield 21, 3) := by decide +kernel
theorem dX3_layBothSides_261 : decode cX3_layBothSides 261 = .ok (.invokevirtual 57, 3) := by decide +kernel
theorem dX3_layBothSides_264 : decode cX3_layBothSides 264 = .ok (.ifCond .eq 47, 3) := by decide +kernel
theorem dX3_layBothSides_267 : decode cX3_layBothSides 267 = .ok (.aload_n 0, 1) := by decide +kernel
theorem dX3_layBothSides_268 : decode cX3_layBothSides 268 = .ok (.getfield 36, 3) := by decide +kernel
theorem dX3_layBothSides_271 : decode cX3_layBothSides 271 = .ok (.aload_n 0, 1) := by decide +kernel
theorem dX3_layBothSides_272 : decode cX3_layBothSides 272 = .ok (.getfield 33, 3) := by decide +kernel
theorem dX3_layBothSides_275 : decode cX3_layBothSides 275 = .ok (.aload 4, 2) := by decide +kernel
theorem dX3_layBothSides_277 : decode cX3_layBothSides 277 = .ok (.aload_n 0, 1) := by decide +kernel
theorem dX3_layBothSides_278 : decode cX3_layBothSides 278 = .ok (.getfield 15, 3) := by decide +kernel
theorem dX3_layBothSides_281 : decode cX3_layBothSides 281 = .ok (.invokevirtual 57, 3) := by decide +kernel
theorem dX3_layBothSides_284 : decode cX3_layBothSides 284 = .ok (.ifCond .eq 27, 3) := by decide +kernel
theorem dX3_layBothSides_287 : decode cX3_layBothSides 287 = .ok (.aload_n 0, 1) := by decide +kernel
theorem dX3_layBothSides_288 : decode cX3_layBothSides 288 = .ok (.getfield 36, 3) := by decide +kernel
theorem dX3_layBothSides_291 : decode cX3_layBothSides 291 = .ok (.aload_n 0, 1) := by decide +kernel
theorem dX3_layBothSides_292 : decode cX3_layBothSides 292 = .ok (.getfield 33, 3) := by decide +kernel
theorem dX3_layBothSides_295 : decode cX3_layBothSides 295 = .ok (.aload_n 0, 1) := by decide +kernel
theorem dX3_layBothSides_296 : decode cX3_layBothSides 296 = .ok (.getfield 33, 3) := by decide +kernel
theorem dX3_layBothSides_299 : decode cX3_layBothSides 299 = .ok (.aload 4, 2) := by decide +kernel
theorem dX3_layBothSides_301 : decode cX3_layBothSides 301 = .ok (.invokevirtual 57, 3) := by decide +kernel
theorem dX3_layBothSides_304 : decode cX3_layBothSides 304 = .ok (.ifCond .eq 7, 3) := by decide +kernel
theorem dX3_layBothSides_307 : decode cX3_layBothSides 307 = .ok (.iconst 1, 1) := by decide +kernel
theorem dX3_layBothSides_308 : decode cX3_layBothSides 308 = .ok (.goto 4, 3) := by decide +kernel
theorem dX3_layBothSides_311 : decode cX3_layBothSides 311 = .ok (.iconst 0, 1) := by decide +kernel
theorem dX3_layBothSides_312 : decode cX3_layBothSides 312 = .ok (.ireturn, 1) := by decide +kernel
theorem dX3_layBothSides_313 : decode cX3_layBothSides 313 = .ok (.iconst 1, 1) := by decide +kernel
theorem dX3_layBothSides_314 : decode cX3_layBothSides 314 = .ok (.ireturn, 1) := by decide +kernel
theorem dX3_layBothSides_315 : decode cX3_layBothSides 315 = .ok (.aload_n 0, 1) := by decide +kernel
theorem dX3_layBothSides_316 : decode cX3_layBothSides 316 = .ok (.getfield 36, 3) := by decide +kernel
theorem dX3_layBothSides_319 : decode cX3_layBothSides 319 = .ok (.aload_n 0, 1) := by decide +kernel
theorem dX3_layBothSides_320 : decode cX3_layBothSides 320 = .ok (.getfield 30, 3) := by decide +kernel
theorem dX3_layBothSides_323 : decode cX3_layBothSides 323 = .ok (.aload_n 0, 1) := by decide +kernel
theorem dX3_layBothSides_324 : decode cX3_layBothSides 324 = .ok (.getfield 24, 3) := by decide +kernel
theorem dX3_layBothSides_327 : decode cX3_layBothSides 327 = .ok (.aload 4, 2) := by decide +kernel
theorem dX3_layBothSides_329 : decode cX3_layBothSides 329 = .ok (.invokevirtual 57, 3) := by decide +kernel
theorem dX3_layBothSides_332 : decode cX3_layBothSides 332 = .ok (.ifCond .eq 65, 3) := by decide +kernel
theorem dX3_layBothSides_335 : decode cX3_layBothSides 335 = .ok (.aload_n 0, 1) := by decide +kernel
theorem dX3_layBothSides_336 : decode cX3_layBothSides 336 = .ok (.getfield 36, 3) := by decide +kernel
theorem dX3_layBothSides_339 : decode cX3_layBothSides 339 = .ok (.aload_n 0, 1) := by decide +kernel
theorem dX3_layBothSides_340 : decode cX3_layBothSides 340 = .ok (.getfield 30, 3) := by decide +kernel
theorem dX3_layBothSides_343 : decode cX3_layBothSides 343 = .ok (.aload_n 0, 1) := by decide +kernel
theorem dX3_layBothSides_344 : decode cX3_layBothSides 344 = .ok (.getfield 30, 3) := by decide +kernel
theorem dX3_layBothSides_347 : decode cX3_layBothSides 347 = .ok (.aload_n 3, 1) := by decide +kernel
theorem dX3_layBothSides_348 : decode cX3_layBothSides 348 = .ok (.invokevirtual 57, 3) := by decide +kernel
theorem dX3_layBothSides_351 : decode cX3_layBothSides 351 = .ok (.ifCond .eq 46, 3) := by decide +kernel
theorem dX3_layBothSides_354 : decode cX3_layBothSides 354 = .ok (.aload_n 0, 1) := by decide +kernel
theorem dX3_layBothSides_355 : decode cX3_layBothSides 355 = .ok (.getfield 36, 3) := by decide +kernel
theorem dX3_layBothSides_358 : decode cX3_layBothSides 358 = .ok (.aload_n 0, 1) := by decide +kernel
theorem dX3_layBothSides_359 : decode cX3_layBothSides 359 = .ok (.getfield 33, 3) := by decide +kernel
theorem dX3_layBothSides_362 : decode cX3_layBothSides 362 = .ok (.aload_n 2, 1) := by decide +kernel
theorem dX3_layBothSides_363 : decode cX3_layBothSides 363 = .ok (.aload_n 0, 1) := by decide +kernel
theorem dX3_layBothSides_364 : decode cX3_layBothSides 364 = .ok (.getfield 27, 3) := by decide +kernel
theorem dX3_layBothSides_367 : decode cX3_layBothSides 367 = .ok (.invokevirtual 57, 3) := by decide +kernel
theorem dX3_layBothSides_370 : decode cX3_layBothSides 370 = .ok (.ifCond .eq 27, 3) := by decide +kernel
theorem dX3_layBothSides_373 : decode cX3_layBothSides 373 = .ok (.aload_n 0, 1) := by decide +kernel
theorem dX3_layBothSides_374 : decode cX3_layBothSides 374 = .ok (.getfield 36, 3) := by decide +kernel
theorem dX3_layBothSides_377 : decode cX3_layBothSides 377 = .ok (.aload_n 0, 1) := by decide +kernel
theorem dX3_layBothSides_378 : decode cX3_layBothSides 378 = .ok (.getfield 33, 3) := by decide +kernel
theorem dX3_layBothSides_381 : decode cX3_layBothSides 381 = .ok (.aload 4, 2) := by decide +kernel
theorem dX3_layBothSides_383 : decode cX3_layBothSides 383 = .ok (.aload_n 0, 1) := by decide +kernel
theorem dX3_layBothSides_384 : decode cX3_layBothSides 384 = .ok (.getfield 33, 3) := by decide +kernel
theorem dX3_layBothSides_387 : decode cX3_layBothSides 387 = .ok (.invokevirtual 57, 3) := by decide +kernel
theorem dX3_layBothSides_390 : decode cX3_layBothSides 390 = .ok (.ifCond .eq 7, 3) := by decide +kernel
theorem dX3_layBothSides_393 : decode cX3_layBothSides 393 = .ok (.iconst 1, 1) := by decide +kernel
theorem dX3_layBothSides_394 : decode cX3_layBothSides 394 = .ok (.goto 4, 3) := by decide +kernel
theorem dX3_layBothSides_397 : decode cX3_layBothSides 397 = .ok (.iconst 0, 1) := by decide +kernel
theorem dX3_layBothSides_398 : decode cX3_layBothSides 398 = .ok (.ireturn, 1) := by decide +kernel
theorem dX3_doNormsMultiply_0 : decode cX3_doNormsMultiply 0 = .ok (.ldc2_w 66, 3) := by decide +kernel
theorem dX3_doNormsMultiply_3 : decode cX3_doNormsMultiply 3 = .ok (.aload_n 0, 1) := by decide +kernel
theorem dX3_doNormsMultiply_4 : decode cX3_doNormsMultiply 4 = .ok (.getfield 15, 3) := by decide +kernel
theorem dX3_doNormsMultiply_7 : decode cX3_doNormsMultiply 7 = .ok (.invokestatic 68, 3) := by decide +kernel
theorem dX3_doNormsMultiply_10 : decode cX3_doNormsMultiply 10 = .ok (.lmul, 1) := by decide +kernel
theorem dX3_doNormsMultiply_11 : decode cX3_doNormsMultiply 11 = .ok (.aload_n 1, 1) := by decide +kernel
theorem dX3_doNormsMultiply_12 : decode cX3_doNormsMultiply 12 = .ok (.invokestatic 68, 3) := by decide +kernel
theorem dX3_doNormsMultiply_15 : decode cX3_doNormsMultiply 15 = .ok (.aload_n 2, 1) := by decide +kernel
theorem dX3_doNormsMultiply_16 : decode cX3_doNormsMultiply 16 = .ok (.invokestatic 68, 3) := by decide +kernel
theorem dX3_doNormsMultiply_19 : decode cX3_doNormsMultiply 19 = .ok (.lmul, 1) := by decide +kernel
theorem dX3_doNormsMultiply_20 : decode cX3_doNormsMultiply 20 = .ok (.lcmp, 1) := by decide +kernel
theorem dX3_doNormsMultiply_21 : decode cX3_doNormsMultiply 21 = .ok (.ifCond .ne 7, 3) := by decide +kernel
theorem dX3_doNormsMultiply_24 : decode cX3_doNormsMultiply 24 = .ok (.iconst 1, 1) := by decide +kernel
theorem dX3_doNormsMultiply_25 : decode cX3_doNormsMultiply 25 = .ok (.goto 4, 3) := by decide +kernel
theorem dX3_doNormsMultiply_28 : decode cX3_doNormsMultiply 28 = .ok (.iconst 0, 1) := by decide +kernel
theorem dX3_doNormsMultiply_29 : decode cX3_doNormsMultiply 29 = .ok (.ireturn, 1) := by decide +kernel
theorem dX4_init_0 : decode cX4_init 0 = .ok (.aload_n 0, 1) := by decide +kernel
theorem dX4_init_1 : decode cX4_init 1 = .ok (.invokespecial 3, 3) := by decide +kernel
theorem dX4_init_4 : decode cX4_init 4 = .ok (.aload_n 0, 1) := by decide +kernel
theorem dX4_init_5 : decode cX4_init 5 = .ok (.iconst 4, 1) := by decide +kernel
theorem dX4_init_6 : decode cX4_init 6 = .ok (.iconst 0, 1) := by decide +kernel
theorem dX4_init_7 : decode cX4_init 7 = .ok (.multianewarray 9 2, 4) := by decide +kernel
theorem dX4_init_11 : decode cX4_init 11 = .ok (.putfield 11, 3) := by decide +kernel
theorem dX4_init_14 : decode cX4_init 14 = .ok (.aload_n 0, 1) := by decide +kernel
theorem dX4_init_15 : decode cX4_init 15 = .ok (.iconst 4, 1) := by decide +kernel
theorem dX4_init_16 : decode cX4_init 16 = .ok (.newarray .int, 2) := by decide +kernel
theorem dX4_init_18 : decode cX4_init 18 = .ok (.putfield 16, 3) := by decide +kernel
theorem dX4_init_21 : decode cX4_init 21 = .ok (.aload_n 0, 1) := by decide +kernel
theorem dX4_init_22 : decode cX4_init 22 = .ok (.iconst 4, 1) := by decide +kernel
theorem dX4_init_23 : decode cX4_init 23 = .ok (.newarray .int, 2) := by decide +kernel
theorem dX4_init_25 : decode cX4_init 25 = .ok (.dup, 1) := by decide +kernel
theorem dX4_init_26 : decode cX4_init 26 = .ok (.iconst 0, 1) := by decide +kernel
theorem dX4_init_27 : decode cX4_init 27 = .ok (.iconst (-1), 1) := by decide +kernel
theorem dX4_init_28 : decode cX4_init 28 = .ok (.iastore, 1) := by decide +kernel
theorem dX4_init_29 : decode cX4_init 29 = .ok (.dup, 1) := by decide +kernel
theorem dX4_init_30 : decode cX4_init 30 = .ok (.iconst 1, 1) := by decide +kernel
theorem dX4_init_31 : decode cX4_init 31 = .ok (.iconst (-1), 1) := by decide +kernel
theorem dX4_init_32 : decode cX4_init 32 = .ok (.iastore, 1) := by decide +kernel
theorem dX4_init_33 : decode cX4_init 33 = .ok (.dup, 1) := by decide +kernel
theorem dX4_init_34 : decode cX4_init 34 = .ok (.iconst 2, 1) := by decide +kernel
theorem dX4_init_35 : decode cX4_init 35 = .ok (.iconst (-1), 1) := by decide +kernel
theorem dX4_init_36 : decode cX4_init 36 = .ok (.iastore, 1) := by decide +kernel
theorem dX4_init_37 : decode cX4_init 37 = .ok (.dup, 1) := by decide +kernel
theorem dX4_init_38 : decode cX4_init 38 = .ok (.iconst 3, 1) := by decide +kernel
theorem dX4_init_39 : decode cX4_init 39 = .ok (.iconst (-1), 1) := by decide +kernel
theorem dX4_init_40 : decode cX4_init 40 = .ok (.iastore, 1) := by decide +kernel
theorem dX4_init_41 : decode cX4_init 41 = .ok (.putfield 20, 3) := by decide +kernel
theorem dX4_init_44 : decode cX4_init 44 = .ok (.aload_n 0, 1) := by decide +kernel
theorem dX4_init_45 : decode cX4_init 45 = .ok (.bipush 8, 2) := by decide +kernel
theorem dX4_init_47 : decode cX4_init 47 = .ok (.newarray .int, 2) := by decide +kernel
theorem dX4_init_49 : decode cX4_init 49 = .ok (.putfield 23, 3) := by decide +kernel
theorem dX4_init_52 : decode cX4_init 52 = .ok (.aload_n 0, 1) := by decide +kernel
theorem dX4_init_53 : decode cX4_init 53 = .ok (.aload_n 1, 1) := by decide +kernel
theorem dX4_init_54 : decode cX4_init 54 = .ok (.putfield 26, 3) := by decide +kernel
theorem dX4_init_57 : decode cX4_init 57 = .ok (.return_, 1) := by decide +kernel
theorem dX4_manyOf_0 : decode cX4_manyOf 0 = .ok (.iload_n 1, 1) := by decide +kernel
theorem dX4_manyOf_1 : decode cX4_manyOf 1 = .ok (.ifCond .lt 8, 3) := by decide +kernel
theorem dX4_manyOf_4 : decode cX4_manyOf 4 = .ok (.iload_n 1, 1) := by decide +kernel
theorem dX4_manyOf_5 : decode cX4_manyOf 5 = .ok (.iconst 3, 1) := by decide +kernel
theorem dX4_manyOf_6 : decode cX4_manyOf 6 = .ok (.if_icmp .le 5, 3) := by decide +kernel
theorem dX4_manyOf_9 : decode cX4_manyOf 9 = .ok (.iconst 0, 1) := by decide +kernel
theorem dX4_manyOf_10 : decode cX4_manyOf 10 = .ok (.ireturn, 1) := by decide +kernel
theorem dX4_manyOf_11 : decode cX4_manyOf 11 = .ok (.aload_n 0, 1) := by decide +kernel
theorem dX4_manyOf_12 : decode cX4_manyOf 12 = .ok (.getfield 20, 3) := by decide +kernel
theorem dX4_manyOf_15 : decode cX4_manyOf 15 = .ok (.iload_n 1, 1) := by decide +kernel
theorem dX4_manyOf_16 : decode cX4_manyOf 16 = .ok (.iaload, 1) := by decide +kernel
theorem dX4_manyOf_17 : decode cX4_manyOf 17 = .ok (.aload_n 0, 1) := by decide +kernel
theorem dX4_manyOf_18 : decode cX4_manyOf 18 = .ok (.getfield 26, 3) := by decide +kernel
theorem dX4_manyOf_21 : decode cX4_manyOf 21 = .ok (.getfield 30, 3) := by decide +kernel
theorem dX4_manyOf_24 : decode cX4_manyOf 24 = .ok (.if_icmp .eq 8, 3) := by decide +kernel
theorem dX4_manyOf_27 : decode cX4_manyOf 27 = .ok (.aload_n 0, 1) := by decide +kernel
theorem dX4_manyOf_28 : decode cX4_manyOf 28 = .ok (.iload_n 1, 1) := by decide +kernel
theorem dX4_manyOf_29 : decode cX4_manyOf 29 = .ok (.invokevirtual 36, 3) := by decide +kernel
theorem dX4_manyOf_32 : decode cX4_manyOf 32 = .ok (.aload_n 0, 1) := by decide +kernel
theorem dX4_manyOf_33 : decode cX4_manyOf 33 = .ok (.getfield 16, 3) := by decide +kernel
theorem dX4_manyOf_36 : decode cX4_manyOf 36 = .ok (.iload_n 1, 1) := by decide +kernel
theorem dX4_manyOf_37 : decode cX4_manyOf 37 = .ok (.iaload, 1) := by decide +kernel
theorem dX4_manyOf_38 : decode cX4_manyOf 38 = .ok (.ireturn, 1) := by decide +kernel
theorem dX4_take_0 : decode cX4_take 0 = .ok (.iload_n 3, 1) := by decide +kernel
theorem dX4_take_1 : decode cX4_take 1 = .ok (.ifCond .lt 12, 3) := by decide +kernel
theorem dX4_take_4 : decode cX4_take 4 = .ok (.iload_n 3, 1) := by decide +kernel
theorem dX4_take_5 : decode cX4_take 5 = .ok (.aload_n 0, 1) := by decide +kernel
theorem dX4_take_6 : decode cX4_take 6 = .ok (.iload_n 2, 1) := by decide +kernel
theorem dX4_take_7 : decode cX4_take 7 = .ok (.invokevirtual 40, 3) := by decide +kernel
theorem dX4_take_10 : decode cX4_take 10 = .ok (.if_icmp .lt 5, 3) := by decide +kernel
theorem dX4_take_13 : decode cX4_take 13 = .ok (.iconst 0, 1) := by decide +kernel
theorem dX4_take_14 : decode cX4_take 14 = .ok (.ireturn, 1) := by decide +kernel
theorem dX4_take_15 : decode cX4_take 15 = .ok (.aload_n 1, 1) := by decide +kernel
theorem dX4_take_16 : decode cX4_take 16 = .ok (.aload_n 0, 1) := by decide +kernel
theorem dX4_take_17 : decode cX4_take 17 = .ok (.getfield 11, 3) := by decide +kernel
theorem dX4_take_20 : decode cX4_take 20 = .ok (.iload_n 2, 1) := by decide +kernel
theorem dX4_take_21 : decode cX4_take 21 = .ok (.aaload, 1) := by decide +kernel
theorem dX4_take_22 : decode cX4_take 22 = .ok (.iload_n 3, 1) := by decide +kernel
theorem dX4_take_23 : decode cX4_take 23 = .ok (.iaload, 1) := by decide +kernel
theorem dX4_take_24 : decode cX4_take 24 = .ok (.invokestatic 44, 3) := by decide +kernel
theorem dX4_take_27 : decode cX4_take 27 = .ok (.iconst 1, 1) := by decide +kernel
theorem dX4_take_28 : decode cX4_take 28 = .ok (.ireturn, 1) := by decide +kernel
theorem dX4_find_0 : decode cX4_find 0 = .ok (.aload_n 1, 1) := by decide +kernel
theorem dX4_find_1 : decode cX4_find 1 = .ok (.invokestatic 48, 3) := by decide +kernel
theorem dX4_find_4 : decode cX4_find 4 = .ok (.lstore_n 2, 1) := by decide +kernel
theorem dX4_find_5 : decode cX4_find 5 = .ok (.lload_n 2, 1) := by decide +kernel
theorem dX4_find_6 : decode cX4_find 6 = .ok (.ldc2_w 54, 3) := by decide +kernel
theorem dX4_find_9 : decode cX4_find 9 = .ok (.lcmp, 1) := by decide +kernel
theorem dX4_find_10 : decode cX4_find 10 = .ok (.ifCond .gt 13, 3) := by decide +kernel
theorem dX4_find_13 : decode cX4_find 13 = .ok (.lload_n 2, 1) := by decide +kernel
theorem dX4_find_14 : decode cX4_find 14 = .ok (.ldc2_w 56, 3) := by decide +kernel
theorem dX4_find_17 : decode cX4_find 17 = .ok (.lrem, 1) := by decide +kernel
theorem dX4_find_18 : decode cX4_find 18 = .ok (.lconst 0, 1) := by decide +kernel
theorem dX4_find_19 : decode cX4_find 19 = .ok (.lcmp, 1) := by decide +kernel
theorem dX4_find_20 : decode cX4_find 20 = .ok (.ifCond .eq 5, 3) := by decide +kernel
theorem dX4_find_23 : decode cX4_find 23 = .ok (.iconst (-1), 1) := by decide +kernel
theorem dX4_find_24 : decode cX4_find 24 = .ok (.ireturn, 1) := by decide +kernel
theorem dX4_find_25 : decode cX4_find 25 = .ok (.lload_n 2, 1) := by decide +kernel
theorem dX4_find_26 : decode cX4_find 26 = .ok (.ldc2_w 56, 3) := by decide +kernel
theorem dX4_find_29 : decode cX4_find 29 = .ok (.ldiv, 1) := by decide +kernel
theorem dX4_find_30 : decode cX4_find 30 = .ok (.l2i, 1) := by decide +kernel
theorem dX4_find_31 : decode cX4_find 31 = .ok (.istore 4, 2) := by decide +kernel
theorem dX4_find_33 : decode cX4_find 33 = .ok (.aload_n 0, 1) := by decide +kernel
theorem dX4_find_34 : decode cX4_find 34 = .ok (.iload 4, 2) := by decide +kernel
theorem dX4_find_36 : decode cX4_find 36 = .ok (.invokevirtual 40, 3) := by decide +kernel
theorem dX4_find_39 : decode cX4_find 39 = .ok (.ifCond .le 13, 3) := by decide +kernel
theorem dX4_find_42 : decode cX4_find 42 = .ok (.aload_n 0, 1) := by decide +kernel
theorem dX4_find_43 : decode cX4_find 43 = .ok (.iload 4, 2) := by decide +kernel
theorem dX4_find_45 : decode cX4_find 45 = .ok (.aload_n 1, 1) := by decide +kernel
theorem dX4_find_46 : decode cX4_find 46 = .ok (.invokevirtual 58, 3) := by decide +kernel
theorem dX4_find_49 : decode cX4_find 49 = .ok (.goto 4, 3) := by decide +kernel
theorem dX4_find_52 : decode cX4_find 52 = .ok (.iconst (-1), 1) := by decide +kernel
theorem dX4_find_53 : decode cX4_find 53 = .ok (.ireturn, 1) := by decide +kernel
theorem dX4_takeUnit_0 : decode cX4_takeUnit 0 = .ok (.iload_n 2, 1) := by decide +kernel
theorem dX4_takeUnit_1 : decode cX4_takeUnit 1 = .ok (.ifCond .lt 13, 3) := by decide +kernel
theorem dX4_takeUnit_4 : decode cX4_takeUnit 4 = .ok (.iload_n 2, 1) := by decide +kernel
theorem dX4_takeUnit_5 : decode cX4_takeUnit 5 = .ok (.aload_n 0, 1) := by decide +kernel
theorem dX4_takeUnit_6 : decode cX4_takeUnit 6 = .ok (.getfield 16, 3) := by decide +kernel
theorem dX4_takeUnit_9 : decode cX4_takeUnit 9 = .ok (.iconst 1, 1) := by decide +kernel
theorem dX4_takeUnit_10 : decode cX4_takeUnit 10 = .ok (.iaload, 1) := by decide +kernel
theorem dX4_takeUnit_11 : decode cX4_takeUnit 11 = .ok (.if_icmp .lt 5, 3) := by decide +kernel
theorem dX4_takeUnit_14 : decode cX4_takeUnit 14 = .ok (.iconst 0, 1) := by decide +kernel
theorem dX4_takeUnit_15 : decode cX4_takeUnit 15 = .ok (.ireturn, 1) := by decide +kernel
theorem dX4_takeUnit_16 : decode cX4_takeUnit 16 = .ok (.aload_n 1, 1) := by decide +kernel
theorem dX4_takeUnit_17 : decode cX4_takeUnit 17 = .ok (.aload_n 0, 1) := by decide +kernel
theorem dX4_takeUnit_18 : decode cX4_takeUnit 18 = .ok (.getfield 11, 3) := by decide +kernel
theorem dX4_takeUnit_21 : decode cX4_takeUnit 21 = .ok (.iconst 1, 1) := by decide +kernel
theorem dX4_takeUnit_22 : decode cX4_takeUnit 22 = .ok (.aaload, 1) := by decide +kernel
theorem dX4_takeUnit_23 : decode cX4_takeUnit 23 = .ok (.iload_n 2, 1) := by decide +kernel
theorem dX4_takeUnit_24 : decode cX4_takeUnit 24 = .ok (.iaload, 1) := by decide +kernel
theorem dX4_takeUnit_25 : decode cX4_takeUnit 25 = .ok (.invokestatic 44, 3) := by decide +kernel
theorem dX4_takeUnit_28 : decode cX4_takeUnit 28 = .ok (.iconst 1, 1) := by decide +kernel
theorem dX4_takeUnit_29 : decode cX4_takeUnit 29 = .ok (.ireturn, 1) := by decide +kernel
theorem dX4_search_0 : decode cX4_search 0 = .ok (.iconst 0, 1) := by decide +kernel
theorem dX4_search_1 : decode cX4_search 1 = .ok (.istore_n 3, 1) := by decide +kernel
theorem dX4_search_2 : decode cX4_search 2 = .ok (.aload_n 0, 1) := by decide +kernel
theorem dX4_search_3 : decode cX4_search 3 = .ok (.getfield 16, 3) := by decide +kernel
theorem dX4_search_6 : decode cX4_search 6 = .ok (.iload_n 1, 1) := by decide +kernel
theorem dX4_search_7 : decode cX4_search 7 = .ok (.iaload, 1) := by decide +kernel
theorem dX4_search_8 : decode cX4_search 8 = .ok (.iconst 1, 1) := by decide +kernel
theorem dX4_search_9 : decode cX4_search 9 = .ok (.isub, 1) := by decide +kernel
theorem dX4_search_10 : decode cX4_search 10 = .ok (.istore 4, 2) := by decide +kernel
theorem dX4_search_12 : decode cX4_search 12 = .ok (.aload_n 2, 1) := by decide +kernel
theorem dX4_search_13 : decode cX4_search 13 = .ok (.invokestatic 62, 3) := by decide +kernel
theorem dX4_search_16 : decode cX4_search 16 = .ok (.istore 5, 2) := by decide +kernel
theorem dX4_search_18 : decode cX4_search 18 = .ok (.iconst 0, 1) := by decide +kernel
theorem dX4_search_19 : decode cX4_search 19 = .ok (.istore 6, 2) := by decide +kernel
theorem dX4_search_21 : decode cX4_search 21 = .ok (.iload 6, 2) := by decide +kernel
theorem dX4_search_23 : decode cX4_search 23 = .ok (.bipush 16, 2) := by decide +kernel
theorem dX4_search_25 : decode cX4_search 25 = .ok (.if_icmp .ge 49, 3) := by decide +kernel
theorem dX4_search_28 : decode cX4_search 28 = .ok (.iload_n 3, 1) := by decide +kernel
theorem dX4_search_29 : decode cX4_search 29 = .ok (.iload 4, 2) := by decide +kernel
theorem dX4_search_31 : decode cX4_search 31 = .ok (.if_icmp .ge 43, 3) := by decide +kernel
theorem dX4_search_34 : decode cX4_search 34 = .ok (.iload_n 3, 1) := by decide +kernel
theorem dX4_search_35 : decode cX4_search 35 = .ok (.iload 4, 2) := by decide +kernel
theorem dX4_search_37 : decode cX4_search 37 = .ok (.iadd, 1) := by decide +kernel
theorem dX4_search_38 : decode cX4_search 38 = .ok (.iconst 2, 1) := by decide +kernel
theorem dX4_search_39 : decode cX4_search 39 = .ok (.idiv, 1) := by decide +kernel
theorem dX4_search_40 : decode cX4_search 40 = .ok (.istore 7, 2) := by decide +kernel
theorem dX4_search_42 : decode cX4_search 42 = .ok (.aload_n 0, 1) := by decide +kernel
theorem dX4_search_43 : decode cX4_search 43 = .ok (.getfield 11, 3) := by decide +kernel
theorem dX4_search_46 : decode cX4_search 46 = .ok (.iload_n 1, 1) := by decide +kernel
theorem dX4_search_47 : decode cX4_search 47 = .ok (.aaload, 1) := by decide +kernel
theorem dX4_search_48 : decode cX4_search 48 = .ok (.iload 7, 2) := by decide +kernel
theorem dX4_search_50 : decode cX4_search 50 = .ok (.iaload, 1) := by decide +kernel
theorem dX4_search_51 : decode cX4_search 51 = .ok (.iload 5, 2) := by decide +kernel
theorem dX4_search_53 : decode cX4_search 53 = .ok (.if_icmp .ge 11, 3) := by decide +kernel
theorem dX4_search_56 : decode cX4_search 56 = .ok (.iload 7, 2) := by decide +kernel
theorem dX4_search_58 : decode cX4_search 58 = .ok (.iconst 1, 1) := by decide +kernel
theorem dX4_search_59 : decode cX4_search 59 = .ok (.iadd, 1) := by decide +kernel
theorem dX4_search_60 : decode cX4_search 60 = .ok (.istore_n 3, 1) := by decide +kernel
theorem dX4_search_61 : decode cX4_search 61 = .ok (.goto 7, 3) := by decide +kernel
theorem dX4_search_64 : decode cX4_search 64 = .ok (.iload 7, 2) := by decide +kernel
theorem dX4_search_66 : decode cX4_search 66 = .ok (.istore 4, 2) := by decide +kernel
theorem dX4_search_68 : decode cX4_search 68 = .ok (.iinc 6 1, 3) := by decide +kernel
theorem dX4_search_71 : decode cX4_search 71 = .ok (.goto (-50), 3) := by decide +kernel
theorem dX4_search_74 : decode cX4_search 74 = .ok (.iload_n 3, 1) := by decide +kernel
theorem dX4_search_75 : decode cX4_search 75 = .ok (.iload 4, 2) := by decide +kernel
theorem dX4_search_77 : decode cX4_search 77 = .ok (.if_icmp .ne 20, 3) := by decide +kernel
theorem dX4_search_80 : decode cX4_search 80 = .ok (.aload_n 0, 1) := by decide +kernel
theorem dX4_search_81 : decode cX4_search 81 = .ok (.getfield 11, 3) := by decide +kernel
theorem dX4_search_84 : decode cX4_search 84 = .ok (.iload_n 1, 1) := by decide +kernel
theorem dX4_search_85 : decode cX4_search 85 = .ok (.aaload, 1) := by decide +kernel
theorem dX4_search_86 : decode cX4_search 86 = .ok (.iload_n 3, 1) := by decide +kernel
theorem dX4_search_87 : decode cX4_search 87 = .ok (.iaload, 1) := by decide +kernel
theorem dX4_search_88 : decode cX4_search 88 = .ok (.iload 5, 2) := by decide +kernel
theorem dX4_search_90 : decode cX4_search 90 = .ok (.if_icmp .ne 7, 3) := by decide +kernel
theorem dX4_search_93 : decode cX4_search 93 = .ok (.iload_n 3, 1) := by decide +kernel
theorem dX4_search_94 : decode cX4_search 94 = .ok (.goto 4, 3) := by decide +kernel
theorem dX4_search_97 : decode cX4_search 97 = .ok (.iconst (-1), 1) := by decide +kernel
theorem dX4_search_98 : decode cX4_search 98 = .ok (.ireturn, 1) := by decide +kernel
theorem dX4_unpack_0 : decode cX4_unpack 0 = .ok (.iconst 0, 1) := by decide +kernel
theorem dX4_unpack_1 : decode cX4_unpack 1 = .ok (.istore_n 2, 1) := by decide +kernel
theorem dX4_unpack_2 : decode cX4_unpack 2 = .ok (.iload_n 2, 1) := by decide +kernel
theorem dX4_unpack_3 : decode cX4_unpack 3 = .ok (.bipush 8, 2) := by decide +kernel
theorem dX4_unpack_5 : decode cX4_unpack 5 = .ok (.if_icmp .ge 25, 3) := by decide +kernel
theorem dX4_unpack_8 : decode cX4_unpack 8 = .ok (.aload_n 0, 1) := by decide +kernel
theorem dX4_unpack_9 : decode cX4_unpack 9 = .ok (.iload_n 2, 1) := by decide +kernel
theorem dX4_unpack_10 : decode cX4_unpack 10 = .ok (.iload_n 1, 1) := by decide +kernel
theorem dX4_unpack_11 : decode cX4_unpack 11 = .ok (.bipush 28, 2) := by decide +kernel
theorem dX4_unpack_13 : decode cX4_unpack 13 = .ok (.iconst 4, 1) := by decide +kernel
theorem dX4_unpack_14 : decode cX4_unpack 14 = .ok (.iload_n 2, 1) := by decide +kernel
theorem dX4_unpack_15 : decode cX4_unpack 15 = .ok (.imul, 1) := by decide +kernel
theorem dX4_unpack_16 : decode cX4_unpack 16 = .ok (.isub, 1) := by decide +kernel
theorem dX4_unpack_17 : decode cX4_unpack 17 = .ok (.ishr, 1) := by decide +kernel
theorem dX4_unpack_18 : decode cX4_unpack 18 = .ok (.bipush 15, 2) := by decide +kernel
theorem dX4_unpack_20 : decode cX4_unpack 20 = .ok (.iand, 1) := by decide +kernel
theorem dX4_unpack_21 : decode cX4_unpack 21 = .ok (.iconst 4, 1) := by decide +kernel
theorem dX4_unpack_22 : decode cX4_unpack 22 = .ok (.isub, 1) := by decide +kernel
theorem dX4_unpack_23 : decode cX4_unpack 23 = .ok (.iastore, 1) := by decide +kernel
theorem dX4_unpack_24 : decode cX4_unpack 24 = .ok (.iinc 2 1, 3) := by decide +kernel
theorem dX4_unpack_27 : decode cX4_unpack 27 = .ok (.goto (-25), 3) := by decide +kernel
theorem dX4_unpack_30 : decode cX4_unpack 30 = .ok (.return_, 1) := by decide +kernel
theorem dX4_pack_0 : decode cX4_pack 0 = .ok (.iconst 0, 1) := by decide +kernel
theorem dX4_pack_1 : decode cX4_pack 1 = .ok (.istore_n 1, 1) := by decide +kernel
theorem dX4_pack_2 : decode cX4_pack 2 = .ok (.iconst 0, 1) := by decide +kernel
theorem dX4_pack_3 : decode cX4_pack 3 = .ok (.istore_n 2, 1) := by decide +kernel
theorem dX4_pack_4 : decode cX4_pack 4 = .ok (.iload_n 2, 1) := by decide +kernel
theorem dX4_pack_5 : decode cX4_pack 5 = .ok (.bipush 8, 2) := by decide +kernel
theorem dX4_pack_7 : decode cX4_pack 7 = .ok (.if_icmp .ge 22, 3) := by decide +kernel
theorem dX4_pack_10 : decode cX4_pack 10 = .ok (.iload_n 1, 1) := by decide +kernel
theorem dX4_pack_11 : decode cX4_pack 11 = .ok (.iconst 4, 1) := by decide +kernel
theorem dX4_pack_12 : decode cX4_pack 12 = .ok (.ishl, 1) := by decide +kernel
theorem dX4_pack_13 : decode cX4_pack 13 = .ok (.aload_n 0, 1) := by decide +kernel
theorem dX4_pack_14 : decode cX4_pack 14 = .ok (.iload_n 2, 1) := by decide +kernel
theorem dX4_pack_15 : decode cX4_pack 15 = .ok (.iaload, 1) := by decide +kernel
theorem dX4_pack_16 : decode cX4_pack 16 = .ok (.iconst 4, 1) := by decide +kernel
theorem dX4_pack_17 : decode cX4_pack 17 = .ok (.iadd, 1) := by decide +kernel
theorem dX4_pack_18 : decode cX4_pack 18 = .ok (.bipush 15, 2) := by decide +kernel
theorem dX4_pack_20 : decode cX4_pack 20 = .ok (.iand, 1) := by decide +kernel
theorem dX4_pack_21 : decode cX4_pack 21 = .ok (.ior, 1) := by decide +kernel
theorem dX4_pack_22 : decode cX4_pack 22 = .ok (.istore_n 1, 1) := by decide +kernel
theorem dX4_pack_23 : decode cX4_pack 23 = .ok (.iinc 2 1, 3) := by decide +kernel
theorem dX4_pack_26 : decode cX4_pack 26 = .ok (.goto (-22), 3) := by decide +kernel
theorem dX4_pack_29 : decode cX4_pack 29 = .ok (.iload_n 1, 1) := by decide +kernel
theorem dX4_pack_30 : decode cX4_pack 30 = .ok (.ireturn, 1) := by decide +kernel
theorem dX4_fill_0 : decode cX4_fill 0 = .ok (.aload_n 0, 1) := by decide +kernel
theorem dX4_fill_1 : decode cX4_fill 1 = .ok (.getfield 11, 3) := by decide +kernel
theorem dX4_fill_4 : decode cX4_fill 4 = .ok (.iload_n 1, 1) := by decide +kernel
theorem dX4_fill_5 : decode cX4_fill 5 = .ok (.aaload, 1) := by decide +kernel
theorem dX4_fill_6 : decode cX4_fill 6 = .ok (.arraylength, 1) := by decide +kernel
theorem dX4_fill_7 : decode cX4_fill 7 = .ok (.ifCond .ne 16, 3) := by decide +kernel
theorem dX4_fill_10 : decode cX4_fill 10 = .ok (.aload_n 0, 1) := by decide +kernel
theorem dX4_fill_11 : decode cX4_fill 11 = .ok (.getfield 11, 3) := by decide +kernel
theorem dX4_fill_14 : decode cX4_fill 14 = .ok (.iload_n 1, 1) := by decide +kernel
theorem dX4_fill_15 : decode cX4_fill 15 = .ok (.getstatic 66, 3) := by decide +kernel
theorem dX4_fill_18 : decode cX4_fill 18 = .ok (.iload_n 1, 1) := by decide +kernel
theorem dX4_fill_19 : decode cX4_fill 19 = .ok (.iaload, 1) := by decide +kernel
theorem dX4_fill_20 : decode cX4_fill 20 = .ok (.newarray .int, 2) := by decide +kernel
theorem dX4_fill_22 : decode cX4_fill 22 = .ok (.aastore, 1) := by decide +kernel
theorem dX4_fill_23 : decode cX4_fill 23 = .ok (.aload_n 0, 1) := by decide +kernel
theorem dX4_fill_24 : decode cX4_fill 24 = .ok (.invokevirtual 69, 3) := by decide +kernel
theorem dX4_fill_27 : decode cX4_fill 27 = .ok (.aload_n 0, 1) := by decide +kernel
theorem dX4_fill_28 : decode cX4_fill 28 = .ok (.getfield 16, 3) := by decide +kernel
theorem dX4_fill_31 : decode cX4_fill 31 = .ok (.iload_n 1, 1) := by decide +kernel
theorem dX4_fill_32 : decode cX4_fill 32 = .ok (.iconst 0, 1) := by decide +kernel
theorem dX4_fill_33 : decode cX4_fill 33 = .ok (.iastore, 1) := by decide +kernel
theorem dX4_fill_34 : decode cX4_fill 34 = .ok (.aload_n 0, 1) := by decide +kernel
theorem dX4_fill_35 : decode cX4_fill 35 = .ok (.getfield 20, 3) := by decide +kernel
theorem dX4_fill_38 : decode cX4_fill 38 = .ok (.iload_n 1, 1) := by decide +kernel
theorem dX4_fill_39 : decode cX4_fill 39 = .ok (.aload_n 0, 1) := by decide +kernel
theorem dX4_fill_40 : decode cX4_fill 40 = .ok (.getfield 26, 3) := by decide +kernel
theorem dX4_fill_43 : decode cX4_fill 43 = .ok (.getfield 30, 3) := by decide +kernel
theorem dX4_fill_46 : decode cX4_fill 46 = .ok (.iastore, 1) := by decide +kernel
theorem dX4_fill_47 : decode cX4_fill 47 = .ok (.iconst 1, 1) := by decide +kernel
theorem dX4_fill_48 : decode cX4_fill 48 = .ok (.aload_n 0, 1) := by decide +kernel
theorem dX4_fill_49 : decode cX4_fill 49 = .ok (.getfield 26, 3) := by decide +kernel
theorem dX4_fill_52 : decode cX4_fill 52 = .ok (.getfield 30, 3) := by decide +kernel
theorem dX4_fill_55 : decode cX4_fill 55 = .ok (.invokestatic 72, 3) := by decide +kernel
theorem dX4_fill_58 : decode cX4_fill 58 = .ok (.ishl, 1) := by decide +kernel
theorem dX4_fill_59 : decode cX4_fill 59 = .ok (.iconst 1, 1) := by decide +kernel
theorem dX4_fill_60 : decode cX4_fill 60 = .ok (.isub, 1) := by decide +kernel
theorem dX4_fill_61 : decode cX4_fill 61 = .ok (.istore_n 2, 1) := by decide +kernel
theorem dX4_fill_62 : decode cX4_fill 62 = .ok (.aload_n 0, 1) := by decide +kernel
theorem dX4_fill_63 : decode cX4_fill 63 = .ok (.iload_n 1, 1) := by decide +kernel
theorem dX4_fill_64 : decode cX4_fill 64 = .ok (.iconst 0, 1) := by decide +kernel
theorem dX4_fill_65 : decode cX4_fill 65 = .ok (.iconst 4, 1) := by decide +kernel
theorem dX4_fill_66 : decode cX4_fill 66 = .ok (.iload_n 1, 1) := by decide +kernel
theorem dX4_fill_67 : decode cX4_fill 67 = .ok (.imul, 1) := by decide +kernel
theorem dX4_fill_68 : decode cX4_fill 68 = .ok (.iload_n 2, 1) := by decide +kernel
theorem dX4_fill_69 : decode cX4_fill 69 = .ok (.iconst 0, 1) := by decide +kernel
theorem dX4_fill_70 : decode cX4_fill 70 = .ok (.invokevirtual 75, 3) := by decide +kernel
theorem dX4_fill_73 : decode cX4_fill 73 = .ok (.return_, 1) := by decide +kernel
theorem dX4_sortWords_0 : decode cX4_sortWords 0 = .ok (.aload_n 0, 1) := by decide +kernel
theorem dX4_sortWords_1 : decode cX4_sortWords 1 = .ok (.getfield 23, 3) := by decide +kernel
theorem dX4_sortWords_4 : decode cX4_sortWords 4 = .ok (.iconst 0, 1) := by decide +kernel
theorem dX4_sortWords_5 : decode cX4_sortWords 5 = .ok (.invokestatic 79, 3) := by decide +kernel
theorem dX4_sortWords_8 : decode cX4_sortWords 8 = .ok (.aload_n 0, 1) := by decide +kernel
theorem dX4_sortWords_9 : decode cX4_sortWords 9 = .ok (.getfield 26, 3) := by decide +kernel
theorem dX4_sortWords_12 : decode cX4_sortWords 12 = .ok (.getfield 30, 3) := by decide +kernel
theorem dX4_sortWords_15 : decode cX4_sortWords 15 = .ok (.invokestatic 72, 3) := by decide +kernel
theorem dX4_sortWords_18 : decode cX4_sortWords 18 = .ok (.istore_n 1, 1) := by decide +kernel
theorem dX4_sortWords_19 : decode cX4_sortWords 19 = .ok (.iconst 0, 1) := by decide +kernel
theorem dX4_sortWords_20 : decode cX4_sortWords 20 = .ok (.istore_n 2, 1) := by decide +kernel
theorem dX4_sortWords_21 : decode cX4_sortWords 21 = .ok (.iload_n 2, 1) := by decide +kernel
theorem dX4_sortWords_22 : decode cX4_sortWords 22 = .ok (.iload_n 1, 1) := by decide +kernel
theorem dX4_sortWords_23 : decode cX4_sortWords 23 = .ok (.if_icmp .ge 59, 3) := by decide +kernel
theorem dX4_sortWords_26 : decode cX4_sortWords 26 = .ok (.getstatic 83, 3) := by decide +kernel
theorem dX4_sortWords_29 : decode cX4_sortWords 29 = .ok (.iload_n 2, 1) := by decide +kernel
theorem dX4_sortWords_30 : decode cX4_sortWords 30 = .ok (.iaload, 1) := by decide +kernel
theorem dX4_sortWords_31 : decode cX4_sortWords 31 = .ok (.aload_n 0, 1) := by decide +kernel
theorem dX4_sortWords_32 : decode cX4_sortWords 32 = .ok (.getfield 26, 3) := by decide +kernel
theorem dX4_sortWords_35 : decode cX4_sortWords 35 = .ok (.getfield 30, 3) := by decide +kernel
theorem dX4_sortWords_38 : decode cX4_sortWords 38 = .ok (.invokestatic 86, 3) := by decide +kernel
theorem dX4_sortWords_41 : decode cX4_sortWords 41 = .ok (.istore_n 3, 1) := by decide +kernel
theorem dX4_sortWords_42 : decode cX4_sortWords 42 = .ok (.iconst 0, 1) := by decide +kernel
theorem dX4_sortWords_43 : decode cX4_sortWords 43 = .ok (.istore 4, 2) := by decide +kernel
theorem dX4_sortWords_45 : decode cX4_sortWords 45 = .ok (.iload 4, 2) := by decide +kernel
theorem dX4_sortWords_47 : decode cX4_sortWords 47 = .ok (.bipush 8, 2) := by decide +kernel
theorem dX4_sortWords_49 : decode cX4_sortWords 49 = .ok (.if_icmp .ge 27, 3) := by decide +kernel
theorem dX4_sortWords_52 : decode cX4_sortWords 52 = .ok (.aload_n 0, 1) := by decide +kernel
theorem dX4_sortWords_53 : decode cX4_sortWords 53 = .ok (.getfield 23, 3) := by decide +kernel
theorem dX4_sortWords_56 : decode cX4_sortWords 56 = .ok (.iload 4, 2) := by decide +kernel
theorem dX4_sortWords_58 : decode cX4_sortWords 58 = .ok (.dup2, 1) := by decide +kernel
theorem dX4_sortWords_59 : decode cX4_sortWords 59 = .ok (.iaload, 1) := by decide +kernel
theorem dX4_sortWords_60 : decode cX4_sortWords 60 = .ok (.iload_n 3, 1) := by decide +kernel
theorem dX4_sortWords_61 : decode cX4_sortWords 61 = .ok (.iload 4, 2) := by decide +kernel
theorem dX4_sortWords_63 : decode cX4_sortWords 63 = .ok (.ishr, 1) := by decide +kernel
theorem dX4_sortWords_64 : decode cX4_sortWords 64 = .ok (.iconst 1, 1) := by decide +kernel
theorem dX4_sortWords_65 : decode cX4_sortWords 65 = .ok (.iand, 1) := by decide +kernel
theorem dX4_sortWords_66 : decode cX4_sortWords 66 = .ok (.iload_n 2, 1) := by decide +kernel
theorem dX4_sortWords_67 : decode cX4_sortWords 67 = .ok (.ishl, 1) := by decide +kernel
theorem dX4_sortWords_68 : decode cX4_sortWords 68 = .ok (.ior, 1) := by decide +kernel
theorem dX4_sortWords_69 : decode cX4_sortWords 69 = .ok (.iastore, 1) := by decide +kernel
theorem dX4_sortWords_70 : decode cX4_sortWords 70 = .ok (.iinc 4 1, 3) := by decide +kernel
theorem dX4_sortWords_73 : decode cX4_sortWords 73 = .ok (.goto (-28), 3) := by decide +kernel
theorem dX4_sortWords_76 : decode cX4_sortWords 76 = .ok (.iinc 2 1, 3) := by decide +kernel
theorem dX4_sortWords_79 : decode cX4_sortWords 79 = .ok (.goto (-58), 3) := by decide +kernel
theorem dX4_sortWords_82 : decode cX4_sortWords 82 = .ok (.return_, 1) := by decide +kernel
theorem dX4_grow_0 : decode cX4_grow 0 = .ok (.iload_n 2, 1) := by decide +kernel
theorem dX4_grow_1 : decode cX4_grow 1 = .ok (.bipush 8, 2) := by decide +kernel
theorem dX4_grow_3 : decode cX4_grow 3 = .ok (.if_icmp .lt 44, 3) := by decide +kernel
theorem dX4_grow_6 : decode cX4_grow 6 = .ok (.iload_n 3, 1) := by decide +kernel
theorem dX4_grow_7 : decode cX4_grow 7 = .ok (.ifCond .ne 39, 3) := by decide +kernel
theorem dX4_grow_10 : decode cX4_grow 10 = .ok (.aload_n 0, 1) := by decide +kernel
theorem dX4_grow_11 : decode cX4_grow 11 = .ok (.getfield 16, 3) := by decide +kernel
theorem dX4_grow_14 : decode cX4_grow 14 = .ok (.iload_n 1, 1) := by decide +kernel
theorem dX4_grow_15 : decode cX4_grow 15 = .ok (.iaload, 1) := by decide +kernel
theorem dX4_grow_16 : decode cX4_grow 16 = .ok (.aload_n 0, 1) := by decide +kernel
theorem dX4_grow_17 : decode cX4_grow 17 = .ok (.getfield 11, 3) := by decide +kernel
theorem dX4_grow_20 : decode cX4_grow 20 = .ok (.iload_n 1, 1) := by decide +kernel
theorem dX4_grow_21 : decode cX4_grow 21 = .ok (.aaload, 1) := by decide +kernel
theorem dX4_grow_22 : decode cX4_grow 22 = .ok (.arraylength, 1) := by decide +kernel
theorem dX4_grow_23 : decode cX4_grow 23 = .ok (.if_icmp .ge 23, 3) := by decide +kernel
theorem dX4_grow_26 : decode cX4_grow 26 = .ok (.aload_n 0, 1) := by decide +kernel
theorem dX4_grow_27 : decode cX4_grow 27 = .ok (.getfield 11, 3) := by decide +kernel
theorem dX4_grow_30 : decode cX4_grow 30 = .ok (.iload_n 1, 1) := by decide +kernel
theorem dX4_grow_31 : decode cX4_grow 31 = .ok (.aaload, 1) := by decide +kernel
theorem dX4_grow_32 : decode cX4_grow 32 = .ok (.aload_n 0, 1) := by decide +kernel
theorem dX4_grow_33 : decode cX4_grow 33 = .ok (.getfield 16, 3) := by decide +kernel
theorem dX4_grow_36 : decode cX4_grow 36 = .ok (.iload_n 1, 1) := by decide +kernel
theorem dX4_grow_37 : decode cX4_grow 37 = .ok (.dup2, 1) := by decide +kernel
theorem dX4_grow_38 : decode cX4_grow 38 = .ok (.iaload, 1) := by decide +kernel
theorem dX4_grow_39 : decode cX4_grow 39 = .ok (.dup_x2, 1) := by decide +kernel
theorem dX4_grow_40 : decode cX4_grow 40 = .ok (.iconst 1, 1) := by decide +kernel
theorem dX4_grow_41 : decode cX4_grow 41 = .ok (.iadd, 1) := by decide +kernel
theorem dX4_grow_42 : decode cX4_grow 42 = .ok (.iastore, 1) := by decide +kernel
theorem dX4_grow_43 : decode cX4_grow 43 = .ok (.iload 5, 2) := by decide +kernel
theorem dX4_grow_45 : decode cX4_grow 45 = .ok (.iastore, 1) := by decide +kernel
theorem dX4_grow_46 : decode cX4_grow 46 = .ok (.return_, 1) := by decide +kernel
theorem dX4_grow_47 : decode cX4_grow 47 = .ok (.bipush (-3), 2) := by decide +kernel
theorem dX4_grow_49 : decode cX4_grow 49 = .ok (.istore 6, 2) := by decide +kernel
theorem dX4_grow_51 : decode cX4_grow 51 = .ok (.iload 6, 2) := by decide +kernel
theorem dX4_grow_53 : decode cX4_grow 53 = .ok (.iconst 3, 1) := by decide +kernel
theorem dX4_grow_54 : decode cX4_grow 54 = .ok (.if_icmp .gt 81, 3) := by decide +kernel
theorem dX4_grow_57 : decode cX4_grow 57 = .ok (.iload 6, 2) := by decide +kernel
theorem dX4_grow_59 : decode cX4_grow 59 = .ok (.iconst 1, 1) := by decide +kernel
theorem dX4_grow_60 : decode cX4_grow 60 = .ok (.iand, 1) := by decide +kernel
theorem dX4_grow_61 : decode cX4_grow 61 = .ok (.ifCond .eq 15, 3) := by decide +kernel
theorem dX4_grow_64 : decode cX4_grow 64 = .ok (.iload 4, 2) := by decide +kernel
theorem dX4_grow_66 : decode cX4_grow 66 = .ok (.aload_n 0, 1) := by decide +kernel
theorem dX4_grow_67 : decode cX4_grow 67 = .ok (.getfield 23, 3) := by decide +kernel
theorem dX4_grow_70 : decode cX4_grow 70 = .ok (.iload_n 2, 1) := by decide +kernel
theorem dX4_grow_71 : decode cX4_grow 71 = .ok (.iaload, 1) := by decide +kernel
theorem dX4_grow_72 : decode cX4_grow 72 = .ok (.iand, 1) := by decide +kernel
theorem dX4_grow_73 : decode cX4_grow 73 = .ok (.goto 14, 3) := by decide +kernel
theorem dX4_grow_76 : decode cX4_grow 76 = .ok (.iload 4, 2) := by decide +kernel
theorem dX4_grow_78 : decode cX4_grow 78 = .ok (.aload_n 0, 1) := by decide +kernel
theorem dX4_grow_79 : decode cX4_grow 79 = .ok (.getfield 23, 3) := by decide +kernel
theorem dX4_grow_82 : decode cX4_grow 82 = .ok (.iload_n 2, 1) := by decide +kernel
theorem dX4_grow_83 : decode cX4_grow 83 = .ok (.iaload, 1) := by decide +kernel
theorem dX4_grow_84 : decode cX4_grow 84 = .ok (.iconst (-1), 1) := by decide +kernel
theorem dX4_grow_85 : decode cX4_grow 85 = .ok (.ixor, 1) := by decide +kernel
theorem dX4_grow_86 : decode cX4_grow 86 = .ok (.iand, 1) := by decide +kernel
theorem dX4_grow_87 : decode cX4_grow 87 = .ok (.istore 7, 2) := by decide +kernel
theorem dX4_grow_89 : decode cX4_grow 89 = .ok (.iload 6, 2) := by decide +kernel
theorem dX4_grow_91 : decode cX4_grow 91 = .ok (.iload 6, 2) := by decide +kernel
theorem dX4_grow_93 : decode cX4_grow 93 = .ok (.imul, 1) := by decide +kernel
theorem dX4_grow_94 : decode cX4_grow 94 = .ok (.iload_n 3, 1) := by decide +kernel
theorem dX4_grow_95 : decode cX4_grow 95 = .ok (.if_icmp .gt 34, 3) := by decide +kernel
theorem dX4_grow_98 : decode cX4_grow 98 = .ok (.iload 7, 2) := by decide +kernel
theorem dX4_grow_100 : decode cX4_grow 100 = .ok (.ifCond .eq 29, 3) := by decide +kernel
theorem dX4_grow_103 : decode cX4_grow 103 = .ok (.aload_n 0, 1) := by decide +kernel
theorem dX4_grow_104 : decode cX4_grow 104 = .ok (.iload_n 1, 1) := by decide +kernel
theorem dX4_grow_105 : decode cX4_grow 105 = .ok (.iload_n 2, 1) := by decide +kernel
theorem dX4_grow_106 : decode cX4_grow 106 = .ok (.iconst 1, 1) := by decide +kernel
theorem dX4_grow_107 : decode cX4_grow 107 = .ok (.iadd, 1) := by decide +kernel
theorem dX4_grow_108 : decode cX4_grow 108 = .ok (.iload_n 3, 1) := by decide +kernel
theorem dX4_grow_109 : decode cX4_grow 109 = .ok (.iload 6, 2) := by decide +kernel
theorem dX4_grow_111 : decode cX4_grow 111 = .ok (.iload 6, 2) := by decide +kernel
theorem dX4_grow_113 : decode cX4_grow 113 = .ok (.imul, 1) := by decide +kernel
theorem dX4_grow_114 : decode cX4_grow 114 = .ok (.isub, 1) := by decide +kernel
theorem dX4_grow_115 : decode cX4_grow 115 = .ok (.iload 7, 2) := by decide +kernel
theorem dX4_grow_117 : decode cX4_grow 117 = .ok (.iload 5, 2) := by decide +kernel
theorem dX4_grow_119 : decode cX4_grow 119 = .ok (.iconst 4, 1) := by decide +kernel
theorem dX4_grow_120 : decode cX4_grow 120 = .ok (.ishl, 1) := by decide +kernel
theorem dX4_grow_121 : decode cX4_grow 121 = .ok (.iload 6, 2) := by decide +kernel
theorem dX4_grow_123 : decode cX4_grow 123 = .ok (.iconst 4, 1) := by decide +kernel
theorem dX4_grow_124 : decode cX4_grow 124 = .ok (.iadd, 1) := by decide +kernel
theorem dX4_grow_125 : decode cX4_grow 125 = .ok (.ior, 1) := by decide +kernel
theorem dX4_grow_126 : decode cX4_grow 126 = .ok (.invokevirtual 75, 3) := by decide +kernel
theorem dX4_grow_129 : decode cX4_grow 129 = .ok (.iinc 6 1, 3) := by decide +kernel
theorem dX4_grow_132 : decode cX4_grow 132 = .ok (.goto (-81), 3) := by decide +kernel
theorem dX4_grow_135 : decode cX4_grow 135 = .ok (.return_, 1) := by decide +kernel
theorem dX5_lay_0 : decode cX5_lay 0 = .ok (.aload_n 1, 1) := by decide +kernel
theorem dX5_lay_1 : decode cX5_lay 1 = .ok (.iconst 0, 1) := by decide +kernel
theorem dX5_lay_2 : decode cX5_lay 2 = .ok (.aload_n 0, 1) := by decide +kernel
theorem dX5_lay_3 : decode cX5_lay 3 = .ok (.iconst 0, 1) := by decide +kernel
theorem dX5_lay_4 : decode cX5_lay 4 = .ok (.bipush 8, 2) := by decide +kernel
theorem dX5_lay_6 : decode cX5_lay 6 = .ok (.invokestatic 9, 3) := by decide +kernel
theorem dX5_lay_9 : decode cX5_lay 9 = .ok (.return_, 1) := by decide +kernel
theorem dX5_layOne_0 : decode cX5_layOne 0 = .ok (.aload_n 0, 1) := by decide +kernel
theorem dX5_layOne_1 : decode cX5_layOne 1 = .ok (.iconst 0, 1) := by decide +kernel
theorem dX5_layOne_2 : decode cX5_layOne 2 = .ok (.invokestatic 15, 3) := by decide +kernel
theorem dX5_layOne_5 : decode cX5_layOne 5 = .ok (.aload_n 0, 1) := by decide +kernel
theorem dX5_layOne_6 : decode cX5_layOne 6 = .ok (.iload_n 1, 1) := by decide +kernel
theorem dX5_layOne_7 : decode cX5_layOne 7 = .ok (.iconst 2, 1) := by decide +kernel
theorem dX5_layOne_8 : decode cX5_layOne 8 = .ok (.iastore, 1) := by decide +kernel
theorem dX5_layOne_9 : decode cX5_layOne 9 = .ok (.return_, 1) := by decide +kernel
theorem dX5_layMirrored_0 : decode cX5_layMirrored 0 = .ok (.aload_n 0, 1) := by decide +kernel
theorem dX5_layMirrored_1 : decode cX5_layMirrored 1 = .ok (.iconst 0, 1) := by decide +kernel
theorem dX5_layMirrored_2 : decode cX5_layMirrored 2 = .ok (.aload_n 1, 1) := by decide +kernel
theorem dX5_layMirrored_3 : decode cX5_layMirrored 3 = .ok (.iconst 0, 1) := by decide +kernel
theorem dX5_layMirrored_4 : decode cX5_layMirrored 4 = .ok (.iaload, 1) := by decide +kernel
theorem dX5_layMirrored_5 : decode cX5_layMirrored 5 = .ok (.iastore, 1) := by decide +kernel
theorem dX5_layMirrored_6 : decode cX5_layMirrored 6 = .ok (.iconst 1, 1) := by decide +kernel
theorem dX5_layMirrored_7 : decode cX5_layMirrored 7 = .ok (.istore_n 2, 1) := by decide +kernel
theorem dX5_layMirrored_8 : decode cX5_layMirrored 8 = .ok (.iload_n 2, 1) := by decide +kernel
theorem dX5_layMirrored_9 : decode cX5_layMirrored 9 = .ok (.bipush 8, 2) := by decide +kernel
theorem dX5_layMirrored_11 : decode cX5_layMirrored 11 = .ok (.if_icmp .ge 16, 3) := by decide +kernel
theorem dX5_layMirrored_14 : decode cX5_layMirrored 14 = .ok (.aload_n 0, 1) := by decide +kernel
theorem dX5_layMirrored_15 : decode cX5_layMirrored 15 = .ok (.iload_n 2, 1) := by decide +kernel
theorem dX5_layMirrored_16 : decode cX5_layMirrored 16 = .ok (.aload_n 1, 1) := by decide +kernel
theorem dX5_layMirrored_17 : decode cX5_layMirrored 17 = .ok (.iload_n 2, 1) := by decide +kernel
theorem dX5_layMirrored_18 : decode cX5_layMirrored 18 = .ok (.iaload, 1) := by decide +kernel
theorem dX5_layMirrored_19 : decode cX5_layMirrored 19 = .ok (.ineg, 1) := by decide +kernel
theorem dX5_layMirrored_20 : decode cX5_layMirrored 20 = .ok (.iastore, 1) := by decide +kernel
theorem dX5_layMirrored_21 : decode cX5_layMirrored 21 = .ok (.iinc 2 1, 3) := by decide +kernel
theorem dX5_layMirrored_24 : decode cX5_layMirrored 24 = .ok (.goto (-16), 3) := by decide +kernel
theorem dX5_layMirrored_27 : decode cX5_layMirrored 27 = .ok (.return_, 1) := by decide +kernel
theorem dX5_areEqual_0 : decode cX5_areEqual 0 = .ok (.iconst 0, 1) := by decide +kernel
theorem dX5_areEqual_1 : decode cX5_areEqual 1 = .ok (.istore_n 2, 1) := by decide +kernel
theorem dX5_areEqual_2 : decode cX5_areEqual 2 = .ok (.iload_n 2, 1) := by decide +kernel
theorem dX5_areEqual_3 : decode cX5_areEqual 3 = .ok (.bipush 8, 2) := by decide +kernel
theorem dX5_areEqual_5 : decode cX5_areEqual 5 = .ok (.if_icmp .ge 20, 3) := by decide +kernel
theorem dX5_areEqual_8 : decode cX5_areEqual 8 = .ok (.aload_n 0, 1) := by decide +kernel
theorem dX5_areEqual_9 : decode cX5_areEqual 9 = .ok (.iload_n 2, 1) := by decide +kernel
theorem dX5_areEqual_10 : decode cX5_areEqual 10 = .ok (.iaload, 1) := by decide +kernel
theorem dX5_areEqual_11 : decode cX5_areEqual 11 = .ok (.aload_n 1, 1) := by decide +kernel
theorem dX5_areEqual_12 : decode cX5_areEqual 12 = .ok (.iload_n 2, 1) := by decide +kernel
theorem dX5_areEqual_13 : decode cX5_areEqual 13 = .ok (.iaload, 1) := by decide +kernel
theorem dX5_areEqual_14 : decode cX5_areEqual 14 = .ok (.if_icmp .eq 5, 3) := by decide +kernel
theorem dX5_areEqual_17 : decode cX5_areEqual 17 = .ok (.iconst 0, 1) := by decide +kernel
theorem dX5_areEqual_18 : decode cX5_areEqual 18 = .ok (.ireturn, 1) := by decide +kernel
theorem dX5_areEqual_19 : decode cX5_areEqual 19 = .ok (.iinc 2 1, 3) := by decide +kernel
theorem dX5_areEqual_22 : decode cX5_areEqual 22 = .ok (.goto (-20), 3) := by decide +kernel
theorem dX5_areEqual_25 : decode cX5_areEqual 25 = .ok (.iconst 1, 1) := by decide +kernel
theorem dX5_areEqual_26 : decode cX5_areEqual 26 = .ok (.ireturn, 1) := by decide +kernel
theorem dX5_isZero_0 : decode cX5_isZero 0 = .ok (.iconst 0, 1) := by decide +kernel
theorem dX5_isZero_1 : decode cX5_isZero 1 = .ok (.istore_n 1, 1) := by decide +kernel
theorem dX5_isZero_2 : decode cX5_isZero 2 = .ok (.iload_n 1, 1) := by decide +kernel
theorem dX5_isZero_3 : decode cX5_isZero 3 = .ok (.bipush 8, 2) := by decide +kernel
theorem dX5_isZero_5 : decode cX5_isZero 5 = .ok (.if_icmp .ge 17, 3) := by decide +kernel
theorem dX5_isZero_8 : decode cX5_isZero 8 = .ok (.aload_n 0, 1) := by decide +kernel
theorem dX5_isZero_9 : decode cX5_isZero 9 = .ok (.iload_n 1, 1) := by decide +kernel
theorem dX5_isZero_10 : decode cX5_isZero 10 = .ok (.iaload, 1) := by decide +kernel
theorem dX5_isZero_11 : decode cX5_isZero 11 = .ok (.ifCond .eq 5, 3) := by decide +kernel
theorem dX5_isZero_14 : decode cX5_isZero 14 = .ok (.iconst 0, 1) := by decide +kernel
theorem dX5_isZero_15 : decode cX5_isZero 15 = .ok (.ireturn, 1) := by decide +kernel
theorem dX5_isZero_16 : decode cX5_isZero 16 = .ok (.iinc 1 1, 3) := by decide +kernel
theorem dX5_isZero_19 : decode cX5_isZero 19 = .ok (.goto (-17), 3) := by decide +kernel
theorem dX5_isZero_22 : decode cX5_isZero 22 = .ok (.iconst 1, 1) := by decide +kernel
theorem dX5_isZero_23 : decode cX5_isZero 23 = .ok (.ireturn, 1) := by decide +kernel
theorem dX5_isOne_0 : decode cX5_isOne 0 = .ok (.aload_n 0, 1) := by decide +kernel
theorem dX5_isOne_1 : decode cX5_isOne 1 = .ok (.iconst 0, 1) := by decide +kernel
theorem dX5_isOne_2 : decode cX5_isOne 2 = .ok (.iaload, 1) := by decide +kernel
theorem dX5_isOne_3 : decode cX5_isOne 3 = .ok (.iconst 2, 1) := by decide +kernel
theorem dX5_isOne_4 : decode cX5_isOne 4 = .ok (.if_icmp .ne 18, 3) := by decide +kernel
theorem dX5_isOne_7 : decode cX5_isOne 7 = .ok (.aload_n 0, 1) := by decide +kernel
theorem dX5_isOne_8 : decode cX5_isOne 8 = .ok (.invokestatic 21, 3) := by decide +kernel
theorem dX5_isOne_11 : decode cX5_isOne 11 = .ok (.ldc2_w 27, 3) := by decide +kernel
theorem dX5_isOne_14 : decode cX5_isOne 14 = .ok (.lcmp, 1) := by decide +kernel
theorem dX5_isOne_15 : decode cX5_isOne 15 = .ok (.ifCond .ne 7, 3) := by decide +kernel
theorem dX5_isOne_18 : decode cX5_isOne 18 = .ok (.iconst 1, 1) := by decide +kernel
theorem dX5_isOne_19 : decode cX5_isOne 19 = .ok (.goto 4, 3) := by decide +kernel
theorem dX5_isOne_22 : decode cX5_isOne 22 = .ok (.iconst 0, 1) := by decide +kernel
theorem dX5_isOne_23 : decode cX5_isOne 23 = .ok (.ireturn, 1) := by decide +kernel
theorem dX5_oddSet_0 : decode cX5_oddSet 0 = .ok (.iconst 0, 1) := by decide +kernel
theorem dX5_oddSet_1 : decode cX5_oddSet 1 = .ok (.istore_n 1, 1) := by decide +kernel
theorem dX5_oddSet_2 : decode cX5_oddSet 2 = .ok (.iconst 0, 1) := by decide +kernel
theorem dX5_oddSet_3 : decode cX5_oddSet 3 = .ok (.istore_n 2, 1) := by decide +kernel
theorem dX5_oddSet_4 : decode cX5_oddSet 4 = .ok (.iload_n 2, 1) := by decide +kernel
theorem dX5_oddSet_5 : decode cX5_oddSet 5 = .ok (.bipush 8, 2) := by decide +kernel
theorem dX5_oddSet_7 : decode cX5_oddSet 7 = .ok (.if_icmp .ge 19, 3) := by decide +kernel
theorem dX5_oddSet_10 : decode cX5_oddSet 10 = .ok (.iload_n 1, 1) := by decide +kernel
theorem dX5_oddSet_11 : decode cX5_oddSet 11 = .ok (.aload_n 0, 1) := by decide +kernel
theorem dX5_oddSet_12 : decode cX5_oddSet 12 = .ok (.iload_n 2, 1) := by decide +kernel
theorem dX5_oddSet_13 : decode cX5_oddSet 13 = .ok (.iaload, 1) := by decide +kernel
theorem dX5_oddSet_14 : decode cX5_oddSet 14 = .ok (.iconst 1, 1) := by decide +kernel
theorem dX5_oddSet_15 : decode cX5_oddSet 15 = .ok (.iand, 1) := by decide +kernel
theorem dX5_oddSet_16 : decode cX5_oddSet 16 = .ok (.iload_n 2, 1) := by decide +kernel
theorem dX5_oddSet_17 : decode cX5_oddSet 17 = .ok (.ishl, 1) := by decide +kernel
theorem dX5_oddSet_18 : decode cX5_oddSet 18 = .ok (.ior, 1) := by decide +kernel
theorem dX5_oddSet_19 : decode cX5_oddSet 19 = .ok (.istore_n 1, 1) := by decide +kernel
theorem dX5_oddSet_20 : decode cX5_oddSet 20 = .ok (.iinc 2 1, 3) := by decide +kernel
theorem dX5_oddSet_23 : decode cX5_oddSet 23 = .ok (.goto (-19), 3) := by decide +kernel
theorem dX5_oddSet_26 : decode cX5_oddSet 26 = .ok (.iload_n 1, 1) := by decide +kernel
theorem dX5_oddSet_27 : decode cX5_oddSet 27 = .ok (.ireturn, 1) := by decide +kernel
theorem dX5_normBy4_0 : decode cX5_normBy4 0 = .ok (.aload_n 0, 1) := by decide +kernel
theorem dX5_normBy4_1 : decode cX5_normBy4 1 = .ok (.aload_n 0, 1) := by decide +kernel
theorem dX5_normBy4_2 : decode cX5_normBy4 2 = .ok (.invokestatic 29, 3) := by decide +kernel
theorem dX5_normBy4_5 : decode cX5_normBy4 5 = .ok (.lreturn, 1) := by decide +kernel
theorem dX5_innerBy4_0 : decode cX5_innerBy4 0 = .ok (.lconst 0, 1) := by decide +kernel
theorem dX5_innerBy4_1 : decode cX5_innerBy4 1 = .ok (.lstore_n 2, 1) := by decide +kernel
theorem dX5_innerBy4_2 : decode cX5_innerBy4 2 = .ok (.iconst 0, 1) := by decide +kernel
theorem dX5_innerBy4_3 : decode cX5_innerBy4 3 = .ok (.istore 4, 2) := by decide +kernel
theorem dX5_innerBy4_5 : decode cX5_innerBy4 5 = .ok (.iload 4, 2) := by decide +kernel
theorem dX5_innerBy4_7 : decode cX5_innerBy4 7 = .ok (.bipush 8, 2) := by decide +kernel
theorem dX5_innerBy4_9 : decode cX5_innerBy4 9 = .ok (.if_icmp .ge 23, 3) := by decide +kernel
theorem dX5_innerBy4_12 : decode cX5_innerBy4 12 = .ok (.lload_n 2, 1) := by decide +kernel
theorem dX5_innerBy4_13 : decode cX5_innerBy4 13 = .ok (.aload_n 0, 1) := by decide +kernel
theorem dX5_innerBy4_14 : decode cX5_innerBy4 14 = .ok (.iload 4, 2) := by decide +kernel
theorem dX5_innerBy4_16 : decode cX5_innerBy4 16 = .ok (.iaload, 1) := by decide +kernel
theorem dX5_innerBy4_17 : decode cX5_innerBy4 17 = .ok (.i2l, 1) := by decide +kernel
theorem dX5_innerBy4_18 : decode cX5_innerBy4 18 = .ok (.aload_n 1, 1) := by decide +kernel
theorem dX5_innerBy4_19 : decode cX5_innerBy4 19 = .ok (.iload 4, 2) := by decide +kernel
theorem dX5_innerBy4_21 : decode cX5_innerBy4 21 = .ok (.iaload, 1) := by decide +kernel
theorem dX5_innerBy4_22 : decode cX5_innerBy4 22 = .ok (.i2l, 1) := by decide +kernel
theorem dX5_innerBy4_23 : decode cX5_innerBy4 23 = .ok (.lmul, 1) := by decide +kernel
theorem dX5_innerBy4_24 : decode cX5_innerBy4 24 = .ok (.ladd, 1) := by decide +kernel
theorem dX5_innerBy4_25 : decode cX5_innerBy4 25 = .ok (.lstore_n 2, 1) := by decide +kernel
theorem dX5_innerBy4_26 : decode cX5_innerBy4 26 = .ok (.iinc 4 1, 3) := by decide +kernel
theorem dX5_innerBy4_29 : decode cX5_innerBy4 29 = .ok (.goto (-24), 3) := by decide +kernel
theorem dX5_innerBy4_32 : decode cX5_innerBy4 32 = .ok (.lload_n 2, 1) := by decide +kernel
theorem dX5_innerBy4_33 : decode cX5_innerBy4 33 = .ok (.lreturn, 1) := by decide +kernel
theorem dX5_multiplyBy4_0 : decode cX5_multiplyBy4 0 = .ok (.aload_n 1, 1) := by decide +kernel
theorem dX5_multiplyBy4_1 : decode cX5_multiplyBy4 1 = .ok (.iconst 0, 1) := by decide +kernel
theorem dX5_multiplyBy4_2 : decode cX5_multiplyBy4 2 = .ok (.iaload, 1) := by decide +kernel
theorem dX5_multiplyBy4_3 : decode cX5_multiplyBy4 3 = .ok (.i2l, 1) := by decide +kernel
theorem dX5_multiplyBy4_4 : decode cX5_multiplyBy4 4 = .ok (.lstore_n 3, 1) := by decide +kernel
theorem dX5_multiplyBy4_5 : decode cX5_multiplyBy4 5 = .ok (.aload_n 1, 1) := by decide +kernel
theorem dX5_multiplyBy4_6 : decode cX5_multiplyBy4 6 = .ok (.iconst 1, 1) := by decide +kernel
theorem dX5_multiplyBy4_7 : decode cX5_multiplyBy4 7 = .ok (.iaload, 1) := by decide +kernel
theorem dX5_multiplyBy4_8 : decode cX5_multiplyBy4 8 = .ok (.i2l, 1) := by decide +kernel
theorem dX5_multiplyBy4_9 : decode cX5_multiplyBy4 9 = .ok (.lstore 5, 2) := by decide +kernel
theorem dX5_multiplyBy4_11 : decode cX5_multiplyBy4 11 = .ok (.aload_n 1, 1) := by decide +kernel
theorem dX5_multiplyBy4_12 : decode cX5_multiplyBy4 12 = .ok (.iconst 2, 1) := by decide +kernel
theorem dX5_multiplyBy4_13 : decode cX5_multiplyBy4 13 = .ok (.iaload, 1) := by decide +kernel
theorem dX5_multiplyBy4_14 : decode cX5_multiplyBy4 14 = .ok (.i2l, 1) := by decide +kernel
theorem dX5_multiplyBy4_15 : decode cX5_multiplyBy4 15 = .ok (.lstore 7, 2) := by decide +kernel
theorem dX5_multiplyBy4_17 : decode cX5_multiplyBy4 17 = .ok (.aload_n 1, 1) := by decide +kernel
theorem dX5_multiplyBy4_18 : decode cX5_multiplyBy4 18 = .ok (.iconst 3, 1) := by decide +kernel
theorem dX5_multiplyBy4_19 : decode cX5_multiplyBy4 19 = .ok (.iaload, 1) := by decide +kernel
theorem dX5_multiplyBy4_20 : decode cX5_multiplyBy4 20 = .ok (.i2l, 1) := by decide +kernel
theorem dX5_multiplyBy4_21 : decode cX5_multiplyBy4 21 = .ok (.lstore 9, 2) := by decide +kernel
theorem dX5_multiplyBy4_23 : decode cX5_multiplyBy4 23 = .ok (.aload_n 1, 1) := by decide +kernel
theorem dX5_multiplyBy4_24 : decode cX5_multiplyBy4 24 = .ok (.iconst 4, 1) := by decide +kernel
theorem dX5_multiplyBy4_25 : decode cX5_multiplyBy4 25 = .ok (.iaload, 1) := by decide +kernel
theorem dX5_multiplyBy4_26 : decode cX5_multiplyBy4 26 = .ok (.i2l, 1) := by decide +kernel
theorem dX5_multiplyBy4_27 : decode cX5_multiplyBy4 27 = .ok (.lstore 11, 2) := by decide +kernel
theorem dX5_multiplyBy4_29 : decode cX5_multiplyBy4 29 = .ok (.aload_n 1, 1) := by decide +kernel
theorem dX5_multiplyBy4_30 : decode cX5_multiplyBy4 30 = .ok (.iconst 5, 1) := by decide +kernel
theorem dX5_multiplyBy4_31 : decode cX5_multiplyBy4 31 = .ok (.iaload, 1) := by decide +kernel
theorem dX5_multiplyBy4_32 : decode cX5_multiplyBy4 32 = .ok (.i2l, 1) := by decide +kernel
theorem dX5_multiplyBy4_33 : decode cX5_multiplyBy4 33 = .ok (.lstore 13, 2) := by decide +kernel
theorem dX5_multiplyBy4_35 : decode cX5_multiplyBy4 35 = .ok (.aload_n 1, 1) := by decide +kernel
theorem dX5_multiplyBy4_36 : decode cX5_multiplyBy4 36 = .ok (.bipush 6, 2) := by decide +kernel
theorem dX5_multiplyBy4_38 : decode cX5_multiplyBy4 38 = .ok (.iaload, 1) := by decide +kernel
theorem dX5_multiplyBy4_39 : decode cX5_multiplyBy4 39 = .ok (.i2l, 1) := by decide +kernel
theorem dX5_multiplyBy4_40 : decode cX5_multiplyBy4 40 = .ok (.lstore 15, 2) := by decide +kernel
theorem dX5_multiplyBy4_42 : decode cX5_multiplyBy4 42 = .ok (.aload_n 1, 1) := by decide +kernel
theorem dX5_multiplyBy4_43 : decode cX5_multiplyBy4 43 = .ok (.bipush 7, 2) := by decide +kernel
theorem dX5_multiplyBy4_45 : decode cX5_multiplyBy4 45 = .ok (.iaload, 1) := by decide +kernel
theorem dX5_multiplyBy4_46 : decode cX5_multiplyBy4 46 = .ok (.i2l, 1) := by decide +kernel
theorem dX5_multiplyBy4_47 : decode cX5_multiplyBy4 47 = .ok (.lstore 17, 2) := by decide +kernel
theorem dX5_multiplyBy4_49 : decode cX5_multiplyBy4 49 = .ok (.aload_n 2, 1) := by decide +kernel
theorem dX5_multiplyBy4_50 : decode cX5_multiplyBy4 50 = .ok (.iconst 0, 1) := by decide +kernel
theorem dX5_multiplyBy4_51 : decode cX5_multiplyBy4 51 = .ok (.iaload, 1) := by decide +kernel
theorem dX5_multiplyBy4_52 : decode cX5_multiplyBy4 52 = .ok (.i2l, 1) := by decide +kernel
theorem dX5_multiplyBy4_53 : decode cX5_multiplyBy4 53 = .ok (.lstore 19, 2) := by decide +kernel
theorem dX5_multiplyBy4_55 : decode cX5_multiplyBy4 55 = .ok (.aload_n 2, 1) := by decide +kernel
theorem dX5_multiplyBy4_56 : decode cX5_multiplyBy4 56 = .ok (.iconst 1, 1) := by decide +kernel
theorem dX5_multiplyBy4_57 : decode cX5_multiplyBy4 57 = .ok (.iaload, 1) := by decide +kernel
theorem dX5_multiplyBy4_58 : decode cX5_multiplyBy4 58 = .ok (.i2l, 1) := by decide +kernel
theorem dX5_multiplyBy4_59 : decode cX5_multiplyBy4 59 = .ok (.lstore 21, 2) := by decide +kernel
theorem dX5_multiplyBy4_61 : decode cX5_multiplyBy4 61 = .ok (.aload_n 2, 1) := by decide +kernel
theorem dX5_multiplyBy4_62 : decode cX5_multiplyBy4 62 = .ok (.iconst 2, 1) := by decide +kernel
theorem dX5_multiplyBy4_63 : decode cX5_multiplyBy4 63 = .ok (.iaload, 1) := by decide +kernel
theorem dX5_multiplyBy4_64 : decode cX5_multiplyBy4 64 = .ok (.i2l, 1) := by decide +kernel
theorem dX5_multiplyBy4_65 : decode cX5_multiplyBy4 65 = .ok (.lstore 23, 2) := by decide +kernel
theorem dX5_multiplyBy4_67 : decode cX5_multiplyBy4 67 = .ok (.aload_n 2, 1) := by decide +kernel
theorem dX5_multiplyBy4_68 : decode cX5_multiplyBy4 68 = .ok (.iconst 3, 1) := by decide +kernel
theorem dX5_multiplyBy4_69 : decode cX5_multiplyBy4 69 = .ok (.iaload, 1) := by decide +kernel
theorem dX5_multiplyBy4_70 : decode cX5_multiplyBy4 70 = .ok (.i2l, 1) := by decide +kernel
theorem dX5_multiplyBy4_71 : decode cX5_multiplyBy4 71 = .ok (.lstore 25, 2) := by decide +kernel
theorem dX5_multiplyBy4_73 : decode cX5_multiplyBy4 73 = .ok (.aload_n 2, 1) := by decide +kernel
theorem dX5_multiplyBy4_74 : decode cX5_multiplyBy4 74 = .ok (.iconst 4, 1) := by decide +kernel
theorem dX5_multiplyBy4_75 : decode cX5_multiplyBy4 75 = .ok (.iaload, 1) := by decide +kernel
theorem dX5_multiplyBy4_76 : decode cX5_multiplyBy4 76 = .ok (.i2l, 1) := by decide +kernel
theorem dX5_multiplyBy4_77 : decode cX5_multiplyBy4 77 = .ok (.lstore 27, 2) := by decide +kernel
theorem dX5_multiplyBy4_79 : decode cX5_multiplyBy4 79 = .ok (.aload_n 2, 1) := by decide +kernel
theorem dX5_multiplyBy4_80 : decode cX5_multiplyBy4 80 = .ok (.iconst 5, 1) := by decide +kernel
theorem dX5_multiplyBy4_81 : decode cX5_multiplyBy4 81 = .ok (.iaload, 1) := by decide +kernel
theorem dX5_multiplyBy4_82 : decode cX5_multiplyBy4 82 = .ok (.i2l, 1) := by decide +kernel
theorem dX5_multiplyBy4_83 : decode cX5_multiplyBy4 83 = .ok (.lstore 29, 2) := by decide +kernel
theorem dX5_multiplyBy4_85 : decode cX5_multiplyBy4 85 = .ok (.aload_n 2, 1) := by decide +kernel
theorem dX5_multiplyBy4_86 : decode cX5_multiplyBy4 86 = .ok (.bipush 6, 2) := by decide +kernel
theorem dX5_multiplyBy4_88 : decode cX5_multiplyBy4 88 = .ok (.iaload, 1) := by decide +kernel
theorem dX5_multiplyBy4_89 : decode cX5_multiplyBy4 89 = .ok (.i2l, 1) := by decide +kernel
theorem dX5_multiplyBy4_90 : decode cX5_multiplyBy4 90 = .ok (.lstore 31, 2) := by decide +kernel
theorem dX5_multiplyBy4_92 : decode cX5_multiplyBy4 92 = .ok (.aload_n 2, 1) := by decide +kernel
theorem dX5_multiplyBy4_93 : decode cX5_multiplyBy4 93 = .ok (.bipush 7, 2) := by decide +kernel
theorem dX5_multiplyBy4_95 : decode cX5_multiplyBy4 95 = .ok (.iaload, 1) := by decide +kernel
theorem dX5_multiplyBy4_96 : decode cX5_multiplyBy4 96 = .ok (.i2l, 1) := by decide +kernel
theorem dX5_multiplyBy4_97 : decode cX5_multiplyBy4 97 = .ok (.lstore 33, 2) := by decide +kernel
theorem dX5_multiplyBy4_99 : decode cX5_multiplyBy4 99 = .ok (.aload_n 0, 1) := by decide +kernel
theorem dX5_multiplyBy4_100 : decode cX5_multiplyBy4 100 = .ok (.iconst 0, 1) := by decide +kernel
theorem dX5_multiplyBy4_101 : decode cX5_multiplyBy4 101 = .ok (.lload_n 3, 1) := by decide +kernel
theorem dX5_multiplyBy4_102 : decode cX5_multiplyBy4 102 = .ok (.lload 19, 2) := by decide +kernel
theorem dX5_multiplyBy4_104 : decode cX5_multiplyBy4 104 = .ok (.lmul, 1) := by decide +kernel
theorem dX5_multiplyBy4_105 : decode cX5_multiplyBy4 105 = .ok (.lload 5, 2) := by decide +kernel
theorem dX5_multiplyBy4_107 : decode cX5_multiplyBy4 107 = .ok (.lload 21, 2) := by decide +kernel
theorem dX5_multiplyBy4_109 : decode cX5_multiplyBy4 109 = .ok (.lmul, 1) := by decide +kernel
theorem dX5_multiplyBy4_110 : decode cX5_multiplyBy4 110 = .ok (.lsub, 1) := by decide +kernel
theorem dX5_multiplyBy4_111 : decode cX5_multiplyBy4 111 = .ok (.lload 7, 2) := by decide +kernel
theorem dX5_multiplyBy4_113 : decode cX5_multiplyBy4 113 = .ok (.lload 23, 2) := by decide +kernel
theorem dX5_multiplyBy4_115 : decode cX5_multiplyBy4 115 = .ok (.lmul, 1) := by decide +kernel
theorem dX5_multiplyBy4_116 : decode cX5_multiplyBy4 116 = .ok (.lsub, 1) := by decide +kernel
theorem dX5_multiplyBy4_117 : decode cX5_multiplyBy4 117 = .ok (.lload 9, 2) := by decide +kernel
theorem dX5_multiplyBy4_119 : decode cX5_multiplyBy4 119 = .ok (.lload 25, 2) := by decide +kernel
theorem dX5_multiplyBy4_121 : decode cX5_multiplyBy4 121 = .ok (.lmul, 1) := by decide +kernel
theorem dX5_multiplyBy4_122 : decode cX5_multiplyBy4 122 = .ok (.lsub, 1) := by decide +kernel
theorem dX5_multiplyBy4_123 : decode cX5_multiplyBy4 123 = .ok (.lload 11, 2) := by decide +kernel
theorem dX5_multiplyBy4_125 : decode cX5_multiplyBy4 125 = .ok (.lload 27, 2) := by decide +kernel
theorem dX5_multiplyBy4_127 : decode cX5_multiplyBy4 127 = .ok (.lmul, 1) := by decide +kernel
theorem dX5_multiplyBy4_128 : decode cX5_multiplyBy4 128 = .ok (.lsub, 1) := by decide +kernel
theorem dX5_multiplyBy4_129 : decode cX5_multiplyBy4 129 = .ok (.lload 13, 2) := by decide +kernel
theorem dX5_multiplyBy4_131 : decode cX5_multiplyBy4 131 = .ok (.lload 29, 2) := by decide +kernel
theorem dX5_multiplyBy4_133 : decode cX5_multiplyBy4 133 = .ok (.lmul, 1) := by decide +kernel
theorem dX5_multiplyBy4_134 : decode cX5_multiplyBy4 134 = .ok (.lsub, 1) := by decide +kernel
theorem dX5_multiplyBy4_135 : decode cX5_multiplyBy4 135 = .ok (.lload 15, 2) := by decide +kernel
theorem dX5_multiplyBy4_137 : decode cX5_multiplyBy4 137 = .ok (.lload 31, 2) := by decide +kernel
theorem dX5_multiplyBy4_139 : decode cX5_multiplyBy4 139 = .ok (.lmul, 1) := by decide +kernel
theorem dX5_multiplyBy4_140 : decode cX5_multiplyBy4 140 = .ok (.lsub, 1) := by decide +kernel
theorem dX5_multiplyBy4_141 : decode cX5_multiplyBy4 141 = .ok (.lload 17, 2) := by decide +kernel
theorem dX5_multiplyBy4_143 : decode cX5_multiplyBy4 143 = .ok (.lload 33, 2) := by decide +kernel
theorem dX5_multiplyBy4_145 : decode cX5_multiplyBy4 145 = .ok (.lmul, 1) := by decide +kernel
theorem dX5_multiplyBy4_146 : decode cX5_multiplyBy4 146 = .ok (.lsub, 1) := by decide +kernel
theorem dX5_multiplyBy4_147 : decode cX5_multiplyBy4 147 = .ok (.lastore, 1) := by decide +kernel
theorem dX5_multiplyBy4_148 : decode cX5_multiplyBy4 148 = .ok (.aload_n 0, 1) := by decide +kernel
theorem dX5_multiplyBy4_149 : decode cX5_multiplyBy4 149 = .ok (.iconst 1, 1) := by decide +kernel
theorem dX5_multiplyBy4_150 : decode cX5_multiplyBy4 150 = .ok (.lload_n 3, 1) := by decide +kernel
theorem dX5_multiplyBy4_151 : decode cX5_multiplyBy4 151 = .ok (.lload 21, 2) := by decide +kernel
theorem dX5_multiplyBy4_153 : decode cX5_multiplyBy4 153 = .ok (.lmul, 1) := by decide +kernel
theorem dX5_multiplyBy4_154 : decode cX5_multiplyBy4 154 = .ok (.lload 5, 2) := by decide +kernel
theorem dX5_multiplyBy4_156 : decode cX5_multiplyBy4 156 = .ok (.lload 19, 2) := by decide +kernel
theorem dX5_multiplyBy4_158 : decode cX5_multiplyBy4 158 = .ok (.lmul, 1) := by decide +kernel
theorem dX5_multiplyBy4_159 : decode cX5_multiplyBy4 159 = .ok (.ladd, 1) := by decide +kernel
theorem dX5_multiplyBy4_160 : decode cX5_multiplyBy4 160 = .ok (.lload 7, 2) := by decide +kernel
theorem dX5_multiplyBy4_162 : decode cX5_multiplyBy4 162 = .ok (.lload 25, 2) := by decide +kernel
theorem dX5_multiplyBy4_164 : decode cX5_multiplyBy4 164 = .ok (.lmul, 1) := by decide +kernel
theorem dX5_multiplyBy4_165 : decode cX5_multiplyBy4 165 = .ok (.ladd, 1) := by decide +kernel
theorem dX5_multiplyBy4_166 : decode cX5_multiplyBy4 166 = .ok (.lload 9, 2) := by decide +kernel
theorem dX5_multiplyBy4_168 : decode cX5_multiplyBy4 168 = .ok (.lload 23, 2) := by decide +kernel
theorem dX5_multiplyBy4_170 : decode cX5_multiplyBy4 170 = .ok (.lmul, 1) := by decide +kernel
theorem dX5_multiplyBy4_171 : decode cX5_multiplyBy4 171 = .ok (.lsub, 1) := by decide +kernel
theorem dX5_multiplyBy4_172 : decode cX5_multiplyBy4 172 = .ok (.lload 11, 2) := by decide +kernel
theorem dX5_multiplyBy4_174 : decode cX5_multiplyBy4 174 = .ok (.lload 29, 2) := by decide +kernel
theorem dX5_multiplyBy4_176 : decode cX5_multiplyBy4 176 = .ok (.lmul, 1) := by decide +kernel
theorem dX5_multiplyBy4_177 : decode cX5_multiplyBy4 177 = .ok (.ladd, 1) := by decide +kernel
theorem dX5_multiplyBy4_178 : decode cX5_multiplyBy4 178 = .ok (.lload 13, 2) := by decide +kernel
theorem dX5_multiplyBy4_180 : decode cX5_multiplyBy4 180 = .ok (.lload 27, 2) := by decide +kernel
theorem dX5_multiplyBy4_182 : decode cX5_multiplyBy4 182 = .ok (.lmul, 1) := by decide +kernel
theorem dX5_multiplyBy4_183 : decode cX5_multiplyBy4 183 = .ok (.lsub, 1) := by decide +kernel
theorem dX5_multiplyBy4_184 : decode cX5_multiplyBy4 184 = .ok (.lload 15, 2) := by decide +kernel
theorem dX5_multiplyBy4_186 : decode cX5_multiplyBy4 186 = .ok (.lload 33, 2) := by decide +kernel
theorem dX5_multiplyBy4_188 : decode cX5_multiplyBy4 188 = .ok (.lmul, 1) := by decide +kernel
theorem dX5_multiplyBy4_189 : decode cX5_multiplyBy4 189 = .ok (.lsub, 1) := by decide +kernel
theorem dX5_multiplyBy4_190 : decode cX5_multiplyBy4 190 = .ok (.lload 17, 2) := by decide +kernel
theorem dX5_multiplyBy4_192 : decode cX5_multiplyBy4 192 = .ok (.lload 31, 2) := by decide +kernel
theorem dX5_multiplyBy4_194 : decode cX5_multiplyBy4 194 = .ok (.lmul, 1) := by decide +kernel
theorem dX5_multiplyBy4_195 : decode cX5_multiplyBy4 195 = .ok (.ladd, 1) := by decide +kernel
theorem dX5_multiplyBy4_196 : decode cX5_multiplyBy4 196 = .ok (.lastore, 1) := by decide +kernel
theorem dX5_multiplyBy4_197 : decode cX5_multiplyBy4 197 = .ok (.aload_n 0, 1) := by decide +kernel
theorem dX5_multiplyBy4_198 : decode cX5_multiplyBy4 198 = .ok (.iconst 2, 1) := by decide +kernel
theorem dX5_multiplyBy4_199 : decode cX5_multiplyBy4 199 = .ok (.lload_n 3, 1) := by decide +kernel
theorem dX5_multiplyBy4_200 : decode cX5_multiplyBy4 200 = .ok (.lload 23, 2) := by decide +kernel
theorem dX5_multiplyBy4_202 : decode cX5_multiplyBy4 202 = .ok (.lmul, 1) := by decide +kernel
theorem dX5_multiplyBy4_203 : decode cX5_multiplyBy4 203 = .ok (.lload 5, 2) := by decide +kernel
theorem dX5_multiplyBy4_205 : decode cX5_multiplyBy4 205 = .ok (.lload 25, 2) := by decide +kernel
theorem dX5_multiplyBy4_207 : decode cX5_multiplyBy4 207 = .ok (.lmul, 1) := by decide +kernel
theorem dX5_multiplyBy4_208 : decode cX5_multiplyBy4 208 = .ok (.lsub, 1) := by decide +kernel
theorem dX5_multiplyBy4_209 : decode cX5_multiplyBy4 209 = .ok (.lload 7, 2) := by decide +kernel
theorem dX5_multiplyBy4_211 : decode cX5_multiplyBy4 211 = .ok (.lload 19, 2) := by decide +kernel
theorem dX5_multiplyBy4_213 : decode cX5_multiplyBy4 213 = .ok (.lmul, 1) := by decide +kernel
theorem dX5_multiplyBy4_214 : decode cX5_multiplyBy4 214 = .ok (.ladd, 1) := by decide +kernel
theorem dX5_multiplyBy4_215 : decode cX5_multiplyBy4 215 = .ok (.lload 9, 2) := by decide +kernel
theorem dX5_multiplyBy4_217 : decode cX5_multiplyBy4 217 = .ok (.lload 21, 2) := by decide +kernel
theorem dX5_multiplyBy4_219 : decode cX5_multiplyBy4 219 = .ok (.lmul, 1) := by decide +kernel
theorem dX5_multiplyBy4_220 : decode cX5_multiplyBy4 220 = .ok (.ladd, 1) := by decide +kernel
theorem dX5_multiplyBy4_221 : decode cX5_multiplyBy4 221 = .ok (.lload 11, 2) := by decide +kernel
theorem dX5_multiplyBy4_223 : decode cX5_multiplyBy4 223 = .ok (.lload 31, 2) := by decide +kernel
theorem dX5_multiplyBy4_225 : decode cX5_multiplyBy4 225 = .ok (.lmul, 1) := by decide +kernel
theorem dX5_multiplyBy4_226 : decode cX5_multiplyBy4 226 = .ok (.ladd, 1) := by decide +kernel
theorem dX5_multiplyBy4_227 : decode cX5_multiplyBy4 227 = .ok (.lload 13, 2) := by decide +kernel
theorem dX5_multiplyBy4_229 : decode cX5_multiplyBy4 229 = .ok (.lload 33, 2) := by decide +kernel
theorem dX5_multiplyBy4_231 : decode cX5_multiplyBy4 231 = .ok (.lmul, 1) := by decide +kernel
theorem dX5_multiplyBy4_232 : decode cX5_multiplyBy4 232 = .ok (.ladd, 1) := by decide +kernel
theorem dX5_multiplyBy4_233 : decode cX5_multiplyBy4 233 = .ok (.lload 15, 2) := by decide +kernel
theorem dX5_multiplyBy4_235 : decode cX5_multiplyBy4 235 = .ok (.lload 27, 2) := by decide +kernel
theorem dX5_multiplyBy4_237 : decode cX5_multiplyBy4 237 = .ok (.lmul, 1) := by decide +kernel
theorem dX5_multiplyBy4_238 : decode cX5_multiplyBy4 238 = .ok (.lsub, 1) := by decide +kernel
theorem dX5_multiplyBy4_239 : decode cX5_multiplyBy4 239 = .ok (.lload 17, 2) := by decide +kernel
theorem dX5_multiplyBy4_241 : decode cX5_multiplyBy4 241 = .ok (.lload 29, 2) := by decide +kernel
theorem dX5_multiplyBy4_243 : decode cX5_multiplyBy4 243 = .ok (.lmul, 1) := by decide +kernel
theorem dX5_multiplyBy4_244 : decode cX5_multiplyBy4 244 = .ok (.lsub, 1) := by decide +kernel
theorem dX5_multiplyBy4_245 : decode cX5_multiplyBy4 245 = .ok (.lastore, 1) := by decide +kernel
theorem dX5_multiplyBy4_246 : decode cX5_multiplyBy4 246 = .ok (.aload_n 0, 1) := by decide +kernel
theorem dX5_multiplyBy4_247 : decode cX5_multiplyBy4 247 = .ok (.iconst 3, 1) := by decide +kernel
theorem dX5_multiplyBy4_248 : decode cX5_multiplyBy4 248 = .ok (.lload_n 3, 1) := by decide +kernel
theorem dX5_multiplyBy4_249 : decode cX5_multiplyBy4 249 = .ok (.lload 25, 2) := by decide +kernel
theorem dX5_multiplyBy4_251 : decode cX5_multiplyBy4 251 = .ok (.lmul, 1) := by decide +kernel
theorem dX5_multiplyBy4_252 : decode cX5_multiplyBy4 252 = .ok (.lload 5, 2) := by decide +kernel
theorem dX5_multiplyBy4_254 : decode cX5_multiplyBy4 254 = .ok (.lload 23, 2) := by decide +kernel
theorem dX5_multiplyBy4_256 : decode cX5_multiplyBy4 256 = .ok (.lmul, 1) := by decide +kernel
theorem dX5_multiplyBy4_257 : decode cX5_multiplyBy4 257 = .ok (.ladd, 1) := by decide +kernel
theorem dX5_multiplyBy4_258 : decode cX5_multiplyBy4 258 = .ok (.lload 7, 2) := by decide +kernel
theorem dX5_multiplyBy4_260 : decode cX5_multiplyBy4 260 = .ok (.lload 21, 2) := by decide +kernel
theorem dX5_multiplyBy4_262 : decode cX5_multiplyBy4 262 = .ok (.lmul, 1) := by decide +kernel
theorem dX5_multiplyBy4_263 : decode cX5_multiplyBy4 263 = .ok (.lsub, 1) := by decide +kernel
theorem dX5_multiplyBy4_264 : decode cX5_multiplyBy4 264 = .ok (.lload 9, 2) := by decide +kernel
theorem dX5_multiplyBy4_266 : decode cX5_multiplyBy4 266 = .ok (.lload 19, 2) := by decide +kernel
theorem dX5_multiplyBy4_268 : decode cX5_multiplyBy4 268 = .ok (.lmul, 1) := by decide +kernel
theorem dX5_multiplyBy4_269 : decode cX5_multiplyBy4 269 = .ok (.ladd, 1) := by decide +kernel
theorem dX5_multiplyBy4_270 : decode cX5_multiplyBy4 270 = .ok (.lload 11, 2) := by decide +kernel
theorem dX5_multiplyBy4_272 : decode cX5_multiplyBy4 272 = .ok (.lload 33, 2) := by decide +kernel
theorem dX5_multiplyBy4_274 : decode cX5_multiplyBy4 274 = .ok (.lmul, 1) := by decide +kernel
theorem dX5_multiplyBy4_275 : decode cX5_multiplyBy4 275 = .ok (.ladd, 1) := by decide +kernel
theorem dX5_multiplyBy4_276 : decode cX5_multiplyBy4 276 = .ok (.lload 13, 2) := by decide +kernel
theorem dX5_multiplyBy4_278 : decode cX5_multiplyBy4 278 = .ok (.lload 31, 2) := by decide +kernel
theorem dX5_multiplyBy4_280 : decode cX5_multiplyBy4 280 = .ok (.lmul, 1) := by decide +kernel
theorem dX5_multiplyBy4_281 : decode cX5_multiplyBy4 281 = .ok (.lsub, 1) := by decide +kernel
theorem dX5_multiplyBy4_282 : decode cX5_multiplyBy4 282 = .ok (.lload 15, 2) := by decide +kernel
theorem dX5_multiplyBy4_284 : decode cX5_multiplyBy4 284 = .ok (.lload 29, 2) := by decide +kernel
theorem dX5_multiplyBy4_286 : decode cX5_multiplyBy4 286 = .ok (.lmul, 1) := by decide +kernel
theorem dX5_multiplyBy4_287 : decode cX5_multiplyBy4 287 = .ok (.ladd, 1) := by decide +kernel
theorem dX5_multiplyBy4_288 : decode cX5_multiplyBy4 288 = .ok (.lload 17, 2) := by decide +kernel
theorem dX5_multiplyBy4_290 : decode cX5_multiplyBy4 290 = .ok (.lload 27, 2) := by decide +kernel
theorem dX5_multiplyBy4_292 : decode cX5_multiplyBy4 292 = .ok (.lmul, 1) := by decide +kernel
theorem dX5_multiplyBy4_293 : decode cX5_multiplyBy4 293 = .ok (.lsub, 1) := by decide +kernel
theorem dX5_multiplyBy4_294 : decode cX5_multiplyBy4 294 = .ok (.lastore, 1) := by decide +kernel
theorem dX5_multiplyBy4_295 : decode cX5_multiplyBy4 295 = .ok (.aload_n 0, 1) := by decide +kernel
theorem dX5_multiplyBy4_296 : decode cX5_multiplyBy4 296 = .ok (.iconst 4, 1) := by decide +kernel
theorem dX5_multiplyBy4_297 : decode cX5_multiplyBy4 297 = .ok (.lload_n 3, 1) := by decide +kernel
theorem dX5_multiplyBy4_298 : decode cX5_multiplyBy4 298 = .ok (.lload 27, 2) := by decide +kernel
theorem dX5_multiplyBy4_300 : decode cX5_multiplyBy4 300 = .ok (.lmul, 1) := by decide +kernel
theorem dX5_multiplyBy4_301 : decode cX5_multiplyBy4 301 = .ok (.lload 5, 2) := by decide +kernel
theorem dX5_multiplyBy4_303 : decode cX5_multiplyBy4 303 = .ok (.lload 29, 2) := by decide +kernel
theorem dX5_multiplyBy4_305 : decode cX5_multiplyBy4 305 = .ok (.lmul, 1) := by decide +kernel
theorem dX5_multiplyBy4_306 : decode cX5_multiplyBy4 306 = .ok (.lsub, 1) := by decide +kernel
theorem dX5_multiplyBy4_307 : decode cX5_multiplyBy4 307 = .ok (.lload 7, 2) := by decide +kernel
theorem dX5_multiplyBy4_309 : decode cX5_multiplyBy4 309 = .ok (.lload 31, 2) := by decide +kernel
theorem dX5_multiplyBy4_311 : decode cX5_multiplyBy4 311 = .ok (.lmul, 1) := by decide +kernel
theorem dX5_multiplyBy4_312 : decode cX5_multiplyBy4 312 = .ok (.lsub, 1) := by decide +kernel
theorem dX5_multiplyBy4_313 : decode cX5_multiplyBy4 313 = .ok (.lload 9, 2) := by decide +kernel
theorem dX5_multiplyBy4_315 : decode cX5_multiplyBy4 315 = .ok (.lload 33, 2) := by decide +kernel
theorem dX5_multiplyBy4_317 : decode cX5_multiplyBy4 317 = .ok (.lmul, 1) := by decide +kernel
theorem dX5_multiplyBy4_318 : decode cX5_multiplyBy4 318 = .ok (.lsub, 1) := by decide +kernel
theorem dX5_multiplyBy4_319 : decode cX5_multiplyBy4 319 = .ok (.lload 11, 2) := by decide +kernel
theorem dX5_multiplyBy4_321 : decode cX5_multiplyBy4 321 = .ok (.lload 19, 2) := by decide +kernel
theorem dX5_multiplyBy4_323 : decode cX5_multiplyBy4 323 = .ok (.lmul, 1) := by decide +kernel
theorem dX5_multiplyBy4_324 : decode cX5_multiplyBy4 324 = .ok (.ladd, 1) := by decide +kernel
theorem dX5_multiplyBy4_325 : decode cX5_multiplyBy4 325 = .ok (.lload 13, 2) := by decide +kernel
theorem dX5_multiplyBy4_327 : decode cX5_multiplyBy4 327 = .ok (.lload 21, 2) := by decide +kernel
theorem dX5_multiplyBy4_329 : decode cX5_multiplyBy4 329 = .ok (.lmul, 1) := by decide +kernel
theorem dX5_multiplyBy4_330 : decode cX5_multiplyBy4 330 = .ok (.ladd, 1) := by decide +kernel
theorem dX5_multiplyBy4_331 : decode cX5_multiplyBy4 331 = .ok (.lload 15, 2) := by decide +kernel
theorem dX5_multiplyBy4_333 : decode cX5_multiplyBy4 333 = .ok (.lload 23, 2) := by decide +kernel
theorem dX5_multiplyBy4_335 : decode cX5_multiplyBy4 335 = .ok (.lmul, 1) := by decide +kernel
theorem dX5_multiplyBy4_336 : decode cX5_multiplyBy4 336 = .ok (.ladd, 1) := by decide +kernel
theorem dX5_multiplyBy4_337 : decode cX5_multiplyBy4 337 = .ok (.lload 17, 2) := by decide +kernel
theorem dX5_multiplyBy4_339 : decode cX5_multiplyBy4 339 = .ok (.lload 25, 2) := by decide +kernel
theorem dX5_multiplyBy4_341 : decode cX5_multiplyBy4 341 = .ok (.lmul, 1) := by decide +kernel
theorem dX5_multiplyBy4_342 : decode cX5_multiplyBy4 342 = .ok (.ladd, 1) := by decide +kernel
theorem dX5_multiplyBy4_343 : decode cX5_multiplyBy4 343 = .ok (.lastore, 1) := by decide +kernel
theorem dX5_multiplyBy4_344 : decode cX5_multiplyBy4 344 = .ok (.aload_n 0, 1) := by decide +kernel
theorem dX5_multiplyBy4_345 : decode cX5_multiplyBy4 345 = .ok (.iconst 5, 1) := by decide +kernel
theorem dX5_multiplyBy4_346 : decode cX5_multiplyBy4 346 = .ok (.lload_n 3, 1) := by decide +kernel
theorem dX5_multiplyBy4_347 : decode cX5_multiplyBy4 347 = .ok (.lload 29, 2) := by decide +kernel
theorem dX5_multiplyBy4_349 : decode cX5_multiplyBy4 349 = .ok (.lmul, 1) := by decide +kernel
theorem dX5_multiplyBy4_350 : decode cX5_multiplyBy4 350 = .ok (.lload 5, 2) := by decide +kernel
theorem dX5_multiplyBy4_352 : decode cX5_multiplyBy4 352 = .ok (.lload 27, 2) := by decide +kernel
theorem dX5_multiplyBy4_354 : decode cX5_multiplyBy4 354 = .ok (.lmul, 1) := by decide +kernel
theorem dX5_multiplyBy4_355 : decode cX5_multiplyBy4 355 = .ok (.ladd, 1) := by decide +kernel
theorem dX5_multiplyBy4_356 : decode cX5_multiplyBy4 356 = .ok (.lload 7, 2) := by decide +kernel
theorem dX5_multiplyBy4_358 : decode cX5_multiplyBy4 358 = .ok (.lload 33, 2) := by decide +kernel
theorem dX5_multiplyBy4_360 : decode cX5_multiplyBy4 360 = .ok (.lmul, 1) := by decide +kernel
theorem dX5_multiplyBy4_361 : decode cX5_multiplyBy4 361 = .ok (.lsub, 1) := by decide +kernel
theorem dX5_multiplyBy4_362 : decode cX5_multiplyBy4 362 = .ok (.lload 9, 2) := by decide +kernel
theorem dX5_multiplyBy4_364 : decode cX5_multiplyBy4 364 = .ok (.lload 31, 2) := by decide +kernel
theorem dX5_multiplyBy4_366 : decode cX5_multiplyBy4 366 = .ok (.lmul, 1) := by decide +kernel
theorem dX5_multiplyBy4_367 : decode cX5_multiplyBy4 367 = .ok (.ladd, 1) := by decide +kernel
theorem dX5_multiplyBy4_368 : decode cX5_multiplyBy4 368 = .ok (.lload 11, 2) := by decide +kernel
theorem dX5_multiplyBy4_370 : decode cX5_multiplyBy4 370 = .ok (.lload 21, 2) := by decide +kernel
theorem dX5_multiplyBy4_372 : decode cX5_multiplyBy4 372 = .ok (.lmul, 1) := by decide +kernel
theorem dX5_multiplyBy4_373 : decode cX5_multiplyBy4 373 = .ok (.lsub, 1) := by decide +kernel
theorem dX5_multiplyBy4_374 : decode cX5_multiplyBy4 374 = .ok (.lload 13, 2) := by decide +kernel
theorem dX5_multiplyBy4_376 : decode cX5_multiplyBy4 376 = .ok (.lload 19, 2) := by decide +kernel
theorem dX5_multiplyBy4_378 : decode cX5_multiplyBy4 378 = .ok (.lmul, 1) := by decide +kernel
theorem dX5_multiplyBy4_379 : decode cX5_multiplyBy4 379 = .ok (.ladd, 1) := by decide +kernel
theorem dX5_multiplyBy4_380 : decode cX5_multiplyBy4 380 = .ok (.lload 15, 2) := by decide +kernel
theorem dX5_multiplyBy4_382 : decode cX5_multiplyBy4 382 = .ok (.lload 25, 2) := by decide +kernel
theorem dX5_multiplyBy4_384 : decode cX5_multiplyBy4 384 = .ok (.lmul, 1) := by decide +kernel
theorem dX5_multiplyBy4_385 : decode cX5_multiplyBy4 385 = .ok (.lsub, 1) := by decide +kernel
theorem dX5_multiplyBy4_386 : decode cX5_multiplyBy4 386 = .ok (.lload 17, 2) := by decide +kernel
theorem dX5_multiplyBy4_388 : decode cX5_multiplyBy4 388 = .ok (.lload 23, 2) := by decide +kernel
theorem dX5_multiplyBy4_390 : decode cX5_multiplyBy4 390 = .ok (.lmul, 1) := by decide +kernel
theorem dX5_multiplyBy4_391 : decode cX5_multiplyBy4 391 = .ok (.ladd, 1) := by decide +kernel
theorem dX5_multiplyBy4_392 : decode cX5_multiplyBy4 392 = .ok (.lastore, 1) := by decide +kernel
theorem dX5_multiplyBy4_393 : decode cX5_multiplyBy4 393 = .ok (.aload_n 0, 1) := by decide +kernel
theorem dX5_multiplyBy4_394 : decode cX5_multiplyBy4 394 = .ok (.bipush 6, 2) := by decide +kernel
theorem dX5_multiplyBy4_396 : decode cX5_multiplyBy4 396 = .ok (.lload_n 3, 1) := by decide +kernel
theorem dX5_multiplyBy4_397 : decode cX5_multiplyBy4 397 = .ok (.lload 31, 2) := by decide +kernel
theorem dX5_multiplyBy4_399 : decode cX5_multiplyBy4 399 = .ok (.lmul, 1) := by decide +kernel
theorem dX5_multiplyBy4_400 : decode cX5_multiplyBy4 400 = .ok (.lload 5, 2) := by decide +kernel
theorem dX5_multiplyBy4_402 : decode cX5_multiplyBy4 402 = .ok (.lload 33, 2) := by decide +kernel
theorem dX5_multiplyBy4_404 : decode cX5_multiplyBy4 404 = .ok (.lmul, 1) := by decide +kernel
theorem dX5_multiplyBy4_405 : decode cX5_multiplyBy4 405 = .ok (.ladd, 1) := by decide +kernel
theorem dX5_multiplyBy4_406 : decode cX5_multiplyBy4 406 = .ok (.lload 7, 2) := by decide +kernel
theorem dX5_multiplyBy4_408 : decode cX5_multiplyBy4 408 = .ok (.lload 27, 2) := by decide +kernel
theorem dX5_multiplyBy4_410 : decode cX5_multiplyBy4 410 = .ok (.lmul, 1) := by decide +kernel
theorem dX5_multiplyBy4_411 : decode cX5_multiplyBy4 411 = .ok (.ladd, 1) := by decide +kernel
theorem dX5_multiplyBy4_412 : decode cX5_multiplyBy4 412 = .ok (.lload 9, 2) := by decide +kernel
theorem dX5_multiplyBy4_414 : decode cX5_multiplyBy4 414 = .ok (.lload 29, 2) := by decide +kernel
theorem dX5_multiplyBy4_416 : decode cX5_multiplyBy4 416 = .ok (.lmul, 1) := by decide +kernel
theorem dX5_multiplyBy4_417 : decode cX5_multiplyBy4 417 = .ok (.lsub, 1) := by decide +kernel
theorem dX5_multiplyBy4_418 : decode cX5_multiplyBy4 418 = .ok (.lload 11, 2) := by decide +kernel
theorem dX5_multiplyBy4_420 : decode cX5_multiplyBy4 420 = .ok (.lload 23, 2) := by decide +kernel
theorem dX5_multiplyBy4_422 : decode cX5_multiplyBy4 422 = .ok (.lmul, 1) := by decide +kernel
theorem dX5_multiplyBy4_423 : decode cX5_multiplyBy4 423 = .ok (.lsub, 1) := by decide +kernel
theorem dX5_multiplyBy4_424 : decode cX5_multiplyBy4 424 = .ok (.lload 13, 2) := by decide +kernel
theorem dX5_multiplyBy4_426 : decode cX5_multiplyBy4 426 = .ok (.lload 25, 2) := by decide +kernel
theorem dX5_multiplyBy4_428 : decode cX5_multiplyBy4 428 = .ok (.lmul, 1) := by decide +kernel
theorem dX5_multiplyBy4_429 : decode cX5_multiplyBy4 429 = .ok (.ladd, 1) := by decide +kernel
theorem dX5_multiplyBy4_430 : decode cX5_multiplyBy4 430 = .ok (.lload 15, 2) := by decide +kernel
theorem dX5_multiplyBy4_432 : decode cX5_multiplyBy4 432 = .ok (.lload 19, 2) := by decide +kernel
theorem dX5_multiplyBy4_434 : decode cX5_multiplyBy4 434 = .ok (.lmul, 1) := by decide +kernel
theorem dX5_multiplyBy4_435 : decode cX5_multiplyBy4 435 = .ok (.ladd, 1) := by decide +kernel
theorem dX5_multiplyBy4_436 : decode cX5_multiplyBy4 436 = .ok (.lload 17, 2) := by decide +kernel
theorem dX5_multiplyBy4_438 : decode cX5_multiplyBy4 438 = .ok (.lload 21, 2) := by decide +kernel
theorem dX5_multiplyBy4_440 : decode cX5_multiplyBy4 440 = .ok (.lmul, 1) := by decide +kernel
theorem dX5_multiplyBy4_441 : decode cX5_multiplyBy4 441 = .ok (.lsub, 1) := by decide +kernel
theorem dX5_multiplyBy4_442 : decode cX5_multiplyBy4 442 = .ok (.lastore, 1) := by decide +kernel
theorem dX5_multiplyBy4_443 : decode cX5_multiplyBy4 443 = .ok (.aload_n 0, 1) := by decide +kernel
theorem dX5_multiplyBy4_444 : decode cX5_multiplyBy4 444 = .ok (.bipush 7, 2) := by decide +kernel
theorem dX5_multiplyBy4_446 : decode cX5_multiplyBy4 446 = .ok (.lload_n 3, 1) := by decide +kernel
theorem dX5_multiplyBy4_447 : decode cX5_multiplyBy4 447 = .ok (.lload 33, 2) := by decide +kernel
theorem dX5_multiplyBy4_449 : decode cX5_multiplyBy4 449 = .ok (.lmul, 1) := by decide +kernel
theorem dX5_multiplyBy4_450 : decode cX5_multiplyBy4 450 = .ok (.lload 5, 2) := by decide +kernel
theorem dX5_multiplyBy4_452 : decode cX5_multiplyBy4 452 = .ok (.lload 31, 2) := by decide +kernel
theorem dX5_multiplyBy4_454 : decode cX5_multiplyBy4 454 = .ok (.lmul, 1) := by decide +kernel
theorem dX5_multiplyBy4_455 : decode cX5_multiplyBy4 455 = .ok (.lsub, 1) := by decide +kernel
theorem dX5_multiplyBy4_456 : decode cX5_multiplyBy4 456 = .ok (.lload 7, 2) := by decide +kernel
theorem dX5_multiplyBy4_458 : decode cX5_multiplyBy4 458 = .ok (.lload 29, 2) := by decide +kernel
theorem dX5_multiplyBy4_460 : decode cX5_multiplyBy4 460 = .ok (.lmul, 1) := by decide +kernel
theorem dX5_multiplyBy4_461 : decode cX5_multiplyBy4 461 = .ok (.ladd, 1) := by decide +kernel
theorem dX5_multiplyBy4_462 : decode cX5_multiplyBy4 462 = .ok (.lload 9, 2) := by decide +kernel
theorem dX5_multiplyBy4_464 : decode cX5_multiplyBy4 464 = .ok (.lload 27, 2) := by decide +kernel
theorem dX5_multiplyBy4_466 : decode cX5_multiplyBy4 466 = .ok (.lmul, 1) := by decide +kernel
theorem dX5_multiplyBy4_467 : decode cX5_multiplyBy4 467 = .ok (.ladd, 1) := by decide +kernel
theorem dX5_multiplyBy4_468 : decode cX5_multiplyBy4 468 = .ok (.lload 11, 2) := by decide +kernel
theorem dX5_multiplyBy4_470 : decode cX5_multiplyBy4 470 = .ok (.lload 25, 2) := by decide +kernel
theorem dX5_multiplyBy4_472 : decode cX5_multiplyBy4 472 = .ok (.lmul, 1) := by decide +kernel
theorem dX5_multiplyBy4_473 : decode cX5_multiplyBy4 473 = .ok (.lsub, 1) := by decide +kernel
theorem dX5_multiplyBy4_474 : decode cX5_multiplyBy4 474 = .ok (.lload 13, 2) := by decide +kernel
theorem dX5_multiplyBy4_476 : decode cX5_multiplyBy4 476 = .ok (.lload 23, 2) := by decide +kernel
theorem dX5_multiplyBy4_478 : decode cX5_multiplyBy4 478 = .ok (.lmul, 1) := by decide +kernel
theorem dX5_multiplyBy4_479 : decode cX5_multiplyBy4 479 = .ok (.lsub, 1) := by decide +kernel
theorem dX5_multiplyBy4_480 : decode cX5_multiplyBy4 480 = .ok (.lload 15, 2) := by decide +kernel
theorem dX5_multiplyBy4_482 : decode cX5_multiplyBy4 482 = .ok (.lload 21, 2) := by decide +kernel
theorem dX5_multiplyBy4_484 : decode cX5_multiplyBy4 484 = .ok (.lmul, 1) := by decide +kernel
theorem dX5_multiplyBy4_485 : decode cX5_multiplyBy4 485 = .ok (.ladd, 1) := by decide +kernel
theorem dX5_multiplyBy4_486 : decode cX5_multiplyBy4 486 = .ok (.lload 17, 2) := by decide +kernel
theorem dX5_multiplyBy4_488 : decode cX5_multiplyBy4 488 = .ok (.lload 19, 2) := by decide +kernel
theorem dX5_multiplyBy4_490 : decode cX5_multiplyBy4 490 = .ok (.lmul, 1) := by decide +kernel
theorem dX5_multiplyBy4_491 : decode cX5_multiplyBy4 491 = .ok (.ladd, 1) := by decide +kernel
theorem dX5_multiplyBy4_492 : decode cX5_multiplyBy4 492 = .ok (.lastore, 1) := by decide +kernel
theorem dX5_multiplyBy4_493 : decode cX5_multiplyBy4 493 = .ok (.return_, 1) := by decide +kernel
theorem dX5_halve_0 : decode cX5_halve 0 = .ok (.iconst 0, 1) := by decide +kernel
theorem dX5_halve_1 : decode cX5_halve 1 = .ok (.istore_n 1, 1) := by decide +kernel
theorem dX5_halve_2 : decode cX5_halve 2 = .ok (.iload_n 1, 1) := by decide +kernel
theorem dX5_halve_3 : decode cX5_halve 3 = .ok (.bipush 8, 2) := by decide +kernel
theorem dX5_halve_5 : decode cX5_halve 5 = .ok (.if_icmp .ge 30, 3) := by decide +kernel
theorem dX5_halve_8 : decode cX5_halve 8 = .ok (.aload_n 0, 1) := by decide +kernel
theorem dX5_halve_9 : decode cX5_halve 9 = .ok (.iload_n 1, 1) := by decide +kernel
theorem dX5_halve_10 : decode cX5_halve 10 = .ok (.laload, 1) := by decide +kernel
theorem dX5_halve_11 : decode cX5_halve 11 = .ok (.lconst 1, 1) := by decide +kernel
theorem dX5_halve_12 : decode cX5_halve 12 = .ok (.land, 1) := by decide +kernel
theorem dX5_halve_13 : decode cX5_halve 13 = .ok (.lconst 0, 1) := by decide +kernel
theorem dX5_halve_14 : decode cX5_halve 14 = .ok (.lcmp, 1) := by decide +kernel
theorem dX5_halve_15 : decode cX5_halve 15 = .ok (.ifCond .eq 5, 3) := by decide +kernel
theorem dX5_halve_18 : decode cX5_halve 18 = .ok (.iconst 0, 1) := by decide +kernel
theorem dX5_halve_19 : decode cX5_halve 19 = .ok (.ireturn, 1) := by decide +kernel
theorem dX5_halve_20 : decode cX5_halve 20 = .ok (.aload_n 0, 1) := by decide +kernel
theorem dX5_halve_21 : decode cX5_halve 21 = .ok (.iload_n 1, 1) := by decide +kernel
theorem dX5_halve_22 : decode cX5_halve 22 = .ok (.dup2, 1) := by decide +kernel
theorem dX5_halve_23 : decode cX5_halve 23 = .ok (.laload, 1) := by decide +kernel
theorem dX5_halve_24 : decode cX5_halve 24 = .ok (.ldc2_w 33, 3) := by decide +kernel
theorem dX5_halve_27 : decode cX5_halve 27 = .ok (.ldiv, 1) := by decide +kernel
theorem dX5_halve_28 : decode cX5_halve 28 = .ok (.lastore, 1) := by decide +kernel
theorem dX5_halve_29 : decode cX5_halve 29 = .ok (.iinc 1 1, 3) := by decide +kernel
theorem dX5_halve_32 : decode cX5_halve 32 = .ok (.goto (-30), 3) := by decide +kernel
theorem dX5_halve_35 : decode cX5_halve 35 = .ok (.iconst 1, 1) := by decide +kernel
theorem dX5_halve_36 : decode cX5_halve 36 = .ok (.ireturn, 1) := by decide +kernel
theorem dX5_layIfWithin_0 : decode cX5_layIfWithin 0 = .ok (.iconst 0, 1) := by decide +kernel
theorem dX5_layIfWithin_1 : decode cX5_layIfWithin 1 = .ok (.istore_n 2, 1) := by decide +kernel
theorem dX5_layIfWithin_2 : decode cX5_layIfWithin 2 = .ok (.iload_n 2, 1) := by decide +kernel
theorem dX5_layIfWithin_3 : decode cX5_layIfWithin 3 = .ok (.bipush 8, 2) := by decide +kernel
theorem dX5_layIfWithin_5 : decode cX5_layIfWithin 5 = .ok (.if_icmp .ge 31, 3) := by decide +kernel
theorem dX5_layIfWithin_8 : decode cX5_layIfWithin 8 = .ok (.aload_n 1, 1) := by decide +kernel
theorem dX5_layIfWithin_9 : decode cX5_layIfWithin 9 = .ok (.iload_n 2, 1) := by decide +kernel
theorem dX5_layIfWithin_10 : decode cX5_layIfWithin 10 = .ok (.laload, 1) := by decide +kernel
theorem dX5_layIfWithin_11 : decode cX5_layIfWithin 11 = .ok (.ldc2_w 35, 3) := by decide +kernel
theorem dX5_layIfWithin_14 : decode cX5_layIfWithin 14 = .ok (.lcmp, 1) := by decide +kernel
theorem dX5_layIfWithin_15 : decode cX5_layIfWithin 15 = .ok (.ifCond .lt 13, 3) := by decide +kernel
theorem dX5_layIfWithin_18 : decode cX5_layIfWithin 18 = .ok (.aload_n 1, 1) := by decide +kernel
theorem dX5_layIfWithin_19 : decode cX5_layIfWithin 19 = .ok (.iload_n 2, 1) := by decide +kernel
theorem dX5_layIfWithin_20 : decode cX5_layIfWithin 20 = .ok (.laload, 1) := by decide +kernel
theorem dX5_layIfWithin_21 : decode cX5_layIfWithin 21 = .ok (.ldc2_w 37, 3) := by decide +kernel
theorem dX5_layIfWithin_24 : decode cX5_layIfWithin 24 = .ok (.lcmp, 1) := by decide +kernel
theorem dX5_layIfWithin_25 : decode cX5_layIfWithin 25 = .ok (.ifCond .le 5, 3) := by decide +kernel
theorem dX5_layIfWithin_28 : decode cX5_layIfWithin 28 = .ok (.iconst 0, 1) := by decide +kernel
theorem dX5_layIfWithin_29 : decode cX5_layIfWithin 29 = .ok (.ireturn, 1) := by decide +kernel
theorem dX5_layIfWithin_30 : decode cX5_layIfWithin 30 = .ok (.iinc 2 1, 3) := by decide +kernel
theorem dX5_layIfWithin_33 : decode cX5_layIfWithin 33 = .ok (.goto (-31), 3) := by decide +kernel
theorem dX5_layIfWithin_36 : decode cX5_layIfWithin 36 = .ok (.iconst 0, 1) := by decide +kernel
theorem dX5_layIfWithin_37 : decode cX5_layIfWithin 37 = .ok (.istore_n 2, 1) := by decide +kernel
theorem dX5_layIfWithin_38 : decode cX5_layIfWithin 38 = .ok (.iload_n 2, 1) := by decide +kernel
theorem dX5_layIfWithin_39 : decode cX5_layIfWithin 39 = .ok (.bipush 8, 2) := by decide +kernel
theorem dX5_layIfWithin_41 : decode cX5_layIfWithin 41 = .ok (.if_icmp .ge 16, 3) := by decide +kernel
theorem dX5_layIfWithin_44 : decode cX5_layIfWithin 44 = .ok (.aload_n 0, 1) := by decide +kernel
theorem dX5_layIfWithin_45 : decode cX5_layIfWithin 45 = .ok (.iload_n 2, 1) := by decide +kernel
theorem dX5_layIfWithin_46 : decode cX5_layIfWithin 46 = .ok (.aload_n 1, 1) := by decide +kernel
theorem dX5_layIfWithin_47 : decode cX5_layIfWithin 47 = .ok (.iload_n 2, 1) := by decide +kernel
theorem dX5_layIfWithin_48 : decode cX5_layIfWithin 48 = .ok (.laload, 1) := by decide +kernel
theorem dX5_layIfWithin_49 : decode cX5_layIfWithin 49 = .ok (.l2i, 1) := by decide +kernel
theorem dX5_layIfWithin_50 : decode cX5_layIfWithin 50 = .ok (.iastore, 1) := by decide +kernel
theorem dX5_layIfWithin_51 : decode cX5_layIfWithin 51 = .ok (.iinc 2 1, 3) := by decide +kernel
theorem dX5_layIfWithin_54 : decode cX5_layIfWithin 54 = .ok (.goto (-16), 3) := by decide +kernel
theorem dX5_layIfWithin_57 : decode cX5_layIfWithin 57 = .ok (.iconst 1, 1) := by decide +kernel
theorem dX5_layIfWithin_58 : decode cX5_layIfWithin 58 = .ok (.ireturn, 1) := by decide +kernel
theorem dX6_init_0 : decode cX6_init 0 = .ok (.aload_n 0, 1) := by decide +kernel
theorem dX6_init_1 : decode cX6_init 1 = .ok (.invokespecial 3, 3) := by decide +kernel
theorem dX6_init_4 : decode cX6_init 4 = .ok (.aload_n 0, 1) := by decide +kernel
theorem dX6_init_5 : decode cX6_init 5 = .ok (.bipush 13, 2) := by decide +kernel
theorem dX6_init_7 : decode cX6_init 7 = .ok (.bipush 8, 2) := by decide +kernel
theorem dX6_init_9 : decode cX6_init 9 = .ok (.multianewarray 11 2, 4) := by decide +kernel
theorem dX6_init_13 : decode cX6_init 13 = .ok (.putfield 13, 3) := by decide +kernel
theorem dX6_init_16 : decode cX6_init 16 = .ok (.aload_n 0, 1) := by decide +kernel
theorem dX6_init_17 : decode cX6_init 17 = .ok (.bipush 13, 2) := by decide +kernel
theorem dX6_init_19 : decode cX6_init 19 = .ok (.bipush 8, 2) := by decide +kernel
theorem dX6_init_21 : decode cX6_init 21 = .ok (.multianewarray 11 2, 4) := by decide +kernel
theorem dX6_init_25 : decode cX6_init 25 = .ok (.putfield 16, 3) := by decide +kernel
theorem dX6_init_28 : decode cX6_init 28 = .ok (.aload_n 0, 1) := by decide +kernel
theorem dX6_init_29 : decode cX6_init 29 = .ok (.bipush 13, 2) := by decide +kernel
theorem dX6_init_31 : decode cX6_init 31 = .ok (.bipush 8, 2) := by decide +kernel
theorem dX6_init_33 : decode cX6_init 33 = .ok (.multianewarray 11 2, 4) := by decide +kernel
theorem dX6_init_37 : decode cX6_init 37 = .ok (.putfield 19, 3) := by decide +kernel
theorem dX6_init_40 : decode cX6_init 40 = .ok (.aload_n 0, 1) := by decide +kernel
theorem dX6_init_41 : decode cX6_init 41 = .ok (.iconst 0, 1) := by decide +kernel
theorem dX6_init_42 : decode cX6_init 42 = .ok (.putfield 22, 3) := by decide +kernel
theorem dX6_init_45 : decode cX6_init 45 = .ok (.aload_n 0, 1) := by decide +kernel
theorem dX6_init_46 : decode cX6_init 46 = .ok (.iconst (-1), 1) := by decide +kernel
theorem dX6_init_47 : decode cX6_init 47 = .ok (.putfield 26, 3) := by decide +kernel
theorem dX6_init_50 : decode cX6_init 50 = .ok (.aload_n 0, 1) := by decide +kernel
theorem dX6_init_51 : decode cX6_init 51 = .ok (.iconst 1, 1) := by decide +kernel
theorem dX6_init_52 : decode cX6_init 52 = .ok (.putfield 29, 3) := by decide +kernel
theorem dX6_init_55 : decode cX6_init 55 = .ok (.aload_n 0, 1) := by decide +kernel
theorem dX6_init_56 : decode cX6_init 56 = .ok (.aload_n 1, 1) := by decide +kernel
theorem dX6_init_57 : decode cX6_init 57 = .ok (.putfield 33, 3) := by decide +kernel
theorem dX6_init_60 : decode cX6_init 60 = .ok (.aload_n 0, 1) := by decide +kernel
theorem dX6_init_61 : decode cX6_init 61 = .ok (.aload_n 2, 1) := by decide +kernel
theorem dX6_init_62 : decode cX6_init 62 = .ok (.putfield 37, 3) := by decide +kernel
theorem dX6_init_65 : decode cX6_init 65 = .ok (.aload_n 0, 1) := by decide +kernel
theorem dX6_init_66 : decode cX6_init 66 = .ok (.aload_n 3, 1) := by decide +kernel
theorem dX6_init_67 : decode cX6_init 67 = .ok (.putfield 40, 3) := by decide +kernel
theorem dX6_init_70 : decode cX6_init 70 = .ok (.return_, 1) := by decide +kernel
theorem dX6_read_0 : decode cX6_read 0 = .ok (.aload_n 0, 1) := by decide +kernel
theorem dX6_read_1 : decode cX6_read 1 = .ok (.iconst 0, 1) := by decide +kernel
theorem dX6_read_2 : decode cX6_read 2 = .ok (.putfield 22, 3) := by decide +kernel
theorem dX6_read_5 : decode cX6_read 5 = .ok (.aload_n 0, 1) := by decide +kernel
theorem dX6_read_6 : decode cX6_read 6 = .ok (.iconst (-1), 1) := by decide +kernel
theorem dX6_read_7 : decode cX6_read 7 = .ok (.putfield 26, 3) := by decide +kernel
theorem dX6_read_10 : decode cX6_read 10 = .ok (.aload_n 0, 1) := by decide +kernel
theorem dX6_read_11 : decode cX6_read 11 = .ok (.iconst 1, 1) := by decide +kernel
theorem dX6_read_12 : decode cX6_read 12 = .ok (.putfield 29, 3) := by decide +kernel
theorem dX6_read_15 : decode cX6_read 15 = .ok (.aload_n 0, 1) := by decide +kernel
theorem dX6_read_16 : decode cX6_read 16 = .ok (.iconst 0, 1) := by decide +kernel
theorem dX6_read_17 : decode cX6_read 17 = .ok (.invokevirtual 44, 3) := by decide +kernel
theorem dX6_read_20 : decode cX6_read 20 = .ok (.aload_n 0, 1) := by decide +kernel
theorem dX6_read_21 : decode cX6_read 21 = .ok (.getfield 26, 3) := by decide +kernel
theorem dX6_read_24 : decode cX6_read 24 = .ok (.iconst (-1), 1) := by decide +kernel
theorem dX6_read_25 : decode cX6_read 25 = .ok (.if_icmp .ne 19, 3) := by decide +kernel
theorem dX6_read_28 : decode cX6_read 28 = .ok (.aload_n 0, 1) := by decide +kernel
theorem dX6_read_29 : decode cX6_read 29 = .ok (.invokevirtual 48, 3) := by decide +kernel
theorem dX6_read_32 : decode cX6_read 32 = .ok (.iconst (-1), 1) := by decide +kernel
theorem dX6_read_33 : decode cX6_read 33 = .ok (.if_icmp .eq 11, 3) := by decide +kernel
theorem dX6_read_36 : decode cX6_read 36 = .ok (.aload_n 0, 1) := by decide +kernel
theorem dX6_read_37 : decode cX6_read 37 = .ok (.aload_n 0, 1) := by decide +kernel
theorem dX6_read_38 : decode cX6_read 38 = .ok (.getfield 22, 3) := by decide +kernel
theorem dX6_read_41 : decode cX6_read 41 = .ok (.putfield 26, 3) := by decide +kernel
theorem dX6_read_44 : decode cX6_read 44 = .ok (.aload_n 0, 1) := by decide +kernel
theorem dX6_read_45 : decode cX6_read 45 = .ok (.getfield 26, 3) := by decide +kernel
theorem dX6_read_48 : decode cX6_read 48 = .ok (.ireturn, 1) := by decide +kernel
theorem dX6_layResult_0 : decode cX6_layResult 0 = .ok (.aload_n 0, 1) := by decide +kernel
theorem dX6_layResult_1 : decode cX6_layResult 1 = .ok (.getfield 29, 3) := by decide +kernel
theorem dX6_layResult_4 : decode cX6_layResult 4 = .ok (.ifCond .eq 13, 3) := by decide +kernel
theorem dX6_layResult_7 : decode cX6_layResult 7 = .ok (.aload_n 1, 1) := by decide +kernel
theorem dX6_layResult_8 : decode cX6_layResult 8 = .ok (.aload_n 0, 1) := by decide +kernel
theorem dX6_layResult_9 : decode cX6_layResult 9 = .ok (.getfield 13, 3) := by decide +kernel
theorem dX6_layResult_12 : decode cX6_layResult 12 = .ok (.iconst 0, 1) := by decide +kernel
theorem dX6_layResult_13 : decode cX6_layResult 13 = .ok (.aaload, 1) := by decide +kernel
theorem dX6_layResult_14 : decode cX6_layResult 14 = .ok (.invokestatic 52, 3) := by decide +kernel
theorem dX6_layResult_17 : decode cX6_layResult 17 = .ok (.aload_n 0, 1) := by decide +kernel
theorem dX6_layResult_18 : decode cX6_layResult 18 = .ok (.getfield 29, 3) := by decide +kernel
theorem dX6_layResult_21 : decode cX6_layResult 21 = .ok (.ireturn, 1) := by decide +kernel
theorem dX6_ahead_0 : decode cX6_ahead 0 = .ok (.aload_n 0, 1) := by decide +kernel
theorem dX6_ahead_1 : decode cX6_ahead 1 = .ok (.getfield 22, 3) := by decide +kernel
theorem dX6_ahead_4 : decode cX6_ahead 4 = .ok (.aload_n 0, 1) := by decide +kernel
theorem dX6_ahead_5 : decode cX6_ahead 5 = .ok (.getfield 33, 3) := by decide +kernel
theorem dX6_ahead_8 : decode cX6_ahead 8 = .ok (.getfield 58, 3) := by decide +kernel
theorem dX6_ahead_11 : decode cX6_ahead 11 = .ok (.if_icmp .ge 32, 3) := by decide +kernel
theorem dX6_ahead_14 : decode cX6_ahead 14 = .ok (.aload_n 0, 1) := by decide +kernel
theorem dX6_ahead_15 : decode cX6_ahead 15 = .ok (.getfield 33, 3) := by decide +kernel
theorem dX6_ahead_18 : decode cX6_ahead 18 = .ok (.aload_n 0, 1) := by decide +kernel
theorem dX6_ahead_19 : decode cX6_ahead 19 = .ok (.getfield 22, 3) := by decide +kernel
theorem dX6_ahead_22 : decode cX6_ahead 22 = .ok (.invokevirtual 63, 3) := by decide +kernel
theorem dX6_ahead_25 : decode cX6_ahead 25 = .ok (.bipush 32, 2) := by decide +kernel
theorem dX6_ahead_27 : decode cX6_ahead 27 = .ok (.if_icmp .ne 16, 3) := by decide +kernel
theorem dX6_ahead_30 : decode cX6_ahead 30 = .ok (.aload_n 0, 1) := by decide +kernel
theorem dX6_ahead_31 : decode cX6_ahead 31 = .ok (.dup, 1) := by decide +kernel
theorem dX6_ahead_32 : decode cX6_ahead 32 = .ok (.getfield 22, 3) := by decide +kernel
theorem dX6_ahead_35 : decode cX6_ahead 35 = .ok (.iconst 1, 1) := by decide +kernel
theorem dX6_ahead_36 : decode cX6_ahead 36 = .ok (.iadd, 1) := by decide +kernel
theorem dX6_ahead_37 : decode cX6_ahead 37 = .ok (.putfield 22, 3) := by decide +kernel
theorem dX6_ahead_40 : decode cX6_ahead 40 = .ok (.goto (-40), 3) := by decide +kernel
theorem dX6_ahead_43 : decode cX6_ahead 43 = .ok (.aload_n 0, 1) := by decide +kernel
theorem dX6_ahead_44 : decode cX6_ahead 44 = .ok (.getfield 33, 3) := by decide +kernel
theorem dX6_ahead_47 : decode cX6_ahead 47 = .ok (.aload_n 0, 1) := by decide +kernel
theorem dX6_ahead_48 : decode cX6_ahead 48 = .ok (.getfield 22, 3) := by decide +kernel
theorem dX6_ahead_51 : decode cX6_ahead 51 = .ok (.invokevirtual 63, 3) := by decide +kernel
theorem dX6_ahead_54 : decode cX6_ahead 54 = .ok (.ireturn, 1) := by decide +kernel
theorem dX6_readSum_0 : decode cX6_readSum 0 = .ok (.aload_n 0, 1) := by decide +kernel
theorem dX6_readSum_1 : decode cX6_readSum 1 = .ok (.iload_n 1, 1) := by decide +kernel
theorem dX6_readSum_2 : decode cX6_readSum 2 = .ok (.invokevirtual 67, 3) := by decide +kernel
theorem dX6_readSum_5 : decode cX6_readSum 5 = .ok (.aload_n 0, 1) := by decide +kernel
theorem dX6_readSum_6 : decode cX6_readSum 6 = .ok (.getfield 13, 3) := by decide +kernel
theorem dX6_readSum_9 : decode cX6_readSum 9 = .ok (.iload_n 1, 1) := by decide +kernel
theorem dX6_readSum_10 : decode cX6_readSum 10 = .ok (.aaload, 1) := by decide +kernel
theorem dX6_readSum_11 : decode cX6_readSum 11 = .ok (.aload_n 0, 1) := by decide +kernel
theorem dX6_readSum_12 : decode cX6_readSum 12 = .ok (.getfield 16, 3) := by decide +kernel
theorem dX6_readSum_15 : decode cX6_readSum 15 = .ok (.iload_n 1, 1) := by decide +kernel
theorem dX6_readSum_16 : decode cX6_readSum 16 = .ok (.aaload, 1) := by decide +kernel
theorem dX6_readSum_17 : decode cX6_readSum 17 = .ok (.invokestatic 52, 3) := by decide +kernel
theorem dX6_readSum_20 : decode cX6_readSum 20 = .ok (.iconst 0, 1) := by decide +kernel
theorem dX6_readSum_21 : decode cX6_readSum 21 = .ok (.istore_n 2, 1) := by decide +kernel
theorem dX6_readSum_22 : decode cX6_readSum 22 = .ok (.iload_n 2, 1) := by decide +kernel
theorem dX6_readSum_23 : decode cX6_readSum 23 = .ok (.aload_n 0, 1) := by decide +kernel
theorem dX6_readSum_24 : decode cX6_readSum 24 = .ok (.getfield 33, 3) := by decide +kernel
theorem dX6_readSum_27 : decode cX6_readSum 27 = .ok (.getfield 58, 3) := by decide +kernel
theorem dX6_readSum_30 : decode cX6_readSum 30 = .ok (.if_icmp .ge 90, 3) := by decide +kernel
theorem dX6_readSum_33 : decode cX6_readSum 33 = .ok (.aload_n 0, 1) := by decide +kernel
theorem dX6_readSum_34 : decode cX6_readSum 34 = .ok (.getfield 26, 3) := by decide +kernel
theorem dX6_readSum_37 : decode cX6_readSum 37 = .ok (.iconst (-1), 1) := by decide +kernel
theorem dX6_readSum_38 : decode cX6_readSum 38 = .ok (.if_icmp .ne 82, 3) := by decide +kernel
theorem dX6_readSum_41 : decode cX6_readSum 41 = .ok (.aload_n 0, 1) := by decide +kernel
theorem dX6_readSum_42 : decode cX6_readSum 42 = .ok (.invokevirtual 48, 3) := by decide +kernel
theorem dX6_readSum_45 : decode cX6_readSum 45 = .ok (.istore_n 3, 1) := by decide +kernel
theorem dX6_readSum_46 : decode cX6_readSum 46 = .ok (.iload_n 3, 1) := by decide +kernel
theorem dX6_readSum_47 : decode cX6_readSum 47 = .ok (.bipush 43, 2) := by decide +kernel
theorem dX6_readSum_49 : decode cX6_readSum 49 = .ok (.if_icmp .eq 10, 3) := by decide +kernel
theorem dX6_readSum_52 : decode cX6_readSum 52 = .ok (.iload_n 3, 1) := by decide +kernel
theorem dX6_readSum_53 : decode cX6_readSum 53 = .ok (.bipush 45, 2) := by decide +kernel
theorem dX6_readSum_55 : decode cX6_readSum 55 = .ok (.if_icmp .eq 4, 3) := by decide +kernel
theorem dX6_readSum_58 : decode cX6_readSum 58 = .ok (.return_, 1) := by decide +kernel
theorem dX6_readSum_59 : decode cX6_readSum 59 = .ok (.aload_n 0, 1) := by decide +kernel
theorem dX6_readSum_60 : decode cX6_readSum 60 = .ok (.dup, 1) := by decide +kernel
theorem dX6_readSum_61 : decode cX6_readSum 61 = .ok (.getfield 22, 3) := by decide +kernel
theorem dX6_readSum_64 : decode cX6_readSum 64 = .ok (.iconst 1, 1) := by decide +kernel
theorem dX6_readSum_65 : decode cX6_readSum 65 = .ok (.iadd, 1) := by decide +kernel
theorem dX6_readSum_66 : decode cX6_readSum 66 = .ok (.putfield 22, 3) := by decide +kernel
theorem dX6_readSum_69 : decode cX6_readSum 69 = .ok (.aload_n 0, 1) := by decide +kernel
theorem dX6_readSum_70 : decode cX6_readSum 70 = .ok (.iload_n 1, 1) := by decide +kernel
theorem dX6_readSum_71 : decode cX6_readSum 71 = .ok (.invokevirtual 67, 3) := by decide +kernel
theorem dX6_readSum_74 : decode cX6_readSum 74 = .ok (.aload_n 0, 1) := by decide +kernel
theorem dX6_readSum_75 : decode cX6_readSum 75 = .ok (.aload_n 0, 1) := by decide +kernel
theorem dX6_readSum_76 : decode cX6_readSum 76 = .ok (.getfield 40, 3) := by decide +kernel
theorem dX6_readSum_79 : decode cX6_readSum 79 = .ok (.aload_n 0, 1) := by decide +kernel
theorem dX6_readSum_80 : decode cX6_readSum 80 = .ok (.getfield 13, 3) := by decide +kernel
theorem dX6_readSum_83 : decode cX6_readSum 83 = .ok (.iload_n 1, 1) := by decide +kernel
theorem dX6_readSum_84 : decode cX6_readSum 84 = .ok (.aaload, 1) := by decide +kernel
theorem dX6_readSum_85 : decode cX6_readSum 85 = .ok (.aload_n 0, 1) := by decide +kernel
theorem dX6_readSum_86 : decode cX6_readSum 86 = .ok (.getfield 13, 3) := by decide +kernel
theorem dX6_readSum_89 : decode cX6_readSum 89 = .ok (.iload_n 1, 1) := by decide +kernel
theorem dX6_readSum_90 : decode cX6_readSum 90 = .ok (.aaload, 1) := by decide +kernel
theorem dX6_readSum_91 : decode cX6_readSum 91 = .ok (.aload_n 0, 1) := by decide +kernel
theorem dX6_readSum_92 : decode cX6_readSum 92 = .ok (.getfield 16, 3) := by decide +kernel
theorem dX6_readSum_95 : decode cX6_readSum 95 = .ok (.iload_n 1, 1) := by decide +kernel
theorem dX6_readSum_96 : decode cX6_readSum 96 = .ok (.aaload, 1) := by decide +kernel
theorem dX6_readSum_97 : decode cX6_readSum 97 = .ok (.iload_n 3, 1) := by decide +kernel
theorem dX6_readSum_98 : decode cX6_readSum 98 = .ok (.bipush 43, 2) := by decide +kernel
theorem dX6_readSum_100 : decode cX6_readSum 100 = .ok (.if_icmp .ne 7, 3) := by decide +kernel
theorem dX6_readSum_103 : decode cX6_readSum 103 = .ok (.iconst 1, 1) := by decide +kernel
theorem dX6_readSum_104 : decode cX6_readSum 104 = .ok (.goto 4, 3) := by decide +kernel
theorem dX6_readSum_107 : decode cX6_readSum 107 = .ok (.iconst (-1), 1) := by decide +kernel
theorem dX6_readSum_108 : decode cX6_readSum 108 = .ok (.invokevirtual 70, 3) := by decide +kernel
theorem dX6_readSum_111 : decode cX6_readSum 111 = .ok (.invokevirtual 76, 3) := by decide +kernel
theorem dX6_readSum_114 : decode cX6_readSum 114 = .ok (.iinc 2 1, 3) := by decide +kernel
theorem dX6_readSum_117 : decode cX6_readSum 117 = .ok (.goto (-95), 3) := by decide +kernel
theorem dX6_readSum_120 : decode cX6_readSum 120 = .ok (.return_, 1) := by decide +kernel
theorem dX6_readTerm_0 : decode cX6_readTerm 0 = .ok (.aload_n 0, 1) := by decide +kernel
theorem dX6_readTerm_1 : decode cX6_readTerm 1 = .ok (.iload_n 1, 1) := by decide +kernel
theorem dX6_readTerm_2 : decode cX6_readTerm 2 = .ok (.invokevirtual 80, 3) := by decide +kernel
theorem dX6_readTerm_5 : decode cX6_readTerm 5 = .ok (.aload_n 0, 1) := by decide +kernel
theorem dX6_readTerm_6 : decode cX6_readTerm 6 = .ok (.getfield 16, 3) := by decide +kernel
theorem dX6_readTerm_9 : decode cX6_readTerm 9 = .ok (.iload_n 1, 1) := by decide +kernel
theorem dX6_readTerm_10 : decode cX6_readTerm 10 = .ok (.aaload, 1) := by decide +kernel
theorem dX6_readTerm_11 : decode cX6_readTerm 11 = .ok (.aload_n 0, 1) := by decide +kernel
theorem dX6_readTerm_12 : decode cX6_readTerm 12 = .ok (.getfield 19, 3) := by decide +kernel
theorem dX6_readTerm_15 : decode cX6_readTerm 15 = .ok (.iload_n 1, 1) := by decide +kernel
theorem dX6_readTerm_16 : decode cX6_readTerm 16 = .ok (.aaload, 1) := by decide +kernel
theorem dX6_readTerm_17 : decode cX6_readTerm 17 = .ok (.invokestatic 52, 3) := by decide +kernel
theorem dX6_readTerm_20 : decode cX6_readTerm 20 = .ok (.iconst 0, 1) := by decide +kernel
theorem dX6_readTerm_21 : decode cX6_readTerm 21 = .ok (.istore_n 2, 1) := by decide +kernel
theorem dX6_readTerm_22 : decode cX6_readTerm 22 = .ok (.iload_n 2, 1) := by decide +kernel
theorem dX6_readTerm_23 : decode cX6_readTerm 23 = .ok (.aload_n 0, 1) := by decide +kernel
theorem dX6_readTerm_24 : decode cX6_readTerm 24 = .ok (.getfield 33, 3) := by decide +kernel
theorem dX6_readTerm_27 : decode cX6_readTerm 27 = .ok (.getfield 58, 3) := by decide +kernel
theorem dX6_readTerm_30 : decode cX6_readTerm 30 = .ok (.if_icmp .ge 71, 3) := by decide +kernel
theorem dX6_readTerm_33 : decode cX6_readTerm 33 = .ok (.aload_n 0, 1) := by decide +kernel
theorem dX6_readTerm_34 : decode cX6_readTerm 34 = .ok (.getfield 26, 3) := by decide +kernel
theorem dX6_readTerm_37 : decode cX6_readTerm 37 = .ok (.iconst (-1), 1) := by decide +kernel
theorem dX6_readTerm_38 : decode cX6_readTerm 38 = .ok (.if_icmp .ne 63, 3) := by decide +kernel
theorem dX6_readTerm_41 : decode cX6_readTerm 41 = .ok (.aload_n 0, 1) := by decide +kernel
theorem dX6_readTerm_42 : decode cX6_readTerm 42 = .ok (.invokevirtual 48, 3) := by decide +kernel
theorem dX6_readTerm_45 : decode cX6_readTerm 45 = .ok (.bipush 42, 2) := by decide +kernel
theorem dX6_readTerm_47 : decode cX6_readTerm 47 = .ok (.if_icmp .eq 4, 3) := by decide +kernel
theorem dX6_readTerm_50 : decode cX6_readTerm 50 = .ok (.return_, 1) := by decide +kernel
theorem dX6_readTerm_51 : decode cX6_readTerm 51 = .ok (.aload_n 0, 1) := by decide +kernel
theorem dX6_readTerm_52 : decode cX6_readTerm 52 = .ok (.dup, 1) := by decide +kernel
theorem dX6_readTerm_53 : decode cX6_readTerm 53 = .ok (.getfield 22, 3) := by decide +kernel
theorem dX6_readTerm_56 : decode cX6_readTerm 56 = .ok (.iconst 1, 1) := by decide +kernel
theorem dX6_readTerm_57 : decode cX6_readTerm 57 = .ok (.iadd, 1) := by decide +kernel
theorem dX6_readTerm_58 : decode cX6_readTerm 58 = .ok (.putfield 22, 3) := by decide +kernel
theorem dX6_readTerm_61 : decode cX6_readTerm 61 = .ok (.aload_n 0, 1) := by decide +kernel
theorem dX6_readTerm_62 : decode cX6_readTerm 62 = .ok (.iload_n 1, 1) := by decide +kernel
theorem dX6_readTerm_63 : decode cX6_readTerm 63 = .ok (.invokevirtual 80, 3) := by decide +kernel
theorem dX6_readTerm_66 : decode cX6_readTerm 66 = .ok (.aload_n 0, 1) := by decide +kernel
theorem dX6_readTerm_67 : decode cX6_readTerm 67 = .ok (.aload_n 0, 1) := by decide +kernel
theorem dX6_readTerm_68 : decode cX6_readTerm 68 = .ok (.getfield 40, 3) := by decide +kernel
theorem dX6_readTerm_71 : decode cX6_readTerm 71 = .ok (.aload_n 0, 1) := by decide +kernel
theorem dX6_readTerm_72 : decode cX6_readTerm 72 = .ok (.getfield 16, 3) := by decide +kernel
theorem dX6_readTerm_75 : decode cX6_readTerm 75 = .ok (.iload_n 1, 1) := by decide +kernel
theorem dX6_readTerm_76 : decode cX6_readTerm 76 = .ok (.aaload, 1) := by decide +kernel
theorem dX6_readTerm_77 : decode cX6_readTerm 77 = .ok (.aload_n 0, 1) := by decide +kernel
theorem dX6_readTerm_78 : decode cX6_readTerm 78 = .ok (.getfield 16, 3) := by decide +kernel
theorem dX6_readTerm_81 : decode cX6_readTerm 81 = .ok (.iload_n 1, 1) := by decide +kernel
theorem dX6_readTerm_82 : decode cX6_readTerm 82 = .ok (.aaload, 1) := by decide +kernel
theorem dX6_readTerm_83 : decode cX6_readTerm 83 = .ok (.aload_n 0, 1) := by decide +kernel
theorem dX6_readTerm_84 : decode cX6_readTerm 84 = .ok (.getfield 19, 3) := by decide +kernel
theorem dX6_readTerm_87 : decode cX6_readTerm 87 = .ok (.iload_n 1, 1) := by decide +kernel
theorem dX6_readTerm_88 : decode cX6_readTerm 88 = .ok (.aaload, 1) := by decide +kernel
theorem dX6_readTerm_89 : decode cX6_readTerm 89 = .ok (.invokevirtual 83, 3) := by decide +kernel
theorem dX6_readTerm_92 : decode cX6_readTerm 92 = .ok (.invokevirtual 76, 3) := by decide +kernel
theorem dX6_readTerm_95 : decode cX6_readTerm 95 = .ok (.iinc 2 1, 3) := by decide +kernel
theorem dX6_readTerm_98 : decode cX6_readTerm 98 = .ok (.goto (-76), 3) := by decide +kernel
theorem dX6_readTerm_101 : decode cX6_readTerm 101 = .ok (.return_, 1) := by decide +kernel
theorem dX6_note_0 : decode cX6_note 0 = .ok (.aload_n 0, 1) := by decide +kernel
theorem dX6_note_1 : decode cX6_note 1 = .ok (.aload_n 0, 1) := by decide +kernel
theorem dX6_note_2 : decode cX6_note 2 = .ok (.getfield 29, 3) := by decide +kernel
theorem dX6_note_5 : decode cX6_note 5 = .ok (.ifCond .eq 11, 3) := by decide +kernel
theorem dX6_note_8 : decode cX6_note 8 = .ok (.iload_n 1, 1) := by decide +kernel
theorem dX6_note_9 : decode cX6_note 9 = .ok (.ifCond .eq 7, 3) := by decide +kernel
theorem dX6_note_12 : decode cX6_note 12 = .ok (.iconst 1, 1) := by decide +kernel
theorem dX6_note_13 : decode cX6_note 13 = .ok (.goto 4, 3) := by decide +kernel
theorem dX6_note_16 : decode cX6_note 16 = .ok (.iconst 0, 1) := by decide +kernel
theorem dX6_note_17 : decode cX6_note 17 = .ok (.putfield 29, 3) := by decide +kernel
theorem dX6_note_20 : decode cX6_note 20 = .ok (.return_, 1) := by decide +kernel
theorem dX6_readFactor_0 : decode cX6_readFactor 0 = .ok (.aload_n 0, 1) := by decide +kernel
theorem dX6_readFactor_1 : decode cX6_readFactor 1 = .ok (.invokevirtual 48, 3) := by decide +kernel
theorem dX6_readFactor_4 : decode cX6_readFactor 4 = .ok (.istore_n 2, 1) := by decide +kernel
theorem dX6_readFactor_5 : decode cX6_readFactor 5 = .ok (.iload_n 2, 1) := by decide +kernel
theorem dX6_readFactor_6 : decode cX6_readFactor 6 = .ok (.bipush 97, 2) := by decide +kernel
theorem dX6_readFactor_8 : decode cX6_readFactor 8 = .ok (.if_icmp .lt 40, 3) := by decide +kernel
theorem dX6_readFactor_11 : decode cX6_readFactor 11 = .ok (.iload_n 2, 1) := by decide +kernel
theorem dX6_readFactor_12 : decode cX6_readFactor 12 = .ok (.bipush 104, 2) := by decide +kernel
theorem dX6_readFactor_14 : decode cX6_readFactor 14 = .ok (.if_icmp .gt 34, 3) := by decide +kernel
theorem dX6_readFactor_17 : decode cX6_readFactor 17 = .ok (.aload_n 0, 1) := by decide +kernel
theorem dX6_readFactor_18 : decode cX6_readFactor 18 = .ok (.getfield 19, 3) := by decide +kernel
theorem dX6_readFactor_21 : decode cX6_readFactor 21 = .ok (.iload_n 1, 1) := by decide +kernel
theorem dX6_readFactor_22 : decode cX6_readFactor 22 = .ok (.aaload, 1) := by decide +kernel
theorem dX6_readFactor_23 : decode cX6_readFactor 23 = .ok (.aload_n 0, 1) := by decide +kernel
theorem dX6_readFactor_24 : decode cX6_readFactor 24 = .ok (.getfield 37, 3) := by decide +kernel
theorem dX6_readFactor_27 : decode cX6_readFactor 27 = .ok (.iload_n 2, 1) := by decide +kernel
theorem dX6_readFactor_28 : decode cX6_readFactor 28 = .ok (.bipush 97, 2) := by decide +kernel
theorem dX6_readFactor_30 : decode cX6_readFactor 30 = .ok (.isub, 1) := by decide +kernel
theorem dX6_readFactor_31 : decode cX6_readFactor 31 = .ok (.aaload, 1) := by decide +kernel
theorem dX6_readFactor_32 : decode cX6_readFactor 32 = .ok (.invokestatic 52, 3) := by decide +kernel
theorem dX6_readFactor_35 : decode cX6_readFactor 35 = .ok (.aload_n 0, 1) := by decide +kernel
theorem dX6_readFactor_36 : decode cX6_readFactor 36 = .ok (.dup, 1) := by decide +kernel
theorem dX6_readFactor_37 : decode cX6_readFactor 37 = .ok (.getfield 22, 3) := by decide +kernel
theorem dX6_readFactor_40 : decode cX6_readFactor 40 = .ok (.iconst 1, 1) := by decide +kernel
theorem dX6_readFactor_41 : decode cX6_readFactor 41 = .ok (.iadd, 1) := by decide +kernel
theorem dX6_readFactor_42 : decode cX6_readFactor 42 = .ok (.putfield 22, 3) := by decide +kernel
theorem dX6_readFactor_45 : decode cX6_readFactor 45 = .ok (.goto 65, 3) := by decide +kernel
theorem dX6_readFactor_48 : decode cX6_readFactor 48 = .ok (.iload_n 2, 1) := by decide +kernel
theorem dX6_readFactor_49 : decode cX6_readFactor 49 = .ok (.invokestatic 87, 3) := by decide +kernel
theorem dX6_readFactor_52 : decode cX6_readFactor 52 = .ok (.ifCond .eq 11, 3) := by decide +kernel
theorem dX6_readFactor_55 : decode cX6_readFactor 55 = .ok (.aload_n 0, 1) := by decide +kernel
theorem dX6_readFactor_56 : decode cX6_readFactor 56 = .ok (.iload_n 1, 1) := by decide +kernel
theorem dX6_readFactor_57 : decode cX6_readFactor 57 = .ok (.invokevirtual 91, 3) := by decide +kernel
theorem dX6_readFactor_60 : decode cX6_readFactor 60 = .ok (.goto 50, 3) := by decide +kernel
theorem dX6_readFactor_63 : decode cX6_readFactor 63 = .ok (.iload_n 2, 1) := by decide +kernel
theorem dX6_readFactor_64 : decode cX6_readFactor 64 = .ok (.bipush 126, 2) := by decide +kernel
theorem dX6_readFactor_66 : decode cX6_readFactor 66 = .ok (.if_icmp .eq 9, 3) := by decide +kernel
theorem dX6_readFactor_69 : decode cX6_readFactor 69 = .ok (.iload_n 2, 1) := by decide +kernel
theorem dX6_readFactor_70 : decode cX6_readFactor 70 = .ok (.bipush 40, 2) := by decide +kernel
theorem dX6_readFactor_72 : decode cX6_readFactor 72 = .ok (.if_icmp .ne 30, 3) := by decide +kernel
theorem dX6_readFactor_75 : decode cX6_readFactor 75 = .ok (.iload_n 1, 1) := by decide +kernel
theorem dX6_readFactor_76 : decode cX6_readFactor 76 = .ok (.bipush 12, 2) := by decide +kernel
theorem dX6_readFactor_78 : decode cX6_readFactor 78 = .ok (.if_icmp .ge 24, 3) := by decide +kernel
theorem dX6_readFactor_81 : decode cX6_readFactor 81 = .ok (.aload_n 0, 1) := by decide +kernel
theorem dX6_readFactor_82 : decode cX6_readFactor 82 = .ok (.dup, 1) := by decide +kernel
theorem dX6_readFactor_83 : decode cX6_readFactor 83 = .ok (.getfield 22, 3) := by decide +kernel
theorem dX6_readFactor_86 : decode cX6_readFactor 86 = .ok (.iconst 1, 1) := by decide +kernel
theorem dX6_readFactor_87 : decode cX6_readFactor 87 = .ok (.iadd, 1) := by decide +kernel
theorem dX6_readFactor_88 : decode cX6_readFactor 88 = .ok (.putfield 22, 3) := by decide +kernel
theorem dX6_readFactor_91 : decode cX6_readFactor 91 = .ok (.aload_n 0, 1) := by decide +kernel
theorem dX6_readFactor_92 : decode cX6_readFactor 92 = .ok (.iload_n 1, 1) := by decide +kernel
theorem dX6_readFactor_93 : decode cX6_readFactor 93 = .ok (.iconst 1, 1) := by decide +kernel
theorem dX6_readFactor_94 : decode cX6_readFactor 94 = .ok (.iadd, 1) := by decide +kernel
theorem dX6_readFactor_95 : decode cX6_readFactor 95 = .ok (.iload_n 2, 1) := by decide +kernel
theorem dX6_readFactor_96 : decode cX6_readFactor 96 = .ok (.invokevirtual 94, 3) := by decide +kernel
theorem dX6_readFactor_99 : decode cX6_readFactor 99 = .ok (.goto 11, 3) := by decide +kernel
theorem dX6_readFactor_102 : decode cX6_readFactor 102 = .ok (.aload_n 0, 1) := by decide +kernel
theorem dX6_readFactor_103 : decode cX6_readFactor 103 = .ok (.aload_n 0, 1) := by decide +kernel
theorem dX6_readFactor_104 : decode cX6_readFactor 104 = .ok (.getfield 22, 3) := by decide +kernel
theorem dX6_readFactor_107 : decode cX6_readFactor 107 = .ok (.putfield 26, 3) := by decide +kernel
theorem dX6_readFactor_110 : decode cX6_readFactor 110 = .ok (.return_, 1) := by decide +kernel
theorem dX6_readNested_0 : decode cX6_readNested 0 = .ok (.iload_n 2, 1) := by decide +kernel
theorem dX6_readNested_1 : decode cX6_readNested 1 = .ok (.bipush 126, 2) := by decide +kernel
theorem dX6_readNested_3 : decode cX6_readNested 3 = .ok (.if_icmp .ne 26, 3) := by decide +kernel
theorem dX6_readNested_6 : decode cX6_readNested 6 = .ok (.aload_n 0, 1) := by decide +kernel
theorem dX6_readNested_7 : decode cX6_readNested 7 = .ok (.iload_n 1, 1) := by decide +kernel
theorem dX6_readNested_8 : decode cX6_readNested 8 = .ok (.invokevirtual 80, 3) := by decide +kernel
theorem dX6_readNested_11 : decode cX6_readNested 11 = .ok (.aload_n 0, 1) := by decide +kernel
theorem dX6_readNested_12 : decode cX6_readNested 12 = .ok (.getfield 19, 3) := by decide +kernel
theorem dX6_readNested_15 : decode cX6_readNested 15 = .ok (.iload_n 1, 1) := by decide +kernel
theorem dX6_readNested_16 : decode cX6_readNested 16 = .ok (.iconst 1, 1) := by decide +kernel
theorem dX6_readNested_17 : decode cX6_readNested 17 = .ok (.isub, 1) := by decide +kernel
theorem dX6_readNested_18 : decode cX6_readNested 18 = .ok (.aaload, 1) := by decide +kernel
theorem dX6_readNested_19 : decode cX6_readNested 19 = .ok (.aload_n 0, 1) := by decide +kernel
theorem dX6_readNested_20 : decode cX6_readNested 20 = .ok (.getfield 19, 3) := by decide +kernel
theorem dX6_readNested_23 : decode cX6_readNested 23 = .ok (.iload_n 1, 1) := by decide +kernel
theorem dX6_readNested_24 : decode cX6_readNested 24 = .ok (.aaload, 1) := by decide +kernel
theorem dX6_readNested_25 : decode cX6_readNested 25 = .ok (.invokestatic 98, 3) := by decide +kernel
theorem dX6_readNested_28 : decode cX6_readNested 28 = .ok (.return_, 1) := by decide +kernel
theorem dX6_readNested_29 : decode cX6_readNested 29 = .ok (.aload_n 0, 1) := by decide +kernel
theorem dX6_readNested_30 : decode cX6_readNested 30 = .ok (.iload_n 1, 1) := by decide +kernel
theorem dX6_readNested_31 : decode cX6_readNested 31 = .ok (.invokevirtual 44, 3) := by decide +kernel
theorem dX6_readNested_34 : decode cX6_readNested 34 = .ok (.aload_n 0, 1) := by decide +kernel
theorem dX6_readNested_35 : decode cX6_readNested 35 = .ok (.getfield 19, 3) := by decide +kernel
theorem dX6_readNested_38 : decode cX6_readNested 38 = .ok (.iload_n 1, 1) := by decide +kernel
theorem dX6_readNested_39 : decode cX6_readNested 39 = .ok (.iconst 1, 1) := by decide +kernel
theorem dX6_readNested_40 : decode cX6_readNested 40 = .ok (.isub, 1) := by decide +kernel
theorem dX6_readNested_41 : decode cX6_readNested 41 = .ok (.aaload, 1) := by decide +kernel
theorem dX6_readNested_42 : decode cX6_readNested 42 = .ok (.aload_n 0, 1) := by decide +kernel
theorem dX6_readNested_43 : decode cX6_readNested 43 = .ok (.getfield 13, 3) := by decide +kernel
theorem dX6_readNested_46 : decode cX6_readNested 46 = .ok (.iload_n 1, 1) := by decide +kernel
theorem dX6_readNested_47 : decode cX6_readNested 47 = .ok (.aaload, 1) := by decide +kernel
theorem dX6_readNested_48 : decode cX6_readNested 48 = .ok (.invokestatic 52, 3) := by decide +kernel
theorem dX6_readNested_51 : decode cX6_readNested 51 = .ok (.aload_n 0, 1) := by decide +kernel
theorem dX6_readNested_52 : decode cX6_readNested 52 = .ok (.getfield 26, 3) := by decide +kernel
theorem dX6_readNested_55 : decode cX6_readNested 55 = .ok (.iconst (-1), 1) := by decide +kernel
theorem dX6_readNested_56 : decode cX6_readNested 56 = .ok (.if_icmp .eq 4, 3) := by decide +kernel
theorem dX6_readNested_59 : decode cX6_readNested 59 = .ok (.return_, 1) := by decide +kernel
theorem dX6_readNested_60 : decode cX6_readNested 60 = .ok (.aload_n 0, 1) := by decide +kernel
theorem dX6_readNested_61 : decode cX6_readNested 61 = .ok (.invokevirtual 48, 3) := by decide +kernel
theorem dX6_readNested_64 : decode cX6_readNested 64 = .ok (.bipush 41, 2) := by decide +kernel
theorem dX6_readNested_66 : decode cX6_readNested 66 = .ok (.if_icmp .eq 12, 3) := by decide +kernel
theorem dX6_readNested_69 : decode cX6_readNested 69 = .ok (.aload_n 0, 1) := by decide +kernel
theorem dX6_readNested_70 : decode cX6_readNested 70 = .ok (.aload_n 0, 1) := by decide +kernel
theorem dX6_readNested_71 : decode cX6_readNested 71 = .ok (.getfield 22, 3) := by decide +kernel
theorem dX6_readNested_74 : decode cX6_readNested 74 = .ok (.putfield 26, 3) := by decide +kernel
theorem dX6_readNested_77 : decode cX6_readNested 77 = .ok (.return_, 1) := by decide +kernel
theorem dX6_readNested_78 : decode cX6_readNested 78 = .ok (.aload_n 0, 1) := by decide +kernel
theorem dX6_readNested_79 : decode cX6_readNested 79 = .ok (.dup, 1) := by decide +kernel
theorem dX6_readNested_80 : decode cX6_readNested 80 = .ok (.getfield 22, 3) := by decide +kernel
theorem dX6_readNested_83 : decode cX6_readNested 83 = .ok (.iconst 1, 1) := by decide +kernel
theorem dX6_readNested_84 : decode cX6_readNested 84 = .ok (.iadd, 1) := by decide +kernel
theorem dX6_readNested_85 : decode cX6_readNested 85 = .ok (.putfield 22, 3) := by decide +kernel
theorem dX6_readNested_88 : decode cX6_readNested 88 = .ok (.return_, 1) := by decide +kernel
theorem dX6_readInt_0 : decode cX6_readInt 0 = .ok (.aload_n 0, 1) := by decide +kernel
theorem dX6_readInt_1 : decode cX6_readInt 1 = .ok (.getfield 22, 3) := by decide +kernel
theorem dX6_readInt_4 : decode cX6_readInt 4 = .ok (.istore_n 2, 1) := by decide +kernel
theorem dX6_readInt_5 : decode cX6_readInt 5 = .ok (.iconst 0, 1) := by decide +kernel
theorem dX6_readInt_6 : decode cX6_readInt 6 = .ok (.istore_n 3, 1) := by decide +kernel
theorem dX6_readInt_7 : decode cX6_readInt 7 = .ok (.aload_n 0, 1) := by decide +kernel
theorem dX6_readInt_8 : decode cX6_readInt 8 = .ok (.getfield 22, 3) := by decide +kernel
theorem dX6_readInt_11 : decode cX6_readInt 11 = .ok (.aload_n 0, 1) := by decide +kernel
theorem dX6_readInt_12 : decode cX6_readInt 12 = .ok (.getfield 33, 3) := by decide +kernel
theorem dX6_readInt_15 : decode cX6_readInt 15 = .ok (.getfield 58, 3) := by decide +kernel
theorem dX6_readInt_18 : decode cX6_readInt 18 = .ok (.if_icmp .ge 59, 3) := by decide +kernel
theorem dX6_readInt_21 : decode cX6_readInt 21 = .ok (.aload_n 0, 1) := by decide +kernel
theorem dX6_readInt_22 : decode cX6_readInt 22 = .ok (.getfield 33, 3) := by decide +kernel
theorem dX6_readInt_25 : decode cX6_readInt 25 = .ok (.aload_n 0, 1) := by decide +kernel
theorem dX6_readInt_26 : decode cX6_readInt 26 = .ok (.getfield 22, 3) := by decide +kernel
theorem dX6_readInt_29 : decode cX6_readInt 29 = .ok (.invokevirtual 63, 3) := by decide +kernel
theorem dX6_readInt_32 : decode cX6_readInt 32 = .ok (.invokestatic 87, 3) := by decide +kernel
theorem dX6_readInt_35 : decode cX6_readInt 35 = .ok (.ifCond .eq 42, 3) := by decide +kernel
theorem dX6_readInt_38 : decode cX6_readInt 38 = .ok (.sipush 1000, 3) := by decide +kernel
theorem dX6_readInt_41 : decode cX6_readInt 41 = .ok (.iload_n 3, 1) := by decide +kernel
theorem dX6_readInt_42 : decode cX6_readInt 42 = .ok (.bipush 10, 2) := by decide +kernel
theorem dX6_readInt_44 : decode cX6_readInt 44 = .ok (.imul, 1) := by decide +kernel
theorem dX6_readInt_45 : decode cX6_readInt 45 = .ok (.aload_n 0, 1) := by decide +kernel
theorem dX6_readInt_46 : decode cX6_readInt 46 = .ok (.getfield 33, 3) := by decide +kernel
theorem dX6_readInt_49 : decode cX6_readInt 49 = .ok (.aload_n 0, 1) := by decide +kernel
theorem dX6_readInt_50 : decode cX6_readInt 50 = .ok (.getfield 22, 3) := by decide +kernel
theorem dX6_readInt_53 : decode cX6_readInt 53 = .ok (.invokevirtual 63, 3) := by decide +kernel
theorem dX6_readInt_56 : decode cX6_readInt 56 = .ok (.iadd, 1) := by decide +kernel
theorem dX6_readInt_57 : decode cX6_readInt 57 = .ok (.bipush 48, 2) := by decide +kernel
theorem dX6_readInt_59 : decode cX6_readInt 59 = .ok (.isub, 1) := by decide +kernel
theorem dX6_readInt_60 : decode cX6_readInt 60 = .ok (.invokestatic 101, 3) := by decide +kernel
theorem dX6_readInt_63 : decode cX6_readInt 63 = .ok (.istore_n 3, 1) := by decide +kernel
theorem dX6_readInt_64 : decode cX6_readInt 64 = .ok (.aload_n 0, 1) := by decide +kernel
theorem dX6_readInt_65 : decode cX6_readInt 65 = .ok (.dup, 1) := by decide +kernel
theorem dX6_readInt_66 : decode cX6_readInt 66 = .ok (.getfield 22, 3) := by decide +kernel
theorem dX6_readInt_69 : decode cX6_readInt 69 = .ok (.iconst 1, 1) := by decide +kernel
theorem dX6_readInt_70 : decode cX6_readInt 70 = .ok (.iadd, 1) := by decide +kernel
theorem dX6_readInt_71 : decode cX6_readInt 71 = .ok (.putfield 22, 3) := by decide +kernel
theorem dX6_readInt_74 : decode cX6_readInt 74 = .ok (.goto (-67), 3) := by decide +kernel
theorem dX6_readInt_77 : decode cX6_readInt 77 = .ok (.iload_n 3, 1) := by decide +kernel
theorem dX6_readInt_78 : decode cX6_readInt 78 = .ok (.sipush 999, 3) := by decide +kernel
theorem dX6_readInt_81 : decode cX6_readInt 81 = .ok (.if_icmp .le 9, 3) := by decide +kernel
theorem dX6_readInt_84 : decode cX6_readInt 84 = .ok (.aload_n 0, 1) := by decide +kernel
theorem dX6_readInt_85 : decode cX6_readInt 85 = .ok (.iload_n 2, 1) := by decide +kernel
theorem dX6_readInt_86 : decode cX6_readInt 86 = .ok (.putfield 26, 3) := by decide +kernel
theorem dX6_readInt_89 : decode cX6_readInt 89 = .ok (.return_, 1) := by decide +kernel
theorem dX6_readInt_90 : decode cX6_readInt 90 = .ok (.aload_n 0, 1) := by decide +kernel
theorem dX6_readInt_91 : decode cX6_readInt 91 = .ok (.getfield 19, 3) := by decide +kernel
theorem dX6_readInt_94 : decode cX6_readInt 94 = .ok (.iload_n 1, 1) := by decide +kernel
theorem dX6_readInt_95 : decode cX6_readInt 95 = .ok (.aaload, 1) := by decide +kernel
theorem dX6_readInt_96 : decode cX6_readInt 96 = .ok (.iconst 0, 1) := by decide +kernel
theorem dX6_readInt_97 : decode cX6_readInt 97 = .ok (.invokestatic 107, 3) := by decide +kernel
theorem dX6_readInt_100 : decode cX6_readInt 100 = .ok (.aload_n 0, 1) := by decide +kernel
theorem dX6_readInt_101 : decode cX6_readInt 101 = .ok (.getfield 19, 3) := by decide +kernel
theorem dX6_readInt_104 : decode cX6_readInt 104 = .ok (.iload_n 1, 1) := by decide +kernel
theorem dX6_readInt_105 : decode cX6_readInt 105 = .ok (.aaload, 1) := by decide +kernel
theorem dX6_readInt_106 : decode cX6_readInt 106 = .ok (.iconst 0, 1) := by decide +kernel
theorem dX6_readInt_107 : decode cX6_readInt 107 = .ok (.iconst 2, 1) := by decide +kernel
theorem dX6_readInt_108 : decode cX6_readInt 108 = .ok (.iload_n 3, 1) := by decide +kernel
theorem dX6_readInt_109 : decode cX6_readInt 109 = .ok (.imul, 1) := by decide +kernel
theorem dX6_readInt_110 : decode cX6_readInt 110 = .ok (.iastore, 1) := by decide +kernel
theorem dX6_readInt_111 : decode cX6_readInt 111 = .ok (.return_, 1) := by decide +kernel
theorem dX6_isDigit_0 : decode cX6_isDigit 0 = .ok (.iload_n 0, 1) := by decide +kernel
theorem dX6_isDigit_1 : decode cX6_isDigit 1 = .ok (.bipush 48, 2) := by decide +kernel
theorem dX6_isDigit_3 : decode cX6_isDigit 3 = .ok (.if_icmp .lt 13, 3) := by decide +kernel
theorem dX6_isDigit_6 : decode cX6_isDigit 6 = .ok (.iload_n 0, 1) := by decide +kernel
theorem dX6_isDigit_7 : decode cX6_isDigit 7 = .ok (.bipush 57, 2) := by decide +kernel
theorem dX6_isDigit_9 : decode cX6_isDigit 9 = .ok (.if_icmp .gt 7, 3) := by decide +kernel
theorem dX6_isDigit_12 : decode cX6_isDigit 12 = .ok (.iconst 1, 1) := by decide +kernel
theorem dX6_isDigit_13 : decode cX6_isDigit 13 = .ok (.goto 4, 3) := by decide +kernel
theorem dX6_isDigit_16 : decode cX6_isDigit 16 = .ok (.iconst 0, 1) := by decide +kernel
theorem dX6_isDigit_17 : decode cX6_isDigit 17 = .ok (.ireturn, 1) := by decide +kernel
theorem dX7_init_0 : decode cX7_init 0 = .ok (.aload_n 0, 1) := by decide +kernel
theorem dX7_init_1 : decode cX7_init 1 = .ok (.invokespecial 3, 3) := by decide +kernel
theorem dX7_init_4 : decode cX7_init 4 = .ok (.aload_n 0, 1) := by decide +kernel
theorem dX7_init_5 : decode cX7_init 5 = .ok (.bipush 8, 2) := by decide +kernel
theorem dX7_init_7 : decode cX7_init 7 = .ok (.newarray .long, 2) := by decide +kernel
theorem dX7_init_9 : decode cX7_init 9 = .ok (.putfield 9, 3) := by decide +kernel
theorem dX7_init_12 : decode cX7_init 12 = .ok (.aload_n 0, 1) := by decide +kernel
theorem dX7_init_13 : decode cX7_init 13 = .ok (.bipush 8, 2) := by decide +kernel
theorem dX7_init_15 : decode cX7_init 15 = .ok (.newarray .int, 2) := by decide +kernel
theorem dX7_init_17 : decode cX7_init 17 = .ok (.putfield 15, 3) := by decide +kernel
theorem dX7_init_20 : decode cX7_init 20 = .ok (.aload_n 0, 1) := by decide +kernel
theorem dX7_init_21 : decode cX7_init 21 = .ok (.bipush 8, 2) := by decide +kernel
theorem dX7_init_23 : decode cX7_init 23 = .ok (.newarray .int, 2) := by decide +kernel
theorem dX7_init_25 : decode cX7_init 25 = .ok (.putfield 19, 3) := by decide +kernel
theorem dX7_init_28 : decode cX7_init 28 = .ok (.return_, 1) := by decide +kernel
theorem dX7_add_0 : decode cX7_add 0 = .ok (.iconst 0, 1) := by decide +kernel
theorem dX7_add_1 : decode cX7_add 1 = .ok (.istore 5, 2) := by decide +kernel
theorem dX7_add_3 : decode cX7_add 3 = .ok (.iload 5, 2) := by decide +kernel
theorem dX7_add_5 : decode cX7_add 5 = .ok (.bipush 8, 2) := by decide +kernel
theorem dX7_add_7 : decode cX7_add 7 = .ok (.if_icmp .ge 31, 3) := by decide +kernel
theorem dX7_add_10 : decode cX7_add 10 = .ok (.aload_n 0, 1) := by decide +kernel
theorem dX7_add_11 : decode cX7_add 11 = .ok (.getfield 9, 3) := by decide +kernel
theorem dX7_add_14 : decode cX7_add 14 = .ok (.iload 5, 2) := by decide +kernel
theorem dX7_add_16 : decode cX7_add 16 = .ok (.aload_n 2, 1) := by decide +kernel
theorem dX7_add_17 : decode cX7_add 17 = .ok (.iload 5, 2) := by decide +kernel
theorem dX7_add_19 : decode cX7_add 19 = .ok (.iaload, 1) := by decide +kernel
theorem dX7_add_20 : decode cX7_add 20 = .ok (.i2l, 1) := by decide +kernel
theorem dX7_add_21 : decode cX7_add 21 = .ok (.iload 4, 2) := by decide +kernel
theorem dX7_add_23 : decode cX7_add 23 = .ok (.i2l, 1) := by decide +kernel
theorem dX7_add_24 : decode cX7_add 24 = .ok (.aload_n 3, 1) := by decide +kernel
theorem dX7_add_25 : decode cX7_add 25 = .ok (.iload 5, 2) := by decide +kernel
theorem dX7_add_27 : decode cX7_add 27 = .ok (.iaload, 1) := by decide +kernel
theorem dX7_add_28 : decode cX7_add 28 = .ok (.i2l, 1) := by decide +kernel
theorem dX7_add_29 : decode cX7_add 29 = .ok (.lmul, 1) := by decide +kernel
theorem dX7_add_30 : decode cX7_add 30 = .ok (.ladd, 1) := by decide +kernel
theorem dX7_add_31 : decode cX7_add 31 = .ok (.lastore, 1) := by decide +kernel
theorem dX7_add_32 : decode cX7_add 32 = .ok (.iinc 5 1, 3) := by decide +kernel
theorem dX7_add_35 : decode cX7_add 35 = .ok (.goto (-32), 3) := by decide +kernel
theorem dX7_add_38 : decode cX7_add 38 = .ok (.aload_n 1, 1) := by decide +kernel
theorem dX7_add_39 : decode cX7_add 39 = .ok (.aload_n 0, 1) := by decide +kernel
theorem dX7_add_40 : decode cX7_add 40 = .ok (.getfield 9, 3) := by decide +kernel
theorem dX7_add_43 : decode cX7_add 43 = .ok (.invokestatic 22, 3) := by decide +kernel
theorem dX7_add_46 : decode cX7_add 46 = .ok (.ireturn, 1) := by decide +kernel
theorem dX7_scale_0 : decode cX7_scale 0 = .ok (.iconst 0, 1) := by decide +kernel
theorem dX7_scale_1 : decode cX7_scale 1 = .ok (.istore 4, 2) := by decide +kernel
theorem dX7_scale_3 : decode cX7_scale 3 = .ok (.iload 4, 2) := by decide +kernel
theorem dX7_scale_5 : decode cX7_scale 5 = .ok (.bipush 8, 2) := by decide +kernel
theorem dX7_scale_7 : decode cX7_scale 7 = .ok (.if_icmp .ge 24, 3) := by decide +kernel
theorem dX7_scale_10 : decode cX7_scale 10 = .ok (.aload_n 0, 1) := by decide +kernel
theorem dX7_scale_11 : decode cX7_scale 11 = .ok (.getfield 9, 3) := by decide +kernel
theorem dX7_scale_14 : decode cX7_scale 14 = .ok (.iload 4, 2) := by decide +kernel
theorem dX7_scale_16 : decode cX7_scale 16 = .ok (.iload_n 3, 1) := by decide +kernel
theorem dX7_scale_17 : decode cX7_scale 17 = .ok (.i2l, 1) := by decide +kernel
theorem dX7_scale_18 : decode cX7_scale 18 = .ok (.aload_n 2, 1) := by decide +kernel
theorem dX7_scale_19 : decode cX7_scale 19 = .ok (.iload 4, 2) := by decide +kernel
theorem dX7_scale_21 : decode cX7_scale 21 = .ok (.iaload, 1) := by decide +kernel
theorem dX7_scale_22 : decode cX7_scale 22 = .ok (.i2l, 1) := by decide +kernel
theorem dX7_scale_23 : decode cX7_scale 23 = .ok (.lmul, 1) := by decide +kernel
theorem dX7_scale_24 : decode cX7_scale 24 = .ok (.lastore, 1) := by decide +kernel
theorem dX7_scale_25 : decode cX7_scale 25 = .ok (.iinc 4 1, 3) := by decide +kernel
theorem dX7_scale_28 : decode cX7_scale 28 = .ok (.goto (-25), 3) := by decide +kernel
theorem dX7_scale_31 : decode cX7_scale 31 = .ok (.aload_n 1, 1) := by decide +kernel
theorem dX7_scale_32 : decode cX7_scale 32 = .ok (.aload_n 0, 1) := by decide +kernel
theorem dX7_scale_33 : decode cX7_scale 33 = .ok (.getfield 9, 3) := by decide +kernel
theorem dX7_scale_36 : decode cX7_scale 36 = .ok (.invokestatic 22, 3) := by decide +kernel
theorem dX7_scale_39 : decode cX7_scale 39 = .ok (.ireturn, 1) := by decide +kernel
theorem dX7_multiply_0 : decode cX7_multiply 0 = .ok (.aload_n 0, 1) := by decide +kernel
theorem dX7_multiply_1 : decode cX7_multiply 1 = .ok (.getfield 9, 3) := by decide +kernel
theorem dX7_multiply_4 : decode cX7_multiply 4 = .ok (.aload_n 2, 1) := by decide +kernel
theorem dX7_multiply_5 : decode cX7_multiply 5 = .ok (.aload_n 3, 1) := by decide +kernel
theorem dX7_multiply_6 : decode cX7_multiply 6 = .ok (.invokestatic 28, 3) := by decide +kernel
theorem dX7_multiply_9 : decode cX7_multiply 9 = .ok (.aload_n 0, 1) := by decide +kernel
theorem dX7_multiply_10 : decode cX7_multiply 10 = .ok (.getfield 9, 3) := by decide +kernel
theorem dX7_multiply_13 : decode cX7_multiply 13 = .ok (.invokestatic 32, 3) := by decide +kernel
theorem dX7_multiply_16 : decode cX7_multiply 16 = .ok (.ifCond .eq 18, 3) := by decide +kernel
theorem dX7_multiply_19 : decode cX7_multiply 19 = .ok (.aload_n 1, 1) := by decide +kernel
theorem dX7_multiply_20 : decode cX7_multiply 20 = .ok (.aload_n 0, 1) := by decide +kernel
theorem dX7_multiply_21 : decode cX7_multiply 21 = .ok (.getfield 9, 3) := by decide +kernel
theorem dX7_multiply_24 : decode cX7_multiply 24 = .ok (.invokestatic 22, 3) := by decide +kernel
theorem dX7_multiply_27 : decode cX7_multiply 27 = .ok (.ifCond .eq 7, 3) := by decide +kernel
theorem dX7_multiply_30 : decode cX7_multiply 30 = .ok (.iconst 1, 1) := by decide +kernel
theorem dX7_multiply_31 : decode cX7_multiply 31 = .ok (.goto 4, 3) := by decide +kernel
theorem dX7_multiply_34 : decode cX7_multiply 34 = .ok (.iconst 0, 1) := by decide +kernel
theorem dX7_multiply_35 : decode cX7_multiply 35 = .ok (.ireturn, 1) := by decide +kernel
theorem dX7_turnBy_0 : decode cX7_turnBy 0 = .ok (.iload 4, 2) := by decide +kernel
theorem dX7_turnBy_2 : decode cX7_turnBy 2 = .ok (.tableswitch 74 0 2 #[26, 34, 42], 26) := by decide +kernel
theorem dX7_turnBy_28 : decode cX7_turnBy 28 = .ok (.aload_n 0, 1) := by decide +kernel
theorem dX7_turnBy_29 : decode cX7_turnBy 29 = .ok (.aload_n 1, 1) := by decide +kernel
theorem dX7_turnBy_30 : decode cX7_turnBy 30 = .ok (.aload_n 3, 1) := by decide +kernel
theorem dX7_turnBy_31 : decode cX7_turnBy 31 = .ok (.aload_n 2, 1) := by decide +kernel
theorem dX7_turnBy_32 : decode cX7_turnBy 32 = .ok (.invokevirtual 36, 3) := by decide +kernel
theorem dX7_turnBy_35 : decode cX7_turnBy 35 = .ok (.ireturn, 1) := by decide +kernel
theorem dX7_turnBy_36 : decode cX7_turnBy 36 = .ok (.aload_n 0, 1) := by decide +kernel
theorem dX7_turnBy_37 : decode cX7_turnBy 37 = .ok (.aload_n 1, 1) := by decide +kernel
theorem dX7_turnBy_38 : decode cX7_turnBy 38 = .ok (.aload_n 2, 1) := by decide +kernel
theorem dX7_turnBy_39 : decode cX7_turnBy 39 = .ok (.aload_n 3, 1) := by decide +kernel
theorem dX7_turnBy_40 : decode cX7_turnBy 40 = .ok (.invokevirtual 36, 3) := by decide +kernel
theorem dX7_turnBy_43 : decode cX7_turnBy 43 = .ok (.ireturn, 1) := by decide +kernel
theorem dX7_turnBy_44 : decode cX7_turnBy 44 = .ok (.aload_n 0, 1) := by decide +kernel
theorem dX7_turnBy_45 : decode cX7_turnBy 45 = .ok (.aload_n 0, 1) := by decide +kernel
theorem dX7_turnBy_46 : decode cX7_turnBy 46 = .ok (.getfield 15, 3) := by decide +kernel
theorem dX7_turnBy_49 : decode cX7_turnBy 49 = .ok (.aload_n 3, 1) := by decide +kernel
theorem dX7_turnBy_50 : decode cX7_turnBy 50 = .ok (.aload_n 2, 1) := by decide +kernel
theorem dX7_turnBy_51 : decode cX7_turnBy 51 = .ok (.invokevirtual 36, 3) := by decide +kernel
theorem dX7_turnBy_54 : decode cX7_turnBy 54 = .ok (.ifCond .eq 20, 3) := by decide +kernel
theorem dX7_turnBy_57 : decode cX7_turnBy 57 = .ok (.aload_n 0, 1) := by decide +kernel
theorem dX7_turnBy_58 : decode cX7_turnBy 58 = .ok (.aload_n 1, 1) := by decide +kernel
theorem dX7_turnBy_59 : decode cX7_turnBy 59 = .ok (.aload_n 0, 1) := by decide +kernel
theorem dX7_turnBy_60 : decode cX7_turnBy 60 = .ok (.getfield 15, 3) := by decide +kernel
theorem dX7_turnBy_63 : decode cX7_turnBy 63 = .ok (.aload_n 3, 1) := by decide +kernel
theorem dX7_turnBy_64 : decode cX7_turnBy 64 = .ok (.invokevirtual 36, 3) := by decide +kernel
theorem dX7_turnBy_67 : decode cX7_turnBy 67 = .ok (.ifCond .eq 7, 3) := by decide +kernel
theorem dX7_turnBy_70 : decode cX7_turnBy 70 = .ok (.iconst 1, 1) := by decide +kernel
theorem dX7_turnBy_71 : decode cX7_turnBy 71 = .ok (.goto 4, 3) := by decide +kernel
theorem dX7_turnBy_74 : decode cX7_turnBy 74 = .ok (.iconst 0, 1) := by decide +kernel
theorem dX7_turnBy_75 : decode cX7_turnBy 75 = .ok (.ireturn, 1) := by decide +kernel
theorem dX7_turnBy_76 : decode cX7_turnBy 76 = .ok (.aload_n 0, 1) := by decide +kernel
theorem dX7_turnBy_77 : decode cX7_turnBy 77 = .ok (.getfield 19, 3) := by decide +kernel
theorem dX7_turnBy_80 : decode cX7_turnBy 80 = .ok (.aload_n 3, 1) := by decide +kernel
theorem dX7_turnBy_81 : decode cX7_turnBy 81 = .ok (.invokestatic 40, 3) := by decide +kernel
theorem dX7_turnBy_84 : decode cX7_turnBy 84 = .ok (.aload_n 0, 1) := by decide +kernel
theorem dX7_turnBy_85 : decode cX7_turnBy 85 = .ok (.aload_n 0, 1) := by decide +kernel
theorem dX7_turnBy_86 : decode cX7_turnBy 86 = .ok (.getfield 15, 3) := by decide +kernel
theorem dX7_turnBy_89 : decode cX7_turnBy 89 = .ok (.aload_n 3, 1) := by decide +kernel
theorem dX7_turnBy_90 : decode cX7_turnBy 90 = .ok (.aload_n 2, 1) := by decide +kernel
theorem dX7_turnBy_91 : decode cX7_turnBy 91 = .ok (.invokevirtual 36, 3) := by decide +kernel
theorem dX7_turnBy_94 : decode cX7_turnBy 94 = .ok (.ifCond .eq 23, 3) := by decide +kernel
theorem dX7_turnBy_97 : decode cX7_turnBy 97 = .ok (.aload_n 0, 1) := by decide +kernel
theorem dX7_turnBy_98 : decode cX7_turnBy 98 = .ok (.aload_n 1, 1) := by decide +kernel
theorem dX7_turnBy_99 : decode cX7_turnBy 99 = .ok (.aload_n 0, 1) := by decide +kernel
theorem dX7_turnBy_100 : decode cX7_turnBy 100 = .ok (.getfield 15, 3) := by decide +kernel
theorem dX7_turnBy_103 : decode cX7_turnBy 103 = .ok (.aload_n 0, 1) := by decide +kernel
theorem dX7_turnBy_104 : decode cX7_turnBy 104 = .ok (.getfield 19, 3) := by decide +kernel
theorem dX7_turnBy_107 : decode cX7_turnBy 107 = .ok (.invokevirtual 36, 3) := by decide +kernel
theorem dX7_turnBy_110 : decode cX7_turnBy 110 = .ok (.ifCond .eq 7, 3) := by decide +kernel
theorem dX7_turnBy_113 : decode cX7_turnBy 113 = .ok (.iconst 1, 1) := by decide +kernel
theorem dX7_turnBy_114 : decode cX7_turnBy 114 = .ok (.goto 4, 3) := by decide +kernel
theorem dX7_turnBy_117 : decode cX7_turnBy 117 = .ok (.iconst 0, 1) := by decide +kernel
theorem dX7_turnBy_118 : decode cX7_turnBy 118 = .ok (.ireturn, 1) := by decide +kernel
theorem dX8_init_0 : decode cX8_init 0 = .ok (.aload_n 0, 1) := by decide +kernel
theorem dX8_init_1 : decode cX8_init 1 = .ok (.invokespecial 3, 3) := by decide +kernel
theorem dX8_init_4 : decode cX8_init 4 = .ok (.aload_n 0, 1) := by decide +kernel
theorem dX8_init_5 : decode cX8_init 5 = .ok (.sipush 200, 3) := by decide +kernel
theorem dX8_init_8 : decode cX8_init 8 = .ok (.newarray .byte, 2) := by decide +kernel
theorem dX8_init_10 : decode cX8_init 10 = .ok (.putfield 11, 3) := by decide +kernel
theorem dX8_init_13 : decode cX8_init 13 = .ok (.aload_n 0, 1) := by decide +kernel
theorem dX8_init_14 : decode cX8_init 14 = .ok (.iconst 0, 1) := by decide +kernel
theorem dX8_init_15 : decode cX8_init 15 = .ok (.putfield 15, 3) := by decide +kernel
theorem dX8_init_18 : decode cX8_init 18 = .ok (.return_, 1) := by decide +kernel
theorem dX8_hasRoom_0 : decode cX8_hasRoom 0 = .ok (.aload_n 0, 1) := by decide +kernel
theorem dX8_hasRoom_1 : decode cX8_hasRoom 1 = .ok (.getfield 15, 3) := by decide +kernel
theorem dX8_hasRoom_4 : decode cX8_hasRoom 4 = .ok (.bipush 20, 2) := by decide +kernel
theorem dX8_hasRoom_6 : decode cX8_hasRoom 6 = .ok (.iadd, 1) := by decide +kernel
theorem dX8_hasRoom_7 : decode cX8_hasRoom 7 = .ok (.sipush 200, 3) := by decide +kernel
theorem dX8_hasRoom_10 : decode cX8_hasRoom 10 = .ok (.if_icmp .gt 7, 3) := by decide +kernel
theorem dX8_hasRoom_13 : decode cX8_hasRoom 13 = .ok (.iconst 1, 1) := by decide +kernel
theorem dX8_hasRoom_14 : decode cX8_hasRoom 14 = .ok (.goto 4, 3) := by decide +kernel
theorem dX8_hasRoom_17 : decode cX8_hasRoom 17 = .ok (.iconst 0, 1) := by decide +kernel
theorem dX8_hasRoom_18 : decode cX8_hasRoom 18 = .ok (.ireturn, 1) := by decide +kernel
theorem dX8_append_0 : decode cX8_append 0 = .ok (.bipush 24, 2) := by decide +kernel
theorem dX8_append_2 : decode cX8_append 2 = .ok (.istore_n 2, 1) := by decide +kernel
theorem dX8_append_3 : decode cX8_append 3 = .ok (.iload_n 2, 1) := by decide +kernel
theorem dX8_append_4 : decode cX8_append 4 = .ok (.ifCond .lt 42, 3) := by decide +kernel
theorem dX8_append_7 : decode cX8_append 7 = .ok (.aload_n 0, 1) := by decide +kernel
theorem dX8_append_8 : decode cX8_append 8 = .ok (.getfield 15, 3) := by decide +kernel
theorem dX8_append_11 : decode cX8_append 11 = .ok (.sipush 200, 3) := by decide +kernel
theorem dX8_append_14 : decode cX8_append 14 = .ok (.if_icmp .ge 32, 3) := by decide +kernel
theorem dX8_append_17 : decode cX8_append 17 = .ok (.aload_n 0, 1) := by decide +kernel
theorem dX8_append_18 : decode cX8_append 18 = .ok (.getfield 11, 3) := by decide +kernel
theorem dX8_append_21 : decode cX8_append 21 = .ok (.aload_n 0, 1) := by decide +kernel
theorem dX8_append_22 : decode cX8_append 22 = .ok (.getfield 15, 3) := by decide +kernel
theorem dX8_append_25 : decode cX8_append 25 = .ok (.iload_n 1, 1) := by decide +kernel
theorem dX8_append_26 : decode cX8_append 26 = .ok (.iload_n 2, 1) := by decide +kernel
theorem dX8_append_27 : decode cX8_append 27 = .ok (.ishr, 1) := by decide +kernel
theorem dX8_append_28 : decode cX8_append 28 = .ok (.i2b, 1) := by decide +kernel
theorem dX8_append_29 : decode cX8_append 29 = .ok (.bastore, 1) := by decide +kernel
theorem dX8_append_30 : decode cX8_append 30 = .ok (.aload_n 0, 1) := by decide +kernel
theorem dX8_append_31 : decode cX8_append 31 = .ok (.dup, 1) := by decide +kernel
theorem dX8_append_32 : decode cX8_append 32 = .ok (.getfield 15, 3) := by decide +kernel
theorem dX8_append_35 : decode cX8_append 35 = .ok (.iconst 1, 1) := by decide +kernel
theorem dX8_append_36 : decode cX8_append 36 = .ok (.iadd, 1) := by decide +kernel
theorem dX8_append_37 : decode cX8_append 37 = .ok (.putfield 15, 3) := by decide +kernel
theorem dX8_append_40 : decode cX8_append 40 = .ok (.iinc 2 (-8), 3) := by decide +kernel
theorem dX8_append_43 : decode cX8_append 43 = .ok (.goto (-40), 3) := by decide +kernel
theorem dX8_append_46 : decode cX8_append 46 = .ok (.return_, 1) := by decide +kernel
theorem dX8_byteAt_0 : decode cX8_byteAt 0 = .ok (.iload_n 1, 1) := by decide +kernel
theorem dX8_byteAt_1 : decode cX8_byteAt 1 = .ok (.ifCond .lt 24, 3) := by decide +kernel
theorem dX8_byteAt_4 : decode cX8_byteAt 4 = .ok (.iload_n 1, 1) := by decide +kernel
theorem dX8_byteAt_5 : decode cX8_byteAt 5 = .ok (.aload_n 0, 1) := by decide +kernel
theorem dX8_byteAt_6 : decode cX8_byteAt 6 = .ok (.getfield 15, 3) := by decide +kernel
theorem dX8_byteAt_9 : decode cX8_byteAt 9 = .ok (.if_icmp .ge 16, 3) := by decide +kernel
theorem dX8_byteAt_12 : decode cX8_byteAt 12 = .ok (.aload_n 0, 1) := by decide +kernel
theorem dX8_byteAt_13 : decode cX8_byteAt 13 = .ok (.getfield 11, 3) := by decide +kernel
theorem dX8_byteAt_16 : decode cX8_byteAt 16 = .ok (.iload_n 1, 1) := by decide +kernel
theorem dX8_byteAt_17 : decode cX8_byteAt 17 = .ok (.baload, 1) := by decide +kernel
theorem dX8_byteAt_18 : decode cX8_byteAt 18 = .ok (.sipush 255, 3) := by decide +kernel
theorem dX8_byteAt_21 : decode cX8_byteAt 21 = .ok (.iand, 1) := by decide +kernel
theorem dX8_byteAt_22 : decode cX8_byteAt 22 = .ok (.goto 4, 3) := by decide +kernel
theorem dX8_byteAt_25 : decode cX8_byteAt 25 = .ok (.iconst (-1), 1) := by decide +kernel
theorem dX8_byteAt_26 : decode cX8_byteAt 26 = .ok (.ireturn, 1) := by decide +kernel
theorem dX9_init_0 : decode cX9_init 0 = .ok (.aload_n 0, 1) := by decide +kernel
theorem dX9_init_1 : decode cX9_init 1 = .ok (.invokespecial 3, 3) := by decide +kernel
theorem dX9_init_4 : decode cX9_init 4 = .ok (.aload_n 0, 1) := by decide +kernel
theorem dX9_init_5 : decode cX9_init 5 = .ok (.bipush 8, 2) := by decide +kernel
theorem dX9_init_7 : decode cX9_init 7 = .ok (.newarray .int, 2) := by decide +kernel
theorem dX9_init_9 : decode cX9_init 9 = .ok (.putfield 9, 3) := by decide +kernel
theorem dX9_init_12 : decode cX9_init 12 = .ok (.aload_n 0, 1) := by decide +kernel
theorem dX9_init_13 : decode cX9_init 13 = .ok (.bipush 8, 2) := by decide +kernel
theorem dX9_init_15 : decode cX9_init 15 = .ok (.newarray .int, 2) := by decide +kernel
theorem dX9_init_17 : decode cX9_init 17 = .ok (.putfield 15, 3) := by decide +kernel
theorem dX9_init_20 : decode cX9_init 20 = .ok (.aload_n 0, 1) := by decide +kernel
theorem dX9_init_21 : decode cX9_init 21 = .ok (.iconst 0, 1) := by decide +kernel
theorem dX9_init_22 : decode cX9_init 22 = .ok (.newarray .int, 2) := by decide +kernel
theorem dX9_init_24 : decode cX9_init 24 = .ok (.putfield 18, 3) := by decide +kernel
theorem dX9_init_27 : decode cX9_init 27 = .ok (.aload_n 0, 1) := by decide +kernel
theorem dX9_init_28 : decode cX9_init 28 = .ok (.iconst (-1), 1) := by decide +kernel
theorem dX9_init_29 : decode cX9_init 29 = .ok (.putfield 21, 3) := by decide +kernel
theorem dX9_init_32 : decode cX9_init 32 = .ok (.aload_n 0, 1) := by decide +kernel
theorem dX9_init_33 : decode cX9_init 33 = .ok (.sipush 240, 3) := by decide +kernel
theorem dX9_init_36 : decode cX9_init 36 = .ok (.newarray .int, 2) := by decide +kernel
theorem dX9_init_38 : decode cX9_init 38 = .ok (.putfield 25, 3) := by decide +kernel
theorem dX9_init_41 : decode cX9_init 41 = .ok (.aload_n 0, 1) := by decide +kernel
theorem dX9_init_42 : decode cX9_init 42 = .ok (.sipush 240, 3) := by decide +kernel
theorem dX9_init_45 : decode cX9_init 45 = .ok (.newarray .boolean, 2) := by decide +kernel
theorem dX9_init_47 : decode cX9_init 47 = .ok (.putfield 28, 3) := by decide +kernel
theorem dX9_init_50 : decode cX9_init 50 = .ok (.aload_n 0, 1) := by decide +kernel
theorem dX9_init_51 : decode cX9_init 51 = .ok (.iconst 0, 1) := by decide +kernel
theorem dX9_init_52 : decode cX9_init 52 = .ok (.putfield 32, 3) := by decide +kernel
theorem dX9_init_55 : decode cX9_init 55 = .ok (.aload_n 0, 1) := by decide +kernel
theorem dX9_init_56 : decode cX9_init 56 = .ok (.aload_n 1, 1) := by decide +kernel
theorem dX9_init_57 : decode cX9_init 57 = .ok (.putfield 35, 3) := by decide +kernel
theorem dX9_init_60 : decode cX9_init 60 = .ok (.aload_n 0, 1) := by decide +kernel
theorem dX9_init_61 : decode cX9_init 61 = .ok (.aload_n 2, 1) := by decide +kernel
theorem dX9_init_62 : decode cX9_init 62 = .ok (.putfield 39, 3) := by decide +kernel
theorem dX9_init_65 : decode cX9_init 65 = .ok (.return_, 1) := by decide +kernel
theorem dX9_multiplyAt_0 : decode cX9_multiplyAt 0 = .ok (.aload_n 0, 1) := by decide +kernel
theorem dX9_multiplyAt_1 : decode cX9_multiplyAt 1 = .ok (.getfield 35, 3) := by decide +kernel
theorem dX9_multiplyAt_4 : decode cX9_multiplyAt 4 = .ok (.iconst 1, 1) := by decide +kernel
theorem dX9_multiplyAt_5 : decode cX9_multiplyAt 5 = .ok (.invokevirtual 43, 3) := by decide +kernel
theorem dX9_multiplyAt_8 : decode cX9_multiplyAt 8 = .ok (.iconst 1, 1) := by decide +kernel
theorem dX9_multiplyAt_9 : decode cX9_multiplyAt 9 = .ok (.isub, 1) := by decide +kernel
theorem dX9_multiplyAt_10 : decode cX9_multiplyAt 10 = .ok (.istore_n 3, 1) := by decide +kernel
theorem dX9_multiplyAt_11 : decode cX9_multiplyAt 11 = .ok (.iload_n 1, 1) := by decide +kernel
theorem dX9_multiplyAt_12 : decode cX9_multiplyAt 12 = .ok (.ifCond .lt 17, 3) := by decide +kernel
theorem dX9_multiplyAt_15 : decode cX9_multiplyAt 15 = .ok (.iload_n 1, 1) := by decide +kernel
theorem dX9_multiplyAt_16 : decode cX9_multiplyAt 16 = .ok (.iload_n 3, 1) := by decide +kernel
theorem dX9_multiplyAt_17 : decode cX9_multiplyAt 17 = .ok (.if_icmp .gt 12, 3) := by decide +kernel
theorem dX9_multiplyAt_20 : decode cX9_multiplyAt 20 = .ok (.iload_n 2, 1) := by decide +kernel
theorem dX9_multiplyAt_21 : decode cX9_multiplyAt 21 = .ok (.ifCond .lt 8, 3) := by decide +kernel
theorem dX9_multiplyAt_24 : decode cX9_multiplyAt 24 = .ok (.iload_n 2, 1) := by decide +kernel
theorem dX9_multiplyAt_25 : decode cX9_multiplyAt 25 = .ok (.iload_n 3, 1) := by decide +kernel
theorem dX9_multiplyAt_26 : decode cX9_multiplyAt 26 = .ok (.if_icmp .le 5, 3) := by decide +kernel
theorem dX9_multiplyAt_29 : decode cX9_multiplyAt 29 = .ok (.iconst (-1), 1) := by decide +kernel
theorem dX9_multiplyAt_30 : decode cX9_multiplyAt 30 = .ok (.ireturn, 1) := by decide +kernel
theorem dX9_multiplyAt_31 : decode cX9_multiplyAt 31 = .ok (.iload_n 1, 1) := by decide +kernel
theorem dX9_multiplyAt_32 : decode cX9_multiplyAt 32 = .ok (.iload_n 3, 1) := by decide +kernel
theorem dX9_multiplyAt_33 : decode cX9_multiplyAt 33 = .ok (.iload_n 1, 1) := by decide +kernel
theorem dX9_multiplyAt_34 : decode cX9_multiplyAt 34 = .ok (.isub, 1) := by decide +kernel
theorem dX9_multiplyAt_35 : decode cX9_multiplyAt 35 = .ok (.invokestatic 49, 3) := by decide +kernel
theorem dX9_multiplyAt_38 : decode cX9_multiplyAt 38 = .ok (.istore 4, 2) := by decide +kernel
theorem dX9_multiplyAt_40 : decode cX9_multiplyAt 40 = .ok (.iload_n 2, 1) := by decide +kernel
theorem dX9_multiplyAt_41 : decode cX9_multiplyAt 41 = .ok (.iload_n 3, 1) := by decide +kernel
theorem dX9_multiplyAt_42 : decode cX9_multiplyAt 42 = .ok (.iload_n 2, 1) := by decide +kernel
theorem dX9_multiplyAt_43 : decode cX9_multiplyAt 43 = .ok (.isub, 1) := by decide +kernel
theorem dX9_multiplyAt_44 : decode cX9_multiplyAt 44 = .ok (.invokestatic 49, 3) := by decide +kernel
theorem dX9_multiplyAt_47 : decode cX9_multiplyAt 47 = .ok (.istore 5, 2) := by decide +kernel
theorem dX9_multiplyAt_49 : decode cX9_multiplyAt 49 = .ok (.aload_n 0, 1) := by decide +kernel
theorem dX9_multiplyAt_50 : decode cX9_multiplyAt 50 = .ok (.iload 4, 2) := by decide +kernel
theorem dX9_multiplyAt_52 : decode cX9_multiplyAt 52 = .ok (.iload 5, 2) := by decide +kernel
theorem dX9_multiplyAt_54 : decode cX9_multiplyAt 54 = .ok (.invokevirtual 55, 3) := by decide +kernel
theorem dX9_multiplyAt_57 : decode cX9_multiplyAt 57 = .ok (.istore 6, 2) := by decide +kernel
theorem dX9_multiplyAt_59 : decode cX9_multiplyAt 59 = .ok (.iload 4, 2) := by decide +kernel
theorem dX9_multiplyAt_61 : decode cX9_multiplyAt 61 = .ok (.iload_n 1, 1) := by decide +kernel
theorem dX9_multiplyAt_62 : decode cX9_multiplyAt 62 = .ok (.if_icmp .ne 7, 3) := by decide +kernel
theorem dX9_multiplyAt_65 : decode cX9_multiplyAt 65 = .ok (.iconst 1, 1) := by decide +kernel
theorem dX9_multiplyAt_66 : decode cX9_multiplyAt 66 = .ok (.goto 4, 3) := by decide +kernel
theorem dX9_multiplyAt_69 : decode cX9_multiplyAt 69 = .ok (.iconst 0, 1) := by decide +kernel
theorem dX9_multiplyAt_70 : decode cX9_multiplyAt 70 = .ok (.iload 5, 2) := by decide +kernel
theorem dX9_multiplyAt_72 : decode cX9_multiplyAt 72 = .ok (.iload_n 2, 1) := by decide +kernel
theorem dX9_multiplyAt_73 : decode cX9_multiplyAt 73 = .ok (.if_icmp .ne 7, 3) := by decide +kernel
theorem dX9_multiplyAt_76 : decode cX9_multiplyAt 76 = .ok (.iconst 1, 1) := by decide +kernel
theorem dX9_multiplyAt_77 : decode cX9_multiplyAt 77 = .ok (.goto 4, 3) := by decide +kernel
theorem dX9_multiplyAt_80 : decode cX9_multiplyAt 80 = .ok (.iconst 0, 1) := by decide +kernel
theorem dX9_multiplyAt_81 : decode cX9_multiplyAt 81 = .ok (.if_icmp .eq 9, 3) := by decide +kernel
theorem dX9_multiplyAt_84 : decode cX9_multiplyAt 84 = .ok (.iload 6, 2) := by decide +kernel
theorem dX9_multiplyAt_86 : decode cX9_multiplyAt 86 = .ok (.iconst (-1), 1) := by decide +kernel
theorem dX9_multiplyAt_87 : decode cX9_multiplyAt 87 = .ok (.if_icmp .ne 8, 3) := by decide +kernel
theorem dX9_multiplyAt_90 : decode cX9_multiplyAt 90 = .ok (.iload 6, 2) := by decide +kernel
theorem dX9_multiplyAt_92 : decode cX9_multiplyAt 92 = .ok (.goto 7, 3) := by decide +kernel
theorem dX9_multiplyAt_95 : decode cX9_multiplyAt 95 = .ok (.iload_n 3, 1) := by decide +kernel
theorem dX9_multiplyAt_96 : decode cX9_multiplyAt 96 = .ok (.iload 6, 2) := by decide +kernel
theorem dX9_multiplyAt_98 : decode cX9_multiplyAt 98 = .ok (.isub, 1) := by decide +kernel
theorem dX9_multiplyAt_99 : decode cX9_multiplyAt 99 = .ok (.ireturn, 1) := by decide +kernel
theorem dX9_cycleOf_0 : decode cX9_cycleOf 0 = .ok (.aload_n 0, 1) := by decide +kernel
theorem dX9_cycleOf_1 : decode cX9_cycleOf 1 = .ok (.getfield 35, 3) := by decide +kernel
theorem dX9_cycleOf_4 : decode cX9_cycleOf 4 = .ok (.iconst 1, 1) := by decide +kernel
theorem dX9_cycleOf_5 : decode cX9_cycleOf 5 = .ok (.invokevirtual 43, 3) := by decide +kernel
theorem dX9_cycleOf_8 : decode cX9_cycleOf 8 = .ok (.iconst 1, 1) := by decide +kernel
theorem dX9_cycleOf_9 : decode cX9_cycleOf 9 = .ok (.isub, 1) := by decide +kernel
theorem dX9_cycleOf_10 : decode cX9_cycleOf 10 = .ok (.istore_n 2, 1) := by decide +kernel
theorem dX9_cycleOf_11 : decode cX9_cycleOf 11 = .ok (.iload_n 1, 1) := by decide +kernel
theorem dX9_cycleOf_12 : decode cX9_cycleOf 12 = .ok (.istore_n 3, 1) := by decide +kernel
theorem dX9_cycleOf_13 : decode cX9_cycleOf 13 = .ok (.iconst 1, 1) := by decide +kernel
theorem dX9_cycleOf_14 : decode cX9_cycleOf 14 = .ok (.istore 4, 2) := by decide +kernel
theorem dX9_cycleOf_16 : decode cX9_cycleOf 16 = .ok (.iload 4, 2) := by decide +kernel
theorem dX9_cycleOf_18 : decode cX9_cycleOf 18 = .ok (.bipush 60, 2) := by decide +kernel
theorem dX9_cycleOf_20 : decode cX9_cycleOf 20 = .ok (.if_icmp .gt 24, 3) := by decide +kernel
theorem dX9_cycleOf_23 : decode cX9_cycleOf 23 = .ok (.iload_n 3, 1) := by decide +kernel
theorem dX9_cycleOf_24 : decode cX9_cycleOf 24 = .ok (.iload_n 2, 1) := by decide +kernel
theorem dX9_cycleOf_25 : decode cX9_cycleOf 25 = .ok (.if_icmp .ne 6, 3) := by decide +kernel
theorem dX9_cycleOf_28 : decode cX9_cycleOf 28 = .ok (.iload 4, 2) := by decide +kernel
theorem dX9_cycleOf_30 : decode cX9_cycleOf 30 = .ok (.ireturn, 1) := by decide +kernel
theorem dX9_cycleOf_31 : decode cX9_cycleOf 31 = .ok (.aload_n 0, 1) := by decide +kernel
theorem dX9_cycleOf_32 : decode cX9_cycleOf 32 = .ok (.iload_n 3, 1) := by decide +kernel
theorem dX9_cycleOf_33 : decode cX9_cycleOf 33 = .ok (.iload_n 1, 1) := by decide +kernel
theorem dX9_cycleOf_34 : decode cX9_cycleOf 34 = .ok (.invokevirtual 58, 3) := by decide +kernel
theorem dX9_cycleOf_37 : decode cX9_cycleOf 37 = .ok (.istore_n 3, 1) := by decide +kernel
theorem dX9_cycleOf_38 : decode cX9_cycleOf 38 = .ok (.iinc 4 1, 3) := by decide +kernel
theorem dX9_cycleOf_41 : decode cX9_cycleOf 41 = .ok (.goto (-25), 3) := by decide +kernel
theorem dX9_cycleOf_44 : decode cX9_cycleOf 44 = .ok (.iconst (-1), 1) := by decide +kernel
theorem dX9_cycleOf_45 : decode cX9_cycleOf 45 = .ok (.ireturn, 1) := by decide +kernel
theorem dX9_gather_0 : decode cX9_gather 0 = .ok (.aload_n 0, 1) := by decide +kernel
theorem dX9_gather_1 : decode cX9_gather 1 = .ok (.invokevirtual 61, 3) := by decide +kernel
theorem dX9_gather_4 : decode cX9_gather 4 = .ok (.iconst 0, 1) := by decide +kernel
theorem dX9_gather_5 : decode cX9_gather 5 = .ok (.istore_n 3, 1) := by decide +kernel
theorem dX9_gather_6 : decode cX9_gather 6 = .ok (.iload_n 3, 1) := by decide +kernel
theorem dX9_gather_7 : decode cX9_gather 7 = .ok (.bipush 8, 2) := by decide +kernel
theorem dX9_gather_9 : decode cX9_gather 9 = .ok (.if_icmp .ge 58, 3) := by decide +kernel
theorem dX9_gather_12 : decode cX9_gather 12 = .ok (.iload_n 2, 1) := by decide +kernel
theorem dX9_gather_13 : decode cX9_gather 13 = .ok (.iload_n 3, 1) := by decide +kernel
theorem dX9_gather_14 : decode cX9_gather 14 = .ok (.ishr, 1) := by decide +kernel
theorem dX9_gather_15 : decode cX9_gather 15 = .ok (.iconst 1, 1) := by decide +kernel
theorem dX9_gather_16 : decode cX9_gather 16 = .ok (.iand, 1) := by decide +kernel
theorem dX9_gather_17 : decode cX9_gather 17 = .ok (.ifCond .eq 44, 3) := by decide +kernel
theorem dX9_gather_20 : decode cX9_gather 20 = .ok (.aload_n 1, 1) := by decide +kernel
theorem dX9_gather_21 : decode cX9_gather 21 = .ok (.iload_n 3, 1) := by decide +kernel
theorem dX9_gather_22 : decode cX9_gather 22 = .ok (.aaload, 1) := by decide +kernel
theorem dX9_gather_23 : decode cX9_gather 23 = .ok (.invokestatic 64, 3) := by decide +kernel
theorem dX9_gather_26 : decode cX9_gather 26 = .ok (.ldc2_w 70, 3) := by decide +kernel
theorem dX9_gather_29 : decode cX9_gather 29 = .ok (.lcmp, 1) := by decide +kernel
theorem dX9_gather_30 : decode cX9_gather 30 = .ok (.ifCond .eq 5, 3) := by decide +kernel
theorem dX9_gather_33 : decode cX9_gather 33 = .ok (.iconst 0, 1) := by decide +kernel
theorem dX9_gather_34 : decode cX9_gather 34 = .ok (.ireturn, 1) := by decide +kernel
theorem dX9_gather_35 : decode cX9_gather 35 = .ok (.aload_n 0, 1) := by decide +kernel
theorem dX9_gather_36 : decode cX9_gather 36 = .ok (.getfield 35, 3) := by decide +kernel
theorem dX9_gather_39 : decode cX9_gather 39 = .ok (.aload_n 1, 1) := by decide +kernel
theorem dX9_gather_40 : decode cX9_gather 40 = .ok (.iload_n 3, 1) := by decide +kernel
theorem dX9_gather_41 : decode cX9_gather 41 = .ok (.aaload, 1) := by decide +kernel
theorem dX9_gather_42 : decode cX9_gather 42 = .ok (.invokevirtual 72, 3) := by decide +kernel
theorem dX9_gather_45 : decode cX9_gather 45 = .ok (.istore 4, 2) := by decide +kernel
theorem dX9_gather_47 : decode cX9_gather 47 = .ok (.iload 4, 2) := by decide +kernel
theorem dX9_gather_49 : decode cX9_gather 49 = .ok (.iconst (-1), 1) := by decide +kernel
theorem dX9_gather_50 : decode cX9_gather 50 = .ok (.if_icmp .ne 5, 3) := by decide +kernel
theorem dX9_gather_53 : decode cX9_gather 53 = .ok (.iconst 0, 1) := by decide +kernel
theorem dX9_gather_54 : decode cX9_gather 54 = .ok (.ireturn, 1) := by decide +kernel
theorem dX9_gather_55 : decode cX9_gather 55 = .ok (.aload_n 0, 1) := by decide +kernel
theorem dX9_gather_56 : decode cX9_gather 56 = .ok (.iload 4, 2) := by decide +kernel
theorem dX9_gather_58 : decode cX9_gather 58 = .ok (.invokevirtual 76, 3) := by decide +kernel
theorem dX9_gather_61 : decode cX9_gather 61 = .ok (.iinc 3 1, 3) := by decide +kernel
theorem dX9_gather_64 : decode cX9_gather 64 = .ok (.goto (-58), 3) := by decide +kernel
theorem dX9_gather_67 : decode cX9_gather 67 = .ok (.aload_n 0, 1) := by decide +kernel
theorem dX9_gather_68 : decode cX9_gather 68 = .ok (.invokevirtual 80, 3) := by decide +kernel
theorem dX9_gather_71 : decode cX9_gather 71 = .ok (.iconst 1, 1) := by decide +kernel
theorem dX9_gather_72 : decode cX9_gather 72 = .ok (.ireturn, 1) := by decide +kernel
theorem dX9_gatheredAt_0 : decode cX9_gatheredAt 0 = .ok (.iconst 0, 1) := by decide +kernel
theorem dX9_gatheredAt_1 : decode cX9_gatheredAt 1 = .ok (.istore_n 2, 1) := by decide +kernel
theorem dX9_gatheredAt_2 : decode cX9_gatheredAt 2 = .ok (.iconst 0, 1) := by decide +kernel
theorem dX9_gatheredAt_3 : decode cX9_gatheredAt 3 = .ok (.istore_n 3, 1) := by decide +kernel
theorem dX9_gatheredAt_4 : decode cX9_gatheredAt 4 = .ok (.iload_n 3, 1) := by decide +kernel
theorem dX9_gatheredAt_5 : decode cX9_gatheredAt 5 = .ok (.sipush 240, 3) := by decide +kernel
theorem dX9_gatheredAt_8 : decode cX9_gatheredAt 8 = .ok (.if_icmp .ge 28, 3) := by decide +kernel
theorem dX9_gatheredAt_11 : decode cX9_gatheredAt 11 = .ok (.aload_n 0, 1) := by decide +kernel
theorem dX9_gatheredAt_12 : decode cX9_gatheredAt 12 = .ok (.getfield 28, 3) := by decide +kernel
theorem dX9_gatheredAt_15 : decode cX9_gatheredAt 15 = .ok (.iload_n 3, 1) := by decide +kernel
theorem dX9_gatheredAt_16 : decode cX9_gatheredAt 16 = .ok (.baload, 1) := by decide +kernel
theorem dX9_gatheredAt_17 : decode cX9_gatheredAt 17 = .ok (.ifCond .eq 13, 3) := by decide +kernel
theorem dX9_gatheredAt_20 : decode cX9_gatheredAt 20 = .ok (.iload_n 2, 1) := by decide +kernel
theorem dX9_gatheredAt_21 : decode cX9_gatheredAt 21 = .ok (.iload_n 1, 1) := by decide +kernel
theorem dX9_gatheredAt_22 : decode cX9_gatheredAt 22 = .ok (.if_icmp .ne 5, 3) := by decide +kernel
theorem dX9_gatheredAt_25 : decode cX9_gatheredAt 25 = .ok (.iload_n 3, 1) := by decide +kernel
theorem dX9_gatheredAt_26 : decode cX9_gatheredAt 26 = .ok (.ireturn, 1) := by decide +kernel
theorem dX9_gatheredAt_27 : decode cX9_gatheredAt 27 = .ok (.iinc 2 1, 3) := by decide +kernel
theorem dX9_gatheredAt_30 : decode cX9_gatheredAt 30 = .ok (.iinc 3 1, 3) := by decide +kernel
theorem dX9_gatheredAt_33 : decode cX9_gatheredAt 33 = .ok (.goto (-29), 3) := by decide +kernel
theorem dX9_gatheredAt_36 : decode cX9_gatheredAt 36 = .ok (.iconst (-1), 1) := by decide +kernel
theorem dX9_gatheredAt_37 : decode cX9_gatheredAt 37 = .ok (.ireturn, 1) := by decide +kernel
theorem dX9_areAssociative_0 : decode cX9_areAssociative 0 = .ok (.iconst 0, 1) := by decide +kernel
theorem dX9_areAssociative_1 : decode cX9_areAssociative 1 = .ok (.istore_n 1, 1) := by decide +kernel
theorem dX9_areAssociative_2 : decode cX9_areAssociative 2 = .ok (.iload_n 1, 1) := by decide +kernel
theorem dX9_areAssociative_3 : decode cX9_areAssociative 3 = .ok (.aload_n 0, 1) := by decide +kernel
theorem dX9_areAssociative_4 : decode cX9_areAssociative 4 = .ok (.getfield 32, 3) := by decide +kernel
theorem dX9_areAssociative_7 : decode cX9_areAssociative 7 = .ok (.if_icmp .ge 37, 3) := by decide +kernel
theorem dX9_areAssociative_10 : decode cX9_areAssociative 10 = .ok (.aload_n 0, 1) := by decide +kernel
theorem dX9_areAssociative_11 : decode cX9_areAssociative 11 = .ok (.aload_n 0, 1) := by decide +kernel
theorem dX9_areAssociative_12 : decode cX9_areAssociative 12 = .ok (.getfield 25, 3) := by decide +kernel
theorem dX9_areAssociative_15 : decode cX9_areAssociative 15 = .ok (.iload_n 1, 1) := by decide +kernel
theorem dX9_areAssociative_16 : decode cX9_areAssociative 16 = .ok (.iaload, 1) := by decide +kernel
theorem dX9_areAssociative_17 : decode cX9_areAssociative 17 = .ok (.invokevirtual 83, 3) := by decide +kernel
theorem dX9_areAssociative_20 : decode cX9_areAssociative 20 = .ok (.ifCond .ne 18, 3) := by decide +kernel
theorem dX9_areAssociative_23 : decode cX9_areAssociative 23 = .ok (.aload_n 0, 1) := by decide +kernel
theorem dX9_areAssociative_24 : decode cX9_areAssociative 24 = .ok (.aload_n 0, 1) := by decide +kernel
theorem dX9_areAssociative_25 : decode cX9_areAssociative 25 = .ok (.getfield 25, 3) := by decide +kernel
theorem dX9_areAssociative_28 : decode cX9_areAssociative 28 = .ok (.iload_n 1, 1) := by decide +kernel
theorem dX9_areAssociative_29 : decode cX9_areAssociative 29 = .ok (.iaload, 1) := by decide +kernel
theorem dX9_areAssociative_30 : decode cX9_areAssociative 30 = .ok (.invokevirtual 87, 3) := by decide +kernel
theorem dX9_areAssociative_33 : decode cX9_areAssociative 33 = .ok (.ifCond .ne 5, 3) := by decide +kernel
theorem dX9_areAssociative_36 : decode cX9_areAssociative 36 = .ok (.iconst 0, 1) := by decide +kernel
theorem dX9_areAssociative_37 : decode cX9_areAssociative 37 = .ok (.ireturn, 1) := by decide +kernel
theorem dX9_areAssociative_38 : decode cX9_areAssociative 38 = .ok (.iinc 1 1, 3) := by decide +kernel
theorem dX9_areAssociative_41 : decode cX9_areAssociative 41 = .ok (.goto (-39), 3) := by decide +kernel
theorem dX9_areAssociative_44 : decode cX9_areAssociative 44 = .ok (.iconst 1, 1) := by decide +kernel
theorem dX9_areAssociative_45 : decode cX9_areAssociative 45 = .ok (.ireturn, 1) := by decide +kernel
theorem dX9_manyCentral_0 : decode cX9_manyCentral 0 = .ok (.iconst 0, 1) := by decide +kernel
theorem dX9_manyCentral_1 : decode cX9_manyCentral 1 = .ok (.istore_n 1, 1) := by decide +kernel
theorem dX9_manyCentral_2 : decode cX9_manyCentral 2 = .ok (.iconst 0, 1) := by decide +kernel
theorem dX9_manyCentral_3 : decode cX9_manyCentral 3 = .ok (.istore_n 2, 1) := by decide +kernel
theorem dX9_manyCentral_4 : decode cX9_manyCentral 4 = .ok (.iload_n 2, 1) := by decide +kernel
theorem dX9_manyCentral_5 : decode cX9_manyCentral 5 = .ok (.aload_n 0, 1) := by decide +kernel
theorem dX9_manyCentral_6 : decode cX9_manyCentral 6 = .ok (.getfield 32, 3) := by decide +kernel
theorem dX9_manyCentral_9 : decode cX9_manyCentral 9 = .ok (.if_icmp .ge 25, 3) := by decide +kernel
theorem dX9_manyCentral_12 : decode cX9_manyCentral 12 = .ok (.aload_n 0, 1) := by decide +kernel
theorem dX9_manyCentral_13 : decode cX9_manyCentral 13 = .ok (.aload_n 0, 1) := by decide +kernel
theorem dX9_manyCentral_14 : decode cX9_manyCentral 14 = .ok (.getfield 25, 3) := by decide +kernel
theorem dX9_manyCentral_17 : decode cX9_manyCentral 17 = .ok (.iload_n 2, 1) := by decide +kernel
theorem dX9_manyCentral_18 : decode cX9_manyCentral 18 = .ok (.iaload, 1) := by decide +kernel
theorem dX9_manyCentral_19 : decode cX9_manyCentral 19 = .ok (.invokevirtual 90, 3) := by decide +kernel
theorem dX9_manyCentral_22 : decode cX9_manyCentral 22 = .ok (.ifCond .eq 6, 3) := by decide +kernel
theorem dX9_manyCentral_25 : decode cX9_manyCentral 25 = .ok (.iinc 1 1, 3) := by decide +kernel
theorem dX9_manyCentral_28 : decode cX9_manyCentral 28 = .ok (.iinc 2 1, 3) := by decide +kernel
theorem dX9_manyCentral_31 : decode cX9_manyCentral 31 = .ok (.goto (-27), 3) := by decide +kernel
theorem dX9_manyCentral_34 : decode cX9_manyCentral 34 = .ok (.iload_n 1, 1) := by decide +kernel
theorem dX9_manyCentral_35 : decode cX9_manyCentral 35 = .ok (.ireturn, 1) := by decide +kernel
theorem dX9_manyOwnInverse_0 : decode cX9_manyOwnInverse 0 = .ok (.aload_n 0, 1) := by decide +kernel
theorem dX9_manyOwnInverse_1 : decode cX9_manyOwnInverse 1 = .ok (.getfield 35, 3) := by decide +kernel
theorem dX9_manyOwnInverse_4 : decode cX9_manyOwnInverse 4 = .ok (.iconst 1, 1) := by decide +kernel
theorem dX9_manyOwnInverse_5 : decode cX9_manyOwnInverse 5 = .ok (.invokevirtual 43, 3) := by decide +kernel
theorem dX9_manyOwnInverse_8 : decode cX9_manyOwnInverse 8 = .ok (.iconst 1, 1) := by decide +kernel
theorem dX9_manyOwnInverse_9 : decode cX9_manyOwnInverse 9 = .ok (.isub, 1) := by decide +kernel
theorem dX9_manyOwnInverse_10 : decode cX9_manyOwnInverse 10 = .ok (.istore_n 1, 1) := by decide +kernel
theorem dX9_manyOwnInverse_11 : decode cX9_manyOwnInverse 11 = .ok (.iconst 0, 1) := by decide +kernel
theorem dX9_manyOwnInverse_12 : decode cX9_manyOwnInverse 12 = .ok (.istore_n 2, 1) := by decide +kernel
theorem dX9_manyOwnInverse_13 : decode cX9_manyOwnInverse 13 = .ok (.iconst 0, 1) := by decide +kernel
theorem dX9_manyOwnInverse_14 : decode cX9_manyOwnInverse 14 = .ok (.istore_n 3, 1) := by decide +kernel
theorem dX9_manyOwnInverse_15 : decode cX9_manyOwnInverse 15 = .ok (.iload_n 3, 1) := by decide +kernel
theorem dX9_manyOwnInverse_16 : decode cX9_manyOwnInverse 16 = .ok (.aload_n 0, 1) := by decide +kernel
theorem dX9_manyOwnInverse_17 : decode cX9_manyOwnInverse 17 = .ok (.getfield 32, 3) := by decide +kernel
theorem dX9_manyOwnInverse_20 : decode cX9_manyOwnInverse 20 = .ok (.if_icmp .ge 32, 3) := by decide +kernel
theorem dX9_manyOwnInverse_23 : decode cX9_manyOwnInverse 23 = .ok (.aload_n 0, 1) := by decide +kernel
theorem dX9_manyOwnInverse_24 : decode cX9_manyOwnInverse 24 = .ok (.aload_n 0, 1) := by decide +kernel
theorem dX9_manyOwnInverse_25 : decode cX9_manyOwnInverse 25 = .ok (.getfield 25, 3) := by decide +kernel
theorem dX9_manyOwnInverse_28 : decode cX9_manyOwnInverse 28 = .ok (.iload_n 3, 1) := by decide +kernel
theorem dX9_manyOwnInverse_29 : decode cX9_manyOwnInverse 29 = .ok (.iaload, 1) := by decide +kernel
theorem dX9_manyOwnInverse_30 : decode cX9_manyOwnInverse 30 = .ok (.aload_n 0, 1) := by decide +kernel
theorem dX9_manyOwnInverse_31 : decode cX9_manyOwnInverse 31 = .ok (.getfield 25, 3) := by decide +kernel
theorem dX9_manyOwnInverse_34 : decode cX9_manyOwnInverse 34 = .ok (.iload_n 3, 1) := by decide +kernel
theorem dX9_manyOwnInverse_35 : decode cX9_manyOwnInverse 35 = .ok (.iaload, 1) := by decide +kernel
theorem dX9_manyOwnInverse_36 : decode cX9_manyOwnInverse 36 = .ok (.invokevirtual 58, 3) := by decide +kernel
theorem dX9_manyOwnInverse_39 : decode cX9_manyOwnInverse 39 = .ok (.iload_n 1, 1) := by decide +kernel
theorem dX9_manyOwnInverse_40 : decode cX9_manyOwnInverse 40 = .ok (.if_icmp .ne 6, 3) := by decide +kernel
theorem dX9_manyOwnInverse_43 : decode cX9_manyOwnInverse 43 = .ok (.iinc 2 1, 3) := by decide +kernel
theorem dX9_manyOwnInverse_46 : decode cX9_manyOwnInverse 46 = .ok (.iinc 3 1, 3) := by decide +kernel
theorem dX9_manyOwnInverse_49 : decode cX9_manyOwnInverse 49 = .ok (.goto (-34), 3) := by decide +kernel
theorem dX9_manyOwnInverse_52 : decode cX9_manyOwnInverse 52 = .ok (.iload_n 2, 1) := by decide +kernel
theorem dX9_manyOwnInverse_53 : decode cX9_manyOwnInverse 53 = .ok (.ireturn, 1) := by decide +kernel
theorem dX9_forgetMembers_0 : decode cX9_forgetMembers 0 = .ok (.iconst 0, 1) := by decide +kernel
theorem dX9_forgetMembers_1 : decode cX9_forgetMembers 1 = .ok (.istore_n 1, 1) := by decide +kernel
theorem dX9_forgetMembers_2 : decode cX9_forgetMembers 2 = .ok (.iload_n 1, 1) := by decide +kernel
theorem dX9_forgetMembers_3 : decode cX9_forgetMembers 3 = .ok (.aload_n 0, 1) := by decide +kernel
theorem dX9_forgetMembers_4 : decode cX9_forgetMembers 4 = .ok (.getfield 32, 3) := by decide +kernel
theorem dX9_forgetMembers_7 : decode cX9_forgetMembers 7 = .ok (.if_icmp .ge 21, 3) := by decide +kernel
theorem dX9_forgetMembers_10 : decode cX9_forgetMembers 10 = .ok (.aload_n 0, 1) := by decide +kernel
theorem dX9_forgetMembers_11 : decode cX9_forgetMembers 11 = .ok (.getfield 28, 3) := by decide +kernel
theorem dX9_forgetMembers_14 : decode cX9_forgetMembers 14 = .ok (.aload_n 0, 1) := by decide +kernel
theorem dX9_forgetMembers_15 : decode cX9_forgetMembers 15 = .ok (.getfield 25, 3) := by decide +kernel
theorem dX9_forgetMembers_18 : decode cX9_forgetMembers 18 = .ok (.iload_n 1, 1) := by decide +kernel
theorem dX9_forgetMembers_19 : decode cX9_forgetMembers 19 = .ok (.iaload, 1) := by decide +kernel
theorem dX9_forgetMembers_20 : decode cX9_forgetMembers 20 = .ok (.iconst 0, 1) := by decide +kernel
theorem dX9_forgetMembers_21 : decode cX9_forgetMembers 21 = .ok (.bastore, 1) := by decide +kernel
theorem dX9_forgetMembers_22 : decode cX9_forgetMembers 22 = .ok (.iinc 1 1, 3) := by decide +kernel
theorem dX9_forgetMembers_25 : decode cX9_forgetMembers 25 = .ok (.goto (-23), 3) := by decide +kernel
theorem dX9_forgetMembers_28 : decode cX9_forgetMembers 28 = .ok (.aload_n 0, 1) := by decide +kernel
theorem dX9_forgetMembers_29 : decode cX9_forgetMembers 29 = .ok (.iconst 0, 1) := by decide +kernel
theorem dX9_forgetMembers_30 : decode cX9_forgetMembers 30 = .ok (.putfield 32, 3) := by decide +kernel
theorem dX9_forgetMembers_33 : decode cX9_forgetMembers 33 = .ok (.return_, 1) := by decide +kernel
theorem dX9_admit_0 : decode cX9_admit 0 = .ok (.iload_n 1, 1) := by decide +kernel
theorem dX9_admit_1 : decode cX9_admit 1 = .ok (.ifCond .lt 56, 3) := by decide +kernel
theorem dX9_admit_4 : decode cX9_admit 4 = .ok (.iload_n 1, 1) := by decide +kernel
theorem dX9_admit_5 : decode cX9_admit 5 = .ok (.sipush 240, 3) := by decide +kernel
theorem dX9_admit_8 : decode cX9_admit 8 = .ok (.if_icmp .ge 49, 3) := by decide +kernel
theorem dX9_admit_11 : decode cX9_admit 11 = .ok (.aload_n 0, 1) := by decide +kernel
theorem dX9_admit_12 : decode cX9_admit 12 = .ok (.getfield 32, 3) := by decide +kernel
theorem dX9_admit_15 : decode cX9_admit 15 = .ok (.sipush 240, 3) := by decide +kernel
theorem dX9_admit_18 : decode cX9_admit 18 = .ok (.if_icmp .ge 39, 3) := by decide +kernel
theorem dX9_admit_21 : decode cX9_admit 21 = .ok (.aload_n 0, 1) := by decide +kernel
theorem dX9_admit_22 : decode cX9_admit 22 = .ok (.getfield 28, 3) := by decide +kernel
theorem dX9_admit_25 : decode cX9_admit 25 = .ok (.iload_n 1, 1) := by decide +kernel
theorem dX9_admit_26 : decode cX9_admit 26 = .ok (.baload, 1) := by decide +kernel
theorem dX9_admit_27 : decode cX9_admit 27 = .ok (.ifCond .ne 30, 3) := by decide +kernel
theorem dX9_admit_30 : decode cX9_admit 30 = .ok (.aload_n 0, 1) := by decide +kernel
theorem dX9_admit_31 : decode cX9_admit 31 = .ok (.getfield 28, 3) := by decide +kernel
theorem dX9_admit_34 : decode cX9_admit 34 = .ok (.iload_n 1, 1) := by decide +kernel
theorem dX9_admit_35 : decode cX9_admit 35 = .ok (.iconst 1, 1) := by decide +kernel
theorem dX9_admit_36 : decode cX9_admit 36 = .ok (.bastore, 1) := by decide +kernel
theorem dX9_admit_37 : decode cX9_admit 37 = .ok (.aload_n 0, 1) := by decide +kernel
theorem dX9_admit_38 : decode cX9_admit 38 = .ok (.getfield 25, 3) := by decide +kernel
theorem dX9_admit_41 : decode cX9_admit 41 = .ok (.aload_n 0, 1) := by decide +kernel
theorem dX9_admit_42 : decode cX9_admit 42 = .ok (.getfield 32, 3) := by decide +kernel
theorem dX9_admit_45 : decode cX9_admit 45 = .ok (.iload_n 1, 1) := by decide +kernel
theorem dX9_admit_46 : decode cX9_admit 46 = .ok (.iastore, 1) := by decide +kernel
theorem dX9_admit_47 : decode cX9_admit 47 = .ok (.aload_n 0, 1) := by decide +kernel
theorem dX9_admit_48 : decode cX9_admit 48 = .ok (.dup, 1) := by decide +kernel
theorem dX9_admit_49 : decode cX9_admit 49 = .ok (.getfield 32, 3) := by decide +kernel
theorem dX9_admit_52 : decode cX9_admit 52 = .ok (.iconst 1, 1) := by decide +kernel
theorem dX9_admit_53 : decode cX9_admit 53 = .ok (.iadd, 1) := by decide +kernel
theorem dX9_admit_54 : decode cX9_admit 54 = .ok (.putfield 32, 3) := by decide +kernel
theorem dX9_admit_57 : decode cX9_admit 57 = .ok (.return_, 1) := by decide +kernel
theorem dX9_close_0 : decode cX9_close 0 = .ok (.aload_n 0, 1) := by decide +kernel
theorem dX9_close_1 : decode cX9_close 1 = .ok (.getfield 35, 3) := by decide +kernel
theorem dX9_close_4 : decode cX9_close 4 = .ok (.iconst 1, 1) := by decide +kernel
theorem dX9_close_5 : decode cX9_close 5 = .ok (.invokevirtual 43, 3) := by decide +kernel
theorem dX9_close_8 : decode cX9_close 8 = .ok (.istore_n 1, 1) := by decide +kernel
theorem dX9_close_9 : decode cX9_close 9 = .ok (.iconst 0, 1) := by decide +kernel
theorem dX9_close_10 : decode cX9_close 10 = .ok (.istore_n 2, 1) := by decide +kernel
theorem dX9_close_11 : decode cX9_close 11 = .ok (.iload_n 2, 1) := by decide +kernel
theorem dX9_close_12 : decode cX9_close 12 = .ok (.aload_n 0, 1) := by decide +kernel
theorem dX9_close_13 : decode cX9_close 13 = .ok (.getfield 32, 3) := by decide +kernel
theorem dX9_close_16 : decode cX9_close 16 = .ok (.if_icmp .ge 70, 3) := by decide +kernel
theorem dX9_close_19 : decode cX9_close 19 = .ok (.aload_n 0, 1) := by decide +kernel
theorem dX9_close_20 : decode cX9_close 20 = .ok (.getfield 32, 3) := by decide +kernel
theorem dX9_close_23 : decode cX9_close 23 = .ok (.iload_n 1, 1) := by decide +kernel
theorem dX9_close_24 : decode cX9_close 24 = .ok (.if_icmp .ge 62, 3) := by decide +kernel
theorem dX9_close_27 : decode cX9_close 27 = .ok (.iconst 0, 1) := by decide +kernel
theorem dX9_close_28 : decode cX9_close 28 = .ok (.istore_n 3, 1) := by decide +kernel
theorem dX9_close_29 : decode cX9_close 29 = .ok (.iload_n 3, 1) := by decide +kernel
theorem dX9_close_30 : decode cX9_close 30 = .ok (.iload_n 2, 1) := by decide +kernel
theorem dX9_close_31 : decode cX9_close 31 = .ok (.if_icmp .gt 49, 3) := by decide +kernel
theorem dX9_close_34 : decode cX9_close 34 = .ok (.aload_n 0, 1) := by decide +kernel
theorem dX9_close_35 : decode cX9_close 35 = .ok (.aload_n 0, 1) := by decide +kernel
theorem dX9_close_36 : decode cX9_close 36 = .ok (.aload_n 0, 1) := by decide +kernel
theorem dX9_close_37 : decode cX9_close 37 = .ok (.getfield 25, 3) := by decide +kernel
theorem dX9_close_40 : decode cX9_close 40 = .ok (.iload_n 2, 1) := by decide +kernel
theorem dX9_close_41 : decode cX9_close 41 = .ok (.iaload, 1) := by decide +kernel
theorem dX9_close_42 : decode cX9_close 42 = .ok (.aload_n 0, 1) := by decide +kernel
theorem dX9_close_43 : decode cX9_close 43 = .ok (.getfield 25, 3) := by decide +kernel
theorem dX9_close_46 : decode cX9_close 46 = .ok (.iload_n 3, 1) := by decide +kernel
theorem dX9_close_47 : decode cX9_close 47 = .ok (.iaload, 1) := by decide +kernel
theorem dX9_close_48 : decode cX9_close 48 = .ok (.invokevirtual 58, 3) := by decide +kernel
theorem dX9_close_51 : decode cX9_close 51 = .ok (.invokevirtual 76, 3) := by decide +kernel
theorem dX9_close_54 : decode cX9_close 54 = .ok (.aload_n 0, 1) := by decide +kernel
theorem dX9_close_55 : decode cX9_close 55 = .ok (.aload_n 0, 1) := by decide +kernel
theorem dX9_close_56 : decode cX9_close 56 = .ok (.aload_n 0, 1) := by decide +kernel
theorem dX9_close_57 : decode cX9_close 57 = .ok (.getfield 25, 3) := by decide +kernel
theorem dX9_close_60 : decode cX9_close 60 = .ok (.iload_n 3, 1) := by decide +kernel
theorem dX9_close_61 : decode cX9_close 61 = .ok (.iaload, 1) := by decide +kernel
theorem dX9_close_62 : decode cX9_close 62 = .ok (.aload_n 0, 1) := by decide +kernel
theorem dX9_close_63 : decode cX9_close 63 = .ok (.getfield 25, 3) := by decide +kernel
theorem dX9_close_66 : decode cX9_close 66 = .ok (.iload_n 2, 1) := by decide +kernel
theorem dX9_close_67 : decode cX9_close 67 = .ok (.iaload, 1) := by decide +kernel
theorem dX9_close_68 : decode cX9_close 68 = .ok (.invokevirtual 58, 3) := by decide +kernel
theorem dX9_close_71 : decode cX9_close 71 = .ok (.invokevirtual 76, 3) := by decide +kernel
theorem dX9_close_74 : decode cX9_close 74 = .ok (.iinc 3 1, 3) := by decide +kernel
theorem dX9_close_77 : decode cX9_close 77 = .ok (.goto (-48), 3) := by decide +kernel
theorem dX9_close_80 : decode cX9_close 80 = .ok (.iinc 2 1, 3) := by decide +kernel
theorem dX9_close_83 : decode cX9_close 83 = .ok (.goto (-72), 3) := by decide +kernel
theorem dX9_close_86 : decode cX9_close 86 = .ok (.return_, 1) := by decide +kernel
theorem dX9_isReal_0 : decode cX9_isReal 0 = .ok (.iload_n 1, 1) := by decide +kernel
theorem dX9_isReal_1 : decode cX9_isReal 1 = .ok (.ifCond .eq 17, 3) := by decide +kernel
theorem dX9_isReal_4 : decode cX9_isReal 4 = .ok (.iload_n 1, 1) := by decide +kernel
theorem dX9_isReal_5 : decode cX9_isReal 5 = .ok (.aload_n 0, 1) := by decide +kernel
theorem dX9_isReal_6 : decode cX9_isReal 6 = .ok (.getfield 35, 3) := by decide +kernel
theorem dX9_isReal_9 : decode cX9_isReal 9 = .ok (.iconst 1, 1) := by decide +kernel
theorem dX9_isReal_10 : decode cX9_isReal 10 = .ok (.invokevirtual 43, 3) := by decide +kernel
theorem dX9_isReal_13 : decode cX9_isReal 13 = .ok (.iconst 1, 1) := by decide +kernel
theorem dX9_isReal_14 : decode cX9_isReal 14 = .ok (.isub, 1) := by decide +kernel
theorem dX9_isReal_15 : decode cX9_isReal 15 = .ok (.if_icmp .ne 7, 3) := by decide +kernel
theorem dX9_isReal_18 : decode cX9_isReal 18 = .ok (.iconst 1, 1) := by decide +kernel
theorem dX9_isReal_19 : decode cX9_isReal 19 = .ok (.goto 4, 3) := by decide +kernel
theorem dX9_isReal_22 : decode cX9_isReal 22 = .ok (.iconst 0, 1) := by decide +kernel
theorem dX9_isReal_23 : decode cX9_isReal 23 = .ok (.ireturn, 1) := by decide +kernel
theorem dX9_associatesWithAll_0 : decode cX9_associatesWithAll 0 = .ok (.iconst 0, 1) := by decide +kernel
theorem dX9_associatesWithAll_1 : decode cX9_associatesWithAll 1 = .ok (.istore_n 2, 1) := by decide +kernel
theorem dX9_associatesWithAll_2 : decode cX9_associatesWithAll 2 = .ok (.iload_n 2, 1) := by decide +kernel
theorem dX9_associatesWithAll_3 : decode cX9_associatesWithAll 3 = .ok (.aload_n 0, 1) := by decide +kernel
theorem dX9_associatesWithAll_4 : decode cX9_associatesWithAll 4 = .ok (.getfield 32, 3) := by decide +kernel
theorem dX9_associatesWithAll_7 : decode cX9_associatesWithAll 7 = .ok (.if_icmp .ge 82, 3) := by decide +kernel
theorem dX9_associatesWithAll_10 : decode cX9_associatesWithAll 10 = .ok (.aload_n 0, 1) := by decide +kernel
theorem dX9_associatesWithAll_11 : decode cX9_associatesWithAll 11 = .ok (.iload_n 1, 1) := by decide +kernel
theorem dX9_associatesWithAll_12 : decode cX9_associatesWithAll 12 = .ok (.aload_n 0, 1) := by decide +kernel
theorem dX9_associatesWithAll_13 : decode cX9_associatesWithAll 13 = .ok (.getfield 25, 3) := by decide +kernel
theorem dX9_associatesWithAll_16 : decode cX9_associatesWithAll 16 = .ok (.iload_n 2, 1) := by decide +kernel
theorem dX9_associatesWithAll_17 : decode cX9_associatesWithAll 17 = .ok (.iaload, 1) := by decide +kernel
theorem dX9_associatesWithAll_18 : decode cX9_associatesWithAll 18 = .ok (.invokevirtual 58, 3) := by decide +kernel
theorem dX9_associatesWithAll_21 : decode cX9_associatesWithAll 21 = .ok (.istore_n 3, 1) := by decide +kernel
theorem dX9_associatesWithAll_22 : decode cX9_associatesWithAll 22 = .ok (.iconst 0, 1) := by decide +kernel
theorem dX9_associatesWithAll_23 : decode cX9_associatesWithAll 23 = .ok (.istore 4, 2) := by decide +kernel
theorem dX9_associatesWithAll_25 : decode cX9_associatesWithAll 25 = .ok (.iload 4, 2) := by decide +kernel
theorem dX9_associatesWithAll_27 : decode cX9_associatesWithAll 27 = .ok (.aload_n 0, 1) := by decide +kernel
theorem dX9_associatesWithAll_28 : decode cX9_associatesWithAll 28 = .ok (.getfield 32, 3) := by decide +kernel
theorem dX9_associatesWithAll_31 : decode cX9_associatesWithAll 31 = .ok (.if_icmp .ge 52, 3) := by decide +kernel
theorem dX9_associatesWithAll_34 : decode cX9_associatesWithAll 34 = .ok (.aload_n 0, 1) := by decide +kernel
theorem dX9_associatesWithAll_35 : decode cX9_associatesWithAll 35 = .ok (.aload_n 0, 1) := by decide +kernel
theorem dX9_associatesWithAll_36 : decode cX9_associatesWithAll 36 = .ok (.getfield 25, 3) := by decide +kernel
theorem dX9_associatesWithAll_39 : decode cX9_associatesWithAll 39 = .ok (.iload_n 2, 1) := by decide +kernel
theorem dX9_associatesWithAll_40 : decode cX9_associatesWithAll 40 = .ok (.iaload, 1) := by decide +kernel
theorem dX9_associatesWithAll_41 : decode cX9_associatesWithAll 41 = .ok (.aload_n 0, 1) := by decide +kernel
theorem dX9_associatesWithAll_42 : decode cX9_associatesWithAll 42 = .ok (.getfield 25, 3) := by decide +kernel
theorem dX9_associatesWithAll_45 : decode cX9_associatesWithAll 45 = .ok (.iload 4, 2) := by decide +kernel
theorem dX9_associatesWithAll_47 : decode cX9_associatesWithAll 47 = .ok (.iaload, 1) := by decide +kernel
theorem dX9_associatesWithAll_48 : decode cX9_associatesWithAll 48 = .ok (.invokevirtual 58, 3) := by decide +kernel
theorem dX9_associatesWithAll_51 : decode cX9_associatesWithAll 51 = .ok (.istore 5, 2) := by decide +kernel
theorem dX9_associatesWithAll_53 : decode cX9_associatesWithAll 53 = .ok (.aload_n 0, 1) := by decide +kernel
theorem dX9_associatesWithAll_54 : decode cX9_associatesWithAll 54 = .ok (.iload_n 3, 1) := by decide +kernel
theorem dX9_associatesWithAll_55 : decode cX9_associatesWithAll 55 = .ok (.aload_n 0, 1) := by decide +kernel
theorem dX9_associatesWithAll_56 : decode cX9_associatesWithAll 56 = .ok (.getfield 25, 3) := by decide +kernel
theorem dX9_associatesWithAll_59 : decode cX9_associatesWithAll 59 = .ok (.iload 4, 2) := by decide +kernel
theorem dX9_associatesWithAll_61 : decode cX9_associatesWithAll 61 = .ok (.iaload, 1) := by decide +kernel
theorem dX9_associatesWithAll_62 : decode cX9_associatesWithAll 62 = .ok (.invokevirtual 58, 3) := by decide +kernel
theorem dX9_associatesWithAll_65 : decode cX9_associatesWithAll 65 = .ok (.aload_n 0, 1) := by decide +kernel
theorem dX9_associatesWithAll_66 : decode cX9_associatesWithAll 66 = .ok (.iload_n 1, 1) := by decide +kernel
theorem dX9_associatesWithAll_67 : decode cX9_associatesWithAll 67 = .ok (.iload 5, 2) := by decide +kernel
theorem dX9_associatesWithAll_69 : decode cX9_associatesWithAll 69 = .ok (.invokevirtual 58, 3) := by decide +kernel
theorem dX9_associatesWithAll_72 : decode cX9_associatesWithAll 72 = .ok (.if_icmp .eq 5, 3) := by decide +kernel
theorem dX9_associatesWithAll_75 : decode cX9_associatesWithAll 75 = .ok (.iconst 0, 1) := by decide +kernel
theorem dX9_associatesWithAll_76 : decode cX9_associatesWithAll 76 = .ok (.ireturn, 1) := by decide +kernel
theorem dX9_associatesWithAll_77 : decode cX9_associatesWithAll 77 = .ok (.iinc 4 1, 3) := by decide +kernel
theorem dX9_associatesWithAll_80 : decode cX9_associatesWithAll 80 = .ok (.goto (-55), 3) := by decide +kernel
theorem dX9_associatesWithAll_83 : decode cX9_associatesWithAll 83 = .ok (.iinc 2 1, 3) := by decide +kernel
theorem dX9_associatesWithAll_86 : decode cX9_associatesWithAll 86 = .ok (.goto (-84), 3) := by decide +kernel
theorem dX9_associatesWithAll_89 : decode cX9_associatesWithAll 89 = .ok (.iconst 1, 1) := by decide +kernel
theorem dX9_associatesWithAll_90 : decode cX9_associatesWithAll 90 = .ok (.ireturn, 1) := by decide +kernel
theorem dX9_commutesWithAll_0 : decode cX9_commutesWithAll 0 = .ok (.iconst 0, 1) := by decide +kernel
theorem dX9_commutesWithAll_1 : decode cX9_commutesWithAll 1 = .ok (.istore_n 2, 1) := by decide +kernel
theorem dX9_commutesWithAll_2 : decode cX9_commutesWithAll 2 = .ok (.iload_n 2, 1) := by decide +kernel
theorem dX9_commutesWithAll_3 : decode cX9_commutesWithAll 3 = .ok (.aload_n 0, 1) := by decide +kernel
theorem dX9_commutesWithAll_4 : decode cX9_commutesWithAll 4 = .ok (.getfield 32, 3) := by decide +kernel
theorem dX9_commutesWithAll_7 : decode cX9_commutesWithAll 7 = .ok (.if_icmp .ge 36, 3) := by decide +kernel
theorem dX9_commutesWithAll_10 : decode cX9_commutesWithAll 10 = .ok (.aload_n 0, 1) := by decide +kernel
theorem dX9_commutesWithAll_11 : decode cX9_commutesWithAll 11 = .ok (.iload_n 1, 1) := by decide +kernel
theorem dX9_commutesWithAll_12 : decode cX9_commutesWithAll 12 = .ok (.aload_n 0, 1) := by decide +kernel
theorem dX9_commutesWithAll_13 : decode cX9_commutesWithAll 13 = .ok (.getfield 25, 3) := by decide +kernel
theorem dX9_commutesWithAll_16 : decode cX9_commutesWithAll 16 = .ok (.iload_n 2, 1) := by decide +kernel
theorem dX9_commutesWithAll_17 : decode cX9_commutesWithAll 17 = .ok (.iaload, 1) := by decide +kernel
theorem dX9_commutesWithAll_18 : decode cX9_commutesWithAll 18 = .ok (.invokevirtual 58, 3) := by decide +kernel
theorem dX9_commutesWithAll_21 : decode cX9_commutesWithAll 21 = .ok (.aload_n 0, 1) := by decide +kernel
theorem dX9_commutesWithAll_22 : decode cX9_commutesWithAll 22 = .ok (.aload_n 0, 1) := by decide +kernel
theorem dX9_commutesWithAll_23 : decode cX9_commutesWithAll 23 = .ok (.getfield 25, 3) := by decide +kernel
theorem dX9_commutesWithAll_26 : decode cX9_commutesWithAll 26 = .ok (.iload_n 2, 1) := by decide +kernel
theorem dX9_commutesWithAll_27 : decode cX9_commutesWithAll 27 = .ok (.iaload, 1) := by decide +kernel
theorem dX9_commutesWithAll_28 : decode cX9_commutesWithAll 28 = .ok (.iload_n 1, 1) := by decide +kernel
theorem dX9_commutesWithAll_29 : decode cX9_commutesWithAll 29 = .ok (.invokevirtual 58, 3) := by decide +kernel
theorem dX9_commutesWithAll_32 : decode cX9_commutesWithAll 32 = .ok (.if_icmp .eq 5, 3) := by decide +kernel
theorem dX9_commutesWithAll_35 : decode cX9_commutesWithAll 35 = .ok (.iconst 0, 1) := by decide +kernel
theorem dX9_commutesWithAll_36 : decode cX9_commutesWithAll 36 = .ok (.ireturn, 1) := by decide +kernel
theorem dX9_commutesWithAll_37 : decode cX9_commutesWithAll 37 = .ok (.iinc 2 1, 3) := by decide +kernel
theorem dX9_commutesWithAll_40 : decode cX9_commutesWithAll 40 = .ok (.goto (-38), 3) := by decide +kernel
theorem dX9_commutesWithAll_43 : decode cX9_commutesWithAll 43 = .ok (.iconst 1, 1) := by decide +kernel
theorem dX9_commutesWithAll_44 : decode cX9_commutesWithAll 44 = .ok (.ireturn, 1) := by decide +kernel
theorem dX9_multiplyNegative_0 : decode cX9_multiplyNegative 0 = .ok (.aload_n 0, 1) := by decide +kernel
theorem dX9_multiplyNegative_1 : decode cX9_multiplyNegative 1 = .ok (.invokevirtual 93, 3) := by decide +kernel
theorem dX9_multiplyNegative_4 : decode cX9_multiplyNegative 4 = .ok (.iload_n 1, 1) := by decide +kernel
theorem dX9_multiplyNegative_5 : decode cX9_multiplyNegative 5 = .ok (.ifCond .lt 19, 3) := by decide +kernel
theorem dX9_multiplyNegative_8 : decode cX9_multiplyNegative 8 = .ok (.iload_n 1, 1) := by decide +kernel
theorem dX9_multiplyNegative_9 : decode cX9_multiplyNegative 9 = .ok (.bipush 120, 2) := by decide +kernel
theorem dX9_multiplyNegative_11 : decode cX9_multiplyNegative 11 = .ok (.if_icmp .ge 13, 3) := by decide +kernel
theorem dX9_multiplyNegative_14 : decode cX9_multiplyNegative 14 = .ok (.iload_n 2, 1) := by decide +kernel
theorem dX9_multiplyNegative_15 : decode cX9_multiplyNegative 15 = .ok (.ifCond .lt 9, 3) := by decide +kernel
theorem dX9_multiplyNegative_18 : decode cX9_multiplyNegative 18 = .ok (.iload_n 2, 1) := by decide +kernel
theorem dX9_multiplyNegative_19 : decode cX9_multiplyNegative 19 = .ok (.bipush 120, 2) := by decide +kernel
theorem dX9_multiplyNegative_21 : decode cX9_multiplyNegative 21 = .ok (.if_icmp .lt 5, 3) := by decide +kernel
theorem dX9_multiplyNegative_24 : decode cX9_multiplyNegative 24 = .ok (.iconst (-1), 1) := by decide +kernel
theorem dX9_multiplyNegative_25 : decode cX9_multiplyNegative 25 = .ok (.ireturn, 1) := by decide +kernel
theorem dX9_multiplyNegative_26 : decode cX9_multiplyNegative 26 = .ok (.iload_n 1, 1) := by decide +kernel
theorem dX9_multiplyNegative_27 : decode cX9_multiplyNegative 27 = .ok (.bipush 120, 2) := by decide +kernel
theorem dX9_multiplyNegative_29 : decode cX9_multiplyNegative 29 = .ok (.imul, 1) := by decide +kernel
theorem dX9_multiplyNegative_30 : decode cX9_multiplyNegative 30 = .ok (.iload_n 2, 1) := by decide +kernel
theorem dX9_multiplyNegative_31 : decode cX9_multiplyNegative 31 = .ok (.iadd, 1) := by decide +kernel
theorem dX9_multiplyNegative_32 : decode cX9_multiplyNegative 32 = .ok (.istore_n 3, 1) := by decide +kernel
theorem dX9_multiplyNegative_33 : decode cX9_multiplyNegative 33 = .ok (.aload_n 0, 1) := by decide +kernel
theorem dX9_multiplyNegative_34 : decode cX9_multiplyNegative 34 = .ok (.getfield 18, 3) := by decide +kernel
theorem dX9_multiplyNegative_37 : decode cX9_multiplyNegative 37 = .ok (.iload_n 3, 1) := by decide +kernel
theorem dX9_multiplyNegative_38 : decode cX9_multiplyNegative 38 = .ok (.iaload, 1) := by decide +kernel
theorem dX9_multiplyNegative_39 : decode cX9_multiplyNegative 39 = .ok (.ifCond .ne 91, 3) := by decide +kernel
theorem dX9_multiplyNegative_42 : decode cX9_multiplyNegative 42 = .ok (.aload_n 0, 1) := by decide +kernel
theorem dX9_multiplyNegative_43 : decode cX9_multiplyNegative 43 = .ok (.getfield 35, 3) := by decide +kernel
theorem dX9_multiplyNegative_46 : decode cX9_multiplyNegative 46 = .ok (.aload_n 0, 1) := by decide +kernel
theorem dX9_multiplyNegative_47 : decode cX9_multiplyNegative 47 = .ok (.getfield 9, 3) := by decide +kernel
theorem dX9_multiplyNegative_50 : decode cX9_multiplyNegative 50 = .ok (.iload_n 1, 1) := by decide +kernel
theorem dX9_multiplyNegative_51 : decode cX9_multiplyNegative 51 = .ok (.invokevirtual 96, 3) := by decide +kernel
theorem dX9_multiplyNegative_54 : decode cX9_multiplyNegative 54 = .ok (.ifCond .eq 44, 3) := by decide +kernel
theorem dX9_multiplyNegative_57 : decode cX9_multiplyNegative 57 = .ok (.aload_n 0, 1) := by decide +kernel
theorem dX9_multiplyNegative_58 : decode cX9_multiplyNegative 58 = .ok (.getfield 35, 3) := by decide +kernel
theorem dX9_multiplyNegative_61 : decode cX9_multiplyNegative 61 = .ok (.aload_n 0, 1) := by decide +kernel
theorem dX9_multiplyNegative_62 : decode cX9_multiplyNegative 62 = .ok (.getfield 15, 3) := by decide +kernel
theorem dX9_multiplyNegative_65 : decode cX9_multiplyNegative 65 = .ok (.iload_n 2, 1) := by decide +kernel
theorem dX9_multiplyNegative_66 : decode cX9_multiplyNegative 66 = .ok (.invokevirtual 96, 3) := by decide +kernel
theorem dX9_multiplyNegative_69 : decode cX9_multiplyNegative 69 = .ok (.ifCond .eq 29, 3) := by decide +kernel
theorem dX9_multiplyNegative_72 : decode cX9_multiplyNegative 72 = .ok (.aload_n 0, 1) := by decide +kernel
theorem dX9_multiplyNegative_73 : decode cX9_multiplyNegative 73 = .ok (.getfield 39, 3) := by decide +kernel
theorem dX9_multiplyNegative_76 : decode cX9_multiplyNegative 76 = .ok (.aload_n 0, 1) := by decide +kernel
theorem dX9_multiplyNegative_77 : decode cX9_multiplyNegative 77 = .ok (.getfield 9, 3) := by decide +kernel
theorem dX9_multiplyNegative_80 : decode cX9_multiplyNegative 80 = .ok (.aload_n 0, 1) := by decide +kernel
theorem dX9_multiplyNegative_81 : decode cX9_multiplyNegative 81 = .ok (.getfield 9, 3) := by decide +kernel
theorem dX9_multiplyNegative_84 : decode cX9_multiplyNegative 84 = .ok (.aload_n 0, 1) := by decide +kernel
theorem dX9_multiplyNegative_85 : decode cX9_multiplyNegative 85 = .ok (.getfield 15, 3) := by decide +kernel
theorem dX9_multiplyNegative_88 : decode cX9_multiplyNegative 88 = .ok (.invokevirtual 100, 3) := by decide +kernel
theorem dX9_multiplyNegative_91 : decode cX9_multiplyNegative 91 = .ok (.ifCond .eq 7, 3) := by decide +kernel
theorem dX9_multiplyNegative_94 : decode cX9_multiplyNegative 94 = .ok (.iconst 1, 1) := by decide +kernel
theorem dX9_multiplyNegative_95 : decode cX9_multiplyNegative 95 = .ok (.goto 4, 3) := by decide +kernel
theorem dX9_multiplyNegative_98 : decode cX9_multiplyNegative 98 = .ok (.iconst 0, 1) := by decide +kernel
theorem dX9_multiplyNegative_99 : decode cX9_multiplyNegative 99 = .ok (.istore 4, 2) := by decide +kernel
theorem dX9_multiplyNegative_101 : decode cX9_multiplyNegative 101 = .ok (.aload_n 0, 1) := by decide +kernel
theorem dX9_multiplyNegative_102 : decode cX9_multiplyNegative 102 = .ok (.getfield 18, 3) := by decide +kernel
theorem dX9_multiplyNegative_105 : decode cX9_multiplyNegative 105 = .ok (.iload_n 3, 1) := by decide +kernel
theorem dX9_multiplyNegative_106 : decode cX9_multiplyNegative 106 = .ok (.iload 4, 2) := by decide +kernel
theorem dX9_multiplyNegative_108 : decode cX9_multiplyNegative 108 = .ok (.ifCond .eq 20, 3) := by decide +kernel
theorem dX9_multiplyNegative_111 : decode cX9_multiplyNegative 111 = .ok (.aload_n 0, 1) := by decide +kernel
theorem dX9_multiplyNegative_112 : decode cX9_multiplyNegative 112 = .ok (.getfield 35, 3) := by decide +kernel
theorem dX9_multiplyNegative_115 : decode cX9_multiplyNegative 115 = .ok (.iconst 1, 1) := by decide +kernel
theorem dX9_multiplyNegative_116 : decode cX9_multiplyNegative 116 = .ok (.aload_n 0, 1) := by decide +kernel
theorem dX9_multiplyNegative_117 : decode cX9_multiplyNegative 117 = .ok (.getfield 9, 3) := by decide +kernel
theorem dX9_multiplyNegative_120 : decode cX9_multiplyNegative 120 = .ok (.invokevirtual 106, 3) := by decide +kernel
theorem dX9_multiplyNegative_123 : decode cX9_multiplyNegative 123 = .ok (.iconst 1, 1) := by decide +kernel
theorem dX9_multiplyNegative_124 : decode cX9_multiplyNegative 124 = .ok (.iadd, 1) := by decide +kernel
theorem dX9_multiplyNegative_125 : decode cX9_multiplyNegative 125 = .ok (.goto 4, 3) := by decide +kernel
theorem dX9_multiplyNegative_128 : decode cX9_multiplyNegative 128 = .ok (.iconst 0, 1) := by decide +kernel
theorem dX9_multiplyNegative_129 : decode cX9_multiplyNegative 129 = .ok (.iastore, 1) := by decide +kernel
theorem dX9_multiplyNegative_130 : decode cX9_multiplyNegative 130 = .ok (.aload_n 0, 1) := by decide +kernel
theorem dX9_multiplyNegative_131 : decode cX9_multiplyNegative 131 = .ok (.getfield 18, 3) := by decide +kernel
theorem dX9_multiplyNegative_134 : decode cX9_multiplyNegative 134 = .ok (.iload_n 3, 1) := by decide +kernel
theorem dX9_multiplyNegative_135 : decode cX9_multiplyNegative 135 = .ok (.iaload, 1) := by decide +kernel
theorem dX9_multiplyNegative_136 : decode cX9_multiplyNegative 136 = .ok (.iconst 1, 1) := by decide +kernel
theorem dX9_multiplyNegative_137 : decode cX9_multiplyNegative 137 = .ok (.isub, 1) := by decide +kernel
theorem dX9_multiplyNegative_138 : decode cX9_multiplyNegative 138 = .ok (.ireturn, 1) := by decide +kernel
theorem dX9_makeRoom_0 : decode cX9_makeRoom 0 = .ok (.aload_n 0, 1) := by decide +kernel
theorem dX9_makeRoom_1 : decode cX9_makeRoom 1 = .ok (.getfield 18, 3) := by decide +kernel
theorem dX9_makeRoom_4 : decode cX9_makeRoom 4 = .ok (.arraylength, 1) := by decide +kernel
theorem dX9_makeRoom_5 : decode cX9_makeRoom 5 = .ok (.ifCond .ne 12, 3) := by decide +kernel
theorem dX9_makeRoom_8 : decode cX9_makeRoom 8 = .ok (.aload_n 0, 1) := by decide +kernel
theorem dX9_makeRoom_9 : decode cX9_makeRoom 9 = .ok (.sipush 14400, 3) := by decide +kernel
theorem dX9_makeRoom_12 : decode cX9_makeRoom 12 = .ok (.newarray .int, 2) := by decide +kernel
theorem dX9_makeRoom_14 : decode cX9_makeRoom 14 = .ok (.putfield 18, 3) := by decide +kernel
theorem dX9_makeRoom_17 : decode cX9_makeRoom 17 = .ok (.aload_n 0, 1) := by decide +kernel
theorem dX9_makeRoom_18 : decode cX9_makeRoom 18 = .ok (.getfield 21, 3) := by decide +kernel
theorem dX9_makeRoom_21 : decode cX9_makeRoom 21 = .ok (.aload_n 0, 1) := by decide +kernel
theorem dX9_makeRoom_22 : decode cX9_makeRoom 22 = .ok (.getfield 35, 3) := by decide +kernel
theorem dX9_makeRoom_25 : decode cX9_makeRoom 25 = .ok (.getfield 110, 3) := by decide +kernel
theorem dX9_makeRoom_28 : decode cX9_makeRoom 28 = .ok (.getfield 114, 3) := by decide +kernel
theorem dX9_makeRoom_31 : decode cX9_makeRoom 31 = .ok (.if_icmp .eq 25, 3) := by decide +kernel
theorem dX9_makeRoom_34 : decode cX9_makeRoom 34 = .ok (.aload_n 0, 1) := by decide +kernel
theorem dX9_makeRoom_35 : decode cX9_makeRoom 35 = .ok (.getfield 18, 3) := by decide +kernel
theorem dX9_makeRoom_38 : decode cX9_makeRoom 38 = .ok (.iconst 0, 1) := by decide +kernel
theorem dX9_makeRoom_39 : decode cX9_makeRoom 39 = .ok (.invokestatic 119, 3) := by decide +kernel
theorem dX9_makeRoom_42 : decode cX9_makeRoom 42 = .ok (.aload_n 0, 1) := by decide +kernel
theorem dX9_makeRoom_43 : decode cX9_makeRoom 43 = .ok (.aload_n 0, 1) := by decide +kernel
theorem dX9_makeRoom_44 : decode cX9_makeRoom 44 = .ok (.getfield 35, 3) := by decide +kernel
theorem dX9_makeRoom_47 : decode cX9_makeRoom 47 = .ok (.getfield 110, 3) := by decide +kernel
theorem dX9_makeRoom_50 : decode cX9_makeRoom 50 = .ok (.getfield 114, 3) := by decide +kernel
theorem dX9_makeRoom_53 : decode cX9_makeRoom 53 = .ok (.putfield 21, 3) := by decide +kernel
theorem dX9_makeRoom_56 : decode cX9_makeRoom 56 = .ok (.return_, 1) := by decide +kernel
theorem dX10_init_0 : decode cX10_init 0 = .ok (.aload_n 0, 1) := by decide +kernel
theorem dX10_init_1 : decode cX10_init 1 = .ok (.invokespecial 3, 3) := by decide +kernel
theorem dX10_init_4 : decode cX10_init 4 = .ok (.aload_n 0, 1) := by decide +kernel
theorem dX10_init_5 : decode cX10_init 5 = .ok (.iconst 0, 1) := by decide +kernel
theorem dX10_init_6 : decode cX10_init 6 = .ok (.iconst 0, 1) := by decide +kernel
theorem dX10_init_7 : decode cX10_init 7 = .ok (.multianewarray 9 2, 4) := by decide +kernel
theorem dX10_init_11 : decode cX10_init 11 = .ok (.putfield 11, 3) := by decide +kernel
theorem dX10_init_14 : decode cX10_init 14 = .ok (.aload_n 0, 1) := by decide +kernel
theorem dX10_init_15 : decode cX10_init 15 = .ok (.bipush 104, 2) := by decide +kernel
theorem dX10_init_17 : decode cX10_init 17 = .ok (.newarray .boolean, 2) := by decide +kernel
theorem dX10_init_19 : decode cX10_init 19 = .ok (.putfield 16, 3) := by decide +kernel
theorem dX10_init_22 : decode cX10_init 22 = .ok (.aload_n 0, 1) := by decide +kernel
theorem dX10_init_23 : decode cX10_init 23 = .ok (.aload_n 1, 1) := by decide +kernel
theorem dX10_init_24 : decode cX10_init 24 = .ok (.putfield 20, 3) := by decide +kernel
theorem dX10_init_27 : decode cX10_init 27 = .ok (.return_, 1) := by decide +kernel
theorem dX10_manyOf_0 : decode cX10_manyOf 0 = .ok (.iload_n 1, 1) := by decide +kernel
theorem dX10_manyOf_1 : decode cX10_manyOf 1 = .ok (.iconst 1, 1) := by decide +kernel
theorem dX10_manyOf_2 : decode cX10_manyOf 2 = .ok (.if_icmp .lt 17, 3) := by decide +kernel
theorem dX10_manyOf_5 : decode cX10_manyOf 5 = .ok (.iload_n 1, 1) := by decide +kernel
theorem dX10_manyOf_6 : decode cX10_manyOf 6 = .ok (.bipush 6, 2) := by decide +kernel
theorem dX10_manyOf_8 : decode cX10_manyOf 8 = .ok (.if_icmp .gt 11, 3) := by decide +kernel
theorem dX10_manyOf_11 : decode cX10_manyOf 11 = .ok (.getstatic 24, 3) := by decide +kernel
theorem dX10_manyOf_14 : decode cX10_manyOf 14 = .ok (.iload_n 1, 1) := by decide +kernel
theorem dX10_manyOf_15 : decode cX10_manyOf 15 = .ok (.iaload, 1) := by decide +kernel
theorem dX10_manyOf_16 : decode cX10_manyOf 16 = .ok (.goto 4, 3) := by decide +kernel
theorem dX10_manyOf_19 : decode cX10_manyOf 19 = .ok (.iconst 0, 1) := by decide +kernel
theorem dX10_manyOf_20 : decode cX10_manyOf 20 = .ok (.ireturn, 1) := by decide +kernel
theorem dX10_fill_0 : decode cX10_fill 0 = .ok (.aload_n 0, 1) := by decide +kernel
theorem dX10_fill_1 : decode cX10_fill 1 = .ok (.getfield 11, 3) := by decide +kernel
theorem dX10_fill_4 : decode cX10_fill 4 = .ok (.arraylength, 1) := by decide +kernel
theorem dX10_fill_5 : decode cX10_fill 5 = .ok (.ifCond .ne 15, 3) := by decide +kernel
theorem dX10_fill_8 : decode cX10_fill 8 = .ok (.aload_n 0, 1) := by decide +kernel
theorem dX10_fill_9 : decode cX10_fill 9 = .ok (.bipush 104, 2) := by decide +kernel
theorem dX10_fill_11 : decode cX10_fill 11 = .ok (.bipush 8, 2) := by decide +kernel
theorem dX10_fill_13 : decode cX10_fill 13 = .ok (.multianewarray 9 2, 4) := by decide +kernel
theorem dX10_fill_17 : decode cX10_fill 17 = .ok (.putfield 11, 3) := by decide +kernel
theorem dX10_fill_20 : decode cX10_fill 20 = .ok (.iconst 0, 1) := by decide +kernel
theorem dX10_fill_21 : decode cX10_fill 21 = .ok (.istore 4, 2) := by decide +kernel
theorem dX10_fill_23 : decode cX10_fill 23 = .ok (.iload 4, 2) := by decide +kernel
theorem dX10_fill_25 : decode cX10_fill 25 = .ok (.iload_n 2, 1) := by decide +kernel
theorem dX10_fill_26 : decode cX10_fill 26 = .ok (.if_icmp .ge 35, 3) := by decide +kernel
theorem dX10_fill_29 : decode cX10_fill 29 = .ok (.aload_n 0, 1) := by decide +kernel
theorem dX10_fill_30 : decode cX10_fill 30 = .ok (.getfield 11, 3) := by decide +kernel
theorem dX10_fill_33 : decode cX10_fill 33 = .ok (.iload 4, 2) := by decide +kernel
theorem dX10_fill_35 : decode cX10_fill 35 = .ok (.aaload, 1) := by decide +kernel
theorem dX10_fill_36 : decode cX10_fill 36 = .ok (.aload_n 1, 1) := by decide +kernel
theorem dX10_fill_37 : decode cX10_fill 37 = .ok (.iload_n 3, 1) := by decide +kernel
theorem dX10_fill_38 : decode cX10_fill 38 = .ok (.iload 4, 2) := by decide +kernel
theorem dX10_fill_40 : decode cX10_fill 40 = .ok (.invokestatic 28, 3) := by decide +kernel
theorem dX10_fill_43 : decode cX10_fill 43 = .ok (.aaload, 1) := by decide +kernel
theorem dX10_fill_44 : decode cX10_fill 44 = .ok (.invokestatic 32, 3) := by decide +kernel
theorem dX10_fill_47 : decode cX10_fill 47 = .ok (.aload_n 0, 1) := by decide +kernel
theorem dX10_fill_48 : decode cX10_fill 48 = .ok (.getfield 16, 3) := by decide +kernel
theorem dX10_fill_51 : decode cX10_fill 51 = .ok (.iload 4, 2) := by decide +kernel
theorem dX10_fill_53 : decode cX10_fill 53 = .ok (.iconst 1, 1) := by decide +kernel
theorem dX10_fill_54 : decode cX10_fill 54 = .ok (.bastore, 1) := by decide +kernel
theorem dX10_fill_55 : decode cX10_fill 55 = .ok (.iinc 4 1, 3) := by decide +kernel
theorem dX10_fill_58 : decode cX10_fill 58 = .ok (.goto (-35), 3) := by decide +kernel
theorem dX10_fill_61 : decode cX10_fill 61 = .ok (.iconst 2, 1) := by decide +kernel
theorem dX10_fill_62 : decode cX10_fill 62 = .ok (.istore 4, 2) := by decide +kernel
theorem dX10_fill_64 : decode cX10_fill 64 = .ok (.iload 4, 2) := by decide +kernel
theorem dX10_fill_66 : decode cX10_fill 66 = .ok (.iload_n 2, 1) := by decide +kernel
theorem dX10_fill_67 : decode cX10_fill 67 = .ok (.if_icmp .gt 35, 3) := by decide +kernel
theorem dX10_fill_70 : decode cX10_fill 70 = .ok (.iconst 0, 1) := by decide +kernel
theorem dX10_fill_71 : decode cX10_fill 71 = .ok (.istore 5, 2) := by decide +kernel
theorem dX10_fill_73 : decode cX10_fill 73 = .ok (.iload 5, 2) := by decide +kernel
theorem dX10_fill_75 : decode cX10_fill 75 = .ok (.iload 4, 2) := by decide +kernel
theorem dX10_fill_77 : decode cX10_fill 77 = .ok (.iadd, 1) := by decide +kernel
theorem dX10_fill_78 : decode cX10_fill 78 = .ok (.iload_n 2, 1) := by decide +kernel
theorem dX10_fill_79 : decode cX10_fill 79 = .ok (.if_icmp .gt 17, 3) := by decide +kernel
theorem dX10_fill_82 : decode cX10_fill 82 = .ok (.aload_n 0, 1) := by decide +kernel
theorem dX10_fill_83 : decode cX10_fill 83 = .ok (.iload 5, 2) := by decide +kernel
theorem dX10_fill_85 : decode cX10_fill 85 = .ok (.iload 4, 2) := by decide +kernel
theorem dX10_fill_87 : decode cX10_fill 87 = .ok (.invokevirtual 38, 3) := by decide +kernel
theorem dX10_fill_90 : decode cX10_fill 90 = .ok (.iinc 5 1, 3) := by decide +kernel
theorem dX10_fill_93 : decode cX10_fill 93 = .ok (.goto (-20), 3) := by decide +kernel
theorem dX10_fill_96 : decode cX10_fill 96 = .ok (.iinc 4 1, 3) := by decide +kernel
theorem dX10_fill_99 : decode cX10_fill 99 = .ok (.goto (-35), 3) := by decide +kernel
theorem dX10_fill_102 : decode cX10_fill 102 = .ok (.return_, 1) := by decide +kernel
theorem dX10_layWay_0 : decode cX10_layWay 0 = .ok (.getstatic 42, 3) := by decide +kernel
theorem dX10_layWay_3 : decode cX10_layWay 3 = .ok (.iload_n 2, 1) := by decide +kernel
theorem dX10_layWay_4 : decode cX10_layWay 4 = .ok (.iaload, 1) := by decide +kernel
theorem dX10_layWay_5 : decode cX10_layWay 5 = .ok (.iload_n 3, 1) := by decide +kernel
theorem dX10_layWay_6 : decode cX10_layWay 6 = .ok (.iadd, 1) := by decide +kernel
theorem dX10_layWay_7 : decode cX10_layWay 7 = .ok (.istore 4, 2) := by decide +kernel
theorem dX10_layWay_9 : decode cX10_layWay 9 = .ok (.aload_n 0, 1) := by decide +kernel
theorem dX10_layWay_10 : decode cX10_layWay 10 = .ok (.getfield 16, 3) := by decide +kernel
theorem dX10_layWay_13 : decode cX10_layWay 13 = .ok (.iload 4, 2) := by decide +kernel
theorem dX10_layWay_15 : decode cX10_layWay 15 = .ok (.baload, 1) := by decide +kernel
theorem dX10_layWay_16 : decode cX10_layWay 16 = .ok (.ifCond .eq 14, 3) := by decide +kernel
theorem dX10_layWay_19 : decode cX10_layWay 19 = .ok (.aload_n 1, 1) := by decide +kernel
theorem dX10_layWay_20 : decode cX10_layWay 20 = .ok (.aload_n 0, 1) := by decide +kernel
theorem dX10_layWay_21 : decode cX10_layWay 21 = .ok (.getfield 11, 3) := by decide +kernel
theorem dX10_layWay_24 : decode cX10_layWay 24 = .ok (.iload 4, 2) := by decide +kernel
theorem dX10_layWay_26 : decode cX10_layWay 26 = .ok (.aaload, 1) := by decide +kernel
theorem dX10_layWay_27 : decode cX10_layWay 27 = .ok (.invokestatic 32, 3) := by decide +kernel
theorem dX10_layWay_30 : decode cX10_layWay 30 = .ok (.aload_n 0, 1) := by decide +kernel
theorem dX10_layWay_31 : decode cX10_layWay 31 = .ok (.getfield 16, 3) := by decide +kernel
theorem dX10_layWay_34 : decode cX10_layWay 34 = .ok (.iload 4, 2) := by decide +kernel
theorem dX10_layWay_36 : decode cX10_layWay 36 = .ok (.baload, 1) := by decide +kernel
theorem dX10_layWay_37 : decode cX10_layWay 37 = .ok (.ireturn, 1) := by decide +kernel
theorem dX10_manyUnlike_0 : decode cX10_manyUnlike 0 = .ok (.getstatic 42, 3) := by decide +kernel
theorem dX10_manyUnlike_3 : decode cX10_manyUnlike 3 = .ok (.iload_n 1, 1) := by decide +kernel
theorem dX10_manyUnlike_4 : decode cX10_manyUnlike 4 = .ok (.iaload, 1) := by decide +kernel
theorem dX10_manyUnlike_5 : decode cX10_manyUnlike 5 = .ok (.istore_n 2, 1) := by decide +kernel
theorem dX10_manyUnlike_6 : decode cX10_manyUnlike 6 = .ok (.iconst 0, 1) := by decide +kernel
theorem dX10_manyUnlike_7 : decode cX10_manyUnlike 7 = .ok (.istore_n 3, 1) := by decide +kernel
theorem dX10_manyUnlike_8 : decode cX10_manyUnlike 8 = .ok (.iconst 0, 1) := by decide +kernel
theorem dX10_manyUnlike_9 : decode cX10_manyUnlike 9 = .ok (.istore 4, 2) := by decide +kernel
theorem dX10_manyUnlike_11 : decode cX10_manyUnlike 11 = .ok (.iload 4, 2) := by decide +kernel
theorem dX10_manyUnlike_13 : decode cX10_manyUnlike 13 = .ok (.getstatic 24, 3) := by decide +kernel
theorem dX10_manyUnlike_16 : decode cX10_manyUnlike 16 = .ok (.iload_n 1, 1) := by decide +kernel
theorem dX10_manyUnlike_17 : decode cX10_manyUnlike 17 = .ok (.iaload, 1) := by decide +kernel
theorem dX10_manyUnlike_18 : decode cX10_manyUnlike 18 = .ok (.if_icmp .ge 39, 3) := by decide +kernel
theorem dX10_manyUnlike_21 : decode cX10_manyUnlike 21 = .ok (.aload_n 0, 1) := by decide +kernel
theorem dX10_manyUnlike_22 : decode cX10_manyUnlike 22 = .ok (.getfield 16, 3) := by decide +kernel
theorem dX10_manyUnlike_25 : decode cX10_manyUnlike 25 = .ok (.iload_n 2, 1) := by decide +kernel
theorem dX10_manyUnlike_26 : decode cX10_manyUnlike 26 = .ok (.iload 4, 2) := by decide +kernel
theorem dX10_manyUnlike_28 : decode cX10_manyUnlike 28 = .ok (.iadd, 1) := by decide +kernel
theorem dX10_manyUnlike_29 : decode cX10_manyUnlike 29 = .ok (.baload, 1) := by decide +kernel
theorem dX10_manyUnlike_30 : decode cX10_manyUnlike 30 = .ok (.ifCond .ne 6, 3) := by decide +kernel
theorem dX10_manyUnlike_33 : decode cX10_manyUnlike 33 = .ok (.bipush (-2), 2) := by decide +kernel
theorem dX10_manyUnlike_35 : decode cX10_manyUnlike 35 = .ok (.ireturn, 1) := by decide +kernel
theorem dX10_manyUnlike_36 : decode cX10_manyUnlike 36 = .ok (.aload_n 0, 1) := by decide +kernel
theorem dX10_manyUnlike_37 : decode cX10_manyUnlike 37 = .ok (.iload_n 2, 1) := by decide +kernel
theorem dX10_manyUnlike_38 : decode cX10_manyUnlike 38 = .ok (.iload_n 2, 1) := by decide +kernel
theorem dX10_manyUnlike_39 : decode cX10_manyUnlike 39 = .ok (.iload 4, 2) := by decide +kernel
theorem dX10_manyUnlike_41 : decode cX10_manyUnlike 41 = .ok (.iadd, 1) := by decide +kernel
theorem dX10_manyUnlike_42 : decode cX10_manyUnlike 42 = .ok (.invokevirtual 45, 3) := by decide +kernel
theorem dX10_manyUnlike_45 : decode cX10_manyUnlike 45 = .ok (.ifCond .eq 6, 3) := by decide +kernel
theorem dX10_manyUnlike_48 : decode cX10_manyUnlike 48 = .ok (.iinc 3 1, 3) := by decide +kernel
theorem dX10_manyUnlike_51 : decode cX10_manyUnlike 51 = .ok (.iinc 4 1, 3) := by decide +kernel
theorem dX10_manyUnlike_54 : decode cX10_manyUnlike 54 = .ok (.goto (-43), 3) := by decide +kernel
theorem dX10_manyUnlike_57 : decode cX10_manyUnlike 57 = .ok (.iload_n 3, 1) := by decide +kernel
theorem dX10_manyUnlike_58 : decode cX10_manyUnlike 58 = .ok (.ireturn, 1) := by decide +kernel
theorem dX10_isNew_0 : decode cX10_isNew 0 = .ok (.iload_n 1, 1) := by decide +kernel
theorem dX10_isNew_1 : decode cX10_isNew 1 = .ok (.istore_n 3, 1) := by decide +kernel
theorem dX10_isNew_2 : decode cX10_isNew 2 = .ok (.iload_n 3, 1) := by decide +kernel
theorem dX10_isNew_3 : decode cX10_isNew 3 = .ok (.iload_n 2, 1) := by decide +kernel
theorem dX10_isNew_4 : decode cX10_isNew 4 = .ok (.if_icmp .ge 29, 3) := by decide +kernel
theorem dX10_isNew_7 : decode cX10_isNew 7 = .ok (.aload_n 0, 1) := by decide +kernel
theorem dX10_isNew_8 : decode cX10_isNew 8 = .ok (.getfield 11, 3) := by decide +kernel
theorem dX10_isNew_11 : decode cX10_isNew 11 = .ok (.iload_n 3, 1) := by decide +kernel
theorem dX10_isNew_12 : decode cX10_isNew 12 = .ok (.aaload, 1) := by decide +kernel
theorem dX10_isNew_13 : decode cX10_isNew 13 = .ok (.aload_n 0, 1) := by decide +kernel
theorem dX10_isNew_14 : decode cX10_isNew 14 = .ok (.getfield 11, 3) := by decide +kernel
theorem dX10_isNew_17 : decode cX10_isNew 17 = .ok (.iload_n 2, 1) := by decide +kernel
theorem dX10_isNew_18 : decode cX10_isNew 18 = .ok (.aaload, 1) := by decide +kernel
theorem dX10_isNew_19 : decode cX10_isNew 19 = .ok (.invokestatic 49, 3) := by decide +kernel
theorem dX10_isNew_22 : decode cX10_isNew 22 = .ok (.ifCond .eq 5, 3) := by decide +kernel
theorem dX10_isNew_25 : decode cX10_isNew 25 = .ok (.iconst 0, 1) := by decide +kernel
theorem dX10_isNew_26 : decode cX10_isNew 26 = .ok (.ireturn, 1) := by decide +kernel
theorem dX10_isNew_27 : decode cX10_isNew 27 = .ok (.iinc 3 1, 3) := by decide +kernel
theorem dX10_isNew_30 : decode cX10_isNew 30 = .ok (.goto (-28), 3) := by decide +kernel
theorem dX10_isNew_33 : decode cX10_isNew 33 = .ok (.iconst 1, 1) := by decide +kernel
theorem dX10_isNew_34 : decode cX10_isNew 34 = .ok (.ireturn, 1) := by decide +kernel
theorem dX10_fillStretch_0 : decode cX10_fillStretch 0 = .ok (.iload_n 1, 1) := by decide +kernel
theorem dX10_fillStretch_1 : decode cX10_fillStretch 1 = .ok (.iload_n 2, 1) := by decide +kernel
theorem dX10_fillStretch_2 : decode cX10_fillStretch 2 = .ok (.invokestatic 53, 3) := by decide +kernel
theorem dX10_fillStretch_5 : decode cX10_fillStretch 5 = .ok (.istore_n 3, 1) := by decide +kernel
theorem dX10_fillStretch_6 : decode cX10_fillStretch 6 = .ok (.iconst 1, 1) := by decide +kernel
theorem dX10_fillStretch_7 : decode cX10_fillStretch 7 = .ok (.istore 4, 2) := by decide +kernel
theorem dX10_fillStretch_9 : decode cX10_fillStretch 9 = .ok (.iload 4, 2) := by decide +kernel
theorem dX10_fillStretch_11 : decode cX10_fillStretch 11 = .ok (.iload_n 2, 1) := by decide +kernel
theorem dX10_fillStretch_12 : decode cX10_fillStretch 12 = .ok (.if_icmp .ge 90, 3) := by decide +kernel
theorem dX10_fillStretch_15 : decode cX10_fillStretch 15 = .ok (.iload_n 1, 1) := by decide +kernel
theorem dX10_fillStretch_16 : decode cX10_fillStretch 16 = .ok (.iload 4, 2) := by decide +kernel
theorem dX10_fillStretch_18 : decode cX10_fillStretch 18 = .ok (.invokestatic 53, 3) := by decide +kernel
theorem dX10_fillStretch_21 : decode cX10_fillStretch 21 = .ok (.istore 5, 2) := by decide +kernel
theorem dX10_fillStretch_23 : decode cX10_fillStretch 23 = .ok (.iload_n 1, 1) := by decide +kernel
theorem dX10_fillStretch_24 : decode cX10_fillStretch 24 = .ok (.iload 4, 2) := by decide +kernel
theorem dX10_fillStretch_26 : decode cX10_fillStretch 26 = .ok (.iadd, 1) := by decide +kernel
theorem dX10_fillStretch_27 : decode cX10_fillStretch 27 = .ok (.iload_n 2, 1) := by decide +kernel
theorem dX10_fillStretch_28 : decode cX10_fillStretch 28 = .ok (.iload 4, 2) := by decide +kernel
theorem dX10_fillStretch_30 : decode cX10_fillStretch 30 = .ok (.isub, 1) := by decide +kernel
theorem dX10_fillStretch_31 : decode cX10_fillStretch 31 = .ok (.invokestatic 53, 3) := by decide +kernel
theorem dX10_fillStretch_34 : decode cX10_fillStretch 34 = .ok (.istore 6, 2) := by decide +kernel
theorem dX10_fillStretch_36 : decode cX10_fillStretch 36 = .ok (.iconst 0, 1) := by decide +kernel
theorem dX10_fillStretch_37 : decode cX10_fillStretch 37 = .ok (.istore 7, 2) := by decide +kernel
theorem dX10_fillStretch_39 : decode cX10_fillStretch 39 = .ok (.iload 7, 2) := by decide +kernel
theorem dX10_fillStretch_41 : decode cX10_fillStretch 41 = .ok (.getstatic 24, 3) := by decide +kernel
theorem dX10_fillStretch_44 : decode cX10_fillStretch 44 = .ok (.iload 4, 2) := by decide +kernel
theorem dX10_fillStretch_46 : decode cX10_fillStretch 46 = .ok (.iaload, 1) := by decide +kernel
theorem dX10_fillStretch_47 : decode cX10_fillStretch 47 = .ok (.if_icmp .ge 49, 3) := by decide +kernel
theorem dX10_fillStretch_50 : decode cX10_fillStretch 50 = .ok (.iconst 0, 1) := by decide +kernel
theorem dX10_fillStretch_51 : decode cX10_fillStretch 51 = .ok (.istore 8, 2) := by decide +kernel
theorem dX10_fillStretch_53 : decode cX10_fillStretch 53 = .ok (.iload 8, 2) := by decide +kernel
theorem dX10_fillStretch_55 : decode cX10_fillStretch 55 = .ok (.getstatic 24, 3) := by decide +kernel
theorem dX10_fillStretch_58 : decode cX10_fillStretch 58 = .ok (.iload_n 2, 1) := by decide +kernel
theorem dX10_fillStretch_59 : decode cX10_fillStretch 59 = .ok (.iload 4, 2) := by decide +kernel
theorem dX10_fillStretch_61 : decode cX10_fillStretch 61 = .ok (.isub, 1) := by decide +kernel
theorem dX10_fillStretch_62 : decode cX10_fillStretch 62 = .ok (.iaload, 1) := by decide +kernel
theorem dX10_fillStretch_63 : decode cX10_fillStretch 63 = .ok (.if_icmp .ge 27, 3) := by decide +kernel
theorem dX10_fillStretch_66 : decode cX10_fillStretch 66 = .ok (.aload_n 0, 1) := by decide +kernel
theorem dX10_fillStretch_67 : decode cX10_fillStretch 67 = .ok (.iload_n 3, 1) := by decide +kernel
theorem dX10_fillStretch_68 : decode cX10_fillStretch 68 = .ok (.iload 5, 2) := by decide +kernel
theorem dX10_fillStretch_70 : decode cX10_fillStretch 70 = .ok (.iload 7, 2) := by decide +kernel
theorem dX10_fillStretch_72 : decode cX10_fillStretch 72 = .ok (.iadd, 1) := by decide +kernel
theorem dX10_fillStretch_73 : decode cX10_fillStretch 73 = .ok (.iload 6, 2) := by decide +kernel
theorem dX10_fillStretch_75 : decode cX10_fillStretch 75 = .ok (.iload 8, 2) := by decide +kernel
theorem dX10_fillStretch_77 : decode cX10_fillStretch 77 = .ok (.iadd, 1) := by decide +kernel
theorem dX10_fillStretch_78 : decode cX10_fillStretch 78 = .ok (.invokevirtual 56, 3) := by decide +kernel
theorem dX10_fillStretch_81 : decode cX10_fillStretch 81 = .ok (.iinc 3 1, 3) := by decide +kernel
theorem dX10_fillStretch_84 : decode cX10_fillStretch 84 = .ok (.iinc 8 1, 3) := by decide +kernel
theorem dX10_fillStretch_87 : decode cX10_fillStretch 87 = .ok (.goto (-34), 3) := by decide +kernel
theorem dX10_fillStretch_90 : decode cX10_fillStretch 90 = .ok (.iinc 7 1, 3) := by decide +kernel
theorem dX10_fillStretch_93 : decode cX10_fillStretch 93 = .ok (.goto (-54), 3) := by decide +kernel
theorem dX10_fillStretch_96 : decode cX10_fillStretch 96 = .ok (.iinc 4 1, 3) := by decide +kernel
theorem dX10_fillStretch_99 : decode cX10_fillStretch 99 = .ok (.goto (-90), 3) := by decide +kernel
theorem dX10_fillStretch_102 : decode cX10_fillStretch 102 = .ok (.return_, 1) := by decide +kernel
theorem dX10_startOf_0 : decode cX10_startOf 0 = .ok (.getstatic 42, 3) := by decide +kernel
theorem dX10_startOf_3 : decode cX10_startOf 3 = .ok (.iload_n 1, 1) := by decide +kernel
theorem dX10_startOf_4 : decode cX10_startOf 4 = .ok (.iaload, 1) := by decide +kernel
theorem dX10_startOf_5 : decode cX10_startOf 5 = .ok (.iload_n 0, 1) := by decide +kernel
theorem dX10_startOf_6 : decode cX10_startOf 6 = .ok (.getstatic 24, 3) := by decide +kernel
theorem dX10_startOf_9 : decode cX10_startOf 9 = .ok (.iload_n 1, 1) := by decide +kernel
theorem dX10_startOf_10 : decode cX10_startOf 10 = .ok (.iaload, 1) := by decide +kernel
theorem dX10_startOf_11 : decode cX10_startOf 11 = .ok (.imul, 1) := by decide +kernel
theorem dX10_startOf_12 : decode cX10_startOf 12 = .ok (.iadd, 1) := by decide +kernel
theorem dX10_startOf_13 : decode cX10_startOf 13 = .ok (.ireturn, 1) := by decide +kernel
theorem dX10_join_0 : decode cX10_join 0 = .ok (.aload_n 0, 1) := by decide +kernel
theorem dX10_join_1 : decode cX10_join 1 = .ok (.getfield 16, 3) := by decide +kernel
theorem dX10_join_4 : decode cX10_join 4 = .ok (.iload_n 1, 1) := by decide +kernel
theorem dX10_join_5 : decode cX10_join 5 = .ok (.aload_n 0, 1) := by decide +kernel
theorem dX10_join_6 : decode cX10_join 6 = .ok (.getfield 16, 3) := by decide +kernel
theorem dX10_join_9 : decode cX10_join 9 = .ok (.iload_n 2, 1) := by decide +kernel
theorem dX10_join_10 : decode cX10_join 10 = .ok (.baload, 1) := by decide +kernel
theorem dX10_join_11 : decode cX10_join 11 = .ok (.ifCond .eq 44, 3) := by decide +kernel
theorem dX10_join_14 : decode cX10_join 14 = .ok (.aload_n 0, 1) := by decide +kernel
theorem dX10_join_15 : decode cX10_join 15 = .ok (.getfield 16, 3) := by decide +kernel
theorem dX10_join_18 : decode cX10_join 18 = .ok (.iload_n 3, 1) := by decide +kernel
theorem dX10_join_19 : decode cX10_join 19 = .ok (.baload, 1) := by decide +kernel
theorem dX10_join_20 : decode cX10_join 20 = .ok (.ifCond .eq 35, 3) := by decide +kernel
theorem dX10_join_23 : decode cX10_join 23 = .ok (.aload_n 0, 1) := by decide +kernel
theorem dX10_join_24 : decode cX10_join 24 = .ok (.getfield 20, 3) := by decide +kernel
theorem dX10_join_27 : decode cX10_join 27 = .ok (.aload_n 0, 1) := by decide +kernel
theorem dX10_join_28 : decode cX10_join 28 = .ok (.getfield 11, 3) := by decide +kernel
theorem dX10_join_31 : decode cX10_join 31 = .ok (.iload_n 1, 1) := by decide +kernel
theorem dX10_join_32 : decode cX10_join 32 = .ok (.aaload, 1) := by decide +kernel
theorem dX10_join_33 : decode cX10_join 33 = .ok (.aload_n 0, 1) := by decide +kernel
theorem dX10_join_34 : decode cX10_join 34 = .ok (.getfield 11, 3) := by decide +kernel
theorem dX10_join_37 : decode cX10_join 37 = .ok (.iload_n 2, 1) := by decide +kernel
theorem dX10_join_38 : decode cX10_join 38 = .ok (.aaload, 1) := by decide +kernel
theorem dX10_join_39 : decode cX10_join 39 = .ok (.aload_n 0, 1) := by decide +kernel
theorem dX10_join_40 : decode cX10_join 40 = .ok (.getfield 11, 3) := by decide +kernel
theorem dX10_join_43 : decode cX10_join 43 = .ok (.iload_n 3, 1) := by decide +kernel
theorem dX10_join_44 : decode cX10_join 44 = .ok (.aaload, 1) := by decide +kernel
theorem dX10_join_45 : decode cX10_join 45 = .ok (.invokevirtual 60, 3) := by decide +kernel
theorem dX10_join_48 : decode cX10_join 48 = .ok (.ifCond .eq 7, 3) := by decide +kernel
theorem dX10_join_51 : decode cX10_join 51 = .ok (.iconst 1, 1) := by decide +kernel
theorem dX10_join_52 : decode cX10_join 52 = .ok (.goto 4, 3) := by decide +kernel
theorem dX10_join_55 : decode cX10_join 55 = .ok (.iconst 0, 1) := by decide +kernel
theorem dX10_join_56 : decode cX10_join 56 = .ok (.bastore, 1) := by decide +kernel
theorem dX10_join_57 : decode cX10_join 57 = .ok (.return_, 1) := by decide +kernel
