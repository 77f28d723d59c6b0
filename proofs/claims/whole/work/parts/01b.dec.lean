theorem dX11_init_0 : decode cX11_init 0 = .ok (.aload_n 0, 1) := by decide +kernel
theorem dX11_init_1 : decode cX11_init 1 = .ok (.invokespecial 3, 3) := by decide +kernel
theorem dX11_init_4 : decode cX11_init 4 = .ok (.aload_n 0, 1) := by decide +kernel
theorem dX11_init_5 : decode cX11_init 5 = .ok (.bipush 8, 2) := by decide +kernel
theorem dX11_init_7 : decode cX11_init 7 = .ok (.bipush 8, 2) := by decide +kernel
theorem dX11_init_9 : decode cX11_init 9 = .ok (.multianewarray 9 2, 4) := by decide +kernel
theorem dX11_init_13 : decode cX11_init 13 = .ok (.putfield 11, 3) := by decide +kernel
theorem dX11_init_16 : decode cX11_init 16 = .ok (.aload_n 0, 1) := by decide +kernel
theorem dX11_init_17 : decode cX11_init 17 = .ok (.new 14, 3) := by decide +kernel
theorem dX11_init_20 : decode cX11_init 20 = .ok (.dup, 1) := by decide +kernel
theorem dX11_init_21 : decode cX11_init 21 = .ok (.invokespecial 16, 3) := by decide +kernel
theorem dX11_init_24 : decode cX11_init 24 = .ok (.putfield 17, 3) := by decide +kernel
theorem dX11_init_27 : decode cX11_init 27 = .ok (.aload_n 0, 1) := by decide +kernel
theorem dX11_init_28 : decode cX11_init 28 = .ok (.new 21, 3) := by decide +kernel
theorem dX11_init_31 : decode cX11_init 31 = .ok (.dup, 1) := by decide +kernel
theorem dX11_init_32 : decode cX11_init 32 = .ok (.invokespecial 23, 3) := by decide +kernel
theorem dX11_init_35 : decode cX11_init 35 = .ok (.putfield 24, 3) := by decide +kernel
theorem dX11_init_38 : decode cX11_init 38 = .ok (.aload_n 0, 1) := by decide +kernel
theorem dX11_init_39 : decode cX11_init 39 = .ok (.new 28, 3) := by decide +kernel
theorem dX11_init_42 : decode cX11_init 42 = .ok (.dup, 1) := by decide +kernel
theorem dX11_init_43 : decode cX11_init 43 = .ok (.aload_n 0, 1) := by decide +kernel
theorem dX11_init_44 : decode cX11_init 44 = .ok (.getfield 24, 3) := by decide +kernel
theorem dX11_init_47 : decode cX11_init 47 = .ok (.invokespecial 30, 3) := by decide +kernel
theorem dX11_init_50 : decode cX11_init 50 = .ok (.putfield 33, 3) := by decide +kernel
theorem dX11_init_53 : decode cX11_init 53 = .ok (.aload_n 0, 1) := by decide +kernel
theorem dX11_init_54 : decode cX11_init 54 = .ok (.new 37, 3) := by decide +kernel
theorem dX11_init_57 : decode cX11_init 57 = .ok (.dup, 1) := by decide +kernel
theorem dX11_init_58 : decode cX11_init 58 = .ok (.aload_n 0, 1) := by decide +kernel
theorem dX11_init_59 : decode cX11_init 59 = .ok (.getfield 33, 3) := by decide +kernel
theorem dX11_init_62 : decode cX11_init 62 = .ok (.aload_n 0, 1) := by decide +kernel
theorem dX11_init_63 : decode cX11_init 63 = .ok (.getfield 17, 3) := by decide +kernel
theorem dX11_init_66 : decode cX11_init 66 = .ok (.invokespecial 39, 3) := by decide +kernel
theorem dX11_init_69 : decode cX11_init 69 = .ok (.putfield 42, 3) := by decide +kernel
theorem dX11_init_72 : decode cX11_init 72 = .ok (.aload_n 0, 1) := by decide +kernel
theorem dX11_init_73 : decode cX11_init 73 = .ok (.new 46, 3) := by decide +kernel
theorem dX11_init_76 : decode cX11_init 76 = .ok (.dup, 1) := by decide +kernel
theorem dX11_init_77 : decode cX11_init 77 = .ok (.aload_n 0, 1) := by decide +kernel
theorem dX11_init_78 : decode cX11_init 78 = .ok (.getfield 24, 3) := by decide +kernel
theorem dX11_init_81 : decode cX11_init 81 = .ok (.aload_n 0, 1) := by decide +kernel
theorem dX11_init_82 : decode cX11_init 82 = .ok (.getfield 17, 3) := by decide +kernel
theorem dX11_init_85 : decode cX11_init 85 = .ok (.invokespecial 48, 3) := by decide +kernel
theorem dX11_init_88 : decode cX11_init 88 = .ok (.putfield 51, 3) := by decide +kernel
theorem dX11_init_91 : decode cX11_init 91 = .ok (.aload_n 0, 1) := by decide +kernel
theorem dX11_init_92 : decode cX11_init 92 = .ok (.new 55, 3) := by decide +kernel
theorem dX11_init_95 : decode cX11_init 95 = .ok (.dup, 1) := by decide +kernel
theorem dX11_init_96 : decode cX11_init 96 = .ok (.aload_n 0, 1) := by decide +kernel
theorem dX11_init_97 : decode cX11_init 97 = .ok (.getfield 17, 3) := by decide +kernel
theorem dX11_init_100 : decode cX11_init 100 = .ok (.invokespecial 57, 3) := by decide +kernel
theorem dX11_init_103 : decode cX11_init 103 = .ok (.putfield 60, 3) := by decide +kernel
theorem dX11_init_106 : decode cX11_init 106 = .ok (.aload_n 0, 1) := by decide +kernel
theorem dX11_init_107 : decode cX11_init 107 = .ok (.new 64, 3) := by decide +kernel
theorem dX11_init_110 : decode cX11_init 110 = .ok (.dup, 1) := by decide +kernel
theorem dX11_init_111 : decode cX11_init 111 = .ok (.aload_n 0, 1) := by decide +kernel
theorem dX11_init_112 : decode cX11_init 112 = .ok (.getfield 17, 3) := by decide +kernel
theorem dX11_init_115 : decode cX11_init 115 = .ok (.invokespecial 66, 3) := by decide +kernel
theorem dX11_init_118 : decode cX11_init 118 = .ok (.putfield 67, 3) := by decide +kernel
theorem dX11_init_121 : decode cX11_init 121 = .ok (.aload_n 0, 1) := by decide +kernel
theorem dX11_init_122 : decode cX11_init 122 = .ok (.new 71, 3) := by decide +kernel
theorem dX11_init_125 : decode cX11_init 125 = .ok (.dup, 1) := by decide +kernel
theorem dX11_init_126 : decode cX11_init 126 = .ok (.invokespecial 73, 3) := by decide +kernel
theorem dX11_init_129 : decode cX11_init 129 = .ok (.putfield 74, 3) := by decide +kernel
theorem dX11_init_132 : decode cX11_init 132 = .ok (.aload_n 0, 1) := by decide +kernel
theorem dX11_init_133 : decode cX11_init 133 = .ok (.new 78, 3) := by decide +kernel
theorem dX11_init_136 : decode cX11_init 136 = .ok (.dup, 1) := by decide +kernel
theorem dX11_init_137 : decode cX11_init 137 = .ok (.aload_n 0, 1) := by decide +kernel
theorem dX11_init_138 : decode cX11_init 138 = .ok (.getfield 74, 3) := by decide +kernel
theorem dX11_init_141 : decode cX11_init 141 = .ok (.aload_n 0, 1) := by decide +kernel
theorem dX11_init_142 : decode cX11_init 142 = .ok (.getfield 11, 3) := by decide +kernel
theorem dX11_init_145 : decode cX11_init 145 = .ok (.aload_n 0, 1) := by decide +kernel
theorem dX11_init_146 : decode cX11_init 146 = .ok (.getfield 17, 3) := by decide +kernel
theorem dX11_init_149 : decode cX11_init 149 = .ok (.invokespecial 80, 3) := by decide +kernel
theorem dX11_init_152 : decode cX11_init 152 = .ok (.putfield 83, 3) := by decide +kernel
theorem dX11_init_155 : decode cX11_init 155 = .ok (.aload_n 0, 1) := by decide +kernel
theorem dX11_init_156 : decode cX11_init 156 = .ok (.new 87, 3) := by decide +kernel
theorem dX11_init_159 : decode cX11_init 159 = .ok (.dup, 1) := by decide +kernel
theorem dX11_init_160 : decode cX11_init 160 = .ok (.invokespecial 89, 3) := by decide +kernel
theorem dX11_init_163 : decode cX11_init 163 = .ok (.putfield 90, 3) := by decide +kernel
theorem dX11_init_166 : decode cX11_init 166 = .ok (.aload_n 0, 1) := by decide +kernel
theorem dX11_init_167 : decode cX11_init 167 = .ok (.new 94, 3) := by decide +kernel
theorem dX11_init_170 : decode cX11_init 170 = .ok (.dup, 1) := by decide +kernel
theorem dX11_init_171 : decode cX11_init 171 = .ok (.invokespecial 96, 3) := by decide +kernel
theorem dX11_init_174 : decode cX11_init 174 = .ok (.putfield 97, 3) := by decide +kernel
theorem dX11_init_177 : decode cX11_init 177 = .ok (.aload_n 0, 1) := by decide +kernel
theorem dX11_init_178 : decode cX11_init 178 = .ok (.bipush 8, 2) := by decide +kernel
theorem dX11_init_180 : decode cX11_init 180 = .ok (.newarray .int, 2) := by decide +kernel
theorem dX11_init_182 : decode cX11_init 182 = .ok (.putfield 101, 3) := by decide +kernel
theorem dX11_init_185 : decode cX11_init 185 = .ok (.aload_n 0, 1) := by decide +kernel
theorem dX11_init_186 : decode cX11_init 186 = .ok (.bipush 8, 2) := by decide +kernel
theorem dX11_init_188 : decode cX11_init 188 = .ok (.newarray .int, 2) := by decide +kernel
theorem dX11_init_190 : decode cX11_init 190 = .ok (.putfield 105, 3) := by decide +kernel
theorem dX11_init_193 : decode cX11_init 193 = .ok (.aload_n 0, 1) := by decide +kernel
theorem dX11_init_194 : decode cX11_init 194 = .ok (.bipush 8, 2) := by decide +kernel
theorem dX11_init_196 : decode cX11_init 196 = .ok (.newarray .int, 2) := by decide +kernel
theorem dX11_init_198 : decode cX11_init 198 = .ok (.putfield 108, 3) := by decide +kernel
theorem dX11_init_201 : decode cX11_init 201 = .ok (.aload_n 0, 1) := by decide +kernel
theorem dX11_init_202 : decode cX11_init 202 = .ok (.bipush 8, 2) := by decide +kernel
theorem dX11_init_204 : decode cX11_init 204 = .ok (.newarray .long, 2) := by decide +kernel
theorem dX11_init_206 : decode cX11_init 206 = .ok (.putfield 111, 3) := by decide +kernel
theorem dX11_init_209 : decode cX11_init 209 = .ok (.return_, 1) := by decide +kernel
theorem dX11_put_0 : decode cX11_put 0 = .ok (.iload_n 1, 1) := by decide +kernel
theorem dX11_put_1 : decode cX11_put 1 = .ok (.invokestatic 115, 3) := by decide +kernel
theorem dX11_put_4 : decode cX11_put 4 = .ok (.ifCond .eq 24, 3) := by decide +kernel
theorem dX11_put_7 : decode cX11_put 7 = .ok (.iload_n 2, 1) := by decide +kernel
theorem dX11_put_8 : decode cX11_put 8 = .ok (.invokestatic 115, 3) := by decide +kernel
theorem dX11_put_11 : decode cX11_put 11 = .ok (.ifCond .eq 17, 3) := by decide +kernel
theorem dX11_put_14 : decode cX11_put 14 = .ok (.iload_n 3, 1) := by decide +kernel
theorem dX11_put_15 : decode cX11_put 15 = .ok (.sipush (-20000), 3) := by decide +kernel
theorem dX11_put_18 : decode cX11_put 18 = .ok (.if_icmp .lt 10, 3) := by decide +kernel
theorem dX11_put_21 : decode cX11_put 21 = .ok (.iload_n 3, 1) := by decide +kernel
theorem dX11_put_22 : decode cX11_put 22 = .ok (.sipush 20000, 3) := by decide +kernel
theorem dX11_put_25 : decode cX11_put 25 = .ok (.if_icmp .le 5, 3) := by decide +kernel
theorem dX11_put_28 : decode cX11_put 28 = .ok (.iconst 0, 1) := by decide +kernel
theorem dX11_put_29 : decode cX11_put 29 = .ok (.ireturn, 1) := by decide +kernel
theorem dX11_put_30 : decode cX11_put 30 = .ok (.aload_n 0, 1) := by decide +kernel
theorem dX11_put_31 : decode cX11_put 31 = .ok (.getfield 11, 3) := by decide +kernel
theorem dX11_put_34 : decode cX11_put 34 = .ok (.iload_n 1, 1) := by decide +kernel
theorem dX11_put_35 : decode cX11_put 35 = .ok (.aaload, 1) := by decide +kernel
theorem dX11_put_36 : decode cX11_put 36 = .ok (.iload_n 2, 1) := by decide +kernel
theorem dX11_put_37 : decode cX11_put 37 = .ok (.iload_n 3, 1) := by decide +kernel
theorem dX11_put_38 : decode cX11_put 38 = .ok (.iastore, 1) := by decide +kernel
theorem dX11_put_39 : decode cX11_put 39 = .ok (.iconst 1, 1) := by decide +kernel
theorem dX11_put_40 : decode cX11_put 40 = .ok (.ireturn, 1) := by decide +kernel
theorem dX11_one_0 : decode cX11_one 0 = .ok (.iload_n 1, 1) := by decide +kernel
theorem dX11_one_1 : decode cX11_one 1 = .ok (.invokestatic 115, 3) := by decide +kernel
theorem dX11_one_4 : decode cX11_one 4 = .ok (.ifCond .eq 10, 3) := by decide +kernel
theorem dX11_one_7 : decode cX11_one 7 = .ok (.iload_n 2, 1) := by decide +kernel
theorem dX11_one_8 : decode cX11_one 8 = .ok (.invokestatic 115, 3) := by decide +kernel
theorem dX11_one_11 : decode cX11_one 11 = .ok (.ifCond .ne 5, 3) := by decide +kernel
theorem dX11_one_14 : decode cX11_one 14 = .ok (.iconst 0, 1) := by decide +kernel
theorem dX11_one_15 : decode cX11_one 15 = .ok (.ireturn, 1) := by decide +kernel
theorem dX11_one_16 : decode cX11_one 16 = .ok (.aload_n 0, 1) := by decide +kernel
theorem dX11_one_17 : decode cX11_one 17 = .ok (.getfield 11, 3) := by decide +kernel
theorem dX11_one_20 : decode cX11_one 20 = .ok (.iload_n 1, 1) := by decide +kernel
theorem dX11_one_21 : decode cX11_one 21 = .ok (.aaload, 1) := by decide +kernel
theorem dX11_one_22 : decode cX11_one 22 = .ok (.iload_n 2, 1) := by decide +kernel
theorem dX11_one_23 : decode cX11_one 23 = .ok (.invokestatic 119, 3) := by decide +kernel
theorem dX11_one_26 : decode cX11_one 26 = .ok (.iconst 1, 1) := by decide +kernel
theorem dX11_one_27 : decode cX11_one 27 = .ok (.ireturn, 1) := by decide +kernel
theorem dX11_listed_0 : decode cX11_listed 0 = .ok (.iload_n 1, 1) := by decide +kernel
theorem dX11_listed_1 : decode cX11_listed 1 = .ok (.invokestatic 115, 3) := by decide +kernel
theorem dX11_listed_4 : decode cX11_listed 4 = .ok (.ifCond .eq 32, 3) := by decide +kernel
theorem dX11_listed_7 : decode cX11_listed 7 = .ok (.iload_n 2, 1) := by decide +kernel
theorem dX11_listed_8 : decode cX11_listed 8 = .ok (.invokestatic 125, 3) := by decide +kernel
theorem dX11_listed_11 : decode cX11_listed 11 = .ok (.ifCond .eq 25, 3) := by decide +kernel
theorem dX11_listed_14 : decode cX11_listed 14 = .ok (.aload_n 0, 1) := by decide +kernel
theorem dX11_listed_15 : decode cX11_listed 15 = .ok (.getfield 33, 3) := by decide +kernel
theorem dX11_listed_18 : decode cX11_listed 18 = .ok (.aload_n 0, 1) := by decide +kernel
theorem dX11_listed_19 : decode cX11_listed 19 = .ok (.getfield 11, 3) := by decide +kernel
theorem dX11_listed_22 : decode cX11_listed 22 = .ok (.iload_n 1, 1) := by decide +kernel
theorem dX11_listed_23 : decode cX11_listed 23 = .ok (.aaload, 1) := by decide +kernel
theorem dX11_listed_24 : decode cX11_listed 24 = .ok (.iload_n 2, 1) := by decide +kernel
theorem dX11_listed_25 : decode cX11_listed 25 = .ok (.iload_n 3, 1) := by decide +kernel
theorem dX11_listed_26 : decode cX11_listed 26 = .ok (.invokevirtual 128, 3) := by decide +kernel
theorem dX11_listed_29 : decode cX11_listed 29 = .ok (.ifCond .eq 7, 3) := by decide +kernel
theorem dX11_listed_32 : decode cX11_listed 32 = .ok (.iconst 1, 1) := by decide +kernel
theorem dX11_listed_33 : decode cX11_listed 33 = .ok (.goto 4, 3) := by decide +kernel
theorem dX11_listed_36 : decode cX11_listed 36 = .ok (.iconst 0, 1) := by decide +kernel
theorem dX11_listed_37 : decode cX11_listed 37 = .ok (.ireturn, 1) := by decide +kernel
theorem dX11_copy_0 : decode cX11_copy 0 = .ok (.iload_n 1, 1) := by decide +kernel
theorem dX11_copy_1 : decode cX11_copy 1 = .ok (.iload_n 2, 1) := by decide +kernel
theorem dX11_copy_2 : decode cX11_copy 2 = .ok (.invokestatic 132, 3) := by decide +kernel
theorem dX11_copy_5 : decode cX11_copy 5 = .ok (.ifCond .ne 5, 3) := by decide +kernel
theorem dX11_copy_8 : decode cX11_copy 8 = .ok (.iconst 0, 1) := by decide +kernel
theorem dX11_copy_9 : decode cX11_copy 9 = .ok (.ireturn, 1) := by decide +kernel
theorem dX11_copy_10 : decode cX11_copy 10 = .ok (.aload_n 0, 1) := by decide +kernel
theorem dX11_copy_11 : decode cX11_copy 11 = .ok (.getfield 11, 3) := by decide +kernel
theorem dX11_copy_14 : decode cX11_copy 14 = .ok (.iload_n 1, 1) := by decide +kernel
theorem dX11_copy_15 : decode cX11_copy 15 = .ok (.aaload, 1) := by decide +kernel
theorem dX11_copy_16 : decode cX11_copy 16 = .ok (.aload_n 0, 1) := by decide +kernel
theorem dX11_copy_17 : decode cX11_copy 17 = .ok (.getfield 11, 3) := by decide +kernel
theorem dX11_copy_20 : decode cX11_copy 20 = .ok (.iload_n 2, 1) := by decide +kernel
theorem dX11_copy_21 : decode cX11_copy 21 = .ok (.aaload, 1) := by decide +kernel
theorem dX11_copy_22 : decode cX11_copy 22 = .ok (.invokestatic 136, 3) := by decide +kernel
theorem dX11_copy_25 : decode cX11_copy 25 = .ok (.iconst 1, 1) := by decide +kernel
theorem dX11_copy_26 : decode cX11_copy 26 = .ok (.ireturn, 1) := by decide +kernel
theorem dX11_order_0 : decode cX11_order 0 = .ok (.iload_n 1, 1) := by decide +kernel
theorem dX11_order_1 : decode cX11_order 1 = .ok (.invokestatic 115, 3) := by decide +kernel
theorem dX11_order_4 : decode cX11_order 4 = .ok (.ifCond .ne 5, 3) := by decide +kernel
theorem dX11_order_7 : decode cX11_order 7 = .ok (.iconst (-1), 1) := by decide +kernel
theorem dX11_order_8 : decode cX11_order 8 = .ok (.ireturn, 1) := by decide +kernel
theorem dX11_order_9 : decode cX11_order 9 = .ok (.aload_n 0, 1) := by decide +kernel
theorem dX11_order_10 : decode cX11_order 10 = .ok (.getfield 24, 3) := by decide +kernel
theorem dX11_order_13 : decode cX11_order 13 = .ok (.getfield 140, 3) := by decide +kernel
theorem dX11_order_16 : decode cX11_order 16 = .ok (.istore_n 2, 1) := by decide +kernel
theorem dX11_order_17 : decode cX11_order 17 = .ok (.aload_n 0, 1) := by decide +kernel
theorem dX11_order_18 : decode cX11_order 18 = .ok (.getfield 24, 3) := by decide +kernel
theorem dX11_order_21 : decode cX11_order 21 = .ok (.iload_n 1, 1) := by decide +kernel
theorem dX11_order_22 : decode cX11_order 22 = .ok (.putfield 140, 3) := by decide +kernel
theorem dX11_order_25 : decode cX11_order 25 = .ok (.iload_n 2, 1) := by decide +kernel
theorem dX11_order_26 : decode cX11_order 26 = .ok (.ireturn, 1) := by decide +kernel
theorem dX11_sum_0 : decode cX11_sum 0 = .ok (.iload_n 1, 1) := by decide +kernel
theorem dX11_sum_1 : decode cX11_sum 1 = .ok (.iload_n 2, 1) := by decide +kernel
theorem dX11_sum_2 : decode cX11_sum 2 = .ok (.iload_n 3, 1) := by decide +kernel
theorem dX11_sum_3 : decode cX11_sum 3 = .ok (.invokestatic 144, 3) := by decide +kernel
theorem dX11_sum_6 : decode cX11_sum 6 = .ok (.ifCond .ne 5, 3) := by decide +kernel
theorem dX11_sum_9 : decode cX11_sum 9 = .ok (.iconst (-1), 1) := by decide +kernel
theorem dX11_sum_10 : decode cX11_sum 10 = .ok (.ireturn, 1) := by decide +kernel
theorem dX11_sum_11 : decode cX11_sum 11 = .ok (.aload_n 0, 1) := by decide +kernel
theorem dX11_sum_12 : decode cX11_sum 12 = .ok (.getfield 17, 3) := by decide +kernel
theorem dX11_sum_15 : decode cX11_sum 15 = .ok (.aload_n 0, 1) := by decide +kernel
theorem dX11_sum_16 : decode cX11_sum 16 = .ok (.getfield 11, 3) := by decide +kernel
theorem dX11_sum_19 : decode cX11_sum 19 = .ok (.iload_n 1, 1) := by decide +kernel
theorem dX11_sum_20 : decode cX11_sum 20 = .ok (.aaload, 1) := by decide +kernel
theorem dX11_sum_21 : decode cX11_sum 21 = .ok (.aload_n 0, 1) := by decide +kernel
theorem dX11_sum_22 : decode cX11_sum 22 = .ok (.getfield 11, 3) := by decide +kernel
theorem dX11_sum_25 : decode cX11_sum 25 = .ok (.iload_n 2, 1) := by decide +kernel
theorem dX11_sum_26 : decode cX11_sum 26 = .ok (.aaload, 1) := by decide +kernel
theorem dX11_sum_27 : decode cX11_sum 27 = .ok (.aload_n 0, 1) := by decide +kernel
theorem dX11_sum_28 : decode cX11_sum 28 = .ok (.getfield 11, 3) := by decide +kernel
theorem dX11_sum_31 : decode cX11_sum 31 = .ok (.iload_n 3, 1) := by decide +kernel
theorem dX11_sum_32 : decode cX11_sum 32 = .ok (.aaload, 1) := by decide +kernel
theorem dX11_sum_33 : decode cX11_sum 33 = .ok (.iconst 1, 1) := by decide +kernel
theorem dX11_sum_34 : decode cX11_sum 34 = .ok (.invokevirtual 147, 3) := by decide +kernel
theorem dX11_sum_37 : decode cX11_sum 37 = .ok (.invokestatic 151, 3) := by decide +kernel
theorem dX11_sum_40 : decode cX11_sum 40 = .ok (.ireturn, 1) := by decide +kernel
theorem dX11_less_0 : decode cX11_less 0 = .ok (.iload_n 1, 1) := by decide +kernel
theorem dX11_less_1 : decode cX11_less 1 = .ok (.iload_n 2, 1) := by decide +kernel
theorem dX11_less_2 : decode cX11_less 2 = .ok (.iload_n 3, 1) := by decide +kernel
theorem dX11_less_3 : decode cX11_less 3 = .ok (.invokestatic 144, 3) := by decide +kernel
theorem dX11_less_6 : decode cX11_less 6 = .ok (.ifCond .ne 5, 3) := by decide +kernel
theorem dX11_less_9 : decode cX11_less 9 = .ok (.iconst (-1), 1) := by decide +kernel
theorem dX11_less_10 : decode cX11_less 10 = .ok (.ireturn, 1) := by decide +kernel
theorem dX11_less_11 : decode cX11_less 11 = .ok (.aload_n 0, 1) := by decide +kernel
theorem dX11_less_12 : decode cX11_less 12 = .ok (.getfield 17, 3) := by decide +kernel
theorem dX11_less_15 : decode cX11_less 15 = .ok (.aload_n 0, 1) := by decide +kernel
theorem dX11_less_16 : decode cX11_less 16 = .ok (.getfield 11, 3) := by decide +kernel
theorem dX11_less_19 : decode cX11_less 19 = .ok (.iload_n 1, 1) := by decide +kernel
theorem dX11_less_20 : decode cX11_less 20 = .ok (.aaload, 1) := by decide +kernel
theorem dX11_less_21 : decode cX11_less 21 = .ok (.aload_n 0, 1) := by decide +kernel
theorem dX11_less_22 : decode cX11_less 22 = .ok (.getfield 11, 3) := by decide +kernel
theorem dX11_less_25 : decode cX11_less 25 = .ok (.iload_n 2, 1) := by decide +kernel
theorem dX11_less_26 : decode cX11_less 26 = .ok (.aaload, 1) := by decide +kernel
theorem dX11_less_27 : decode cX11_less 27 = .ok (.aload_n 0, 1) := by decide +kernel
theorem dX11_less_28 : decode cX11_less 28 = .ok (.getfield 11, 3) := by decide +kernel
theorem dX11_less_31 : decode cX11_less 31 = .ok (.iload_n 3, 1) := by decide +kernel
theorem dX11_less_32 : decode cX11_less 32 = .ok (.aaload, 1) := by decide +kernel
theorem dX11_less_33 : decode cX11_less 33 = .ok (.iconst (-1), 1) := by decide +kernel
theorem dX11_less_34 : decode cX11_less 34 = .ok (.invokevirtual 147, 3) := by decide +kernel
theorem dX11_less_37 : decode cX11_less 37 = .ok (.invokestatic 151, 3) := by decide +kernel
theorem dX11_less_40 : decode cX11_less 40 = .ok (.ireturn, 1) := by decide +kernel
theorem dX11_product_0 : decode cX11_product 0 = .ok (.iload_n 1, 1) := by decide +kernel
theorem dX11_product_1 : decode cX11_product 1 = .ok (.iload_n 2, 1) := by decide +kernel
theorem dX11_product_2 : decode cX11_product 2 = .ok (.iload_n 3, 1) := by decide +kernel
theorem dX11_product_3 : decode cX11_product 3 = .ok (.invokestatic 144, 3) := by decide +kernel
theorem dX11_product_6 : decode cX11_product 6 = .ok (.ifCond .ne 5, 3) := by decide +kernel
theorem dX11_product_9 : decode cX11_product 9 = .ok (.iconst (-1), 1) := by decide +kernel
theorem dX11_product_10 : decode cX11_product 10 = .ok (.ireturn, 1) := by decide +kernel
theorem dX11_product_11 : decode cX11_product 11 = .ok (.aload_n 0, 1) := by decide +kernel
theorem dX11_product_12 : decode cX11_product 12 = .ok (.getfield 17, 3) := by decide +kernel
theorem dX11_product_15 : decode cX11_product 15 = .ok (.aload_n 0, 1) := by decide +kernel
theorem dX11_product_16 : decode cX11_product 16 = .ok (.getfield 11, 3) := by decide +kernel
theorem dX11_product_19 : decode cX11_product 19 = .ok (.iload_n 1, 1) := by decide +kernel
theorem dX11_product_20 : decode cX11_product 20 = .ok (.aaload, 1) := by decide +kernel
theorem dX11_product_21 : decode cX11_product 21 = .ok (.aload_n 0, 1) := by decide +kernel
theorem dX11_product_22 : decode cX11_product 22 = .ok (.getfield 11, 3) := by decide +kernel
theorem dX11_product_25 : decode cX11_product 25 = .ok (.iload_n 2, 1) := by decide +kernel
theorem dX11_product_26 : decode cX11_product 26 = .ok (.aaload, 1) := by decide +kernel
theorem dX11_product_27 : decode cX11_product 27 = .ok (.aload_n 0, 1) := by decide +kernel
theorem dX11_product_28 : decode cX11_product 28 = .ok (.getfield 11, 3) := by decide +kernel
theorem dX11_product_31 : decode cX11_product 31 = .ok (.iload_n 3, 1) := by decide +kernel
theorem dX11_product_32 : decode cX11_product 32 = .ok (.aaload, 1) := by decide +kernel
theorem dX11_product_33 : decode cX11_product 33 = .ok (.invokevirtual 155, 3) := by decide +kernel
theorem dX11_product_36 : decode cX11_product 36 = .ok (.invokestatic 151, 3) := by decide +kernel
theorem dX11_product_39 : decode cX11_product 39 = .ok (.ireturn, 1) := by decide +kernel
theorem dX11_mirror_0 : decode cX11_mirror 0 = .ok (.iload_n 1, 1) := by decide +kernel
theorem dX11_mirror_1 : decode cX11_mirror 1 = .ok (.iload_n 2, 1) := by decide +kernel
theorem dX11_mirror_2 : decode cX11_mirror 2 = .ok (.invokestatic 132, 3) := by decide +kernel
theorem dX11_mirror_5 : decode cX11_mirror 5 = .ok (.ifCond .ne 5, 3) := by decide +kernel
theorem dX11_mirror_8 : decode cX11_mirror 8 = .ok (.iconst (-1), 1) := by decide +kernel
theorem dX11_mirror_9 : decode cX11_mirror 9 = .ok (.ireturn, 1) := by decide +kernel
theorem dX11_mirror_10 : decode cX11_mirror 10 = .ok (.aload_n 0, 1) := by decide +kernel
theorem dX11_mirror_11 : decode cX11_mirror 11 = .ok (.getfield 11, 3) := by decide +kernel
theorem dX11_mirror_14 : decode cX11_mirror 14 = .ok (.iload_n 1, 1) := by decide +kernel
theorem dX11_mirror_15 : decode cX11_mirror 15 = .ok (.aaload, 1) := by decide +kernel
theorem dX11_mirror_16 : decode cX11_mirror 16 = .ok (.aload_n 0, 1) := by decide +kernel
theorem dX11_mirror_17 : decode cX11_mirror 17 = .ok (.getfield 11, 3) := by decide +kernel
theorem dX11_mirror_20 : decode cX11_mirror 20 = .ok (.iload_n 2, 1) := by decide +kernel
theorem dX11_mirror_21 : decode cX11_mirror 21 = .ok (.aaload, 1) := by decide +kernel
theorem dX11_mirror_22 : decode cX11_mirror 22 = .ok (.invokestatic 159, 3) := by decide +kernel
theorem dX11_mirror_25 : decode cX11_mirror 25 = .ok (.iconst 1, 1) := by decide +kernel
theorem dX11_mirror_26 : decode cX11_mirror 26 = .ok (.ireturn, 1) := by decide +kernel
theorem dX11_times_0 : decode cX11_times 0 = .ok (.iload_n 1, 1) := by decide +kernel
theorem dX11_times_1 : decode cX11_times 1 = .ok (.iload_n 2, 1) := by decide +kernel
theorem dX11_times_2 : decode cX11_times 2 = .ok (.invokestatic 132, 3) := by decide +kernel
theorem dX11_times_5 : decode cX11_times 5 = .ok (.ifCond .eq 17, 3) := by decide +kernel
theorem dX11_times_8 : decode cX11_times 8 = .ok (.iload_n 3, 1) := by decide +kernel
theorem dX11_times_9 : decode cX11_times 9 = .ok (.sipush (-1000), 3) := by decide +kernel
theorem dX11_times_12 : decode cX11_times 12 = .ok (.if_icmp .lt 10, 3) := by decide +kernel
theorem dX11_times_15 : decode cX11_times 15 = .ok (.iload_n 3, 1) := by decide +kernel
theorem dX11_times_16 : decode cX11_times 16 = .ok (.sipush 1000, 3) := by decide +kernel
theorem dX11_times_19 : decode cX11_times 19 = .ok (.if_icmp .le 5, 3) := by decide +kernel
theorem dX11_times_22 : decode cX11_times 22 = .ok (.iconst (-1), 1) := by decide +kernel
theorem dX11_times_23 : decode cX11_times 23 = .ok (.ireturn, 1) := by decide +kernel
theorem dX11_times_24 : decode cX11_times 24 = .ok (.aload_n 0, 1) := by decide +kernel
theorem dX11_times_25 : decode cX11_times 25 = .ok (.getfield 17, 3) := by decide +kernel
theorem dX11_times_28 : decode cX11_times 28 = .ok (.aload_n 0, 1) := by decide +kernel
theorem dX11_times_29 : decode cX11_times 29 = .ok (.getfield 11, 3) := by decide +kernel
theorem dX11_times_32 : decode cX11_times 32 = .ok (.iload_n 1, 1) := by decide +kernel
theorem dX11_times_33 : decode cX11_times 33 = .ok (.aaload, 1) := by decide +kernel
theorem dX11_times_34 : decode cX11_times 34 = .ok (.aload_n 0, 1) := by decide +kernel
theorem dX11_times_35 : decode cX11_times 35 = .ok (.getfield 11, 3) := by decide +kernel
theorem dX11_times_38 : decode cX11_times 38 = .ok (.iload_n 2, 1) := by decide +kernel
theorem dX11_times_39 : decode cX11_times 39 = .ok (.aaload, 1) := by decide +kernel
theorem dX11_times_40 : decode cX11_times 40 = .ok (.iload_n 3, 1) := by decide +kernel
theorem dX11_times_41 : decode cX11_times 41 = .ok (.invokevirtual 162, 3) := by decide +kernel
theorem dX11_times_44 : decode cX11_times 44 = .ok (.invokestatic 151, 3) := by decide +kernel
theorem dX11_times_47 : decode cX11_times 47 = .ok (.ireturn, 1) := by decide +kernel
theorem dX11_turn_0 : decode cX11_turn 0 = .ok (.iload_n 1, 1) := by decide +kernel
theorem dX11_turn_1 : decode cX11_turn 1 = .ok (.iload_n 2, 1) := by decide +kernel
theorem dX11_turn_2 : decode cX11_turn 2 = .ok (.iload_n 3, 1) := by decide +kernel
theorem dX11_turn_3 : decode cX11_turn 3 = .ok (.invokestatic 144, 3) := by decide +kernel
theorem dX11_turn_6 : decode cX11_turn 6 = .ok (.ifCond .eq 11, 3) := by decide +kernel
theorem dX11_turn_9 : decode cX11_turn 9 = .ok (.iload 4, 2) := by decide +kernel
theorem dX11_turn_11 : decode cX11_turn 11 = .ok (.invokestatic 166, 3) := by decide +kernel
theorem dX11_turn_14 : decode cX11_turn 14 = .ok (.ifCond .ne 5, 3) := by decide +kernel
theorem dX11_turn_17 : decode cX11_turn 17 = .ok (.iconst (-1), 1) := by decide +kernel
theorem dX11_turn_18 : decode cX11_turn 18 = .ok (.ireturn, 1) := by decide +kernel
theorem dX11_turn_19 : decode cX11_turn 19 = .ok (.aload_n 0, 1) := by decide +kernel
theorem dX11_turn_20 : decode cX11_turn 20 = .ok (.getfield 17, 3) := by decide +kernel
theorem dX11_turn_23 : decode cX11_turn 23 = .ok (.aload_n 0, 1) := by decide +kernel
theorem dX11_turn_24 : decode cX11_turn 24 = .ok (.getfield 11, 3) := by decide +kernel
theorem dX11_turn_27 : decode cX11_turn 27 = .ok (.iload_n 1, 1) := by decide +kernel
theorem dX11_turn_28 : decode cX11_turn 28 = .ok (.aaload, 1) := by decide +kernel
theorem dX11_turn_29 : decode cX11_turn 29 = .ok (.aload_n 0, 1) := by decide +kernel
theorem dX11_turn_30 : decode cX11_turn 30 = .ok (.getfield 11, 3) := by decide +kernel
theorem dX11_turn_33 : decode cX11_turn 33 = .ok (.iload_n 2, 1) := by decide +kernel
theorem dX11_turn_34 : decode cX11_turn 34 = .ok (.aaload, 1) := by decide +kernel
theorem dX11_turn_35 : decode cX11_turn 35 = .ok (.aload_n 0, 1) := by decide +kernel
theorem dX11_turn_36 : decode cX11_turn 36 = .ok (.getfield 11, 3) := by decide +kernel
theorem dX11_turn_39 : decode cX11_turn 39 = .ok (.iload_n 3, 1) := by decide +kernel
theorem dX11_turn_40 : decode cX11_turn 40 = .ok (.aaload, 1) := by decide +kernel
theorem dX11_turn_41 : decode cX11_turn 41 = .ok (.iload 4, 2) := by decide +kernel
theorem dX11_turn_43 : decode cX11_turn 43 = .ok (.invokevirtual 169, 3) := by decide +kernel
theorem dX11_turn_46 : decode cX11_turn 46 = .ok (.invokestatic 151, 3) := by decide +kernel
theorem dX11_turn_49 : decode cX11_turn 49 = .ok (.ireturn, 1) := by decide +kernel
theorem dX11_chain_0 : decode cX11_chain 0 = .ok (.iload_n 1, 1) := by decide +kernel
theorem dX11_chain_1 : decode cX11_chain 1 = .ok (.iload_n 2, 1) := by decide +kernel
theorem dX11_chain_2 : decode cX11_chain 2 = .ok (.invokestatic 132, 3) := by decide +kernel
theorem dX11_chain_5 : decode cX11_chain 5 = .ok (.ifCond .eq 21, 3) := by decide +kernel
theorem dX11_chain_8 : decode cX11_chain 8 = .ok (.iconst 1, 1) := by decide +kernel
theorem dX11_chain_9 : decode cX11_chain 9 = .ok (.iload_n 3, 1) := by decide +kernel
theorem dX11_chain_10 : decode cX11_chain 10 = .ok (.iload 4, 2) := by decide +kernel
theorem dX11_chain_12 : decode cX11_chain 12 = .ok (.invokestatic 172, 3) := by decide +kernel
theorem dX11_chain_15 : decode cX11_chain 15 = .ok (.ifCond .eq 11, 3) := by decide +kernel
theorem dX11_chain_18 : decode cX11_chain 18 = .ok (.iload 5, 2) := by decide +kernel
theorem dX11_chain_20 : decode cX11_chain 20 = .ok (.invokestatic 166, 3) := by decide +kernel
theorem dX11_chain_23 : decode cX11_chain 23 = .ok (.ifCond .ne 5, 3) := by decide +kernel
theorem dX11_chain_26 : decode cX11_chain 26 = .ok (.iconst (-1), 1) := by decide +kernel
theorem dX11_chain_27 : decode cX11_chain 27 = .ok (.ireturn, 1) := by decide +kernel
theorem dX11_chain_28 : decode cX11_chain 28 = .ok (.aload_n 0, 1) := by decide +kernel
theorem dX11_chain_29 : decode cX11_chain 29 = .ok (.getfield 101, 3) := by decide +kernel
theorem dX11_chain_32 : decode cX11_chain 32 = .ok (.aload_n 0, 1) := by decide +kernel
theorem dX11_chain_33 : decode cX11_chain 33 = .ok (.getfield 11, 3) := by decide +kernel
theorem dX11_chain_36 : decode cX11_chain 36 = .ok (.iload_n 2, 1) := by decide +kernel
theorem dX11_chain_37 : decode cX11_chain 37 = .ok (.aaload, 1) := by decide +kernel
theorem dX11_chain_38 : decode cX11_chain 38 = .ok (.invokestatic 136, 3) := by decide +kernel
theorem dX11_chain_41 : decode cX11_chain 41 = .ok (.iconst 0, 1) := by decide +kernel
theorem dX11_chain_42 : decode cX11_chain 42 = .ok (.istore 6, 2) := by decide +kernel
theorem dX11_chain_44 : decode cX11_chain 44 = .ok (.iload 6, 2) := by decide +kernel
theorem dX11_chain_46 : decode cX11_chain 46 = .ok (.iload_n 3, 1) := by decide +kernel
theorem dX11_chain_47 : decode cX11_chain 47 = .ok (.if_icmp .ge 44, 3) := by decide +kernel
theorem dX11_chain_50 : decode cX11_chain 50 = .ok (.aload_n 0, 1) := by decide +kernel
theorem dX11_chain_51 : decode cX11_chain 51 = .ok (.getfield 17, 3) := by decide +kernel
theorem dX11_chain_54 : decode cX11_chain 54 = .ok (.aload_n 0, 1) := by decide +kernel
theorem dX11_chain_55 : decode cX11_chain 55 = .ok (.getfield 101, 3) := by decide +kernel
theorem dX11_chain_58 : decode cX11_chain 58 = .ok (.aload_n 0, 1) := by decide +kernel
theorem dX11_chain_59 : decode cX11_chain 59 = .ok (.getfield 101, 3) := by decide +kernel
theorem dX11_chain_62 : decode cX11_chain 62 = .ok (.aload_n 0, 1) := by decide +kernel
theorem dX11_chain_63 : decode cX11_chain 63 = .ok (.getfield 11, 3) := by decide +kernel
theorem dX11_chain_66 : decode cX11_chain 66 = .ok (.iload 4, 2) := by decide +kernel
theorem dX11_chain_68 : decode cX11_chain 68 = .ok (.iload 6, 2) := by decide +kernel
theorem dX11_chain_70 : decode cX11_chain 70 = .ok (.invokestatic 175, 3) := by decide +kernel
theorem dX11_chain_73 : decode cX11_chain 73 = .ok (.aaload, 1) := by decide +kernel
theorem dX11_chain_74 : decode cX11_chain 74 = .ok (.iload 5, 2) := by decide +kernel
theorem dX11_chain_76 : decode cX11_chain 76 = .ok (.invokevirtual 169, 3) := by decide +kernel
theorem dX11_chain_79 : decode cX11_chain 79 = .ok (.ifCond .ne 6, 3) := by decide +kernel
theorem dX11_chain_82 : decode cX11_chain 82 = .ok (.bipush (-2), 2) := by decide +kernel
theorem dX11_chain_84 : decode cX11_chain 84 = .ok (.ireturn, 1) := by decide +kernel
theorem dX11_chain_85 : decode cX11_chain 85 = .ok (.iinc 6 1, 3) := by decide +kernel
theorem dX11_chain_88 : decode cX11_chain 88 = .ok (.goto (-44), 3) := by decide +kernel
theorem dX11_chain_91 : decode cX11_chain 91 = .ok (.aload_n 0, 1) := by decide +kernel
theorem dX11_chain_92 : decode cX11_chain 92 = .ok (.getfield 11, 3) := by decide +kernel
theorem dX11_chain_95 : decode cX11_chain 95 = .ok (.iload_n 1, 1) := by decide +kernel
theorem dX11_chain_96 : decode cX11_chain 96 = .ok (.aaload, 1) := by decide +kernel
theorem dX11_chain_97 : decode cX11_chain 97 = .ok (.aload_n 0, 1) := by decide +kernel
theorem dX11_chain_98 : decode cX11_chain 98 = .ok (.getfield 101, 3) := by decide +kernel
theorem dX11_chain_101 : decode cX11_chain 101 = .ok (.invokestatic 136, 3) := by decide +kernel
theorem dX11_chain_104 : decode cX11_chain 104 = .ok (.iconst 1, 1) := by decide +kernel
theorem dX11_chain_105 : decode cX11_chain 105 = .ok (.ireturn, 1) := by decide +kernel
theorem dX11_last_0 : decode cX11_last 0 = .ok (.iload_n 1, 1) := by decide +kernel
theorem dX11_last_1 : decode cX11_last 1 = .ok (.iload_n 2, 1) := by decide +kernel
theorem dX11_last_2 : decode cX11_last 2 = .ok (.iload_n 3, 1) := by decide +kernel
theorem dX11_last_3 : decode cX11_last 3 = .ok (.invokestatic 144, 3) := by decide +kernel
theorem dX11_last_6 : decode cX11_last 6 = .ok (.ifCond .ne 5, 3) := by decide +kernel
theorem dX11_last_9 : decode cX11_last 9 = .ok (.iconst (-1), 1) := by decide +kernel
theorem dX11_last_10 : decode cX11_last 10 = .ok (.ireturn, 1) := by decide +kernel
theorem dX11_last_11 : decode cX11_last 11 = .ok (.aload_n 0, 1) := by decide +kernel
theorem dX11_last_12 : decode cX11_last 12 = .ok (.getfield 51, 3) := by decide +kernel
theorem dX11_last_15 : decode cX11_last 15 = .ok (.aload_n 0, 1) := by decide +kernel
theorem dX11_last_16 : decode cX11_last 16 = .ok (.getfield 11, 3) := by decide +kernel
theorem dX11_last_19 : decode cX11_last 19 = .ok (.iload_n 2, 1) := by decide +kernel
theorem dX11_last_20 : decode cX11_last 20 = .ok (.aaload, 1) := by decide +kernel
theorem dX11_last_21 : decode cX11_last 21 = .ok (.aload_n 0, 1) := by decide +kernel
theorem dX11_last_22 : decode cX11_last 22 = .ok (.getfield 11, 3) := by decide +kernel
theorem dX11_last_25 : decode cX11_last 25 = .ok (.iload_n 3, 1) := by decide +kernel
theorem dX11_last_26 : decode cX11_last 26 = .ok (.aaload, 1) := by decide +kernel
theorem dX11_last_27 : decode cX11_last 27 = .ok (.invokevirtual 179, 3) := by decide +kernel
theorem dX11_last_30 : decode cX11_last 30 = .ok (.aload_n 0, 1) := by decide +kernel
theorem dX11_last_31 : decode cX11_last 31 = .ok (.getfield 51, 3) := by decide +kernel
theorem dX11_last_34 : decode cX11_last 34 = .ok (.invokevirtual 182, 3) := by decide +kernel
theorem dX11_last_37 : decode cX11_last 37 = .ok (.astore 4, 2) := by decide +kernel
theorem dX11_last_39 : decode cX11_last 39 = .ok (.aload 4, 2) := by decide +kernel
theorem dX11_last_41 : decode cX11_last 41 = .ok (.invokestatic 186, 3) := by decide +kernel
theorem dX11_last_44 : decode cX11_last 44 = .ok (.ifCond .eq 6, 3) := by decide +kernel
theorem dX11_last_47 : decode cX11_last 47 = .ok (.bipush (-2), 2) := by decide +kernel
theorem dX11_last_49 : decode cX11_last 49 = .ok (.ireturn, 1) := by decide +kernel
theorem dX11_last_50 : decode cX11_last 50 = .ok (.aload_n 0, 1) := by decide +kernel
theorem dX11_last_51 : decode cX11_last 51 = .ok (.getfield 11, 3) := by decide +kernel
theorem dX11_last_54 : decode cX11_last 54 = .ok (.iload_n 1, 1) := by decide +kernel
theorem dX11_last_55 : decode cX11_last 55 = .ok (.aaload, 1) := by decide +kernel
theorem dX11_last_56 : decode cX11_last 56 = .ok (.aload 4, 2) := by decide +kernel
theorem dX11_last_58 : decode cX11_last 58 = .ok (.invokestatic 136, 3) := by decide +kernel
theorem dX11_last_61 : decode cX11_last 61 = .ok (.iconst 1, 1) := by decide +kernel
theorem dX11_last_62 : decode cX11_last 62 = .ok (.ireturn, 1) := by decide +kernel
theorem dX11_power_0 : decode cX11_power 0 = .ok (.iload_n 1, 1) := by decide +kernel
theorem dX11_power_1 : decode cX11_power 1 = .ok (.iload_n 2, 1) := by decide +kernel
theorem dX11_power_2 : decode cX11_power 2 = .ok (.invokestatic 132, 3) := by decide +kernel
theorem dX11_power_5 : decode cX11_power 5 = .ok (.ifCond .eq 13, 3) := by decide +kernel
theorem dX11_power_8 : decode cX11_power 8 = .ok (.iload_n 3, 1) := by decide +kernel
theorem dX11_power_9 : decode cX11_power 9 = .ok (.ifCond .lt 9, 3) := by decide +kernel
theorem dX11_power_12 : decode cX11_power 12 = .ok (.iload_n 3, 1) := by decide +kernel
theorem dX11_power_13 : decode cX11_power 13 = .ok (.bipush 60, 2) := by decide +kernel
theorem dX11_power_15 : decode cX11_power 15 = .ok (.if_icmp .le 5, 3) := by decide +kernel
theorem dX11_power_18 : decode cX11_power 18 = .ok (.iconst (-1), 1) := by decide +kernel
theorem dX11_power_19 : decode cX11_power 19 = .ok (.ireturn, 1) := by decide +kernel
theorem dX11_power_20 : decode cX11_power 20 = .ok (.aload_n 0, 1) := by decide +kernel
theorem dX11_power_21 : decode cX11_power 21 = .ok (.getfield 101, 3) := by decide +kernel
theorem dX11_power_24 : decode cX11_power 24 = .ok (.iconst 0, 1) := by decide +kernel
theorem dX11_power_25 : decode cX11_power 25 = .ok (.invokestatic 119, 3) := by decide +kernel
theorem dX11_power_28 : decode cX11_power 28 = .ok (.iconst 0, 1) := by decide +kernel
theorem dX11_power_29 : decode cX11_power 29 = .ok (.istore 4, 2) := by decide +kernel
theorem dX11_power_31 : decode cX11_power 31 = .ok (.iload 4, 2) := by decide +kernel
theorem dX11_power_33 : decode cX11_power 33 = .ok (.iload_n 3, 1) := by decide +kernel
theorem dX11_power_34 : decode cX11_power 34 = .ok (.if_icmp .ge 36, 3) := by decide +kernel
theorem dX11_power_37 : decode cX11_power 37 = .ok (.aload_n 0, 1) := by decide +kernel
theorem dX11_power_38 : decode cX11_power 38 = .ok (.getfield 17, 3) := by decide +kernel
theorem dX11_power_41 : decode cX11_power 41 = .ok (.aload_n 0, 1) := by decide +kernel
theorem dX11_power_42 : decode cX11_power 42 = .ok (.getfield 101, 3) := by decide +kernel
theorem dX11_power_45 : decode cX11_power 45 = .ok (.aload_n 0, 1) := by decide +kernel
theorem dX11_power_46 : decode cX11_power 46 = .ok (.getfield 101, 3) := by decide +kernel
theorem dX11_power_49 : decode cX11_power 49 = .ok (.aload_n 0, 1) := by decide +kernel
theorem dX11_power_50 : decode cX11_power 50 = .ok (.getfield 11, 3) := by decide +kernel
theorem dX11_power_53 : decode cX11_power 53 = .ok (.iload_n 2, 1) := by decide +kernel
theorem dX11_power_54 : decode cX11_power 54 = .ok (.aaload, 1) := by decide +kernel
theorem dX11_power_55 : decode cX11_power 55 = .ok (.invokevirtual 155, 3) := by decide +kernel
theorem dX11_power_58 : decode cX11_power 58 = .ok (.ifCond .ne 6, 3) := by decide +kernel
theorem dX11_power_61 : decode cX11_power 61 = .ok (.bipush (-2), 2) := by decide +kernel
theorem dX11_power_63 : decode cX11_power 63 = .ok (.ireturn, 1) := by decide +kernel
theorem dX11_power_64 : decode cX11_power 64 = .ok (.iinc 4 1, 3) := by decide +kernel
theorem dX11_power_67 : decode cX11_power 67 = .ok (.goto (-36), 3) := by decide +kernel
theorem dX11_power_70 : decode cX11_power 70 = .ok (.aload_n 0, 1) := by decide +kernel
theorem dX11_power_71 : decode cX11_power 71 = .ok (.getfield 11, 3) := by decide +kernel
theorem dX11_power_74 : decode cX11_power 74 = .ok (.iload_n 1, 1) := by decide +kernel
theorem dX11_power_75 : decode cX11_power 75 = .ok (.aaload, 1) := by decide +kernel
theorem dX11_power_76 : decode cX11_power 76 = .ok (.aload_n 0, 1) := by decide +kernel
theorem dX11_power_77 : decode cX11_power 77 = .ok (.getfield 101, 3) := by decide +kernel
theorem dX11_power_80 : decode cX11_power 80 = .ok (.invokestatic 136, 3) := by decide +kernel
theorem dX11_power_83 : decode cX11_power 83 = .ok (.iconst 1, 1) := by decide +kernel
theorem dX11_power_84 : decode cX11_power 84 = .ok (.ireturn, 1) := by decide +kernel
theorem dX11_associator_0 : decode cX11_associator 0 = .ok (.iload_n 1, 1) := by decide +kernel
theorem dX11_associator_1 : decode cX11_associator 1 = .ok (.iload_n 2, 1) := by decide +kernel
theorem dX11_associator_2 : decode cX11_associator 2 = .ok (.iload_n 3, 1) := by decide +kernel
theorem dX11_associator_3 : decode cX11_associator 3 = .ok (.invokestatic 144, 3) := by decide +kernel
theorem dX11_associator_6 : decode cX11_associator 6 = .ok (.ifCond .eq 11, 3) := by decide +kernel
theorem dX11_associator_9 : decode cX11_associator 9 = .ok (.iload 4, 2) := by decide +kernel
theorem dX11_associator_11 : decode cX11_associator 11 = .ok (.invokestatic 115, 3) := by decide +kernel
theorem dX11_associator_14 : decode cX11_associator 14 = .ok (.ifCond .ne 5, 3) := by decide +kernel
theorem dX11_associator_17 : decode cX11_associator 17 = .ok (.iconst (-1), 1) := by decide +kernel
theorem dX11_associator_18 : decode cX11_associator 18 = .ok (.ireturn, 1) := by decide +kernel
theorem dX11_associator_19 : decode cX11_associator 19 = .ok (.aload_n 0, 1) := by decide +kernel
theorem dX11_associator_20 : decode cX11_associator 20 = .ok (.getfield 17, 3) := by decide +kernel
theorem dX11_associator_23 : decode cX11_associator 23 = .ok (.aload_n 0, 1) := by decide +kernel
theorem dX11_associator_24 : decode cX11_associator 24 = .ok (.getfield 105, 3) := by decide +kernel
theorem dX11_associator_27 : decode cX11_associator 27 = .ok (.aload_n 0, 1) := by decide +kernel
theorem dX11_associator_28 : decode cX11_associator 28 = .ok (.getfield 11, 3) := by decide +kernel
theorem dX11_associator_31 : decode cX11_associator 31 = .ok (.iload_n 2, 1) := by decide +kernel
theorem dX11_associator_32 : decode cX11_associator 32 = .ok (.aaload, 1) := by decide +kernel
theorem dX11_associator_33 : decode cX11_associator 33 = .ok (.aload_n 0, 1) := by decide +kernel
theorem dX11_associator_34 : decode cX11_associator 34 = .ok (.getfield 11, 3) := by decide +kernel
theorem dX11_associator_37 : decode cX11_associator 37 = .ok (.iload_n 3, 1) := by decide +kernel
theorem dX11_associator_38 : decode cX11_associator 38 = .ok (.aaload, 1) := by decide +kernel
theorem dX11_associator_39 : decode cX11_associator 39 = .ok (.invokevirtual 155, 3) := by decide +kernel
theorem dX11_associator_42 : decode cX11_associator 42 = .ok (.ifCond .eq 108, 3) := by decide +kernel
theorem dX11_associator_45 : decode cX11_associator 45 = .ok (.aload_n 0, 1) := by decide +kernel
theorem dX11_associator_46 : decode cX11_associator 46 = .ok (.getfield 17, 3) := by decide +kernel
theorem dX11_associator_49 : decode cX11_associator 49 = .ok (.aload_n 0, 1) := by decide +kernel
theorem dX11_associator_50 : decode cX11_associator 50 = .ok (.getfield 105, 3) := by decide +kernel
theorem dX11_associator_53 : decode cX11_associator 53 = .ok (.aload_n 0, 1) := by decide +kernel
theorem dX11_associator_54 : decode cX11_associator 54 = .ok (.getfield 105, 3) := by decide +kernel
theorem dX11_associator_57 : decode cX11_associator 57 = .ok (.aload_n 0, 1) := by decide +kernel
theorem dX11_associator_58 : decode cX11_associator 58 = .ok (.getfield 11, 3) := by decide +kernel
theorem dX11_associator_61 : decode cX11_associator 61 = .ok (.iload 4, 2) := by decide +kernel
theorem dX11_associator_63 : decode cX11_associator 63 = .ok (.aaload, 1) := by decide +kernel
theorem dX11_associator_64 : decode cX11_associator 64 = .ok (.invokevirtual 155, 3) := by decide +kernel
theorem dX11_associator_67 : decode cX11_associator 67 = .ok (.ifCond .eq 83, 3) := by decide +kernel
theorem dX11_associator_70 : decode cX11_associator 70 = .ok (.aload_n 0, 1) := by decide +kernel
theorem dX11_associator_71 : decode cX11_associator 71 = .ok (.getfield 17, 3) := by decide +kernel
theorem dX11_associator_74 : decode cX11_associator 74 = .ok (.aload_n 0, 1) := by decide +kernel
theorem dX11_associator_75 : decode cX11_associator 75 = .ok (.getfield 108, 3) := by decide +kernel
theorem dX11_associator_78 : decode cX11_associator 78 = .ok (.aload_n 0, 1) := by decide +kernel
theorem dX11_associator_79 : decode cX11_associator 79 = .ok (.getfield 11, 3) := by decide +kernel
theorem dX11_associator_82 : decode cX11_associator 82 = .ok (.iload_n 3, 1) := by decide +kernel
theorem dX11_associator_83 : decode cX11_associator 83 = .ok (.aaload, 1) := by decide +kernel
theorem dX11_associator_84 : decode cX11_associator 84 = .ok (.aload_n 0, 1) := by decide +kernel
theorem dX11_associator_85 : decode cX11_associator 85 = .ok (.getfield 11, 3) := by decide +kernel
theorem dX11_associator_88 : decode cX11_associator 88 = .ok (.iload 4, 2) := by decide +kernel
theorem dX11_associator_90 : decode cX11_associator 90 = .ok (.aaload, 1) := by decide +kernel
theorem dX11_associator_91 : decode cX11_associator 91 = .ok (.invokevirtual 155, 3) := by decide +kernel
theorem dX11_associator_94 : decode cX11_associator 94 = .ok (.ifCond .eq 56, 3) := by decide +kernel
theorem dX11_associator_97 : decode cX11_associator 97 = .ok (.aload_n 0, 1) := by decide +kernel
theorem dX11_associator_98 : decode cX11_associator 98 = .ok (.getfield 17, 3) := by decide +kernel
theorem dX11_associator_101 : decode cX11_associator 101 = .ok (.aload_n 0, 1) := by decide +kernel
theorem dX11_associator_102 : decode cX11_associator 102 = .ok (.getfield 108, 3) := by decide +kernel
theorem dX11_associator_105 : decode cX11_associator 105 = .ok (.aload_n 0, 1) := by decide +kernel
theorem dX11_associator_106 : decode cX11_associator 106 = .ok (.getfield 11, 3) := by decide +kernel
theorem dX11_associator_109 : decode cX11_associator 109 = .ok (.iload_n 2, 1) := by decide +kernel
theorem dX11_associator_110 : decode cX11_associator 110 = .ok (.aaload, 1) := by decide +kernel
theorem dX11_associator_111 : decode cX11_associator 111 = .ok (.aload_n 0, 1) := by decide +kernel
theorem dX11_associator_112 : decode cX11_associator 112 = .ok (.getfield 108, 3) := by decide +kernel
theorem dX11_associator_115 : decode cX11_associator 115 = .ok (.invokevirtual 155, 3) := by decide +kernel
theorem dX11_associator_118 : decode cX11_associator 118 = .ok (.ifCond .eq 32, 3) := by decide +kernel
theorem dX11_associator_121 : decode cX11_associator 121 = .ok (.aload_n 0, 1) := by decide +kernel
theorem dX11_associator_122 : decode cX11_associator 122 = .ok (.getfield 17, 3) := by decide +kernel
theorem dX11_associator_125 : decode cX11_associator 125 = .ok (.aload_n 0, 1) := by decide +kernel
theorem dX11_associator_126 : decode cX11_associator 126 = .ok (.getfield 11, 3) := by decide +kernel
theorem dX11_associator_129 : decode cX11_associator 129 = .ok (.iload_n 1, 1) := by decide +kernel
theorem dX11_associator_130 : decode cX11_associator 130 = .ok (.aaload, 1) := by decide +kernel
theorem dX11_associator_131 : decode cX11_associator 131 = .ok (.aload_n 0, 1) := by decide +kernel
theorem dX11_associator_132 : decode cX11_associator 132 = .ok (.getfield 105, 3) := by decide +kernel
theorem dX11_associator_135 : decode cX11_associator 135 = .ok (.aload_n 0, 1) := by decide +kernel
theorem dX11_associator_136 : decode cX11_associator 136 = .ok (.getfield 108, 3) := by decide +kernel
theorem dX11_associator_139 : decode cX11_associator 139 = .ok (.iconst (-1), 1) := by decide +kernel
theorem dX11_associator_140 : decode cX11_associator 140 = .ok (.invokevirtual 147, 3) := by decide +kernel
theorem dX11_associator_143 : decode cX11_associator 143 = .ok (.ifCond .eq 7, 3) := by decide +kernel
theorem dX11_associator_146 : decode cX11_associator 146 = .ok (.iconst 1, 1) := by decide +kernel
theorem dX11_associator_147 : decode cX11_associator 147 = .ok (.goto 4, 3) := by decide +kernel
theorem dX11_associator_150 : decode cX11_associator 150 = .ok (.iconst 0, 1) := by decide +kernel
theorem dX11_associator_151 : decode cX11_associator 151 = .ok (.istore 5, 2) := by decide +kernel
theorem dX11_associator_153 : decode cX11_associator 153 = .ok (.iload 5, 2) := by decide +kernel
theorem dX11_associator_155 : decode cX11_associator 155 = .ok (.invokestatic 151, 3) := by decide +kernel
theorem dX11_associator_158 : decode cX11_associator 158 = .ok (.ireturn, 1) := by decide +kernel
theorem dX11_commutator_0 : decode cX11_commutator 0 = .ok (.iload_n 1, 1) := by decide +kernel
theorem dX11_commutator_1 : decode cX11_commutator 1 = .ok (.iload_n 2, 1) := by decide +kernel
theorem dX11_commutator_2 : decode cX11_commutator 2 = .ok (.iload_n 3, 1) := by decide +kernel
theorem dX11_commutator_3 : decode cX11_commutator 3 = .ok (.invokestatic 144, 3) := by decide +kernel
theorem dX11_commutator_6 : decode cX11_commutator 6 = .ok (.ifCond .ne 5, 3) := by decide +kernel
theorem dX11_commutator_9 : decode cX11_commutator 9 = .ok (.iconst (-1), 1) := by decide +kernel
theorem dX11_commutator_10 : decode cX11_commutator 10 = .ok (.ireturn, 1) := by decide +kernel
theorem dX11_commutator_11 : decode cX11_commutator 11 = .ok (.aload_n 0, 1) := by decide +kernel
theorem dX11_commutator_12 : decode cX11_commutator 12 = .ok (.getfield 17, 3) := by decide +kernel
theorem dX11_commutator_15 : decode cX11_commutator 15 = .ok (.aload_n 0, 1) := by decide +kernel
theorem dX11_commutator_16 : decode cX11_commutator 16 = .ok (.getfield 105, 3) := by decide +kernel
theorem dX11_commutator_19 : decode cX11_commutator 19 = .ok (.aload_n 0, 1) := by decide +kernel
theorem dX11_commutator_20 : decode cX11_commutator 20 = .ok (.getfield 11, 3) := by decide +kernel
theorem dX11_commutator_23 : decode cX11_commutator 23 = .ok (.iload_n 2, 1) := by decide +kernel
theorem dX11_commutator_24 : decode cX11_commutator 24 = .ok (.aaload, 1) := by decide +kernel
theorem dX11_commutator_25 : decode cX11_commutator 25 = .ok (.aload_n 0, 1) := by decide +kernel
theorem dX11_commutator_26 : decode cX11_commutator 26 = .ok (.getfield 11, 3) := by decide +kernel
theorem dX11_commutator_29 : decode cX11_commutator 29 = .ok (.iload_n 3, 1) := by decide +kernel
theorem dX11_commutator_30 : decode cX11_commutator 30 = .ok (.aaload, 1) := by decide +kernel
theorem dX11_commutator_31 : decode cX11_commutator 31 = .ok (.invokevirtual 155, 3) := by decide +kernel
theorem dX11_commutator_34 : decode cX11_commutator 34 = .ok (.ifCond .eq 58, 3) := by decide +kernel
theorem dX11_commutator_37 : decode cX11_commutator 37 = .ok (.aload_n 0, 1) := by decide +kernel
theorem dX11_commutator_38 : decode cX11_commutator 38 = .ok (.getfield 17, 3) := by decide +kernel
theorem dX11_commutator_41 : decode cX11_commutator 41 = .ok (.aload_n 0, 1) := by decide +kernel
theorem dX11_commutator_42 : decode cX11_commutator 42 = .ok (.getfield 108, 3) := by decide +kernel
theorem dX11_commutator_45 : decode cX11_commutator 45 = .ok (.aload_n 0, 1) := by decide +kernel
theorem dX11_commutator_46 : decode cX11_commutator 46 = .ok (.getfield 11, 3) := by decide +kernel
theorem dX11_commutator_49 : decode cX11_commutator 49 = .ok (.iload_n 3, 1) := by decide +kernel
theorem dX11_commutator_50 : decode cX11_commutator 50 = .ok (.aaload, 1) := by decide +kernel
theorem dX11_commutator_51 : decode cX11_commutator 51 = .ok (.aload_n 0, 1) := by decide +kernel
theorem dX11_commutator_52 : decode cX11_commutator 52 = .ok (.getfield 11, 3) := by decide +kernel
theorem dX11_commutator_55 : decode cX11_commutator 55 = .ok (.iload_n 2, 1) := by decide +kernel
theorem dX11_commutator_56 : decode cX11_commutator 56 = .ok (.aaload, 1) := by decide +kernel
theorem dX11_commutator_57 : decode cX11_commutator 57 = .ok (.invokevirtual 155, 3) := by decide +kernel
theorem dX11_commutator_60 : decode cX11_commutator 60 = .ok (.ifCond .eq 32, 3) := by decide +kernel
theorem dX11_commutator_63 : decode cX11_commutator 63 = .ok (.aload_n 0, 1) := by decide +kernel
theorem dX11_commutator_64 : decode cX11_commutator 64 = .ok (.getfield 17, 3) := by decide +kernel
theorem dX11_commutator_67 : decode cX11_commutator 67 = .ok (.aload_n 0, 1) := by decide +kernel
theorem dX11_commutator_68 : decode cX11_commutator 68 = .ok (.getfield 11, 3) := by decide +kernel
theorem dX11_commutator_71 : decode cX11_commutator 71 = .ok (.iload_n 1, 1) := by decide +kernel
theorem dX11_commutator_72 : decode cX11_commutator 72 = .ok (.aaload, 1) := by decide +kernel
theorem dX11_commutator_73 : decode cX11_commutator 73 = .ok (.aload_n 0, 1) := by decide +kernel
theorem dX11_commutator_74 : decode cX11_commutator 74 = .ok (.getfield 105, 3) := by decide +kernel
theorem dX11_commutator_77 : decode cX11_commutator 77 = .ok (.aload_n 0, 1) := by decide +kernel
theorem dX11_commutator_78 : decode cX11_commutator 78 = .ok (.getfield 108, 3) := by decide +kernel
theorem dX11_commutator_81 : decode cX11_commutator 81 = .ok (.iconst (-1), 1) := by decide +kernel
theorem dX11_commutator_82 : decode cX11_commutator 82 = .ok (.invokevirtual 147, 3) := by decide +kernel
theorem dX11_commutator_85 : decode cX11_commutator 85 = .ok (.ifCond .eq 7, 3) := by decide +kernel
theorem dX11_commutator_88 : decode cX11_commutator 88 = .ok (.iconst 1, 1) := by decide +kernel
theorem dX11_commutator_89 : decode cX11_commutator 89 = .ok (.goto 4, 3) := by decide +kernel
theorem dX11_commutator_92 : decode cX11_commutator 92 = .ok (.iconst 0, 1) := by decide +kernel
theorem dX11_commutator_93 : decode cX11_commutator 93 = .ok (.istore 4, 2) := by decide +kernel
theorem dX11_commutator_95 : decode cX11_commutator 95 = .ok (.iload 4, 2) := by decide +kernel
theorem dX11_commutator_97 : decode cX11_commutator 97 = .ok (.invokestatic 151, 3) := by decide +kernel
theorem dX11_commutator_100 : decode cX11_commutator 100 = .ok (.ireturn, 1) := by decide +kernel
theorem dX11_nearest_0 : decode cX11_nearest 0 = .ok (.iload_n 1, 1) := by decide +kernel
theorem dX11_nearest_1 : decode cX11_nearest 1 = .ok (.iload_n 2, 1) := by decide +kernel
theorem dX11_nearest_2 : decode cX11_nearest 2 = .ok (.invokestatic 132, 3) := by decide +kernel
theorem dX11_nearest_5 : decode cX11_nearest 5 = .ok (.ifCond .eq 10, 3) := by decide +kernel
theorem dX11_nearest_8 : decode cX11_nearest 8 = .ok (.iload_n 3, 1) := by decide +kernel
theorem dX11_nearest_9 : decode cX11_nearest 9 = .ok (.invokestatic 190, 3) := by decide +kernel
theorem dX11_nearest_12 : decode cX11_nearest 12 = .ok (.ifCond .ne 5, 3) := by decide +kernel
theorem dX11_nearest_15 : decode cX11_nearest 15 = .ok (.iconst (-1), 1) := by decide +kernel
theorem dX11_nearest_16 : decode cX11_nearest 16 = .ok (.ireturn, 1) := by decide +kernel
theorem dX11_nearest_17 : decode cX11_nearest 17 = .ok (.iconst 0, 1) := by decide +kernel
theorem dX11_nearest_18 : decode cX11_nearest 18 = .ok (.istore 4, 2) := by decide +kernel
theorem dX11_nearest_20 : decode cX11_nearest 20 = .ok (.iload 4, 2) := by decide +kernel
theorem dX11_nearest_22 : decode cX11_nearest 22 = .ok (.bipush 8, 2) := by decide +kernel
theorem dX11_nearest_24 : decode cX11_nearest 24 = .ok (.if_icmp .ge 26, 3) := by decide +kernel
theorem dX11_nearest_27 : decode cX11_nearest 27 = .ok (.aload_n 0, 1) := by decide +kernel
theorem dX11_nearest_28 : decode cX11_nearest 28 = .ok (.getfield 111, 3) := by decide +kernel
theorem dX11_nearest_31 : decode cX11_nearest 31 = .ok (.iload 4, 2) := by decide +kernel
theorem dX11_nearest_33 : decode cX11_nearest 33 = .ok (.aload_n 0, 1) := by decide +kernel
theorem dX11_nearest_34 : decode cX11_nearest 34 = .ok (.getfield 11, 3) := by decide +kernel
theorem dX11_nearest_37 : decode cX11_nearest 37 = .ok (.iload_n 2, 1) := by decide +kernel
theorem dX11_nearest_38 : decode cX11_nearest 38 = .ok (.aaload, 1) := by decide +kernel
theorem dX11_nearest_39 : decode cX11_nearest 39 = .ok (.iload 4, 2) := by decide +kernel
theorem dX11_nearest_41 : decode cX11_nearest 41 = .ok (.iaload, 1) := by decide +kernel
theorem dX11_nearest_42 : decode cX11_nearest 42 = .ok (.i2l, 1) := by decide +kernel
theorem dX11_nearest_43 : decode cX11_nearest 43 = .ok (.lastore, 1) := by decide +kernel
theorem dX11_nearest_44 : decode cX11_nearest 44 = .ok (.iinc 4 1, 3) := by decide +kernel
theorem dX11_nearest_47 : decode cX11_nearest 47 = .ok (.goto (-27), 3) := by decide +kernel
theorem dX11_nearest_50 : decode cX11_nearest 50 = .ok (.aload_n 0, 1) := by decide +kernel
theorem dX11_nearest_51 : decode cX11_nearest 51 = .ok (.getfield 24, 3) := by decide +kernel
theorem dX11_nearest_54 : decode cX11_nearest 54 = .ok (.aload_n 0, 1) := by decide +kernel
theorem dX11_nearest_55 : decode cX11_nearest 55 = .ok (.getfield 11, 3) := by decide +kernel
theorem dX11_nearest_58 : decode cX11_nearest 58 = .ok (.iload_n 1, 1) := by decide +kernel
theorem dX11_nearest_59 : decode cX11_nearest 59 = .ok (.aaload, 1) := by decide +kernel
theorem dX11_nearest_60 : decode cX11_nearest 60 = .ok (.aload_n 0, 1) := by decide +kernel
theorem dX11_nearest_61 : decode cX11_nearest 61 = .ok (.getfield 111, 3) := by decide +kernel
theorem dX11_nearest_64 : decode cX11_nearest 64 = .ok (.iload_n 3, 1) := by decide +kernel
theorem dX11_nearest_65 : decode cX11_nearest 65 = .ok (.i2l, 1) := by decide +kernel
theorem dX11_nearest_66 : decode cX11_nearest 66 = .ok (.invokevirtual 193, 3) := by decide +kernel
theorem dX11_nearest_69 : decode cX11_nearest 69 = .ok (.invokestatic 151, 3) := by decide +kernel
theorem dX11_nearest_72 : decode cX11_nearest 72 = .ok (.ireturn, 1) := by decide +kernel
theorem dX11_divide_0 : decode cX11_divide 0 = .ok (.iload_n 1, 1) := by decide +kernel
theorem dX11_divide_1 : decode cX11_divide 1 = .ok (.iload_n 2, 1) := by decide +kernel
theorem dX11_divide_2 : decode cX11_divide 2 = .ok (.invokestatic 132, 3) := by decide +kernel
theorem dX11_divide_5 : decode cX11_divide 5 = .ok (.ifCond .eq 12, 3) := by decide +kernel
theorem dX11_divide_8 : decode cX11_divide 8 = .ok (.iload_n 3, 1) := by decide +kernel
theorem dX11_divide_9 : decode cX11_divide 9 = .ok (.iload 4, 2) := by decide +kernel
theorem dX11_divide_11 : decode cX11_divide 11 = .ok (.invokestatic 132, 3) := by decide +kernel
theorem dX11_divide_14 : decode cX11_divide 14 = .ok (.ifCond .ne 5, 3) := by decide +kernel
theorem dX11_divide_17 : decode cX11_divide 17 = .ok (.iconst (-1), 1) := by decide +kernel
theorem dX11_divide_18 : decode cX11_divide 18 = .ok (.ireturn, 1) := by decide +kernel
theorem dX11_divide_19 : decode cX11_divide 19 = .ok (.aload_n 0, 1) := by decide +kernel
theorem dX11_divide_20 : decode cX11_divide 20 = .ok (.getfield 51, 3) := by decide +kernel
theorem dX11_divide_23 : decode cX11_divide 23 = .ok (.aload_n 0, 1) := by decide +kernel
theorem dX11_divide_24 : decode cX11_divide 24 = .ok (.getfield 11, 3) := by decide +kernel
theorem dX11_divide_27 : decode cX11_divide 27 = .ok (.iload_n 3, 1) := by decide +kernel
theorem dX11_divide_28 : decode cX11_divide 28 = .ok (.aaload, 1) := by decide +kernel
theorem dX11_divide_29 : decode cX11_divide 29 = .ok (.aload_n 0, 1) := by decide +kernel
theorem dX11_divide_30 : decode cX11_divide 30 = .ok (.getfield 11, 3) := by decide +kernel
theorem dX11_divide_33 : decode cX11_divide 33 = .ok (.iload 4, 2) := by decide +kernel
theorem dX11_divide_35 : decode cX11_divide 35 = .ok (.aaload, 1) := by decide +kernel
theorem dX11_divide_36 : decode cX11_divide 36 = .ok (.invokevirtual 197, 3) := by decide +kernel
theorem dX11_divide_39 : decode cX11_divide 39 = .ok (.ifCond .ne 6, 3) := by decide +kernel
theorem dX11_divide_42 : decode cX11_divide 42 = .ok (.bipush (-2), 2) := by decide +kernel
theorem dX11_divide_44 : decode cX11_divide 44 = .ok (.ireturn, 1) := by decide +kernel
theorem dX11_divide_45 : decode cX11_divide 45 = .ok (.aload_n 0, 1) := by decide +kernel
theorem dX11_divide_46 : decode cX11_divide 46 = .ok (.getfield 11, 3) := by decide +kernel
theorem dX11_divide_49 : decode cX11_divide 49 = .ok (.iload_n 1, 1) := by decide +kernel
theorem dX11_divide_50 : decode cX11_divide 50 = .ok (.aaload, 1) := by decide +kernel
theorem dX11_divide_51 : decode cX11_divide 51 = .ok (.aload_n 0, 1) := by decide +kernel
theorem dX11_divide_52 : decode cX11_divide 52 = .ok (.getfield 51, 3) := by decide +kernel
theorem dX11_divide_55 : decode cX11_divide 55 = .ok (.getfield 201, 3) := by decide +kernel
theorem dX11_divide_58 : decode cX11_divide 58 = .ok (.invokestatic 136, 3) := by decide +kernel
theorem dX11_divide_61 : decode cX11_divide 61 = .ok (.aload_n 0, 1) := by decide +kernel
theorem dX11_divide_62 : decode cX11_divide 62 = .ok (.getfield 11, 3) := by decide +kernel
theorem dX11_divide_65 : decode cX11_divide 65 = .ok (.iload_n 2, 1) := by decide +kernel
theorem dX11_divide_66 : decode cX11_divide 66 = .ok (.aaload, 1) := by decide +kernel
theorem dX11_divide_67 : decode cX11_divide 67 = .ok (.aload_n 0, 1) := by decide +kernel
theorem dX11_divide_68 : decode cX11_divide 68 = .ok (.getfield 51, 3) := by decide +kernel
theorem dX11_divide_71 : decode cX11_divide 71 = .ok (.getfield 204, 3) := by decide +kernel
theorem dX11_divide_74 : decode cX11_divide 74 = .ok (.invokestatic 136, 3) := by decide +kernel
theorem dX11_divide_77 : decode cX11_divide 77 = .ok (.iconst 1, 1) := by decide +kernel
theorem dX11_divide_78 : decode cX11_divide 78 = .ok (.ireturn, 1) := by decide +kernel
theorem dX11_bracket_0 : decode cX11_bracket 0 = .ok (.iload_n 1, 1) := by decide +kernel
theorem dX11_bracket_1 : decode cX11_bracket 1 = .ok (.invokestatic 115, 3) := by decide +kernel
theorem dX11_bracket_4 : decode cX11_bracket 4 = .ok (.ifCond .eq 30, 3) := by decide +kernel
theorem dX11_bracket_7 : decode cX11_bracket 7 = .ok (.iconst 2, 1) := by decide +kernel
theorem dX11_bracket_8 : decode cX11_bracket 8 = .ok (.iload_n 2, 1) := by decide +kernel
theorem dX11_bracket_9 : decode cX11_bracket 9 = .ok (.iload_n 3, 1) := by decide +kernel
theorem dX11_bracket_10 : decode cX11_bracket 10 = .ok (.invokestatic 172, 3) := by decide +kernel
theorem dX11_bracket_13 : decode cX11_bracket 13 = .ok (.ifCond .eq 21, 3) := by decide +kernel
theorem dX11_bracket_16 : decode cX11_bracket 16 = .ok (.iload 4, 2) := by decide +kernel
theorem dX11_bracket_18 : decode cX11_bracket 18 = .ok (.ifCond .lt 16, 3) := by decide +kernel
theorem dX11_bracket_21 : decode cX11_bracket 21 = .ok (.iload 4, 2) := by decide +kernel
theorem dX11_bracket_23 : decode cX11_bracket 23 = .ok (.aload_n 0, 1) := by decide +kernel
theorem dX11_bracket_24 : decode cX11_bracket 24 = .ok (.getfield 67, 3) := by decide +kernel
theorem dX11_bracket_27 : decode cX11_bracket 27 = .ok (.iload_n 2, 1) := by decide +kernel
theorem dX11_bracket_28 : decode cX11_bracket 28 = .ok (.invokevirtual 207, 3) := by decide +kernel
theorem dX11_bracket_31 : decode cX11_bracket 31 = .ok (.if_icmp .lt 5, 3) := by decide +kernel
theorem dX11_bracket_34 : decode cX11_bracket 34 = .ok (.iconst (-1), 1) := by decide +kernel
theorem dX11_bracket_35 : decode cX11_bracket 35 = .ok (.ireturn, 1) := by decide +kernel
theorem dX11_bracket_36 : decode cX11_bracket 36 = .ok (.aload_n 0, 1) := by decide +kernel
theorem dX11_bracket_37 : decode cX11_bracket 37 = .ok (.getfield 67, 3) := by decide +kernel
theorem dX11_bracket_40 : decode cX11_bracket 40 = .ok (.aload_n 0, 1) := by decide +kernel
theorem dX11_bracket_41 : decode cX11_bracket 41 = .ok (.getfield 11, 3) := by decide +kernel
theorem dX11_bracket_44 : decode cX11_bracket 44 = .ok (.iload_n 2, 1) := by decide +kernel
theorem dX11_bracket_45 : decode cX11_bracket 45 = .ok (.iload_n 3, 1) := by decide +kernel
theorem dX11_bracket_46 : decode cX11_bracket 46 = .ok (.invokevirtual 211, 3) := by decide +kernel
theorem dX11_bracket_49 : decode cX11_bracket 49 = .ok (.aload_n 0, 1) := by decide +kernel
theorem dX11_bracket_50 : decode cX11_bracket 50 = .ok (.getfield 67, 3) := by decide +kernel
theorem dX11_bracket_53 : decode cX11_bracket 53 = .ok (.aload_n 0, 1) := by decide +kernel
theorem dX11_bracket_54 : decode cX11_bracket 54 = .ok (.getfield 11, 3) := by decide +kernel
theorem dX11_bracket_57 : decode cX11_bracket 57 = .ok (.iload_n 1, 1) := by decide +kernel
theorem dX11_bracket_58 : decode cX11_bracket 58 = .ok (.aaload, 1) := by decide +kernel
theorem dX11_bracket_59 : decode cX11_bracket 59 = .ok (.iload_n 2, 1) := by decide +kernel
theorem dX11_bracket_60 : decode cX11_bracket 60 = .ok (.iload 4, 2) := by decide +kernel
theorem dX11_bracket_62 : decode cX11_bracket 62 = .ok (.invokevirtual 215, 3) := by decide +kernel
theorem dX11_bracket_65 : decode cX11_bracket 65 = .ok (.invokestatic 151, 3) := by decide +kernel
theorem dX11_bracket_68 : decode cX11_bracket 68 = .ok (.ireturn, 1) := by decide +kernel
theorem dX11_feed_0 : decode cX11_feed 0 = .ok (.aload_n 0, 1) := by decide +kernel
theorem dX11_feed_1 : decode cX11_feed 1 = .ok (.getfield 74, 3) := by decide +kernel
theorem dX11_feed_4 : decode cX11_feed 4 = .ok (.invokevirtual 218, 3) := by decide +kernel
theorem dX11_feed_7 : decode cX11_feed 7 = .ok (.ifCond .ne 5, 3) := by decide +kernel
theorem dX11_feed_10 : decode cX11_feed 10 = .ok (.iconst (-1), 1) := by decide +kernel
theorem dX11_feed_11 : decode cX11_feed 11 = .ok (.ireturn, 1) := by decide +kernel
theorem dX11_feed_12 : decode cX11_feed 12 = .ok (.aload_n 0, 1) := by decide +kernel
theorem dX11_feed_13 : decode cX11_feed 13 = .ok (.getfield 74, 3) := by decide +kernel
theorem dX11_feed_16 : decode cX11_feed 16 = .ok (.iload_n 1, 1) := by decide +kernel
theorem dX11_feed_17 : decode cX11_feed 17 = .ok (.invokevirtual 222, 3) := by decide +kernel
theorem dX11_feed_20 : decode cX11_feed 20 = .ok (.aload_n 0, 1) := by decide +kernel
theorem dX11_feed_21 : decode cX11_feed 21 = .ok (.getfield 74, 3) := by decide +kernel
theorem dX11_feed_24 : decode cX11_feed 24 = .ok (.iload_n 2, 1) := by decide +kernel
theorem dX11_feed_25 : decode cX11_feed 25 = .ok (.invokevirtual 222, 3) := by decide +kernel
theorem dX11_feed_28 : decode cX11_feed 28 = .ok (.aload_n 0, 1) := by decide +kernel
theorem dX11_feed_29 : decode cX11_feed 29 = .ok (.getfield 74, 3) := by decide +kernel
theorem dX11_feed_32 : decode cX11_feed 32 = .ok (.iload_n 3, 1) := by decide +kernel
theorem dX11_feed_33 : decode cX11_feed 33 = .ok (.invokevirtual 222, 3) := by decide +kernel
theorem dX11_feed_36 : decode cX11_feed 36 = .ok (.aload_n 0, 1) := by decide +kernel
theorem dX11_feed_37 : decode cX11_feed 37 = .ok (.getfield 74, 3) := by decide +kernel
theorem dX11_feed_40 : decode cX11_feed 40 = .ok (.iload 4, 2) := by decide +kernel
theorem dX11_feed_42 : decode cX11_feed 42 = .ok (.invokevirtual 222, 3) := by decide +kernel
theorem dX11_feed_45 : decode cX11_feed 45 = .ok (.aload_n 0, 1) := by decide +kernel
theorem dX11_feed_46 : decode cX11_feed 46 = .ok (.getfield 74, 3) := by decide +kernel
theorem dX11_feed_49 : decode cX11_feed 49 = .ok (.iload 5, 2) := by decide +kernel
theorem dX11_feed_51 : decode cX11_feed 51 = .ok (.invokevirtual 222, 3) := by decide +kernel
theorem dX11_feed_54 : decode cX11_feed 54 = .ok (.aload_n 0, 1) := by decide +kernel
theorem dX11_feed_55 : decode cX11_feed 55 = .ok (.getfield 74, 3) := by decide +kernel
theorem dX11_feed_58 : decode cX11_feed 58 = .ok (.getfield 226, 3) := by decide +kernel
theorem dX11_feed_61 : decode cX11_feed 61 = .ok (.ireturn, 1) := by decide +kernel
theorem dX11_back_0 : decode cX11_back 0 = .ok (.iload_n 1, 1) := by decide +kernel
theorem dX11_back_1 : decode cX11_back 1 = .ok (.ifCond .lt 14, 3) := by decide +kernel
theorem dX11_back_4 : decode cX11_back 4 = .ok (.iload_n 1, 1) := by decide +kernel
theorem dX11_back_5 : decode cX11_back 5 = .ok (.aload_n 0, 1) := by decide +kernel
theorem dX11_back_6 : decode cX11_back 6 = .ok (.getfield 74, 3) := by decide +kernel
theorem dX11_back_9 : decode cX11_back 9 = .ok (.getfield 226, 3) := by decide +kernel
theorem dX11_back_12 : decode cX11_back 12 = .ok (.if_icmp .le 5, 3) := by decide +kernel
theorem dX11_back_15 : decode cX11_back 15 = .ok (.iconst (-1), 1) := by decide +kernel
theorem dX11_back_16 : decode cX11_back 16 = .ok (.ireturn, 1) := by decide +kernel
theorem dX11_back_17 : decode cX11_back 17 = .ok (.aload_n 0, 1) := by decide +kernel
theorem dX11_back_18 : decode cX11_back 18 = .ok (.getfield 74, 3) := by decide +kernel
theorem dX11_back_21 : decode cX11_back 21 = .ok (.dup, 1) := by decide +kernel
theorem dX11_back_22 : decode cX11_back 22 = .ok (.getfield 226, 3) := by decide +kernel
theorem dX11_back_25 : decode cX11_back 25 = .ok (.iload_n 1, 1) := by decide +kernel
theorem dX11_back_26 : decode cX11_back 26 = .ok (.isub, 1) := by decide +kernel
theorem dX11_back_27 : decode cX11_back 27 = .ok (.putfield 226, 3) := by decide +kernel
theorem dX11_back_30 : decode cX11_back 30 = .ok (.aload_n 0, 1) := by decide +kernel
theorem dX11_back_31 : decode cX11_back 31 = .ok (.getfield 74, 3) := by decide +kernel
theorem dX11_back_34 : decode cX11_back 34 = .ok (.getfield 226, 3) := by decide +kernel
theorem dX11_back_37 : decode cX11_back 37 = .ok (.ireturn, 1) := by decide +kernel
theorem dX11_work_0 : decode cX11_work 0 = .ok (.iload_n 1, 1) := by decide +kernel
theorem dX11_work_1 : decode cX11_work 1 = .ok (.invokestatic 115, 3) := by decide +kernel
theorem dX11_work_4 : decode cX11_work 4 = .ok (.ifCond .ne 5, 3) := by decide +kernel
theorem dX11_work_7 : decode cX11_work 7 = .ok (.iconst (-1), 1) := by decide +kernel
theorem dX11_work_8 : decode cX11_work 8 = .ok (.ireturn, 1) := by decide +kernel
theorem dX11_work_9 : decode cX11_work 9 = .ok (.aload_n 0, 1) := by decide +kernel
theorem dX11_work_10 : decode cX11_work 10 = .ok (.getfield 83, 3) := by decide +kernel
theorem dX11_work_13 : decode cX11_work 13 = .ok (.invokevirtual 229, 3) := by decide +kernel
theorem dX11_work_16 : decode cX11_work 16 = .ok (.istore_n 2, 1) := by decide +kernel
theorem dX11_work_17 : decode cX11_work 17 = .ok (.aload_n 0, 1) := by decide +kernel
theorem dX11_work_18 : decode cX11_work 18 = .ok (.getfield 74, 3) := by decide +kernel
theorem dX11_work_21 : decode cX11_work 21 = .ok (.iconst 0, 1) := by decide +kernel
theorem dX11_work_22 : decode cX11_work 22 = .ok (.putfield 226, 3) := by decide +kernel
theorem dX11_work_25 : decode cX11_work 25 = .ok (.iload_n 2, 1) := by decide +kernel
theorem dX11_work_26 : decode cX11_work 26 = .ok (.iconst (-1), 1) := by decide +kernel
theorem dX11_work_27 : decode cX11_work 27 = .ok (.if_icmp .eq 8, 3) := by decide +kernel
theorem dX11_work_30 : decode cX11_work 30 = .ok (.bipush (-4), 2) := by decide +kernel
theorem dX11_work_32 : decode cX11_work 32 = .ok (.iload_n 2, 1) := by decide +kernel
theorem dX11_work_33 : decode cX11_work 33 = .ok (.isub, 1) := by decide +kernel
theorem dX11_work_34 : decode cX11_work 34 = .ok (.ireturn, 1) := by decide +kernel
theorem dX11_work_35 : decode cX11_work 35 = .ok (.aload_n 0, 1) := by decide +kernel
theorem dX11_work_36 : decode cX11_work 36 = .ok (.getfield 83, 3) := by decide +kernel
theorem dX11_work_39 : decode cX11_work 39 = .ok (.aload_n 0, 1) := by decide +kernel
theorem dX11_work_40 : decode cX11_work 40 = .ok (.getfield 11, 3) := by decide +kernel
theorem dX11_work_43 : decode cX11_work 43 = .ok (.iload_n 1, 1) := by decide +kernel
theorem dX11_work_44 : decode cX11_work 44 = .ok (.aaload, 1) := by decide +kernel
theorem dX11_work_45 : decode cX11_work 45 = .ok (.invokevirtual 233, 3) := by decide +kernel
theorem dX11_work_48 : decode cX11_work 48 = .ok (.invokestatic 151, 3) := by decide +kernel
theorem dX11_work_51 : decode cX11_work 51 = .ok (.ireturn, 1) := by decide +kernel
theorem dX11_part_0 : decode cX11_part 0 = .ok (.iload_n 1, 1) := by decide +kernel
theorem dX11_part_1 : decode cX11_part 1 = .ok (.invokestatic 115, 3) := by decide +kernel
theorem dX11_part_4 : decode cX11_part 4 = .ok (.ifCond .eq 21, 3) := by decide +kernel
theorem dX11_part_7 : decode cX11_part 7 = .ok (.iload_n 2, 1) := by decide +kernel
theorem dX11_part_8 : decode cX11_part 8 = .ok (.invokestatic 115, 3) := by decide +kernel
theorem dX11_part_11 : decode cX11_part 11 = .ok (.ifCond .eq 14, 3) := by decide +kernel
theorem dX11_part_14 : decode cX11_part 14 = .ok (.aload_n 0, 1) := by decide +kernel
theorem dX11_part_15 : decode cX11_part 15 = .ok (.getfield 11, 3) := by decide +kernel
theorem dX11_part_18 : decode cX11_part 18 = .ok (.iload_n 1, 1) := by decide +kernel
theorem dX11_part_19 : decode cX11_part 19 = .ok (.aaload, 1) := by decide +kernel
theorem dX11_part_20 : decode cX11_part 20 = .ok (.iload_n 2, 1) := by decide +kernel
theorem dX11_part_21 : decode cX11_part 21 = .ok (.iaload, 1) := by decide +kernel
theorem dX11_part_22 : decode cX11_part 22 = .ok (.goto 6, 3) := by decide +kernel
theorem dX11_part_25 : decode cX11_part 25 = .ok (.sipush (-30000), 3) := by decide +kernel
theorem dX11_part_28 : decode cX11_part 28 = .ok (.ireturn, 1) := by decide +kernel
theorem dX11_norm_0 : decode cX11_norm 0 = .ok (.iload_n 1, 1) := by decide +kernel
theorem dX11_norm_1 : decode cX11_norm 1 = .ok (.invokestatic 115, 3) := by decide +kernel
theorem dX11_norm_4 : decode cX11_norm 4 = .ok (.ifCond .eq 18, 3) := by decide +kernel
theorem dX11_norm_7 : decode cX11_norm 7 = .ok (.aload_n 0, 1) := by decide +kernel
theorem dX11_norm_8 : decode cX11_norm 8 = .ok (.getfield 11, 3) := by decide +kernel
theorem dX11_norm_11 : decode cX11_norm 11 = .ok (.iload_n 1, 1) := by decide +kernel
theorem dX11_norm_12 : decode cX11_norm 12 = .ok (.aaload, 1) := by decide +kernel
theorem dX11_norm_13 : decode cX11_norm 13 = .ok (.invokestatic 236, 3) := by decide +kernel
theorem dX11_norm_16 : decode cX11_norm 16 = .ok (.invokestatic 240, 3) := by decide +kernel
theorem dX11_norm_19 : decode cX11_norm 19 = .ok (.goto 4, 3) := by decide +kernel
theorem dX11_norm_22 : decode cX11_norm 22 = .ok (.iconst (-1), 1) := by decide +kernel
theorem dX11_norm_23 : decode cX11_norm 23 = .ok (.ireturn, 1) := by decide +kernel
theorem dX11_spell_0 : decode cX11_spell 0 = .ok (.iload_n 1, 1) := by decide +kernel
theorem dX11_spell_1 : decode cX11_spell 1 = .ok (.invokestatic 115, 3) := by decide +kernel
theorem dX11_spell_4 : decode cX11_spell 4 = .ok (.ifCond .eq 8, 3) := by decide +kernel
theorem dX11_spell_7 : decode cX11_spell 7 = .ok (.iload_n 2, 1) := by decide +kernel
theorem dX11_spell_8 : decode cX11_spell 8 = .ok (.iconst (-1), 1) := by decide +kernel
theorem dX11_spell_9 : decode cX11_spell 9 = .ok (.if_icmp .ge 5, 3) := by decide +kernel
theorem dX11_spell_12 : decode cX11_spell 12 = .ok (.iconst (-1), 1) := by decide +kernel
theorem dX11_spell_13 : decode cX11_spell 13 = .ok (.ireturn, 1) := by decide +kernel
theorem dX11_spell_14 : decode cX11_spell 14 = .ok (.aload_n 0, 1) := by decide +kernel
theorem dX11_spell_15 : decode cX11_spell 15 = .ok (.getfield 97, 3) := by decide +kernel
theorem dX11_spell_18 : decode cX11_spell 18 = .ok (.iconst 0, 1) := by decide +kernel
theorem dX11_spell_19 : decode cX11_spell 19 = .ok (.invokevirtual 244, 3) := by decide +kernel
theorem dX11_spell_22 : decode cX11_spell 22 = .ok (.iconst 0, 1) := by decide +kernel
theorem dX11_spell_23 : decode cX11_spell 23 = .ok (.istore_n 3, 1) := by decide +kernel
theorem dX11_spell_24 : decode cX11_spell 24 = .ok (.iload_n 3, 1) := by decide +kernel
theorem dX11_spell_25 : decode cX11_spell 25 = .ok (.bipush 8, 2) := by decide +kernel
theorem dX11_spell_27 : decode cX11_spell 27 = .ok (.if_icmp .ge 22, 3) := by decide +kernel
theorem dX11_spell_30 : decode cX11_spell 30 = .ok (.aload_n 0, 1) := by decide +kernel
theorem dX11_spell_31 : decode cX11_spell 31 = .ok (.aload_n 0, 1) := by decide +kernel
theorem dX11_spell_32 : decode cX11_spell 32 = .ok (.getfield 11, 3) := by decide +kernel
theorem dX11_spell_35 : decode cX11_spell 35 = .ok (.iload_n 1, 1) := by decide +kernel
theorem dX11_spell_36 : decode cX11_spell 36 = .ok (.aaload, 1) := by decide +kernel
theorem dX11_spell_37 : decode cX11_spell 37 = .ok (.iload_n 3, 1) := by decide +kernel
theorem dX11_spell_38 : decode cX11_spell 38 = .ok (.iaload, 1) := by decide +kernel
theorem dX11_spell_39 : decode cX11_spell 39 = .ok (.iload_n 3, 1) := by decide +kernel
theorem dX11_spell_40 : decode cX11_spell 40 = .ok (.invokevirtual 247, 3) := by decide +kernel
theorem dX11_spell_43 : decode cX11_spell 43 = .ok (.iinc 3 1, 3) := by decide +kernel
theorem dX11_spell_46 : decode cX11_spell 46 = .ok (.goto (-22), 3) := by decide +kernel
theorem dX11_spell_49 : decode cX11_spell 49 = .ok (.aload_n 0, 1) := by decide +kernel
theorem dX11_spell_50 : decode cX11_spell 50 = .ok (.getfield 97, 3) := by decide +kernel
theorem dX11_spell_53 : decode cX11_spell 53 = .ok (.invokevirtual 251, 3) := by decide +kernel
theorem dX11_spell_56 : decode cX11_spell 56 = .ok (.ifCond .ne 13, 3) := by decide +kernel
theorem dX11_spell_59 : decode cX11_spell 59 = .ok (.aload_n 0, 1) := by decide +kernel
theorem dX11_spell_60 : decode cX11_spell 60 = .ok (.getfield 97, 3) := by decide +kernel
theorem dX11_spell_63 : decode cX11_spell 63 = .ok (.bipush 48, 2) := by decide +kernel
theorem dX11_spell_65 : decode cX11_spell 65 = .ok (.invokevirtual 253, 3) := by decide +kernel
theorem dX11_spell_68 : decode cX11_spell 68 = .ok (.pop, 1) := by decide +kernel
theorem dX11_spell_69 : decode cX11_spell 69 = .ok (.iload_n 2, 1) := by decide +kernel
theorem dX11_spell_70 : decode cX11_spell 70 = .ok (.iconst (-1), 1) := by decide +kernel
theorem dX11_spell_71 : decode cX11_spell 71 = .ok (.if_icmp .ne 11, 3) := by decide +kernel
theorem dX11_spell_74 : decode cX11_spell 74 = .ok (.aload_n 0, 1) := by decide +kernel
theorem dX11_spell_75 : decode cX11_spell 75 = .ok (.getfield 97, 3) := by decide +kernel
theorem dX11_spell_78 : decode cX11_spell 78 = .ok (.invokevirtual 251, 3) := by decide +kernel
theorem dX11_spell_81 : decode cX11_spell 81 = .ok (.ireturn, 1) := by decide +kernel
theorem dX11_spell_82 : decode cX11_spell 82 = .ok (.iload_n 2, 1) := by decide +kernel
theorem dX11_spell_83 : decode cX11_spell 83 = .ok (.aload_n 0, 1) := by decide +kernel
theorem dX11_spell_84 : decode cX11_spell 84 = .ok (.getfield 97, 3) := by decide +kernel
theorem dX11_spell_87 : decode cX11_spell 87 = .ok (.invokevirtual 251, 3) := by decide +kernel
theorem dX11_spell_90 : decode cX11_spell 90 = .ok (.if_icmp .ge 14, 3) := by decide +kernel
theorem dX11_spell_93 : decode cX11_spell 93 = .ok (.aload_n 0, 1) := by decide +kernel
theorem dX11_spell_94 : decode cX11_spell 94 = .ok (.getfield 97, 3) := by decide +kernel
theorem dX11_spell_97 : decode cX11_spell 97 = .ok (.iload_n 2, 1) := by decide +kernel
theorem dX11_spell_98 : decode cX11_spell 98 = .ok (.invokevirtual 256, 3) := by decide +kernel
theorem dX11_spell_101 : decode cX11_spell 101 = .ok (.goto 4, 3) := by decide +kernel
theorem dX11_spell_104 : decode cX11_spell 104 = .ok (.iconst (-1), 1) := by decide +kernel
theorem dX11_spell_105 : decode cX11_spell 105 = .ok (.ireturn, 1) := by decide +kernel
theorem dX11_turned_0 : decode cX11_turned 0 = .ok (.iload_n 1, 1) := by decide +kernel
theorem dX11_turned_1 : decode cX11_turned 1 = .ok (.invokestatic 115, 3) := by decide +kernel
theorem dX11_turned_4 : decode cX11_turned 4 = .ok (.ifCond .eq 25, 3) := by decide +kernel
theorem dX11_turned_7 : decode cX11_turned 7 = .ok (.iload_n 2, 1) := by decide +kernel
theorem dX11_turned_8 : decode cX11_turned 8 = .ok (.invokestatic 166, 3) := by decide +kernel
theorem dX11_turned_11 : decode cX11_turned 11 = .ok (.ifCond .eq 18, 3) := by decide +kernel
theorem dX11_turned_14 : decode cX11_turned 14 = .ok (.iload_n 3, 1) := by decide +kernel
theorem dX11_turned_15 : decode cX11_turned 15 = .ok (.invokestatic 115, 3) := by decide +kernel
theorem dX11_turned_18 : decode cX11_turned 18 = .ok (.ifCond .eq 11, 3) := by decide +kernel
theorem dX11_turned_21 : decode cX11_turned 21 = .ok (.iload 4, 2) := by decide +kernel
theorem dX11_turned_23 : decode cX11_turned 23 = .ok (.invokestatic 115, 3) := by decide +kernel
theorem dX11_turned_26 : decode cX11_turned 26 = .ok (.ifCond .ne 7, 3) := by decide +kernel
theorem dX11_turned_29 : decode cX11_turned 29 = .ok (.sipush (-30000), 3) := by decide +kernel
theorem dX11_turned_32 : decode cX11_turned 32 = .ok (.ireturn, 1) := by decide +kernel
theorem dX11_turned_33 : decode cX11_turned 33 = .ok (.aload_n 0, 1) := by decide +kernel
theorem dX11_turned_34 : decode cX11_turned 34 = .ok (.getfield 101, 3) := by decide +kernel
theorem dX11_turned_37 : decode cX11_turned 37 = .ok (.iload_n 3, 1) := by decide +kernel
theorem dX11_turned_38 : decode cX11_turned 38 = .ok (.invokestatic 119, 3) := by decide +kernel
theorem dX11_turned_41 : decode cX11_turned 41 = .ok (.aload_n 0, 1) := by decide +kernel
theorem dX11_turned_42 : decode cX11_turned 42 = .ok (.getfield 17, 3) := by decide +kernel
theorem dX11_turned_45 : decode cX11_turned 45 = .ok (.aload_n 0, 1) := by decide +kernel
theorem dX11_turned_46 : decode cX11_turned 46 = .ok (.getfield 101, 3) := by decide +kernel
theorem dX11_turned_49 : decode cX11_turned 49 = .ok (.aload_n 0, 1) := by decide +kernel
theorem dX11_turned_50 : decode cX11_turned 50 = .ok (.getfield 101, 3) := by decide +kernel
theorem dX11_turned_53 : decode cX11_turned 53 = .ok (.aload_n 0, 1) := by decide +kernel
theorem dX11_turned_54 : decode cX11_turned 54 = .ok (.getfield 11, 3) := by decide +kernel
theorem dX11_turned_57 : decode cX11_turned 57 = .ok (.iload_n 1, 1) := by decide +kernel
theorem dX11_turned_58 : decode cX11_turned 58 = .ok (.aaload, 1) := by decide +kernel
theorem dX11_turned_59 : decode cX11_turned 59 = .ok (.iload_n 2, 1) := by decide +kernel
theorem dX11_turned_60 : decode cX11_turned 60 = .ok (.invokevirtual 169, 3) := by decide +kernel
theorem dX11_turned_63 : decode cX11_turned 63 = .ok (.ifCond .eq 13, 3) := by decide +kernel
theorem dX11_turned_66 : decode cX11_turned 66 = .ok (.aload_n 0, 1) := by decide +kernel
theorem dX11_turned_67 : decode cX11_turned 67 = .ok (.getfield 101, 3) := by decide +kernel
theorem dX11_turned_70 : decode cX11_turned 70 = .ok (.iload 4, 2) := by decide +kernel
theorem dX11_turned_72 : decode cX11_turned 72 = .ok (.iaload, 1) := by decide +kernel
theorem dX11_turned_73 : decode cX11_turned 73 = .ok (.goto 6, 3) := by decide +kernel
theorem dX11_turned_76 : decode cX11_turned 76 = .ok (.sipush (-30000), 3) := by decide +kernel
theorem dX11_turned_79 : decode cX11_turned 79 = .ok (.ireturn, 1) := by decide +kernel
theorem dX11_odd_0 : decode cX11_odd 0 = .ok (.iload_n 1, 1) := by decide +kernel
theorem dX11_odd_1 : decode cX11_odd 1 = .ok (.invokestatic 115, 3) := by decide +kernel
theorem dX11_odd_4 : decode cX11_odd 4 = .ok (.ifCond .eq 15, 3) := by decide +kernel
theorem dX11_odd_7 : decode cX11_odd 7 = .ok (.aload_n 0, 1) := by decide +kernel
theorem dX11_odd_8 : decode cX11_odd 8 = .ok (.getfield 11, 3) := by decide +kernel
theorem dX11_odd_11 : decode cX11_odd 11 = .ok (.iload_n 1, 1) := by decide +kernel
theorem dX11_odd_12 : decode cX11_odd 12 = .ok (.aaload, 1) := by decide +kernel
theorem dX11_odd_13 : decode cX11_odd 13 = .ok (.invokestatic 260, 3) := by decide +kernel
theorem dX11_odd_16 : decode cX11_odd 16 = .ok (.goto 4, 3) := by decide +kernel
theorem dX11_odd_19 : decode cX11_odd 19 = .ok (.iconst (-1), 1) := by decide +kernel
theorem dX11_odd_20 : decode cX11_odd 20 = .ok (.ireturn, 1) := by decide +kernel
theorem dX11_whole_0 : decode cX11_whole 0 = .ok (.iload_n 1, 1) := by decide +kernel
theorem dX11_whole_1 : decode cX11_whole 1 = .ok (.invokestatic 115, 3) := by decide +kernel
theorem dX11_whole_4 : decode cX11_whole 4 = .ok (.ifCond .eq 22, 3) := by decide +kernel
theorem dX11_whole_7 : decode cX11_whole 7 = .ok (.aload_n 0, 1) := by decide +kernel
theorem dX11_whole_8 : decode cX11_whole 8 = .ok (.getfield 24, 3) := by decide +kernel
theorem dX11_whole_11 : decode cX11_whole 11 = .ok (.aload_n 0, 1) := by decide +kernel
theorem dX11_whole_12 : decode cX11_whole 12 = .ok (.getfield 11, 3) := by decide +kernel
theorem dX11_whole_15 : decode cX11_whole 15 = .ok (.iload_n 1, 1) := by decide +kernel
theorem dX11_whole_16 : decode cX11_whole 16 = .ok (.aaload, 1) := by decide +kernel
theorem dX11_whole_17 : decode cX11_whole 17 = .ok (.invokevirtual 264, 3) := by decide +kernel
theorem dX11_whole_20 : decode cX11_whole 20 = .ok (.invokestatic 267, 3) := by decide +kernel
theorem dX11_whole_23 : decode cX11_whole 23 = .ok (.goto 4, 3) := by decide +kernel
theorem dX11_whole_26 : decode cX11_whole 26 = .ok (.iconst (-1), 1) := by decide +kernel
theorem dX11_whole_27 : decode cX11_whole 27 = .ok (.ireturn, 1) := by decide +kernel
theorem dX11_orders_0 : decode cX11_orders 0 = .ok (.iload_n 1, 1) := by decide +kernel
theorem dX11_orders_1 : decode cX11_orders 1 = .ok (.invokestatic 115, 3) := by decide +kernel
theorem dX11_orders_4 : decode cX11_orders 4 = .ok (.ifCond .ne 5, 3) := by decide +kernel
theorem dX11_orders_7 : decode cX11_orders 7 = .ok (.iconst (-1), 1) := by decide +kernel
theorem dX11_orders_8 : decode cX11_orders 8 = .ok (.ireturn, 1) := by decide +kernel
theorem dX11_orders_9 : decode cX11_orders 9 = .ok (.aload_n 0, 1) := by decide +kernel
theorem dX11_orders_10 : decode cX11_orders 10 = .ok (.getfield 11, 3) := by decide +kernel
theorem dX11_orders_13 : decode cX11_orders 13 = .ok (.iload_n 1, 1) := by decide +kernel
theorem dX11_orders_14 : decode cX11_orders 14 = .ok (.aaload, 1) := by decide +kernel
theorem dX11_orders_15 : decode cX11_orders 15 = .ok (.invokestatic 260, 3) := by decide +kernel
theorem dX11_orders_18 : decode cX11_orders 18 = .ok (.istore_n 2, 1) := by decide +kernel
theorem dX11_orders_19 : decode cX11_orders 19 = .ok (.iconst 0, 1) := by decide +kernel
theorem dX11_orders_20 : decode cX11_orders 20 = .ok (.istore_n 3, 1) := by decide +kernel
theorem dX11_orders_21 : decode cX11_orders 21 = .ok (.iconst 0, 1) := by decide +kernel
theorem dX11_orders_22 : decode cX11_orders 22 = .ok (.istore 4, 2) := by decide +kernel
theorem dX11_orders_24 : decode cX11_orders 24 = .ok (.iload 4, 2) := by decide +kernel
theorem dX11_orders_26 : decode cX11_orders 26 = .ok (.bipush 8, 2) := by decide +kernel
theorem dX11_orders_28 : decode cX11_orders 28 = .ok (.if_icmp .ge 25, 3) := by decide +kernel
theorem dX11_orders_31 : decode cX11_orders 31 = .ok (.iload 4, 2) := by decide +kernel
theorem dX11_orders_33 : decode cX11_orders 33 = .ok (.iload_n 2, 1) := by decide +kernel
theorem dX11_orders_34 : decode cX11_orders 34 = .ok (.invokestatic 270, 3) := by decide +kernel
theorem dX11_orders_37 : decode cX11_orders 37 = .ok (.ifCond .eq 10, 3) := by decide +kernel
theorem dX11_orders_40 : decode cX11_orders 40 = .ok (.iload_n 3, 1) := by decide +kernel
theorem dX11_orders_41 : decode cX11_orders 41 = .ok (.iconst 1, 1) := by decide +kernel
theorem dX11_orders_42 : decode cX11_orders 42 = .ok (.iload 4, 2) := by decide +kernel
theorem dX11_orders_44 : decode cX11_orders 44 = .ok (.ishl, 1) := by decide +kernel
theorem dX11_orders_45 : decode cX11_orders 45 = .ok (.ior, 1) := by decide +kernel
theorem dX11_orders_46 : decode cX11_orders 46 = .ok (.istore_n 3, 1) := by decide +kernel
theorem dX11_orders_47 : decode cX11_orders 47 = .ok (.iinc 4 1, 3) := by decide +kernel
theorem dX11_orders_50 : decode cX11_orders 50 = .ok (.goto (-26), 3) := by decide +kernel
theorem dX11_orders_53 : decode cX11_orders 53 = .ok (.iload_n 3, 1) := by decide +kernel
theorem dX11_orders_54 : decode cX11_orders 54 = .ok (.ireturn, 1) := by decide +kernel
theorem dX11_same_0 : decode cX11_same 0 = .ok (.iload_n 1, 1) := by decide +kernel
theorem dX11_same_1 : decode cX11_same 1 = .ok (.iload_n 2, 1) := by decide +kernel
theorem dX11_same_2 : decode cX11_same 2 = .ok (.invokestatic 132, 3) := by decide +kernel
theorem dX11_same_5 : decode cX11_same 5 = .ok (.ifCond .eq 24, 3) := by decide +kernel
theorem dX11_same_8 : decode cX11_same 8 = .ok (.aload_n 0, 1) := by decide +kernel
theorem dX11_same_9 : decode cX11_same 9 = .ok (.getfield 11, 3) := by decide +kernel
theorem dX11_same_12 : decode cX11_same 12 = .ok (.iload_n 1, 1) := by decide +kernel
theorem dX11_same_13 : decode cX11_same 13 = .ok (.aaload, 1) := by decide +kernel
theorem dX11_same_14 : decode cX11_same 14 = .ok (.aload_n 0, 1) := by decide +kernel
theorem dX11_same_15 : decode cX11_same 15 = .ok (.getfield 11, 3) := by decide +kernel
theorem dX11_same_18 : decode cX11_same 18 = .ok (.iload_n 2, 1) := by decide +kernel
theorem dX11_same_19 : decode cX11_same 19 = .ok (.aaload, 1) := by decide +kernel
theorem dX11_same_20 : decode cX11_same 20 = .ok (.invokestatic 273, 3) := by decide +kernel
theorem dX11_same_23 : decode cX11_same 23 = .ok (.invokestatic 267, 3) := by decide +kernel
theorem dX11_same_26 : decode cX11_same 26 = .ok (.goto 4, 3) := by decide +kernel
theorem dX11_same_29 : decode cX11_same 29 = .ok (.iconst (-1), 1) := by decide +kernel
theorem dX11_same_30 : decode cX11_same 30 = .ok (.ireturn, 1) := by decide +kernel
theorem dX11_many_0 : decode cX11_many 0 = .ok (.iload_n 1, 1) := by decide +kernel
theorem dX11_many_1 : decode cX11_many 1 = .ok (.invokestatic 125, 3) := by decide +kernel
theorem dX11_many_4 : decode cX11_many 4 = .ok (.ifCond .eq 14, 3) := by decide +kernel
theorem dX11_many_7 : decode cX11_many 7 = .ok (.aload_n 0, 1) := by decide +kernel
theorem dX11_many_8 : decode cX11_many 8 = .ok (.getfield 33, 3) := by decide +kernel
theorem dX11_many_11 : decode cX11_many 11 = .ok (.iload_n 1, 1) := by decide +kernel
theorem dX11_many_12 : decode cX11_many 12 = .ok (.invokevirtual 276, 3) := by decide +kernel
theorem dX11_many_15 : decode cX11_many 15 = .ok (.goto 4, 3) := by decide +kernel
theorem dX11_many_18 : decode cX11_many 18 = .ok (.iconst (-1), 1) := by decide +kernel
theorem dX11_many_19 : decode cX11_many 19 = .ok (.ireturn, 1) := by decide +kernel
theorem dX11_listedPart_0 : decode cX11_listedPart 0 = .ok (.iload_n 1, 1) := by decide +kernel
theorem dX11_listedPart_1 : decode cX11_listedPart 1 = .ok (.invokestatic 125, 3) := by decide +kernel
theorem dX11_listedPart_4 : decode cX11_listedPart 4 = .ok (.ifCond .eq 26, 3) := by decide +kernel
theorem dX11_listedPart_7 : decode cX11_listedPart 7 = .ok (.iload_n 3, 1) := by decide +kernel
theorem dX11_listedPart_8 : decode cX11_listedPart 8 = .ok (.invokestatic 115, 3) := by decide +kernel
theorem dX11_listedPart_11 : decode cX11_listedPart 11 = .ok (.ifCond .eq 19, 3) := by decide +kernel
theorem dX11_listedPart_14 : decode cX11_listedPart 14 = .ok (.aload_n 0, 1) := by decide +kernel
theorem dX11_listedPart_15 : decode cX11_listedPart 15 = .ok (.getfield 33, 3) := by decide +kernel
theorem dX11_listedPart_18 : decode cX11_listedPart 18 = .ok (.aload_n 0, 1) := by decide +kernel
theorem dX11_listedPart_19 : decode cX11_listedPart 19 = .ok (.getfield 101, 3) := by decide +kernel
theorem dX11_listedPart_22 : decode cX11_listedPart 22 = .ok (.iload_n 1, 1) := by decide +kernel
theorem dX11_listedPart_23 : decode cX11_listedPart 23 = .ok (.iload_n 2, 1) := by decide +kernel
theorem dX11_listedPart_24 : decode cX11_listedPart 24 = .ok (.invokevirtual 128, 3) := by decide +kernel
theorem dX11_listedPart_27 : decode cX11_listedPart 27 = .ok (.ifCond .ne 7, 3) := by decide +kernel
theorem dX11_listedPart_30 : decode cX11_listedPart 30 = .ok (.sipush (-30000), 3) := by decide +kernel
theorem dX11_listedPart_33 : decode cX11_listedPart 33 = .ok (.ireturn, 1) := by decide +kernel
theorem dX11_listedPart_34 : decode cX11_listedPart 34 = .ok (.aload_n 0, 1) := by decide +kernel
theorem dX11_listedPart_35 : decode cX11_listedPart 35 = .ok (.getfield 101, 3) := by decide +kernel
theorem dX11_listedPart_38 : decode cX11_listedPart 38 = .ok (.iload_n 3, 1) := by decide +kernel
theorem dX11_listedPart_39 : decode cX11_listedPart 39 = .ok (.iaload, 1) := by decide +kernel
theorem dX11_listedPart_40 : decode cX11_listedPart 40 = .ok (.ireturn, 1) := by decide +kernel
theorem dX11_place_0 : decode cX11_place 0 = .ok (.iload_n 1, 1) := by decide +kernel
theorem dX11_place_1 : decode cX11_place 1 = .ok (.invokestatic 115, 3) := by decide +kernel
theorem dX11_place_4 : decode cX11_place 4 = .ok (.ifCond .ne 5, 3) := by decide +kernel
theorem dX11_place_7 : decode cX11_place 7 = .ok (.iconst (-1), 1) := by decide +kernel
theorem dX11_place_8 : decode cX11_place 8 = .ok (.ireturn, 1) := by decide +kernel
theorem dX11_place_9 : decode cX11_place 9 = .ok (.aload_n 0, 1) := by decide +kernel
theorem dX11_place_10 : decode cX11_place 10 = .ok (.getfield 33, 3) := by decide +kernel
theorem dX11_place_13 : decode cX11_place 13 = .ok (.aload_n 0, 1) := by decide +kernel
theorem dX11_place_14 : decode cX11_place 14 = .ok (.getfield 11, 3) := by decide +kernel
theorem dX11_place_17 : decode cX11_place 17 = .ok (.iload_n 1, 1) := by decide +kernel
theorem dX11_place_18 : decode cX11_place 18 = .ok (.aaload, 1) := by decide +kernel
theorem dX11_place_19 : decode cX11_place 19 = .ok (.invokevirtual 277, 3) := by decide +kernel
theorem dX11_place_22 : decode cX11_place 22 = .ok (.istore_n 2, 1) := by decide +kernel
theorem dX11_place_23 : decode cX11_place 23 = .ok (.iload_n 2, 1) := by decide +kernel
theorem dX11_place_24 : decode cX11_place 24 = .ok (.iconst (-1), 1) := by decide +kernel
theorem dX11_place_25 : decode cX11_place 25 = .ok (.if_icmp .ne 8, 3) := by decide +kernel
theorem dX11_place_28 : decode cX11_place 28 = .ok (.bipush (-2), 2) := by decide +kernel
theorem dX11_place_30 : decode cX11_place 30 = .ok (.goto 4, 3) := by decide +kernel
theorem dX11_place_33 : decode cX11_place 33 = .ok (.iload_n 2, 1) := by decide +kernel
theorem dX11_place_34 : decode cX11_place 34 = .ok (.ireturn, 1) := by decide +kernel
theorem dX11_divisors_0 : decode cX11_divisors 0 = .ok (.iload_n 1, 1) := by decide +kernel
theorem dX11_divisors_1 : decode cX11_divisors 1 = .ok (.invokestatic 115, 3) := by decide +kernel
theorem dX11_divisors_4 : decode cX11_divisors 4 = .ok (.ifCond .eq 13, 3) := by decide +kernel
theorem dX11_divisors_7 : decode cX11_divisors 7 = .ok (.iload_n 2, 1) := by decide +kernel
theorem dX11_divisors_8 : decode cX11_divisors 8 = .ok (.iconst 1, 1) := by decide +kernel
theorem dX11_divisors_9 : decode cX11_divisors 9 = .ok (.if_icmp .lt 8, 3) := by decide +kernel
theorem dX11_divisors_12 : decode cX11_divisors 12 = .ok (.iload_n 2, 1) := by decide +kernel
theorem dX11_divisors_13 : decode cX11_divisors 13 = .ok (.iconst 3, 1) := by decide +kernel
theorem dX11_divisors_14 : decode cX11_divisors 14 = .ok (.if_icmp .le 5, 3) := by decide +kernel
theorem dX11_divisors_17 : decode cX11_divisors 17 = .ok (.iconst (-1), 1) := by decide +kernel
theorem dX11_divisors_18 : decode cX11_divisors 18 = .ok (.ireturn, 1) := by decide +kernel
theorem dX11_divisors_19 : decode cX11_divisors 19 = .ok (.aload_n 0, 1) := by decide +kernel
theorem dX11_divisors_20 : decode cX11_divisors 20 = .ok (.getfield 33, 3) := by decide +kernel
theorem dX11_divisors_23 : decode cX11_divisors 23 = .ok (.iload_n 2, 1) := by decide +kernel
theorem dX11_divisors_24 : decode cX11_divisors 24 = .ok (.invokevirtual 276, 3) := by decide +kernel
theorem dX11_divisors_27 : decode cX11_divisors 27 = .ok (.istore 4, 2) := by decide +kernel
theorem dX11_divisors_29 : decode cX11_divisors 29 = .ok (.iconst 0, 1) := by decide +kernel
theorem dX11_divisors_30 : decode cX11_divisors 30 = .ok (.istore 5, 2) := by decide +kernel
theorem dX11_divisors_32 : decode cX11_divisors 32 = .ok (.iconst 0, 1) := by decide +kernel
theorem dX11_divisors_33 : decode cX11_divisors 33 = .ok (.istore 6, 2) := by decide +kernel
theorem dX11_divisors_35 : decode cX11_divisors 35 = .ok (.iload 6, 2) := by decide +kernel
theorem dX11_divisors_37 : decode cX11_divisors 37 = .ok (.iload 4, 2) := by decide +kernel
theorem dX11_divisors_39 : decode cX11_divisors 39 = .ok (.if_icmp .ge 24, 3) := by decide +kernel
theorem dX11_divisors_42 : decode cX11_divisors 42 = .ok (.aload_n 0, 1) := by decide +kernel
theorem dX11_divisors_43 : decode cX11_divisors 43 = .ok (.iload_n 1, 1) := by decide +kernel
theorem dX11_divisors_44 : decode cX11_divisors 44 = .ok (.iload_n 2, 1) := by decide +kernel
theorem dX11_divisors_45 : decode cX11_divisors 45 = .ok (.iload_n 3, 1) := by decide +kernel
theorem dX11_divisors_46 : decode cX11_divisors 46 = .ok (.iload 6, 2) := by decide +kernel
theorem dX11_divisors_48 : decode cX11_divisors 48 = .ok (.invokevirtual 280, 3) := by decide +kernel
theorem dX11_divisors_51 : decode cX11_divisors 51 = .ok (.ifCond .eq 6, 3) := by decide +kernel
theorem dX11_divisors_54 : decode cX11_divisors 54 = .ok (.iinc 5 1, 3) := by decide +kernel
theorem dX11_divisors_57 : decode cX11_divisors 57 = .ok (.iinc 6 1, 3) := by decide +kernel
theorem dX11_divisors_60 : decode cX11_divisors 60 = .ok (.goto (-25), 3) := by decide +kernel
theorem dX11_divisors_63 : decode cX11_divisors 63 = .ok (.iload 5, 2) := by decide +kernel
theorem dX11_divisors_65 : decode cX11_divisors 65 = .ok (.ireturn, 1) := by decide +kernel
theorem dX11_divisor_0 : decode cX11_divisor 0 = .ok (.iload_n 1, 1) := by decide +kernel
theorem dX11_divisor_1 : decode cX11_divisor 1 = .ok (.invokestatic 115, 3) := by decide +kernel
theorem dX11_divisor_4 : decode cX11_divisor 4 = .ok (.ifCond .eq 18, 3) := by decide +kernel
theorem dX11_divisor_7 : decode cX11_divisor 7 = .ok (.iload_n 2, 1) := by decide +kernel
theorem dX11_divisor_8 : decode cX11_divisor 8 = .ok (.iconst 1, 1) := by decide +kernel
theorem dX11_divisor_9 : decode cX11_divisor 9 = .ok (.if_icmp .lt 13, 3) := by decide +kernel
theorem dX11_divisor_12 : decode cX11_divisor 12 = .ok (.iload_n 2, 1) := by decide +kernel
theorem dX11_divisor_13 : decode cX11_divisor 13 = .ok (.iconst 3, 1) := by decide +kernel
theorem dX11_divisor_14 : decode cX11_divisor 14 = .ok (.if_icmp .gt 8, 3) := by decide +kernel
theorem dX11_divisor_17 : decode cX11_divisor 17 = .ok (.iload 4, 2) := by decide +kernel
theorem dX11_divisor_19 : decode cX11_divisor 19 = .ok (.ifCond .ge 5, 3) := by decide +kernel
theorem dX11_divisor_22 : decode cX11_divisor 22 = .ok (.iconst (-1), 1) := by decide +kernel
theorem dX11_divisor_23 : decode cX11_divisor 23 = .ok (.ireturn, 1) := by decide +kernel
theorem dX11_divisor_24 : decode cX11_divisor 24 = .ok (.aload_n 0, 1) := by decide +kernel
theorem dX11_divisor_25 : decode cX11_divisor 25 = .ok (.getfield 33, 3) := by decide +kernel
theorem dX11_divisor_28 : decode cX11_divisor 28 = .ok (.iload_n 2, 1) := by decide +kernel
theorem dX11_divisor_29 : decode cX11_divisor 29 = .ok (.invokevirtual 276, 3) := by decide +kernel
theorem dX11_divisor_32 : decode cX11_divisor 32 = .ok (.istore 5, 2) := by decide +kernel
theorem dX11_divisor_34 : decode cX11_divisor 34 = .ok (.iconst 0, 1) := by decide +kernel
theorem dX11_divisor_35 : decode cX11_divisor 35 = .ok (.istore 6, 2) := by decide +kernel
theorem dX11_divisor_37 : decode cX11_divisor 37 = .ok (.iconst 0, 1) := by decide +kernel
theorem dX11_divisor_38 : decode cX11_divisor 38 = .ok (.istore 7, 2) := by decide +kernel
theorem dX11_divisor_40 : decode cX11_divisor 40 = .ok (.iload 7, 2) := by decide +kernel
theorem dX11_divisor_42 : decode cX11_divisor 42 = .ok (.iload 5, 2) := by decide +kernel
theorem dX11_divisor_44 : decode cX11_divisor 44 = .ok (.if_icmp .ge 34, 3) := by decide +kernel
theorem dX11_divisor_47 : decode cX11_divisor 47 = .ok (.aload_n 0, 1) := by decide +kernel
theorem dX11_divisor_48 : decode cX11_divisor 48 = .ok (.iload_n 1, 1) := by decide +kernel
theorem dX11_divisor_49 : decode cX11_divisor 49 = .ok (.iload_n 2, 1) := by decide +kernel
theorem dX11_divisor_50 : decode cX11_divisor 50 = .ok (.iload_n 3, 1) := by decide +kernel
theorem dX11_divisor_51 : decode cX11_divisor 51 = .ok (.iload 7, 2) := by decide +kernel
theorem dX11_divisor_53 : decode cX11_divisor 53 = .ok (.invokevirtual 280, 3) := by decide +kernel
theorem dX11_divisor_56 : decode cX11_divisor 56 = .ok (.ifCond .eq 16, 3) := by decide +kernel
theorem dX11_divisor_59 : decode cX11_divisor 59 = .ok (.iload 6, 2) := by decide +kernel
theorem dX11_divisor_61 : decode cX11_divisor 61 = .ok (.iload 4, 2) := by decide +kernel
theorem dX11_divisor_63 : decode cX11_divisor 63 = .ok (.if_icmp .ne 6, 3) := by decide +kernel
theorem dX11_divisor_66 : decode cX11_divisor 66 = .ok (.iload 7, 2) := by decide +kernel
theorem dX11_divisor_68 : decode cX11_divisor 68 = .ok (.ireturn, 1) := by decide +kernel
theorem dX11_divisor_69 : decode cX11_divisor 69 = .ok (.iinc 6 1, 3) := by decide +kernel
theorem dX11_divisor_72 : decode cX11_divisor 72 = .ok (.iinc 7 1, 3) := by decide +kernel
theorem dX11_divisor_75 : decode cX11_divisor 75 = .ok (.goto (-35), 3) := by decide +kernel
theorem dX11_divisor_78 : decode cX11_divisor 78 = .ok (.bipush (-2), 2) := by decide +kernel
theorem dX11_divisor_80 : decode cX11_divisor 80 = .ok (.ireturn, 1) := by decide +kernel
theorem dX11_inner_0 : decode cX11_inner 0 = .ok (.iload_n 1, 1) := by decide +kernel
theorem dX11_inner_1 : decode cX11_inner 1 = .ok (.iload_n 2, 1) := by decide +kernel
theorem dX11_inner_2 : decode cX11_inner 2 = .ok (.invokestatic 132, 3) := by decide +kernel
theorem dX11_inner_5 : decode cX11_inner 5 = .ok (.ifCond .eq 24, 3) := by decide +kernel
theorem dX11_inner_8 : decode cX11_inner 8 = .ok (.aload_n 0, 1) := by decide +kernel
theorem dX11_inner_9 : decode cX11_inner 9 = .ok (.getfield 11, 3) := by decide +kernel
theorem dX11_inner_12 : decode cX11_inner 12 = .ok (.iload_n 1, 1) := by decide +kernel
theorem dX11_inner_13 : decode cX11_inner 13 = .ok (.aaload, 1) := by decide +kernel
theorem dX11_inner_14 : decode cX11_inner 14 = .ok (.aload_n 0, 1) := by decide +kernel
theorem dX11_inner_15 : decode cX11_inner 15 = .ok (.getfield 11, 3) := by decide +kernel
theorem dX11_inner_18 : decode cX11_inner 18 = .ok (.iload_n 2, 1) := by decide +kernel
theorem dX11_inner_19 : decode cX11_inner 19 = .ok (.aaload, 1) := by decide +kernel
theorem dX11_inner_20 : decode cX11_inner 20 = .ok (.invokestatic 284, 3) := by decide +kernel
theorem dX11_inner_23 : decode cX11_inner 23 = .ok (.invokestatic 240, 3) := by decide +kernel
theorem dX11_inner_26 : decode cX11_inner 26 = .ok (.goto 4, 3) := by decide +kernel
theorem dX11_inner_29 : decode cX11_inner 29 = .ok (.iconst (-1), 1) := by decide +kernel
theorem dX11_inner_30 : decode cX11_inner 30 = .ok (.ireturn, 1) := by decide +kernel
theorem dX11_angles_0 : decode cX11_angles 0 = .ok (.iload_n 1, 1) := by decide +kernel
theorem dX11_angles_1 : decode cX11_angles 1 = .ok (.invokestatic 115, 3) := by decide +kernel
theorem dX11_angles_4 : decode cX11_angles 4 = .ok (.ifCond .eq 10, 3) := by decide +kernel
theorem dX11_angles_7 : decode cX11_angles 7 = .ok (.iload_n 2, 1) := by decide +kernel
theorem dX11_angles_8 : decode cX11_angles 8 = .ok (.invokestatic 125, 3) := by decide +kernel
theorem dX11_angles_11 : decode cX11_angles 11 = .ok (.ifCond .ne 5, 3) := by decide +kernel
theorem dX11_angles_14 : decode cX11_angles 14 = .ok (.iconst (-1), 1) := by decide +kernel
theorem dX11_angles_15 : decode cX11_angles 15 = .ok (.ireturn, 1) := by decide +kernel
theorem dX11_angles_16 : decode cX11_angles 16 = .ok (.aload_n 0, 1) := by decide +kernel
theorem dX11_angles_17 : decode cX11_angles 17 = .ok (.getfield 33, 3) := by decide +kernel
theorem dX11_angles_20 : decode cX11_angles 20 = .ok (.iload_n 2, 1) := by decide +kernel
theorem dX11_angles_21 : decode cX11_angles 21 = .ok (.invokevirtual 276, 3) := by decide +kernel
theorem dX11_angles_24 : decode cX11_angles 24 = .ok (.istore 4, 2) := by decide +kernel
theorem dX11_angles_26 : decode cX11_angles 26 = .ok (.iconst 0, 1) := by decide +kernel
theorem dX11_angles_27 : decode cX11_angles 27 = .ok (.istore 5, 2) := by decide +kernel
theorem dX11_angles_29 : decode cX11_angles 29 = .ok (.iconst 0, 1) := by decide +kernel
theorem dX11_angles_30 : decode cX11_angles 30 = .ok (.istore 6, 2) := by decide +kernel
theorem dX11_angles_32 : decode cX11_angles 32 = .ok (.iload 6, 2) := by decide +kernel
theorem dX11_angles_34 : decode cX11_angles 34 = .ok (.iload 4, 2) := by decide +kernel
theorem dX11_angles_36 : decode cX11_angles 36 = .ok (.if_icmp .ge 49, 3) := by decide +kernel
theorem dX11_angles_39 : decode cX11_angles 39 = .ok (.aload_n 0, 1) := by decide +kernel
theorem dX11_angles_40 : decode cX11_angles 40 = .ok (.getfield 33, 3) := by decide +kernel
theorem dX11_angles_43 : decode cX11_angles 43 = .ok (.aload_n 0, 1) := by decide +kernel
theorem dX11_angles_44 : decode cX11_angles 44 = .ok (.getfield 101, 3) := by decide +kernel
theorem dX11_angles_47 : decode cX11_angles 47 = .ok (.iload_n 2, 1) := by decide +kernel
theorem dX11_angles_48 : decode cX11_angles 48 = .ok (.iload 6, 2) := by decide +kernel
theorem dX11_angles_50 : decode cX11_angles 50 = .ok (.invokevirtual 128, 3) := by decide +kernel
theorem dX11_angles_53 : decode cX11_angles 53 = .ok (.ifCond .eq 26, 3) := by decide +kernel
theorem dX11_angles_56 : decode cX11_angles 56 = .ok (.aload_n 0, 1) := by decide +kernel
theorem dX11_angles_57 : decode cX11_angles 57 = .ok (.getfield 101, 3) := by decide +kernel
theorem dX11_angles_60 : decode cX11_angles 60 = .ok (.aload_n 0, 1) := by decide +kernel
theorem dX11_angles_61 : decode cX11_angles 61 = .ok (.getfield 11, 3) := by decide +kernel
theorem dX11_angles_64 : decode cX11_angles 64 = .ok (.iload_n 1, 1) := by decide +kernel
theorem dX11_angles_65 : decode cX11_angles 65 = .ok (.aaload, 1) := by decide +kernel
theorem dX11_angles_66 : decode cX11_angles 66 = .ok (.invokestatic 284, 3) := by decide +kernel
theorem dX11_angles_69 : decode cX11_angles 69 = .ok (.invokestatic 240, 3) := by decide +kernel
theorem dX11_angles_72 : decode cX11_angles 72 = .ok (.iload_n 3, 1) := by decide +kernel
theorem dX11_angles_73 : decode cX11_angles 73 = .ok (.if_icmp .ne 6, 3) := by decide +kernel
theorem dX11_angles_76 : decode cX11_angles 76 = .ok (.iinc 5 1, 3) := by decide +kernel
theorem dX11_angles_79 : decode cX11_angles 79 = .ok (.iinc 6 1, 3) := by decide +kernel
theorem dX11_angles_82 : decode cX11_angles 82 = .ok (.goto (-50), 3) := by decide +kernel
theorem dX11_angles_85 : decode cX11_angles 85 = .ok (.iload 5, 2) := by decide +kernel
theorem dX11_angles_87 : decode cX11_angles 87 = .ok (.ireturn, 1) := by decide +kernel
theorem dX11_alike_0 : decode cX11_alike 0 = .ok (.iload_n 1, 1) := by decide +kernel
theorem dX11_alike_1 : decode cX11_alike 1 = .ok (.iload_n 2, 1) := by decide +kernel
theorem dX11_alike_2 : decode cX11_alike 2 = .ok (.invokestatic 132, 3) := by decide +kernel
theorem dX11_alike_5 : decode cX11_alike 5 = .ok (.ifCond .eq 10, 3) := by decide +kernel
theorem dX11_alike_8 : decode cX11_alike 8 = .ok (.iload_n 3, 1) := by decide +kernel
theorem dX11_alike_9 : decode cX11_alike 9 = .ok (.invokestatic 190, 3) := by decide +kernel
theorem dX11_alike_12 : decode cX11_alike 12 = .ok (.ifCond .ne 5, 3) := by decide +kernel
theorem dX11_alike_15 : decode cX11_alike 15 = .ok (.iconst (-1), 1) := by decide +kernel
theorem dX11_alike_16 : decode cX11_alike 16 = .ok (.ireturn, 1) := by decide +kernel
theorem dX11_alike_17 : decode cX11_alike 17 = .ok (.aload_n 0, 1) := by decide +kernel
theorem dX11_alike_18 : decode cX11_alike 18 = .ok (.aload_n 0, 1) := by decide +kernel
theorem dX11_alike_19 : decode cX11_alike 19 = .ok (.getfield 11, 3) := by decide +kernel
theorem dX11_alike_22 : decode cX11_alike 22 = .ok (.iload_n 1, 1) := by decide +kernel
theorem dX11_alike_23 : decode cX11_alike 23 = .ok (.aaload, 1) := by decide +kernel
theorem dX11_alike_24 : decode cX11_alike 24 = .ok (.aload_n 0, 1) := by decide +kernel
theorem dX11_alike_25 : decode cX11_alike 25 = .ok (.getfield 11, 3) := by decide +kernel
theorem dX11_alike_28 : decode cX11_alike 28 = .ok (.iload_n 2, 1) := by decide +kernel
theorem dX11_alike_29 : decode cX11_alike 29 = .ok (.aaload, 1) := by decide +kernel
theorem dX11_alike_30 : decode cX11_alike 30 = .ok (.iload_n 3, 1) := by decide +kernel
theorem dX11_alike_31 : decode cX11_alike 31 = .ok (.invokevirtual 288, 3) := by decide +kernel
theorem dX11_alike_34 : decode cX11_alike 34 = .ok (.invokestatic 267, 3) := by decide +kernel
theorem dX11_alike_37 : decode cX11_alike 37 = .ok (.ireturn, 1) := by decide +kernel
theorem dX11_alikeMany_0 : decode cX11_alikeMany 0 = .ok (.iload_n 1, 1) := by decide +kernel
theorem dX11_alikeMany_1 : decode cX11_alikeMany 1 = .ok (.invokestatic 115, 3) := by decide +kernel
theorem dX11_alikeMany_4 : decode cX11_alikeMany 4 = .ok (.ifCond .eq 17, 3) := by decide +kernel
theorem dX11_alikeMany_7 : decode cX11_alikeMany 7 = .ok (.iload_n 2, 1) := by decide +kernel
theorem dX11_alikeMany_8 : decode cX11_alikeMany 8 = .ok (.invokestatic 125, 3) := by decide +kernel
theorem dX11_alikeMany_11 : decode cX11_alikeMany 11 = .ok (.ifCond .eq 10, 3) := by decide +kernel
theorem dX11_alikeMany_14 : decode cX11_alikeMany 14 = .ok (.iload_n 3, 1) := by decide +kernel
theorem dX11_alikeMany_15 : decode cX11_alikeMany 15 = .ok (.invokestatic 190, 3) := by decide +kernel
theorem dX11_alikeMany_18 : decode cX11_alikeMany 18 = .ok (.ifCond .ne 5, 3) := by decide +kernel
theorem dX11_alikeMany_21 : decode cX11_alikeMany 21 = .ok (.iconst (-1), 1) := by decide +kernel
theorem dX11_alikeMany_22 : decode cX11_alikeMany 22 = .ok (.ireturn, 1) := by decide +kernel
theorem dX11_alikeMany_23 : decode cX11_alikeMany 23 = .ok (.aload_n 0, 1) := by decide +kernel
theorem dX11_alikeMany_24 : decode cX11_alikeMany 24 = .ok (.getfield 33, 3) := by decide +kernel
theorem dX11_alikeMany_27 : decode cX11_alikeMany 27 = .ok (.iload_n 2, 1) := by decide +kernel
theorem dX11_alikeMany_28 : decode cX11_alikeMany 28 = .ok (.invokevirtual 276, 3) := by decide +kernel
theorem dX11_alikeMany_31 : decode cX11_alikeMany 31 = .ok (.istore 4, 2) := by decide +kernel
theorem dX11_alikeMany_33 : decode cX11_alikeMany 33 = .ok (.iconst 0, 1) := by decide +kernel
theorem dX11_alikeMany_34 : decode cX11_alikeMany 34 = .ok (.istore 5, 2) := by decide +kernel
theorem dX11_alikeMany_36 : decode cX11_alikeMany 36 = .ok (.iconst 0, 1) := by decide +kernel
theorem dX11_alikeMany_37 : decode cX11_alikeMany 37 = .ok (.istore 6, 2) := by decide +kernel
theorem dX11_alikeMany_39 : decode cX11_alikeMany 39 = .ok (.iload 6, 2) := by decide +kernel
theorem dX11_alikeMany_41 : decode cX11_alikeMany 41 = .ok (.iload 4, 2) := by decide +kernel
theorem dX11_alikeMany_43 : decode cX11_alikeMany 43 = .ok (.if_icmp .ge 47, 3) := by decide +kernel
theorem dX11_alikeMany_46 : decode cX11_alikeMany 46 = .ok (.aload_n 0, 1) := by decide +kernel
theorem dX11_alikeMany_47 : decode cX11_alikeMany 47 = .ok (.getfield 33, 3) := by decide +kernel
theorem dX11_alikeMany_50 : decode cX11_alikeMany 50 = .ok (.aload_n 0, 1) := by decide +kernel
theorem dX11_alikeMany_51 : decode cX11_alikeMany 51 = .ok (.getfield 101, 3) := by decide +kernel
theorem dX11_alikeMany_54 : decode cX11_alikeMany 54 = .ok (.iload_n 2, 1) := by decide +kernel
theorem dX11_alikeMany_55 : decode cX11_alikeMany 55 = .ok (.iload 6, 2) := by decide +kernel
theorem dX11_alikeMany_57 : decode cX11_alikeMany 57 = .ok (.invokevirtual 128, 3) := by decide +kernel
theorem dX11_alikeMany_60 : decode cX11_alikeMany 60 = .ok (.ifCond .eq 24, 3) := by decide +kernel
theorem dX11_alikeMany_63 : decode cX11_alikeMany 63 = .ok (.aload_n 0, 1) := by decide +kernel
theorem dX11_alikeMany_64 : decode cX11_alikeMany 64 = .ok (.aload_n 0, 1) := by decide +kernel
theorem dX11_alikeMany_65 : decode cX11_alikeMany 65 = .ok (.getfield 11, 3) := by decide +kernel
theorem dX11_alikeMany_68 : decode cX11_alikeMany 68 = .ok (.iload_n 1, 1) := by decide +kernel
theorem dX11_alikeMany_69 : decode cX11_alikeMany 69 = .ok (.aaload, 1) := by decide +kernel
theorem dX11_alikeMany_70 : decode cX11_alikeMany 70 = .ok (.aload_n 0, 1) := by decide +kernel
theorem dX11_alikeMany_71 : decode cX11_alikeMany 71 = .ok (.getfield 101, 3) := by decide +kernel
theorem dX11_alikeMany_74 : decode cX11_alikeMany 74 = .ok (.iload_n 3, 1) := by decide +kernel
theorem dX11_alikeMany_75 : decode cX11_alikeMany 75 = .ok (.invokevirtual 288, 3) := by decide +kernel
theorem dX11_alikeMany_78 : decode cX11_alikeMany 78 = .ok (.ifCond .eq 6, 3) := by decide +kernel
theorem dX11_alikeMany_81 : decode cX11_alikeMany 81 = .ok (.iinc 5 1, 3) := by decide +kernel
theorem dX11_alikeMany_84 : decode cX11_alikeMany 84 = .ok (.iinc 6 1, 3) := by decide +kernel
theorem dX11_alikeMany_87 : decode cX11_alikeMany 87 = .ok (.goto (-48), 3) := by decide +kernel
theorem dX11_alikeMany_90 : decode cX11_alikeMany 90 = .ok (.iload 5, 2) := by decide +kernel
theorem dX11_alikeMany_92 : decode cX11_alikeMany 92 = .ok (.ireturn, 1) := by decide +kernel
theorem dX11_commuting_0 : decode cX11_commuting 0 = .ok (.iload_n 1, 1) := by decide +kernel
theorem dX11_commuting_1 : decode cX11_commuting 1 = .ok (.invokestatic 115, 3) := by decide +kernel
theorem dX11_commuting_4 : decode cX11_commuting 4 = .ok (.ifCond .eq 10, 3) := by decide +kernel
theorem dX11_commuting_7 : decode cX11_commuting 7 = .ok (.iload_n 2, 1) := by decide +kernel
theorem dX11_commuting_8 : decode cX11_commuting 8 = .ok (.invokestatic 125, 3) := by decide +kernel
theorem dX11_commuting_11 : decode cX11_commuting 11 = .ok (.ifCond .ne 5, 3) := by decide +kernel
theorem dX11_commuting_14 : decode cX11_commuting 14 = .ok (.iconst (-1), 1) := by decide +kernel
theorem dX11_commuting_15 : decode cX11_commuting 15 = .ok (.ireturn, 1) := by decide +kernel
theorem dX11_commuting_16 : decode cX11_commuting 16 = .ok (.aload_n 0, 1) := by decide +kernel
theorem dX11_commuting_17 : decode cX11_commuting 17 = .ok (.getfield 33, 3) := by decide +kernel
theorem dX11_commuting_20 : decode cX11_commuting 20 = .ok (.iload_n 2, 1) := by decide +kernel
theorem dX11_commuting_21 : decode cX11_commuting 21 = .ok (.invokevirtual 276, 3) := by decide +kernel
theorem dX11_commuting_24 : decode cX11_commuting 24 = .ok (.istore_n 3, 1) := by decide +kernel
theorem dX11_commuting_25 : decode cX11_commuting 25 = .ok (.iconst 0, 1) := by decide +kernel
theorem dX11_commuting_26 : decode cX11_commuting 26 = .ok (.istore 4, 2) := by decide +kernel
theorem dX11_commuting_28 : decode cX11_commuting 28 = .ok (.iconst 0, 1) := by decide +kernel
theorem dX11_commuting_29 : decode cX11_commuting 29 = .ok (.istore 5, 2) := by decide +kernel
theorem dX11_commuting_31 : decode cX11_commuting 31 = .ok (.iload 5, 2) := by decide +kernel
theorem dX11_commuting_33 : decode cX11_commuting 33 = .ok (.iload_n 3, 1) := by decide +kernel
theorem dX11_commuting_34 : decode cX11_commuting 34 = .ok (.if_icmp .ge 46, 3) := by decide +kernel
theorem dX11_commuting_37 : decode cX11_commuting 37 = .ok (.aload_n 0, 1) := by decide +kernel
theorem dX11_commuting_38 : decode cX11_commuting 38 = .ok (.getfield 33, 3) := by decide +kernel
theorem dX11_commuting_41 : decode cX11_commuting 41 = .ok (.aload_n 0, 1) := by decide +kernel
theorem dX11_commuting_42 : decode cX11_commuting 42 = .ok (.getfield 101, 3) := by decide +kernel
theorem dX11_commuting_45 : decode cX11_commuting 45 = .ok (.iload_n 2, 1) := by decide +kernel
theorem dX11_commuting_46 : decode cX11_commuting 46 = .ok (.iload 5, 2) := by decide +kernel
theorem dX11_commuting_48 : decode cX11_commuting 48 = .ok (.invokevirtual 128, 3) := by decide +kernel
theorem dX11_commuting_51 : decode cX11_commuting 51 = .ok (.ifCond .eq 23, 3) := by decide +kernel
theorem dX11_commuting_54 : decode cX11_commuting 54 = .ok (.aload_n 0, 1) := by decide +kernel
theorem dX11_commuting_55 : decode cX11_commuting 55 = .ok (.aload_n 0, 1) := by decide +kernel
theorem dX11_commuting_56 : decode cX11_commuting 56 = .ok (.getfield 11, 3) := by decide +kernel
theorem dX11_commuting_59 : decode cX11_commuting 59 = .ok (.iload_n 1, 1) := by decide +kernel
theorem dX11_commuting_60 : decode cX11_commuting 60 = .ok (.aaload, 1) := by decide +kernel
theorem dX11_commuting_61 : decode cX11_commuting 61 = .ok (.aload_n 0, 1) := by decide +kernel
theorem dX11_commuting_62 : decode cX11_commuting 62 = .ok (.getfield 101, 3) := by decide +kernel
theorem dX11_commuting_65 : decode cX11_commuting 65 = .ok (.invokevirtual 291, 3) := by decide +kernel
theorem dX11_commuting_68 : decode cX11_commuting 68 = .ok (.ifCond .eq 6, 3) := by decide +kernel
theorem dX11_commuting_71 : decode cX11_commuting 71 = .ok (.iinc 4 1, 3) := by decide +kernel
theorem dX11_commuting_74 : decode cX11_commuting 74 = .ok (.iinc 5 1, 3) := by decide +kernel
theorem dX11_commuting_77 : decode cX11_commuting 77 = .ok (.goto (-46), 3) := by decide +kernel
theorem dX11_commuting_80 : decode cX11_commuting 80 = .ok (.iload 4, 2) := by decide +kernel
theorem dX11_commuting_82 : decode cX11_commuting 82 = .ok (.ireturn, 1) := by decide +kernel
theorem dX11_sides_0 : decode cX11_sides 0 = .ok (.iload_n 1, 1) := by decide +kernel
theorem dX11_sides_1 : decode cX11_sides 1 = .ok (.iload_n 2, 1) := by decide +kernel
theorem dX11_sides_2 : decode cX11_sides 2 = .ok (.invokestatic 132, 3) := by decide +kernel
theorem dX11_sides_5 : decode cX11_sides 5 = .ok (.ifCond .ne 5, 3) := by decide +kernel
theorem dX11_sides_8 : decode cX11_sides 8 = .ok (.iconst (-1), 1) := by decide +kernel
theorem dX11_sides_9 : decode cX11_sides 9 = .ok (.ireturn, 1) := by decide +kernel
theorem dX11_sides_10 : decode cX11_sides 10 = .ok (.iload_n 3, 1) := by decide +kernel
theorem dX11_sides_11 : decode cX11_sides 11 = .ok (.ifCond .eq 7, 3) := by decide +kernel
theorem dX11_sides_14 : decode cX11_sides 14 = .ok (.iconst 1, 1) := by decide +kernel
theorem dX11_sides_15 : decode cX11_sides 15 = .ok (.goto 4, 3) := by decide +kernel
theorem dX11_sides_18 : decode cX11_sides 18 = .ok (.iconst 0, 1) := by decide +kernel
theorem dX11_sides_19 : decode cX11_sides 19 = .ok (.istore 4, 2) := by decide +kernel
theorem dX11_sides_21 : decode cX11_sides 21 = .ok (.aload_n 0, 1) := by decide +kernel
theorem dX11_sides_22 : decode cX11_sides 22 = .ok (.getfield 33, 3) := by decide +kernel
theorem dX11_sides_25 : decode cX11_sides 25 = .ok (.iconst 1, 1) := by decide +kernel
theorem dX11_sides_26 : decode cX11_sides 26 = .ok (.invokevirtual 276, 3) := by decide +kernel
theorem dX11_sides_29 : decode cX11_sides 29 = .ok (.istore 5, 2) := by decide +kernel
theorem dX11_sides_31 : decode cX11_sides 31 = .ok (.iconst 0, 1) := by decide +kernel
theorem dX11_sides_32 : decode cX11_sides 32 = .ok (.istore 6, 2) := by decide +kernel
theorem dX11_sides_34 : decode cX11_sides 34 = .ok (.iconst 0, 1) := by decide +kernel
theorem dX11_sides_35 : decode cX11_sides 35 = .ok (.istore 7, 2) := by decide +kernel
theorem dX11_sides_37 : decode cX11_sides 37 = .ok (.iload 7, 2) := by decide +kernel
theorem dX11_sides_39 : decode cX11_sides 39 = .ok (.iload 5, 2) := by decide +kernel
theorem dX11_sides_41 : decode cX11_sides 41 = .ok (.if_icmp .ge 71, 3) := by decide +kernel
theorem dX11_sides_44 : decode cX11_sides 44 = .ok (.aload_n 0, 1) := by decide +kernel
theorem dX11_sides_45 : decode cX11_sides 45 = .ok (.getfield 33, 3) := by decide +kernel
theorem dX11_sides_48 : decode cX11_sides 48 = .ok (.aload_n 0, 1) := by decide +kernel
theorem dX11_sides_49 : decode cX11_sides 49 = .ok (.getfield 101, 3) := by decide +kernel
theorem dX11_sides_52 : decode cX11_sides 52 = .ok (.iconst 1, 1) := by decide +kernel
theorem dX11_sides_53 : decode cX11_sides 53 = .ok (.iload 7, 2) := by decide +kernel
theorem dX11_sides_55 : decode cX11_sides 55 = .ok (.invokevirtual 128, 3) := by decide +kernel
theorem dX11_sides_58 : decode cX11_sides 58 = .ok (.ifCond .eq 48, 3) := by decide +kernel
theorem dX11_sides_61 : decode cX11_sides 61 = .ok (.aload_n 0, 1) := by decide +kernel
theorem dX11_sides_62 : decode cX11_sides 62 = .ok (.getfield 17, 3) := by decide +kernel
theorem dX11_sides_65 : decode cX11_sides 65 = .ok (.aload_n 0, 1) := by decide +kernel
theorem dX11_sides_66 : decode cX11_sides 66 = .ok (.getfield 105, 3) := by decide +kernel
theorem dX11_sides_69 : decode cX11_sides 69 = .ok (.aload_n 0, 1) := by decide +kernel
theorem dX11_sides_70 : decode cX11_sides 70 = .ok (.getfield 11, 3) := by decide +kernel
theorem dX11_sides_73 : decode cX11_sides 73 = .ok (.iload_n 1, 1) := by decide +kernel
theorem dX11_sides_74 : decode cX11_sides 74 = .ok (.aaload, 1) := by decide +kernel
theorem dX11_sides_75 : decode cX11_sides 75 = .ok (.aload_n 0, 1) := by decide +kernel
theorem dX11_sides_76 : decode cX11_sides 76 = .ok (.getfield 101, 3) := by decide +kernel
theorem dX11_sides_79 : decode cX11_sides 79 = .ok (.iload 4, 2) := by decide +kernel
theorem dX11_sides_81 : decode cX11_sides 81 = .ok (.invokevirtual 169, 3) := by decide +kernel
theorem dX11_sides_84 : decode cX11_sides 84 = .ok (.ifCond .eq 22, 3) := by decide +kernel
theorem dX11_sides_87 : decode cX11_sides 87 = .ok (.aload_n 0, 1) := by decide +kernel
theorem dX11_sides_88 : decode cX11_sides 88 = .ok (.getfield 105, 3) := by decide +kernel
theorem dX11_sides_91 : decode cX11_sides 91 = .ok (.aload_n 0, 1) := by decide +kernel
theorem dX11_sides_92 : decode cX11_sides 92 = .ok (.getfield 11, 3) := by decide +kernel
theorem dX11_sides_95 : decode cX11_sides 95 = .ok (.iload_n 2, 1) := by decide +kernel
theorem dX11_sides_96 : decode cX11_sides 96 = .ok (.aaload, 1) := by decide +kernel
theorem dX11_sides_97 : decode cX11_sides 97 = .ok (.invokestatic 273, 3) := by decide +kernel
theorem dX11_sides_100 : decode cX11_sides 100 = .ok (.ifCond .eq 6, 3) := by decide +kernel
theorem dX11_sides_103 : decode cX11_sides 103 = .ok (.iinc 6 1, 3) := by decide +kernel
theorem dX11_sides_106 : decode cX11_sides 106 = .ok (.iinc 7 1, 3) := by decide +kernel
theorem dX11_sides_109 : decode cX11_sides 109 = .ok (.goto (-72), 3) := by decide +kernel
theorem dX11_sides_112 : decode cX11_sides 112 = .ok (.iload 6, 2) := by decide +kernel
theorem dX11_sides_114 : decode cX11_sides 114 = .ok (.ireturn, 1) := by decide +kernel
theorem dX11_cycle_0 : decode cX11_cycle 0 = .ok (.iload_n 1, 1) := by decide +kernel
theorem dX11_cycle_1 : decode cX11_cycle 1 = .ok (.invokestatic 115, 3) := by decide +kernel
theorem dX11_cycle_4 : decode cX11_cycle 4 = .ok (.ifCond .ne 5, 3) := by decide +kernel
theorem dX11_cycle_7 : decode cX11_cycle 7 = .ok (.iconst (-1), 1) := by decide +kernel
theorem dX11_cycle_8 : decode cX11_cycle 8 = .ok (.ireturn, 1) := by decide +kernel
theorem dX11_cycle_9 : decode cX11_cycle 9 = .ok (.aload_n 0, 1) := by decide +kernel
theorem dX11_cycle_10 : decode cX11_cycle 10 = .ok (.getfield 101, 3) := by decide +kernel
theorem dX11_cycle_13 : decode cX11_cycle 13 = .ok (.iconst 0, 1) := by decide +kernel
theorem dX11_cycle_14 : decode cX11_cycle 14 = .ok (.invokestatic 119, 3) := by decide +kernel
theorem dX11_cycle_17 : decode cX11_cycle 17 = .ok (.iconst 1, 1) := by decide +kernel
theorem dX11_cycle_18 : decode cX11_cycle 18 = .ok (.istore_n 2, 1) := by decide +kernel
theorem dX11_cycle_19 : decode cX11_cycle 19 = .ok (.iload_n 2, 1) := by decide +kernel
theorem dX11_cycle_20 : decode cX11_cycle 20 = .ok (.bipush 60, 2) := by decide +kernel
theorem dX11_cycle_22 : decode cX11_cycle 22 = .ok (.if_icmp .gt 48, 3) := by decide +kernel
theorem dX11_cycle_25 : decode cX11_cycle 25 = .ok (.aload_n 0, 1) := by decide +kernel
theorem dX11_cycle_26 : decode cX11_cycle 26 = .ok (.getfield 17, 3) := by decide +kernel
theorem dX11_cycle_29 : decode cX11_cycle 29 = .ok (.aload_n 0, 1) := by decide +kernel
theorem dX11_cycle_30 : decode cX11_cycle 30 = .ok (.getfield 101, 3) := by decide +kernel
theorem dX11_cycle_33 : decode cX11_cycle 33 = .ok (.aload_n 0, 1) := by decide +kernel
theorem dX11_cycle_34 : decode cX11_cycle 34 = .ok (.getfield 101, 3) := by decide +kernel
theorem dX11_cycle_37 : decode cX11_cycle 37 = .ok (.aload_n 0, 1) := by decide +kernel
theorem dX11_cycle_38 : decode cX11_cycle 38 = .ok (.getfield 11, 3) := by decide +kernel
theorem dX11_cycle_41 : decode cX11_cycle 41 = .ok (.iload_n 1, 1) := by decide +kernel
theorem dX11_cycle_42 : decode cX11_cycle 42 = .ok (.aaload, 1) := by decide +kernel
theorem dX11_cycle_43 : decode cX11_cycle 43 = .ok (.invokevirtual 155, 3) := by decide +kernel
theorem dX11_cycle_46 : decode cX11_cycle 46 = .ok (.ifCond .ne 6, 3) := by decide +kernel
theorem dX11_cycle_49 : decode cX11_cycle 49 = .ok (.bipush (-2), 2) := by decide +kernel
theorem dX11_cycle_51 : decode cX11_cycle 51 = .ok (.ireturn, 1) := by decide +kernel
theorem dX11_cycle_52 : decode cX11_cycle 52 = .ok (.aload_n 0, 1) := by decide +kernel
theorem dX11_cycle_53 : decode cX11_cycle 53 = .ok (.getfield 101, 3) := by decide +kernel
theorem dX11_cycle_56 : decode cX11_cycle 56 = .ok (.invokestatic 294, 3) := by decide +kernel
theorem dX11_cycle_59 : decode cX11_cycle 59 = .ok (.ifCond .eq 5, 3) := by decide +kernel
theorem dX11_cycle_62 : decode cX11_cycle 62 = .ok (.iload_n 2, 1) := by decide +kernel
theorem dX11_cycle_63 : decode cX11_cycle 63 = .ok (.ireturn, 1) := by decide +kernel
theorem dX11_cycle_64 : decode cX11_cycle 64 = .ok (.iinc 2 1, 3) := by decide +kernel
theorem dX11_cycle_67 : decode cX11_cycle 67 = .ok (.goto (-48), 3) := by decide +kernel
theorem dX11_cycle_70 : decode cX11_cycle 70 = .ok (.bipush (-2), 2) := by decide +kernel
theorem dX11_cycle_72 : decode cX11_cycle 72 = .ok (.ireturn, 1) := by decide +kernel
theorem dX11_made_0 : decode cX11_made 0 = .ok (.iload_n 1, 1) := by decide +kernel
theorem dX11_made_1 : decode cX11_made 1 = .ok (.invokestatic 297, 3) := by decide +kernel
theorem dX11_made_4 : decode cX11_made 4 = .ok (.ifCond .eq 12, 3) := by decide +kernel
theorem dX11_made_7 : decode cX11_made 7 = .ok (.iload_n 2, 1) := by decide +kernel
theorem dX11_made_8 : decode cX11_made 8 = .ok (.ifCond .lt 8, 3) := by decide +kernel
theorem dX11_made_11 : decode cX11_made 11 = .ok (.iload_n 2, 1) := by decide +kernel
theorem dX11_made_12 : decode cX11_made 12 = .ok (.iconst 4, 1) := by decide +kernel
theorem dX11_made_13 : decode cX11_made 13 = .ok (.if_icmp .le 5, 3) := by decide +kernel
theorem dX11_made_16 : decode cX11_made 16 = .ok (.iconst (-1), 1) := by decide +kernel
theorem dX11_made_17 : decode cX11_made 17 = .ok (.ireturn, 1) := by decide +kernel
theorem dX11_made_18 : decode cX11_made 18 = .ok (.aload_n 0, 1) := by decide +kernel
theorem dX11_made_19 : decode cX11_made 19 = .ok (.getfield 42, 3) := by decide +kernel
theorem dX11_made_22 : decode cX11_made 22 = .ok (.aload_n 0, 1) := by decide +kernel
theorem dX11_made_23 : decode cX11_made 23 = .ok (.getfield 11, 3) := by decide +kernel
theorem dX11_made_26 : decode cX11_made 26 = .ok (.iload_n 1, 1) := by decide +kernel
theorem dX11_made_27 : decode cX11_made 27 = .ok (.invokevirtual 300, 3) := by decide +kernel
theorem dX11_made_30 : decode cX11_made 30 = .ok (.ifCond .ne 6, 3) := by decide +kernel
theorem dX11_made_33 : decode cX11_made 33 = .ok (.bipush (-2), 2) := by decide +kernel
theorem dX11_made_35 : decode cX11_made 35 = .ok (.ireturn, 1) := by decide +kernel
theorem dX11_made_36 : decode cX11_made 36 = .ok (.iload_n 2, 1) := by decide +kernel
theorem dX11_made_37 : decode cX11_made 37 = .ok (.tableswitch 84 0 3 #[31, 39, 50, 76], 31) := by decide +kernel
theorem dX11_made_68 : decode cX11_made 68 = .ok (.aload_n 0, 1) := by decide +kernel
theorem dX11_made_69 : decode cX11_made 69 = .ok (.getfield 42, 3) := by decide +kernel
theorem dX11_made_72 : decode cX11_made 72 = .ok (.getfield 304, 3) := by decide +kernel
theorem dX11_made_75 : decode cX11_made 75 = .ok (.ireturn, 1) := by decide +kernel
theorem dX11_made_76 : decode cX11_made 76 = .ok (.aload_n 0, 1) := by decide +kernel
theorem dX11_made_77 : decode cX11_made 77 = .ok (.getfield 42, 3) := by decide +kernel
theorem dX11_made_80 : decode cX11_made 80 = .ok (.invokevirtual 307, 3) := by decide +kernel
theorem dX11_made_83 : decode cX11_made 83 = .ok (.invokestatic 267, 3) := by decide +kernel
theorem dX11_made_86 : decode cX11_made 86 = .ok (.ireturn, 1) := by decide +kernel
theorem dX11_made_87 : decode cX11_made 87 = .ok (.aload_n 0, 1) := by decide +kernel
theorem dX11_made_88 : decode cX11_made 88 = .ok (.getfield 42, 3) := by decide +kernel
theorem dX11_made_91 : decode cX11_made 91 = .ok (.invokevirtual 310, 3) := by decide +kernel
theorem dX11_made_94 : decode cX11_made 94 = .ok (.aload_n 0, 1) := by decide +kernel
theorem dX11_made_95 : decode cX11_made 95 = .ok (.getfield 42, 3) := by decide +kernel
theorem dX11_made_98 : decode cX11_made 98 = .ok (.getfield 304, 3) := by decide +kernel
theorem dX11_made_101 : decode cX11_made 101 = .ok (.if_icmp .ne 7, 3) := by decide +kernel
theorem dX11_made_104 : decode cX11_made 104 = .ok (.iconst 1, 1) := by decide +kernel
theorem dX11_made_105 : decode cX11_made 105 = .ok (.goto 4, 3) := by decide +kernel
theorem dX11_made_108 : decode cX11_made 108 = .ok (.iconst 0, 1) := by decide +kernel
theorem dX11_made_109 : decode cX11_made 109 = .ok (.invokestatic 267, 3) := by decide +kernel
theorem dX11_made_112 : decode cX11_made 112 = .ok (.ireturn, 1) := by decide +kernel
theorem dX11_made_113 : decode cX11_made 113 = .ok (.aload_n 0, 1) := by decide +kernel
theorem dX11_made_114 : decode cX11_made 114 = .ok (.getfield 42, 3) := by decide +kernel
theorem dX11_made_117 : decode cX11_made 117 = .ok (.invokevirtual 310, 3) := by decide +kernel
theorem dX11_made_120 : decode cX11_made 120 = .ok (.ireturn, 1) := by decide +kernel
theorem dX11_made_121 : decode cX11_made 121 = .ok (.aload_n 0, 1) := by decide +kernel
theorem dX11_made_122 : decode cX11_made 122 = .ok (.getfield 42, 3) := by decide +kernel
theorem dX11_made_125 : decode cX11_made 125 = .ok (.invokevirtual 313, 3) := by decide +kernel
theorem dX11_made_128 : decode cX11_made 128 = .ok (.ireturn, 1) := by decide +kernel
theorem dX11_madeAt_0 : decode cX11_madeAt 0 = .ok (.iload_n 1, 1) := by decide +kernel
theorem dX11_madeAt_1 : decode cX11_madeAt 1 = .ok (.invokestatic 297, 3) := by decide +kernel
theorem dX11_madeAt_4 : decode cX11_madeAt 4 = .ok (.ifCond .eq 7, 3) := by decide +kernel
theorem dX11_madeAt_7 : decode cX11_madeAt 7 = .ok (.iload_n 2, 1) := by decide +kernel
theorem dX11_madeAt_8 : decode cX11_madeAt 8 = .ok (.ifCond .ge 5, 3) := by decide +kernel
theorem dX11_madeAt_11 : decode cX11_madeAt 11 = .ok (.iconst (-1), 1) := by decide +kernel
theorem dX11_madeAt_12 : decode cX11_madeAt 12 = .ok (.ireturn, 1) := by decide +kernel
theorem dX11_madeAt_13 : decode cX11_madeAt 13 = .ok (.aload_n 0, 1) := by decide +kernel
theorem dX11_madeAt_14 : decode cX11_madeAt 14 = .ok (.getfield 42, 3) := by decide +kernel
theorem dX11_madeAt_17 : decode cX11_madeAt 17 = .ok (.aload_n 0, 1) := by decide +kernel
theorem dX11_madeAt_18 : decode cX11_madeAt 18 = .ok (.getfield 11, 3) := by decide +kernel
theorem dX11_madeAt_21 : decode cX11_madeAt 21 = .ok (.iload_n 1, 1) := by decide +kernel
theorem dX11_madeAt_22 : decode cX11_madeAt 22 = .ok (.invokevirtual 300, 3) := by decide +kernel
theorem dX11_madeAt_25 : decode cX11_madeAt 25 = .ok (.ifCond .ne 6, 3) := by decide +kernel
theorem dX11_madeAt_28 : decode cX11_madeAt 28 = .ok (.bipush (-2), 2) := by decide +kernel
theorem dX11_madeAt_30 : decode cX11_madeAt 30 = .ok (.ireturn, 1) := by decide +kernel
theorem dX11_madeAt_31 : decode cX11_madeAt 31 = .ok (.aload_n 0, 1) := by decide +kernel
theorem dX11_madeAt_32 : decode cX11_madeAt 32 = .ok (.getfield 42, 3) := by decide +kernel
theorem dX11_madeAt_35 : decode cX11_madeAt 35 = .ok (.iload_n 2, 1) := by decide +kernel
theorem dX11_madeAt_36 : decode cX11_madeAt 36 = .ok (.invokevirtual 316, 3) := by decide +kernel
theorem dX11_madeAt_39 : decode cX11_madeAt 39 = .ok (.ireturn, 1) := by decide +kernel
theorem dX11_table_0 : decode cX11_table 0 = .ok (.aload_n 0, 1) := by decide +kernel
theorem dX11_table_1 : decode cX11_table 1 = .ok (.getfield 42, 3) := by decide +kernel
theorem dX11_table_4 : decode cX11_table 4 = .ok (.iload_n 1, 1) := by decide +kernel
theorem dX11_table_5 : decode cX11_table 5 = .ok (.iload_n 2, 1) := by decide +kernel
theorem dX11_table_6 : decode cX11_table 6 = .ok (.invokevirtual 319, 3) := by decide +kernel
theorem dX11_table_9 : decode cX11_table 9 = .ok (.ireturn, 1) := by decide +kernel
theorem dX11_turnCycle_0 : decode cX11_turnCycle 0 = .ok (.iload_n 1, 1) := by decide +kernel
theorem dX11_turnCycle_1 : decode cX11_turnCycle 1 = .ok (.iload_n 2, 1) := by decide +kernel
theorem dX11_turnCycle_2 : decode cX11_turnCycle 2 = .ok (.invokestatic 132, 3) := by decide +kernel
theorem dX11_turnCycle_5 : decode cX11_turnCycle 5 = .ok (.ifCond .eq 10, 3) := by decide +kernel
theorem dX11_turnCycle_8 : decode cX11_turnCycle 8 = .ok (.iload_n 3, 1) := by decide +kernel
theorem dX11_turnCycle_9 : decode cX11_turnCycle 9 = .ok (.invokestatic 166, 3) := by decide +kernel
theorem dX11_turnCycle_12 : decode cX11_turnCycle 12 = .ok (.ifCond .ne 5, 3) := by decide +kernel
theorem dX11_turnCycle_15 : decode cX11_turnCycle 15 = .ok (.iconst (-1), 1) := by decide +kernel
theorem dX11_turnCycle_16 : decode cX11_turnCycle 16 = .ok (.ireturn, 1) := by decide +kernel
theorem dX11_turnCycle_17 : decode cX11_turnCycle 17 = .ok (.aload_n 0, 1) := by decide +kernel
theorem dX11_turnCycle_18 : decode cX11_turnCycle 18 = .ok (.getfield 101, 3) := by decide +kernel
theorem dX11_turnCycle_21 : decode cX11_turnCycle 21 = .ok (.aload_n 0, 1) := by decide +kernel
theorem dX11_turnCycle_22 : decode cX11_turnCycle 22 = .ok (.getfield 11, 3) := by decide +kernel
theorem dX11_turnCycle_25 : decode cX11_turnCycle 25 = .ok (.iload_n 1, 1) := by decide +kernel
theorem dX11_turnCycle_26 : decode cX11_turnCycle 26 = .ok (.aaload, 1) := by decide +kernel
theorem dX11_turnCycle_27 : decode cX11_turnCycle 27 = .ok (.invokestatic 136, 3) := by decide +kernel
theorem dX11_turnCycle_30 : decode cX11_turnCycle 30 = .ok (.iconst 1, 1) := by decide +kernel
theorem dX11_turnCycle_31 : decode cX11_turnCycle 31 = .ok (.istore 4, 2) := by decide +kernel
theorem dX11_turnCycle_33 : decode cX11_turnCycle 33 = .ok (.iload 4, 2) := by decide +kernel
theorem dX11_turnCycle_35 : decode cX11_turnCycle 35 = .ok (.bipush 60, 2) := by decide +kernel
theorem dX11_turnCycle_37 : decode cX11_turnCycle 37 = .ok (.if_icmp .gt 56, 3) := by decide +kernel
theorem dX11_turnCycle_40 : decode cX11_turnCycle 40 = .ok (.aload_n 0, 1) := by decide +kernel
theorem dX11_turnCycle_41 : decode cX11_turnCycle 41 = .ok (.getfield 17, 3) := by decide +kernel
theorem dX11_turnCycle_44 : decode cX11_turnCycle 44 = .ok (.aload_n 0, 1) := by decide +kernel
theorem dX11_turnCycle_45 : decode cX11_turnCycle 45 = .ok (.getfield 101, 3) := by decide +kernel
theorem dX11_turnCycle_48 : decode cX11_turnCycle 48 = .ok (.aload_n 0, 1) := by decide +kernel
theorem dX11_turnCycle_49 : decode cX11_turnCycle 49 = .ok (.getfield 101, 3) := by decide +kernel
theorem dX11_turnCycle_52 : decode cX11_turnCycle 52 = .ok (.aload_n 0, 1) := by decide +kernel
theorem dX11_turnCycle_53 : decode cX11_turnCycle 53 = .ok (.getfield 11, 3) := by decide +kernel
theorem dX11_turnCycle_56 : decode cX11_turnCycle 56 = .ok (.iload_n 2, 1) := by decide +kernel
theorem dX11_turnCycle_57 : decode cX11_turnCycle 57 = .ok (.aaload, 1) := by decide +kernel
theorem dX11_turnCycle_58 : decode cX11_turnCycle 58 = .ok (.iload_n 3, 1) := by decide +kernel
theorem dX11_turnCycle_59 : decode cX11_turnCycle 59 = .ok (.invokevirtual 169, 3) := by decide +kernel
theorem dX11_turnCycle_62 : decode cX11_turnCycle 62 = .ok (.ifCond .ne 6, 3) := by decide +kernel
theorem dX11_turnCycle_65 : decode cX11_turnCycle 65 = .ok (.bipush (-2), 2) := by decide +kernel
theorem dX11_turnCycle_67 : decode cX11_turnCycle 67 = .ok (.ireturn, 1) := by decide +kernel
theorem dX11_turnCycle_68 : decode cX11_turnCycle 68 = .ok (.aload_n 0, 1) := by decide +kernel
theorem dX11_turnCycle_69 : decode cX11_turnCycle 69 = .ok (.getfield 101, 3) := by decide +kernel
theorem dX11_turnCycle_72 : decode cX11_turnCycle 72 = .ok (.aload_n 0, 1) := by decide +kernel
theorem dX11_turnCycle_73 : decode cX11_turnCycle 73 = .ok (.getfield 11, 3) := by decide +kernel
theorem dX11_turnCycle_76 : decode cX11_turnCycle 76 = .ok (.iload_n 1, 1) := by decide +kernel
theorem dX11_turnCycle_77 : decode cX11_turnCycle 77 = .ok (.aaload, 1) := by decide +kernel
theorem dX11_turnCycle_78 : decode cX11_turnCycle 78 = .ok (.invokestatic 273, 3) := by decide +kernel
theorem dX11_turnCycle_81 : decode cX11_turnCycle 81 = .ok (.ifCond .eq 6, 3) := by decide +kernel
theorem dX11_turnCycle_84 : decode cX11_turnCycle 84 = .ok (.iload 4, 2) := by decide +kernel
theorem dX11_turnCycle_86 : decode cX11_turnCycle 86 = .ok (.ireturn, 1) := by decide +kernel
theorem dX11_turnCycle_87 : decode cX11_turnCycle 87 = .ok (.iinc 4 1, 3) := by decide +kernel
theorem dX11_turnCycle_90 : decode cX11_turnCycle 90 = .ok (.goto (-57), 3) := by decide +kernel
theorem dX11_turnCycle_93 : decode cX11_turnCycle 93 = .ok (.bipush (-2), 2) := by decide +kernel
theorem dX11_turnCycle_95 : decode cX11_turnCycle 95 = .ok (.ireturn, 1) := by decide +kernel
theorem dX11_shared_0 : decode cX11_shared 0 = .ok (.iload_n 1, 1) := by decide +kernel
theorem dX11_shared_1 : decode cX11_shared 1 = .ok (.invokestatic 115, 3) := by decide +kernel
theorem dX11_shared_4 : decode cX11_shared 4 = .ok (.ifCond .eq 10, 3) := by decide +kernel
theorem dX11_shared_7 : decode cX11_shared 7 = .ok (.iload_n 2, 1) := by decide +kernel
theorem dX11_shared_8 : decode cX11_shared 8 = .ok (.invokestatic 115, 3) := by decide +kernel
theorem dX11_shared_11 : decode cX11_shared 11 = .ok (.ifCond .ne 5, 3) := by decide +kernel
theorem dX11_shared_14 : decode cX11_shared 14 = .ok (.iconst (-1), 1) := by decide +kernel
theorem dX11_shared_15 : decode cX11_shared 15 = .ok (.ireturn, 1) := by decide +kernel
theorem dX11_shared_16 : decode cX11_shared 16 = .ok (.iload_n 1, 1) := by decide +kernel
theorem dX11_shared_17 : decode cX11_shared 17 = .ok (.iload_n 2, 1) := by decide +kernel
theorem dX11_shared_18 : decode cX11_shared 18 = .ok (.invokestatic 322, 3) := by decide +kernel
theorem dX11_shared_21 : decode cX11_shared 21 = .ok (.ireturn, 1) := by decide +kernel
theorem dX11_cycles_0 : decode cX11_cycles 0 = .ok (.iload_n 1, 1) := by decide +kernel
theorem dX11_cycles_1 : decode cX11_cycles 1 = .ok (.iconst 1, 1) := by decide +kernel
theorem dX11_cycles_2 : decode cX11_cycles 2 = .ok (.if_icmp .lt 9, 3) := by decide +kernel
theorem dX11_cycles_5 : decode cX11_cycles 5 = .ok (.iload_n 1, 1) := by decide +kernel
theorem dX11_cycles_6 : decode cX11_cycles 6 = .ok (.bipush 60, 2) := by decide +kernel
theorem dX11_cycles_8 : decode cX11_cycles 8 = .ok (.if_icmp .le 5, 3) := by decide +kernel
theorem dX11_cycles_11 : decode cX11_cycles 11 = .ok (.iconst (-1), 1) := by decide +kernel
theorem dX11_cycles_12 : decode cX11_cycles 12 = .ok (.ireturn, 1) := by decide +kernel
theorem dX11_cycles_13 : decode cX11_cycles 13 = .ok (.aload_n 0, 1) := by decide +kernel
theorem dX11_cycles_14 : decode cX11_cycles 14 = .ok (.getfield 33, 3) := by decide +kernel
theorem dX11_cycles_17 : decode cX11_cycles 17 = .ok (.iconst 1, 1) := by decide +kernel
theorem dX11_cycles_18 : decode cX11_cycles 18 = .ok (.invokevirtual 276, 3) := by decide +kernel
theorem dX11_cycles_21 : decode cX11_cycles 21 = .ok (.istore_n 2, 1) := by decide +kernel
theorem dX11_cycles_22 : decode cX11_cycles 22 = .ok (.iconst 0, 1) := by decide +kernel
theorem dX11_cycles_23 : decode cX11_cycles 23 = .ok (.istore_n 3, 1) := by decide +kernel
theorem dX11_cycles_24 : decode cX11_cycles 24 = .ok (.iconst 0, 1) := by decide +kernel
theorem dX11_cycles_25 : decode cX11_cycles 25 = .ok (.istore 4, 2) := by decide +kernel
theorem dX11_cycles_27 : decode cX11_cycles 27 = .ok (.iload 4, 2) := by decide +kernel
theorem dX11_cycles_29 : decode cX11_cycles 29 = .ok (.iload_n 2, 1) := by decide +kernel
theorem dX11_cycles_30 : decode cX11_cycles 30 = .ok (.if_icmp .ge 25, 3) := by decide +kernel
theorem dX11_cycles_33 : decode cX11_cycles 33 = .ok (.aload_n 0, 1) := by decide +kernel
theorem dX11_cycles_34 : decode cX11_cycles 34 = .ok (.getfield 42, 3) := by decide +kernel
theorem dX11_cycles_37 : decode cX11_cycles 37 = .ok (.iload 4, 2) := by decide +kernel
theorem dX11_cycles_39 : decode cX11_cycles 39 = .ok (.invokevirtual 325, 3) := by decide +kernel
theorem dX11_cycles_42 : decode cX11_cycles 42 = .ok (.iload_n 1, 1) := by decide +kernel
theorem dX11_cycles_43 : decode cX11_cycles 43 = .ok (.if_icmp .ne 6, 3) := by decide +kernel
theorem dX11_cycles_46 : decode cX11_cycles 46 = .ok (.iinc 3 1, 3) := by decide +kernel
theorem dX11_cycles_49 : decode cX11_cycles 49 = .ok (.iinc 4 1, 3) := by decide +kernel
theorem dX11_cycles_52 : decode cX11_cycles 52 = .ok (.goto (-25), 3) := by decide +kernel
theorem dX11_cycles_55 : decode cX11_cycles 55 = .ok (.iload_n 3, 1) := by decide +kernel
theorem dX11_cycles_56 : decode cX11_cycles 56 = .ok (.ireturn, 1) := by decide +kernel
theorem dX11_nucleus_0 : decode cX11_nucleus 0 = .ok (.iload_n 1, 1) := by decide +kernel
theorem dX11_nucleus_1 : decode cX11_nucleus 1 = .ok (.iload_n 2, 1) := by decide +kernel
theorem dX11_nucleus_2 : decode cX11_nucleus 2 = .ok (.invokestatic 132, 3) := by decide +kernel
theorem dX11_nucleus_5 : decode cX11_nucleus 5 = .ok (.ifCond .ne 5, 3) := by decide +kernel
theorem dX11_nucleus_8 : decode cX11_nucleus 8 = .ok (.iconst (-1), 1) := by decide +kernel
theorem dX11_nucleus_9 : decode cX11_nucleus 9 = .ok (.ireturn, 1) := by decide +kernel
theorem dX11_nucleus_10 : decode cX11_nucleus 10 = .ok (.aload_n 0, 1) := by decide +kernel
theorem dX11_nucleus_11 : decode cX11_nucleus 11 = .ok (.getfield 33, 3) := by decide +kernel
theorem dX11_nucleus_14 : decode cX11_nucleus 14 = .ok (.iconst 1, 1) := by decide +kernel
theorem dX11_nucleus_15 : decode cX11_nucleus 15 = .ok (.invokevirtual 276, 3) := by decide +kernel
theorem dX11_nucleus_18 : decode cX11_nucleus 18 = .ok (.istore_n 3, 1) := by decide +kernel
theorem dX11_nucleus_19 : decode cX11_nucleus 19 = .ok (.iconst 0, 1) := by decide +kernel
theorem dX11_nucleus_20 : decode cX11_nucleus 20 = .ok (.istore 4, 2) := by decide +kernel
theorem dX11_nucleus_22 : decode cX11_nucleus 22 = .ok (.iconst 0, 1) := by decide +kernel
theorem dX11_nucleus_23 : decode cX11_nucleus 23 = .ok (.istore 5, 2) := by decide +kernel
theorem dX11_nucleus_25 : decode cX11_nucleus 25 = .ok (.iload 5, 2) := by decide +kernel
theorem dX11_nucleus_27 : decode cX11_nucleus 27 = .ok (.iload_n 3, 1) := by decide +kernel
theorem dX11_nucleus_28 : decode cX11_nucleus 28 = .ok (.if_icmp .ge 52, 3) := by decide +kernel
theorem dX11_nucleus_31 : decode cX11_nucleus 31 = .ok (.aload_n 0, 1) := by decide +kernel
theorem dX11_nucleus_32 : decode cX11_nucleus 32 = .ok (.getfield 33, 3) := by decide +kernel
theorem dX11_nucleus_35 : decode cX11_nucleus 35 = .ok (.aload_n 0, 1) := by decide +kernel
theorem dX11_nucleus_36 : decode cX11_nucleus 36 = .ok (.getfield 101, 3) := by decide +kernel
theorem dX11_nucleus_39 : decode cX11_nucleus 39 = .ok (.iconst 1, 1) := by decide +kernel
theorem dX11_nucleus_40 : decode cX11_nucleus 40 = .ok (.iload 5, 2) := by decide +kernel
theorem dX11_nucleus_42 : decode cX11_nucleus 42 = .ok (.invokevirtual 128, 3) := by decide +kernel
theorem dX11_nucleus_45 : decode cX11_nucleus 45 = .ok (.ifCond .eq 29, 3) := by decide +kernel
theorem dX11_nucleus_48 : decode cX11_nucleus 48 = .ok (.aload_n 0, 1) := by decide +kernel
theorem dX11_nucleus_49 : decode cX11_nucleus 49 = .ok (.aload_n 0, 1) := by decide +kernel
theorem dX11_nucleus_50 : decode cX11_nucleus 50 = .ok (.getfield 101, 3) := by decide +kernel
theorem dX11_nucleus_53 : decode cX11_nucleus 53 = .ok (.aload_n 0, 1) := by decide +kernel
theorem dX11_nucleus_54 : decode cX11_nucleus 54 = .ok (.getfield 11, 3) := by decide +kernel
theorem dX11_nucleus_57 : decode cX11_nucleus 57 = .ok (.iload_n 1, 1) := by decide +kernel
theorem dX11_nucleus_58 : decode cX11_nucleus 58 = .ok (.aaload, 1) := by decide +kernel
theorem dX11_nucleus_59 : decode cX11_nucleus 59 = .ok (.aload_n 0, 1) := by decide +kernel
theorem dX11_nucleus_60 : decode cX11_nucleus 60 = .ok (.getfield 11, 3) := by decide +kernel
theorem dX11_nucleus_63 : decode cX11_nucleus 63 = .ok (.iload_n 2, 1) := by decide +kernel
theorem dX11_nucleus_64 : decode cX11_nucleus 64 = .ok (.aaload, 1) := by decide +kernel
theorem dX11_nucleus_65 : decode cX11_nucleus 65 = .ok (.invokevirtual 328, 3) := by decide +kernel
theorem dX11_nucleus_68 : decode cX11_nucleus 68 = .ok (.ifCond .eq 6, 3) := by decide +kernel
theorem dX11_nucleus_71 : decode cX11_nucleus 71 = .ok (.iinc 4 1, 3) := by decide +kernel
theorem dX11_nucleus_74 : decode cX11_nucleus 74 = .ok (.iinc 5 1, 3) := by decide +kernel
theorem dX11_nucleus_77 : decode cX11_nucleus 77 = .ok (.goto (-52), 3) := by decide +kernel
theorem dX11_nucleus_80 : decode cX11_nucleus 80 = .ok (.iload 4, 2) := by decide +kernel
theorem dX11_nucleus_82 : decode cX11_nucleus 82 = .ok (.ireturn, 1) := by decide +kernel
theorem dX11_laws_0 : decode cX11_laws 0 = .ok (.iload_n 1, 1) := by decide +kernel
theorem dX11_laws_1 : decode cX11_laws 1 = .ok (.iload_n 2, 1) := by decide +kernel
theorem dX11_laws_2 : decode cX11_laws 2 = .ok (.iload_n 3, 1) := by decide +kernel
theorem dX11_laws_3 : decode cX11_laws 3 = .ok (.invokestatic 144, 3) := by decide +kernel
theorem dX11_laws_6 : decode cX11_laws 6 = .ok (.ifCond .ne 5, 3) := by decide +kernel
theorem dX11_laws_9 : decode cX11_laws 9 = .ok (.iconst (-1), 1) := by decide +kernel
theorem dX11_laws_10 : decode cX11_laws 10 = .ok (.ireturn, 1) := by decide +kernel
theorem dX11_laws_11 : decode cX11_laws 11 = .ok (.aload_n 0, 1) := by decide +kernel
theorem dX11_laws_12 : decode cX11_laws 12 = .ok (.getfield 60, 3) := by decide +kernel
theorem dX11_laws_15 : decode cX11_laws 15 = .ok (.aload_n 0, 1) := by decide +kernel
theorem dX11_laws_16 : decode cX11_laws 16 = .ok (.getfield 11, 3) := by decide +kernel
theorem dX11_laws_19 : decode cX11_laws 19 = .ok (.iload_n 1, 1) := by decide +kernel
theorem dX11_laws_20 : decode cX11_laws 20 = .ok (.aaload, 1) := by decide +kernel
theorem dX11_laws_21 : decode cX11_laws 21 = .ok (.aload_n 0, 1) := by decide +kernel
theorem dX11_laws_22 : decode cX11_laws 22 = .ok (.getfield 11, 3) := by decide +kernel
theorem dX11_laws_25 : decode cX11_laws 25 = .ok (.iload_n 2, 1) := by decide +kernel
theorem dX11_laws_26 : decode cX11_laws 26 = .ok (.aaload, 1) := by decide +kernel
theorem dX11_laws_27 : decode cX11_laws 27 = .ok (.aload_n 0, 1) := by decide +kernel
theorem dX11_laws_28 : decode cX11_laws 28 = .ok (.getfield 11, 3) := by decide +kernel
theorem dX11_laws_31 : decode cX11_laws 31 = .ok (.iload_n 3, 1) := by decide +kernel
theorem dX11_laws_32 : decode cX11_laws 32 = .ok (.aaload, 1) := by decide +kernel
theorem dX11_laws_33 : decode cX11_laws 33 = .ok (.invokevirtual 331, 3) := by decide +kernel
theorem dX11_laws_36 : decode cX11_laws 36 = .ok (.ireturn, 1) := by decide +kernel
theorem dX11_bracketed_0 : decode cX11_bracketed 0 = .ok (.iconst 2, 1) := by decide +kernel
theorem dX11_bracketed_1 : decode cX11_bracketed 1 = .ok (.iload_n 1, 1) := by decide +kernel
theorem dX11_bracketed_2 : decode cX11_bracketed 2 = .ok (.iload_n 2, 1) := by decide +kernel
theorem dX11_bracketed_3 : decode cX11_bracketed 3 = .ok (.invokestatic 172, 3) := by decide +kernel
theorem dX11_bracketed_6 : decode cX11_bracketed 6 = .ok (.ifCond .ne 5, 3) := by decide +kernel
theorem dX11_bracketed_9 : decode cX11_bracketed 9 = .ok (.iconst (-1), 1) := by decide +kernel
theorem dX11_bracketed_10 : decode cX11_bracketed 10 = .ok (.ireturn, 1) := by decide +kernel
theorem dX11_bracketed_11 : decode cX11_bracketed 11 = .ok (.aload_n 0, 1) := by decide +kernel
theorem dX11_bracketed_12 : decode cX11_bracketed 12 = .ok (.getfield 67, 3) := by decide +kernel
theorem dX11_bracketed_15 : decode cX11_bracketed 15 = .ok (.aload_n 0, 1) := by decide +kernel
theorem dX11_bracketed_16 : decode cX11_bracketed 16 = .ok (.getfield 11, 3) := by decide +kernel
theorem dX11_bracketed_19 : decode cX11_bracketed 19 = .ok (.iload_n 1, 1) := by decide +kernel
theorem dX11_bracketed_20 : decode cX11_bracketed 20 = .ok (.iload_n 2, 1) := by decide +kernel
theorem dX11_bracketed_21 : decode cX11_bracketed 21 = .ok (.invokevirtual 211, 3) := by decide +kernel
theorem dX11_bracketed_24 : decode cX11_bracketed 24 = .ok (.aload_n 0, 1) := by decide +kernel
theorem dX11_bracketed_25 : decode cX11_bracketed 25 = .ok (.getfield 67, 3) := by decide +kernel
theorem dX11_bracketed_28 : decode cX11_bracketed 28 = .ok (.iload_n 1, 1) := by decide +kernel
theorem dX11_bracketed_29 : decode cX11_bracketed 29 = .ok (.invokevirtual 335, 3) := by decide +kernel
theorem dX11_bracketed_32 : decode cX11_bracketed 32 = .ok (.ireturn, 1) := by decide +kernel
theorem dX11_rests_0 : decode cX11_rests 0 = .ok (.iload_n 1, 1) := by decide +kernel
theorem dX11_rests_1 : decode cX11_rests 1 = .ok (.iload_n 2, 1) := by decide +kernel
theorem dX11_rests_2 : decode cX11_rests 2 = .ok (.invokestatic 132, 3) := by decide +kernel
theorem dX11_rests_5 : decode cX11_rests 5 = .ok (.ifCond .eq 12, 3) := by decide +kernel
theorem dX11_rests_8 : decode cX11_rests 8 = .ok (.iload_n 3, 1) := by decide +kernel
theorem dX11_rests_9 : decode cX11_rests 9 = .ok (.ifCond .lt 8, 3) := by decide +kernel
theorem dX11_rests_12 : decode cX11_rests 12 = .ok (.iload_n 3, 1) := by decide +kernel
theorem dX11_rests_13 : decode cX11_rests 13 = .ok (.iconst 2, 1) := by decide +kernel
theorem dX11_rests_14 : decode cX11_rests 14 = .ok (.if_icmp .le 5, 3) := by decide +kernel
theorem dX11_rests_17 : decode cX11_rests 17 = .ok (.iconst (-1), 1) := by decide +kernel
theorem dX11_rests_18 : decode cX11_rests 18 = .ok (.ireturn, 1) := by decide +kernel
theorem dX11_rests_19 : decode cX11_rests 19 = .ok (.aload_n 0, 1) := by decide +kernel
theorem dX11_rests_20 : decode cX11_rests 20 = .ok (.getfield 51, 3) := by decide +kernel
theorem dX11_rests_23 : decode cX11_rests 23 = .ok (.aload_n 0, 1) := by decide +kernel
theorem dX11_rests_24 : decode cX11_rests 24 = .ok (.getfield 11, 3) := by decide +kernel
theorem dX11_rests_27 : decode cX11_rests 27 = .ok (.iload_n 1, 1) := by decide +kernel
theorem dX11_rests_28 : decode cX11_rests 28 = .ok (.aaload, 1) := by decide +kernel
theorem dX11_rests_29 : decode cX11_rests 29 = .ok (.aload_n 0, 1) := by decide +kernel
theorem dX11_rests_30 : decode cX11_rests 30 = .ok (.getfield 11, 3) := by decide +kernel
theorem dX11_rests_33 : decode cX11_rests 33 = .ok (.iload_n 2, 1) := by decide +kernel
theorem dX11_rests_34 : decode cX11_rests 34 = .ok (.aaload, 1) := by decide +kernel
theorem dX11_rests_35 : decode cX11_rests 35 = .ok (.invokevirtual 179, 3) := by decide +kernel
theorem dX11_rests_38 : decode cX11_rests 38 = .ok (.iload_n 3, 1) := by decide +kernel
theorem dX11_rests_39 : decode cX11_rests 39 = .ok (.lookupswitch 58 #[(0, 25), (1, 33)], 25) := by decide +kernel
theorem dX11_rests_64 : decode cX11_rests 64 = .ok (.aload_n 0, 1) := by decide +kernel
theorem dX11_rests_65 : decode cX11_rests 65 = .ok (.getfield 51, 3) := by decide +kernel
theorem dX11_rests_68 : decode cX11_rests 68 = .ok (.getfield 338, 3) := by decide +kernel
theorem dX11_rests_71 : decode cX11_rests 71 = .ok (.ireturn, 1) := by decide +kernel
theorem dX11_rests_72 : decode cX11_rests 72 = .ok (.aload_n 0, 1) := by decide +kernel
theorem dX11_rests_73 : decode cX11_rests 73 = .ok (.getfield 51, 3) := by decide +kernel
theorem dX11_rests_76 : decode cX11_rests 76 = .ok (.getfield 338, 3) := by decide +kernel
theorem dX11_rests_79 : decode cX11_rests 79 = .ok (.ifCond .ne 7, 3) := by decide +kernel
theorem dX11_rests_82 : decode cX11_rests 82 = .ok (.iconst (-1), 1) := by decide +kernel
theorem dX11_rests_83 : decode cX11_rests 83 = .ok (.goto 13, 3) := by decide +kernel
theorem dX11_rests_86 : decode cX11_rests 86 = .ok (.aload_n 0, 1) := by decide +kernel
theorem dX11_rests_87 : decode cX11_rests 87 = .ok (.getfield 51, 3) := by decide +kernel
theorem dX11_rests_90 : decode cX11_rests 90 = .ok (.invokevirtual 341, 3) := by decide +kernel
theorem dX11_rests_93 : decode cX11_rests 93 = .ok (.invokestatic 240, 3) := by decide +kernel
theorem dX11_rests_96 : decode cX11_rests 96 = .ok (.ireturn, 1) := by decide +kernel
theorem dX11_rests_97 : decode cX11_rests 97 = .ok (.aload_n 0, 1) := by decide +kernel
theorem dX11_rests_98 : decode cX11_rests 98 = .ok (.getfield 51, 3) := by decide +kernel
theorem dX11_rests_101 : decode cX11_rests 101 = .ok (.getfield 345, 3) := by decide +kernel
theorem dX11_rests_104 : decode cX11_rests 104 = .ok (.invokestatic 240, 3) := by decide +kernel
theorem dX11_rests_107 : decode cX11_rests 107 = .ok (.ireturn, 1) := by decide +kernel
theorem dX11_keep_0 : decode cX11_keep 0 = .ok (.aload_n 0, 1) := by decide +kernel
theorem dX11_keep_1 : decode cX11_keep 1 = .ok (.getfield 90, 3) := by decide +kernel
theorem dX11_keep_4 : decode cX11_keep 4 = .ok (.aload_n 0, 1) := by decide +kernel
theorem dX11_keep_5 : decode cX11_keep 5 = .ok (.getfield 11, 3) := by decide +kernel
theorem dX11_keep_8 : decode cX11_keep 8 = .ok (.aload_n 0, 1) := by decide +kernel
theorem dX11_keep_9 : decode cX11_keep 9 = .ok (.getfield 24, 3) := by decide +kernel
theorem dX11_keep_12 : decode cX11_keep 12 = .ok (.getfield 140, 3) := by decide +kernel
theorem dX11_keep_15 : decode cX11_keep 15 = .ok (.invokevirtual 349, 3) := by decide +kernel
theorem dX11_keep_18 : decode cX11_keep 18 = .ok (.ifCond .eq 13, 3) := by decide +kernel
theorem dX11_keep_21 : decode cX11_keep 21 = .ok (.aload_n 0, 1) := by decide +kernel
theorem dX11_keep_22 : decode cX11_keep 22 = .ok (.getfield 90, 3) := by decide +kernel
theorem dX11_keep_25 : decode cX11_keep 25 = .ok (.getfield 352, 3) := by decide +kernel
theorem dX11_keep_28 : decode cX11_keep 28 = .ok (.goto 4, 3) := by decide +kernel
theorem dX11_keep_31 : decode cX11_keep 31 = .ok (.iconst (-1), 1) := by decide +kernel
theorem dX11_keep_32 : decode cX11_keep 32 = .ok (.ireturn, 1) := by decide +kernel
theorem dX11_restore_0 : decode cX11_restore 0 = .ok (.aload_n 0, 1) := by decide +kernel
theorem dX11_restore_1 : decode cX11_restore 1 = .ok (.getfield 90, 3) := by decide +kernel
theorem dX11_restore_4 : decode cX11_restore 4 = .ok (.aload_n 0, 1) := by decide +kernel
theorem dX11_restore_5 : decode cX11_restore 5 = .ok (.getfield 11, 3) := by decide +kernel
theorem dX11_restore_8 : decode cX11_restore 8 = .ok (.invokevirtual 355, 3) := by decide +kernel
theorem dX11_restore_11 : decode cX11_restore 11 = .ok (.istore_n 1, 1) := by decide +kernel
theorem dX11_restore_12 : decode cX11_restore 12 = .ok (.iload_n 1, 1) := by decide +kernel
theorem dX11_restore_13 : decode cX11_restore 13 = .ok (.iconst (-1), 1) := by decide +kernel
theorem dX11_restore_14 : decode cX11_restore 14 = .ok (.if_icmp .ne 5, 3) := by decide +kernel
theorem dX11_restore_17 : decode cX11_restore 17 = .ok (.iconst (-1), 1) := by decide +kernel
theorem dX11_restore_18 : decode cX11_restore 18 = .ok (.ireturn, 1) := by decide +kernel
theorem dX11_restore_19 : decode cX11_restore 19 = .ok (.aload_n 0, 1) := by decide +kernel
theorem dX11_restore_20 : decode cX11_restore 20 = .ok (.getfield 24, 3) := by decide +kernel
theorem dX11_restore_23 : decode cX11_restore 23 = .ok (.iload_n 1, 1) := by decide +kernel
theorem dX11_restore_24 : decode cX11_restore 24 = .ok (.putfield 140, 3) := by decide +kernel
theorem dX11_restore_27 : decode cX11_restore 27 = .ok (.aload_n 0, 1) := by decide +kernel
theorem dX11_restore_28 : decode cX11_restore 28 = .ok (.getfield 90, 3) := by decide +kernel
theorem dX11_restore_31 : decode cX11_restore 31 = .ok (.getfield 352, 3) := by decide +kernel
theorem dX11_restore_34 : decode cX11_restore 34 = .ok (.ireturn, 1) := by decide +kernel
theorem dX11_count_0 : decode cX11_count 0 = .ok (.iload_n 1, 1) := by decide +kernel
theorem dX11_count_1 : decode cX11_count 1 = .ok (.tableswitch 70 0 4 #[35, 43, 52, 57, 65], 35) := by decide +kernel
theorem dX11_count_36 : decode cX11_count 36 = .ok (.aload_n 0, 1) := by decide +kernel
theorem dX11_count_37 : decode cX11_count 37 = .ok (.getfield 24, 3) := by decide +kernel
theorem dX11_count_40 : decode cX11_count 40 = .ok (.getfield 140, 3) := by decide +kernel
theorem dX11_count_43 : decode cX11_count 43 = .ok (.ireturn, 1) := by decide +kernel
theorem dX11_count_44 : decode cX11_count 44 = .ok (.aload_n 0, 1) := by decide +kernel
theorem dX11_count_45 : decode cX11_count 45 = .ok (.getfield 33, 3) := by decide +kernel
theorem dX11_count_48 : decode cX11_count 48 = .ok (.iconst 1, 1) := by decide +kernel
theorem dX11_count_49 : decode cX11_count 49 = .ok (.invokevirtual 276, 3) := by decide +kernel
theorem dX11_count_52 : decode cX11_count 52 = .ok (.ireturn, 1) := by decide +kernel
theorem dX11_count_53 : decode cX11_count 53 = .ok (.aload_n 0, 1) := by decide +kernel
theorem dX11_count_54 : decode cX11_count 54 = .ok (.invokevirtual 359, 3) := by decide +kernel
theorem dX11_count_57 : decode cX11_count 57 = .ok (.ireturn, 1) := by decide +kernel
theorem dX11_count_58 : decode cX11_count 58 = .ok (.aload_n 0, 1) := by decide +kernel
theorem dX11_count_59 : decode cX11_count 59 = .ok (.getfield 90, 3) := by decide +kernel
theorem dX11_count_62 : decode cX11_count 62 = .ok (.getfield 352, 3) := by decide +kernel
theorem dX11_count_65 : decode cX11_count 65 = .ok (.ireturn, 1) := by decide +kernel
theorem dX11_count_66 : decode cX11_count 66 = .ok (.aload_n 0, 1) := by decide +kernel
theorem dX11_count_67 : decode cX11_count 67 = .ok (.invokevirtual 362, 3) := by decide +kernel
theorem dX11_count_70 : decode cX11_count 70 = .ok (.ireturn, 1) := by decide +kernel
theorem dX11_count_71 : decode cX11_count 71 = .ok (.iconst (-1), 1) := by decide +kernel
theorem dX11_count_72 : decode cX11_count 72 = .ok (.ireturn, 1) := by decide +kernel
theorem dX11_isEighth_0 : decode cX11_isEighth 0 = .ok (.iload_n 0, 1) := by decide +kernel
theorem dX11_isEighth_1 : decode cX11_isEighth 1 = .ok (.ifCond .lt 13, 3) := by decide +kernel
theorem dX11_isEighth_4 : decode cX11_isEighth 4 = .ok (.iload_n 0, 1) := by decide +kernel
theorem dX11_isEighth_5 : decode cX11_isEighth 5 = .ok (.bipush 8, 2) := by decide +kernel
theorem dX11_isEighth_7 : decode cX11_isEighth 7 = .ok (.if_icmp .ge 7, 3) := by decide +kernel
theorem dX11_isEighth_10 : decode cX11_isEighth 10 = .ok (.iconst 1, 1) := by decide +kernel
theorem dX11_isEighth_11 : decode cX11_isEighth 11 = .ok (.goto 4, 3) := by decide +kernel
theorem dX11_isEighth_14 : decode cX11_isEighth 14 = .ok (.iconst 0, 1) := by decide +kernel
theorem dX11_isEighth_15 : decode cX11_isEighth 15 = .ok (.ireturn, 1) := by decide +kernel
theorem dX11_areSlots_0 : decode cX11_areSlots 0 = .ok (.iload_n 0, 1) := by decide +kernel
theorem dX11_areSlots_1 : decode cX11_areSlots 1 = .ok (.invokestatic 115, 3) := by decide +kernel
theorem dX11_areSlots_4 : decode cX11_areSlots 4 = .ok (.ifCond .eq 14, 3) := by decide +kernel
theorem dX11_areSlots_7 : decode cX11_areSlots 7 = .ok (.iload_n 1, 1) := by decide +kernel
theorem dX11_areSlots_8 : decode cX11_areSlots 8 = .ok (.invokestatic 115, 3) := by decide +kernel
theorem dX11_areSlots_11 : decode cX11_areSlots 11 = .ok (.ifCond .eq 7, 3) := by decide +kernel
theorem dX11_areSlots_14 : decode cX11_areSlots 14 = .ok (.iconst 1, 1) := by decide +kernel
theorem dX11_areSlots_15 : decode cX11_areSlots 15 = .ok (.goto 4, 3) := by decide +kernel
theorem dX11_areSlots_18 : decode cX11_areSlots 18 = .ok (.iconst 0, 1) := by decide +kernel
theorem dX11_areSlots_19 : decode cX11_areSlots 19 = .ok (.ireturn, 1) := by decide +kernel
theorem dX11_areSlots__0 : decode cX11_areSlots_ 0 = .ok (.iload_n 0, 1) := by decide +kernel
theorem dX11_areSlots__1 : decode cX11_areSlots_ 1 = .ok (.invokestatic 115, 3) := by decide +kernel
theorem dX11_areSlots__4 : decode cX11_areSlots_ 4 = .ok (.ifCond .eq 21, 3) := by decide +kernel
theorem dX11_areSlots__7 : decode cX11_areSlots_ 7 = .ok (.iload_n 1, 1) := by decide +kernel
theorem dX11_areSlots__8 : decode cX11_areSlots_ 8 = .ok (.invokestatic 115, 3) := by decide +kernel
theorem dX11_areSlots__11 : decode cX11_areSlots_ 11 = .ok (.ifCond .eq 14, 3) := by decide +kernel
theorem dX11_areSlots__14 : decode cX11_areSlots_ 14 = .ok (.iload_n 2, 1) := by decide +kernel
theorem dX11_areSlots__15 : decode cX11_areSlots_ 15 = .ok (.invokestatic 115, 3) := by decide +kernel
theorem dX11_areSlots__18 : decode cX11_areSlots_ 18 = .ok (.ifCond .eq 7, 3) := by decide +kernel
theorem dX11_areSlots__21 : decode cX11_areSlots_ 21 = .ok (.iconst 1, 1) := by decide +kernel
theorem dX11_areSlots__22 : decode cX11_areSlots_ 22 = .ok (.goto 4, 3) := by decide +kernel
theorem dX11_areSlots__25 : decode cX11_areSlots_ 25 = .ok (.iconst 0, 1) := by decide +kernel
theorem dX11_areSlots__26 : decode cX11_areSlots_ 26 = .ok (.ireturn, 1) := by decide +kernel
theorem dX11_isSlotSet_0 : decode cX11_isSlotSet 0 = .ok (.iload_n 0, 1) := by decide +kernel
theorem dX11_isSlotSet_1 : decode cX11_isSlotSet 1 = .ok (.iconst 1, 1) := by decide +kernel
theorem dX11_isSlotSet_2 : decode cX11_isSlotSet 2 = .ok (.if_icmp .lt 14, 3) := by decide +kernel
theorem dX11_isSlotSet_5 : decode cX11_isSlotSet 5 = .ok (.iload_n 0, 1) := by decide +kernel
theorem dX11_isSlotSet_6 : decode cX11_isSlotSet 6 = .ok (.sipush 255, 3) := by decide +kernel
theorem dX11_isSlotSet_9 : decode cX11_isSlotSet 9 = .ok (.if_icmp .gt 7, 3) := by decide +kernel
theorem dX11_isSlotSet_12 : decode cX11_isSlotSet 12 = .ok (.iconst 1, 1) := by decide +kernel
theorem dX11_isSlotSet_13 : decode cX11_isSlotSet 13 = .ok (.goto 4, 3) := by decide +kernel
theorem dX11_isSlotSet_16 : decode cX11_isSlotSet 16 = .ok (.iconst 0, 1) := by decide +kernel
theorem dX11_isSlotSet_17 : decode cX11_isSlotSet 17 = .ok (.ireturn, 1) := by decide +kernel
theorem dX11_isTurn_0 : decode cX11_isTurn 0 = .ok (.iload_n 0, 1) := by decide +kernel
theorem dX11_isTurn_1 : decode cX11_isTurn 1 = .ok (.ifCond .lt 12, 3) := by decide +kernel
theorem dX11_isTurn_4 : decode cX11_isTurn 4 = .ok (.iload_n 0, 1) := by decide +kernel
theorem dX11_isTurn_5 : decode cX11_isTurn 5 = .ok (.iconst 4, 1) := by decide +kernel
theorem dX11_isTurn_6 : decode cX11_isTurn 6 = .ok (.if_icmp .ge 7, 3) := by decide +kernel
theorem dX11_isTurn_9 : decode cX11_isTurn 9 = .ok (.iconst 1, 1) := by decide +kernel
theorem dX11_isTurn_10 : decode cX11_isTurn 10 = .ok (.goto 4, 3) := by decide +kernel
theorem dX11_isTurn_13 : decode cX11_isTurn 13 = .ok (.iconst 0, 1) := by decide +kernel
theorem dX11_isTurn_14 : decode cX11_isTurn 14 = .ok (.ireturn, 1) := by decide +kernel
theorem dX11_isListedNorm_0 : decode cX11_isListedNorm 0 = .ok (.iload_n 0, 1) := by decide +kernel
theorem dX11_isListedNorm_1 : decode cX11_isListedNorm 1 = .ok (.ifCond .lt 12, 3) := by decide +kernel
theorem dX11_isListedNorm_4 : decode cX11_isListedNorm 4 = .ok (.iload_n 0, 1) := by decide +kernel
theorem dX11_isListedNorm_5 : decode cX11_isListedNorm 5 = .ok (.iconst 3, 1) := by decide +kernel
theorem dX11_isListedNorm_6 : decode cX11_isListedNorm 6 = .ok (.if_icmp .gt 7, 3) := by decide +kernel
theorem dX11_isListedNorm_9 : decode cX11_isListedNorm 9 = .ok (.iconst 1, 1) := by decide +kernel
theorem dX11_isListedNorm_10 : decode cX11_isListedNorm 10 = .ok (.goto 4, 3) := by decide +kernel
theorem dX11_isListedNorm_13 : decode cX11_isListedNorm 13 = .ok (.iconst 0, 1) := by decide +kernel
theorem dX11_isListedNorm_14 : decode cX11_isListedNorm 14 = .ok (.ireturn, 1) := by decide +kernel
theorem dX11_isDivisor_0 : decode cX11_isDivisor 0 = .ok (.iload_n 0, 1) := by decide +kernel
theorem dX11_isDivisor_1 : decode cX11_isDivisor 1 = .ok (.iconst 1, 1) := by decide +kernel
theorem dX11_isDivisor_2 : decode cX11_isDivisor 2 = .ok (.if_icmp .lt 14, 3) := by decide +kernel
theorem dX11_isDivisor_5 : decode cX11_isDivisor 5 = .ok (.iload_n 0, 1) := by decide +kernel
theorem dX11_isDivisor_6 : decode cX11_isDivisor 6 = .ok (.sipush 1000, 3) := by decide +kernel
theorem dX11_isDivisor_9 : decode cX11_isDivisor 9 = .ok (.if_icmp .gt 7, 3) := by decide +kernel
theorem dX11_isDivisor_12 : decode cX11_isDivisor 12 = .ok (.iconst 1, 1) := by decide +kernel
theorem dX11_isDivisor_13 : decode cX11_isDivisor 13 = .ok (.goto 4, 3) := by decide +kernel
theorem dX11_isDivisor_16 : decode cX11_isDivisor 16 = .ok (.iconst 0, 1) := by decide +kernel
theorem dX11_isDivisor_17 : decode cX11_isDivisor 17 = .ok (.ireturn, 1) := by decide +kernel
theorem dX11_isRow_0 : decode cX11_isRow 0 = .ok (.iload_n 1, 1) := by decide +kernel
theorem dX11_isRow_1 : decode cX11_isRow 1 = .ok (.iload_n 0, 1) := by decide +kernel
theorem dX11_isRow_2 : decode cX11_isRow 2 = .ok (.if_icmp .lt 17, 3) := by decide +kernel
theorem dX11_isRow_5 : decode cX11_isRow 5 = .ok (.iload_n 1, 1) := by decide +kernel
theorem dX11_isRow_6 : decode cX11_isRow 6 = .ok (.bipush 6, 2) := by decide +kernel
theorem dX11_isRow_8 : decode cX11_isRow 8 = .ok (.if_icmp .gt 11, 3) := by decide +kernel
theorem dX11_isRow_11 : decode cX11_isRow 11 = .ok (.iload_n 2, 1) := by decide +kernel
theorem dX11_isRow_12 : decode cX11_isRow 12 = .ok (.ifCond .lt 7, 3) := by decide +kernel
theorem dX11_isRow_15 : decode cX11_isRow 15 = .ok (.iconst 1, 1) := by decide +kernel
theorem dX11_isRow_16 : decode cX11_isRow 16 = .ok (.goto 4, 3) := by decide +kernel
theorem dX11_isRow_19 : decode cX11_isRow 19 = .ok (.iconst 0, 1) := by decide +kernel
theorem dX11_isRow_20 : decode cX11_isRow 20 = .ok (.ireturn, 1) := by decide +kernel
theorem dX11_slotOfRow_0 : decode cX11_slotOfRow 0 = .ok (.iload_n 0, 1) := by decide +kernel
theorem dX11_slotOfRow_1 : decode cX11_slotOfRow 1 = .ok (.iconst 3, 1) := by decide +kernel
theorem dX11_slotOfRow_2 : decode cX11_slotOfRow 2 = .ok (.iload_n 1, 1) := by decide +kernel
theorem dX11_slotOfRow_3 : decode cX11_slotOfRow 3 = .ok (.imul, 1) := by decide +kernel
theorem dX11_slotOfRow_4 : decode cX11_slotOfRow 4 = .ok (.ishr, 1) := by decide +kernel
theorem dX11_slotOfRow_5 : decode cX11_slotOfRow 5 = .ok (.bipush 7, 2) := by decide +kernel
theorem dX11_slotOfRow_7 : decode cX11_slotOfRow 7 = .ok (.iand, 1) := by decide +kernel
theorem dX11_slotOfRow_8 : decode cX11_slotOfRow 8 = .ok (.ireturn, 1) := by decide +kernel
theorem dX11_told_0 : decode cX11_told 0 = .ok (.iload_n 0, 1) := by decide +kernel
theorem dX11_told_1 : decode cX11_told 1 = .ok (.ifCond .eq 7, 3) := by decide +kernel
theorem dX11_told_4 : decode cX11_told 4 = .ok (.iconst 1, 1) := by decide +kernel
theorem dX11_told_5 : decode cX11_told 5 = .ok (.goto 5, 3) := by decide +kernel
theorem dX11_told_8 : decode cX11_told 8 = .ok (.bipush (-2), 2) := by decide +kernel
theorem dX11_told_10 : decode cX11_told 10 = .ok (.ireturn, 1) := by decide +kernel
theorem dX11_asked_0 : decode cX11_asked 0 = .ok (.iload_n 0, 1) := by decide +kernel
theorem dX11_asked_1 : decode cX11_asked 1 = .ok (.ifCond .eq 7, 3) := by decide +kernel
theorem dX11_asked_4 : decode cX11_asked 4 = .ok (.iconst 1, 1) := by decide +kernel
theorem dX11_asked_5 : decode cX11_asked 5 = .ok (.goto 4, 3) := by decide +kernel
theorem dX11_asked_8 : decode cX11_asked 8 = .ok (.iconst 0, 1) := by decide +kernel
theorem dX11_asked_9 : decode cX11_asked 9 = .ok (.ireturn, 1) := by decide +kernel
theorem dX11_capped_0 : decode cX11_capped 0 = .ok (.ldc2_w 365, 3) := by decide +kernel
theorem dX11_capped_3 : decode cX11_capped 3 = .ok (.ldc2_w 367, 3) := by decide +kernel
theorem dX11_capped_6 : decode cX11_capped 6 = .ok (.lload_n 0, 1) := by decide +kernel
theorem dX11_capped_7 : decode cX11_capped 7 = .ok (.invokestatic 369, 3) := by decide +kernel
theorem dX11_capped_10 : decode cX11_capped 10 = .ok (.invokestatic 375, 3) := by decide +kernel
theorem dX11_capped_13 : decode cX11_capped 13 = .ok (.l2i, 1) := by decide +kernel
theorem dX11_capped_14 : decode cX11_capped 14 = .ok (.ireturn, 1) := by decide +kernel
theorem dX11_spellPart_0 : decode cX11_spellPart 0 = .ok (.iload_n 1, 1) := by decide +kernel
theorem dX11_spellPart_1 : decode cX11_spellPart 1 = .ok (.ifCond .ne 4, 3) := by decide +kernel
theorem dX11_spellPart_4 : decode cX11_spellPart 4 = .ok (.return_, 1) := by decide +kernel
theorem dX11_spellPart_5 : decode cX11_spellPart 5 = .ok (.iload_n 1, 1) := by decide +kernel
theorem dX11_spellPart_6 : decode cX11_spellPart 6 = .ok (.ifCond .ge 16, 3) := by decide +kernel
theorem dX11_spellPart_9 : decode cX11_spellPart 9 = .ok (.aload_n 0, 1) := by decide +kernel
theorem dX11_spellPart_10 : decode cX11_spellPart 10 = .ok (.getfield 97, 3) := by decide +kernel
theorem dX11_spellPart_13 : decode cX11_spellPart 13 = .ok (.bipush 45, 2) := by decide +kernel
theorem dX11_spellPart_15 : decode cX11_spellPart 15 = .ok (.invokevirtual 253, 3) := by decide +kernel
theorem dX11_spellPart_18 : decode cX11_spellPart 18 = .ok (.pop, 1) := by decide +kernel
theorem dX11_spellPart_19 : decode cX11_spellPart 19 = .ok (.goto 23, 3) := by decide +kernel
theorem dX11_spellPart_22 : decode cX11_spellPart 22 = .ok (.aload_n 0, 1) := by decide +kernel
theorem dX11_spellPart_23 : decode cX11_spellPart 23 = .ok (.getfield 97, 3) := by decide +kernel
theorem dX11_spellPart_26 : decode cX11_spellPart 26 = .ok (.invokevirtual 251, 3) := by decide +kernel
theorem dX11_spellPart_29 : decode cX11_spellPart 29 = .ok (.ifCond .le 13, 3) := by decide +kernel
theorem dX11_spellPart_32 : decode cX11_spellPart 32 = .ok (.aload_n 0, 1) := by decide +kernel
theorem dX11_spellPart_33 : decode cX11_spellPart 33 = .ok (.getfield 97, 3) := by decide +kernel
theorem dX11_spellPart_36 : decode cX11_spellPart 36 = .ok (.bipush 43, 2) := by decide +kernel
theorem dX11_spellPart_38 : decode cX11_spellPart 38 = .ok (.invokevirtual 253, 3) := by decide +kernel
theorem dX11_spellPart_41 : decode cX11_spellPart 41 = .ok (.pop, 1) := by decide +kernel
theorem dX11_spellPart_42 : decode cX11_spellPart 42 = .ok (.iload_n 1, 1) := by decide +kernel
theorem dX11_spellPart_43 : decode cX11_spellPart 43 = .ok (.invokestatic 378, 3) := by decide +kernel
theorem dX11_spellPart_46 : decode cX11_spellPart 46 = .ok (.istore_n 3, 1) := by decide +kernel
theorem dX11_spellPart_47 : decode cX11_spellPart 47 = .ok (.iload_n 3, 1) := by decide +kernel
theorem dX11_spellPart_48 : decode cX11_spellPart 48 = .ok (.iconst 2, 1) := by decide +kernel
theorem dX11_spellPart_49 : decode cX11_spellPart 49 = .ok (.irem, 1) := by decide +kernel
theorem dX11_spellPart_50 : decode cX11_spellPart 50 = .ok (.ifCond .ne 17, 3) := by decide +kernel
theorem dX11_spellPart_53 : decode cX11_spellPart 53 = .ok (.aload_n 0, 1) := by decide +kernel
theorem dX11_spellPart_54 : decode cX11_spellPart 54 = .ok (.getfield 97, 3) := by decide +kernel
theorem dX11_spellPart_57 : decode cX11_spellPart 57 = .ok (.iload_n 3, 1) := by decide +kernel
theorem dX11_spellPart_58 : decode cX11_spellPart 58 = .ok (.iconst 2, 1) := by decide +kernel
theorem dX11_spellPart_59 : decode cX11_spellPart 59 = .ok (.idiv, 1) := by decide +kernel
theorem dX11_spellPart_60 : decode cX11_spellPart 60 = .ok (.invokevirtual 381, 3) := by decide +kernel
theorem dX11_spellPart_63 : decode cX11_spellPart 63 = .ok (.pop, 1) := by decide +kernel
theorem dX11_spellPart_64 : decode cX11_spellPart 64 = .ok (.goto 18, 3) := by decide +kernel
theorem dX11_spellPart_67 : decode cX11_spellPart 67 = .ok (.aload_n 0, 1) := by decide +kernel
theorem dX11_spellPart_68 : decode cX11_spellPart 68 = .ok (.getfield 97, 3) := by decide +kernel
theorem dX11_spellPart_71 : decode cX11_spellPart 71 = .ok (.iload_n 3, 1) := by decide +kernel
theorem dX11_spellPart_72 : decode cX11_spellPart 72 = .ok (.invokevirtual 381, 3) := by decide +kernel
theorem dX11_spellPart_75 : decode cX11_spellPart 75 = .ok (.ldc_w 384, 3) := by decide +kernel
theorem dX11_spellPart_78 : decode cX11_spellPart 78 = .ok (.invokevirtual 386, 3) := by decide +kernel
theorem dX11_spellPart_81 : decode cX11_spellPart 81 = .ok (.pop, 1) := by decide +kernel
theorem dX11_spellPart_82 : decode cX11_spellPart 82 = .ok (.aload_n 0, 1) := by decide +kernel
theorem dX11_spellPart_83 : decode cX11_spellPart 83 = .ok (.getfield 97, 3) := by decide +kernel
theorem dX11_spellPart_86 : decode cX11_spellPart 86 = .ok (.bipush 101, 2) := by decide +kernel
theorem dX11_spellPart_88 : decode cX11_spellPart 88 = .ok (.invokevirtual 253, 3) := by decide +kernel
theorem dX11_spellPart_91 : decode cX11_spellPart 91 = .ok (.iload_n 2, 1) := by decide +kernel
theorem dX11_spellPart_92 : decode cX11_spellPart 92 = .ok (.invokevirtual 381, 3) := by decide +kernel
theorem dX11_spellPart_95 : decode cX11_spellPart 95 = .ok (.pop, 1) := by decide +kernel
theorem dX11_spellPart_96 : decode cX11_spellPart 96 = .ok (.return_, 1) := by decide +kernel
theorem dX11_isDivisorAt_0 : decode cX11_isDivisorAt 0 = .ok (.aload_n 0, 1) := by decide +kernel
theorem dX11_isDivisorAt_1 : decode cX11_isDivisorAt 1 = .ok (.getfield 33, 3) := by decide +kernel
theorem dX11_isDivisorAt_4 : decode cX11_isDivisorAt 4 = .ok (.aload_n 0, 1) := by decide +kernel
theorem dX11_isDivisorAt_5 : decode cX11_isDivisorAt 5 = .ok (.getfield 101, 3) := by decide +kernel
theorem dX11_isDivisorAt_8 : decode cX11_isDivisorAt 8 = .ok (.iload_n 2, 1) := by decide +kernel
theorem dX11_isDivisorAt_9 : decode cX11_isDivisorAt 9 = .ok (.iload 4, 2) := by decide +kernel
theorem dX11_isDivisorAt_11 : decode cX11_isDivisorAt 11 = .ok (.invokevirtual 128, 3) := by decide +kernel
theorem dX11_isDivisorAt_14 : decode cX11_isDivisorAt 14 = .ok (.ifCond .eq 29, 3) := by decide +kernel
theorem dX11_isDivisorAt_17 : decode cX11_isDivisorAt 17 = .ok (.aload_n 0, 1) := by decide +kernel
theorem dX11_isDivisorAt_18 : decode cX11_isDivisorAt 18 = .ok (.getfield 51, 3) := by decide +kernel
theorem dX11_isDivisorAt_21 : decode cX11_isDivisorAt 21 = .ok (.aload_n 0, 1) := by decide +kernel
theorem dX11_isDivisorAt_22 : decode cX11_isDivisorAt 22 = .ok (.getfield 101, 3) := by decide +kernel
theorem dX11_isDivisorAt_25 : decode cX11_isDivisorAt 25 = .ok (.iload_n 2, 1) := by decide +kernel
theorem dX11_isDivisorAt_26 : decode cX11_isDivisorAt 26 = .ok (.aload_n 0, 1) := by decide +kernel
theorem dX11_isDivisorAt_27 : decode cX11_isDivisorAt 27 = .ok (.getfield 11, 3) := by decide +kernel
theorem dX11_isDivisorAt_30 : decode cX11_isDivisorAt 30 = .ok (.iload_n 1, 1) := by decide +kernel
theorem dX11_isDivisorAt_31 : decode cX11_isDivisorAt 31 = .ok (.aaload, 1) := by decide +kernel
theorem dX11_isDivisorAt_32 : decode cX11_isDivisorAt 32 = .ok (.iload_n 3, 1) := by decide +kernel
theorem dX11_isDivisorAt_33 : decode cX11_isDivisorAt 33 = .ok (.invokevirtual 389, 3) := by decide +kernel
theorem dX11_isDivisorAt_36 : decode cX11_isDivisorAt 36 = .ok (.ifCond .eq 7, 3) := by decide +kernel
theorem dX11_isDivisorAt_39 : decode cX11_isDivisorAt 39 = .ok (.iconst 1, 1) := by decide +kernel
theorem dX11_isDivisorAt_40 : decode cX11_isDivisorAt 40 = .ok (.goto 4, 3) := by decide +kernel
theorem dX11_isDivisorAt_43 : decode cX11_isDivisorAt 43 = .ok (.iconst 0, 1) := by decide +kernel
theorem dX11_isDivisorAt_44 : decode cX11_isDivisorAt 44 = .ok (.ireturn, 1) := by decide +kernel
theorem dX11_areAlike_0 : decode cX11_areAlike 0 = .ok (.iconst 0, 1) := by decide +kernel
theorem dX11_areAlike_1 : decode cX11_areAlike 1 = .ok (.istore 4, 2) := by decide +kernel
theorem dX11_areAlike_3 : decode cX11_areAlike 3 = .ok (.iload 4, 2) := by decide +kernel
theorem dX11_areAlike_5 : decode cX11_areAlike 5 = .ok (.bipush 8, 2) := by decide +kernel
theorem dX11_areAlike_7 : decode cX11_areAlike 7 = .ok (.if_icmp .ge 27, 3) := by decide +kernel
theorem dX11_areAlike_10 : decode cX11_areAlike 10 = .ok (.aload_n 0, 1) := by decide +kernel
theorem dX11_areAlike_11 : decode cX11_areAlike 11 = .ok (.getfield 111, 3) := by decide +kernel
theorem dX11_areAlike_14 : decode cX11_areAlike 14 = .ok (.iload 4, 2) := by decide +kernel
theorem dX11_areAlike_16 : decode cX11_areAlike 16 = .ok (.aload_n 1, 1) := by decide +kernel
theorem dX11_areAlike_17 : decode cX11_areAlike 17 = .ok (.iload 4, 2) := by decide +kernel
theorem dX11_areAlike_19 : decode cX11_areAlike 19 = .ok (.iaload, 1) := by decide +kernel
theorem dX11_areAlike_20 : decode cX11_areAlike 20 = .ok (.i2l, 1) := by decide +kernel
theorem dX11_areAlike_21 : decode cX11_areAlike 21 = .ok (.aload_n 2, 1) := by decide +kernel
theorem dX11_areAlike_22 : decode cX11_areAlike 22 = .ok (.iload 4, 2) := by decide +kernel
theorem dX11_areAlike_24 : decode cX11_areAlike 24 = .ok (.iaload, 1) := by decide +kernel
theorem dX11_areAlike_25 : decode cX11_areAlike 25 = .ok (.i2l, 1) := by decide +kernel
theorem dX11_areAlike_26 : decode cX11_areAlike 26 = .ok (.lsub, 1) := by decide +kernel
theorem dX11_areAlike_27 : decode cX11_areAlike 27 = .ok (.lastore, 1) := by decide +kernel
theorem dX11_areAlike_28 : decode cX11_areAlike 28 = .ok (.iinc 4 1, 3) := by decide +kernel
theorem dX11_areAlike_31 : decode cX11_areAlike 31 = .ok (.goto (-28), 3) := by decide +kernel
theorem dX11_areAlike_34 : decode cX11_areAlike 34 = .ok (.aload_n 0, 1) := by decide +kernel
theorem dX11_areAlike_35 : decode cX11_areAlike 35 = .ok (.getfield 24, 3) := by decide +kernel
theorem dX11_areAlike_38 : decode cX11_areAlike 38 = .ok (.aload_n 0, 1) := by decide +kernel
theorem dX11_areAlike_39 : decode cX11_areAlike 39 = .ok (.getfield 111, 3) := by decide +kernel
theorem dX11_areAlike_42 : decode cX11_areAlike 42 = .ok (.iload_n 3, 1) := by decide +kernel
theorem dX11_areAlike_43 : decode cX11_areAlike 43 = .ok (.i2l, 1) := by decide +kernel
theorem dX11_areAlike_44 : decode cX11_areAlike 44 = .ok (.invokevirtual 393, 3) := by decide +kernel
theorem dX11_areAlike_47 : decode cX11_areAlike 47 = .ok (.ireturn, 1) := by decide +kernel
theorem dX11_doCommute_0 : decode cX11_doCommute 0 = .ok (.aload_n 0, 1) := by decide +kernel
theorem dX11_doCommute_1 : decode cX11_doCommute 1 = .ok (.getfield 17, 3) := by decide +kernel
theorem dX11_doCommute_4 : decode cX11_doCommute 4 = .ok (.aload_n 0, 1) := by decide +kernel
theorem dX11_doCommute_5 : decode cX11_doCommute 5 = .ok (.getfield 105, 3) := by decide +kernel
theorem dX11_doCommute_8 : decode cX11_doCommute 8 = .ok (.aload_n 1, 1) := by decide +kernel
theorem dX11_doCommute_9 : decode cX11_doCommute 9 = .ok (.aload_n 2, 1) := by decide +kernel
theorem dX11_doCommute_10 : decode cX11_doCommute 10 = .ok (.invokevirtual 155, 3) := by decide +kernel
theorem dX11_doCommute_13 : decode cX11_doCommute 13 = .ok (.ifCond .eq 37, 3) := by decide +kernel
theorem dX11_doCommute_16 : decode cX11_doCommute 16 = .ok (.aload_n 0, 1) := by decide +kernel
theorem dX11_doCommute_17 : decode cX11_doCommute 17 = .ok (.getfield 17, 3) := by decide +kernel
theorem dX11_doCommute_20 : decode cX11_doCommute 20 = .ok (.aload_n 0, 1) := by decide +kernel
theorem dX11_doCommute_21 : decode cX11_doCommute 21 = .ok (.getfield 108, 3) := by decide +kernel
theorem dX11_doCommute_24 : decode cX11_doCommute 24 = .ok (.aload_n 2, 1) := by decide +kernel
theorem dX11_doCommute_25 : decode cX11_doCommute 25 = .ok (.aload_n 1, 1) := by decide +kernel
theorem dX11_doCommute_26 : decode cX11_doCommute 26 = .ok (.invokevirtual 155, 3) := by decide +kernel
theorem dX11_doCommute_29 : decode cX11_doCommute 29 = .ok (.ifCond .eq 21, 3) := by decide +kernel
theorem dX11_doCommute_32 : decode cX11_doCommute 32 = .ok (.aload_n 0, 1) := by decide +kernel
theorem dX11_doCommute_33 : decode cX11_doCommute 33 = .ok (.getfield 105, 3) := by decide +kernel
theorem dX11_doCommute_36 : decode cX11_doCommute 36 = .ok (.aload_n 0, 1) := by decide +kernel
theorem dX11_doCommute_37 : decode cX11_doCommute 37 = .ok (.getfield 108, 3) := by decide +kernel
theorem dX11_doCommute_40 : decode cX11_doCommute 40 = .ok (.invokestatic 273, 3) := by decide +kernel
theorem dX11_doCommute_43 : decode cX11_doCommute 43 = .ok (.ifCond .eq 7, 3) := by decide +kernel
theorem dX11_doCommute_46 : decode cX11_doCommute 46 = .ok (.iconst 1, 1) := by decide +kernel
theorem dX11_doCommute_47 : decode cX11_doCommute 47 = .ok (.goto 4, 3) := by decide +kernel
theorem dX11_doCommute_50 : decode cX11_doCommute 50 = .ok (.iconst 0, 1) := by decide +kernel
theorem dX11_doCommute_51 : decode cX11_doCommute 51 = .ok (.ireturn, 1) := by decide +kernel
theorem dX11_doAssociate_0 : decode cX11_doAssociate 0 = .ok (.aload_n 0, 1) := by decide +kernel
theorem dX11_doAssociate_1 : decode cX11_doAssociate 1 = .ok (.getfield 17, 3) := by decide +kernel
theorem dX11_doAssociate_4 : decode cX11_doAssociate 4 = .ok (.aload_n 0, 1) := by decide +kernel
theorem dX11_doAssociate_5 : decode cX11_doAssociate 5 = .ok (.getfield 105, 3) := by decide +kernel
theorem dX11_doAssociate_8 : decode cX11_doAssociate 8 = .ok (.aload_n 1, 1) := by decide +kernel
theorem dX11_doAssociate_9 : decode cX11_doAssociate 9 = .ok (.aload_n 2, 1) := by decide +kernel
theorem dX11_doAssociate_10 : decode cX11_doAssociate 10 = .ok (.invokevirtual 155, 3) := by decide +kernel
theorem dX11_doAssociate_13 : decode cX11_doAssociate 13 = .ok (.ifCond .eq 75, 3) := by decide +kernel
theorem dX11_doAssociate_16 : decode cX11_doAssociate 16 = .ok (.aload_n 0, 1) := by decide +kernel
theorem dX11_doAssociate_17 : decode cX11_doAssociate 17 = .ok (.getfield 17, 3) := by decide +kernel
theorem dX11_doAssociate_20 : decode cX11_doAssociate 20 = .ok (.aload_n 0, 1) := by decide +kernel
theorem dX11_doAssociate_21 : decode cX11_doAssociate 21 = .ok (.getfield 105, 3) := by decide +kernel
theorem dX11_doAssociate_24 : decode cX11_doAssociate 24 = .ok (.aload_n 0, 1) := by decide +kernel
theorem dX11_doAssociate_25 : decode cX11_doAssociate 25 = .ok (.getfield 105, 3) := by decide +kernel
theorem dX11_doAssociate_28 : decode cX11_doAssociate 28 = .ok (.aload_n 3, 1) := by decide +kernel
theorem dX11_doAssociate_29 : decode cX11_doAssociate 29 = .ok (.invokevirtual 155, 3) := by decide +kernel
theorem dX11_doAssociate_32 : decode cX11_doAssociate 32 = .ok (.ifCond .eq 56, 3) := by decide +kernel
theorem dX11_doAssociate_35 : decode cX11_doAssociate 35 = .ok (.aload_n 0, 1) := by decide +kernel
theorem dX11_doAssociate_36 : decode cX11_doAssociate 36 = .ok (.getfield 17, 3) := by decide +kernel
theorem dX11_doAssociate_39 : decode cX11_doAssociate 39 = .ok (.aload_n 0, 1) := by decide +kernel
theorem dX11_doAssociate_40 : decode cX11_doAssociate 40 = .ok (.getfield 108, 3) := by decide +kernel
theorem dX11_doAssociate_43 : decode cX11_doAssociate 43 = .ok (.aload_n 2, 1) := by decide +kernel
theorem dX11_doAssociate_44 : decode cX11_doAssociate 44 = .ok (.aload_n 3, 1) := by decide +kernel
theorem dX11_doAssociate_45 : decode cX11_doAssociate 45 = .ok (.invokevirtual 155, 3) := by decide +kernel
theorem dX11_doAssociate_48 : decode cX11_doAssociate 48 = .ok (.ifCond .eq 40, 3) := by decide +kernel
theorem dX11_doAssociate_51 : decode cX11_doAssociate 51 = .ok (.aload_n 0, 1) := by decide +kernel
theorem dX11_doAssociate_52 : decode cX11_doAssociate 52 = .ok (.getfield 17, 3) := by decide +kernel
theorem dX11_doAssociate_55 : decode cX11_doAssociate 55 = .ok (.aload_n 0, 1) := by decide +kernel
theorem dX11_doAssociate_56 : decode cX11_doAssociate 56 = .ok (.getfield 108, 3) := by decide +kernel
theorem dX11_doAssociate_59 : decode cX11_doAssociate 59 = .ok (.aload_n 1, 1) := by decide +kernel
theorem dX11_doAssociate_60 : decode cX11_doAssociate 60 = .ok (.aload_n 0, 1) := by decide +kernel
theorem dX11_doAssociate_61 : decode cX11_doAssociate 61 = .ok (.getfield 108, 3) := by decide +kernel
theorem dX11_doAssociate_64 : decode cX11_doAssociate 64 = .ok (.invokevirtual 155, 3) := by decide +kernel
theorem dX11_doAssociate_67 : decode cX11_doAssociate 67 = .ok (.ifCond .eq 21, 3) := by decide +kernel
theorem dX11_doAssociate_70 : decode cX11_doAssociate 70 = .ok (.aload_n 0, 1) := by decide +kernel
theorem dX11_doAssociate_71 : decode cX11_doAssociate 71 = .ok (.getfield 105, 3) := by decide +kernel
theorem dX11_doAssociate_74 : decode cX11_doAssociate 74 = .ok (.aload_n 0, 1) := by decide +kernel
theorem dX11_doAssociate_75 : decode cX11_doAssociate 75 = .ok (.getfield 108, 3) := by decide +kernel
theorem dX11_doAssociate_78 : decode cX11_doAssociate 78 = .ok (.invokestatic 273, 3) := by decide +kernel
theorem dX11_doAssociate_81 : decode cX11_doAssociate 81 = .ok (.ifCond .eq 7, 3) := by decide +kernel
theorem dX11_doAssociate_84 : decode cX11_doAssociate 84 = .ok (.iconst 1, 1) := by decide +kernel
theorem dX11_doAssociate_85 : decode cX11_doAssociate 85 = .ok (.goto 4, 3) := by decide +kernel
theorem dX11_doAssociate_88 : decode cX11_doAssociate 88 = .ok (.iconst 0, 1) := by decide +kernel
theorem dX11_doAssociate_89 : decode cX11_doAssociate 89 = .ok (.ireturn, 1) := by decide +kernel
theorem dX11_wholeSlots_0 : decode cX11_wholeSlots 0 = .ok (.iconst 0, 1) := by decide +kernel
theorem dX11_wholeSlots_1 : decode cX11_wholeSlots 1 = .ok (.istore_n 1, 1) := by decide +kernel
theorem dX11_wholeSlots_2 : decode cX11_wholeSlots 2 = .ok (.iconst 0, 1) := by decide +kernel
theorem dX11_wholeSlots_3 : decode cX11_wholeSlots 3 = .ok (.istore_n 2, 1) := by decide +kernel
theorem dX11_wholeSlots_4 : decode cX11_wholeSlots 4 = .ok (.iload_n 2, 1) := by decide +kernel
theorem dX11_wholeSlots_5 : decode cX11_wholeSlots 5 = .ok (.bipush 8, 2) := by decide +kernel
theorem dX11_wholeSlots_7 : decode cX11_wholeSlots 7 = .ok (.if_icmp .ge 31, 3) := by decide +kernel
theorem dX11_wholeSlots_10 : decode cX11_wholeSlots 10 = .ok (.aload_n 0, 1) := by decide +kernel
theorem dX11_wholeSlots_11 : decode cX11_wholeSlots 11 = .ok (.getfield 24, 3) := by decide +kernel
theorem dX11_wholeSlots_14 : decode cX11_wholeSlots 14 = .ok (.aload_n 0, 1) := by decide +kernel
theorem dX11_wholeSlots_15 : decode cX11_wholeSlots 15 = .ok (.getfield 11, 3) := by decide +kernel
theorem dX11_wholeSlots_18 : decode cX11_wholeSlots 18 = .ok (.iload_n 2, 1) := by decide +kernel
theorem dX11_wholeSlots_19 : decode cX11_wholeSlots 19 = .ok (.aaload, 1) := by decide +kernel
theorem dX11_wholeSlots_20 : decode cX11_wholeSlots 20 = .ok (.invokevirtual 264, 3) := by decide +kernel
theorem dX11_wholeSlots_23 : decode cX11_wholeSlots 23 = .ok (.ifCond .eq 9, 3) := by decide +kernel
theorem dX11_wholeSlots_26 : decode cX11_wholeSlots 26 = .ok (.iload_n 1, 1) := by decide +kernel
theorem dX11_wholeSlots_27 : decode cX11_wholeSlots 27 = .ok (.iconst 1, 1) := by decide +kernel
theorem dX11_wholeSlots_28 : decode cX11_wholeSlots 28 = .ok (.iload_n 2, 1) := by decide +kernel
theorem dX11_wholeSlots_29 : decode cX11_wholeSlots 29 = .ok (.ishl, 1) := by decide +kernel
theorem dX11_wholeSlots_30 : decode cX11_wholeSlots 30 = .ok (.ior, 1) := by decide +kernel
theorem dX11_wholeSlots_31 : decode cX11_wholeSlots 31 = .ok (.istore_n 1, 1) := by decide +kernel
theorem dX11_wholeSlots_32 : decode cX11_wholeSlots 32 = .ok (.iinc 2 1, 3) := by decide +kernel
theorem dX11_wholeSlots_35 : decode cX11_wholeSlots 35 = .ok (.goto (-31), 3) := by decide +kernel
theorem dX11_wholeSlots_38 : decode cX11_wholeSlots 38 = .ok (.iload_n 1, 1) := by decide +kernel
theorem dX11_wholeSlots_39 : decode cX11_wholeSlots 39 = .ok (.ireturn, 1) := by decide +kernel
theorem dX11_emptySlots_0 : decode cX11_emptySlots 0 = .ok (.iconst 0, 1) := by decide +kernel
theorem dX11_emptySlots_1 : decode cX11_emptySlots 1 = .ok (.istore_n 1, 1) := by decide +kernel
theorem dX11_emptySlots_2 : decode cX11_emptySlots 2 = .ok (.iconst 0, 1) := by decide +kernel
theorem dX11_emptySlots_3 : decode cX11_emptySlots 3 = .ok (.istore_n 2, 1) := by decide +kernel
theorem dX11_emptySlots_4 : decode cX11_emptySlots 4 = .ok (.iload_n 2, 1) := by decide +kernel
theorem dX11_emptySlots_5 : decode cX11_emptySlots 5 = .ok (.bipush 8, 2) := by decide +kernel
theorem dX11_emptySlots_7 : decode cX11_emptySlots 7 = .ok (.if_icmp .ge 27, 3) := by decide +kernel
theorem dX11_emptySlots_10 : decode cX11_emptySlots 10 = .ok (.aload_n 0, 1) := by decide +kernel
theorem dX11_emptySlots_11 : decode cX11_emptySlots 11 = .ok (.getfield 11, 3) := by decide +kernel
theorem dX11_emptySlots_14 : decode cX11_emptySlots 14 = .ok (.iload_n 2, 1) := by decide +kernel
theorem dX11_emptySlots_15 : decode cX11_emptySlots 15 = .ok (.aaload, 1) := by decide +kernel
theorem dX11_emptySlots_16 : decode cX11_emptySlots 16 = .ok (.invokestatic 186, 3) := by decide +kernel
theorem dX11_emptySlots_19 : decode cX11_emptySlots 19 = .ok (.ifCond .eq 9, 3) := by decide +kernel
theorem dX11_emptySlots_22 : decode cX11_emptySlots 22 = .ok (.iload_n 1, 1) := by decide +kernel
theorem dX11_emptySlots_23 : decode cX11_emptySlots 23 = .ok (.iconst 1, 1) := by decide +kernel
theorem dX11_emptySlots_24 : decode cX11_emptySlots 24 = .ok (.iload_n 2, 1) := by decide +kernel
theorem dX11_emptySlots_25 : decode cX11_emptySlots 25 = .ok (.ishl, 1) := by decide +kernel
theorem dX11_emptySlots_26 : decode cX11_emptySlots 26 = .ok (.ior, 1) := by decide +kernel
theorem dX11_emptySlots_27 : decode cX11_emptySlots 27 = .ok (.istore_n 1, 1) := by decide +kernel
theorem dX11_emptySlots_28 : decode cX11_emptySlots 28 = .ok (.iinc 2 1, 3) := by decide +kernel
theorem dX11_emptySlots_31 : decode cX11_emptySlots 31 = .ok (.goto (-27), 3) := by decide +kernel
theorem dX11_emptySlots_34 : decode cX11_emptySlots 34 = .ok (.iload_n 1, 1) := by decide +kernel
theorem dX11_emptySlots_35 : decode cX11_emptySlots 35 = .ok (.ireturn, 1) := by decide +kernel
