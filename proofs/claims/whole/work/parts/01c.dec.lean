theorem dX12_in_0 : decode cX12_in 0 = .ok (.lload_n 0, 1) := by decide +kernel
theorem dX12_in_1 : decode cX12_in 1 = .ok (.lload_n 2, 1) := by decide +kernel
theorem dX12_in_2 : decode cX12_in 2 = .ok (.lcmp, 1) := by decide +kernel
theorem dX12_in_3 : decode cX12_in 3 = .ok (.ifCond .lt 14, 3) := by decide +kernel
theorem dX12_in_6 : decode cX12_in 6 = .ok (.lload_n 0, 1) := by decide +kernel
theorem dX12_in_7 : decode cX12_in 7 = .ok (.lload 4, 2) := by decide +kernel
theorem dX12_in_9 : decode cX12_in 9 = .ok (.lcmp, 1) := by decide +kernel
theorem dX12_in_10 : decode cX12_in 10 = .ok (.ifCond .gt 7, 3) := by decide +kernel
theorem dX12_in_13 : decode cX12_in 13 = .ok (.iconst 1, 1) := by decide +kernel
theorem dX12_in_14 : decode cX12_in 14 = .ok (.goto 4, 3) := by decide +kernel
theorem dX12_in_17 : decode cX12_in 17 = .ok (.iconst 0, 1) := by decide +kernel
theorem dX12_in_18 : decode cX12_in 18 = .ok (.ireturn, 1) := by decide +kernel
theorem dX12_has_0 : decode cX12_has 0 = .ok (.iload_n 0, 1) := by decide +kernel
theorem dX12_has_1 : decode cX12_has 1 = .ok (.iload_n 1, 1) := by decide +kernel
theorem dX12_has_2 : decode cX12_has 2 = .ok (.ishr, 1) := by decide +kernel
theorem dX12_has_3 : decode cX12_has 3 = .ok (.iconst 1, 1) := by decide +kernel
theorem dX12_has_4 : decode cX12_has 4 = .ok (.iand, 1) := by decide +kernel
theorem dX12_has_5 : decode cX12_has 5 = .ok (.iconst 1, 1) := by decide +kernel
theorem dX12_has_6 : decode cX12_has 6 = .ok (.if_icmp .ne 7, 3) := by decide +kernel
theorem dX12_has_9 : decode cX12_has 9 = .ok (.iconst 1, 1) := by decide +kernel
theorem dX12_has_10 : decode cX12_has 10 = .ok (.goto 4, 3) := by decide +kernel
theorem dX12_has_13 : decode cX12_has 13 = .ok (.iconst 0, 1) := by decide +kernel
theorem dX12_has_14 : decode cX12_has 14 = .ok (.ireturn, 1) := by decide +kernel
theorem dX12_bitsOf_0 : decode cX12_bitsOf 0 = .ok (.iconst 0, 1) := by decide +kernel
theorem dX12_bitsOf_1 : decode cX12_bitsOf 1 = .ok (.istore_n 1, 1) := by decide +kernel
theorem dX12_bitsOf_2 : decode cX12_bitsOf 2 = .ok (.iload_n 0, 1) := by decide +kernel
theorem dX12_bitsOf_3 : decode cX12_bitsOf 3 = .ok (.istore_n 2, 1) := by decide +kernel
theorem dX12_bitsOf_4 : decode cX12_bitsOf 4 = .ok (.iload_n 2, 1) := by decide +kernel
theorem dX12_bitsOf_5 : decode cX12_bitsOf 5 = .ok (.ifCond .eq 15, 3) := by decide +kernel
theorem dX12_bitsOf_8 : decode cX12_bitsOf 8 = .ok (.iinc 1 1, 3) := by decide +kernel
theorem dX12_bitsOf_11 : decode cX12_bitsOf 11 = .ok (.iload_n 2, 1) := by decide +kernel
theorem dX12_bitsOf_12 : decode cX12_bitsOf 12 = .ok (.iload_n 2, 1) := by decide +kernel
theorem dX12_bitsOf_13 : decode cX12_bitsOf 13 = .ok (.iconst 1, 1) := by decide +kernel
theorem dX12_bitsOf_14 : decode cX12_bitsOf 14 = .ok (.isub, 1) := by decide +kernel
theorem dX12_bitsOf_15 : decode cX12_bitsOf 15 = .ok (.iand, 1) := by decide +kernel
theorem dX12_bitsOf_16 : decode cX12_bitsOf 16 = .ok (.istore_n 2, 1) := by decide +kernel
theorem dX12_bitsOf_17 : decode cX12_bitsOf 17 = .ok (.goto (-13), 3) := by decide +kernel
theorem dX12_bitsOf_20 : decode cX12_bitsOf 20 = .ok (.iload_n 1, 1) := by decide +kernel
theorem dX12_bitsOf_21 : decode cX12_bitsOf 21 = .ok (.ireturn, 1) := by decide +kernel
theorem dX12_init_0 : decode cX12_init 0 = .ok (.aload_n 0, 1) := by decide +kernel
theorem dX12_init_1 : decode cX12_init 1 = .ok (.invokespecial 7, 3) := by decide +kernel
theorem dX12_init_4 : decode cX12_init 4 = .ok (.aload_n 0, 1) := by decide +kernel
theorem dX12_init_5 : decode cX12_init 5 = .ok (.bipush 64, 2) := by decide +kernel
theorem dX12_init_7 : decode cX12_init 7 = .ok (.newarray .int, 2) := by decide +kernel
theorem dX12_init_9 : decode cX12_init 9 = .ok (.putfield 13, 3) := by decide +kernel
theorem dX12_init_12 : decode cX12_init 12 = .ok (.aload_n 0, 1) := by decide +kernel
theorem dX12_init_13 : decode cX12_init 13 = .ok (.sipush 1240, 3) := by decide +kernel
theorem dX12_init_16 : decode cX12_init 16 = .ok (.newarray .int, 2) := by decide +kernel
theorem dX12_init_18 : decode cX12_init 18 = .ok (.putfield 17, 3) := by decide +kernel
theorem dX12_init_21 : decode cX12_init 21 = .ok (.aload_n 0, 1) := by decide +kernel
theorem dX12_init_22 : decode cX12_init 22 = .ok (.bipush 8, 2) := by decide +kernel
theorem dX12_init_24 : decode cX12_init 24 = .ok (.newarray .long, 2) := by decide +kernel
theorem dX12_init_26 : decode cX12_init 26 = .ok (.putfield 20, 3) := by decide +kernel
theorem dX12_init_29 : decode cX12_init 29 = .ok (.aload_n 0, 1) := by decide +kernel
theorem dX12_init_30 : decode cX12_init 30 = .ok (.iconst 1, 1) := by decide +kernel
theorem dX12_init_31 : decode cX12_init 31 = .ok (.putfield 24, 3) := by decide +kernel
theorem dX12_init_34 : decode cX12_init 34 = .ok (.aload_n 0, 1) := by decide +kernel
theorem dX12_init_35 : decode cX12_init 35 = .ok (.ldc 27, 2) := by decide +kernel
theorem dX12_init_37 : decode cX12_init 37 = .ok (.newarray .int, 2) := by decide +kernel
theorem dX12_init_39 : decode cX12_init 39 = .ok (.putfield 28, 3) := by decide +kernel
theorem dX12_init_42 : decode cX12_init 42 = .ok (.aload_n 0, 1) := by decide +kernel
theorem dX12_init_43 : decode cX12_init 43 = .ok (.iconst 4, 1) := by decide +kernel
theorem dX12_init_44 : decode cX12_init 44 = .ok (.newarray .int, 2) := by decide +kernel
theorem dX12_init_46 : decode cX12_init 46 = .ok (.putfield 31, 3) := by decide +kernel
theorem dX12_init_49 : decode cX12_init 49 = .ok (.aload_n 0, 1) := by decide +kernel
theorem dX12_init_50 : decode cX12_init 50 = .ok (.iconst 4, 1) := by decide +kernel
theorem dX12_init_51 : decode cX12_init 51 = .ok (.newarray .int, 2) := by decide +kernel
theorem dX12_init_53 : decode cX12_init 53 = .ok (.dup, 1) := by decide +kernel
theorem dX12_init_54 : decode cX12_init 54 = .ok (.iconst 0, 1) := by decide +kernel
theorem dX12_init_55 : decode cX12_init 55 = .ok (.iconst (-1), 1) := by decide +kernel
theorem dX12_init_56 : decode cX12_init 56 = .ok (.iastore, 1) := by decide +kernel
theorem dX12_init_57 : decode cX12_init 57 = .ok (.dup, 1) := by decide +kernel
theorem dX12_init_58 : decode cX12_init 58 = .ok (.iconst 1, 1) := by decide +kernel
theorem dX12_init_59 : decode cX12_init 59 = .ok (.iconst (-1), 1) := by decide +kernel
theorem dX12_init_60 : decode cX12_init 60 = .ok (.iastore, 1) := by decide +kernel
theorem dX12_init_61 : decode cX12_init 61 = .ok (.dup, 1) := by decide +kernel
theorem dX12_init_62 : decode cX12_init 62 = .ok (.iconst 2, 1) := by decide +kernel
theorem dX12_init_63 : decode cX12_init 63 = .ok (.iconst (-1), 1) := by decide +kernel
theorem dX12_init_64 : decode cX12_init 64 = .ok (.iastore, 1) := by decide +kernel
theorem dX12_init_65 : decode cX12_init 65 = .ok (.dup, 1) := by decide +kernel
theorem dX12_init_66 : decode cX12_init 66 = .ok (.iconst 3, 1) := by decide +kernel
theorem dX12_init_67 : decode cX12_init 67 = .ok (.iconst (-1), 1) := by decide +kernel
theorem dX12_init_68 : decode cX12_init 68 = .ok (.iastore, 1) := by decide +kernel
theorem dX12_init_69 : decode cX12_init 69 = .ok (.putfield 34, 3) := by decide +kernel
theorem dX12_init_72 : decode cX12_init 72 = .ok (.aload_n 0, 1) := by decide +kernel
theorem dX12_init_73 : decode cX12_init 73 = .ok (.bipush 8, 2) := by decide +kernel
theorem dX12_init_75 : decode cX12_init 75 = .ok (.newarray .int, 2) := by decide +kernel
theorem dX12_init_77 : decode cX12_init 77 = .ok (.putfield 37, 3) := by decide +kernel
theorem dX12_init_80 : decode cX12_init 80 = .ok (.aload_n 0, 1) := by decide +kernel
theorem dX12_init_81 : decode cX12_init 81 = .ok (.bipush 8, 2) := by decide +kernel
theorem dX12_init_83 : decode cX12_init 83 = .ok (.newarray .int, 2) := by decide +kernel
theorem dX12_init_85 : decode cX12_init 85 = .ok (.putfield 40, 3) := by decide +kernel
theorem dX12_init_88 : decode cX12_init 88 = .ok (.aload_n 0, 1) := by decide +kernel
theorem dX12_init_89 : decode cX12_init 89 = .ok (.bipush 8, 2) := by decide +kernel
theorem dX12_init_91 : decode cX12_init 91 = .ok (.newarray .long, 2) := by decide +kernel
theorem dX12_init_93 : decode cX12_init 93 = .ok (.putfield 43, 3) := by decide +kernel
theorem dX12_init_96 : decode cX12_init 96 = .ok (.aload_n 0, 1) := by decide +kernel
theorem dX12_init_97 : decode cX12_init 97 = .ok (.bipush 8, 2) := by decide +kernel
theorem dX12_init_99 : decode cX12_init 99 = .ok (.newarray .long, 2) := by decide +kernel
theorem dX12_init_101 : decode cX12_init 101 = .ok (.putfield 46, 3) := by decide +kernel
theorem dX12_init_104 : decode cX12_init 104 = .ok (.aload_n 0, 1) := by decide +kernel
theorem dX12_init_105 : decode cX12_init 105 = .ok (.bipush 42, 2) := by decide +kernel
theorem dX12_init_107 : decode cX12_init 107 = .ok (.newarray .int, 2) := by decide +kernel
theorem dX12_init_109 : decode cX12_init 109 = .ok (.putfield 49, 3) := by decide +kernel
theorem dX12_init_112 : decode cX12_init 112 = .ok (.aload_n 0, 1) := by decide +kernel
theorem dX12_init_113 : decode cX12_init 113 = .ok (.bipush 42, 2) := by decide +kernel
theorem dX12_init_115 : decode cX12_init 115 = .ok (.newarray .int, 2) := by decide +kernel
theorem dX12_init_117 : decode cX12_init 117 = .ok (.putfield 52, 3) := by decide +kernel
theorem dX12_init_120 : decode cX12_init 120 = .ok (.aload_n 0, 1) := by decide +kernel
theorem dX12_init_121 : decode cX12_init 121 = .ok (.sipush 155, 3) := by decide +kernel
theorem dX12_init_124 : decode cX12_init 124 = .ok (.newarray .boolean, 2) := by decide +kernel
theorem dX12_init_126 : decode cX12_init 126 = .ok (.putfield 55, 3) := by decide +kernel
theorem dX12_init_129 : decode cX12_init 129 = .ok (.aload_n 0, 1) := by decide +kernel
theorem dX12_init_130 : decode cX12_init 130 = .ok (.sipush 200, 3) := by decide +kernel
theorem dX12_init_133 : decode cX12_init 133 = .ok (.newarray .int, 2) := by decide +kernel
theorem dX12_init_135 : decode cX12_init 135 = .ok (.putfield 59, 3) := by decide +kernel
theorem dX12_init_138 : decode cX12_init 138 = .ok (.aload_n 0, 1) := by decide +kernel
theorem dX12_init_139 : decode cX12_init 139 = .ok (.bipush 12, 2) := by decide +kernel
theorem dX12_init_141 : decode cX12_init 141 = .ok (.newarray .int, 2) := by decide +kernel
theorem dX12_init_143 : decode cX12_init 143 = .ok (.putfield 62, 3) := by decide +kernel
theorem dX12_init_146 : decode cX12_init 146 = .ok (.aload_n 0, 1) := by decide +kernel
theorem dX12_init_147 : decode cX12_init 147 = .ok (.bipush 13, 2) := by decide +kernel
theorem dX12_init_149 : decode cX12_init 149 = .ok (.newarray .boolean, 2) := by decide +kernel
theorem dX12_init_151 : decode cX12_init 151 = .ok (.putfield 65, 3) := by decide +kernel
theorem dX12_init_154 : decode cX12_init 154 = .ok (.aload_n 0, 1) := by decide +kernel
theorem dX12_init_155 : decode cX12_init 155 = .ok (.bipush 13, 2) := by decide +kernel
theorem dX12_init_157 : decode cX12_init 157 = .ok (.newarray .boolean, 2) := by decide +kernel
theorem dX12_init_159 : decode cX12_init 159 = .ok (.putfield 68, 3) := by decide +kernel
theorem dX12_init_162 : decode cX12_init 162 = .ok (.aload_n 0, 1) := by decide +kernel
theorem dX12_init_163 : decode cX12_init 163 = .ok (.bipush 13, 2) := by decide +kernel
theorem dX12_init_165 : decode cX12_init 165 = .ok (.newarray .int, 2) := by decide +kernel
theorem dX12_init_167 : decode cX12_init 167 = .ok (.putfield 71, 3) := by decide +kernel
theorem dX12_init_170 : decode cX12_init 170 = .ok (.aload_n 0, 1) := by decide +kernel
theorem dX12_init_171 : decode cX12_init 171 = .ok (.bipush 120, 2) := by decide +kernel
theorem dX12_init_173 : decode cX12_init 173 = .ok (.newarray .int, 2) := by decide +kernel
theorem dX12_init_175 : decode cX12_init 175 = .ok (.putfield 74, 3) := by decide +kernel
theorem dX12_init_178 : decode cX12_init 178 = .ok (.aload_n 0, 1) := by decide +kernel
theorem dX12_init_179 : decode cX12_init 179 = .ok (.ldc 77, 2) := by decide +kernel
theorem dX12_init_181 : decode cX12_init 181 = .ok (.newarray .int, 2) := by decide +kernel
theorem dX12_init_183 : decode cX12_init 183 = .ok (.putfield 78, 3) := by decide +kernel
theorem dX12_init_186 : decode cX12_init 186 = .ok (.aload_n 0, 1) := by decide +kernel
theorem dX12_init_187 : decode cX12_init 187 = .ok (.iconst (-1), 1) := by decide +kernel
theorem dX12_init_188 : decode cX12_init 188 = .ok (.putfield 81, 3) := by decide +kernel
theorem dX12_init_191 : decode cX12_init 191 = .ok (.aload_n 0, 1) := by decide +kernel
theorem dX12_init_192 : decode cX12_init 192 = .ok (.sipush 240, 3) := by decide +kernel
theorem dX12_init_195 : decode cX12_init 195 = .ok (.newarray .boolean, 2) := by decide +kernel
theorem dX12_init_197 : decode cX12_init 197 = .ok (.putfield 84, 3) := by decide +kernel
theorem dX12_init_200 : decode cX12_init 200 = .ok (.aload_n 0, 1) := by decide +kernel
theorem dX12_init_201 : decode cX12_init 201 = .ok (.sipush 240, 3) := by decide +kernel
theorem dX12_init_204 : decode cX12_init 204 = .ok (.newarray .int, 2) := by decide +kernel
theorem dX12_init_206 : decode cX12_init 206 = .ok (.putfield 87, 3) := by decide +kernel
theorem dX12_init_209 : decode cX12_init 209 = .ok (.aload_n 0, 1) := by decide +kernel
theorem dX12_init_210 : decode cX12_init 210 = .ok (.sipush 390, 3) := by decide +kernel
theorem dX12_init_213 : decode cX12_init 213 = .ok (.newarray .int, 2) := by decide +kernel
theorem dX12_init_215 : decode cX12_init 215 = .ok (.putfield 90, 3) := by decide +kernel
theorem dX12_init_218 : decode cX12_init 218 = .ok (.aload_n 0, 1) := by decide +kernel
theorem dX12_init_219 : decode cX12_init 219 = .ok (.getfield 13, 3) := by decide +kernel
theorem dX12_init_222 : decode cX12_init 222 = .ok (.iconst 0, 1) := by decide +kernel
theorem dX12_init_223 : decode cX12_init 223 = .ok (.iconst 1, 1) := by decide +kernel
theorem dX12_init_224 : decode cX12_init 224 = .ok (.iastore, 1) := by decide +kernel
theorem dX12_init_225 : decode cX12_init 225 = .ok (.iconst 1, 1) := by decide +kernel
theorem dX12_init_226 : decode cX12_init 226 = .ok (.istore_n 1, 1) := by decide +kernel
theorem dX12_init_227 : decode cX12_init 227 = .ok (.iload_n 1, 1) := by decide +kernel
theorem dX12_init_228 : decode cX12_init 228 = .ok (.bipush 8, 2) := by decide +kernel
theorem dX12_init_230 : decode cX12_init 230 = .ok (.if_icmp .ge 128, 3) := by decide +kernel
theorem dX12_init_233 : decode cX12_init 233 = .ok (.iconst 0, 1) := by decide +kernel
theorem dX12_init_234 : decode cX12_init 234 = .ok (.istore_n 2, 1) := by decide +kernel
theorem dX12_init_235 : decode cX12_init 235 = .ok (.iload_n 2, 1) := by decide +kernel
theorem dX12_init_236 : decode cX12_init 236 = .ok (.iload_n 1, 1) := by decide +kernel
theorem dX12_init_237 : decode cX12_init 237 = .ok (.if_icmp .ge 114, 3) := by decide +kernel
theorem dX12_init_240 : decode cX12_init 240 = .ok (.iconst 0, 1) := by decide +kernel
theorem dX12_init_241 : decode cX12_init 241 = .ok (.istore_n 3, 1) := by decide +kernel
theorem dX12_init_242 : decode cX12_init 242 = .ok (.iload_n 3, 1) := by decide +kernel
theorem dX12_init_243 : decode cX12_init 243 = .ok (.iload_n 1, 1) := by decide +kernel
theorem dX12_init_244 : decode cX12_init 244 = .ok (.if_icmp .ge 101, 3) := by decide +kernel
theorem dX12_init_247 : decode cX12_init 247 = .ok (.iload_n 3, 1) := by decide +kernel
theorem dX12_init_248 : decode cX12_init 248 = .ok (.ifCond .ne 7, 3) := by decide +kernel
theorem dX12_init_251 : decode cX12_init 251 = .ok (.iconst 1, 1) := by decide +kernel
theorem dX12_init_252 : decode cX12_init 252 = .ok (.goto 4, 3) := by decide +kernel
theorem dX12_init_255 : decode cX12_init 255 = .ok (.iconst (-1), 1) := by decide +kernel
theorem dX12_init_256 : decode cX12_init 256 = .ok (.istore 4, 2) := by decide +kernel
theorem dX12_init_258 : decode cX12_init 258 = .ok (.aload_n 0, 1) := by decide +kernel
theorem dX12_init_259 : decode cX12_init 259 = .ok (.getfield 13, 3) := by decide +kernel
theorem dX12_init_262 : decode cX12_init 262 = .ok (.bipush 8, 2) := by decide +kernel
theorem dX12_init_264 : decode cX12_init 264 = .ok (.iload_n 2, 1) := by decide +kernel
theorem dX12_init_265 : decode cX12_init 265 = .ok (.imul, 1) := by decide +kernel
theorem dX12_init_266 : decode cX12_init 266 = .ok (.iload_n 1, 1) := by decide +kernel
theorem dX12_init_267 : decode cX12_init 267 = .ok (.iadd, 1) := by decide +kernel
theorem dX12_init_268 : decode cX12_init 268 = .ok (.iload_n 3, 1) := by decide +kernel
theorem dX12_init_269 : decode cX12_init 269 = .ok (.iadd, 1) := by decide +kernel
theorem dX12_init_270 : decode cX12_init 270 = .ok (.aload_n 0, 1) := by decide +kernel
theorem dX12_init_271 : decode cX12_init 271 = .ok (.getfield 13, 3) := by decide +kernel
theorem dX12_init_274 : decode cX12_init 274 = .ok (.bipush 8, 2) := by decide +kernel
theorem dX12_init_276 : decode cX12_init 276 = .ok (.iload_n 3, 1) := by decide +kernel
theorem dX12_init_277 : decode cX12_init 277 = .ok (.imul, 1) := by decide +kernel
theorem dX12_init_278 : decode cX12_init 278 = .ok (.iload_n 2, 1) := by decide +kernel
theorem dX12_init_279 : decode cX12_init 279 = .ok (.iadd, 1) := by decide +kernel
theorem dX12_init_280 : decode cX12_init 280 = .ok (.iaload, 1) := by decide +kernel
theorem dX12_init_281 : decode cX12_init 281 = .ok (.iastore, 1) := by decide +kernel
theorem dX12_init_282 : decode cX12_init 282 = .ok (.aload_n 0, 1) := by decide +kernel
theorem dX12_init_283 : decode cX12_init 283 = .ok (.getfield 13, 3) := by decide +kernel
theorem dX12_init_286 : decode cX12_init 286 = .ok (.bipush 8, 2) := by decide +kernel
theorem dX12_init_288 : decode cX12_init 288 = .ok (.iload_n 1, 1) := by decide +kernel
theorem dX12_init_289 : decode cX12_init 289 = .ok (.iload_n 2, 1) := by decide +kernel
theorem dX12_init_290 : decode cX12_init 290 = .ok (.iadd, 1) := by decide +kernel
theorem dX12_init_291 : decode cX12_init 291 = .ok (.imul, 1) := by decide +kernel
theorem dX12_init_292 : decode cX12_init 292 = .ok (.iload_n 3, 1) := by decide +kernel
theorem dX12_init_293 : decode cX12_init 293 = .ok (.iadd, 1) := by decide +kernel
theorem dX12_init_294 : decode cX12_init 294 = .ok (.aload_n 0, 1) := by decide +kernel
theorem dX12_init_295 : decode cX12_init 295 = .ok (.getfield 13, 3) := by decide +kernel
theorem dX12_init_298 : decode cX12_init 298 = .ok (.bipush 8, 2) := by decide +kernel
theorem dX12_init_300 : decode cX12_init 300 = .ok (.iload_n 2, 1) := by decide +kernel
theorem dX12_init_301 : decode cX12_init 301 = .ok (.imul, 1) := by decide +kernel
theorem dX12_init_302 : decode cX12_init 302 = .ok (.iload_n 3, 1) := by decide +kernel
theorem dX12_init_303 : decode cX12_init 303 = .ok (.iadd, 1) := by decide +kernel
theorem dX12_init_304 : decode cX12_init 304 = .ok (.iaload, 1) := by decide +kernel
theorem dX12_init_305 : decode cX12_init 305 = .ok (.iload 4, 2) := by decide +kernel
theorem dX12_init_307 : decode cX12_init 307 = .ok (.imul, 1) := by decide +kernel
theorem dX12_init_308 : decode cX12_init 308 = .ok (.iastore, 1) := by decide +kernel
theorem dX12_init_309 : decode cX12_init 309 = .ok (.aload_n 0, 1) := by decide +kernel
theorem dX12_init_310 : decode cX12_init 310 = .ok (.getfield 13, 3) := by decide +kernel
theorem dX12_init_313 : decode cX12_init 313 = .ok (.bipush 8, 2) := by decide +kernel
theorem dX12_init_315 : decode cX12_init 315 = .ok (.iload_n 1, 1) := by decide +kernel
theorem dX12_init_316 : decode cX12_init 316 = .ok (.iload_n 2, 1) := by decide +kernel
theorem dX12_init_317 : decode cX12_init 317 = .ok (.iadd, 1) := by decide +kernel
theorem dX12_init_318 : decode cX12_init 318 = .ok (.imul, 1) := by decide +kernel
theorem dX12_init_319 : decode cX12_init 319 = .ok (.iload_n 1, 1) := by decide +kernel
theorem dX12_init_320 : decode cX12_init 320 = .ok (.iadd, 1) := by decide +kernel
theorem dX12_init_321 : decode cX12_init 321 = .ok (.iload_n 3, 1) := by decide +kernel
theorem dX12_init_322 : decode cX12_init 322 = .ok (.iadd, 1) := by decide +kernel
theorem dX12_init_323 : decode cX12_init 323 = .ok (.aload_n 0, 1) := by decide +kernel
theorem dX12_init_324 : decode cX12_init 324 = .ok (.getfield 13, 3) := by decide +kernel
theorem dX12_init_327 : decode cX12_init 327 = .ok (.bipush 8, 2) := by decide +kernel
theorem dX12_init_329 : decode cX12_init 329 = .ok (.iload_n 3, 1) := by decide +kernel
theorem dX12_init_330 : decode cX12_init 330 = .ok (.imul, 1) := by decide +kernel
theorem dX12_init_331 : decode cX12_init 331 = .ok (.iload_n 2, 1) := by decide +kernel
theorem dX12_init_332 : decode cX12_init 332 = .ok (.iadd, 1) := by decide +kernel
theorem dX12_init_333 : decode cX12_init 333 = .ok (.iaload, 1) := by decide +kernel
theorem dX12_init_334 : decode cX12_init 334 = .ok (.ineg, 1) := by decide +kernel
theorem dX12_init_335 : decode cX12_init 335 = .ok (.iload 4, 2) := by decide +kernel
theorem dX12_init_337 : decode cX12_init 337 = .ok (.imul, 1) := by decide +kernel
theorem dX12_init_338 : decode cX12_init 338 = .ok (.iastore, 1) := by decide +kernel
theorem dX12_init_339 : decode cX12_init 339 = .ok (.iinc 3 1, 3) := by decide +kernel
theorem dX12_init_342 : decode cX12_init 342 = .ok (.goto (-100), 3) := by decide +kernel
theorem dX12_init_345 : decode cX12_init 345 = .ok (.iinc 2 1, 3) := by decide +kernel
theorem dX12_init_348 : decode cX12_init 348 = .ok (.goto (-113), 3) := by decide +kernel
theorem dX12_init_351 : decode cX12_init 351 = .ok (.iload_n 1, 1) := by decide +kernel
theorem dX12_init_352 : decode cX12_init 352 = .ok (.iconst 2, 1) := by decide +kernel
theorem dX12_init_353 : decode cX12_init 353 = .ok (.imul, 1) := by decide +kernel
theorem dX12_init_354 : decode cX12_init 354 = .ok (.istore_n 1, 1) := by decide +kernel
theorem dX12_init_355 : decode cX12_init 355 = .ok (.goto (-128), 3) := by decide +kernel
theorem dX12_init_358 : decode cX12_init 358 = .ok (.aload_n 0, 1) := by decide +kernel
theorem dX12_init_359 : decode cX12_init 359 = .ok (.getfield 17, 3) := by decide +kernel
theorem dX12_init_362 : decode cX12_init 362 = .ok (.bipush 64, 2) := by decide +kernel
theorem dX12_init_364 : decode cX12_init 364 = .ok (.iconst 2, 1) := by decide +kernel
theorem dX12_init_365 : decode cX12_init 365 = .ok (.iastore, 1) := by decide +kernel
theorem dX12_init_366 : decode cX12_init 366 = .ok (.return_, 1) := by decide +kernel
theorem dX12_isSlot_0 : decode cX12_isSlot 0 = .ok (.iload_n 0, 1) := by decide +kernel
theorem dX12_isSlot_1 : decode cX12_isSlot 1 = .ok (.i2l, 1) := by decide +kernel
theorem dX12_isSlot_2 : decode cX12_isSlot 2 = .ok (.lconst 0, 1) := by decide +kernel
theorem dX12_isSlot_3 : decode cX12_isSlot 3 = .ok (.ldc2_w 93, 3) := by decide +kernel
theorem dX12_isSlot_6 : decode cX12_isSlot 6 = .ok (.invokestatic 95, 3) := by decide +kernel
theorem dX12_isSlot_9 : decode cX12_isSlot 9 = .ok (.ireturn, 1) := by decide +kernel
theorem dX12_isPart_0 : decode cX12_isPart 0 = .ok (.iload_n 0, 1) := by decide +kernel
theorem dX12_isPart_1 : decode cX12_isPart 1 = .ok (.i2l, 1) := by decide +kernel
theorem dX12_isPart_2 : decode cX12_isPart 2 = .ok (.lconst 0, 1) := by decide +kernel
theorem dX12_isPart_3 : decode cX12_isPart 3 = .ok (.ldc2_w 93, 3) := by decide +kernel
theorem dX12_isPart_6 : decode cX12_isPart 6 = .ok (.invokestatic 95, 3) := by decide +kernel
theorem dX12_isPart_9 : decode cX12_isPart 9 = .ok (.ireturn, 1) := by decide +kernel
theorem dX12_becomes_0 : decode cX12_becomes 0 = .ok (.iconst 0, 1) := by decide +kernel
theorem dX12_becomes_1 : decode cX12_becomes 1 = .ok (.istore_n 3, 1) := by decide +kernel
theorem dX12_becomes_2 : decode cX12_becomes 2 = .ok (.iload_n 3, 1) := by decide +kernel
theorem dX12_becomes_3 : decode cX12_becomes 3 = .ok (.bipush 8, 2) := by decide +kernel
theorem dX12_becomes_5 : decode cX12_becomes 5 = .ok (.if_icmp .ge 31, 3) := by decide +kernel
theorem dX12_becomes_8 : decode cX12_becomes 8 = .ok (.aload_n 0, 1) := by decide +kernel
theorem dX12_becomes_9 : decode cX12_becomes 9 = .ok (.getfield 17, 3) := by decide +kernel
theorem dX12_becomes_12 : decode cX12_becomes 12 = .ok (.bipush 8, 2) := by decide +kernel
theorem dX12_becomes_14 : decode cX12_becomes 14 = .ok (.iload_n 1, 1) := by decide +kernel
theorem dX12_becomes_15 : decode cX12_becomes 15 = .ok (.imul, 1) := by decide +kernel
theorem dX12_becomes_16 : decode cX12_becomes 16 = .ok (.iload_n 3, 1) := by decide +kernel
theorem dX12_becomes_17 : decode cX12_becomes 17 = .ok (.iadd, 1) := by decide +kernel
theorem dX12_becomes_18 : decode cX12_becomes 18 = .ok (.aload_n 0, 1) := by decide +kernel
theorem dX12_becomes_19 : decode cX12_becomes 19 = .ok (.getfield 17, 3) := by decide +kernel
theorem dX12_becomes_22 : decode cX12_becomes 22 = .ok (.bipush 8, 2) := by decide +kernel
theorem dX12_becomes_24 : decode cX12_becomes 24 = .ok (.iload_n 2, 1) := by decide +kernel
theorem dX12_becomes_25 : decode cX12_becomes 25 = .ok (.imul, 1) := by decide +kernel
theorem dX12_becomes_26 : decode cX12_becomes 26 = .ok (.iload_n 3, 1) := by decide +kernel
theorem dX12_becomes_27 : decode cX12_becomes 27 = .ok (.iadd, 1) := by decide +kernel
theorem dX12_becomes_28 : decode cX12_becomes 28 = .ok (.iaload, 1) := by decide +kernel
theorem dX12_becomes_29 : decode cX12_becomes 29 = .ok (.iastore, 1) := by decide +kernel
theorem dX12_becomes_30 : decode cX12_becomes 30 = .ok (.iinc 3 1, 3) := by decide +kernel
theorem dX12_becomes_33 : decode cX12_becomes 33 = .ok (.goto (-31), 3) := by decide +kernel
theorem dX12_becomes_36 : decode cX12_becomes 36 = .ok (.return_, 1) := by decide +kernel
theorem dX12_nought_0 : decode cX12_nought 0 = .ok (.iconst 0, 1) := by decide +kernel
theorem dX12_nought_1 : decode cX12_nought 1 = .ok (.istore_n 2, 1) := by decide +kernel
theorem dX12_nought_2 : decode cX12_nought 2 = .ok (.iload_n 2, 1) := by decide +kernel
theorem dX12_nought_3 : decode cX12_nought 3 = .ok (.bipush 8, 2) := by decide +kernel
theorem dX12_nought_5 : decode cX12_nought 5 = .ok (.if_icmp .ge 21, 3) := by decide +kernel
theorem dX12_nought_8 : decode cX12_nought 8 = .ok (.aload_n 0, 1) := by decide +kernel
theorem dX12_nought_9 : decode cX12_nought 9 = .ok (.getfield 17, 3) := by decide +kernel
theorem dX12_nought_12 : decode cX12_nought 12 = .ok (.bipush 8, 2) := by decide +kernel
theorem dX12_nought_14 : decode cX12_nought 14 = .ok (.iload_n 1, 1) := by decide +kernel
theorem dX12_nought_15 : decode cX12_nought 15 = .ok (.imul, 1) := by decide +kernel
theorem dX12_nought_16 : decode cX12_nought 16 = .ok (.iload_n 2, 1) := by decide +kernel
theorem dX12_nought_17 : decode cX12_nought 17 = .ok (.iadd, 1) := by decide +kernel
theorem dX12_nought_18 : decode cX12_nought 18 = .ok (.iconst 0, 1) := by decide +kernel
theorem dX12_nought_19 : decode cX12_nought 19 = .ok (.iastore, 1) := by decide +kernel
theorem dX12_nought_20 : decode cX12_nought 20 = .ok (.iinc 2 1, 3) := by decide +kernel
theorem dX12_nought_23 : decode cX12_nought 23 = .ok (.goto (-21), 3) := by decide +kernel
theorem dX12_nought_26 : decode cX12_nought 26 = .ok (.return_, 1) := by decide +kernel
theorem dX12_areSame_0 : decode cX12_areSame 0 = .ok (.iconst 0, 1) := by decide +kernel
theorem dX12_areSame_1 : decode cX12_areSame 1 = .ok (.istore_n 3, 1) := by decide +kernel
theorem dX12_areSame_2 : decode cX12_areSame 2 = .ok (.iload_n 3, 1) := by decide +kernel
theorem dX12_areSame_3 : decode cX12_areSame 3 = .ok (.bipush 8, 2) := by decide +kernel
theorem dX12_areSame_5 : decode cX12_areSame 5 = .ok (.if_icmp .ge 36, 3) := by decide +kernel
theorem dX12_areSame_8 : decode cX12_areSame 8 = .ok (.aload_n 0, 1) := by decide +kernel
theorem dX12_areSame_9 : decode cX12_areSame 9 = .ok (.getfield 17, 3) := by decide +kernel
theorem dX12_areSame_12 : decode cX12_areSame 12 = .ok (.bipush 8, 2) := by decide +kernel
theorem dX12_areSame_14 : decode cX12_areSame 14 = .ok (.iload_n 1, 1) := by decide +kernel
theorem dX12_areSame_15 : decode cX12_areSame 15 = .ok (.imul, 1) := by decide +kernel
theorem dX12_areSame_16 : decode cX12_areSame 16 = .ok (.iload_n 3, 1) := by decide +kernel
theorem dX12_areSame_17 : decode cX12_areSame 17 = .ok (.iadd, 1) := by decide +kernel
theorem dX12_areSame_18 : decode cX12_areSame 18 = .ok (.iaload, 1) := by decide +kernel
theorem dX12_areSame_19 : decode cX12_areSame 19 = .ok (.aload_n 0, 1) := by decide +kernel
theorem dX12_areSame_20 : decode cX12_areSame 20 = .ok (.getfield 17, 3) := by decide +kernel
theorem dX12_areSame_23 : decode cX12_areSame 23 = .ok (.bipush 8, 2) := by decide +kernel
theorem dX12_areSame_25 : decode cX12_areSame 25 = .ok (.iload_n 2, 1) := by decide +kernel
theorem dX12_areSame_26 : decode cX12_areSame 26 = .ok (.imul, 1) := by decide +kernel
theorem dX12_areSame_27 : decode cX12_areSame 27 = .ok (.iload_n 3, 1) := by decide +kernel
theorem dX12_areSame_28 : decode cX12_areSame 28 = .ok (.iadd, 1) := by decide +kernel
theorem dX12_areSame_29 : decode cX12_areSame 29 = .ok (.iaload, 1) := by decide +kernel
theorem dX12_areSame_30 : decode cX12_areSame 30 = .ok (.if_icmp .eq 5, 3) := by decide +kernel
theorem dX12_areSame_33 : decode cX12_areSame 33 = .ok (.iconst 0, 1) := by decide +kernel
theorem dX12_areSame_34 : decode cX12_areSame 34 = .ok (.ireturn, 1) := by decide +kernel
theorem dX12_areSame_35 : decode cX12_areSame 35 = .ok (.iinc 3 1, 3) := by decide +kernel
theorem dX12_areSame_38 : decode cX12_areSame 38 = .ok (.goto (-36), 3) := by decide +kernel
theorem dX12_areSame_41 : decode cX12_areSame 41 = .ok (.iconst 1, 1) := by decide +kernel
theorem dX12_areSame_42 : decode cX12_areSame 42 = .ok (.ireturn, 1) := by decide +kernel
theorem dX12_isNought_0 : decode cX12_isNought 0 = .ok (.iconst 0, 1) := by decide +kernel
theorem dX12_isNought_1 : decode cX12_isNought 1 = .ok (.istore_n 2, 1) := by decide +kernel
theorem dX12_isNought_2 : decode cX12_isNought 2 = .ok (.iload_n 2, 1) := by decide +kernel
theorem dX12_isNought_3 : decode cX12_isNought 3 = .ok (.bipush 8, 2) := by decide +kernel
theorem dX12_isNought_5 : decode cX12_isNought 5 = .ok (.if_icmp .ge 25, 3) := by decide +kernel
theorem dX12_isNought_8 : decode cX12_isNought 8 = .ok (.aload_n 0, 1) := by decide +kernel
theorem dX12_isNought_9 : decode cX12_isNought 9 = .ok (.getfield 17, 3) := by decide +kernel
theorem dX12_isNought_12 : decode cX12_isNought 12 = .ok (.bipush 8, 2) := by decide +kernel
theorem dX12_isNought_14 : decode cX12_isNought 14 = .ok (.iload_n 1, 1) := by decide +kernel
theorem dX12_isNought_15 : decode cX12_isNought 15 = .ok (.imul, 1) := by decide +kernel
theorem dX12_isNought_16 : decode cX12_isNought 16 = .ok (.iload_n 2, 1) := by decide +kernel
theorem dX12_isNought_17 : decode cX12_isNought 17 = .ok (.iadd, 1) := by decide +kernel
theorem dX12_isNought_18 : decode cX12_isNought 18 = .ok (.iaload, 1) := by decide +kernel
theorem dX12_isNought_19 : decode cX12_isNought 19 = .ok (.ifCond .eq 5, 3) := by decide +kernel
theorem dX12_isNought_22 : decode cX12_isNought 22 = .ok (.iconst 0, 1) := by decide +kernel
theorem dX12_isNought_23 : decode cX12_isNought 23 = .ok (.ireturn, 1) := by decide +kernel
theorem dX12_isNought_24 : decode cX12_isNought 24 = .ok (.iinc 2 1, 3) := by decide +kernel
theorem dX12_isNought_27 : decode cX12_isNought 27 = .ok (.goto (-25), 3) := by decide +kernel
theorem dX12_isNought_30 : decode cX12_isNought 30 = .ok (.iconst 1, 1) := by decide +kernel
theorem dX12_isNought_31 : decode cX12_isNought 31 = .ok (.ireturn, 1) := by decide +kernel
theorem dX12_comes_0 : decode cX12_comes 0 = .ok (.iconst 0, 1) := by decide +kernel
theorem dX12_comes_1 : decode cX12_comes 1 = .ok (.istore_n 2, 1) := by decide +kernel
theorem dX12_comes_2 : decode cX12_comes 2 = .ok (.iload_n 2, 1) := by decide +kernel
theorem dX12_comes_3 : decode cX12_comes 3 = .ok (.bipush 8, 2) := by decide +kernel
theorem dX12_comes_5 : decode cX12_comes 5 = .ok (.if_icmp .ge 29, 3) := by decide +kernel
theorem dX12_comes_8 : decode cX12_comes 8 = .ok (.aload_n 0, 1) := by decide +kernel
theorem dX12_comes_9 : decode cX12_comes 9 = .ok (.getfield 20, 3) := by decide +kernel
theorem dX12_comes_12 : decode cX12_comes 12 = .ok (.iload_n 2, 1) := by decide +kernel
theorem dX12_comes_13 : decode cX12_comes 13 = .ok (.laload, 1) := by decide +kernel
theorem dX12_comes_14 : decode cX12_comes 14 = .ok (.ldc2_w 99, 3) := by decide +kernel
theorem dX12_comes_17 : decode cX12_comes 17 = .ok (.ldc2_w 101, 3) := by decide +kernel
theorem dX12_comes_20 : decode cX12_comes 20 = .ok (.invokestatic 95, 3) := by decide +kernel
theorem dX12_comes_23 : decode cX12_comes 23 = .ok (.ifCond .ne 5, 3) := by decide +kernel
theorem dX12_comes_26 : decode cX12_comes 26 = .ok (.iconst 0, 1) := by decide +kernel
theorem dX12_comes_27 : decode cX12_comes 27 = .ok (.ireturn, 1) := by decide +kernel
theorem dX12_comes_28 : decode cX12_comes 28 = .ok (.iinc 2 1, 3) := by decide +kernel
theorem dX12_comes_31 : decode cX12_comes 31 = .ok (.goto (-29), 3) := by decide +kernel
theorem dX12_comes_34 : decode cX12_comes 34 = .ok (.iconst 0, 1) := by decide +kernel
theorem dX12_comes_35 : decode cX12_comes 35 = .ok (.istore_n 2, 1) := by decide +kernel
theorem dX12_comes_36 : decode cX12_comes 36 = .ok (.iload_n 2, 1) := by decide +kernel
theorem dX12_comes_37 : decode cX12_comes 37 = .ok (.bipush 8, 2) := by decide +kernel
theorem dX12_comes_39 : decode cX12_comes 39 = .ok (.if_icmp .ge 27, 3) := by decide +kernel
theorem dX12_comes_42 : decode cX12_comes 42 = .ok (.aload_n 0, 1) := by decide +kernel
theorem dX12_comes_43 : decode cX12_comes 43 = .ok (.getfield 17, 3) := by decide +kernel
theorem dX12_comes_46 : decode cX12_comes 46 = .ok (.bipush 8, 2) := by decide +kernel
theorem dX12_comes_48 : decode cX12_comes 48 = .ok (.iload_n 1, 1) := by decide +kernel
theorem dX12_comes_49 : decode cX12_comes 49 = .ok (.imul, 1) := by decide +kernel
theorem dX12_comes_50 : decode cX12_comes 50 = .ok (.iload_n 2, 1) := by decide +kernel
theorem dX12_comes_51 : decode cX12_comes 51 = .ok (.iadd, 1) := by decide +kernel
theorem dX12_comes_52 : decode cX12_comes 52 = .ok (.aload_n 0, 1) := by decide +kernel
theorem dX12_comes_53 : decode cX12_comes 53 = .ok (.getfield 20, 3) := by decide +kernel
theorem dX12_comes_56 : decode cX12_comes 56 = .ok (.iload_n 2, 1) := by decide +kernel
theorem dX12_comes_57 : decode cX12_comes 57 = .ok (.laload, 1) := by decide +kernel
theorem dX12_comes_58 : decode cX12_comes 58 = .ok (.l2i, 1) := by decide +kernel
theorem dX12_comes_59 : decode cX12_comes 59 = .ok (.iastore, 1) := by decide +kernel
theorem dX12_comes_60 : decode cX12_comes 60 = .ok (.iinc 2 1, 3) := by decide +kernel
theorem dX12_comes_63 : decode cX12_comes 63 = .ok (.goto (-27), 3) := by decide +kernel
theorem dX12_comes_66 : decode cX12_comes 66 = .ok (.iconst 1, 1) := by decide +kernel
theorem dX12_comes_67 : decode cX12_comes 67 = .ok (.ireturn, 1) := by decide +kernel
theorem dX12_isProduct_0 : decode cX12_isProduct 0 = .ok (.iconst 0, 1) := by decide +kernel
theorem dX12_isProduct_1 : decode cX12_isProduct 1 = .ok (.istore 5, 2) := by decide +kernel
theorem dX12_isProduct_3 : decode cX12_isProduct 3 = .ok (.iload 5, 2) := by decide +kernel
theorem dX12_isProduct_5 : decode cX12_isProduct 5 = .ok (.bipush 8, 2) := by decide +kernel
theorem dX12_isProduct_7 : decode cX12_isProduct 7 = .ok (.if_icmp .ge 17, 3) := by decide +kernel
theorem dX12_isProduct_10 : decode cX12_isProduct 10 = .ok (.aload_n 0, 1) := by decide +kernel
theorem dX12_isProduct_11 : decode cX12_isProduct 11 = .ok (.getfield 20, 3) := by decide +kernel
theorem dX12_isProduct_14 : decode cX12_isProduct 14 = .ok (.iload 5, 2) := by decide +kernel
theorem dX12_isProduct_16 : decode cX12_isProduct 16 = .ok (.lconst 0, 1) := by decide +kernel
theorem dX12_isProduct_17 : decode cX12_isProduct 17 = .ok (.lastore, 1) := by decide +kernel
theorem dX12_isProduct_18 : decode cX12_isProduct 18 = .ok (.iinc 5 1, 3) := by decide +kernel
theorem dX12_isProduct_21 : decode cX12_isProduct 21 = .ok (.goto (-18), 3) := by decide +kernel
theorem dX12_isProduct_24 : decode cX12_isProduct 24 = .ok (.iconst 0, 1) := by decide +kernel
theorem dX12_isProduct_25 : decode cX12_isProduct 25 = .ok (.istore 5, 2) := by decide +kernel
theorem dX12_isProduct_27 : decode cX12_isProduct 27 = .ok (.iload 5, 2) := by decide +kernel
theorem dX12_isProduct_29 : decode cX12_isProduct 29 = .ok (.bipush 8, 2) := by decide +kernel
theorem dX12_isProduct_31 : decode cX12_isProduct 31 = .ok (.if_icmp .ge 113, 3) := by decide +kernel
theorem dX12_isProduct_34 : decode cX12_isProduct 34 = .ok (.iconst 0, 1) := by decide +kernel
theorem dX12_isProduct_35 : decode cX12_isProduct 35 = .ok (.istore 6, 2) := by decide +kernel
theorem dX12_isProduct_37 : decode cX12_isProduct 37 = .ok (.iload 6, 2) := by decide +kernel
theorem dX12_isProduct_39 : decode cX12_isProduct 39 = .ok (.bipush 8, 2) := by decide +kernel
theorem dX12_isProduct_41 : decode cX12_isProduct 41 = .ok (.if_icmp .ge 97, 3) := by decide +kernel
theorem dX12_isProduct_44 : decode cX12_isProduct 44 = .ok (.aload_n 0, 1) := by decide +kernel
theorem dX12_isProduct_45 : decode cX12_isProduct 45 = .ok (.getfield 17, 3) := by decide +kernel
theorem dX12_isProduct_48 : decode cX12_isProduct 48 = .ok (.bipush 8, 2) := by decide +kernel
theorem dX12_isProduct_50 : decode cX12_isProduct 50 = .ok (.iload_n 1, 1) := by decide +kernel
theorem dX12_isProduct_51 : decode cX12_isProduct 51 = .ok (.imul, 1) := by decide +kernel
theorem dX12_isProduct_52 : decode cX12_isProduct 52 = .ok (.iload 5, 2) := by decide +kernel
theorem dX12_isProduct_54 : decode cX12_isProduct 54 = .ok (.iadd, 1) := by decide +kernel
theorem dX12_isProduct_55 : decode cX12_isProduct 55 = .ok (.iaload, 1) := by decide +kernel
theorem dX12_isProduct_56 : decode cX12_isProduct 56 = .ok (.i2l, 1) := by decide +kernel
theorem dX12_isProduct_57 : decode cX12_isProduct 57 = .ok (.aload_n 0, 1) := by decide +kernel
theorem dX12_isProduct_58 : decode cX12_isProduct 58 = .ok (.getfield 17, 3) := by decide +kernel
theorem dX12_isProduct_61 : decode cX12_isProduct 61 = .ok (.bipush 8, 2) := by decide +kernel
theorem dX12_isProduct_63 : decode cX12_isProduct 63 = .ok (.iload_n 2, 1) := by decide +kernel
theorem dX12_isProduct_64 : decode cX12_isProduct 64 = .ok (.imul, 1) := by decide +kernel
theorem dX12_isProduct_65 : decode cX12_isProduct 65 = .ok (.iload 6, 2) := by decide +kernel
theorem dX12_isProduct_67 : decode cX12_isProduct 67 = .ok (.iadd, 1) := by decide +kernel
theorem dX12_isProduct_68 : decode cX12_isProduct 68 = .ok (.iaload, 1) := by decide +kernel
theorem dX12_isProduct_69 : decode cX12_isProduct 69 = .ok (.i2l, 1) := by decide +kernel
theorem dX12_isProduct_70 : decode cX12_isProduct 70 = .ok (.lmul, 1) := by decide +kernel
theorem dX12_isProduct_71 : decode cX12_isProduct 71 = .ok (.aload_n 0, 1) := by decide +kernel
theorem dX12_isProduct_72 : decode cX12_isProduct 72 = .ok (.getfield 13, 3) := by decide +kernel
theorem dX12_isProduct_75 : decode cX12_isProduct 75 = .ok (.bipush 8, 2) := by decide +kernel
theorem dX12_isProduct_77 : decode cX12_isProduct 77 = .ok (.iload 5, 2) := by decide +kernel
theorem dX12_isProduct_79 : decode cX12_isProduct 79 = .ok (.imul, 1) := by decide +kernel
theorem dX12_isProduct_80 : decode cX12_isProduct 80 = .ok (.iload 6, 2) := by decide +kernel
theorem dX12_isProduct_82 : decode cX12_isProduct 82 = .ok (.iadd, 1) := by decide +kernel
theorem dX12_isProduct_83 : decode cX12_isProduct 83 = .ok (.iaload, 1) := by decide +kernel
theorem dX12_isProduct_84 : decode cX12_isProduct 84 = .ok (.i2l, 1) := by decide +kernel
theorem dX12_isProduct_85 : decode cX12_isProduct 85 = .ok (.lmul, 1) := by decide +kernel
theorem dX12_isProduct_86 : decode cX12_isProduct 86 = .ok (.lstore 7, 2) := by decide +kernel
theorem dX12_isProduct_88 : decode cX12_isProduct 88 = .ok (.iload_n 3, 1) := by decide +kernel
theorem dX12_isProduct_89 : decode cX12_isProduct 89 = .ok (.ifCond .eq 13, 3) := by decide +kernel
theorem dX12_isProduct_92 : decode cX12_isProduct 92 = .ok (.iload 5, 2) := by decide +kernel
theorem dX12_isProduct_94 : decode cX12_isProduct 94 = .ok (.ifCond .le 8, 3) := by decide +kernel
theorem dX12_isProduct_97 : decode cX12_isProduct 97 = .ok (.lload 7, 2) := by decide +kernel
theorem dX12_isProduct_99 : decode cX12_isProduct 99 = .ok (.lneg, 1) := by decide +kernel
theorem dX12_isProduct_100 : decode cX12_isProduct 100 = .ok (.lstore 7, 2) := by decide +kernel
theorem dX12_isProduct_102 : decode cX12_isProduct 102 = .ok (.iload 4, 2) := by decide +kernel
theorem dX12_isProduct_104 : decode cX12_isProduct 104 = .ok (.ifCond .eq 13, 3) := by decide +kernel
theorem dX12_isProduct_107 : decode cX12_isProduct 107 = .ok (.iload 6, 2) := by decide +kernel
theorem dX12_isProduct_109 : decode cX12_isProduct 109 = .ok (.ifCond .le 8, 3) := by decide +kernel
theorem dX12_isProduct_112 : decode cX12_isProduct 112 = .ok (.lload 7, 2) := by decide +kernel
theorem dX12_isProduct_114 : decode cX12_isProduct 114 = .ok (.lneg, 1) := by decide +kernel
theorem dX12_isProduct_115 : decode cX12_isProduct 115 = .ok (.lstore 7, 2) := by decide +kernel
theorem dX12_isProduct_117 : decode cX12_isProduct 117 = .ok (.aload_n 0, 1) := by decide +kernel
theorem dX12_isProduct_118 : decode cX12_isProduct 118 = .ok (.getfield 20, 3) := by decide +kernel
theorem dX12_isProduct_121 : decode cX12_isProduct 121 = .ok (.iload 5, 2) := by decide +kernel
theorem dX12_isProduct_123 : decode cX12_isProduct 123 = .ok (.iload 6, 2) := by decide +kernel
theorem dX12_isProduct_125 : decode cX12_isProduct 125 = .ok (.ixor, 1) := by decide +kernel
theorem dX12_isProduct_126 : decode cX12_isProduct 126 = .ok (.dup2, 1) := by decide +kernel
theorem dX12_isProduct_127 : decode cX12_isProduct 127 = .ok (.laload, 1) := by decide +kernel
theorem dX12_isProduct_128 : decode cX12_isProduct 128 = .ok (.lload 7, 2) := by decide +kernel
theorem dX12_isProduct_130 : decode cX12_isProduct 130 = .ok (.ladd, 1) := by decide +kernel
theorem dX12_isProduct_131 : decode cX12_isProduct 131 = .ok (.lastore, 1) := by decide +kernel
theorem dX12_isProduct_132 : decode cX12_isProduct 132 = .ok (.iinc 6 1, 3) := by decide +kernel
theorem dX12_isProduct_135 : decode cX12_isProduct 135 = .ok (.goto (-98), 3) := by decide +kernel
theorem dX12_isProduct_138 : decode cX12_isProduct 138 = .ok (.iinc 5 1, 3) := by decide +kernel
theorem dX12_isProduct_141 : decode cX12_isProduct 141 = .ok (.goto (-114), 3) := by decide +kernel
theorem dX12_isProduct_144 : decode cX12_isProduct 144 = .ok (.iconst 1, 1) := by decide +kernel
theorem dX12_isProduct_145 : decode cX12_isProduct 145 = .ok (.istore 5, 2) := by decide +kernel
theorem dX12_isProduct_147 : decode cX12_isProduct 147 = .ok (.iconst 0, 1) := by decide +kernel
theorem dX12_isProduct_148 : decode cX12_isProduct 148 = .ok (.istore 6, 2) := by decide +kernel
theorem dX12_isProduct_150 : decode cX12_isProduct 150 = .ok (.iload 6, 2) := by decide +kernel
theorem dX12_isProduct_152 : decode cX12_isProduct 152 = .ok (.bipush 8, 2) := by decide +kernel
theorem dX12_isProduct_154 : decode cX12_isProduct 154 = .ok (.if_icmp .ge 50, 3) := by decide +kernel
theorem dX12_isProduct_157 : decode cX12_isProduct 157 = .ok (.iload 5, 2) := by decide +kernel
theorem dX12_isProduct_159 : decode cX12_isProduct 159 = .ok (.ifCond .eq 23, 3) := by decide +kernel
theorem dX12_isProduct_162 : decode cX12_isProduct 162 = .ok (.aload_n 0, 1) := by decide +kernel
theorem dX12_isProduct_163 : decode cX12_isProduct 163 = .ok (.getfield 20, 3) := by decide +kernel
theorem dX12_isProduct_166 : decode cX12_isProduct 166 = .ok (.iload 6, 2) := by decide +kernel
theorem dX12_isProduct_168 : decode cX12_isProduct 168 = .ok (.laload, 1) := by decide +kernel
theorem dX12_isProduct_169 : decode cX12_isProduct 169 = .ok (.ldc2_w 103, 3) := by decide +kernel
theorem dX12_isProduct_172 : decode cX12_isProduct 172 = .ok (.lrem, 1) := by decide +kernel
theorem dX12_isProduct_173 : decode cX12_isProduct 173 = .ok (.lconst 0, 1) := by decide +kernel
theorem dX12_isProduct_174 : decode cX12_isProduct 174 = .ok (.lcmp, 1) := by decide +kernel
theorem dX12_isProduct_175 : decode cX12_isProduct 175 = .ok (.ifCond .ne 7, 3) := by decide +kernel
theorem dX12_isProduct_178 : decode cX12_isProduct 178 = .ok (.iconst 1, 1) := by decide +kernel
theorem dX12_isProduct_179 : decode cX12_isProduct 179 = .ok (.goto 4, 3) := by decide +kernel
theorem dX12_isProduct_182 : decode cX12_isProduct 182 = .ok (.iconst 0, 1) := by decide +kernel
theorem dX12_isProduct_183 : decode cX12_isProduct 183 = .ok (.istore 5, 2) := by decide +kernel
theorem dX12_isProduct_185 : decode cX12_isProduct 185 = .ok (.aload_n 0, 1) := by decide +kernel
theorem dX12_isProduct_186 : decode cX12_isProduct 186 = .ok (.getfield 20, 3) := by decide +kernel
theorem dX12_isProduct_189 : decode cX12_isProduct 189 = .ok (.iload 6, 2) := by decide +kernel
theorem dX12_isProduct_191 : decode cX12_isProduct 191 = .ok (.dup2, 1) := by decide +kernel
theorem dX12_isProduct_192 : decode cX12_isProduct 192 = .ok (.laload, 1) := by decide +kernel
theorem dX12_isProduct_193 : decode cX12_isProduct 193 = .ok (.ldc2_w 103, 3) := by decide +kernel
theorem dX12_isProduct_196 : decode cX12_isProduct 196 = .ok (.ldiv, 1) := by decide +kernel
theorem dX12_isProduct_197 : decode cX12_isProduct 197 = .ok (.lastore, 1) := by decide +kernel
theorem dX12_isProduct_198 : decode cX12_isProduct 198 = .ok (.iinc 6 1, 3) := by decide +kernel
theorem dX12_isProduct_201 : decode cX12_isProduct 201 = .ok (.goto (-51), 3) := by decide +kernel
theorem dX12_isProduct_204 : decode cX12_isProduct 204 = .ok (.iload 5, 2) := by decide +kernel
theorem dX12_isProduct_206 : decode cX12_isProduct 206 = .ok (.ireturn, 1) := by decide +kernel
theorem dX12_multiplies_0 : decode cX12_multiplies 0 = .ok (.aload_n 0, 1) := by decide +kernel
theorem dX12_multiplies_1 : decode cX12_multiplies 1 = .ok (.iload_n 2, 1) := by decide +kernel
theorem dX12_multiplies_2 : decode cX12_multiplies 2 = .ok (.iload_n 3, 1) := by decide +kernel
theorem dX12_multiplies_3 : decode cX12_multiplies 3 = .ok (.iconst 0, 1) := by decide +kernel
theorem dX12_multiplies_4 : decode cX12_multiplies 4 = .ok (.iconst 0, 1) := by decide +kernel
theorem dX12_multiplies_5 : decode cX12_multiplies 5 = .ok (.invokevirtual 105, 3) := by decide +kernel
theorem dX12_multiplies_8 : decode cX12_multiplies 8 = .ok (.ifCond .eq 15, 3) := by decide +kernel
theorem dX12_multiplies_11 : decode cX12_multiplies 11 = .ok (.aload_n 0, 1) := by decide +kernel
theorem dX12_multiplies_12 : decode cX12_multiplies 12 = .ok (.iload_n 1, 1) := by decide +kernel
theorem dX12_multiplies_13 : decode cX12_multiplies 13 = .ok (.invokevirtual 109, 3) := by decide +kernel
theorem dX12_multiplies_16 : decode cX12_multiplies 16 = .ok (.ifCond .eq 7, 3) := by decide +kernel
theorem dX12_multiplies_19 : decode cX12_multiplies 19 = .ok (.iconst 1, 1) := by decide +kernel
theorem dX12_multiplies_20 : decode cX12_multiplies 20 = .ok (.goto 4, 3) := by decide +kernel
theorem dX12_multiplies_23 : decode cX12_multiplies 23 = .ok (.iconst 0, 1) := by decide +kernel
theorem dX12_multiplies_24 : decode cX12_multiplies 24 = .ok (.ireturn, 1) := by decide +kernel
theorem dX12_adds_0 : decode cX12_adds 0 = .ok (.iconst 0, 1) := by decide +kernel
theorem dX12_adds_1 : decode cX12_adds 1 = .ok (.istore 5, 2) := by decide +kernel
theorem dX12_adds_3 : decode cX12_adds 3 = .ok (.iload 5, 2) := by decide +kernel
theorem dX12_adds_5 : decode cX12_adds 5 = .ok (.bipush 8, 2) := by decide +kernel
theorem dX12_adds_7 : decode cX12_adds 7 = .ok (.if_icmp .ge 45, 3) := by decide +kernel
theorem dX12_adds_10 : decode cX12_adds 10 = .ok (.aload_n 0, 1) := by decide +kernel
theorem dX12_adds_11 : decode cX12_adds 11 = .ok (.getfield 20, 3) := by decide +kernel
theorem dX12_adds_14 : decode cX12_adds 14 = .ok (.iload 5, 2) := by decide +kernel
theorem dX12_adds_16 : decode cX12_adds 16 = .ok (.aload_n 0, 1) := by decide +kernel
theorem dX12_adds_17 : decode cX12_adds 17 = .ok (.getfield 17, 3) := by decide +kernel
theorem dX12_adds_20 : decode cX12_adds 20 = .ok (.bipush 8, 2) := by decide +kernel
theorem dX12_adds_22 : decode cX12_adds 22 = .ok (.iload_n 2, 1) := by decide +kernel
theorem dX12_adds_23 : decode cX12_adds 23 = .ok (.imul, 1) := by decide +kernel
theorem dX12_adds_24 : decode cX12_adds 24 = .ok (.iload 5, 2) := by decide +kernel
theorem dX12_adds_26 : decode cX12_adds 26 = .ok (.iadd, 1) := by decide +kernel
theorem dX12_adds_27 : decode cX12_adds 27 = .ok (.iaload, 1) := by decide +kernel
theorem dX12_adds_28 : decode cX12_adds 28 = .ok (.iload 4, 2) := by decide +kernel
theorem dX12_adds_30 : decode cX12_adds 30 = .ok (.aload_n 0, 1) := by decide +kernel
theorem dX12_adds_31 : decode cX12_adds 31 = .ok (.getfield 17, 3) := by decide +kernel
theorem dX12_adds_34 : decode cX12_adds 34 = .ok (.bipush 8, 2) := by decide +kernel
theorem dX12_adds_36 : decode cX12_adds 36 = .ok (.iload_n 3, 1) := by decide +kernel
theorem dX12_adds_37 : decode cX12_adds 37 = .ok (.imul, 1) := by decide +kernel
theorem dX12_adds_38 : decode cX12_adds 38 = .ok (.iload 5, 2) := by decide +kernel
theorem dX12_adds_40 : decode cX12_adds 40 = .ok (.iadd, 1) := by decide +kernel
theorem dX12_adds_41 : decode cX12_adds 41 = .ok (.iaload, 1) := by decide +kernel
theorem dX12_adds_42 : decode cX12_adds 42 = .ok (.imul, 1) := by decide +kernel
theorem dX12_adds_43 : decode cX12_adds 43 = .ok (.iadd, 1) := by decide +kernel
theorem dX12_adds_44 : decode cX12_adds 44 = .ok (.i2l, 1) := by decide +kernel
theorem dX12_adds_45 : decode cX12_adds 45 = .ok (.lastore, 1) := by decide +kernel
theorem dX12_adds_46 : decode cX12_adds 46 = .ok (.iinc 5 1, 3) := by decide +kernel
theorem dX12_adds_49 : decode cX12_adds 49 = .ok (.goto (-46), 3) := by decide +kernel
theorem dX12_adds_52 : decode cX12_adds 52 = .ok (.aload_n 0, 1) := by decide +kernel
theorem dX12_adds_53 : decode cX12_adds 53 = .ok (.iload_n 1, 1) := by decide +kernel
theorem dX12_adds_54 : decode cX12_adds 54 = .ok (.invokevirtual 109, 3) := by decide +kernel
theorem dX12_adds_57 : decode cX12_adds 57 = .ok (.ireturn, 1) := by decide +kernel
theorem dX12_mirrors_0 : decode cX12_mirrors 0 = .ok (.iconst 0, 1) := by decide +kernel
theorem dX12_mirrors_1 : decode cX12_mirrors 1 = .ok (.istore_n 3, 1) := by decide +kernel
theorem dX12_mirrors_2 : decode cX12_mirrors 2 = .ok (.iload_n 3, 1) := by decide +kernel
theorem dX12_mirrors_3 : decode cX12_mirrors 3 = .ok (.bipush 8, 2) := by decide +kernel
theorem dX12_mirrors_5 : decode cX12_mirrors 5 = .ok (.if_icmp .ge 48, 3) := by decide +kernel
theorem dX12_mirrors_8 : decode cX12_mirrors 8 = .ok (.aload_n 0, 1) := by decide +kernel
theorem dX12_mirrors_9 : decode cX12_mirrors 9 = .ok (.getfield 17, 3) := by decide +kernel
theorem dX12_mirrors_12 : decode cX12_mirrors 12 = .ok (.bipush 8, 2) := by decide +kernel
theorem dX12_mirrors_14 : decode cX12_mirrors 14 = .ok (.iload_n 1, 1) := by decide +kernel
theorem dX12_mirrors_15 : decode cX12_mirrors 15 = .ok (.imul, 1) := by decide +kernel
theorem dX12_mirrors_16 : decode cX12_mirrors 16 = .ok (.iload_n 3, 1) := by decide +kernel
theorem dX12_mirrors_17 : decode cX12_mirrors 17 = .ok (.iadd, 1) := by decide +kernel
theorem dX12_mirrors_18 : decode cX12_mirrors 18 = .ok (.iload_n 3, 1) := by decide +kernel
theorem dX12_mirrors_19 : decode cX12_mirrors 19 = .ok (.ifCond .ne 15, 3) := by decide +kernel
theorem dX12_mirrors_22 : decode cX12_mirrors 22 = .ok (.aload_n 0, 1) := by decide +kernel
theorem dX12_mirrors_23 : decode cX12_mirrors 23 = .ok (.getfield 17, 3) := by decide +kernel
theorem dX12_mirrors_26 : decode cX12_mirrors 26 = .ok (.bipush 8, 2) := by decide +kernel
theorem dX12_mirrors_28 : decode cX12_mirrors 28 = .ok (.iload_n 2, 1) := by decide +kernel
theorem dX12_mirrors_29 : decode cX12_mirrors 29 = .ok (.imul, 1) := by decide +kernel
theorem dX12_mirrors_30 : decode cX12_mirrors 30 = .ok (.iaload, 1) := by decide +kernel
theorem dX12_mirrors_31 : decode cX12_mirrors 31 = .ok (.goto 15, 3) := by decide +kernel
theorem dX12_mirrors_34 : decode cX12_mirrors 34 = .ok (.aload_n 0, 1) := by decide +kernel
theorem dX12_mirrors_35 : decode cX12_mirrors 35 = .ok (.getfield 17, 3) := by decide +kernel
theorem dX12_mirrors_38 : decode cX12_mirrors 38 = .ok (.bipush 8, 2) := by decide +kernel
theorem dX12_mirrors_40 : decode cX12_mirrors 40 = .ok (.iload_n 2, 1) := by decide +kernel
theorem dX12_mirrors_41 : decode cX12_mirrors 41 = .ok (.imul, 1) := by decide +kernel
theorem dX12_mirrors_42 : decode cX12_mirrors 42 = .ok (.iload_n 3, 1) := by decide +kernel
theorem dX12_mirrors_43 : decode cX12_mirrors 43 = .ok (.iadd, 1) := by decide +kernel
theorem dX12_mirrors_44 : decode cX12_mirrors 44 = .ok (.iaload, 1) := by decide +kernel
theorem dX12_mirrors_45 : decode cX12_mirrors 45 = .ok (.ineg, 1) := by decide +kernel
theorem dX12_mirrors_46 : decode cX12_mirrors 46 = .ok (.iastore, 1) := by decide +kernel
theorem dX12_mirrors_47 : decode cX12_mirrors 47 = .ok (.iinc 3 1, 3) := by decide +kernel
theorem dX12_mirrors_50 : decode cX12_mirrors 50 = .ok (.goto (-48), 3) := by decide +kernel
theorem dX12_mirrors_53 : decode cX12_mirrors 53 = .ok (.return_, 1) := by decide +kernel
theorem dX12_normOf_0 : decode cX12_normOf 0 = .ok (.lconst 0, 1) := by decide +kernel
theorem dX12_normOf_1 : decode cX12_normOf 1 = .ok (.lstore_n 2, 1) := by decide +kernel
theorem dX12_normOf_2 : decode cX12_normOf 2 = .ok (.iconst 0, 1) := by decide +kernel
theorem dX12_normOf_3 : decode cX12_normOf 3 = .ok (.istore 4, 2) := by decide +kernel
theorem dX12_normOf_5 : decode cX12_normOf 5 = .ok (.iload 4, 2) := by decide +kernel
theorem dX12_normOf_7 : decode cX12_normOf 7 = .ok (.bipush 8, 2) := by decide +kernel
theorem dX12_normOf_9 : decode cX12_normOf 9 = .ok (.if_icmp .ge 39, 3) := by decide +kernel
theorem dX12_normOf_12 : decode cX12_normOf 12 = .ok (.lload_n 2, 1) := by decide +kernel
theorem dX12_normOf_13 : decode cX12_normOf 13 = .ok (.aload_n 0, 1) := by decide +kernel
theorem dX12_normOf_14 : decode cX12_normOf 14 = .ok (.getfield 17, 3) := by decide +kernel
theorem dX12_normOf_17 : decode cX12_normOf 17 = .ok (.bipush 8, 2) := by decide +kernel
theorem dX12_normOf_19 : decode cX12_normOf 19 = .ok (.iload_n 1, 1) := by decide +kernel
theorem dX12_normOf_20 : decode cX12_normOf 20 = .ok (.imul, 1) := by decide +kernel
theorem dX12_normOf_21 : decode cX12_normOf 21 = .ok (.iload 4, 2) := by decide +kernel
theorem dX12_normOf_23 : decode cX12_normOf 23 = .ok (.iadd, 1) := by decide +kernel
theorem dX12_normOf_24 : decode cX12_normOf 24 = .ok (.iaload, 1) := by decide +kernel
theorem dX12_normOf_25 : decode cX12_normOf 25 = .ok (.i2l, 1) := by decide +kernel
theorem dX12_normOf_26 : decode cX12_normOf 26 = .ok (.aload_n 0, 1) := by decide +kernel
theorem dX12_normOf_27 : decode cX12_normOf 27 = .ok (.getfield 17, 3) := by decide +kernel
theorem dX12_normOf_30 : decode cX12_normOf 30 = .ok (.bipush 8, 2) := by decide +kernel
theorem dX12_normOf_32 : decode cX12_normOf 32 = .ok (.iload_n 1, 1) := by decide +kernel
theorem dX12_normOf_33 : decode cX12_normOf 33 = .ok (.imul, 1) := by decide +kernel
theorem dX12_normOf_34 : decode cX12_normOf 34 = .ok (.iload 4, 2) := by decide +kernel
theorem dX12_normOf_36 : decode cX12_normOf 36 = .ok (.iadd, 1) := by decide +kernel
theorem dX12_normOf_37 : decode cX12_normOf 37 = .ok (.iaload, 1) := by decide +kernel
theorem dX12_normOf_38 : decode cX12_normOf 38 = .ok (.i2l, 1) := by decide +kernel
theorem dX12_normOf_39 : decode cX12_normOf 39 = .ok (.lmul, 1) := by decide +kernel
theorem dX12_normOf_40 : decode cX12_normOf 40 = .ok (.ladd, 1) := by decide +kernel
theorem dX12_normOf_41 : decode cX12_normOf 41 = .ok (.lstore_n 2, 1) := by decide +kernel
theorem dX12_normOf_42 : decode cX12_normOf 42 = .ok (.iinc 4 1, 3) := by decide +kernel
theorem dX12_normOf_45 : decode cX12_normOf 45 = .ok (.goto (-40), 3) := by decide +kernel
theorem dX12_normOf_48 : decode cX12_normOf 48 = .ok (.lload_n 2, 1) := by decide +kernel
theorem dX12_normOf_49 : decode cX12_normOf 49 = .ok (.lreturn, 1) := by decide +kernel
theorem dX12_held_0 : decode cX12_held 0 = .ok (.lload_n 0, 1) := by decide +kernel
theorem dX12_held_1 : decode cX12_held 1 = .ok (.ldc2_w 113, 3) := by decide +kernel
theorem dX12_held_4 : decode cX12_held 4 = .ok (.lcmp, 1) := by decide +kernel
theorem dX12_held_5 : decode cX12_held 5 = .ok (.ifCond .le 9, 3) := by decide +kernel
theorem dX12_held_8 : decode cX12_held 8 = .ok (.ldc2_w 113, 3) := by decide +kernel
theorem dX12_held_11 : decode cX12_held 11 = .ok (.goto 18, 3) := by decide +kernel
theorem dX12_held_14 : decode cX12_held 14 = .ok (.lload_n 0, 1) := by decide +kernel
theorem dX12_held_15 : decode cX12_held 15 = .ok (.ldc2_w 115, 3) := by decide +kernel
theorem dX12_held_18 : decode cX12_held 18 = .ok (.lcmp, 1) := by decide +kernel
theorem dX12_held_19 : decode cX12_held 19 = .ok (.ifCond .ge 9, 3) := by decide +kernel
theorem dX12_held_22 : decode cX12_held 22 = .ok (.ldc2_w 115, 3) := by decide +kernel
theorem dX12_held_25 : decode cX12_held 25 = .ok (.goto 4, 3) := by decide +kernel
theorem dX12_held_28 : decode cX12_held 28 = .ok (.lload_n 0, 1) := by decide +kernel
theorem dX12_held_29 : decode cX12_held 29 = .ok (.l2i, 1) := by decide +kernel
theorem dX12_held_30 : decode cX12_held 30 = .ok (.ireturn, 1) := by decide +kernel
theorem dX12_oddOf_0 : decode cX12_oddOf 0 = .ok (.iconst 0, 1) := by decide +kernel
theorem dX12_oddOf_1 : decode cX12_oddOf 1 = .ok (.istore_n 2, 1) := by decide +kernel
theorem dX12_oddOf_2 : decode cX12_oddOf 2 = .ok (.iconst 0, 1) := by decide +kernel
theorem dX12_oddOf_3 : decode cX12_oddOf 3 = .ok (.istore_n 3, 1) := by decide +kernel
theorem dX12_oddOf_4 : decode cX12_oddOf 4 = .ok (.iload_n 3, 1) := by decide +kernel
theorem dX12_oddOf_5 : decode cX12_oddOf 5 = .ok (.bipush 8, 2) := by decide +kernel
theorem dX12_oddOf_7 : decode cX12_oddOf 7 = .ok (.if_icmp .ge 31, 3) := by decide +kernel
theorem dX12_oddOf_10 : decode cX12_oddOf 10 = .ok (.aload_n 0, 1) := by decide +kernel
theorem dX12_oddOf_11 : decode cX12_oddOf 11 = .ok (.getfield 17, 3) := by decide +kernel
theorem dX12_oddOf_14 : decode cX12_oddOf 14 = .ok (.bipush 8, 2) := by decide +kernel
theorem dX12_oddOf_16 : decode cX12_oddOf 16 = .ok (.iload_n 1, 1) := by decide +kernel
theorem dX12_oddOf_17 : decode cX12_oddOf 17 = .ok (.imul, 1) := by decide +kernel
theorem dX12_oddOf_18 : decode cX12_oddOf 18 = .ok (.iload_n 3, 1) := by decide +kernel
theorem dX12_oddOf_19 : decode cX12_oddOf 19 = .ok (.iadd, 1) := by decide +kernel
theorem dX12_oddOf_20 : decode cX12_oddOf 20 = .ok (.iaload, 1) := by decide +kernel
theorem dX12_oddOf_21 : decode cX12_oddOf 21 = .ok (.iconst 2, 1) := by decide +kernel
theorem dX12_oddOf_22 : decode cX12_oddOf 22 = .ok (.irem, 1) := by decide +kernel
theorem dX12_oddOf_23 : decode cX12_oddOf 23 = .ok (.ifCond .eq 9, 3) := by decide +kernel
theorem dX12_oddOf_26 : decode cX12_oddOf 26 = .ok (.iload_n 2, 1) := by decide +kernel
theorem dX12_oddOf_27 : decode cX12_oddOf 27 = .ok (.iconst 1, 1) := by decide +kernel
theorem dX12_oddOf_28 : decode cX12_oddOf 28 = .ok (.iload_n 3, 1) := by decide +kernel
theorem dX12_oddOf_29 : decode cX12_oddOf 29 = .ok (.ishl, 1) := by decide +kernel
theorem dX12_oddOf_30 : decode cX12_oddOf 30 = .ok (.ior, 1) := by decide +kernel
theorem dX12_oddOf_31 : decode cX12_oddOf 31 = .ok (.istore_n 2, 1) := by decide +kernel
theorem dX12_oddOf_32 : decode cX12_oddOf 32 = .ok (.iinc 3 1, 3) := by decide +kernel
theorem dX12_oddOf_35 : decode cX12_oddOf 35 = .ok (.goto (-31), 3) := by decide +kernel
theorem dX12_oddOf_38 : decode cX12_oddOf 38 = .ok (.iload_n 2, 1) := by decide +kernel
theorem dX12_oddOf_39 : decode cX12_oddOf 39 = .ok (.ireturn, 1) := by decide +kernel
theorem dX12_isCode_0 : decode cX12_isCode 0 = .ok (.iload_n 0, 1) := by decide +kernel
theorem dX12_isCode_1 : decode cX12_isCode 1 = .ok (.ifCond .eq 10, 3) := by decide +kernel
theorem dX12_isCode_4 : decode cX12_isCode 4 = .ok (.iload_n 0, 1) := by decide +kernel
theorem dX12_isCode_5 : decode cX12_isCode 5 = .ok (.sipush 255, 3) := by decide +kernel
theorem dX12_isCode_8 : decode cX12_isCode 8 = .ok (.if_icmp .ne 5, 3) := by decide +kernel
theorem dX12_isCode_11 : decode cX12_isCode 11 = .ok (.iconst 1, 1) := by decide +kernel
theorem dX12_isCode_12 : decode cX12_isCode 12 = .ok (.ireturn, 1) := by decide +kernel
theorem dX12_isCode_13 : decode cX12_isCode 13 = .ok (.iload_n 0, 1) := by decide +kernel
theorem dX12_isCode_14 : decode cX12_isCode 14 = .ok (.invokestatic 117, 3) := by decide +kernel
theorem dX12_isCode_17 : decode cX12_isCode 17 = .ok (.iconst 4, 1) := by decide +kernel
theorem dX12_isCode_18 : decode cX12_isCode 18 = .ok (.if_icmp .eq 5, 3) := by decide +kernel
theorem dX12_isCode_21 : decode cX12_isCode 21 = .ok (.iconst 0, 1) := by decide +kernel
theorem dX12_isCode_22 : decode cX12_isCode 22 = .ok (.ireturn, 1) := by decide +kernel
theorem dX12_isCode_23 : decode cX12_isCode 23 = .ok (.iload_n 0, 1) := by decide +kernel
theorem dX12_isCode_24 : decode cX12_isCode 24 = .ok (.iconst 0, 1) := by decide +kernel
theorem dX12_isCode_25 : decode cX12_isCode 25 = .ok (.invokestatic 121, 3) := by decide +kernel
theorem dX12_isCode_28 : decode cX12_isCode 28 = .ok (.ifCond .eq 7, 3) := by decide +kernel
theorem dX12_isCode_31 : decode cX12_isCode 31 = .ok (.iload_n 0, 1) := by decide +kernel
theorem dX12_isCode_32 : decode cX12_isCode 32 = .ok (.goto 8, 3) := by decide +kernel
theorem dX12_isCode_35 : decode cX12_isCode 35 = .ok (.sipush 255, 3) := by decide +kernel
theorem dX12_isCode_38 : decode cX12_isCode 38 = .ok (.iload_n 0, 1) := by decide +kernel
theorem dX12_isCode_39 : decode cX12_isCode 39 = .ok (.ixor, 1) := by decide +kernel
theorem dX12_isCode_40 : decode cX12_isCode 40 = .ok (.istore_n 1, 1) := by decide +kernel
theorem dX12_isCode_41 : decode cX12_isCode 41 = .ok (.iconst 0, 1) := by decide +kernel
theorem dX12_isCode_42 : decode cX12_isCode 42 = .ok (.istore_n 2, 1) := by decide +kernel
theorem dX12_isCode_43 : decode cX12_isCode 43 = .ok (.iconst 1, 1) := by decide +kernel
theorem dX12_isCode_44 : decode cX12_isCode 44 = .ok (.istore_n 3, 1) := by decide +kernel
theorem dX12_isCode_45 : decode cX12_isCode 45 = .ok (.iload_n 3, 1) := by decide +kernel
theorem dX12_isCode_46 : decode cX12_isCode 46 = .ok (.bipush 8, 2) := by decide +kernel
theorem dX12_isCode_48 : decode cX12_isCode 48 = .ok (.if_icmp .ge 21, 3) := by decide +kernel
theorem dX12_isCode_51 : decode cX12_isCode 51 = .ok (.iload_n 1, 1) := by decide +kernel
theorem dX12_isCode_52 : decode cX12_isCode 52 = .ok (.iload_n 3, 1) := by decide +kernel
theorem dX12_isCode_53 : decode cX12_isCode 53 = .ok (.invokestatic 121, 3) := by decide +kernel
theorem dX12_isCode_56 : decode cX12_isCode 56 = .ok (.ifCond .eq 7, 3) := by decide +kernel
theorem dX12_isCode_59 : decode cX12_isCode 59 = .ok (.iload_n 2, 1) := by decide +kernel
theorem dX12_isCode_60 : decode cX12_isCode 60 = .ok (.iload_n 3, 1) := by decide +kernel
theorem dX12_isCode_61 : decode cX12_isCode 61 = .ok (.ixor, 1) := by decide +kernel
theorem dX12_isCode_62 : decode cX12_isCode 62 = .ok (.istore_n 2, 1) := by decide +kernel
theorem dX12_isCode_63 : decode cX12_isCode 63 = .ok (.iinc 3 1, 3) := by decide +kernel
theorem dX12_isCode_66 : decode cX12_isCode 66 = .ok (.goto (-21), 3) := by decide +kernel
theorem dX12_isCode_69 : decode cX12_isCode 69 = .ok (.iload_n 2, 1) := by decide +kernel
theorem dX12_isCode_70 : decode cX12_isCode 70 = .ok (.ifCond .ne 7, 3) := by decide +kernel
theorem dX12_isCode_73 : decode cX12_isCode 73 = .ok (.iconst 1, 1) := by decide +kernel
theorem dX12_isCode_74 : decode cX12_isCode 74 = .ok (.goto 4, 3) := by decide +kernel
theorem dX12_isCode_77 : decode cX12_isCode 77 = .ok (.iconst 0, 1) := by decide +kernel
theorem dX12_isCode_78 : decode cX12_isCode 78 = .ok (.ireturn, 1) := by decide +kernel
theorem dX12_isOf_0 : decode cX12_isOf 0 = .ok (.iload_n 0, 1) := by decide +kernel
theorem dX12_isOf_1 : decode cX12_isOf 1 = .ok (.ifCond .ne 13, 3) := by decide +kernel
theorem dX12_isOf_4 : decode cX12_isOf 4 = .ok (.iload_n 1, 1) := by decide +kernel
theorem dX12_isOf_5 : decode cX12_isOf 5 = .ok (.ifCond .ne 7, 3) := by decide +kernel
theorem dX12_isOf_8 : decode cX12_isOf 8 = .ok (.iconst 1, 1) := by decide +kernel
theorem dX12_isOf_9 : decode cX12_isOf 9 = .ok (.goto 4, 3) := by decide +kernel
theorem dX12_isOf_12 : decode cX12_isOf 12 = .ok (.iconst 0, 1) := by decide +kernel
theorem dX12_isOf_13 : decode cX12_isOf 13 = .ok (.ireturn, 1) := by decide +kernel
theorem dX12_isOf_14 : decode cX12_isOf 14 = .ok (.iload_n 1, 1) := by decide +kernel
theorem dX12_isOf_15 : decode cX12_isOf 15 = .ok (.iconst 0, 1) := by decide +kernel
theorem dX12_isOf_16 : decode cX12_isOf 16 = .ok (.invokestatic 121, 3) := by decide +kernel
theorem dX12_isOf_19 : decode cX12_isOf 19 = .ok (.iload_n 1, 1) := by decide +kernel
theorem dX12_isOf_20 : decode cX12_isOf 20 = .ok (.iload_n 0, 1) := by decide +kernel
theorem dX12_isOf_21 : decode cX12_isOf 21 = .ok (.invokestatic 121, 3) := by decide +kernel
theorem dX12_isOf_24 : decode cX12_isOf 24 = .ok (.if_icmp .eq 7, 3) := by decide +kernel
theorem dX12_isOf_27 : decode cX12_isOf 27 = .ok (.iconst 1, 1) := by decide +kernel
theorem dX12_isOf_28 : decode cX12_isOf 28 = .ok (.goto 4, 3) := by decide +kernel
theorem dX12_isOf_31 : decode cX12_isOf 31 = .ok (.iconst 0, 1) := by decide +kernel
theorem dX12_isOf_32 : decode cX12_isOf 32 = .ok (.istore_n 2, 1) := by decide +kernel
theorem dX12_isOf_33 : decode cX12_isOf 33 = .ok (.iload_n 2, 1) := by decide +kernel
theorem dX12_isOf_34 : decode cX12_isOf 34 = .ok (.ifCond .eq 13, 3) := by decide +kernel
theorem dX12_isOf_37 : decode cX12_isOf 37 = .ok (.iload_n 1, 1) := by decide +kernel
theorem dX12_isOf_38 : decode cX12_isOf 38 = .ok (.iconst 1, 1) := by decide +kernel
theorem dX12_isOf_39 : decode cX12_isOf 39 = .ok (.ixor, 1) := by decide +kernel
theorem dX12_isOf_40 : decode cX12_isOf 40 = .ok (.iconst 1, 1) := by decide +kernel
theorem dX12_isOf_41 : decode cX12_isOf 41 = .ok (.iload_n 0, 1) := by decide +kernel
theorem dX12_isOf_42 : decode cX12_isOf 42 = .ok (.ishl, 1) := by decide +kernel
theorem dX12_isOf_43 : decode cX12_isOf 43 = .ok (.ixor, 1) := by decide +kernel
theorem dX12_isOf_44 : decode cX12_isOf 44 = .ok (.goto 4, 3) := by decide +kernel
theorem dX12_isOf_47 : decode cX12_isOf 47 = .ok (.iload_n 1, 1) := by decide +kernel
theorem dX12_isOf_48 : decode cX12_isOf 48 = .ok (.invokestatic 125, 3) := by decide +kernel
theorem dX12_isOf_51 : decode cX12_isOf 51 = .ok (.ireturn, 1) := by decide +kernel
theorem dX12_isWhole_0 : decode cX12_isWhole 0 = .ok (.aload_n 0, 1) := by decide +kernel
theorem dX12_isWhole_1 : decode cX12_isWhole 1 = .ok (.getfield 24, 3) := by decide +kernel
theorem dX12_isWhole_4 : decode cX12_isWhole 4 = .ok (.aload_n 0, 1) := by decide +kernel
theorem dX12_isWhole_5 : decode cX12_isWhole 5 = .ok (.iload_n 1, 1) := by decide +kernel
theorem dX12_isWhole_6 : decode cX12_isWhole 6 = .ok (.invokevirtual 128, 3) := by decide +kernel
theorem dX12_isWhole_9 : decode cX12_isWhole 9 = .ok (.invokestatic 131, 3) := by decide +kernel
theorem dX12_isWhole_12 : decode cX12_isWhole 12 = .ok (.ireturn, 1) := by decide +kernel
theorem dX12_isUnit_0 : decode cX12_isUnit 0 = .ok (.aload_n 0, 1) := by decide +kernel
theorem dX12_isUnit_1 : decode cX12_isUnit 1 = .ok (.iload_n 1, 1) := by decide +kernel
theorem dX12_isUnit_2 : decode cX12_isUnit 2 = .ok (.invokevirtual 134, 3) := by decide +kernel
theorem dX12_isUnit_5 : decode cX12_isUnit 5 = .ok (.ifCond .eq 19, 3) := by decide +kernel
theorem dX12_isUnit_8 : decode cX12_isUnit 8 = .ok (.aload_n 0, 1) := by decide +kernel
theorem dX12_isUnit_9 : decode cX12_isUnit 9 = .ok (.iload_n 1, 1) := by decide +kernel
theorem dX12_isUnit_10 : decode cX12_isUnit 10 = .ok (.invokevirtual 137, 3) := by decide +kernel
theorem dX12_isUnit_13 : decode cX12_isUnit 13 = .ok (.ldc2_w 141, 3) := by decide +kernel
theorem dX12_isUnit_16 : decode cX12_isUnit 16 = .ok (.lcmp, 1) := by decide +kernel
theorem dX12_isUnit_17 : decode cX12_isUnit 17 = .ok (.ifCond .ne 7, 3) := by decide +kernel
theorem dX12_isUnit_20 : decode cX12_isUnit 20 = .ok (.iconst 1, 1) := by decide +kernel
theorem dX12_isUnit_21 : decode cX12_isUnit 21 = .ok (.goto 4, 3) := by decide +kernel
theorem dX12_isUnit_24 : decode cX12_isUnit 24 = .ok (.iconst 0, 1) := by decide +kernel
theorem dX12_isUnit_25 : decode cX12_isUnit 25 = .ok (.ireturn, 1) := by decide +kernel
theorem dX12_listFrom_0 : decode cX12_listFrom 0 = .ok (.iload_n 0, 1) := by decide +kernel
theorem dX12_listFrom_1 : decode cX12_listFrom 1 = .ok (.ifCond .ne 7, 3) := by decide +kernel
theorem dX12_listFrom_4 : decode cX12_listFrom 4 = .ok (.iconst 0, 1) := by decide +kernel
theorem dX12_listFrom_5 : decode cX12_listFrom 5 = .ok (.goto 26, 3) := by decide +kernel
theorem dX12_listFrom_8 : decode cX12_listFrom 8 = .ok (.iload_n 0, 1) := by decide +kernel
theorem dX12_listFrom_9 : decode cX12_listFrom 9 = .ok (.iconst 1, 1) := by decide +kernel
theorem dX12_listFrom_10 : decode cX12_listFrom 10 = .ok (.if_icmp .ne 7, 3) := by decide +kernel
theorem dX12_listFrom_13 : decode cX12_listFrom 13 = .ok (.iconst 1, 1) := by decide +kernel
theorem dX12_listFrom_14 : decode cX12_listFrom 14 = .ok (.goto 17, 3) := by decide +kernel
theorem dX12_listFrom_17 : decode cX12_listFrom 17 = .ok (.iload_n 0, 1) := by decide +kernel
theorem dX12_listFrom_18 : decode cX12_listFrom 18 = .ok (.iconst 2, 1) := by decide +kernel
theorem dX12_listFrom_19 : decode cX12_listFrom 19 = .ok (.if_icmp .ne 9, 3) := by decide +kernel
theorem dX12_listFrom_22 : decode cX12_listFrom 22 = .ok (.sipush 241, 3) := by decide +kernel
theorem dX12_listFrom_25 : decode cX12_listFrom 25 = .ok (.goto 6, 3) := by decide +kernel
theorem dX12_listFrom_28 : decode cX12_listFrom 28 = .ok (.sipush 2401, 3) := by decide +kernel
theorem dX12_listFrom_31 : decode cX12_listFrom 31 = .ok (.ireturn, 1) := by decide +kernel
theorem dX12_oddIn_0 : decode cX12_oddIn 0 = .ok (.iconst 0, 1) := by decide +kernel
theorem dX12_oddIn_1 : decode cX12_oddIn 1 = .ok (.istore_n 1, 1) := by decide +kernel
theorem dX12_oddIn_2 : decode cX12_oddIn 2 = .ok (.iconst 0, 1) := by decide +kernel
theorem dX12_oddIn_3 : decode cX12_oddIn 3 = .ok (.istore_n 2, 1) := by decide +kernel
theorem dX12_oddIn_4 : decode cX12_oddIn 4 = .ok (.iload_n 2, 1) := by decide +kernel
theorem dX12_oddIn_5 : decode cX12_oddIn 5 = .ok (.bipush 8, 2) := by decide +kernel
theorem dX12_oddIn_7 : decode cX12_oddIn 7 = .ok (.if_icmp .ge 23, 3) := by decide +kernel
theorem dX12_oddIn_10 : decode cX12_oddIn 10 = .ok (.aload_n 0, 1) := by decide +kernel
theorem dX12_oddIn_11 : decode cX12_oddIn 11 = .ok (.iload_n 2, 1) := by decide +kernel
theorem dX12_oddIn_12 : decode cX12_oddIn 12 = .ok (.iaload, 1) := by decide +kernel
theorem dX12_oddIn_13 : decode cX12_oddIn 13 = .ok (.iconst 2, 1) := by decide +kernel
theorem dX12_oddIn_14 : decode cX12_oddIn 14 = .ok (.irem, 1) := by decide +kernel
theorem dX12_oddIn_15 : decode cX12_oddIn 15 = .ok (.ifCond .eq 9, 3) := by decide +kernel
theorem dX12_oddIn_18 : decode cX12_oddIn 18 = .ok (.iload_n 1, 1) := by decide +kernel
theorem dX12_oddIn_19 : decode cX12_oddIn 19 = .ok (.iconst 1, 1) := by decide +kernel
theorem dX12_oddIn_20 : decode cX12_oddIn 20 = .ok (.iload_n 2, 1) := by decide +kernel
theorem dX12_oddIn_21 : decode cX12_oddIn 21 = .ok (.ishl, 1) := by decide +kernel
theorem dX12_oddIn_22 : decode cX12_oddIn 22 = .ok (.ior, 1) := by decide +kernel
theorem dX12_oddIn_23 : decode cX12_oddIn 23 = .ok (.istore_n 1, 1) := by decide +kernel
theorem dX12_oddIn_24 : decode cX12_oddIn 24 = .ok (.iinc 2 1, 3) := by decide +kernel
theorem dX12_oddIn_27 : decode cX12_oddIn 27 = .ok (.goto (-23), 3) := by decide +kernel
theorem dX12_oddIn_30 : decode cX12_oddIn 30 = .ok (.iload_n 1, 1) := by decide +kernel
theorem dX12_oddIn_31 : decode cX12_oddIn 31 = .ok (.ireturn, 1) := by decide +kernel
theorem dX12_laysList_0 : decode cX12_laysList 0 = .ok (.aload_n 0, 1) := by decide +kernel
theorem dX12_laysList_1 : decode cX12_laysList 1 = .ok (.getfield 34, 3) := by decide +kernel
theorem dX12_laysList_4 : decode cX12_laysList 4 = .ok (.iload_n 1, 1) := by decide +kernel
theorem dX12_laysList_5 : decode cX12_laysList 5 = .ok (.iaload, 1) := by decide +kernel
theorem dX12_laysList_6 : decode cX12_laysList 6 = .ok (.iload_n 2, 1) := by decide +kernel
theorem dX12_laysList_7 : decode cX12_laysList 7 = .ok (.if_icmp .ne 4, 3) := by decide +kernel
theorem dX12_laysList_10 : decode cX12_laysList 10 = .ok (.return_, 1) := by decide +kernel
theorem dX12_laysList_11 : decode cX12_laysList 11 = .ok (.aload_n 0, 1) := by decide +kernel
theorem dX12_laysList_12 : decode cX12_laysList 12 = .ok (.getfield 34, 3) := by decide +kernel
theorem dX12_laysList_15 : decode cX12_laysList 15 = .ok (.iload_n 1, 1) := by decide +kernel
theorem dX12_laysList_16 : decode cX12_laysList 16 = .ok (.iload_n 2, 1) := by decide +kernel
theorem dX12_laysList_17 : decode cX12_laysList 17 = .ok (.iastore, 1) := by decide +kernel
theorem dX12_laysList_18 : decode cX12_laysList 18 = .ok (.bipush 8, 2) := by decide +kernel
theorem dX12_laysList_20 : decode cX12_laysList 20 = .ok (.iload_n 1, 1) := by decide +kernel
theorem dX12_laysList_21 : decode cX12_laysList 21 = .ok (.invokestatic 143, 3) := by decide +kernel
theorem dX12_laysList_24 : decode cX12_laysList 24 = .ok (.imul, 1) := by decide +kernel
theorem dX12_laysList_25 : decode cX12_laysList 25 = .ok (.istore_n 3, 1) := by decide +kernel
theorem dX12_laysList_26 : decode cX12_laysList 26 = .ok (.iconst 0, 1) := by decide +kernel
theorem dX12_laysList_27 : decode cX12_laysList 27 = .ok (.istore 4, 2) := by decide +kernel
theorem dX12_laysList_29 : decode cX12_laysList 29 = .ok (.iconst 0, 1) := by decide +kernel
theorem dX12_laysList_30 : decode cX12_laysList 30 = .ok (.istore 5, 2) := by decide +kernel
theorem dX12_laysList_32 : decode cX12_laysList 32 = .ok (.aload_n 0, 1) := by decide +kernel
theorem dX12_laysList_33 : decode cX12_laysList 33 = .ok (.getfield 40, 3) := by decide +kernel
theorem dX12_laysList_36 : decode cX12_laysList 36 = .ok (.iconst 0, 1) := by decide +kernel
theorem dX12_laysList_37 : decode cX12_laysList 37 = .ok (.iconst 4, 1) := by decide +kernel
theorem dX12_laysList_38 : decode cX12_laysList 38 = .ok (.iload_n 1, 1) := by decide +kernel
theorem dX12_laysList_39 : decode cX12_laysList 39 = .ok (.imul, 1) := by decide +kernel
theorem dX12_laysList_40 : decode cX12_laysList 40 = .ok (.iastore, 1) := by decide +kernel
theorem dX12_laysList_41 : decode cX12_laysList 41 = .ok (.aload_n 0, 1) := by decide +kernel
theorem dX12_laysList_42 : decode cX12_laysList 42 = .ok (.getfield 37, 3) := by decide +kernel
theorem dX12_laysList_45 : decode cX12_laysList 45 = .ok (.iconst 0, 1) := by decide +kernel
theorem dX12_laysList_46 : decode cX12_laysList 46 = .ok (.bipush (-4), 2) := by decide +kernel
theorem dX12_laysList_48 : decode cX12_laysList 48 = .ok (.iastore, 1) := by decide +kernel
theorem dX12_laysList_49 : decode cX12_laysList 49 = .ok (.iload 5, 2) := by decide +kernel
theorem dX12_laysList_51 : decode cX12_laysList 51 = .ok (.ifCond .lt 193, 3) := by decide +kernel
theorem dX12_laysList_54 : decode cX12_laysList 54 = .ok (.aload_n 0, 1) := by decide +kernel
theorem dX12_laysList_55 : decode cX12_laysList 55 = .ok (.getfield 37, 3) := by decide +kernel
theorem dX12_laysList_58 : decode cX12_laysList 58 = .ok (.iload 5, 2) := by decide +kernel
theorem dX12_laysList_60 : decode cX12_laysList 60 = .ok (.dup2, 1) := by decide +kernel
theorem dX12_laysList_61 : decode cX12_laysList 61 = .ok (.iaload, 1) := by decide +kernel
theorem dX12_laysList_62 : decode cX12_laysList 62 = .ok (.iconst 1, 1) := by decide +kernel
theorem dX12_laysList_63 : decode cX12_laysList 63 = .ok (.iadd, 1) := by decide +kernel
theorem dX12_laysList_64 : decode cX12_laysList 64 = .ok (.iastore, 1) := by decide +kernel
theorem dX12_laysList_65 : decode cX12_laysList 65 = .ok (.aload_n 0, 1) := by decide +kernel
theorem dX12_laysList_66 : decode cX12_laysList 66 = .ok (.getfield 37, 3) := by decide +kernel
theorem dX12_laysList_69 : decode cX12_laysList 69 = .ok (.iload 5, 2) := by decide +kernel
theorem dX12_laysList_71 : decode cX12_laysList 71 = .ok (.iaload, 1) := by decide +kernel
theorem dX12_laysList_72 : decode cX12_laysList 72 = .ok (.aload_n 0, 1) := by decide +kernel
theorem dX12_laysList_73 : decode cX12_laysList 73 = .ok (.getfield 37, 3) := by decide +kernel
theorem dX12_laysList_76 : decode cX12_laysList 76 = .ok (.iload 5, 2) := by decide +kernel
theorem dX12_laysList_78 : decode cX12_laysList 78 = .ok (.iaload, 1) := by decide +kernel
theorem dX12_laysList_79 : decode cX12_laysList 79 = .ok (.imul, 1) := by decide +kernel
theorem dX12_laysList_80 : decode cX12_laysList 80 = .ok (.istore 6, 2) := by decide +kernel
theorem dX12_laysList_82 : decode cX12_laysList 82 = .ok (.aload_n 0, 1) := by decide +kernel
theorem dX12_laysList_83 : decode cX12_laysList 83 = .ok (.getfield 37, 3) := by decide +kernel
theorem dX12_laysList_86 : decode cX12_laysList 86 = .ok (.iload 5, 2) := by decide +kernel
theorem dX12_laysList_88 : decode cX12_laysList 88 = .ok (.iaload, 1) := by decide +kernel
theorem dX12_laysList_89 : decode cX12_laysList 89 = .ok (.iconst 3, 1) := by decide +kernel
theorem dX12_laysList_90 : decode cX12_laysList 90 = .ok (.if_icmp .gt 25, 3) := by decide +kernel
theorem dX12_laysList_93 : decode cX12_laysList 93 = .ok (.aload_n 0, 1) := by decide +kernel
theorem dX12_laysList_94 : decode cX12_laysList 94 = .ok (.getfield 37, 3) := by decide +kernel
theorem dX12_laysList_97 : decode cX12_laysList 97 = .ok (.iload 5, 2) := by decide +kernel
theorem dX12_laysList_99 : decode cX12_laysList 99 = .ok (.iaload, 1) := by decide +kernel
theorem dX12_laysList_100 : decode cX12_laysList 100 = .ok (.ifCond .le 21, 3) := by decide +kernel
theorem dX12_laysList_103 : decode cX12_laysList 103 = .ok (.iload 6, 2) := by decide +kernel
theorem dX12_laysList_105 : decode cX12_laysList 105 = .ok (.aload_n 0, 1) := by decide +kernel
theorem dX12_laysList_106 : decode cX12_laysList 106 = .ok (.getfield 40, 3) := by decide +kernel
theorem dX12_laysList_109 : decode cX12_laysList 109 = .ok (.iload 5, 2) := by decide +kernel
theorem dX12_laysList_111 : decode cX12_laysList 111 = .ok (.iaload, 1) := by decide +kernel
theorem dX12_laysList_112 : decode cX12_laysList 112 = .ok (.if_icmp .le 9, 3) := by decide +kernel
theorem dX12_laysList_115 : decode cX12_laysList 115 = .ok (.iinc 5 (-1), 3) := by decide +kernel
theorem dX12_laysList_118 : decode cX12_laysList 118 = .ok (.goto 123, 3) := by decide +kernel
theorem dX12_laysList_121 : decode cX12_laysList 121 = .ok (.iload 6, 2) := by decide +kernel
theorem dX12_laysList_123 : decode cX12_laysList 123 = .ok (.aload_n 0, 1) := by decide +kernel
theorem dX12_laysList_124 : decode cX12_laysList 124 = .ok (.getfield 40, 3) := by decide +kernel
theorem dX12_laysList_127 : decode cX12_laysList 127 = .ok (.iload 5, 2) := by decide +kernel
theorem dX12_laysList_129 : decode cX12_laysList 129 = .ok (.iaload, 1) := by decide +kernel
theorem dX12_laysList_130 : decode cX12_laysList 130 = .ok (.if_icmp .gt 44, 3) := by decide +kernel
theorem dX12_laysList_133 : decode cX12_laysList 133 = .ok (.iload 5, 2) := by decide +kernel
theorem dX12_laysList_135 : decode cX12_laysList 135 = .ok (.bipush 7, 2) := by decide +kernel
theorem dX12_laysList_137 : decode cX12_laysList 137 = .ok (.if_icmp .ge 37, 3) := by decide +kernel
theorem dX12_laysList_140 : decode cX12_laysList 140 = .ok (.aload_n 0, 1) := by decide +kernel
theorem dX12_laysList_141 : decode cX12_laysList 141 = .ok (.getfield 40, 3) := by decide +kernel
theorem dX12_laysList_144 : decode cX12_laysList 144 = .ok (.iload 5, 2) := by decide +kernel
theorem dX12_laysList_146 : decode cX12_laysList 146 = .ok (.iconst 1, 1) := by decide +kernel
theorem dX12_laysList_147 : decode cX12_laysList 147 = .ok (.iadd, 1) := by decide +kernel
theorem dX12_laysList_148 : decode cX12_laysList 148 = .ok (.aload_n 0, 1) := by decide +kernel
theorem dX12_laysList_149 : decode cX12_laysList 149 = .ok (.getfield 40, 3) := by decide +kernel
theorem dX12_laysList_152 : decode cX12_laysList 152 = .ok (.iload 5, 2) := by decide +kernel
theorem dX12_laysList_154 : decode cX12_laysList 154 = .ok (.iaload, 1) := by decide +kernel
theorem dX12_laysList_155 : decode cX12_laysList 155 = .ok (.iload 6, 2) := by decide +kernel
theorem dX12_laysList_157 : decode cX12_laysList 157 = .ok (.isub, 1) := by decide +kernel
theorem dX12_laysList_158 : decode cX12_laysList 158 = .ok (.iastore, 1) := by decide +kernel
theorem dX12_laysList_159 : decode cX12_laysList 159 = .ok (.iinc 5 1, 3) := by decide +kernel
theorem dX12_laysList_162 : decode cX12_laysList 162 = .ok (.aload_n 0, 1) := by decide +kernel
theorem dX12_laysList_163 : decode cX12_laysList 163 = .ok (.getfield 37, 3) := by decide +kernel
theorem dX12_laysList_166 : decode cX12_laysList 166 = .ok (.iload 5, 2) := by decide +kernel
theorem dX12_laysList_168 : decode cX12_laysList 168 = .ok (.bipush (-4), 2) := by decide +kernel
theorem dX12_laysList_170 : decode cX12_laysList 170 = .ok (.iastore, 1) := by decide +kernel
theorem dX12_laysList_171 : decode cX12_laysList 171 = .ok (.goto 70, 3) := by decide +kernel
theorem dX12_laysList_174 : decode cX12_laysList 174 = .ok (.iload 6, 2) := by decide +kernel
theorem dX12_laysList_176 : decode cX12_laysList 176 = .ok (.aload_n 0, 1) := by decide +kernel
theorem dX12_laysList_177 : decode cX12_laysList 177 = .ok (.getfield 40, 3) := by decide +kernel
theorem dX12_laysList_180 : decode cX12_laysList 180 = .ok (.iload 5, 2) := by decide +kernel
theorem dX12_laysList_182 : decode cX12_laysList 182 = .ok (.iaload, 1) := by decide +kernel
theorem dX12_laysList_183 : decode cX12_laysList 183 = .ok (.if_icmp .ne 58, 3) := by decide +kernel
theorem dX12_laysList_186 : decode cX12_laysList 186 = .ok (.iload_n 2, 1) := by decide +kernel
theorem dX12_laysList_187 : decode cX12_laysList 187 = .ok (.aload_n 0, 1) := by decide +kernel
theorem dX12_laysList_188 : decode cX12_laysList 188 = .ok (.getfield 37, 3) := by decide +kernel
theorem dX12_laysList_191 : decode cX12_laysList 191 = .ok (.invokestatic 146, 3) := by decide +kernel
theorem dX12_laysList_194 : decode cX12_laysList 194 = .ok (.invokestatic 131, 3) := by decide +kernel
theorem dX12_laysList_197 : decode cX12_laysList 197 = .ok (.ifCond .eq 44, 3) := by decide +kernel
theorem dX12_laysList_200 : decode cX12_laysList 200 = .ok (.iconst 0, 1) := by decide +kernel
theorem dX12_laysList_201 : decode cX12_laysList 201 = .ok (.istore 7, 2) := by decide +kernel
theorem dX12_laysList_203 : decode cX12_laysList 203 = .ok (.iload 7, 2) := by decide +kernel
theorem dX12_laysList_205 : decode cX12_laysList 205 = .ok (.bipush 8, 2) := by decide +kernel
theorem dX12_laysList_207 : decode cX12_laysList 207 = .ok (.if_icmp .ge 31, 3) := by decide +kernel
theorem dX12_laysList_210 : decode cX12_laysList 210 = .ok (.aload_n 0, 1) := by decide +kernel
theorem dX12_laysList_211 : decode cX12_laysList 211 = .ok (.getfield 28, 3) := by decide +kernel
theorem dX12_laysList_214 : decode cX12_laysList 214 = .ok (.iload_n 3, 1) := by decide +kernel
theorem dX12_laysList_215 : decode cX12_laysList 215 = .ok (.bipush 8, 2) := by decide +kernel
theorem dX12_laysList_217 : decode cX12_laysList 217 = .ok (.iload 4, 2) := by decide +kernel
theorem dX12_laysList_219 : decode cX12_laysList 219 = .ok (.imul, 1) := by decide +kernel
theorem dX12_laysList_220 : decode cX12_laysList 220 = .ok (.iadd, 1) := by decide +kernel
theorem dX12_laysList_221 : decode cX12_laysList 221 = .ok (.iload 7, 2) := by decide +kernel
theorem dX12_laysList_223 : decode cX12_laysList 223 = .ok (.iadd, 1) := by decide +kernel
theorem dX12_laysList_224 : decode cX12_laysList 224 = .ok (.aload_n 0, 1) := by decide +kernel
theorem dX12_laysList_225 : decode cX12_laysList 225 = .ok (.getfield 37, 3) := by decide +kernel
theorem dX12_laysList_228 : decode cX12_laysList 228 = .ok (.iload 7, 2) := by decide +kernel
theorem dX12_laysList_230 : decode cX12_laysList 230 = .ok (.iaload, 1) := by decide +kernel
theorem dX12_laysList_231 : decode cX12_laysList 231 = .ok (.iastore, 1) := by decide +kernel
theorem dX12_laysList_232 : decode cX12_laysList 232 = .ok (.iinc 7 1, 3) := by decide +kernel
theorem dX12_laysList_235 : decode cX12_laysList 235 = .ok (.goto (-32), 3) := by decide +kernel
theorem dX12_laysList_238 : decode cX12_laysList 238 = .ok (.iinc 4 1, 3) := by decide +kernel
theorem dX12_laysList_241 : decode cX12_laysList 241 = .ok (.goto (-192), 3) := by decide +kernel
theorem dX12_laysList_244 : decode cX12_laysList 244 = .ok (.aload_n 0, 1) := by decide +kernel
theorem dX12_laysList_245 : decode cX12_laysList 245 = .ok (.getfield 31, 3) := by decide +kernel
theorem dX12_laysList_248 : decode cX12_laysList 248 = .ok (.iload_n 1, 1) := by decide +kernel
theorem dX12_laysList_249 : decode cX12_laysList 249 = .ok (.iload 4, 2) := by decide +kernel
theorem dX12_laysList_251 : decode cX12_laysList 251 = .ok (.iastore, 1) := by decide +kernel
theorem dX12_laysList_252 : decode cX12_laysList 252 = .ok (.return_, 1) := by decide +kernel
theorem dX12_isNorm_0 : decode cX12_isNorm 0 = .ok (.iload_n 0, 1) := by decide +kernel
theorem dX12_isNorm_1 : decode cX12_isNorm 1 = .ok (.i2l, 1) := by decide +kernel
theorem dX12_isNorm_2 : decode cX12_isNorm 2 = .ok (.lconst 0, 1) := by decide +kernel
theorem dX12_isNorm_3 : decode cX12_isNorm 3 = .ok (.ldc2_w 150, 3) := by decide +kernel
theorem dX12_isNorm_6 : decode cX12_isNorm 6 = .ok (.invokestatic 95, 3) := by decide +kernel
theorem dX12_isNorm_9 : decode cX12_isNorm 9 = .ok (.ireturn, 1) := by decide +kernel
theorem dX12_listSize_0 : decode cX12_listSize 0 = .ok (.aload_n 0, 1) := by decide +kernel
theorem dX12_listSize_1 : decode cX12_listSize 1 = .ok (.iload_n 1, 1) := by decide +kernel
theorem dX12_listSize_2 : decode cX12_listSize 2 = .ok (.aload_n 0, 1) := by decide +kernel
theorem dX12_listSize_3 : decode cX12_listSize 3 = .ok (.getfield 24, 3) := by decide +kernel
theorem dX12_listSize_6 : decode cX12_listSize 6 = .ok (.invokevirtual 152, 3) := by decide +kernel
theorem dX12_listSize_9 : decode cX12_listSize 9 = .ok (.aload_n 0, 1) := by decide +kernel
theorem dX12_listSize_10 : decode cX12_listSize 10 = .ok (.getfield 31, 3) := by decide +kernel
theorem dX12_listSize_13 : decode cX12_listSize 13 = .ok (.iload_n 1, 1) := by decide +kernel
theorem dX12_listSize_14 : decode cX12_listSize 14 = .ok (.iaload, 1) := by decide +kernel
theorem dX12_listSize_15 : decode cX12_listSize 15 = .ok (.ireturn, 1) := by decide +kernel
theorem dX12_brings_0 : decode cX12_brings 0 = .ok (.iconst 0, 1) := by decide +kernel
theorem dX12_brings_1 : decode cX12_brings 1 = .ok (.istore 4, 2) := by decide +kernel
theorem dX12_brings_3 : decode cX12_brings 3 = .ok (.iload 4, 2) := by decide +kernel
theorem dX12_brings_5 : decode cX12_brings 5 = .ok (.bipush 8, 2) := by decide +kernel
theorem dX12_brings_7 : decode cX12_brings 7 = .ok (.if_icmp .ge 38, 3) := by decide +kernel
theorem dX12_brings_10 : decode cX12_brings 10 = .ok (.aload_n 0, 1) := by decide +kernel
theorem dX12_brings_11 : decode cX12_brings 11 = .ok (.getfield 17, 3) := by decide +kernel
theorem dX12_brings_14 : decode cX12_brings 14 = .ok (.bipush 8, 2) := by decide +kernel
theorem dX12_brings_16 : decode cX12_brings 16 = .ok (.iload_n 1, 1) := by decide +kernel
theorem dX12_brings_17 : decode cX12_brings 17 = .ok (.imul, 1) := by decide +kernel
theorem dX12_brings_18 : decode cX12_brings 18 = .ok (.iload 4, 2) := by decide +kernel
theorem dX12_brings_20 : decode cX12_brings 20 = .ok (.iadd, 1) := by decide +kernel
theorem dX12_brings_21 : decode cX12_brings 21 = .ok (.aload_n 0, 1) := by decide +kernel
theorem dX12_brings_22 : decode cX12_brings 22 = .ok (.getfield 28, 3) := by decide +kernel
theorem dX12_brings_25 : decode cX12_brings 25 = .ok (.bipush 8, 2) := by decide +kernel
theorem dX12_brings_27 : decode cX12_brings 27 = .ok (.iload_n 2, 1) := by decide +kernel
theorem dX12_brings_28 : decode cX12_brings 28 = .ok (.invokestatic 143, 3) := by decide +kernel
theorem dX12_brings_31 : decode cX12_brings 31 = .ok (.iload_n 3, 1) := by decide +kernel
theorem dX12_brings_32 : decode cX12_brings 32 = .ok (.iadd, 1) := by decide +kernel
theorem dX12_brings_33 : decode cX12_brings 33 = .ok (.imul, 1) := by decide +kernel
theorem dX12_brings_34 : decode cX12_brings 34 = .ok (.iload 4, 2) := by decide +kernel
theorem dX12_brings_36 : decode cX12_brings 36 = .ok (.iadd, 1) := by decide +kernel
theorem dX12_brings_37 : decode cX12_brings 37 = .ok (.iaload, 1) := by decide +kernel
theorem dX12_brings_38 : decode cX12_brings 38 = .ok (.iastore, 1) := by decide +kernel
theorem dX12_brings_39 : decode cX12_brings 39 = .ok (.iinc 4 1, 3) := by decide +kernel
theorem dX12_brings_42 : decode cX12_brings 42 = .ok (.goto (-39), 3) := by decide +kernel
theorem dX12_brings_45 : decode cX12_brings 45 = .ok (.return_, 1) := by decide +kernel
theorem dX12_against_0 : decode cX12_against 0 = .ok (.iconst 0, 1) := by decide +kernel
theorem dX12_against_1 : decode cX12_against 1 = .ok (.istore 4, 2) := by decide +kernel
theorem dX12_against_3 : decode cX12_against 3 = .ok (.iload 4, 2) := by decide +kernel
theorem dX12_against_5 : decode cX12_against 5 = .ok (.bipush 8, 2) := by decide +kernel
theorem dX12_against_7 : decode cX12_against 7 = .ok (.if_icmp .ge 49, 3) := by decide +kernel
theorem dX12_against_10 : decode cX12_against 10 = .ok (.aload_n 0, 1) := by decide +kernel
theorem dX12_against_11 : decode cX12_against 11 = .ok (.getfield 17, 3) := by decide +kernel
theorem dX12_against_14 : decode cX12_against 14 = .ok (.bipush 8, 2) := by decide +kernel
theorem dX12_against_16 : decode cX12_against 16 = .ok (.iload_n 1, 1) := by decide +kernel
theorem dX12_against_17 : decode cX12_against 17 = .ok (.imul, 1) := by decide +kernel
theorem dX12_against_18 : decode cX12_against 18 = .ok (.iload 4, 2) := by decide +kernel
theorem dX12_against_20 : decode cX12_against 20 = .ok (.iadd, 1) := by decide +kernel
theorem dX12_against_21 : decode cX12_against 21 = .ok (.iaload, 1) := by decide +kernel
theorem dX12_against_22 : decode cX12_against 22 = .ok (.aload_n 0, 1) := by decide +kernel
theorem dX12_against_23 : decode cX12_against 23 = .ok (.getfield 28, 3) := by decide +kernel
theorem dX12_against_26 : decode cX12_against 26 = .ok (.bipush 8, 2) := by decide +kernel
theorem dX12_against_28 : decode cX12_against 28 = .ok (.iload_n 2, 1) := by decide +kernel
theorem dX12_against_29 : decode cX12_against 29 = .ok (.invokestatic 143, 3) := by decide +kernel
theorem dX12_against_32 : decode cX12_against 32 = .ok (.iload_n 3, 1) := by decide +kernel
theorem dX12_against_33 : decode cX12_against 33 = .ok (.iadd, 1) := by decide +kernel
theorem dX12_against_34 : decode cX12_against 34 = .ok (.imul, 1) := by decide +kernel
theorem dX12_against_35 : decode cX12_against 35 = .ok (.iload 4, 2) := by decide +kernel
theorem dX12_against_37 : decode cX12_against 37 = .ok (.iadd, 1) := by decide +kernel
theorem dX12_against_38 : decode cX12_against 38 = .ok (.iaload, 1) := by decide +kernel
theorem dX12_against_39 : decode cX12_against 39 = .ok (.isub, 1) := by decide +kernel
theorem dX12_against_40 : decode cX12_against 40 = .ok (.istore 5, 2) := by decide +kernel
theorem dX12_against_42 : decode cX12_against 42 = .ok (.iload 5, 2) := by decide +kernel
theorem dX12_against_44 : decode cX12_against 44 = .ok (.ifCond .eq 6, 3) := by decide +kernel
theorem dX12_against_47 : decode cX12_against 47 = .ok (.iload 5, 2) := by decide +kernel
theorem dX12_against_49 : decode cX12_against 49 = .ok (.ireturn, 1) := by decide +kernel
theorem dX12_against_50 : decode cX12_against 50 = .ok (.iinc 4 1, 3) := by decide +kernel
theorem dX12_against_53 : decode cX12_against 53 = .ok (.goto (-50), 3) := by decide +kernel
theorem dX12_against_56 : decode cX12_against 56 = .ok (.iconst 0, 1) := by decide +kernel
theorem dX12_against_57 : decode cX12_against 57 = .ok (.ireturn, 1) := by decide +kernel
theorem dX12_numberOf_0 : decode cX12_numberOf 0 = .ok (.aload_n 0, 1) := by decide +kernel
theorem dX12_numberOf_1 : decode cX12_numberOf 1 = .ok (.iload_n 1, 1) := by decide +kernel
theorem dX12_numberOf_2 : decode cX12_numberOf 2 = .ok (.invokevirtual 137, 3) := by decide +kernel
theorem dX12_numberOf_5 : decode cX12_numberOf 5 = .ok (.lstore_n 2, 1) := by decide +kernel
theorem dX12_numberOf_6 : decode cX12_numberOf 6 = .ok (.aload_n 0, 1) := by decide +kernel
theorem dX12_numberOf_7 : decode cX12_numberOf 7 = .ok (.iload_n 1, 1) := by decide +kernel
theorem dX12_numberOf_8 : decode cX12_numberOf 8 = .ok (.invokevirtual 134, 3) := by decide +kernel
theorem dX12_numberOf_11 : decode cX12_numberOf 11 = .ok (.ifCond .eq 11, 3) := by decide +kernel
theorem dX12_numberOf_14 : decode cX12_numberOf 14 = .ok (.lload_n 2, 1) := by decide +kernel
theorem dX12_numberOf_15 : decode cX12_numberOf 15 = .ok (.ldc2_w 156, 3) := by decide +kernel
theorem dX12_numberOf_18 : decode cX12_numberOf 18 = .ok (.lcmp, 1) := by decide +kernel
theorem dX12_numberOf_19 : decode cX12_numberOf 19 = .ok (.ifCond .le 5, 3) := by decide +kernel
theorem dX12_numberOf_22 : decode cX12_numberOf 22 = .ok (.iconst (-1), 1) := by decide +kernel
theorem dX12_numberOf_23 : decode cX12_numberOf 23 = .ok (.ireturn, 1) := by decide +kernel
theorem dX12_numberOf_24 : decode cX12_numberOf 24 = .ok (.lload_n 2, 1) := by decide +kernel
theorem dX12_numberOf_25 : decode cX12_numberOf 25 = .ok (.ldc2_w 141, 3) := by decide +kernel
theorem dX12_numberOf_28 : decode cX12_numberOf 28 = .ok (.ldiv, 1) := by decide +kernel
theorem dX12_numberOf_29 : decode cX12_numberOf 29 = .ok (.l2i, 1) := by decide +kernel
theorem dX12_numberOf_30 : decode cX12_numberOf 30 = .ok (.istore 4, 2) := by decide +kernel
theorem dX12_numberOf_32 : decode cX12_numberOf 32 = .ok (.iconst 0, 1) := by decide +kernel
theorem dX12_numberOf_33 : decode cX12_numberOf 33 = .ok (.istore 5, 2) := by decide +kernel
theorem dX12_numberOf_35 : decode cX12_numberOf 35 = .ok (.aload_n 0, 1) := by decide +kernel
theorem dX12_numberOf_36 : decode cX12_numberOf 36 = .ok (.iload 4, 2) := by decide +kernel
theorem dX12_numberOf_38 : decode cX12_numberOf 38 = .ok (.invokevirtual 158, 3) := by decide +kernel
theorem dX12_numberOf_41 : decode cX12_numberOf 41 = .ok (.iconst 1, 1) := by decide +kernel
theorem dX12_numberOf_42 : decode cX12_numberOf 42 = .ok (.isub, 1) := by decide +kernel
theorem dX12_numberOf_43 : decode cX12_numberOf 43 = .ok (.istore 6, 2) := by decide +kernel
theorem dX12_numberOf_45 : decode cX12_numberOf 45 = .ok (.iload 5, 2) := by decide +kernel
theorem dX12_numberOf_47 : decode cX12_numberOf 47 = .ok (.iload 6, 2) := by decide +kernel
theorem dX12_numberOf_49 : decode cX12_numberOf 49 = .ok (.if_icmp .gt 54, 3) := by decide +kernel
theorem dX12_numberOf_52 : decode cX12_numberOf 52 = .ok (.iload 5, 2) := by decide +kernel
theorem dX12_numberOf_54 : decode cX12_numberOf 54 = .ok (.iload 6, 2) := by decide +kernel
theorem dX12_numberOf_56 : decode cX12_numberOf 56 = .ok (.iadd, 1) := by decide +kernel
theorem dX12_numberOf_57 : decode cX12_numberOf 57 = .ok (.iconst 2, 1) := by decide +kernel
theorem dX12_numberOf_58 : decode cX12_numberOf 58 = .ok (.idiv, 1) := by decide +kernel
theorem dX12_numberOf_59 : decode cX12_numberOf 59 = .ok (.istore 7, 2) := by decide +kernel
theorem dX12_numberOf_61 : decode cX12_numberOf 61 = .ok (.aload_n 0, 1) := by decide +kernel
theorem dX12_numberOf_62 : decode cX12_numberOf 62 = .ok (.iload_n 1, 1) := by decide +kernel
theorem dX12_numberOf_63 : decode cX12_numberOf 63 = .ok (.iload 4, 2) := by decide +kernel
theorem dX12_numberOf_65 : decode cX12_numberOf 65 = .ok (.iload 7, 2) := by decide +kernel
theorem dX12_numberOf_67 : decode cX12_numberOf 67 = .ok (.invokevirtual 161, 3) := by decide +kernel
theorem dX12_numberOf_70 : decode cX12_numberOf 70 = .ok (.istore 8, 2) := by decide +kernel
theorem dX12_numberOf_72 : decode cX12_numberOf 72 = .ok (.iload 8, 2) := by decide +kernel
theorem dX12_numberOf_74 : decode cX12_numberOf 74 = .ok (.ifCond .ne 6, 3) := by decide +kernel
theorem dX12_numberOf_77 : decode cX12_numberOf 77 = .ok (.iload 7, 2) := by decide +kernel
theorem dX12_numberOf_79 : decode cX12_numberOf 79 = .ok (.ireturn, 1) := by decide +kernel
theorem dX12_numberOf_80 : decode cX12_numberOf 80 = .ok (.iload 8, 2) := by decide +kernel
theorem dX12_numberOf_82 : decode cX12_numberOf 82 = .ok (.ifCond .ge 12, 3) := by decide +kernel
theorem dX12_numberOf_85 : decode cX12_numberOf 85 = .ok (.iload 7, 2) := by decide +kernel
theorem dX12_numberOf_87 : decode cX12_numberOf 87 = .ok (.iconst 1, 1) := by decide +kernel
theorem dX12_numberOf_88 : decode cX12_numberOf 88 = .ok (.isub, 1) := by decide +kernel
theorem dX12_numberOf_89 : decode cX12_numberOf 89 = .ok (.istore 6, 2) := by decide +kernel
theorem dX12_numberOf_91 : decode cX12_numberOf 91 = .ok (.goto 9, 3) := by decide +kernel
theorem dX12_numberOf_94 : decode cX12_numberOf 94 = .ok (.iload 7, 2) := by decide +kernel
theorem dX12_numberOf_96 : decode cX12_numberOf 96 = .ok (.iconst 1, 1) := by decide +kernel
theorem dX12_numberOf_97 : decode cX12_numberOf 97 = .ok (.iadd, 1) := by decide +kernel
theorem dX12_numberOf_98 : decode cX12_numberOf 98 = .ok (.istore 5, 2) := by decide +kernel
theorem dX12_numberOf_100 : decode cX12_numberOf 100 = .ok (.goto (-55), 3) := by decide +kernel
theorem dX12_numberOf_103 : decode cX12_numberOf 103 = .ok (.iconst (-1), 1) := by decide +kernel
theorem dX12_numberOf_104 : decode cX12_numberOf 104 = .ok (.ireturn, 1) := by decide +kernel
theorem dX12_put_0 : decode cX12_put 0 = .ok (.iload_n 1, 1) := by decide +kernel
theorem dX12_put_1 : decode cX12_put 1 = .ok (.invokestatic 165, 3) := by decide +kernel
theorem dX12_put_4 : decode cX12_put 4 = .ok (.ifCond .eq 24, 3) := by decide +kernel
theorem dX12_put_7 : decode cX12_put 7 = .ok (.iload_n 2, 1) := by decide +kernel
theorem dX12_put_8 : decode cX12_put 8 = .ok (.invokestatic 168, 3) := by decide +kernel
theorem dX12_put_11 : decode cX12_put 11 = .ok (.ifCond .eq 17, 3) := by decide +kernel
theorem dX12_put_14 : decode cX12_put 14 = .ok (.iload_n 3, 1) := by decide +kernel
theorem dX12_put_15 : decode cX12_put 15 = .ok (.i2l, 1) := by decide +kernel
theorem dX12_put_16 : decode cX12_put 16 = .ok (.ldc2_w 99, 3) := by decide +kernel
theorem dX12_put_19 : decode cX12_put 19 = .ok (.ldc2_w 101, 3) := by decide +kernel
theorem dX12_put_22 : decode cX12_put 22 = .ok (.invokestatic 95, 3) := by decide +kernel
theorem dX12_put_25 : decode cX12_put 25 = .ok (.ifCond .ne 5, 3) := by decide +kernel
theorem dX12_put_28 : decode cX12_put 28 = .ok (.iconst 0, 1) := by decide +kernel
theorem dX12_put_29 : decode cX12_put 29 = .ok (.ireturn, 1) := by decide +kernel
theorem dX12_put_30 : decode cX12_put 30 = .ok (.aload_n 0, 1) := by decide +kernel
theorem dX12_put_31 : decode cX12_put 31 = .ok (.getfield 17, 3) := by decide +kernel
theorem dX12_put_34 : decode cX12_put 34 = .ok (.bipush 8, 2) := by decide +kernel
theorem dX12_put_36 : decode cX12_put 36 = .ok (.iload_n 1, 1) := by decide +kernel
theorem dX12_put_37 : decode cX12_put 37 = .ok (.imul, 1) := by decide +kernel
theorem dX12_put_38 : decode cX12_put 38 = .ok (.iload_n 2, 1) := by decide +kernel
theorem dX12_put_39 : decode cX12_put 39 = .ok (.iadd, 1) := by decide +kernel
theorem dX12_put_40 : decode cX12_put 40 = .ok (.iload_n 3, 1) := by decide +kernel
theorem dX12_put_41 : decode cX12_put 41 = .ok (.iastore, 1) := by decide +kernel
theorem dX12_put_42 : decode cX12_put 42 = .ok (.iconst 1, 1) := by decide +kernel
theorem dX12_put_43 : decode cX12_put 43 = .ok (.ireturn, 1) := by decide +kernel
theorem dX12_one_0 : decode cX12_one 0 = .ok (.iload_n 1, 1) := by decide +kernel
theorem dX12_one_1 : decode cX12_one 1 = .ok (.invokestatic 165, 3) := by decide +kernel
theorem dX12_one_4 : decode cX12_one 4 = .ok (.ifCond .eq 10, 3) := by decide +kernel
theorem dX12_one_7 : decode cX12_one 7 = .ok (.iload_n 2, 1) := by decide +kernel
theorem dX12_one_8 : decode cX12_one 8 = .ok (.invokestatic 168, 3) := by decide +kernel
theorem dX12_one_11 : decode cX12_one 11 = .ok (.ifCond .ne 5, 3) := by decide +kernel
theorem dX12_one_14 : decode cX12_one 14 = .ok (.iconst 0, 1) := by decide +kernel
theorem dX12_one_15 : decode cX12_one 15 = .ok (.ireturn, 1) := by decide +kernel
theorem dX12_one_16 : decode cX12_one 16 = .ok (.aload_n 0, 1) := by decide +kernel
theorem dX12_one_17 : decode cX12_one 17 = .ok (.iload_n 1, 1) := by decide +kernel
theorem dX12_one_18 : decode cX12_one 18 = .ok (.invokevirtual 171, 3) := by decide +kernel
theorem dX12_one_21 : decode cX12_one 21 = .ok (.aload_n 0, 1) := by decide +kernel
theorem dX12_one_22 : decode cX12_one 22 = .ok (.getfield 17, 3) := by decide +kernel
theorem dX12_one_25 : decode cX12_one 25 = .ok (.bipush 8, 2) := by decide +kernel
theorem dX12_one_27 : decode cX12_one 27 = .ok (.iload_n 1, 1) := by decide +kernel
theorem dX12_one_28 : decode cX12_one 28 = .ok (.imul, 1) := by decide +kernel
theorem dX12_one_29 : decode cX12_one 29 = .ok (.iload_n 2, 1) := by decide +kernel
theorem dX12_one_30 : decode cX12_one 30 = .ok (.iadd, 1) := by decide +kernel
theorem dX12_one_31 : decode cX12_one 31 = .ok (.iconst 2, 1) := by decide +kernel
theorem dX12_one_32 : decode cX12_one 32 = .ok (.iastore, 1) := by decide +kernel
theorem dX12_one_33 : decode cX12_one 33 = .ok (.iconst 1, 1) := by decide +kernel
theorem dX12_one_34 : decode cX12_one 34 = .ok (.ireturn, 1) := by decide +kernel
theorem dX12_listed_0 : decode cX12_listed 0 = .ok (.iload_n 1, 1) := by decide +kernel
theorem dX12_listed_1 : decode cX12_listed 1 = .ok (.invokestatic 165, 3) := by decide +kernel
theorem dX12_listed_4 : decode cX12_listed 4 = .ok (.ifCond .eq 27, 3) := by decide +kernel
theorem dX12_listed_7 : decode cX12_listed 7 = .ok (.iload_n 2, 1) := by decide +kernel
theorem dX12_listed_8 : decode cX12_listed 8 = .ok (.invokestatic 175, 3) := by decide +kernel
theorem dX12_listed_11 : decode cX12_listed 11 = .ok (.ifCond .eq 20, 3) := by decide +kernel
theorem dX12_listed_14 : decode cX12_listed 14 = .ok (.iload_n 3, 1) := by decide +kernel
theorem dX12_listed_15 : decode cX12_listed 15 = .ok (.i2l, 1) := by decide +kernel
theorem dX12_listed_16 : decode cX12_listed 16 = .ok (.lconst 0, 1) := by decide +kernel
theorem dX12_listed_17 : decode cX12_listed 17 = .ok (.aload_n 0, 1) := by decide +kernel
theorem dX12_listed_18 : decode cX12_listed 18 = .ok (.iload_n 2, 1) := by decide +kernel
theorem dX12_listed_19 : decode cX12_listed 19 = .ok (.invokevirtual 158, 3) := by decide +kernel
theorem dX12_listed_22 : decode cX12_listed 22 = .ok (.iconst 1, 1) := by decide +kernel
theorem dX12_listed_23 : decode cX12_listed 23 = .ok (.isub, 1) := by decide +kernel
theorem dX12_listed_24 : decode cX12_listed 24 = .ok (.i2l, 1) := by decide +kernel
theorem dX12_listed_25 : decode cX12_listed 25 = .ok (.invokestatic 95, 3) := by decide +kernel
theorem dX12_listed_28 : decode cX12_listed 28 = .ok (.ifCond .ne 5, 3) := by decide +kernel
theorem dX12_listed_31 : decode cX12_listed 31 = .ok (.iconst 0, 1) := by decide +kernel
theorem dX12_listed_32 : decode cX12_listed 32 = .ok (.ireturn, 1) := by decide +kernel
theorem dX12_listed_33 : decode cX12_listed 33 = .ok (.aload_n 0, 1) := by decide +kernel
theorem dX12_listed_34 : decode cX12_listed 34 = .ok (.iload_n 1, 1) := by decide +kernel
theorem dX12_listed_35 : decode cX12_listed 35 = .ok (.iload_n 2, 1) := by decide +kernel
theorem dX12_listed_36 : decode cX12_listed 36 = .ok (.iload_n 3, 1) := by decide +kernel
theorem dX12_listed_37 : decode cX12_listed 37 = .ok (.invokevirtual 178, 3) := by decide +kernel
theorem dX12_listed_40 : decode cX12_listed 40 = .ok (.iconst 1, 1) := by decide +kernel
theorem dX12_listed_41 : decode cX12_listed 41 = .ok (.ireturn, 1) := by decide +kernel
theorem dX12_copy_0 : decode cX12_copy 0 = .ok (.iload_n 1, 1) := by decide +kernel
theorem dX12_copy_1 : decode cX12_copy 1 = .ok (.invokestatic 165, 3) := by decide +kernel
theorem dX12_copy_4 : decode cX12_copy 4 = .ok (.ifCond .eq 10, 3) := by decide +kernel
theorem dX12_copy_7 : decode cX12_copy 7 = .ok (.iload_n 2, 1) := by decide +kernel
theorem dX12_copy_8 : decode cX12_copy 8 = .ok (.invokestatic 165, 3) := by decide +kernel
theorem dX12_copy_11 : decode cX12_copy 11 = .ok (.ifCond .ne 5, 3) := by decide +kernel
theorem dX12_copy_14 : decode cX12_copy 14 = .ok (.iconst 0, 1) := by decide +kernel
theorem dX12_copy_15 : decode cX12_copy 15 = .ok (.ireturn, 1) := by decide +kernel
theorem dX12_copy_16 : decode cX12_copy 16 = .ok (.aload_n 0, 1) := by decide +kernel
theorem dX12_copy_17 : decode cX12_copy 17 = .ok (.iload_n 1, 1) := by decide +kernel
theorem dX12_copy_18 : decode cX12_copy 18 = .ok (.iload_n 2, 1) := by decide +kernel
theorem dX12_copy_19 : decode cX12_copy 19 = .ok (.invokevirtual 182, 3) := by decide +kernel
theorem dX12_copy_22 : decode cX12_copy 22 = .ok (.iconst 1, 1) := by decide +kernel
theorem dX12_copy_23 : decode cX12_copy 23 = .ok (.ireturn, 1) := by decide +kernel
theorem dX12_order_0 : decode cX12_order 0 = .ok (.iload_n 1, 1) := by decide +kernel
theorem dX12_order_1 : decode cX12_order 1 = .ok (.i2l, 1) := by decide +kernel
theorem dX12_order_2 : decode cX12_order 2 = .ok (.lconst 0, 1) := by decide +kernel
theorem dX12_order_3 : decode cX12_order 3 = .ok (.ldc2_w 93, 3) := by decide +kernel
theorem dX12_order_6 : decode cX12_order 6 = .ok (.invokestatic 95, 3) := by decide +kernel
theorem dX12_order_9 : decode cX12_order 9 = .ok (.ifCond .ne 5, 3) := by decide +kernel
theorem dX12_order_12 : decode cX12_order 12 = .ok (.iconst (-1), 1) := by decide +kernel
theorem dX12_order_13 : decode cX12_order 13 = .ok (.ireturn, 1) := by decide +kernel
theorem dX12_order_14 : decode cX12_order 14 = .ok (.aload_n 0, 1) := by decide +kernel
theorem dX12_order_15 : decode cX12_order 15 = .ok (.getfield 24, 3) := by decide +kernel
theorem dX12_order_18 : decode cX12_order 18 = .ok (.istore_n 2, 1) := by decide +kernel
theorem dX12_order_19 : decode cX12_order 19 = .ok (.aload_n 0, 1) := by decide +kernel
theorem dX12_order_20 : decode cX12_order 20 = .ok (.iload_n 1, 1) := by decide +kernel
theorem dX12_order_21 : decode cX12_order 21 = .ok (.putfield 24, 3) := by decide +kernel
theorem dX12_order_24 : decode cX12_order 24 = .ok (.iload_n 2, 1) := by decide +kernel
theorem dX12_order_25 : decode cX12_order 25 = .ok (.ireturn, 1) := by decide +kernel
theorem dX12_can_0 : decode cX12_can 0 = .ok (.iload_n 0, 1) := by decide +kernel
theorem dX12_can_1 : decode cX12_can 1 = .ok (.ifCond .eq 7, 3) := by decide +kernel
theorem dX12_can_4 : decode cX12_can 4 = .ok (.iconst 1, 1) := by decide +kernel
theorem dX12_can_5 : decode cX12_can 5 = .ok (.goto 5, 3) := by decide +kernel
theorem dX12_can_8 : decode cX12_can 8 = .ok (.bipush (-2), 2) := by decide +kernel
theorem dX12_can_10 : decode cX12_can 10 = .ok (.ireturn, 1) := by decide +kernel
theorem dX12_ends_0 : decode cX12_ends 0 = .ok (.iload_n 1, 1) := by decide +kernel
theorem dX12_ends_1 : decode cX12_ends 1 = .ok (.ifCond .eq 9, 3) := by decide +kernel
theorem dX12_ends_4 : decode cX12_ends 4 = .ok (.aload_n 0, 1) := by decide +kernel
theorem dX12_ends_5 : decode cX12_ends 5 = .ok (.iload_n 2, 1) := by decide +kernel
theorem dX12_ends_6 : decode cX12_ends 6 = .ok (.iload_n 3, 1) := by decide +kernel
theorem dX12_ends_7 : decode cX12_ends 7 = .ok (.invokevirtual 182, 3) := by decide +kernel
theorem dX12_ends_10 : decode cX12_ends 10 = .ok (.iload_n 1, 1) := by decide +kernel
theorem dX12_ends_11 : decode cX12_ends 11 = .ok (.invokestatic 185, 3) := by decide +kernel
theorem dX12_ends_14 : decode cX12_ends 14 = .ok (.ireturn, 1) := by decide +kernel
theorem dX12_areSlots_0 : decode cX12_areSlots 0 = .ok (.iload_n 0, 1) := by decide +kernel
theorem dX12_areSlots_1 : decode cX12_areSlots 1 = .ok (.invokestatic 165, 3) := by decide +kernel
theorem dX12_areSlots_4 : decode cX12_areSlots 4 = .ok (.ifCond .eq 21, 3) := by decide +kernel
theorem dX12_areSlots_7 : decode cX12_areSlots 7 = .ok (.iload_n 1, 1) := by decide +kernel
theorem dX12_areSlots_8 : decode cX12_areSlots 8 = .ok (.invokestatic 165, 3) := by decide +kernel
theorem dX12_areSlots_11 : decode cX12_areSlots 11 = .ok (.ifCond .eq 14, 3) := by decide +kernel
theorem dX12_areSlots_14 : decode cX12_areSlots 14 = .ok (.iload_n 2, 1) := by decide +kernel
theorem dX12_areSlots_15 : decode cX12_areSlots 15 = .ok (.invokestatic 165, 3) := by decide +kernel
theorem dX12_areSlots_18 : decode cX12_areSlots 18 = .ok (.ifCond .eq 7, 3) := by decide +kernel
theorem dX12_areSlots_21 : decode cX12_areSlots 21 = .ok (.iconst 1, 1) := by decide +kernel
theorem dX12_areSlots_22 : decode cX12_areSlots 22 = .ok (.goto 4, 3) := by decide +kernel
theorem dX12_areSlots_25 : decode cX12_areSlots 25 = .ok (.iconst 0, 1) := by decide +kernel
theorem dX12_areSlots_26 : decode cX12_areSlots 26 = .ok (.ireturn, 1) := by decide +kernel
theorem dX12_sum_0 : decode cX12_sum 0 = .ok (.iload_n 1, 1) := by decide +kernel
theorem dX12_sum_1 : decode cX12_sum 1 = .ok (.iload_n 2, 1) := by decide +kernel
theorem dX12_sum_2 : decode cX12_sum 2 = .ok (.iload_n 3, 1) := by decide +kernel
theorem dX12_sum_3 : decode cX12_sum 3 = .ok (.invokestatic 189, 3) := by decide +kernel
theorem dX12_sum_6 : decode cX12_sum 6 = .ok (.ifCond .eq 17, 3) := by decide +kernel
theorem dX12_sum_9 : decode cX12_sum 9 = .ok (.aload_n 0, 1) := by decide +kernel
theorem dX12_sum_10 : decode cX12_sum 10 = .ok (.iload_n 1, 1) := by decide +kernel
theorem dX12_sum_11 : decode cX12_sum 11 = .ok (.iload_n 2, 1) := by decide +kernel
theorem dX12_sum_12 : decode cX12_sum 12 = .ok (.iload_n 3, 1) := by decide +kernel
theorem dX12_sum_13 : decode cX12_sum 13 = .ok (.iconst 1, 1) := by decide +kernel
theorem dX12_sum_14 : decode cX12_sum 14 = .ok (.invokevirtual 193, 3) := by decide +kernel
theorem dX12_sum_17 : decode cX12_sum 17 = .ok (.invokestatic 185, 3) := by decide +kernel
theorem dX12_sum_20 : decode cX12_sum 20 = .ok (.goto 4, 3) := by decide +kernel
theorem dX12_sum_23 : decode cX12_sum 23 = .ok (.iconst (-1), 1) := by decide +kernel
theorem dX12_sum_24 : decode cX12_sum 24 = .ok (.ireturn, 1) := by decide +kernel
theorem dX12_less_0 : decode cX12_less 0 = .ok (.iload_n 1, 1) := by decide +kernel
theorem dX12_less_1 : decode cX12_less 1 = .ok (.iload_n 2, 1) := by decide +kernel
theorem dX12_less_2 : decode cX12_less 2 = .ok (.iload_n 3, 1) := by decide +kernel
theorem dX12_less_3 : decode cX12_less 3 = .ok (.invokestatic 189, 3) := by decide +kernel
theorem dX12_less_6 : decode cX12_less 6 = .ok (.ifCond .eq 17, 3) := by decide +kernel
theorem dX12_less_9 : decode cX12_less 9 = .ok (.aload_n 0, 1) := by decide +kernel
theorem dX12_less_10 : decode cX12_less 10 = .ok (.iload_n 1, 1) := by decide +kernel
theorem dX12_less_11 : decode cX12_less 11 = .ok (.iload_n 2, 1) := by decide +kernel
theorem dX12_less_12 : decode cX12_less 12 = .ok (.iload_n 3, 1) := by decide +kernel
theorem dX12_less_13 : decode cX12_less 13 = .ok (.iconst (-1), 1) := by decide +kernel
theorem dX12_less_14 : decode cX12_less 14 = .ok (.invokevirtual 193, 3) := by decide +kernel
theorem dX12_less_17 : decode cX12_less 17 = .ok (.invokestatic 185, 3) := by decide +kernel
theorem dX12_less_20 : decode cX12_less 20 = .ok (.goto 4, 3) := by decide +kernel
theorem dX12_less_23 : decode cX12_less 23 = .ok (.iconst (-1), 1) := by decide +kernel
theorem dX12_less_24 : decode cX12_less 24 = .ok (.ireturn, 1) := by decide +kernel
theorem dX12_product_0 : decode cX12_product 0 = .ok (.iload_n 1, 1) := by decide +kernel
theorem dX12_product_1 : decode cX12_product 1 = .ok (.iload_n 2, 1) := by decide +kernel
theorem dX12_product_2 : decode cX12_product 2 = .ok (.iload_n 3, 1) := by decide +kernel
theorem dX12_product_3 : decode cX12_product 3 = .ok (.invokestatic 189, 3) := by decide +kernel
theorem dX12_product_6 : decode cX12_product 6 = .ok (.ifCond .eq 16, 3) := by decide +kernel
theorem dX12_product_9 : decode cX12_product 9 = .ok (.aload_n 0, 1) := by decide +kernel
theorem dX12_product_10 : decode cX12_product 10 = .ok (.iload_n 1, 1) := by decide +kernel
theorem dX12_product_11 : decode cX12_product 11 = .ok (.iload_n 2, 1) := by decide +kernel
theorem dX12_product_12 : decode cX12_product 12 = .ok (.iload_n 3, 1) := by decide +kernel
theorem dX12_product_13 : decode cX12_product 13 = .ok (.invokevirtual 197, 3) := by decide +kernel
theorem dX12_product_16 : decode cX12_product 16 = .ok (.invokestatic 185, 3) := by decide +kernel
theorem dX12_product_19 : decode cX12_product 19 = .ok (.goto 4, 3) := by decide +kernel
theorem dX12_product_22 : decode cX12_product 22 = .ok (.iconst (-1), 1) := by decide +kernel
theorem dX12_product_23 : decode cX12_product 23 = .ok (.ireturn, 1) := by decide +kernel
theorem dX12_mirror_0 : decode cX12_mirror 0 = .ok (.iload_n 1, 1) := by decide +kernel
theorem dX12_mirror_1 : decode cX12_mirror 1 = .ok (.invokestatic 165, 3) := by decide +kernel
theorem dX12_mirror_4 : decode cX12_mirror 4 = .ok (.ifCond .eq 10, 3) := by decide +kernel
theorem dX12_mirror_7 : decode cX12_mirror 7 = .ok (.iload_n 2, 1) := by decide +kernel
theorem dX12_mirror_8 : decode cX12_mirror 8 = .ok (.invokestatic 165, 3) := by decide +kernel
theorem dX12_mirror_11 : decode cX12_mirror 11 = .ok (.ifCond .ne 5, 3) := by decide +kernel
theorem dX12_mirror_14 : decode cX12_mirror 14 = .ok (.iconst (-1), 1) := by decide +kernel
theorem dX12_mirror_15 : decode cX12_mirror 15 = .ok (.ireturn, 1) := by decide +kernel
theorem dX12_mirror_16 : decode cX12_mirror 16 = .ok (.aload_n 0, 1) := by decide +kernel
theorem dX12_mirror_17 : decode cX12_mirror 17 = .ok (.iload_n 1, 1) := by decide +kernel
theorem dX12_mirror_18 : decode cX12_mirror 18 = .ok (.iload_n 2, 1) := by decide +kernel
theorem dX12_mirror_19 : decode cX12_mirror 19 = .ok (.invokevirtual 200, 3) := by decide +kernel
theorem dX12_mirror_22 : decode cX12_mirror 22 = .ok (.iconst 1, 1) := by decide +kernel
theorem dX12_mirror_23 : decode cX12_mirror 23 = .ok (.ireturn, 1) := by decide +kernel
theorem dX12_times_0 : decode cX12_times 0 = .ok (.iload_n 1, 1) := by decide +kernel
theorem dX12_times_1 : decode cX12_times 1 = .ok (.invokestatic 165, 3) := by decide +kernel
theorem dX12_times_4 : decode cX12_times 4 = .ok (.ifCond .eq 24, 3) := by decide +kernel
theorem dX12_times_7 : decode cX12_times 7 = .ok (.iload_n 2, 1) := by decide +kernel
theorem dX12_times_8 : decode cX12_times 8 = .ok (.invokestatic 165, 3) := by decide +kernel
theorem dX12_times_11 : decode cX12_times 11 = .ok (.ifCond .eq 17, 3) := by decide +kernel
theorem dX12_times_14 : decode cX12_times 14 = .ok (.iload_n 3, 1) := by decide +kernel
theorem dX12_times_15 : decode cX12_times 15 = .ok (.i2l, 1) := by decide +kernel
theorem dX12_times_16 : decode cX12_times 16 = .ok (.ldc2_w 203, 3) := by decide +kernel
theorem dX12_times_19 : decode cX12_times 19 = .ok (.ldc2_w 205, 3) := by decide +kernel
theorem dX12_times_22 : decode cX12_times 22 = .ok (.invokestatic 95, 3) := by decide +kernel
theorem dX12_times_25 : decode cX12_times 25 = .ok (.ifCond .ne 5, 3) := by decide +kernel
theorem dX12_times_28 : decode cX12_times 28 = .ok (.iconst (-1), 1) := by decide +kernel
theorem dX12_times_29 : decode cX12_times 29 = .ok (.ireturn, 1) := by decide +kernel
theorem dX12_times_30 : decode cX12_times 30 = .ok (.iconst 0, 1) := by decide +kernel
theorem dX12_times_31 : decode cX12_times 31 = .ok (.istore 4, 2) := by decide +kernel
theorem dX12_times_33 : decode cX12_times 33 = .ok (.iload 4, 2) := by decide +kernel
theorem dX12_times_35 : decode cX12_times 35 = .ok (.bipush 8, 2) := by decide +kernel
theorem dX12_times_37 : decode cX12_times 37 = .ok (.if_icmp .ge 32, 3) := by decide +kernel
theorem dX12_times_40 : decode cX12_times 40 = .ok (.aload_n 0, 1) := by decide +kernel
theorem dX12_times_41 : decode cX12_times 41 = .ok (.getfield 20, 3) := by decide +kernel
theorem dX12_times_44 : decode cX12_times 44 = .ok (.iload 4, 2) := by decide +kernel
theorem dX12_times_46 : decode cX12_times 46 = .ok (.iload_n 3, 1) := by decide +kernel
theorem dX12_times_47 : decode cX12_times 47 = .ok (.i2l, 1) := by decide +kernel
theorem dX12_times_48 : decode cX12_times 48 = .ok (.aload_n 0, 1) := by decide +kernel
theorem dX12_times_49 : decode cX12_times 49 = .ok (.getfield 17, 3) := by decide +kernel
theorem dX12_times_52 : decode cX12_times 52 = .ok (.bipush 8, 2) := by decide +kernel
theorem dX12_times_54 : decode cX12_times 54 = .ok (.iload_n 2, 1) := by decide +kernel
theorem dX12_times_55 : decode cX12_times 55 = .ok (.imul, 1) := by decide +kernel
theorem dX12_times_56 : decode cX12_times 56 = .ok (.iload 4, 2) := by decide +kernel
theorem dX12_times_58 : decode cX12_times 58 = .ok (.iadd, 1) := by decide +kernel
theorem dX12_times_59 : decode cX12_times 59 = .ok (.iaload, 1) := by decide +kernel
theorem dX12_times_60 : decode cX12_times 60 = .ok (.i2l, 1) := by decide +kernel
theorem dX12_times_61 : decode cX12_times 61 = .ok (.lmul, 1) := by decide +kernel
theorem dX12_times_62 : decode cX12_times 62 = .ok (.lastore, 1) := by decide +kernel
theorem dX12_times_63 : decode cX12_times 63 = .ok (.iinc 4 1, 3) := by decide +kernel
theorem dX12_times_66 : decode cX12_times 66 = .ok (.goto (-33), 3) := by decide +kernel
theorem dX12_times_69 : decode cX12_times 69 = .ok (.aload_n 0, 1) := by decide +kernel
theorem dX12_times_70 : decode cX12_times 70 = .ok (.iload_n 1, 1) := by decide +kernel
theorem dX12_times_71 : decode cX12_times 71 = .ok (.invokevirtual 109, 3) := by decide +kernel
theorem dX12_times_74 : decode cX12_times 74 = .ok (.invokestatic 185, 3) := by decide +kernel
theorem dX12_times_77 : decode cX12_times 77 = .ok (.ireturn, 1) := by decide +kernel
theorem dX12_isTurn_0 : decode cX12_isTurn 0 = .ok (.iload_n 0, 1) := by decide +kernel
theorem dX12_isTurn_1 : decode cX12_isTurn 1 = .ok (.i2l, 1) := by decide +kernel
theorem dX12_isTurn_2 : decode cX12_isTurn 2 = .ok (.lconst 0, 1) := by decide +kernel
theorem dX12_isTurn_3 : decode cX12_isTurn 3 = .ok (.ldc2_w 150, 3) := by decide +kernel
theorem dX12_isTurn_6 : decode cX12_isTurn 6 = .ok (.invokestatic 95, 3) := by decide +kernel
theorem dX12_isTurn_9 : decode cX12_isTurn 9 = .ok (.ireturn, 1) := by decide +kernel
theorem dX12_turns_0 : decode cX12_turns 0 = .ok (.iload 4, 2) := by decide +kernel
theorem dX12_turns_2 : decode cX12_turns 2 = .ok (.iconst 1, 1) := by decide +kernel
theorem dX12_turns_3 : decode cX12_turns 3 = .ok (.if_icmp .ne 11, 3) := by decide +kernel
theorem dX12_turns_6 : decode cX12_turns 6 = .ok (.aload_n 0, 1) := by decide +kernel
theorem dX12_turns_7 : decode cX12_turns 7 = .ok (.iload_n 1, 1) := by decide +kernel
theorem dX12_turns_8 : decode cX12_turns 8 = .ok (.iload_n 2, 1) := by decide +kernel
theorem dX12_turns_9 : decode cX12_turns 9 = .ok (.iload_n 3, 1) := by decide +kernel
theorem dX12_turns_10 : decode cX12_turns 10 = .ok (.invokevirtual 197, 3) := by decide +kernel
theorem dX12_turns_13 : decode cX12_turns 13 = .ok (.ireturn, 1) := by decide +kernel
theorem dX12_turns_14 : decode cX12_turns 14 = .ok (.aload_n 0, 1) := by decide +kernel
theorem dX12_turns_15 : decode cX12_turns 15 = .ok (.iload_n 1, 1) := by decide +kernel
theorem dX12_turns_16 : decode cX12_turns 16 = .ok (.iload_n 3, 1) := by decide +kernel
theorem dX12_turns_17 : decode cX12_turns 17 = .ok (.iload_n 2, 1) := by decide +kernel
theorem dX12_turns_18 : decode cX12_turns 18 = .ok (.invokevirtual 197, 3) := by decide +kernel
theorem dX12_turns_21 : decode cX12_turns 21 = .ok (.ifCond .ne 5, 3) := by decide +kernel
theorem dX12_turns_24 : decode cX12_turns 24 = .ok (.iconst 0, 1) := by decide +kernel
theorem dX12_turns_25 : decode cX12_turns 25 = .ok (.ireturn, 1) := by decide +kernel
theorem dX12_turns_26 : decode cX12_turns 26 = .ok (.iload 4, 2) := by decide +kernel
theorem dX12_turns_28 : decode cX12_turns 28 = .ok (.ifCond .ne 5, 3) := by decide +kernel
theorem dX12_turns_31 : decode cX12_turns 31 = .ok (.iconst 1, 1) := by decide +kernel
theorem dX12_turns_32 : decode cX12_turns 32 = .ok (.ireturn, 1) := by decide +kernel
theorem dX12_turns_33 : decode cX12_turns 33 = .ok (.aload_n 0, 1) := by decide +kernel
theorem dX12_turns_34 : decode cX12_turns 34 = .ok (.bipush 21, 2) := by decide +kernel
theorem dX12_turns_36 : decode cX12_turns 36 = .ok (.iload_n 3, 1) := by decide +kernel
theorem dX12_turns_37 : decode cX12_turns 37 = .ok (.invokevirtual 200, 3) := by decide +kernel
theorem dX12_turns_40 : decode cX12_turns 40 = .ok (.aload_n 0, 1) := by decide +kernel
theorem dX12_turns_41 : decode cX12_turns 41 = .ok (.iload_n 1, 1) := by decide +kernel
theorem dX12_turns_42 : decode cX12_turns 42 = .ok (.iload_n 1, 1) := by decide +kernel
theorem dX12_turns_43 : decode cX12_turns 43 = .ok (.iload 4, 2) := by decide +kernel
theorem dX12_turns_45 : decode cX12_turns 45 = .ok (.iconst 2, 1) := by decide +kernel
theorem dX12_turns_46 : decode cX12_turns 46 = .ok (.if_icmp .ne 7, 3) := by decide +kernel
theorem dX12_turns_49 : decode cX12_turns 49 = .ok (.iload_n 3, 1) := by decide +kernel
theorem dX12_turns_50 : decode cX12_turns 50 = .ok (.goto 5, 3) := by decide +kernel
theorem dX12_turns_53 : decode cX12_turns 53 = .ok (.bipush 21, 2) := by decide +kernel
theorem dX12_turns_55 : decode cX12_turns 55 = .ok (.invokevirtual 197, 3) := by decide +kernel
theorem dX12_turns_58 : decode cX12_turns 58 = .ok (.ireturn, 1) := by decide +kernel
theorem dX12_turn_0 : decode cX12_turn 0 = .ok (.iload_n 1, 1) := by decide +kernel
theorem dX12_turn_1 : decode cX12_turn 1 = .ok (.iload_n 2, 1) := by decide +kernel
theorem dX12_turn_2 : decode cX12_turn 2 = .ok (.iload_n 3, 1) := by decide +kernel
theorem dX12_turn_3 : decode cX12_turn 3 = .ok (.invokestatic 189, 3) := by decide +kernel
theorem dX12_turn_6 : decode cX12_turn 6 = .ok (.ifCond .eq 31, 3) := by decide +kernel
theorem dX12_turn_9 : decode cX12_turn 9 = .ok (.iload 4, 2) := by decide +kernel
theorem dX12_turn_11 : decode cX12_turn 11 = .ok (.invokestatic 207, 3) := by decide +kernel
theorem dX12_turn_14 : decode cX12_turn 14 = .ok (.ifCond .eq 23, 3) := by decide +kernel
theorem dX12_turn_17 : decode cX12_turn 17 = .ok (.aload_n 0, 1) := by decide +kernel
theorem dX12_turn_18 : decode cX12_turn 18 = .ok (.aload_n 0, 1) := by decide +kernel
theorem dX12_turn_19 : decode cX12_turn 19 = .ok (.bipush 9, 2) := by decide +kernel
theorem dX12_turn_21 : decode cX12_turn 21 = .ok (.iload_n 2, 1) := by decide +kernel
theorem dX12_turn_22 : decode cX12_turn 22 = .ok (.iload_n 3, 1) := by decide +kernel
theorem dX12_turn_23 : decode cX12_turn 23 = .ok (.iload 4, 2) := by decide +kernel
theorem dX12_turn_25 : decode cX12_turn 25 = .ok (.invokevirtual 210, 3) := by decide +kernel
theorem dX12_turn_28 : decode cX12_turn 28 = .ok (.iload_n 1, 1) := by decide +kernel
theorem dX12_turn_29 : decode cX12_turn 29 = .ok (.bipush 9, 2) := by decide +kernel
theorem dX12_turn_31 : decode cX12_turn 31 = .ok (.invokevirtual 213, 3) := by decide +kernel
theorem dX12_turn_34 : decode cX12_turn 34 = .ok (.goto 4, 3) := by decide +kernel
theorem dX12_turn_37 : decode cX12_turn 37 = .ok (.iconst (-1), 1) := by decide +kernel
theorem dX12_turn_38 : decode cX12_turn 38 = .ok (.ireturn, 1) := by decide +kernel
theorem dX12_isRow_0 : decode cX12_isRow 0 = .ok (.iload_n 0, 1) := by decide +kernel
theorem dX12_isRow_1 : decode cX12_isRow 1 = .ok (.i2l, 1) := by decide +kernel
theorem dX12_isRow_2 : decode cX12_isRow 2 = .ok (.iload_n 2, 1) := by decide +kernel
theorem dX12_isRow_3 : decode cX12_isRow 3 = .ok (.i2l, 1) := by decide +kernel
theorem dX12_isRow_4 : decode cX12_isRow 4 = .ok (.ldc2_w 217, 3) := by decide +kernel
theorem dX12_isRow_7 : decode cX12_isRow 7 = .ok (.invokestatic 95, 3) := by decide +kernel
theorem dX12_isRow_10 : decode cX12_isRow 10 = .ok (.ifCond .eq 11, 3) := by decide +kernel
theorem dX12_isRow_13 : decode cX12_isRow 13 = .ok (.iload_n 1, 1) := by decide +kernel
theorem dX12_isRow_14 : decode cX12_isRow 14 = .ok (.ifCond .lt 7, 3) := by decide +kernel
theorem dX12_isRow_17 : decode cX12_isRow 17 = .ok (.iconst 1, 1) := by decide +kernel
theorem dX12_isRow_18 : decode cX12_isRow 18 = .ok (.goto 4, 3) := by decide +kernel
theorem dX12_isRow_21 : decode cX12_isRow 21 = .ok (.iconst 0, 1) := by decide +kernel
theorem dX12_isRow_22 : decode cX12_isRow 22 = .ok (.ireturn, 1) := by decide +kernel
theorem dX12_slotIn_0 : decode cX12_slotIn 0 = .ok (.iload_n 0, 1) := by decide +kernel
theorem dX12_slotIn_1 : decode cX12_slotIn 1 = .ok (.iconst 3, 1) := by decide +kernel
theorem dX12_slotIn_2 : decode cX12_slotIn 2 = .ok (.iload_n 1, 1) := by decide +kernel
theorem dX12_slotIn_3 : decode cX12_slotIn 3 = .ok (.imul, 1) := by decide +kernel
theorem dX12_slotIn_4 : decode cX12_slotIn 4 = .ok (.ishr, 1) := by decide +kernel
theorem dX12_slotIn_5 : decode cX12_slotIn 5 = .ok (.bipush 7, 2) := by decide +kernel
theorem dX12_slotIn_7 : decode cX12_slotIn 7 = .ok (.iand, 1) := by decide +kernel
theorem dX12_slotIn_8 : decode cX12_slotIn 8 = .ok (.ireturn, 1) := by decide +kernel
theorem dX12_chain_0 : decode cX12_chain 0 = .ok (.iload_n 1, 1) := by decide +kernel
theorem dX12_chain_1 : decode cX12_chain 1 = .ok (.invokestatic 165, 3) := by decide +kernel
theorem dX12_chain_4 : decode cX12_chain 4 = .ok (.ifCond .eq 28, 3) := by decide +kernel
theorem dX12_chain_7 : decode cX12_chain 7 = .ok (.iload_n 2, 1) := by decide +kernel
theorem dX12_chain_8 : decode cX12_chain 8 = .ok (.invokestatic 165, 3) := by decide +kernel
theorem dX12_chain_11 : decode cX12_chain 11 = .ok (.ifCond .eq 21, 3) := by decide +kernel
theorem dX12_chain_14 : decode cX12_chain 14 = .ok (.iload_n 3, 1) := by decide +kernel
theorem dX12_chain_15 : decode cX12_chain 15 = .ok (.iload 4, 2) := by decide +kernel
theorem dX12_chain_17 : decode cX12_chain 17 = .ok (.iconst 1, 1) := by decide +kernel
theorem dX12_chain_18 : decode cX12_chain 18 = .ok (.invokestatic 219, 3) := by decide +kernel
theorem dX12_chain_21 : decode cX12_chain 21 = .ok (.ifCond .eq 11, 3) := by decide +kernel
theorem dX12_chain_24 : decode cX12_chain 24 = .ok (.iload 5, 2) := by decide +kernel
theorem dX12_chain_26 : decode cX12_chain 26 = .ok (.invokestatic 207, 3) := by decide +kernel
theorem dX12_chain_29 : decode cX12_chain 29 = .ok (.ifCond .ne 5, 3) := by decide +kernel
theorem dX12_chain_32 : decode cX12_chain 32 = .ok (.iconst (-1), 1) := by decide +kernel
theorem dX12_chain_33 : decode cX12_chain 33 = .ok (.ireturn, 1) := by decide +kernel
theorem dX12_chain_34 : decode cX12_chain 34 = .ok (.aload_n 0, 1) := by decide +kernel
theorem dX12_chain_35 : decode cX12_chain 35 = .ok (.bipush 10, 2) := by decide +kernel
theorem dX12_chain_37 : decode cX12_chain 37 = .ok (.iload_n 2, 1) := by decide +kernel
theorem dX12_chain_38 : decode cX12_chain 38 = .ok (.invokevirtual 182, 3) := by decide +kernel
theorem dX12_chain_41 : decode cX12_chain 41 = .ok (.iconst 1, 1) := by decide +kernel
theorem dX12_chain_42 : decode cX12_chain 42 = .ok (.istore 6, 2) := by decide +kernel
theorem dX12_chain_44 : decode cX12_chain 44 = .ok (.iconst 0, 1) := by decide +kernel
theorem dX12_chain_45 : decode cX12_chain 45 = .ok (.istore 7, 2) := by decide +kernel
theorem dX12_chain_47 : decode cX12_chain 47 = .ok (.iload 7, 2) := by decide +kernel
theorem dX12_chain_49 : decode cX12_chain 49 = .ok (.iload_n 3, 1) := by decide +kernel
theorem dX12_chain_50 : decode cX12_chain 50 = .ok (.if_icmp .ge 46, 3) := by decide +kernel
theorem dX12_chain_53 : decode cX12_chain 53 = .ok (.iload 6, 2) := by decide +kernel
theorem dX12_chain_55 : decode cX12_chain 55 = .ok (.ifCond .eq 41, 3) := by decide +kernel
theorem dX12_chain_58 : decode cX12_chain 58 = .ok (.aload_n 0, 1) := by decide +kernel
theorem dX12_chain_59 : decode cX12_chain 59 = .ok (.bipush 9, 2) := by decide +kernel
theorem dX12_chain_61 : decode cX12_chain 61 = .ok (.bipush 10, 2) := by decide +kernel
theorem dX12_chain_63 : decode cX12_chain 63 = .ok (.iload 4, 2) := by decide +kernel
theorem dX12_chain_65 : decode cX12_chain 65 = .ok (.iload 7, 2) := by decide +kernel
theorem dX12_chain_67 : decode cX12_chain 67 = .ok (.invokestatic 222, 3) := by decide +kernel
theorem dX12_chain_70 : decode cX12_chain 70 = .ok (.iload 5, 2) := by decide +kernel
theorem dX12_chain_72 : decode cX12_chain 72 = .ok (.invokevirtual 210, 3) := by decide +kernel
theorem dX12_chain_75 : decode cX12_chain 75 = .ok (.istore 6, 2) := by decide +kernel
theorem dX12_chain_77 : decode cX12_chain 77 = .ok (.iload 6, 2) := by decide +kernel
theorem dX12_chain_79 : decode cX12_chain 79 = .ok (.ifCond .eq 11, 3) := by decide +kernel
theorem dX12_chain_82 : decode cX12_chain 82 = .ok (.aload_n 0, 1) := by decide +kernel
theorem dX12_chain_83 : decode cX12_chain 83 = .ok (.bipush 10, 2) := by decide +kernel
theorem dX12_chain_85 : decode cX12_chain 85 = .ok (.bipush 9, 2) := by decide +kernel
theorem dX12_chain_87 : decode cX12_chain 87 = .ok (.invokevirtual 182, 3) := by decide +kernel
theorem dX12_chain_90 : decode cX12_chain 90 = .ok (.iinc 7 1, 3) := by decide +kernel
theorem dX12_chain_93 : decode cX12_chain 93 = .ok (.goto (-46), 3) := by decide +kernel
theorem dX12_chain_96 : decode cX12_chain 96 = .ok (.aload_n 0, 1) := by decide +kernel
theorem dX12_chain_97 : decode cX12_chain 97 = .ok (.iload 6, 2) := by decide +kernel
theorem dX12_chain_99 : decode cX12_chain 99 = .ok (.iload_n 1, 1) := by decide +kernel
theorem dX12_chain_100 : decode cX12_chain 100 = .ok (.bipush 10, 2) := by decide +kernel
theorem dX12_chain_102 : decode cX12_chain 102 = .ok (.invokevirtual 213, 3) := by decide +kernel
theorem dX12_chain_105 : decode cX12_chain 105 = .ok (.ireturn, 1) := by decide +kernel
theorem dX12_powers_0 : decode cX12_powers 0 = .ok (.aload_n 0, 1) := by decide +kernel
theorem dX12_powers_1 : decode cX12_powers 1 = .ok (.iload_n 1, 1) := by decide +kernel
theorem dX12_powers_2 : decode cX12_powers 2 = .ok (.iload_n 3, 1) := by decide +kernel
theorem dX12_powers_3 : decode cX12_powers 3 = .ok (.ifCond .ne 8, 3) := by decide +kernel
theorem dX12_powers_6 : decode cX12_powers 6 = .ok (.bipush 8, 2) := by decide +kernel
theorem dX12_powers_8 : decode cX12_powers 8 = .ok (.goto 4, 3) := by decide +kernel
theorem dX12_powers_11 : decode cX12_powers 11 = .ok (.iload_n 2, 1) := by decide +kernel
theorem dX12_powers_12 : decode cX12_powers 12 = .ok (.invokevirtual 182, 3) := by decide +kernel
theorem dX12_powers_15 : decode cX12_powers 15 = .ok (.iconst 1, 1) := by decide +kernel
theorem dX12_powers_16 : decode cX12_powers 16 = .ok (.istore 4, 2) := by decide +kernel
theorem dX12_powers_18 : decode cX12_powers 18 = .ok (.iload 4, 2) := by decide +kernel
theorem dX12_powers_20 : decode cX12_powers 20 = .ok (.iload_n 3, 1) := by decide +kernel
theorem dX12_powers_21 : decode cX12_powers 21 = .ok (.if_icmp .ge 21, 3) := by decide +kernel
theorem dX12_powers_24 : decode cX12_powers 24 = .ok (.aload_n 0, 1) := by decide +kernel
theorem dX12_powers_25 : decode cX12_powers 25 = .ok (.iload_n 1, 1) := by decide +kernel
theorem dX12_powers_26 : decode cX12_powers 26 = .ok (.iload_n 1, 1) := by decide +kernel
theorem dX12_powers_27 : decode cX12_powers 27 = .ok (.iload_n 2, 1) := by decide +kernel
theorem dX12_powers_28 : decode cX12_powers 28 = .ok (.invokevirtual 197, 3) := by decide +kernel
theorem dX12_powers_31 : decode cX12_powers 31 = .ok (.ifCond .ne 5, 3) := by decide +kernel
theorem dX12_powers_34 : decode cX12_powers 34 = .ok (.iconst 0, 1) := by decide +kernel
theorem dX12_powers_35 : decode cX12_powers 35 = .ok (.ireturn, 1) := by decide +kernel
theorem dX12_powers_36 : decode cX12_powers 36 = .ok (.iinc 4 1, 3) := by decide +kernel
theorem dX12_powers_39 : decode cX12_powers 39 = .ok (.goto (-21), 3) := by decide +kernel
theorem dX12_powers_42 : decode cX12_powers 42 = .ok (.iconst 1, 1) := by decide +kernel
theorem dX12_powers_43 : decode cX12_powers 43 = .ok (.ireturn, 1) := by decide +kernel
theorem dX12_power_0 : decode cX12_power 0 = .ok (.iload_n 1, 1) := by decide +kernel
theorem dX12_power_1 : decode cX12_power 1 = .ok (.invokestatic 165, 3) := by decide +kernel
theorem dX12_power_4 : decode cX12_power 4 = .ok (.ifCond .eq 40, 3) := by decide +kernel
theorem dX12_power_7 : decode cX12_power 7 = .ok (.iload_n 2, 1) := by decide +kernel
theorem dX12_power_8 : decode cX12_power 8 = .ok (.invokestatic 165, 3) := by decide +kernel
theorem dX12_power_11 : decode cX12_power 11 = .ok (.ifCond .eq 33, 3) := by decide +kernel
theorem dX12_power_14 : decode cX12_power 14 = .ok (.iload_n 3, 1) := by decide +kernel
theorem dX12_power_15 : decode cX12_power 15 = .ok (.i2l, 1) := by decide +kernel
theorem dX12_power_16 : decode cX12_power 16 = .ok (.lconst 0, 1) := by decide +kernel
theorem dX12_power_17 : decode cX12_power 17 = .ok (.ldc2_w 226, 3) := by decide +kernel
theorem dX12_power_20 : decode cX12_power 20 = .ok (.invokestatic 95, 3) := by decide +kernel
theorem dX12_power_23 : decode cX12_power 23 = .ok (.ifCond .eq 21, 3) := by decide +kernel
theorem dX12_power_26 : decode cX12_power 26 = .ok (.aload_n 0, 1) := by decide +kernel
theorem dX12_power_27 : decode cX12_power 27 = .ok (.aload_n 0, 1) := by decide +kernel
theorem dX12_power_28 : decode cX12_power 28 = .ok (.bipush 9, 2) := by decide +kernel
theorem dX12_power_30 : decode cX12_power 30 = .ok (.iload_n 2, 1) := by decide +kernel
theorem dX12_power_31 : decode cX12_power 31 = .ok (.iload_n 3, 1) := by decide +kernel
theorem dX12_power_32 : decode cX12_power 32 = .ok (.invokevirtual 228, 3) := by decide +kernel
theorem dX12_power_35 : decode cX12_power 35 = .ok (.iload_n 1, 1) := by decide +kernel
theorem dX12_power_36 : decode cX12_power 36 = .ok (.bipush 9, 2) := by decide +kernel
theorem dX12_power_38 : decode cX12_power 38 = .ok (.invokevirtual 213, 3) := by decide +kernel
theorem dX12_power_41 : decode cX12_power 41 = .ok (.goto 4, 3) := by decide +kernel
theorem dX12_power_44 : decode cX12_power 44 = .ok (.iconst (-1), 1) := by decide +kernel
theorem dX12_power_45 : decode cX12_power 45 = .ok (.ireturn, 1) := by decide +kernel
theorem dX12_associator_0 : decode cX12_associator 0 = .ok (.iload_n 1, 1) := by decide +kernel
theorem dX12_associator_1 : decode cX12_associator 1 = .ok (.iload_n 2, 1) := by decide +kernel
theorem dX12_associator_2 : decode cX12_associator 2 = .ok (.iload_n 3, 1) := by decide +kernel
theorem dX12_associator_3 : decode cX12_associator 3 = .ok (.invokestatic 189, 3) := by decide +kernel
theorem dX12_associator_6 : decode cX12_associator 6 = .ok (.ifCond .eq 11, 3) := by decide +kernel
theorem dX12_associator_9 : decode cX12_associator 9 = .ok (.iload 4, 2) := by decide +kernel
theorem dX12_associator_11 : decode cX12_associator 11 = .ok (.invokestatic 165, 3) := by decide +kernel
theorem dX12_associator_14 : decode cX12_associator 14 = .ok (.ifCond .ne 5, 3) := by decide +kernel
theorem dX12_associator_17 : decode cX12_associator 17 = .ok (.iconst (-1), 1) := by decide +kernel
theorem dX12_associator_18 : decode cX12_associator 18 = .ok (.ireturn, 1) := by decide +kernel
theorem dX12_associator_19 : decode cX12_associator 19 = .ok (.aload_n 0, 1) := by decide +kernel
theorem dX12_associator_20 : decode cX12_associator 20 = .ok (.bipush 9, 2) := by decide +kernel
theorem dX12_associator_22 : decode cX12_associator 22 = .ok (.iload_n 2, 1) := by decide +kernel
theorem dX12_associator_23 : decode cX12_associator 23 = .ok (.iload_n 3, 1) := by decide +kernel
theorem dX12_associator_24 : decode cX12_associator 24 = .ok (.invokevirtual 197, 3) := by decide +kernel
theorem dX12_associator_27 : decode cX12_associator 27 = .ok (.ifCond .eq 58, 3) := by decide +kernel
theorem dX12_associator_30 : decode cX12_associator 30 = .ok (.aload_n 0, 1) := by decide +kernel
theorem dX12_associator_31 : decode cX12_associator 31 = .ok (.bipush 9, 2) := by decide +kernel
theorem dX12_associator_33 : decode cX12_associator 33 = .ok (.bipush 9, 2) := by decide +kernel
theorem dX12_associator_35 : decode cX12_associator 35 = .ok (.iload 4, 2) := by decide +kernel
theorem dX12_associator_37 : decode cX12_associator 37 = .ok (.invokevirtual 197, 3) := by decide +kernel
theorem dX12_associator_40 : decode cX12_associator 40 = .ok (.ifCond .eq 45, 3) := by decide +kernel
theorem dX12_associator_43 : decode cX12_associator 43 = .ok (.aload_n 0, 1) := by decide +kernel
theorem dX12_associator_44 : decode cX12_associator 44 = .ok (.bipush 10, 2) := by decide +kernel
theorem dX12_associator_46 : decode cX12_associator 46 = .ok (.iload_n 3, 1) := by decide +kernel
theorem dX12_associator_47 : decode cX12_associator 47 = .ok (.iload 4, 2) := by decide +kernel
theorem dX12_associator_49 : decode cX12_associator 49 = .ok (.invokevirtual 197, 3) := by decide +kernel
theorem dX12_associator_52 : decode cX12_associator 52 = .ok (.ifCond .eq 33, 3) := by decide +kernel
theorem dX12_associator_55 : decode cX12_associator 55 = .ok (.aload_n 0, 1) := by decide +kernel
theorem dX12_associator_56 : decode cX12_associator 56 = .ok (.bipush 10, 2) := by decide +kernel
theorem dX12_associator_58 : decode cX12_associator 58 = .ok (.iload_n 2, 1) := by decide +kernel
theorem dX12_associator_59 : decode cX12_associator 59 = .ok (.bipush 10, 2) := by decide +kernel
theorem dX12_associator_61 : decode cX12_associator 61 = .ok (.invokevirtual 197, 3) := by decide +kernel
theorem dX12_associator_64 : decode cX12_associator 64 = .ok (.ifCond .eq 21, 3) := by decide +kernel
theorem dX12_associator_67 : decode cX12_associator 67 = .ok (.aload_n 0, 1) := by decide +kernel
theorem dX12_associator_68 : decode cX12_associator 68 = .ok (.bipush 9, 2) := by decide +kernel
theorem dX12_associator_70 : decode cX12_associator 70 = .ok (.bipush 9, 2) := by decide +kernel
theorem dX12_associator_72 : decode cX12_associator 72 = .ok (.bipush 10, 2) := by decide +kernel
theorem dX12_associator_74 : decode cX12_associator 74 = .ok (.iconst (-1), 1) := by decide +kernel
theorem dX12_associator_75 : decode cX12_associator 75 = .ok (.invokevirtual 193, 3) := by decide +kernel
theorem dX12_associator_78 : decode cX12_associator 78 = .ok (.ifCond .eq 7, 3) := by decide +kernel
theorem dX12_associator_81 : decode cX12_associator 81 = .ok (.iconst 1, 1) := by decide +kernel
theorem dX12_associator_82 : decode cX12_associator 82 = .ok (.goto 4, 3) := by decide +kernel
theorem dX12_associator_85 : decode cX12_associator 85 = .ok (.iconst 0, 1) := by decide +kernel
theorem dX12_associator_86 : decode cX12_associator 86 = .ok (.istore 5, 2) := by decide +kernel
theorem dX12_associator_88 : decode cX12_associator 88 = .ok (.aload_n 0, 1) := by decide +kernel
theorem dX12_associator_89 : decode cX12_associator 89 = .ok (.iload 5, 2) := by decide +kernel
theorem dX12_associator_91 : decode cX12_associator 91 = .ok (.iload_n 1, 1) := by decide +kernel
theorem dX12_associator_92 : decode cX12_associator 92 = .ok (.bipush 9, 2) := by decide +kernel
theorem dX12_associator_94 : decode cX12_associator 94 = .ok (.invokevirtual 213, 3) := by decide +kernel
theorem dX12_associator_97 : decode cX12_associator 97 = .ok (.ireturn, 1) := by decide +kernel
theorem dX12_commutator_0 : decode cX12_commutator 0 = .ok (.iload_n 1, 1) := by decide +kernel
theorem dX12_commutator_1 : decode cX12_commutator 1 = .ok (.iload_n 2, 1) := by decide +kernel
theorem dX12_commutator_2 : decode cX12_commutator 2 = .ok (.iload_n 3, 1) := by decide +kernel
theorem dX12_commutator_3 : decode cX12_commutator 3 = .ok (.invokestatic 189, 3) := by decide +kernel
theorem dX12_commutator_6 : decode cX12_commutator 6 = .ok (.ifCond .eq 54, 3) := by decide +kernel
theorem dX12_commutator_9 : decode cX12_commutator 9 = .ok (.aload_n 0, 1) := by decide +kernel
theorem dX12_commutator_10 : decode cX12_commutator 10 = .ok (.aload_n 0, 1) := by decide +kernel
theorem dX12_commutator_11 : decode cX12_commutator 11 = .ok (.bipush 9, 2) := by decide +kernel
theorem dX12_commutator_13 : decode cX12_commutator 13 = .ok (.iload_n 2, 1) := by decide +kernel
theorem dX12_commutator_14 : decode cX12_commutator 14 = .ok (.iload_n 3, 1) := by decide +kernel
theorem dX12_commutator_15 : decode cX12_commutator 15 = .ok (.invokevirtual 197, 3) := by decide +kernel
theorem dX12_commutator_18 : decode cX12_commutator 18 = .ok (.ifCond .eq 32, 3) := by decide +kernel
theorem dX12_commutator_21 : decode cX12_commutator 21 = .ok (.aload_n 0, 1) := by decide +kernel
theorem dX12_commutator_22 : decode cX12_commutator 22 = .ok (.bipush 10, 2) := by decide +kernel
theorem dX12_commutator_24 : decode cX12_commutator 24 = .ok (.iload_n 3, 1) := by decide +kernel
theorem dX12_commutator_25 : decode cX12_commutator 25 = .ok (.iload_n 2, 1) := by decide +kernel
theorem dX12_commutator_26 : decode cX12_commutator 26 = .ok (.invokevirtual 197, 3) := by decide +kernel
theorem dX12_commutator_29 : decode cX12_commutator 29 = .ok (.ifCond .eq 21, 3) := by decide +kernel
theorem dX12_commutator_32 : decode cX12_commutator 32 = .ok (.aload_n 0, 1) := by decide +kernel
theorem dX12_commutator_33 : decode cX12_commutator 33 = .ok (.bipush 9, 2) := by decide +kernel
theorem dX12_commutator_35 : decode cX12_commutator 35 = .ok (.bipush 9, 2) := by decide +kernel
theorem dX12_commutator_37 : decode cX12_commutator 37 = .ok (.bipush 10, 2) := by decide +kernel
theorem dX12_commutator_39 : decode cX12_commutator 39 = .ok (.iconst (-1), 1) := by decide +kernel
theorem dX12_commutator_40 : decode cX12_commutator 40 = .ok (.invokevirtual 193, 3) := by decide +kernel
theorem dX12_commutator_43 : decode cX12_commutator 43 = .ok (.ifCond .eq 7, 3) := by decide +kernel
theorem dX12_commutator_46 : decode cX12_commutator 46 = .ok (.iconst 1, 1) := by decide +kernel
theorem dX12_commutator_47 : decode cX12_commutator 47 = .ok (.goto 4, 3) := by decide +kernel
theorem dX12_commutator_50 : decode cX12_commutator 50 = .ok (.iconst 0, 1) := by decide +kernel
theorem dX12_commutator_51 : decode cX12_commutator 51 = .ok (.iload_n 1, 1) := by decide +kernel
theorem dX12_commutator_52 : decode cX12_commutator 52 = .ok (.bipush 9, 2) := by decide +kernel
theorem dX12_commutator_54 : decode cX12_commutator 54 = .ok (.invokevirtual 213, 3) := by decide +kernel
theorem dX12_commutator_57 : decode cX12_commutator 57 = .ok (.goto 4, 3) := by decide +kernel
theorem dX12_commutator_60 : decode cX12_commutator 60 = .ok (.iconst (-1), 1) := by decide +kernel
theorem dX12_commutator_61 : decode cX12_commutator 61 = .ok (.ireturn, 1) := by decide +kernel
theorem dX12_near_0 : decode cX12_near 0 = .ok (.ldc2_w 103, 3) := by decide +kernel
theorem dX12_near_3 : decode cX12_near 3 = .ok (.lload_n 2, 1) := by decide +kernel
theorem dX12_near_4 : decode cX12_near 4 = .ok (.lmul, 1) := by decide +kernel
theorem dX12_near_5 : decode cX12_near 5 = .ok (.lstore 5, 2) := by decide +kernel
theorem dX12_near_7 : decode cX12_near 7 = .ok (.lload_n 0, 1) := by decide +kernel
theorem dX12_near_8 : decode cX12_near 8 = .ok (.lload_n 2, 1) := by decide +kernel
theorem dX12_near_9 : decode cX12_near 9 = .ok (.iload 4, 2) := by decide +kernel
theorem dX12_near_11 : decode cX12_near 11 = .ok (.i2l, 1) := by decide +kernel
theorem dX12_near_12 : decode cX12_near 12 = .ok (.lmul, 1) := by decide +kernel
theorem dX12_near_13 : decode cX12_near 13 = .ok (.lsub, 1) := by decide +kernel
theorem dX12_near_14 : decode cX12_near 14 = .ok (.lstore 7, 2) := by decide +kernel
theorem dX12_near_16 : decode cX12_near 16 = .ok (.lload 7, 2) := by decide +kernel
theorem dX12_near_18 : decode cX12_near 18 = .ok (.lload 5, 2) := by decide +kernel
theorem dX12_near_20 : decode cX12_near 20 = .ok (.ldiv, 1) := by decide +kernel
theorem dX12_near_21 : decode cX12_near 21 = .ok (.lstore 9, 2) := by decide +kernel
theorem dX12_near_23 : decode cX12_near 23 = .ok (.lload 7, 2) := by decide +kernel
theorem dX12_near_25 : decode cX12_near 25 = .ok (.lload 5, 2) := by decide +kernel
theorem dX12_near_27 : decode cX12_near 27 = .ok (.lrem, 1) := by decide +kernel
theorem dX12_near_28 : decode cX12_near 28 = .ok (.lconst 0, 1) := by decide +kernel
theorem dX12_near_29 : decode cX12_near 29 = .ok (.lcmp, 1) := by decide +kernel
theorem dX12_near_30 : decode cX12_near 30 = .ok (.ifCond .ge 9, 3) := by decide +kernel
theorem dX12_near_33 : decode cX12_near 33 = .ok (.lload 9, 2) := by decide +kernel
theorem dX12_near_35 : decode cX12_near 35 = .ok (.lconst 1, 1) := by decide +kernel
theorem dX12_near_36 : decode cX12_near 36 = .ok (.lsub, 1) := by decide +kernel
theorem dX12_near_37 : decode cX12_near 37 = .ok (.lstore 9, 2) := by decide +kernel
theorem dX12_near_39 : decode cX12_near 39 = .ok (.iload 4, 2) := by decide +kernel
theorem dX12_near_41 : decode cX12_near 41 = .ok (.i2l, 1) := by decide +kernel
theorem dX12_near_42 : decode cX12_near 42 = .ok (.ldc2_w 103, 3) := by decide +kernel
theorem dX12_near_45 : decode cX12_near 45 = .ok (.lload 9, 2) := by decide +kernel
theorem dX12_near_47 : decode cX12_near 47 = .ok (.lmul, 1) := by decide +kernel
theorem dX12_near_48 : decode cX12_near 48 = .ok (.ladd, 1) := by decide +kernel
theorem dX12_near_49 : decode cX12_near 49 = .ok (.lstore 11, 2) := by decide +kernel
theorem dX12_near_51 : decode cX12_near 51 = .ok (.lload_n 0, 1) := by decide +kernel
theorem dX12_near_52 : decode cX12_near 52 = .ok (.lload_n 2, 1) := by decide +kernel
theorem dX12_near_53 : decode cX12_near 53 = .ok (.lload 11, 2) := by decide +kernel
theorem dX12_near_55 : decode cX12_near 55 = .ok (.lmul, 1) := by decide +kernel
theorem dX12_near_56 : decode cX12_near 56 = .ok (.lsub, 1) := by decide +kernel
theorem dX12_near_57 : decode cX12_near 57 = .ok (.lload_n 2, 1) := by decide +kernel
theorem dX12_near_58 : decode cX12_near 58 = .ok (.lload 11, 2) := by decide +kernel
theorem dX12_near_60 : decode cX12_near 60 = .ok (.ldc2_w 103, 3) := by decide +kernel
theorem dX12_near_63 : decode cX12_near 63 = .ok (.ladd, 1) := by decide +kernel
theorem dX12_near_64 : decode cX12_near 64 = .ok (.lmul, 1) := by decide +kernel
theorem dX12_near_65 : decode cX12_near 65 = .ok (.lload_n 0, 1) := by decide +kernel
theorem dX12_near_66 : decode cX12_near 66 = .ok (.lsub, 1) := by decide +kernel
theorem dX12_near_67 : decode cX12_near 67 = .ok (.lcmp, 1) := by decide +kernel
theorem dX12_near_68 : decode cX12_near 68 = .ok (.ifCond .gt 8, 3) := by decide +kernel
theorem dX12_near_71 : decode cX12_near 71 = .ok (.lload 11, 2) := by decide +kernel
theorem dX12_near_73 : decode cX12_near 73 = .ok (.goto 9, 3) := by decide +kernel
theorem dX12_near_76 : decode cX12_near 76 = .ok (.lload 11, 2) := by decide +kernel
theorem dX12_near_78 : decode cX12_near 78 = .ok (.ldc2_w 103, 3) := by decide +kernel
theorem dX12_near_81 : decode cX12_near 81 = .ok (.ladd, 1) := by decide +kernel
theorem dX12_near_82 : decode cX12_near 82 = .ok (.lreturn, 1) := by decide +kernel
theorem dX12_isAhead_0 : decode cX12_isAhead 0 = .ok (.iconst 0, 1) := by decide +kernel
theorem dX12_isAhead_1 : decode cX12_isAhead 1 = .ok (.istore_n 1, 1) := by decide +kernel
theorem dX12_isAhead_2 : decode cX12_isAhead 2 = .ok (.iload_n 1, 1) := by decide +kernel
theorem dX12_isAhead_3 : decode cX12_isAhead 3 = .ok (.bipush 8, 2) := by decide +kernel
theorem dX12_isAhead_5 : decode cX12_isAhead 5 = .ok (.if_icmp .ge 47, 3) := by decide +kernel
theorem dX12_isAhead_8 : decode cX12_isAhead 8 = .ok (.aload_n 0, 1) := by decide +kernel
theorem dX12_isAhead_9 : decode cX12_isAhead 9 = .ok (.getfield 46, 3) := by decide +kernel
theorem dX12_isAhead_12 : decode cX12_isAhead 12 = .ok (.iload_n 1, 1) := by decide +kernel
theorem dX12_isAhead_13 : decode cX12_isAhead 13 = .ok (.laload, 1) := by decide +kernel
theorem dX12_isAhead_14 : decode cX12_isAhead 14 = .ok (.aload_n 0, 1) := by decide +kernel
theorem dX12_isAhead_15 : decode cX12_isAhead 15 = .ok (.getfield 43, 3) := by decide +kernel
theorem dX12_isAhead_18 : decode cX12_isAhead 18 = .ok (.iload_n 1, 1) := by decide +kernel
theorem dX12_isAhead_19 : decode cX12_isAhead 19 = .ok (.laload, 1) := by decide +kernel
theorem dX12_isAhead_20 : decode cX12_isAhead 20 = .ok (.lcmp, 1) := by decide +kernel
theorem dX12_isAhead_21 : decode cX12_isAhead 21 = .ok (.ifCond .eq 25, 3) := by decide +kernel
theorem dX12_isAhead_24 : decode cX12_isAhead 24 = .ok (.aload_n 0, 1) := by decide +kernel
theorem dX12_isAhead_25 : decode cX12_isAhead 25 = .ok (.getfield 46, 3) := by decide +kernel
theorem dX12_isAhead_28 : decode cX12_isAhead 28 = .ok (.iload_n 1, 1) := by decide +kernel
theorem dX12_isAhead_29 : decode cX12_isAhead 29 = .ok (.laload, 1) := by decide +kernel
theorem dX12_isAhead_30 : decode cX12_isAhead 30 = .ok (.aload_n 0, 1) := by decide +kernel
theorem dX12_isAhead_31 : decode cX12_isAhead 31 = .ok (.getfield 43, 3) := by decide +kernel
theorem dX12_isAhead_34 : decode cX12_isAhead 34 = .ok (.iload_n 1, 1) := by decide +kernel
theorem dX12_isAhead_35 : decode cX12_isAhead 35 = .ok (.laload, 1) := by decide +kernel
theorem dX12_isAhead_36 : decode cX12_isAhead 36 = .ok (.lcmp, 1) := by decide +kernel
theorem dX12_isAhead_37 : decode cX12_isAhead 37 = .ok (.ifCond .ge 7, 3) := by decide +kernel
theorem dX12_isAhead_40 : decode cX12_isAhead 40 = .ok (.iconst 1, 1) := by decide +kernel
theorem dX12_isAhead_41 : decode cX12_isAhead 41 = .ok (.goto 4, 3) := by decide +kernel
theorem dX12_isAhead_44 : decode cX12_isAhead 44 = .ok (.iconst 0, 1) := by decide +kernel
theorem dX12_isAhead_45 : decode cX12_isAhead 45 = .ok (.ireturn, 1) := by decide +kernel
theorem dX12_isAhead_46 : decode cX12_isAhead 46 = .ok (.iinc 1 1, 3) := by decide +kernel
theorem dX12_isAhead_49 : decode cX12_isAhead 49 = .ok (.goto (-47), 3) := by decide +kernel
theorem dX12_isAhead_52 : decode cX12_isAhead 52 = .ok (.iconst 0, 1) := by decide +kernel
theorem dX12_isAhead_53 : decode cX12_isAhead 53 = .ok (.ireturn, 1) := by decide +kernel
theorem dX12_nears_0 : decode cX12_nears 0 = .ok (.ldc2_w 231, 3) := by decide +kernel
theorem dX12_nears_3 : decode cX12_nears 3 = .ok (.lstore_n 3, 1) := by decide +kernel
theorem dX12_nears_4 : decode cX12_nears 4 = .ok (.iconst 0, 1) := by decide +kernel
theorem dX12_nears_5 : decode cX12_nears 5 = .ok (.istore 5, 2) := by decide +kernel
theorem dX12_nears_7 : decode cX12_nears 7 = .ok (.iload 5, 2) := by decide +kernel
theorem dX12_nears_9 : decode cX12_nears 9 = .ok (.sipush 255, 3) := by decide +kernel
theorem dX12_nears_12 : decode cX12_nears 12 = .ok (.if_icmp .gt 168, 3) := by decide +kernel
theorem dX12_nears_15 : decode cX12_nears 15 = .ok (.aload_n 0, 1) := by decide +kernel
theorem dX12_nears_16 : decode cX12_nears 16 = .ok (.getfield 24, 3) := by decide +kernel
theorem dX12_nears_19 : decode cX12_nears 19 = .ok (.iload 5, 2) := by decide +kernel
theorem dX12_nears_21 : decode cX12_nears 21 = .ok (.invokestatic 131, 3) := by decide +kernel
theorem dX12_nears_24 : decode cX12_nears 24 = .ok (.ifCond .ne 6, 3) := by decide +kernel
theorem dX12_nears_27 : decode cX12_nears 27 = .ok (.goto 147, 3) := by decide +kernel
theorem dX12_nears_30 : decode cX12_nears 30 = .ok (.lconst 0, 1) := by decide +kernel
theorem dX12_nears_31 : decode cX12_nears 31 = .ok (.lstore 6, 2) := by decide +kernel
theorem dX12_nears_33 : decode cX12_nears 33 = .ok (.iconst 0, 1) := by decide +kernel
theorem dX12_nears_34 : decode cX12_nears 34 = .ok (.istore 8, 2) := by decide +kernel
theorem dX12_nears_36 : decode cX12_nears 36 = .ok (.iload 8, 2) := by decide +kernel
theorem dX12_nears_38 : decode cX12_nears 38 = .ok (.bipush 8, 2) := by decide +kernel
theorem dX12_nears_40 : decode cX12_nears 40 = .ok (.if_icmp .ge 71, 3) := by decide +kernel
theorem dX12_nears_43 : decode cX12_nears 43 = .ok (.aload_n 0, 1) := by decide +kernel
theorem dX12_nears_44 : decode cX12_nears 44 = .ok (.getfield 46, 3) := by decide +kernel
theorem dX12_nears_47 : decode cX12_nears 47 = .ok (.iload 8, 2) := by decide +kernel
theorem dX12_nears_49 : decode cX12_nears 49 = .ok (.aload_n 0, 1) := by decide +kernel
theorem dX12_nears_50 : decode cX12_nears 50 = .ok (.getfield 20, 3) := by decide +kernel
theorem dX12_nears_53 : decode cX12_nears 53 = .ok (.iload 8, 2) := by decide +kernel
theorem dX12_nears_55 : decode cX12_nears 55 = .ok (.laload, 1) := by decide +kernel
theorem dX12_nears_56 : decode cX12_nears 56 = .ok (.lload_n 1, 1) := by decide +kernel
theorem dX12_nears_57 : decode cX12_nears 57 = .ok (.iload 5, 2) := by decide +kernel
theorem dX12_nears_59 : decode cX12_nears 59 = .ok (.iload 8, 2) := by decide +kernel
theorem dX12_nears_61 : decode cX12_nears 61 = .ok (.invokestatic 121, 3) := by decide +kernel
theorem dX12_nears_64 : decode cX12_nears 64 = .ok (.ifCond .eq 7, 3) := by decide +kernel
theorem dX12_nears_67 : decode cX12_nears 67 = .ok (.iconst 1, 1) := by decide +kernel
theorem dX12_nears_68 : decode cX12_nears 68 = .ok (.goto 4, 3) := by decide +kernel
theorem dX12_nears_71 : decode cX12_nears 71 = .ok (.iconst 0, 1) := by decide +kernel
theorem dX12_nears_72 : decode cX12_nears 72 = .ok (.invokestatic 233, 3) := by decide +kernel
theorem dX12_nears_75 : decode cX12_nears 75 = .ok (.lastore, 1) := by decide +kernel
theorem dX12_nears_76 : decode cX12_nears 76 = .ok (.aload_n 0, 1) := by decide +kernel
theorem dX12_nears_77 : decode cX12_nears 77 = .ok (.getfield 20, 3) := by decide +kernel
theorem dX12_nears_80 : decode cX12_nears 80 = .ok (.iload 8, 2) := by decide +kernel
theorem dX12_nears_82 : decode cX12_nears 82 = .ok (.laload, 1) := by decide +kernel
theorem dX12_nears_83 : decode cX12_nears 83 = .ok (.lload_n 1, 1) := by decide +kernel
theorem dX12_nears_84 : decode cX12_nears 84 = .ok (.aload_n 0, 1) := by decide +kernel
theorem dX12_nears_85 : decode cX12_nears 85 = .ok (.getfield 46, 3) := by decide +kernel
theorem dX12_nears_88 : decode cX12_nears 88 = .ok (.iload 8, 2) := by decide +kernel
theorem dX12_nears_90 : decode cX12_nears 90 = .ok (.laload, 1) := by decide +kernel
theorem dX12_nears_91 : decode cX12_nears 91 = .ok (.lmul, 1) := by decide +kernel
theorem dX12_nears_92 : decode cX12_nears 92 = .ok (.lsub, 1) := by decide +kernel
theorem dX12_nears_93 : decode cX12_nears 93 = .ok (.lstore 9, 2) := by decide +kernel
theorem dX12_nears_95 : decode cX12_nears 95 = .ok (.lload 6, 2) := by decide +kernel
theorem dX12_nears_97 : decode cX12_nears 97 = .ok (.lload 9, 2) := by decide +kernel
theorem dX12_nears_99 : decode cX12_nears 99 = .ok (.lload 9, 2) := by decide +kernel
theorem dX12_nears_101 : decode cX12_nears 101 = .ok (.lmul, 1) := by decide +kernel
theorem dX12_nears_102 : decode cX12_nears 102 = .ok (.ladd, 1) := by decide +kernel
theorem dX12_nears_103 : decode cX12_nears 103 = .ok (.lstore 6, 2) := by decide +kernel
theorem dX12_nears_105 : decode cX12_nears 105 = .ok (.iinc 8 1, 3) := by decide +kernel
theorem dX12_nears_108 : decode cX12_nears 108 = .ok (.goto (-72), 3) := by decide +kernel
theorem dX12_nears_111 : decode cX12_nears 111 = .ok (.lload_n 3, 1) := by decide +kernel
theorem dX12_nears_112 : decode cX12_nears 112 = .ok (.lconst 0, 1) := by decide +kernel
theorem dX12_nears_113 : decode cX12_nears 113 = .ok (.lcmp, 1) := by decide +kernel
theorem dX12_nears_114 : decode cX12_nears 114 = .ok (.ifCond .lt 27, 3) := by decide +kernel
theorem dX12_nears_117 : decode cX12_nears 117 = .ok (.lload 6, 2) := by decide +kernel
theorem dX12_nears_119 : decode cX12_nears 119 = .ok (.lload_n 3, 1) := by decide +kernel
theorem dX12_nears_120 : decode cX12_nears 120 = .ok (.lcmp, 1) := by decide +kernel
theorem dX12_nears_121 : decode cX12_nears 121 = .ok (.ifCond .gt 53, 3) := by decide +kernel
theorem dX12_nears_124 : decode cX12_nears 124 = .ok (.lload 6, 2) := by decide +kernel
theorem dX12_nears_126 : decode cX12_nears 126 = .ok (.lload_n 3, 1) := by decide +kernel
theorem dX12_nears_127 : decode cX12_nears 127 = .ok (.lcmp, 1) := by decide +kernel
theorem dX12_nears_128 : decode cX12_nears 128 = .ok (.ifCond .ne 13, 3) := by decide +kernel
theorem dX12_nears_131 : decode cX12_nears 131 = .ok (.aload_n 0, 1) := by decide +kernel
theorem dX12_nears_132 : decode cX12_nears 132 = .ok (.invokevirtual 237, 3) := by decide +kernel
theorem dX12_nears_135 : decode cX12_nears 135 = .ok (.ifCond .ne 6, 3) := by decide +kernel
theorem dX12_nears_138 : decode cX12_nears 138 = .ok (.goto 36, 3) := by decide +kernel
theorem dX12_nears_141 : decode cX12_nears 141 = .ok (.lload 6, 2) := by decide +kernel
theorem dX12_nears_143 : decode cX12_nears 143 = .ok (.lstore_n 3, 1) := by decide +kernel
theorem dX12_nears_144 : decode cX12_nears 144 = .ok (.iconst 0, 1) := by decide +kernel
theorem dX12_nears_145 : decode cX12_nears 145 = .ok (.istore 8, 2) := by decide +kernel
theorem dX12_nears_147 : decode cX12_nears 147 = .ok (.iload 8, 2) := by decide +kernel
theorem dX12_nears_149 : decode cX12_nears 149 = .ok (.bipush 8, 2) := by decide +kernel
theorem dX12_nears_151 : decode cX12_nears 151 = .ok (.if_icmp .ge 23, 3) := by decide +kernel
theorem dX12_nears_154 : decode cX12_nears 154 = .ok (.aload_n 0, 1) := by decide +kernel
theorem dX12_nears_155 : decode cX12_nears 155 = .ok (.getfield 43, 3) := by decide +kernel
theorem dX12_nears_158 : decode cX12_nears 158 = .ok (.iload 8, 2) := by decide +kernel
theorem dX12_nears_160 : decode cX12_nears 160 = .ok (.aload_n 0, 1) := by decide +kernel
theorem dX12_nears_161 : decode cX12_nears 161 = .ok (.getfield 46, 3) := by decide +kernel
theorem dX12_nears_164 : decode cX12_nears 164 = .ok (.iload 8, 2) := by decide +kernel
theorem dX12_nears_166 : decode cX12_nears 166 = .ok (.laload, 1) := by decide +kernel
theorem dX12_nears_167 : decode cX12_nears 167 = .ok (.lastore, 1) := by decide +kernel
theorem dX12_nears_168 : decode cX12_nears 168 = .ok (.iinc 8 1, 3) := by decide +kernel
theorem dX12_nears_171 : decode cX12_nears 171 = .ok (.goto (-24), 3) := by decide +kernel
theorem dX12_nears_174 : decode cX12_nears 174 = .ok (.iinc 5 1, 3) := by decide +kernel
theorem dX12_nears_177 : decode cX12_nears 177 = .ok (.goto (-170), 3) := by decide +kernel
theorem dX12_nears_180 : decode cX12_nears 180 = .ok (.iconst 0, 1) := by decide +kernel
theorem dX12_nears_181 : decode cX12_nears 181 = .ok (.istore 5, 2) := by decide +kernel
theorem dX12_nears_183 : decode cX12_nears 183 = .ok (.iload 5, 2) := by decide +kernel
theorem dX12_nears_185 : decode cX12_nears 185 = .ok (.bipush 8, 2) := by decide +kernel
theorem dX12_nears_187 : decode cX12_nears 187 = .ok (.if_icmp .ge 23, 3) := by decide +kernel
theorem dX12_nears_190 : decode cX12_nears 190 = .ok (.aload_n 0, 1) := by decide +kernel
theorem dX12_nears_191 : decode cX12_nears 191 = .ok (.getfield 20, 3) := by decide +kernel
theorem dX12_nears_194 : decode cX12_nears 194 = .ok (.iload 5, 2) := by decide +kernel
theorem dX12_nears_196 : decode cX12_nears 196 = .ok (.aload_n 0, 1) := by decide +kernel
theorem dX12_nears_197 : decode cX12_nears 197 = .ok (.getfield 43, 3) := by decide +kernel
theorem dX12_nears_200 : decode cX12_nears 200 = .ok (.iload 5, 2) := by decide +kernel
theorem dX12_nears_202 : decode cX12_nears 202 = .ok (.laload, 1) := by decide +kernel
theorem dX12_nears_203 : decode cX12_nears 203 = .ok (.lastore, 1) := by decide +kernel
theorem dX12_nears_204 : decode cX12_nears 204 = .ok (.iinc 5 1, 3) := by decide +kernel
theorem dX12_nears_207 : decode cX12_nears 207 = .ok (.goto (-24), 3) := by decide +kernel
theorem dX12_nears_210 : decode cX12_nears 210 = .ok (.return_, 1) := by decide +kernel
theorem dX12_nearest_0 : decode cX12_nearest 0 = .ok (.iload_n 1, 1) := by decide +kernel
theorem dX12_nearest_1 : decode cX12_nearest 1 = .ok (.invokestatic 165, 3) := by decide +kernel
theorem dX12_nearest_4 : decode cX12_nearest 4 = .ok (.ifCond .eq 22, 3) := by decide +kernel
theorem dX12_nearest_7 : decode cX12_nearest 7 = .ok (.iload_n 2, 1) := by decide +kernel
theorem dX12_nearest_8 : decode cX12_nearest 8 = .ok (.invokestatic 165, 3) := by decide +kernel
theorem dX12_nearest_11 : decode cX12_nearest 11 = .ok (.ifCond .eq 15, 3) := by decide +kernel
theorem dX12_nearest_14 : decode cX12_nearest 14 = .ok (.iload_n 3, 1) := by decide +kernel
theorem dX12_nearest_15 : decode cX12_nearest 15 = .ok (.i2l, 1) := by decide +kernel
theorem dX12_nearest_16 : decode cX12_nearest 16 = .ok (.lconst 1, 1) := by decide +kernel
theorem dX12_nearest_17 : decode cX12_nearest 17 = .ok (.ldc2_w 205, 3) := by decide +kernel
theorem dX12_nearest_20 : decode cX12_nearest 20 = .ok (.invokestatic 95, 3) := by decide +kernel
theorem dX12_nearest_23 : decode cX12_nearest 23 = .ok (.ifCond .ne 5, 3) := by decide +kernel
theorem dX12_nearest_26 : decode cX12_nearest 26 = .ok (.iconst (-1), 1) := by decide +kernel
theorem dX12_nearest_27 : decode cX12_nearest 27 = .ok (.ireturn, 1) := by decide +kernel
theorem dX12_nearest_28 : decode cX12_nearest 28 = .ok (.iconst 0, 1) := by decide +kernel
theorem dX12_nearest_29 : decode cX12_nearest 29 = .ok (.istore 4, 2) := by decide +kernel
theorem dX12_nearest_31 : decode cX12_nearest 31 = .ok (.iload 4, 2) := by decide +kernel
theorem dX12_nearest_33 : decode cX12_nearest 33 = .ok (.bipush 8, 2) := by decide +kernel
theorem dX12_nearest_35 : decode cX12_nearest 35 = .ok (.if_icmp .ge 29, 3) := by decide +kernel
theorem dX12_nearest_38 : decode cX12_nearest 38 = .ok (.aload_n 0, 1) := by decide +kernel
theorem dX12_nearest_39 : decode cX12_nearest 39 = .ok (.getfield 20, 3) := by decide +kernel
theorem dX12_nearest_42 : decode cX12_nearest 42 = .ok (.iload 4, 2) := by decide +kernel
theorem dX12_nearest_44 : decode cX12_nearest 44 = .ok (.aload_n 0, 1) := by decide +kernel
theorem dX12_nearest_45 : decode cX12_nearest 45 = .ok (.getfield 17, 3) := by decide +kernel
theorem dX12_nearest_48 : decode cX12_nearest 48 = .ok (.bipush 8, 2) := by decide +kernel
theorem dX12_nearest_50 : decode cX12_nearest 50 = .ok (.iload_n 2, 1) := by decide +kernel
theorem dX12_nearest_51 : decode cX12_nearest 51 = .ok (.imul, 1) := by decide +kernel
theorem dX12_nearest_52 : decode cX12_nearest 52 = .ok (.iload 4, 2) := by decide +kernel
theorem dX12_nearest_54 : decode cX12_nearest 54 = .ok (.iadd, 1) := by decide +kernel
theorem dX12_nearest_55 : decode cX12_nearest 55 = .ok (.iaload, 1) := by decide +kernel
theorem dX12_nearest_56 : decode cX12_nearest 56 = .ok (.i2l, 1) := by decide +kernel
theorem dX12_nearest_57 : decode cX12_nearest 57 = .ok (.lastore, 1) := by decide +kernel
theorem dX12_nearest_58 : decode cX12_nearest 58 = .ok (.iinc 4 1, 3) := by decide +kernel
theorem dX12_nearest_61 : decode cX12_nearest 61 = .ok (.goto (-30), 3) := by decide +kernel
theorem dX12_nearest_64 : decode cX12_nearest 64 = .ok (.aload_n 0, 1) := by decide +kernel
theorem dX12_nearest_65 : decode cX12_nearest 65 = .ok (.iload_n 3, 1) := by decide +kernel
theorem dX12_nearest_66 : decode cX12_nearest 66 = .ok (.i2l, 1) := by decide +kernel
theorem dX12_nearest_67 : decode cX12_nearest 67 = .ok (.invokevirtual 241, 3) := by decide +kernel
theorem dX12_nearest_70 : decode cX12_nearest 70 = .ok (.aload_n 0, 1) := by decide +kernel
theorem dX12_nearest_71 : decode cX12_nearest 71 = .ok (.iload_n 1, 1) := by decide +kernel
theorem dX12_nearest_72 : decode cX12_nearest 72 = .ok (.invokevirtual 109, 3) := by decide +kernel
theorem dX12_nearest_75 : decode cX12_nearest 75 = .ok (.invokestatic 185, 3) := by decide +kernel
theorem dX12_nearest_78 : decode cX12_nearest 78 = .ok (.ireturn, 1) := by decide +kernel
theorem dX12_divides_0 : decode cX12_divides 0 = .ok (.aload_n 0, 1) := by decide +kernel
theorem dX12_divides_1 : decode cX12_divides 1 = .ok (.iload_n 2, 1) := by decide +kernel
theorem dX12_divides_2 : decode cX12_divides 2 = .ok (.invokevirtual 137, 3) := by decide +kernel
theorem dX12_divides_5 : decode cX12_divides 5 = .ok (.lstore_n 3, 1) := by decide +kernel
theorem dX12_divides_6 : decode cX12_divides 6 = .ok (.lload_n 3, 1) := by decide +kernel
theorem dX12_divides_7 : decode cX12_divides 7 = .ok (.lconst 0, 1) := by decide +kernel
theorem dX12_divides_8 : decode cX12_divides 8 = .ok (.lcmp, 1) := by decide +kernel
theorem dX12_divides_9 : decode cX12_divides 9 = .ok (.ifCond .eq 24, 3) := by decide +kernel
theorem dX12_divides_12 : decode cX12_divides 12 = .ok (.lload_n 3, 1) := by decide +kernel
theorem dX12_divides_13 : decode cX12_divides 13 = .ok (.ldc2_w 141, 3) := by decide +kernel
theorem dX12_divides_16 : decode cX12_divides 16 = .ok (.lrem, 1) := by decide +kernel
theorem dX12_divides_17 : decode cX12_divides 17 = .ok (.lconst 0, 1) := by decide +kernel
theorem dX12_divides_18 : decode cX12_divides 18 = .ok (.lcmp, 1) := by decide +kernel
theorem dX12_divides_19 : decode cX12_divides 19 = .ok (.ifCond .ne 14, 3) := by decide +kernel
theorem dX12_divides_22 : decode cX12_divides 22 = .ok (.aload_n 0, 1) := by decide +kernel
theorem dX12_divides_23 : decode cX12_divides 23 = .ok (.iload_n 1, 1) := by decide +kernel
theorem dX12_divides_24 : decode cX12_divides 24 = .ok (.iload_n 2, 1) := by decide +kernel
theorem dX12_divides_25 : decode cX12_divides 25 = .ok (.iconst 0, 1) := by decide +kernel
theorem dX12_divides_26 : decode cX12_divides 26 = .ok (.iconst 1, 1) := by decide +kernel
theorem dX12_divides_27 : decode cX12_divides 27 = .ok (.invokevirtual 105, 3) := by decide +kernel
theorem dX12_divides_30 : decode cX12_divides 30 = .ok (.ifCond .ne 5, 3) := by decide +kernel
theorem dX12_divides_33 : decode cX12_divides 33 = .ok (.iconst 0, 1) := by decide +kernel
theorem dX12_divides_34 : decode cX12_divides 34 = .ok (.ireturn, 1) := by decide +kernel
theorem dX12_divides_35 : decode cX12_divides 35 = .ok (.aload_n 0, 1) := by decide +kernel
theorem dX12_divides_36 : decode cX12_divides 36 = .ok (.lload_n 3, 1) := by decide +kernel
theorem dX12_divides_37 : decode cX12_divides 37 = .ok (.ldc2_w 141, 3) := by decide +kernel
theorem dX12_divides_40 : decode cX12_divides 40 = .ok (.ldiv, 1) := by decide +kernel
theorem dX12_divides_41 : decode cX12_divides 41 = .ok (.invokevirtual 241, 3) := by decide +kernel
theorem dX12_divides_44 : decode cX12_divides 44 = .ok (.aload_n 0, 1) := by decide +kernel
theorem dX12_divides_45 : decode cX12_divides 45 = .ok (.bipush 16, 2) := by decide +kernel
theorem dX12_divides_47 : decode cX12_divides 47 = .ok (.invokevirtual 109, 3) := by decide +kernel
theorem dX12_divides_50 : decode cX12_divides 50 = .ok (.ifCond .eq 32, 3) := by decide +kernel
theorem dX12_divides_53 : decode cX12_divides 53 = .ok (.aload_n 0, 1) := by decide +kernel
theorem dX12_divides_54 : decode cX12_divides 54 = .ok (.bipush 17, 2) := by decide +kernel
theorem dX12_divides_56 : decode cX12_divides 56 = .ok (.bipush 16, 2) := by decide +kernel
theorem dX12_divides_58 : decode cX12_divides 58 = .ok (.iload_n 2, 1) := by decide +kernel
theorem dX12_divides_59 : decode cX12_divides 59 = .ok (.invokevirtual 197, 3) := by decide +kernel
theorem dX12_divides_62 : decode cX12_divides 62 = .ok (.ifCond .eq 20, 3) := by decide +kernel
theorem dX12_divides_65 : decode cX12_divides 65 = .ok (.aload_n 0, 1) := by decide +kernel
theorem dX12_divides_66 : decode cX12_divides 66 = .ok (.bipush 17, 2) := by decide +kernel
theorem dX12_divides_68 : decode cX12_divides 68 = .ok (.iload_n 1, 1) := by decide +kernel
theorem dX12_divides_69 : decode cX12_divides 69 = .ok (.bipush 17, 2) := by decide +kernel
theorem dX12_divides_71 : decode cX12_divides 71 = .ok (.iconst (-1), 1) := by decide +kernel
theorem dX12_divides_72 : decode cX12_divides 72 = .ok (.invokevirtual 193, 3) := by decide +kernel
theorem dX12_divides_75 : decode cX12_divides 75 = .ok (.ifCond .eq 7, 3) := by decide +kernel
theorem dX12_divides_78 : decode cX12_divides 78 = .ok (.iconst 1, 1) := by decide +kernel
theorem dX12_divides_79 : decode cX12_divides 79 = .ok (.goto 4, 3) := by decide +kernel
theorem dX12_divides_82 : decode cX12_divides 82 = .ok (.iconst 0, 1) := by decide +kernel
theorem dX12_divides_83 : decode cX12_divides 83 = .ok (.ireturn, 1) := by decide +kernel
theorem dX12_divide_0 : decode cX12_divide 0 = .ok (.iload_n 1, 1) := by decide +kernel
theorem dX12_divide_1 : decode cX12_divide 1 = .ok (.iload_n 2, 1) := by decide +kernel
theorem dX12_divide_2 : decode cX12_divide 2 = .ok (.iload_n 3, 1) := by decide +kernel
theorem dX12_divide_3 : decode cX12_divide 3 = .ok (.invokestatic 189, 3) := by decide +kernel
theorem dX12_divide_6 : decode cX12_divide 6 = .ok (.ifCond .eq 11, 3) := by decide +kernel
theorem dX12_divide_9 : decode cX12_divide 9 = .ok (.iload 4, 2) := by decide +kernel
theorem dX12_divide_11 : decode cX12_divide 11 = .ok (.invokestatic 165, 3) := by decide +kernel
theorem dX12_divide_14 : decode cX12_divide 14 = .ok (.ifCond .ne 5, 3) := by decide +kernel
theorem dX12_divide_17 : decode cX12_divide 17 = .ok (.iconst (-1), 1) := by decide +kernel
theorem dX12_divide_18 : decode cX12_divide 18 = .ok (.ireturn, 1) := by decide +kernel
theorem dX12_divide_19 : decode cX12_divide 19 = .ok (.aload_n 0, 1) := by decide +kernel
theorem dX12_divide_20 : decode cX12_divide 20 = .ok (.iload_n 3, 1) := by decide +kernel
theorem dX12_divide_21 : decode cX12_divide 21 = .ok (.iload 4, 2) := by decide +kernel
theorem dX12_divide_23 : decode cX12_divide 23 = .ok (.invokevirtual 245, 3) := by decide +kernel
theorem dX12_divide_26 : decode cX12_divide 26 = .ok (.ifCond .ne 6, 3) := by decide +kernel
theorem dX12_divide_29 : decode cX12_divide 29 = .ok (.bipush (-2), 2) := by decide +kernel
theorem dX12_divide_31 : decode cX12_divide 31 = .ok (.ireturn, 1) := by decide +kernel
theorem dX12_divide_32 : decode cX12_divide 32 = .ok (.aload_n 0, 1) := by decide +kernel
theorem dX12_divide_33 : decode cX12_divide 33 = .ok (.iload_n 1, 1) := by decide +kernel
theorem dX12_divide_34 : decode cX12_divide 34 = .ok (.bipush 16, 2) := by decide +kernel
theorem dX12_divide_36 : decode cX12_divide 36 = .ok (.invokevirtual 182, 3) := by decide +kernel
theorem dX12_divide_39 : decode cX12_divide 39 = .ok (.aload_n 0, 1) := by decide +kernel
theorem dX12_divide_40 : decode cX12_divide 40 = .ok (.iload_n 2, 1) := by decide +kernel
theorem dX12_divide_41 : decode cX12_divide 41 = .ok (.bipush 17, 2) := by decide +kernel
theorem dX12_divide_43 : decode cX12_divide 43 = .ok (.invokevirtual 182, 3) := by decide +kernel
theorem dX12_divide_46 : decode cX12_divide 46 = .ok (.iconst 1, 1) := by decide +kernel
theorem dX12_divide_47 : decode cX12_divide 47 = .ok (.ireturn, 1) := by decide +kernel
theorem dX12_goesOn_0 : decode cX12_goesOn 0 = .ok (.aload_n 0, 1) := by decide +kernel
theorem dX12_goesOn_1 : decode cX12_goesOn 1 = .ok (.bipush 18, 2) := by decide +kernel
theorem dX12_goesOn_3 : decode cX12_goesOn 3 = .ok (.iload_n 1, 1) := by decide +kernel
theorem dX12_goesOn_4 : decode cX12_goesOn 4 = .ok (.invokevirtual 182, 3) := by decide +kernel
theorem dX12_goesOn_7 : decode cX12_goesOn 7 = .ok (.aload_n 0, 1) := by decide +kernel
theorem dX12_goesOn_8 : decode cX12_goesOn 8 = .ok (.bipush 19, 2) := by decide +kernel
theorem dX12_goesOn_10 : decode cX12_goesOn 10 = .ok (.iload_n 2, 1) := by decide +kernel
theorem dX12_goesOn_11 : decode cX12_goesOn 11 = .ok (.invokevirtual 182, 3) := by decide +kernel
theorem dX12_goesOn_14 : decode cX12_goesOn 14 = .ok (.aload_n 0, 1) := by decide +kernel
theorem dX12_goesOn_15 : decode cX12_goesOn 15 = .ok (.iconst 0, 1) := by decide +kernel
theorem dX12_goesOn_16 : decode cX12_goesOn 16 = .ok (.putfield 248, 3) := by decide +kernel
theorem dX12_goesOn_19 : decode cX12_goesOn 19 = .ok (.aload_n 0, 1) := by decide +kernel
theorem dX12_goesOn_20 : decode cX12_goesOn 20 = .ok (.lconst 0, 1) := by decide +kernel
theorem dX12_goesOn_21 : decode cX12_goesOn 21 = .ok (.putfield 251, 3) := by decide +kernel
theorem dX12_goesOn_24 : decode cX12_goesOn 24 = .ok (.aload_n 0, 1) := by decide +kernel
theorem dX12_goesOn_25 : decode cX12_goesOn 25 = .ok (.lconst 0, 1) := by decide +kernel
theorem dX12_goesOn_26 : decode cX12_goesOn 26 = .ok (.putfield 255, 3) := by decide +kernel
theorem dX12_goesOn_29 : decode cX12_goesOn 29 = .ok (.aload_n 0, 1) := by decide +kernel
theorem dX12_goesOn_30 : decode cX12_goesOn 30 = .ok (.aload_n 0, 1) := by decide +kernel
theorem dX12_goesOn_31 : decode cX12_goesOn 31 = .ok (.bipush 18, 2) := by decide +kernel
theorem dX12_goesOn_33 : decode cX12_goesOn 33 = .ok (.invokevirtual 258, 3) := by decide +kernel
theorem dX12_goesOn_36 : decode cX12_goesOn 36 = .ok (.ifCond .eq 12, 3) := by decide +kernel
theorem dX12_goesOn_39 : decode cX12_goesOn 39 = .ok (.aload_n 0, 1) := by decide +kernel
theorem dX12_goesOn_40 : decode cX12_goesOn 40 = .ok (.bipush 19, 2) := by decide +kernel
theorem dX12_goesOn_42 : decode cX12_goesOn 42 = .ok (.invokevirtual 258, 3) := by decide +kernel
theorem dX12_goesOn_45 : decode cX12_goesOn 45 = .ok (.ifCond .ne 7, 3) := by decide +kernel
theorem dX12_goesOn_48 : decode cX12_goesOn 48 = .ok (.iconst 1, 1) := by decide +kernel
theorem dX12_goesOn_49 : decode cX12_goesOn 49 = .ok (.goto 4, 3) := by decide +kernel
theorem dX12_goesOn_52 : decode cX12_goesOn 52 = .ok (.iconst 0, 1) := by decide +kernel
theorem dX12_goesOn_53 : decode cX12_goesOn 53 = .ok (.putfield 261, 3) := by decide +kernel
theorem dX12_goesOn_56 : decode cX12_goesOn 56 = .ok (.aload_n 0, 1) := by decide +kernel
theorem dX12_goesOn_57 : decode cX12_goesOn 57 = .ok (.bipush 20, 2) := by decide +kernel
theorem dX12_goesOn_59 : decode cX12_goesOn 59 = .ok (.aload_n 0, 1) := by decide +kernel
theorem dX12_goesOn_60 : decode cX12_goesOn 60 = .ok (.bipush 19, 2) := by decide +kernel
theorem dX12_goesOn_62 : decode cX12_goesOn 62 = .ok (.invokevirtual 258, 3) := by decide +kernel
theorem dX12_goesOn_65 : decode cX12_goesOn 65 = .ok (.ifCond .eq 8, 3) := by decide +kernel
theorem dX12_goesOn_68 : decode cX12_goesOn 68 = .ok (.bipush 18, 2) := by decide +kernel
theorem dX12_goesOn_70 : decode cX12_goesOn 70 = .ok (.goto 5, 3) := by decide +kernel
theorem dX12_goesOn_73 : decode cX12_goesOn 73 = .ok (.bipush 19, 2) := by decide +kernel
theorem dX12_goesOn_75 : decode cX12_goesOn 75 = .ok (.invokevirtual 182, 3) := by decide +kernel
theorem dX12_goesOn_78 : decode cX12_goesOn 78 = .ok (.iconst 1, 1) := by decide +kernel
theorem dX12_goesOn_79 : decode cX12_goesOn 79 = .ok (.istore_n 3, 1) := by decide +kernel
theorem dX12_goesOn_80 : decode cX12_goesOn 80 = .ok (.iload_n 3, 1) := by decide +kernel
theorem dX12_goesOn_81 : decode cX12_goesOn 81 = .ok (.ifCond .eq 120, 3) := by decide +kernel
theorem dX12_goesOn_84 : decode cX12_goesOn 84 = .ok (.aload_n 0, 1) := by decide +kernel
theorem dX12_goesOn_85 : decode cX12_goesOn 85 = .ok (.getfield 248, 3) := by decide +kernel
theorem dX12_goesOn_88 : decode cX12_goesOn 88 = .ok (.bipush 60, 2) := by decide +kernel
theorem dX12_goesOn_90 : decode cX12_goesOn 90 = .ok (.if_icmp .ge 111, 3) := by decide +kernel
theorem dX12_goesOn_93 : decode cX12_goesOn 93 = .ok (.aload_n 0, 1) := by decide +kernel
theorem dX12_goesOn_94 : decode cX12_goesOn 94 = .ok (.bipush 18, 2) := by decide +kernel
theorem dX12_goesOn_96 : decode cX12_goesOn 96 = .ok (.bipush 19, 2) := by decide +kernel
theorem dX12_goesOn_98 : decode cX12_goesOn 98 = .ok (.invokevirtual 245, 3) := by decide +kernel
theorem dX12_goesOn_101 : decode cX12_goesOn 101 = .ok (.istore_n 3, 1) := by decide +kernel
theorem dX12_goesOn_102 : decode cX12_goesOn 102 = .ok (.iload_n 3, 1) := by decide +kernel
theorem dX12_goesOn_103 : decode cX12_goesOn 103 = .ok (.ifCond .ne 4, 3) := by decide +kernel
theorem dX12_goesOn_106 : decode cX12_goesOn 106 = .ok (.return_, 1) := by decide +kernel
theorem dX12_goesOn_107 : decode cX12_goesOn 107 = .ok (.aload_n 0, 1) := by decide +kernel
theorem dX12_goesOn_108 : decode cX12_goesOn 108 = .ok (.dup, 1) := by decide +kernel
theorem dX12_goesOn_109 : decode cX12_goesOn 109 = .ok (.getfield 248, 3) := by decide +kernel
theorem dX12_goesOn_112 : decode cX12_goesOn 112 = .ok (.iconst 1, 1) := by decide +kernel
theorem dX12_goesOn_113 : decode cX12_goesOn 113 = .ok (.iadd, 1) := by decide +kernel
theorem dX12_goesOn_114 : decode cX12_goesOn 114 = .ok (.putfield 248, 3) := by decide +kernel
theorem dX12_goesOn_117 : decode cX12_goesOn 117 = .ok (.aload_n 0, 1) := by decide +kernel
theorem dX12_goesOn_118 : decode cX12_goesOn 118 = .ok (.aload_n 0, 1) := by decide +kernel
theorem dX12_goesOn_119 : decode cX12_goesOn 119 = .ok (.bipush 17, 2) := by decide +kernel
theorem dX12_goesOn_121 : decode cX12_goesOn 121 = .ok (.invokevirtual 137, 3) := by decide +kernel
theorem dX12_goesOn_124 : decode cX12_goesOn 124 = .ok (.putfield 251, 3) := by decide +kernel
theorem dX12_goesOn_127 : decode cX12_goesOn 127 = .ok (.ldc2_w 265, 3) := by decide +kernel
theorem dX12_goesOn_130 : decode cX12_goesOn 130 = .ok (.aload_n 0, 1) := by decide +kernel
theorem dX12_goesOn_131 : decode cX12_goesOn 131 = .ok (.getfield 251, 3) := by decide +kernel
theorem dX12_goesOn_134 : decode cX12_goesOn 134 = .ok (.lmul, 1) := by decide +kernel
theorem dX12_goesOn_135 : decode cX12_goesOn 135 = .ok (.aload_n 0, 1) := by decide +kernel
theorem dX12_goesOn_136 : decode cX12_goesOn 136 = .ok (.bipush 19, 2) := by decide +kernel
theorem dX12_goesOn_138 : decode cX12_goesOn 138 = .ok (.invokevirtual 137, 3) := by decide +kernel
theorem dX12_goesOn_141 : decode cX12_goesOn 141 = .ok (.ldiv, 1) := by decide +kernel
theorem dX12_goesOn_142 : decode cX12_goesOn 142 = .ok (.lstore 4, 2) := by decide +kernel
theorem dX12_goesOn_144 : decode cX12_goesOn 144 = .ok (.lload 4, 2) := by decide +kernel
theorem dX12_goesOn_146 : decode cX12_goesOn 146 = .ok (.aload_n 0, 1) := by decide +kernel
theorem dX12_goesOn_147 : decode cX12_goesOn 147 = .ok (.getfield 255, 3) := by decide +kernel
theorem dX12_goesOn_150 : decode cX12_goesOn 150 = .ok (.lcmp, 1) := by decide +kernel
theorem dX12_goesOn_151 : decode cX12_goesOn 151 = .ok (.ifCond .le 9, 3) := by decide +kernel
theorem dX12_goesOn_154 : decode cX12_goesOn 154 = .ok (.aload_n 0, 1) := by decide +kernel
theorem dX12_goesOn_155 : decode cX12_goesOn 155 = .ok (.lload 4, 2) := by decide +kernel
theorem dX12_goesOn_157 : decode cX12_goesOn 157 = .ok (.putfield 255, 3) := by decide +kernel
theorem dX12_goesOn_160 : decode cX12_goesOn 160 = .ok (.aload_n 0, 1) := by decide +kernel
theorem dX12_goesOn_161 : decode cX12_goesOn 161 = .ok (.bipush 18, 2) := by decide +kernel
theorem dX12_goesOn_163 : decode cX12_goesOn 163 = .ok (.bipush 19, 2) := by decide +kernel
theorem dX12_goesOn_165 : decode cX12_goesOn 165 = .ok (.invokevirtual 182, 3) := by decide +kernel
theorem dX12_goesOn_168 : decode cX12_goesOn 168 = .ok (.aload_n 0, 1) := by decide +kernel
theorem dX12_goesOn_169 : decode cX12_goesOn 169 = .ok (.bipush 19, 2) := by decide +kernel
theorem dX12_goesOn_171 : decode cX12_goesOn 171 = .ok (.bipush 17, 2) := by decide +kernel
theorem dX12_goesOn_173 : decode cX12_goesOn 173 = .ok (.invokevirtual 182, 3) := by decide +kernel
theorem dX12_goesOn_176 : decode cX12_goesOn 176 = .ok (.aload_n 0, 1) := by decide +kernel
theorem dX12_goesOn_177 : decode cX12_goesOn 177 = .ok (.bipush 17, 2) := by decide +kernel
theorem dX12_goesOn_179 : decode cX12_goesOn 179 = .ok (.invokevirtual 258, 3) := by decide +kernel
theorem dX12_goesOn_182 : decode cX12_goesOn 182 = .ok (.ifCond .ne 16, 3) := by decide +kernel
theorem dX12_goesOn_185 : decode cX12_goesOn 185 = .ok (.aload_n 0, 1) := by decide +kernel
theorem dX12_goesOn_186 : decode cX12_goesOn 186 = .ok (.iconst 1, 1) := by decide +kernel
theorem dX12_goesOn_187 : decode cX12_goesOn 187 = .ok (.putfield 261, 3) := by decide +kernel
theorem dX12_goesOn_190 : decode cX12_goesOn 190 = .ok (.aload_n 0, 1) := by decide +kernel
theorem dX12_goesOn_191 : decode cX12_goesOn 191 = .ok (.bipush 20, 2) := by decide +kernel
theorem dX12_goesOn_193 : decode cX12_goesOn 193 = .ok (.bipush 17, 2) := by decide +kernel
theorem dX12_goesOn_195 : decode cX12_goesOn 195 = .ok (.invokevirtual 182, 3) := by decide +kernel
theorem dX12_goesOn_198 : decode cX12_goesOn 198 = .ok (.goto (-118), 3) := by decide +kernel
theorem dX12_goesOn_201 : decode cX12_goesOn 201 = .ok (.return_, 1) := by decide +kernel
