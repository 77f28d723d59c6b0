/-! the product, doubled twice -/
section MUL
variable {G : xG} {l : Launch} {d : Nat} {h : xH} {Q : Option Value → xH → Prop}
/-- x times y, in quarters, part p -/
def zM4 (f g : Nat → Int32) : Nat → Int64 := fun p => match p with
  | 0 => (f 0).toInt64 * (g 0).toInt64 - (f 1).toInt64 * (g 1).toInt64 - (f 2).toInt64 * (g 2).toInt64 - (f 3).toInt64 * (g 3).toInt64 - (f 4).toInt64 * (g 4).toInt64 - (f 5).toInt64 * (g 5).toInt64 - (f 6).toInt64 * (g 6).toInt64 - (f 7).toInt64 * (g 7).toInt64
  | 1 => (f 0).toInt64 * (g 1).toInt64 + (f 1).toInt64 * (g 0).toInt64 + (f 2).toInt64 * (g 3).toInt64 - (f 3).toInt64 * (g 2).toInt64 + (f 4).toInt64 * (g 5).toInt64 - (f 5).toInt64 * (g 4).toInt64 - (f 6).toInt64 * (g 7).toInt64 + (f 7).toInt64 * (g 6).toInt64
  | 2 => (f 0).toInt64 * (g 2).toInt64 - (f 1).toInt64 * (g 3).toInt64 + (f 2).toInt64 * (g 0).toInt64 + (f 3).toInt64 * (g 1).toInt64 + (f 4).toInt64 * (g 6).toInt64 + (f 5).toInt64 * (g 7).toInt64 - (f 6).toInt64 * (g 4).toInt64 - (f 7).toInt64 * (g 5).toInt64
  | 3 => (f 0).toInt64 * (g 3).toInt64 + (f 1).toInt64 * (g 2).toInt64 - (f 2).toInt64 * (g 1).toInt64 + (f 3).toInt64 * (g 0).toInt64 + (f 4).toInt64 * (g 7).toInt64 - (f 5).toInt64 * (g 6).toInt64 + (f 6).toInt64 * (g 5).toInt64 - (f 7).toInt64 * (g 4).toInt64
  | 4 => (f 0).toInt64 * (g 4).toInt64 - (f 1).toInt64 * (g 5).toInt64 - (f 2).toInt64 * (g 6).toInt64 - (f 3).toInt64 * (g 7).toInt64 + (f 4).toInt64 * (g 0).toInt64 + (f 5).toInt64 * (g 1).toInt64 + (f 6).toInt64 * (g 2).toInt64 + (f 7).toInt64 * (g 3).toInt64
  | 5 => (f 0).toInt64 * (g 5).toInt64 + (f 1).toInt64 * (g 4).toInt64 - (f 2).toInt64 * (g 7).toInt64 + (f 3).toInt64 * (g 6).toInt64 - (f 4).toInt64 * (g 1).toInt64 + (f 5).toInt64 * (g 0).toInt64 - (f 6).toInt64 * (g 3).toInt64 + (f 7).toInt64 * (g 2).toInt64
  | 6 => (f 0).toInt64 * (g 6).toInt64 + (f 1).toInt64 * (g 7).toInt64 + (f 2).toInt64 * (g 4).toInt64 - (f 3).toInt64 * (g 5).toInt64 - (f 4).toInt64 * (g 2).toInt64 + (f 5).toInt64 * (g 3).toInt64 + (f 6).toInt64 * (g 0).toInt64 - (f 7).toInt64 * (g 1).toInt64
  | _ => (f 0).toInt64 * (g 7).toInt64 - (f 1).toInt64 * (g 6).toInt64 + (f 2).toInt64 * (g 5).toInt64 + (f 3).toInt64 * (g 4).toInt64 - (f 4).toInt64 * (g 3).toInt64 - (f 5).toInt64 * (g 2).toInt64 + (f 6).toInt64 * (g 1).toInt64 + (f 7).toInt64 * (g 0).toInt64
theorem c_multiplyBy4 {p a b : Nat} {w : Nat → Int64} {f g : Nat → Int32} (hp : h.1 p = (1, 8, xJ w)) (ha : h.1 a = (0, 8, xI f)) (hb : h.1 b = (0, 8, xI g)) (K : Q none (hs h p (1, 8, xJ (zM4 f g)))) : xCt G l mX5_multiplyBy4 d [.ref p, .ref a, .ref b] h 0 0 Q := by
  refine xCt_of (by decide) (Nat.le_of_ble_eq_true rfl) ?_
  refine x_aload_n (i := 1) dX5_multiplyBy4_0 rfl rfl rfl ?_
  refine x_iconst dX5_multiplyBy4_1 rfl iC_0 ?_
  refine x_iald dX5_multiplyBy4_2 rfl (by first | assumption | exact hs_eq | exact hs_ne (by first | assumption | decide | omega) (by first | assumption | exact hs_eq | exact hs_ne (by first | assumption | decide | omega) (by first | assumption | exact hs_eq | exact hs_ne (by first | assumption | decide | omega) (by assumption)))) rfl (by omega) (by decide) ?_
  refine x_i2l dX5_multiplyBy4_3 rfl ?_
  refine x_lstore_n (i := 3) dX5_multiplyBy4_4 rfl rfl (by decide) ?_
  refine x_aload_n (i := 1) dX5_multiplyBy4_5 rfl rfl rfl ?_
  refine x_iconst dX5_multiplyBy4_6 rfl iC_1 ?_
  refine x_iald dX5_multiplyBy4_7 rfl (by first | assumption | exact hs_eq | exact hs_ne (by first | assumption | decide | omega) (by first | assumption | exact hs_eq | exact hs_ne (by first | assumption | decide | omega) (by first | assumption | exact hs_eq | exact hs_ne (by first | assumption | decide | omega) (by assumption)))) rfl (by omega) (by decide) ?_
  refine x_i2l dX5_multiplyBy4_8 rfl ?_
  refine x_lstore dX5_multiplyBy4_9 rfl (by decide) ?_
  refine x_aload_n (i := 1) dX5_multiplyBy4_11 rfl rfl rfl ?_
  refine x_iconst dX5_multiplyBy4_12 rfl iC_2 ?_
  refine x_iald dX5_multiplyBy4_13 rfl (by first | assumption | exact hs_eq | exact hs_ne (by first | assumption | decide | omega) (by first | assumption | exact hs_eq | exact hs_ne (by first | assumption | decide | omega) (by first | assumption | exact hs_eq | exact hs_ne (by first | assumption | decide | omega) (by assumption)))) rfl (by omega) (by decide) ?_
  refine x_i2l dX5_multiplyBy4_14 rfl ?_
  refine x_lstore dX5_multiplyBy4_15 rfl (by decide) ?_
  refine x_aload_n (i := 1) dX5_multiplyBy4_17 rfl rfl rfl ?_
  refine x_iconst dX5_multiplyBy4_18 rfl iC_3 ?_
  refine x_iald dX5_multiplyBy4_19 rfl (by first | assumption | exact hs_eq | exact hs_ne (by first | assumption | decide | omega) (by first | assumption | exact hs_eq | exact hs_ne (by first | assumption | decide | omega) (by first | assumption | exact hs_eq | exact hs_ne (by first | assumption | decide | omega) (by assumption)))) rfl (by omega) (by decide) ?_
  refine x_i2l dX5_multiplyBy4_20 rfl ?_
  refine x_lstore dX5_multiplyBy4_21 rfl (by decide) ?_
  refine x_aload_n (i := 1) dX5_multiplyBy4_23 rfl rfl rfl ?_
  refine x_iconst dX5_multiplyBy4_24 rfl iC_4 ?_
  refine x_iald dX5_multiplyBy4_25 rfl (by first | assumption | exact hs_eq | exact hs_ne (by first | assumption | decide | omega) (by first | assumption | exact hs_eq | exact hs_ne (by first | assumption | decide | omega) (by first | assumption | exact hs_eq | exact hs_ne (by first | assumption | decide | omega) (by assumption)))) rfl (by omega) (by decide) ?_
  refine x_i2l dX5_multiplyBy4_26 rfl ?_
  refine x_lstore dX5_multiplyBy4_27 rfl (by decide) ?_
  refine x_aload_n (i := 1) dX5_multiplyBy4_29 rfl rfl rfl ?_
  refine x_iconst dX5_multiplyBy4_30 rfl iC_5 ?_
  refine x_iald dX5_multiplyBy4_31 rfl (by first | assumption | exact hs_eq | exact hs_ne (by first | assumption | decide | omega) (by first | assumption | exact hs_eq | exact hs_ne (by first | assumption | decide | omega) (by first | assumption | exact hs_eq | exact hs_ne (by first | assumption | decide | omega) (by assumption)))) rfl (by omega) (by decide) ?_
  refine x_i2l dX5_multiplyBy4_32 rfl ?_
  refine x_lstore dX5_multiplyBy4_33 rfl (by decide) ?_
  refine x_aload_n (i := 1) dX5_multiplyBy4_35 rfl rfl rfl ?_
  refine x_bipush dX5_multiplyBy4_36 rfl bC_6 ?_
  refine x_iald dX5_multiplyBy4_38 rfl (by first | assumption | exact hs_eq | exact hs_ne (by first | assumption | decide | omega) (by first | assumption | exact hs_eq | exact hs_ne (by first | assumption | decide | omega) (by first | assumption | exact hs_eq | exact hs_ne (by first | assumption | decide | omega) (by assumption)))) rfl (by omega) (by decide) ?_
  refine x_i2l dX5_multiplyBy4_39 rfl ?_
  refine x_lstore dX5_multiplyBy4_40 rfl (by decide) ?_
  refine x_aload_n (i := 1) dX5_multiplyBy4_42 rfl rfl rfl ?_
  refine x_bipush dX5_multiplyBy4_43 rfl bC_7 ?_
  refine x_iald dX5_multiplyBy4_45 rfl (by first | assumption | exact hs_eq | exact hs_ne (by first | assumption | decide | omega) (by first | assumption | exact hs_eq | exact hs_ne (by first | assumption | decide | omega) (by first | assumption | exact hs_eq | exact hs_ne (by first | assumption | decide | omega) (by assumption)))) rfl (by omega) (by decide) ?_
  refine x_i2l dX5_multiplyBy4_46 rfl ?_
  refine x_lstore dX5_multiplyBy4_47 rfl (by decide) ?_
  refine x_aload_n (i := 2) dX5_multiplyBy4_49 rfl rfl rfl ?_
  refine x_iconst dX5_multiplyBy4_50 rfl iC_0 ?_
  refine x_iald dX5_multiplyBy4_51 rfl (by first | assumption | exact hs_eq | exact hs_ne (by first | assumption | decide | omega) (by first | assumption | exact hs_eq | exact hs_ne (by first | assumption | decide | omega) (by first | assumption | exact hs_eq | exact hs_ne (by first | assumption | decide | omega) (by assumption)))) rfl (by omega) (by decide) ?_
  refine x_i2l dX5_multiplyBy4_52 rfl ?_
  refine x_lstore dX5_multiplyBy4_53 rfl (by decide) ?_
  refine x_aload_n (i := 2) dX5_multiplyBy4_55 rfl rfl rfl ?_
  refine x_iconst dX5_multiplyBy4_56 rfl iC_1 ?_
  refine x_iald dX5_multiplyBy4_57 rfl (by first | assumption | exact hs_eq | exact hs_ne (by first | assumption | decide | omega) (by first | assumption | exact hs_eq | exact hs_ne (by first | assumption | decide | omega) (by first | assumption | exact hs_eq | exact hs_ne (by first | assumption | decide | omega) (by assumption)))) rfl (by omega) (by decide) ?_
  refine x_i2l dX5_multiplyBy4_58 rfl ?_
  refine x_lstore dX5_multiplyBy4_59 rfl (by decide) ?_
  refine x_aload_n (i := 2) dX5_multiplyBy4_61 rfl rfl rfl ?_
  refine x_iconst dX5_multiplyBy4_62 rfl iC_2 ?_
  refine x_iald dX5_multiplyBy4_63 rfl (by first | assumption | exact hs_eq | exact hs_ne (by first | assumption | decide | omega) (by first | assumption | exact hs_eq | exact hs_ne (by first | assumption | decide | omega) (by first | assumption | exact hs_eq | exact hs_ne (by first | assumption | decide | omega) (by assumption)))) rfl (by omega) (by decide) ?_
  refine x_i2l dX5_multiplyBy4_64 rfl ?_
  refine x_lstore dX5_multiplyBy4_65 rfl (by decide) ?_
  refine x_aload_n (i := 2) dX5_multiplyBy4_67 rfl rfl rfl ?_
  refine x_iconst dX5_multiplyBy4_68 rfl iC_3 ?_
  refine x_iald dX5_multiplyBy4_69 rfl (by first | assumption | exact hs_eq | exact hs_ne (by first | assumption | decide | omega) (by first | assumption | exact hs_eq | exact hs_ne (by first | assumption | decide | omega) (by first | assumption | exact hs_eq | exact hs_ne (by first | assumption | decide | omega) (by assumption)))) rfl (by omega) (by decide) ?_
  refine x_i2l dX5_multiplyBy4_70 rfl ?_
  refine x_lstore dX5_multiplyBy4_71 rfl (by decide) ?_
  refine x_aload_n (i := 2) dX5_multiplyBy4_73 rfl rfl rfl ?_
  refine x_iconst dX5_multiplyBy4_74 rfl iC_4 ?_
  refine x_iald dX5_multiplyBy4_75 rfl (by first | assumption | exact hs_eq | exact hs_ne (by first | assumption | decide | omega) (by first | assumption | exact hs_eq | exact hs_ne (by first | assumption | decide | omega) (by first | assumption | exact hs_eq | exact hs_ne (by first | assumption | decide | omega) (by assumption)))) rfl (by omega) (by decide) ?_
  refine x_i2l dX5_multiplyBy4_76 rfl ?_
  refine x_lstore dX5_multiplyBy4_77 rfl (by decide) ?_
  refine x_aload_n (i := 2) dX5_multiplyBy4_79 rfl rfl rfl ?_
  refine x_iconst dX5_multiplyBy4_80 rfl iC_5 ?_
  refine x_iald dX5_multiplyBy4_81 rfl (by first | assumption | exact hs_eq | exact hs_ne (by first | assumption | decide | omega) (by first | assumption | exact hs_eq | exact hs_ne (by first | assumption | decide | omega) (by first | assumption | exact hs_eq | exact hs_ne (by first | assumption | decide | omega) (by assumption)))) rfl (by omega) (by decide) ?_
  refine x_i2l dX5_multiplyBy4_82 rfl ?_
  refine x_lstore dX5_multiplyBy4_83 rfl (by decide) ?_
  refine x_aload_n (i := 2) dX5_multiplyBy4_85 rfl rfl rfl ?_
  refine x_bipush dX5_multiplyBy4_86 rfl bC_6 ?_
  refine x_iald dX5_multiplyBy4_88 rfl (by first | assumption | exact hs_eq | exact hs_ne (by first | assumption | decide | omega) (by first | assumption | exact hs_eq | exact hs_ne (by first | assumption | decide | omega) (by first | assumption | exact hs_eq | exact hs_ne (by first | assumption | decide | omega) (by assumption)))) rfl (by omega) (by decide) ?_
  refine x_i2l dX5_multiplyBy4_89 rfl ?_
  refine x_lstore dX5_multiplyBy4_90 rfl (by decide) ?_
  refine x_aload_n (i := 2) dX5_multiplyBy4_92 rfl rfl rfl ?_
  refine x_bipush dX5_multiplyBy4_93 rfl bC_7 ?_
  refine x_iald dX5_multiplyBy4_95 rfl (by first | assumption | exact hs_eq | exact hs_ne (by first | assumption | decide | omega) (by first | assumption | exact hs_eq | exact hs_ne (by first | assumption | decide | omega) (by first | assumption | exact hs_eq | exact hs_ne (by first | assumption | decide | omega) (by assumption)))) rfl (by omega) (by decide) ?_
  refine x_i2l dX5_multiplyBy4_96 rfl ?_
  refine x_lstore dX5_multiplyBy4_97 rfl (by decide) ?_
  refine x_ls [(0, .ref p), (1, .ref a), (2, .ref b), (3, .long (f 0).toInt64), (5, .long (f 1).toInt64), (7, .long (f 2).toInt64), (9, .long (f 3).toInt64), (11, .long (f 4).toInt64), (13, .long (f 5).toInt64), (15, .long (f 6).toInt64), (17, .long (f 7).toInt64), (19, .long (g 0).toInt64), (21, .long (g 1).toInt64), (23, .long (g 2).toInt64), (25, .long (g 3).toInt64), (27, .long (g 4).toInt64), (29, .long (g 5).toInt64), (31, .long (g 6).toInt64), (33, .long (g 7).toInt64)] ⟨rfl, rfl, rfl, rfl, rfl, rfl, rfl, rfl, rfl, rfl, rfl, rfl, rfl, rfl, rfl, rfl, rfl, rfl, rfl, trivial⟩ ?_
  refine x_aload_n (i := 0) dX5_multiplyBy4_99 rfl rfl rfl ?_
  refine x_iconst dX5_multiplyBy4_100 rfl iC_0 ?_
  refine x_lload_n (i := 3) dX5_multiplyBy4_101 rfl rfl rfl ?_
  refine x_lload dX5_multiplyBy4_102 rfl rfl ?_
  refine x_lmul dX5_multiplyBy4_104 rfl ?_
  refine x_lload dX5_multiplyBy4_105 rfl rfl ?_
  refine x_lload dX5_multiplyBy4_107 rfl rfl ?_
  refine x_lmul dX5_multiplyBy4_109 rfl ?_
  refine x_lsub dX5_multiplyBy4_110 rfl ?_
  refine x_lload dX5_multiplyBy4_111 rfl rfl ?_
  refine x_lload dX5_multiplyBy4_113 rfl rfl ?_
  refine x_lmul dX5_multiplyBy4_115 rfl ?_
  refine x_lsub dX5_multiplyBy4_116 rfl ?_
  refine x_lload dX5_multiplyBy4_117 rfl rfl ?_
  refine x_lload dX5_multiplyBy4_119 rfl rfl ?_
  refine x_lmul dX5_multiplyBy4_121 rfl ?_
  refine x_lsub dX5_multiplyBy4_122 rfl ?_
  refine x_lload dX5_multiplyBy4_123 rfl rfl ?_
  refine x_lload dX5_multiplyBy4_125 rfl rfl ?_
  refine x_lmul dX5_multiplyBy4_127 rfl ?_
  refine x_lsub dX5_multiplyBy4_128 rfl ?_
  refine x_lload dX5_multiplyBy4_129 rfl rfl ?_
  refine x_lload dX5_multiplyBy4_131 rfl rfl ?_
  refine x_lmul dX5_multiplyBy4_133 rfl ?_
  refine x_lsub dX5_multiplyBy4_134 rfl ?_
  refine x_lload dX5_multiplyBy4_135 rfl rfl ?_
  refine x_lload dX5_multiplyBy4_137 rfl rfl ?_
  refine x_lmul dX5_multiplyBy4_139 rfl ?_
  refine x_lsub dX5_multiplyBy4_140 rfl ?_
  refine x_lload dX5_multiplyBy4_141 rfl rfl ?_
  refine x_lload dX5_multiplyBy4_143 rfl rfl ?_
  refine x_lmul dX5_multiplyBy4_145 rfl ?_
  refine x_lsub dX5_multiplyBy4_146 rfl ?_
  refine x_last dX5_multiplyBy4_147 rfl (by first | assumption | exact hs_eq | exact hs_ne (by first | assumption | decide | omega) (by first | assumption | exact hs_eq | exact hs_ne (by first | assumption | decide | omega) (by first | assumption | exact hs_eq | exact hs_ne (by first | assumption | decide | omega) (by assumption)))) rfl (by omega) (by decide) ?_
  refine x_aload_n (i := 0) dX5_multiplyBy4_148 rfl rfl rfl ?_
  refine x_iconst dX5_multiplyBy4_149 rfl iC_1 ?_
  refine x_lload_n (i := 3) dX5_multiplyBy4_150 rfl rfl rfl ?_
  refine x_lload dX5_multiplyBy4_151 rfl rfl ?_
  refine x_lmul dX5_multiplyBy4_153 rfl ?_
  refine x_lload dX5_multiplyBy4_154 rfl rfl ?_
  refine x_lload dX5_multiplyBy4_156 rfl rfl ?_
  refine x_lmul dX5_multiplyBy4_158 rfl ?_
  refine x_ladd dX5_multiplyBy4_159 rfl ?_
  refine x_lload dX5_multiplyBy4_160 rfl rfl ?_
  refine x_lload dX5_multiplyBy4_162 rfl rfl ?_
  refine x_lmul dX5_multiplyBy4_164 rfl ?_
  refine x_ladd dX5_multiplyBy4_165 rfl ?_
  refine x_lload dX5_multiplyBy4_166 rfl rfl ?_
  refine x_lload dX5_multiplyBy4_168 rfl rfl ?_
  refine x_lmul dX5_multiplyBy4_170 rfl ?_
  refine x_lsub dX5_multiplyBy4_171 rfl ?_
  refine x_lload dX5_multiplyBy4_172 rfl rfl ?_
  refine x_lload dX5_multiplyBy4_174 rfl rfl ?_
  refine x_lmul dX5_multiplyBy4_176 rfl ?_
  refine x_ladd dX5_multiplyBy4_177 rfl ?_
  refine x_lload dX5_multiplyBy4_178 rfl rfl ?_
  refine x_lload dX5_multiplyBy4_180 rfl rfl ?_
  refine x_lmul dX5_multiplyBy4_182 rfl ?_
  refine x_lsub dX5_multiplyBy4_183 rfl ?_
  refine x_lload dX5_multiplyBy4_184 rfl rfl ?_
  refine x_lload dX5_multiplyBy4_186 rfl rfl ?_
  refine x_lmul dX5_multiplyBy4_188 rfl ?_
  refine x_lsub dX5_multiplyBy4_189 rfl ?_
  refine x_lload dX5_multiplyBy4_190 rfl rfl ?_
  refine x_lload dX5_multiplyBy4_192 rfl rfl ?_
  refine x_lmul dX5_multiplyBy4_194 rfl ?_
  refine x_ladd dX5_multiplyBy4_195 rfl ?_
  refine x_lastT dX5_multiplyBy4_196 rfl rfl (by omega) (by decide) ?_
  refine x_aload_n (i := 0) dX5_multiplyBy4_197 rfl rfl rfl ?_
  refine x_iconst dX5_multiplyBy4_198 rfl iC_2 ?_
  refine x_lload_n (i := 3) dX5_multiplyBy4_199 rfl rfl rfl ?_
  refine x_lload dX5_multiplyBy4_200 rfl rfl ?_
  refine x_lmul dX5_multiplyBy4_202 rfl ?_
  refine x_lload dX5_multiplyBy4_203 rfl rfl ?_
  refine x_lload dX5_multiplyBy4_205 rfl rfl ?_
  refine x_lmul dX5_multiplyBy4_207 rfl ?_
  refine x_lsub dX5_multiplyBy4_208 rfl ?_
  refine x_lload dX5_multiplyBy4_209 rfl rfl ?_
  refine x_lload dX5_multiplyBy4_211 rfl rfl ?_
  refine x_lmul dX5_multiplyBy4_213 rfl ?_
  refine x_ladd dX5_multiplyBy4_214 rfl ?_
  refine x_lload dX5_multiplyBy4_215 rfl rfl ?_
  refine x_lload dX5_multiplyBy4_217 rfl rfl ?_
  refine x_lmul dX5_multiplyBy4_219 rfl ?_
  refine x_ladd dX5_multiplyBy4_220 rfl ?_
  refine x_lload dX5_multiplyBy4_221 rfl rfl ?_
  refine x_lload dX5_multiplyBy4_223 rfl rfl ?_
  refine x_lmul dX5_multiplyBy4_225 rfl ?_
  refine x_ladd dX5_multiplyBy4_226 rfl ?_
  refine x_lload dX5_multiplyBy4_227 rfl rfl ?_
  refine x_lload dX5_multiplyBy4_229 rfl rfl ?_
  refine x_lmul dX5_multiplyBy4_231 rfl ?_
  refine x_ladd dX5_multiplyBy4_232 rfl ?_
  refine x_lload dX5_multiplyBy4_233 rfl rfl ?_
  refine x_lload dX5_multiplyBy4_235 rfl rfl ?_
  refine x_lmul dX5_multiplyBy4_237 rfl ?_
  refine x_lsub dX5_multiplyBy4_238 rfl ?_
  refine x_lload dX5_multiplyBy4_239 rfl rfl ?_
  refine x_lload dX5_multiplyBy4_241 rfl rfl ?_
  refine x_lmul dX5_multiplyBy4_243 rfl ?_
  refine x_lsub dX5_multiplyBy4_244 rfl ?_
  refine x_lastT dX5_multiplyBy4_245 rfl rfl (by omega) (by decide) ?_
  refine x_aload_n (i := 0) dX5_multiplyBy4_246 rfl rfl rfl ?_
  refine x_iconst dX5_multiplyBy4_247 rfl iC_3 ?_
  refine x_lload_n (i := 3) dX5_multiplyBy4_248 rfl rfl rfl ?_
  refine x_lload dX5_multiplyBy4_249 rfl rfl ?_
  refine x_lmul dX5_multiplyBy4_251 rfl ?_
  refine x_lload dX5_multiplyBy4_252 rfl rfl ?_
  refine x_lload dX5_multiplyBy4_254 rfl rfl ?_
  refine x_lmul dX5_multiplyBy4_256 rfl ?_
  refine x_ladd dX5_multiplyBy4_257 rfl ?_
  refine x_lload dX5_multiplyBy4_258 rfl rfl ?_
  refine x_lload dX5_multiplyBy4_260 rfl rfl ?_
  refine x_lmul dX5_multiplyBy4_262 rfl ?_
  refine x_lsub dX5_multiplyBy4_263 rfl ?_
  refine x_lload dX5_multiplyBy4_264 rfl rfl ?_
  refine x_lload dX5_multiplyBy4_266 rfl rfl ?_
  refine x_lmul dX5_multiplyBy4_268 rfl ?_
  refine x_ladd dX5_multiplyBy4_269 rfl ?_
  refine x_lload dX5_multiplyBy4_270 rfl rfl ?_
  refine x_lload dX5_multiplyBy4_272 rfl rfl ?_
  refine x_lmul dX5_multiplyBy4_274 rfl ?_
  refine x_ladd dX5_multiplyBy4_275 rfl ?_
  refine x_lload dX5_multiplyBy4_276 rfl rfl ?_
  refine x_lload dX5_multiplyBy4_278 rfl rfl ?_
  refine x_lmul dX5_multiplyBy4_280 rfl ?_
  refine x_lsub dX5_multiplyBy4_281 rfl ?_
  refine x_lload dX5_multiplyBy4_282 rfl rfl ?_
  refine x_lload dX5_multiplyBy4_284 rfl rfl ?_
  refine x_lmul dX5_multiplyBy4_286 rfl ?_
  refine x_ladd dX5_multiplyBy4_287 rfl ?_
  refine x_lload dX5_multiplyBy4_288 rfl rfl ?_
  refine x_lload dX5_multiplyBy4_290 rfl rfl ?_
  refine x_lmul dX5_multiplyBy4_292 rfl ?_
  refine x_lsub dX5_multiplyBy4_293 rfl ?_
  refine x_lastT dX5_multiplyBy4_294 rfl rfl (by omega) (by decide) ?_
  refine x_aload_n (i := 0) dX5_multiplyBy4_295 rfl rfl rfl ?_
  refine x_iconst dX5_multiplyBy4_296 rfl iC_4 ?_
  refine x_lload_n (i := 3) dX5_multiplyBy4_297 rfl rfl rfl ?_
  refine x_lload dX5_multiplyBy4_298 rfl rfl ?_
  refine x_lmul dX5_multiplyBy4_300 rfl ?_
  refine x_lload dX5_multiplyBy4_301 rfl rfl ?_
  refine x_lload dX5_multiplyBy4_303 rfl rfl ?_
  refine x_lmul dX5_multiplyBy4_305 rfl ?_
  refine x_lsub dX5_multiplyBy4_306 rfl ?_
  refine x_lload dX5_multiplyBy4_307 rfl rfl ?_
  refine x_lload dX5_multiplyBy4_309 rfl rfl ?_
  refine x_lmul dX5_multiplyBy4_311 rfl ?_
  refine x_lsub dX5_multiplyBy4_312 rfl ?_
  refine x_lload dX5_multiplyBy4_313 rfl rfl ?_
  refine x_lload dX5_multiplyBy4_315 rfl rfl ?_
  refine x_lmul dX5_multiplyBy4_317 rfl ?_
  refine x_lsub dX5_multiplyBy4_318 rfl ?_
  refine x_lload dX5_multiplyBy4_319 rfl rfl ?_
  refine x_lload dX5_multiplyBy4_321 rfl rfl ?_
  refine x_lmul dX5_multiplyBy4_323 rfl ?_
  refine x_ladd dX5_multiplyBy4_324 rfl ?_
  refine x_lload dX5_multiplyBy4_325 rfl rfl ?_
  refine x_lload dX5_multiplyBy4_327 rfl rfl ?_
  refine x_lmul dX5_multiplyBy4_329 rfl ?_
  refine x_ladd dX5_multiplyBy4_330 rfl ?_
  refine x_lload dX5_multiplyBy4_331 rfl rfl ?_
  refine x_lload dX5_multiplyBy4_333 rfl rfl ?_
  refine x_lmul dX5_multiplyBy4_335 rfl ?_
  refine x_ladd dX5_multiplyBy4_336 rfl ?_
  refine x_lload dX5_multiplyBy4_337 rfl rfl ?_
  refine x_lload dX5_multiplyBy4_339 rfl rfl ?_
  refine x_lmul dX5_multiplyBy4_341 rfl ?_
  refine x_ladd dX5_multiplyBy4_342 rfl ?_
  refine x_lastT dX5_multiplyBy4_343 rfl rfl (by omega) (by decide) ?_
  refine x_aload_n (i := 0) dX5_multiplyBy4_344 rfl rfl rfl ?_
  refine x_iconst dX5_multiplyBy4_345 rfl iC_5 ?_
  refine x_lload_n (i := 3) dX5_multiplyBy4_346 rfl rfl rfl ?_
  refine x_lload dX5_multiplyBy4_347 rfl rfl ?_
  refine x_lmul dX5_multiplyBy4_349 rfl ?_
  refine x_lload dX5_multiplyBy4_350 rfl rfl ?_
  refine x_lload dX5_multiplyBy4_352 rfl rfl ?_
  refine x_lmul dX5_multiplyBy4_354 rfl ?_
  refine x_ladd dX5_multiplyBy4_355 rfl ?_
  refine x_lload dX5_multiplyBy4_356 rfl rfl ?_
  refine x_lload dX5_multiplyBy4_358 rfl rfl ?_
  refine x_lmul dX5_multiplyBy4_360 rfl ?_
  refine x_lsub dX5_multiplyBy4_361 rfl ?_
  refine x_lload dX5_multiplyBy4_362 rfl rfl ?_
  refine x_lload dX5_multiplyBy4_364 rfl rfl ?_
  refine x_lmul dX5_multiplyBy4_366 rfl ?_
  refine x_ladd dX5_multiplyBy4_367 rfl ?_
  refine x_lload dX5_multiplyBy4_368 rfl rfl ?_
  refine x_lload dX5_multiplyBy4_370 rfl rfl ?_
  refine x_lmul dX5_multiplyBy4_372 rfl ?_
  refine x_lsub dX5_multiplyBy4_373 rfl ?_
  refine x_lload dX5_multiplyBy4_374 rfl rfl ?_
  refine x_lload dX5_multiplyBy4_376 rfl rfl ?_
  refine x_lmul dX5_multiplyBy4_378 rfl ?_
  refine x_ladd dX5_multiplyBy4_379 rfl ?_
  refine x_lload dX5_multiplyBy4_380 rfl rfl ?_
  refine x_lload dX5_multiplyBy4_382 rfl rfl ?_
  refine x_lmul dX5_multiplyBy4_384 rfl ?_
  refine x_lsub dX5_multiplyBy4_385 rfl ?_
  refine x_lload dX5_multiplyBy4_386 rfl rfl ?_
  refine x_lload dX5_multiplyBy4_388 rfl rfl ?_
  refine x_lmul dX5_multiplyBy4_390 rfl ?_
  refine x_ladd dX5_multiplyBy4_391 rfl ?_
  refine x_lastT dX5_multiplyBy4_392 rfl rfl (by omega) (by decide) ?_
  refine x_aload_n (i := 0) dX5_multiplyBy4_393 rfl rfl rfl ?_
  refine x_bipush dX5_multiplyBy4_394 rfl bC_6 ?_
  refine x_lload_n (i := 3) dX5_multiplyBy4_396 rfl rfl rfl ?_
  refine x_lload dX5_multiplyBy4_397 rfl rfl ?_
  refine x_lmul dX5_multiplyBy4_399 rfl ?_
  refine x_lload dX5_multiplyBy4_400 rfl rfl ?_
  refine x_lload dX5_multiplyBy4_402 rfl rfl ?_
  refine x_lmul dX5_multiplyBy4_404 rfl ?_
  refine x_ladd dX5_multiplyBy4_405 rfl ?_
  refine x_lload dX5_multiplyBy4_406 rfl rfl ?_
  refine x_lload dX5_multiplyBy4_408 rfl rfl ?_
  refine x_lmul dX5_multiplyBy4_410 rfl ?_
  refine x_ladd dX5_multiplyBy4_411 rfl ?_
  refine x_lload dX5_multiplyBy4_412 rfl rfl ?_
  refine x_lload dX5_multiplyBy4_414 rfl rfl ?_
  refine x_lmul dX5_multiplyBy4_416 rfl ?_
  refine x_lsub dX5_multiplyBy4_417 rfl ?_
  refine x_lload dX5_multiplyBy4_418 rfl rfl ?_
  refine x_lload dX5_multiplyBy4_420 rfl rfl ?_
  refine x_lmul dX5_multiplyBy4_422 rfl ?_
  refine x_lsub dX5_multiplyBy4_423 rfl ?_
  refine x_lload dX5_multiplyBy4_424 rfl rfl ?_
  refine x_lload dX5_multiplyBy4_426 rfl rfl ?_
  refine x_lmul dX5_multiplyBy4_428 rfl ?_
  refine x_ladd dX5_multiplyBy4_429 rfl ?_
  refine x_lload dX5_multiplyBy4_430 rfl rfl ?_
  refine x_lload dX5_multiplyBy4_432 rfl rfl ?_
  refine x_lmul dX5_multiplyBy4_434 rfl ?_
  refine x_ladd dX5_multiplyBy4_435 rfl ?_
  refine x_lload dX5_multiplyBy4_436 rfl rfl ?_
  refine x_lload dX5_multiplyBy4_438 rfl rfl ?_
  refine x_lmul dX5_multiplyBy4_440 rfl ?_
  refine x_lsub dX5_multiplyBy4_441 rfl ?_
  refine x_lastT dX5_multiplyBy4_442 rfl rfl (by omega) (by decide) ?_
  refine x_aload_n (i := 0) dX5_multiplyBy4_443 rfl rfl rfl ?_
  refine x_bipush dX5_multiplyBy4_444 rfl bC_7 ?_
  refine x_lload_n (i := 3) dX5_multiplyBy4_446 rfl rfl rfl ?_
  refine x_lload dX5_multiplyBy4_447 rfl rfl ?_
  refine x_lmul dX5_multiplyBy4_449 rfl ?_
  refine x_lload dX5_multiplyBy4_450 rfl rfl ?_
  refine x_lload dX5_multiplyBy4_452 rfl rfl ?_
  refine x_lmul dX5_multiplyBy4_454 rfl ?_
  refine x_lsub dX5_multiplyBy4_455 rfl ?_
  refine x_lload dX5_multiplyBy4_456 rfl rfl ?_
  refine x_lload dX5_multiplyBy4_458 rfl rfl ?_
  refine x_lmul dX5_multiplyBy4_460 rfl ?_
  refine x_ladd dX5_multiplyBy4_461 rfl ?_
  refine x_lload dX5_multiplyBy4_462 rfl rfl ?_
  refine x_lload dX5_multiplyBy4_464 rfl rfl ?_
  refine x_lmul dX5_multiplyBy4_466 rfl ?_
  refine x_ladd dX5_multiplyBy4_467 rfl ?_
  refine x_lload dX5_multiplyBy4_468 rfl rfl ?_
  refine x_lload dX5_multiplyBy4_470 rfl rfl ?_
  refine x_lmul dX5_multiplyBy4_472 rfl ?_
  refine x_lsub dX5_multiplyBy4_473 rfl ?_
  refine x_lload dX5_multiplyBy4_474 rfl rfl ?_
  refine x_lload dX5_multiplyBy4_476 rfl rfl ?_
  refine x_lmul dX5_multiplyBy4_478 rfl ?_
  refine x_lsub dX5_multiplyBy4_479 rfl ?_
  refine x_lload dX5_multiplyBy4_480 rfl rfl ?_
  refine x_lload dX5_multiplyBy4_482 rfl rfl ?_
  refine x_lmul dX5_multiplyBy4_484 rfl ?_
  refine x_ladd dX5_multiplyBy4_485 rfl ?_
  refine x_lload dX5_multiplyBy4_486 rfl rfl ?_
  refine x_lload dX5_multiplyBy4_488 rfl rfl ?_
  refine x_lmul dX5_multiplyBy4_490 rfl ?_
  refine x_ladd dX5_multiplyBy4_491 rfl ?_
  refine x_lastT dX5_multiplyBy4_492 rfl rfl (by omega) (by decide) ?_
  refine x_topJ (f2 := zM4 f g) (fun j hj => ?_) (by decide) ?_
  · rcases (show j = 0 ∨ j = 1 ∨ j = 2 ∨ j = 3 ∨ j = 4 ∨ j = 5 ∨ j = 6 ∨ j = 7 by omega) with rfl | rfl | rfl | rfl | rfl | rfl | rfl | rfl <;> rfl
  refine x_return dX5_multiplyBy4_493 rfl ?_
  exact K
end MUL

