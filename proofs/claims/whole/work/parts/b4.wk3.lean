/-! EightPartsModel: begins, follows -/
theorem mW.at {h : xH} {S : St} {a a2 : Nat} {Y : cxT × lvT × Bool} (hw : mW h S (a, Y)) (hC : Cs (hs h 110 (112, 0, updV (h.1 110).2.2 28 (.int (nI a2))))) : mW (hs h 110 (112, 0, updV (h.1 110).2.2 28 (.int (nI a2)))) S (a2, Y) ∧ cF h (hs h 110 (112, 0, updV (h.1 110).2.2 28 (.int (nI a2)))) := by
  obtain ⟨w1, w2, w3, w4, w5, w6, w7, w8⟩ := hw
  obtain ⟨d1, d2, d3, d4, d5, d6⟩ := mW.f (P := fun _ => True) w1 hC (by decide)
  refine ⟨⟨d1, d3, by rw [d4 25 (by decide)]; exact w3, by rw [d4 26 (by decide)]; exact w4, by rw [d4 27 (by decide)]; exact w5, w6, ?_, ?_⟩, cF.sm hC d2 (by simp)⟩
  · exact cxOk.kp _ w7 (fun j _ => by rw [d5 125 (by decide)]) (fun j _ => ⟨by rw [d5 126 (by decide)], by rw [d5 127 (by decide)], by rw [d5 128 (by decide)], d6 _, d6 _⟩)
  · exact w8.kp (by rw [d5 126 (by decide)]) (by rw [d5 127 (by decide)]) (by rw [d5 128 (by decide)]) (d6 _) (d6 _)
theorem eB_dig {c : Int32} (h : eB 48 57 c = none) : ¬ zDig c := by
  intro ⟨a, b⟩
  rw [Int32.le_iff_toInt_le, nI_toInt (by decide)] at a b
  unfold eB at h
  rw [if_pos (by omega)] at h
  cases h
theorem eB_let {c : Int32} (h : eB 97 104 c = none) : ¬ (nI 97 ≤ c ∧ c ≤ nI 104) := by
  intro ⟨a, b⟩
  rw [Int32.le_iff_toInt_le, nI_toInt (by decide)] at a b
  unfold eB at h
  rw [if_pos (by omega)] at h
  cases h
theorem pl_one12 {h1 : xH} {v : Nat} (e1 : pl h1 12 = c8 (fun _ => nI 0)) : upd (iv h1 112) 96 (nI (2 * v)) = mrow (iv h1 112) 12 (zReal v) 8 := by
  funext j
  unfold upd mrow
  by_cases e : j = 96
  · rw [if_pos e, if_pos (by omega)]
    show nI (2 * v) = upd (fun _ => nI 0) 0 (nI (2 * v)) (j - 8 * 12)
    unfold upd
    rw [if_pos (by omega)]
  · rw [if_neg e]
    by_cases q : 8 * 12 ≤ j ∧ j < 8 * 12 + 8
    · rw [if_pos q]
      show iv h1 112 j = upd (fun _ => nI 0) 0 (nI (2 * v)) (j - 8 * 12)
      unfold upd
      rw [if_neg (by omega)]
      have := congrFun e1 (j - 8 * 12)
      rw [pl_lt (by omega), c8_lt (by omega)] at this
      rw [← this]
      congr 1
      omega
    · rw [if_neg q]
section MOD
variable {G : xG} {l : Launch} {d : Nat} {h : xH} {Q : Option Value → xH → Prop} {S : St}
theorem m_begins {a : Nat} {ctx : cxT} {cur : lvT} {c : Bool} {x : Int32} (hd : 5 ≤ d) (hw : mW h S (a, ctx, cur, c)) (ha : a < S.2.2.1.1) (hx : S.2.2.1.2 a = x)
    (K1 : x = nI 126 → ctx.length < 12 → ∀ h2, mW h2 S (a + 1, none :: ctx, cur, c) → cF h h2 → Q (some (.int (nI 1))) h2)
    (K2 : x = nI 40 → ctx.length < 12 → ∀ h2, mW h2 S (a + 1, some cur :: ctx, (none, 1, none), c) → cF h h2 → Q (some (.int (nI 1))) h2)
    (K3 : nI 97 ≤ x ∧ x ≤ nI 104 → ∀ h2, mW h2 S (finX (a + 1) ctx cur (S.1 (ltN x)) c) → cF h h2 → Q (some (.int (nI 1))) h2)
    (K4 : zDig x → ¬ 999 < (zNum S.2.2.1.1 S.2.2.1.2 (S.2.2.1.1 - a) a 0).2 → ∀ h2, mW h2 S (finX (zNum S.2.2.1.1 S.2.2.1.2 (S.2.2.1.1 - a) a 0).1 ctx cur (c8 (zReal (zNum S.2.2.1.1 S.2.2.1.2 (S.2.2.1.1 - a) a 0).2)) c) → cF h h2 → Q (some (.int (nI 1))) h2)
    (K0 : (((x = nI 126 ∨ x = nI 40) ∧ ¬ ctx.length < 12) ∨ (zDig x ∧ 999 < (zNum S.2.2.1.1 S.2.2.1.2 (S.2.2.1.1 - a) a 0).2) ∨ ¬ (x = nI 126 ∨ x = nI 40 ∨ (nI 97 ≤ x ∧ x ≤ nI 104) ∨ zDig x)) → ∀ h2, mW h2 S (a, ctx, cur, c) → cF h h2 → Q (some (.int (nI 0))) h2) : xCt G l mX12_begins d [.ref 110, .int x] h 0 0 Q := by
  have hC := hw.1.1
  have f25 : (h.1 110).2.2 25 = .int (nI ctx.length) := hw.2.2.1
  have l12 : ctx.length ≤ 12 := hw.2.2.2.2.2.1
  refine xCt_of (by decide) (Nat.le_of_ble_eq_true rfl) ?_
  -- at goes on by one
  have inc38 : ∀ h1 Y, mW h1 S (a, Y) → cF h h1 → (∀ h2, mW h2 S (a + 1, Y) → cF h h2 → Q (some (.int (nI 1))) h2) → xWP G l mX12_begins d (zM G Q) 0 0 38 (xls [(0, .ref 110)]) [] h1 := by
    intro h1 Y w1 c1 k1
    have hC := w1.1.1
    have f28 : (h1.1 110).2.2 28 = .int (nI a) := w1.2.1
    refine x_aload_n (i := 0) dX12_begins_38 rfl rfl rfl ?_
    refine x_dup dX12_begins_39 rfl rfl ?_
    refine x_getM (a := 110) dX12_begins_40 rfl fX12_298 hC rfl f28 ?_
    refine x_iconst dX12_begins_43 rfl iC_1 ?_
    refine x_iadd dX12_begins_44 rfl ?_
    rw [show nI a + nI 1 = nI (a + 1) from nI_add _ 1]
    have hC2 := hC.setF (ci := 12) (a := 110) (kf := 28) (v := .int (nI (a + 1))) rfl NF_110_28 (by decide)
    obtain ⟨e1, e2⟩ := w1.at hC2
    refine x_putC (a := 110) dX12_begins_45 rfl fX12_298 (fun q hq => by cases hq; rfl) hC rfl ⟨rfl, rfl⟩ ?_
    refine x_iconst dX12_begins_48 rfl iC_1 ?_
    refine x_ireturn dX12_begins_49 rfl rfl ?_
    exact k1 _ e1 (c1.tr e2)
  have inc72 : ∀ h1 Y, mW h1 S (a, Y) → cF h h1 → (∀ h2, mW h2 S (a + 1, Y) → cF h h2 → Q (some (.int (nI 1))) h2) → xWP G l mX12_begins d (zM G Q) 0 0 72 (xls [(0, .ref 110)]) [] h1 := by
    intro h1 Y w1 c1 k1
    have hC := w1.1.1
    have f28 : (h1.1 110).2.2 28 = .int (nI a) := w1.2.1
    refine x_aload_n (i := 0) dX12_begins_72 rfl rfl rfl ?_
    refine x_dup dX12_begins_73 rfl rfl ?_
    refine x_getM (a := 110) dX12_begins_74 rfl fX12_298 hC rfl f28 ?_
    refine x_iconst dX12_begins_77 rfl iC_1 ?_
    refine x_iadd dX12_begins_78 rfl ?_
    rw [show nI a + nI 1 = nI (a + 1) from nI_add _ 1]
    have hC2 := hC.setF (ci := 12) (a := 110) (kf := 28) (v := .int (nI (a + 1))) rfl NF_110_28 (by decide)
    obtain ⟨e1, e2⟩ := w1.at hC2
    refine x_putC (a := 110) dX12_begins_79 rfl fX12_298 (fun q hq => by cases hq; rfl) hC rfl ⟨rfl, rfl⟩ ?_
    refine x_iconst dX12_begins_82 rfl iC_1 ?_
    refine x_ireturn dX12_begins_83 rfl rfl ?_
    exact k1 _ e1 (c1.tr e2)
  have op : (x = nI 126 ∨ x = nI 40) → xWP G l mX12_begins d (zM G Q) 0 0 12 (xls [(0, .ref 110), (1, .int x)]) [] h := by
    intro z
    refine x_aload_n (i := 0) dX12_begins_12 rfl rfl rfl ?_
    refine x_getM (a := 110) dX12_begins_13 rfl fX12_286 hC rfl f25 ?_
    refine x_bipush dX12_begins_16 rfl bC_12 ?_
    refine x_jc_ne (tgt := 23) dX12_begins_18 rfl rfl (by omega) (by omega) (fun c18 => ?_) (fun c18 => ?_)
    · have l2 : ctx.length < 12 := by omega
      rcases z with z | z
      · subst z
        refine x_aload_n (i := 0) dX12_begins_23 rfl rfl rfl ?_
        refine x_iload_n (i := 1) dX12_begins_24 rfl rfl rfl ?_
        refine x_bipush dX12_begins_25 rfl bC_126 ?_
        refine x_ic_ne_f (tgt := 34) dX12_begins_27 rfl rfl (by decide) ?_
        refine x_iconst dX12_begins_30 rfl iC_1 ?_
        refine x_goto (tgt := 35) dX12_begins_31 rfl ?_
        refine x_callV0 (ci := 12) (b := 110) (As := [_]) (d2 := d - 1) dX12_begins_35 rfl kX12_295 okX12_opens (hC.o rfl) (fun q hq => by cases hq; rfl) (by omega) rfl rfl (Nat.le_of_ble_eq_true rfl) (m_opens1 hw l2 (fun h2 w2 c2 => ?_))
        exact x_to (inc38 h2 _ w2 c2 (K1 rfl l2)) ⟨rfl, trivial⟩
      · subst z
        refine x_aload_n (i := 0) dX12_begins_23 rfl rfl rfl ?_
        refine x_iload_n (i := 1) dX12_begins_24 rfl rfl rfl ?_
        refine x_bipush dX12_begins_25 rfl bC_126 ?_
        refine x_ic_ne_t (tgt := 34) dX12_begins_27 rfl (by decide) ?_
        refine x_iconst dX12_begins_34 rfl iC_2 ?_
        refine x_callV0 (ci := 12) (b := 110) (As := [_]) (d2 := d - 1) dX12_begins_35 rfl kX12_295 okX12_opens (hC.o rfl) (fun q hq => by cases hq; rfl) (by omega) rfl rfl (Nat.le_of_ble_eq_true rfl) (m_opens2 hw l2 (fun h2 w2 c2 => ?_))
        exact x_to (inc38 h2 _ w2 c2 (K2 rfl l2)) ⟨rfl, trivial⟩
    · refine x_iconst dX12_begins_21 rfl iC_0 ?_
      refine x_ireturn dX12_begins_22 rfl rfl ?_
      exact K0 (Or.inl ⟨z, by omega⟩) h hw (cF.rf hC)
  have rest : ¬ x = nI 126 → ¬ x = nI 40 → xWP G l mX12_begins d (zM G Q) 0 0 50 (xls [(0, .ref 110), (1, .int x)]) [] h := by
    intro z1 z2
    refine x_iload_n (i := 1) dX12_begins_50 rfl rfl rfl ?_
    refine x_i2l dX12_begins_51 rfl ?_
    refine x_ldc2 dX12_begins_52 rfl cX12_301 ?_
    refine x_ldc2 dX12_begins_55 rfl cX12_303 ?_
    refine x_callS0 (As := [_, _, _]) (d2 := d - 1) dX12_begins_58 rfl kX12_95 okX12_in (by omega) rfl rfl (Nat.le_of_ble_eq_true rfl) (m_in (lo := 97) (hi := 104) (by decide) (by decide) (by decide) (fun z => ?_) (fun k k1 k2 ek qk => ?_))
    rotate_left
    · subst ek
      have hl : nI 97 ≤ nI k ∧ nI k ≤ nI 104 := ⟨nI_le (by omega) (by omega), nI_le (by omega) (by omega)⟩
      have el : ltN (nI k) = k - 97 := by
        unfold ltN
        rw [pk_sub (by omega), nI_toInt (by omega)]
        omega
      refine x_if_eq_f (tgt := 84) dX12_begins_61 rfl rfl nb1 ?_
      refine x_aload_n (i := 0) dX12_begins_64 rfl rfl rfl ?_
      refine x_iload_n (i := 1) dX12_begins_65 rfl rfl rfl ?_
      refine x_bipush dX12_begins_66 rfl bC_97 ?_
      refine x_isub dX12_begins_68 rfl ?_
      rw [show nI k - nI 97 = nI (k - 97) from pk_sub (by omega)]
      refine x_callV0 (ci := 12) (b := 110) (As := [_]) (d2 := d - 1) dX12_begins_69 rfl kX12_305 okX12_factors (hC.o rfl) (fun q hq => by cases hq; rfl) (by omega) rfl rfl (Nat.le_of_ble_eq_true rfl) (m_factors (x := k - 97) (by omega) hw (by omega) (hw.1.p (by omega)) (fun h2 w2 c2 => ?_))
      rw [← el] at w2
      exact x_to (inc72 h2 _ w2 c2 (K3 hl)) ⟨rfl, trivial⟩
    have nl := eB_let z
    refine x_if_eq_t (tgt := 84) dX12_begins_61 rfl nI_0 ?_
    refine x_iload_n (i := 1) dX12_begins_84 rfl rfl rfl ?_
    refine x_i2l dX12_begins_85 rfl ?_
    refine x_ldc2 dX12_begins_86 rfl cX12_308 ?_
    refine x_ldc2 dX12_begins_89 rfl cX12_310 ?_
    refine x_callS0 (As := [_, _, _]) (d2 := d - 1) dX12_begins_92 rfl kX12_95 okX12_in (by omega) rfl rfl (Nat.le_of_ble_eq_true rfl) (m_in (lo := 48) (hi := 57) (by decide) (by decide) (by decide) (fun z => ?_) (fun k k1 k2 ek qk => ?_))
    · have nd := eB_dig z
      refine x_if_ne_f (tgt := 100) dX12_begins_95 rfl rfl nI_0 ?_
      refine x_iconst dX12_begins_98 rfl iC_0 ?_
      refine x_ireturn dX12_begins_99 rfl rfl ?_
      exact K0 (Or.inr (Or.inr (by rintro (q | q | q | q); exact z1 q; exact z2 q; exact nl q; exact nd q))) h hw (cF.rf hC)
    have dg : zDig x := by rw [ek]; exact ⟨nI_le (by omega) (by omega), nI_le (by omega) (by omega)⟩
    have f28 : (h.1 110).2.2 28 = .int (nI a) := hw.2.1
    obtain ⟨n1, n2, n3⟩ := hw.1.2.2.2.2.2.2.1
    generalize hn : S.2.2.1.1 = n at *
    generalize hb : S.2.2.1.2 = tb at *
    refine x_if_ne_t (tgt := 100) dX12_begins_95 rfl nb1 ?_
    refine x_aload_n (i := 0) dX12_begins_100 rfl rfl rfl ?_
    refine x_getM (a := 110) dX12_begins_101 rfl fX12_298 hC rfl f28 ?_
    refine x_istore_n (i := 2) dX12_begins_104 rfl rfl (by decide) ?_
    refine x_iconst dX12_begins_105 rfl iC_0 ?_
    refine x_istore_n (i := 3) dX12_begins_106 rfl rfl (by decide) ?_
    -- behind the digits
    have beh : ∀ b v h1, mW h1 S (b, ctx, cur, c) → cF h h1 → v ≤ 9999 → zNum n tb (n - a) a 0 = (b, min 1000 v) → xWP G l mX12_begins d (zM G Q) 0 0 178 (xls [(0, .ref 110), (2, .int (nI a)), (3, .int (nI v))]) [] h1 := by
      intro b v h1 w1 c1 hv en
      have hC := w1.1.1
      rw [en] at K4 K0
      refine x_iload_n (i := 3) dX12_begins_178 rfl rfl rfl ?_
      refine x_sipush dX12_begins_179 rfl sC_999 ?_
      refine x_jc_le (tgt := 192) dX12_begins_182 rfl rfl (by omega) (by omega) (fun c182 => ?_) (fun c182 => ?_)
      · refine x_aload_n (i := 0) dX12_begins_192 rfl rfl rfl ?_
        refine x_bipush dX12_begins_193 rfl bC_12 ?_
        refine x_callV0 (ci := 12) (b := 110) (As := [_]) (d2 := d - 1) dX12_begins_195 rfl kX12_171 okX12_nought (hC.o rfl) (fun q hq => by cases hq; rfl) (by omega) rfl rfl (Nat.le_of_ble_eq_true rfl) (m_nought (t := 12) hC (by decide) (fun h2 m2 e2 => ?_))
        have w2 := w1.fr m2 (by simp) (by simp)
        have hC := w2.1.1
        have row := hC.v (a := 112) rfl
        refine x_aload_n (i := 0) dX12_begins_198 rfl rfl rfl ?_
        refine x_getC dX12_begins_199 rfl fX12_17 hC rfl F_110_2 ?_
        refine x_bipush dX12_begins_202 rfl bC_96 ?_
        refine x_iconst dX12_begins_204 rfl iC_2 ?_
        refine x_iload_n (i := 3) dX12_begins_205 rfl rfl rfl ?_
        refine x_imul dX12_begins_206 rfl ?_
        rw [show nI 2 * nI v = nI (2 * v) from nI_mul8 _ _]
        refine x_iast dX12_begins_207 rfl row rfl (by omega) (by decide) ?_
        rw [pl_one12 e2]
        obtain ⟨k1, k2⟩ := mV_row (x := 12) (f := zReal v) hC (by decide) (fun _ => bdR (by omega))
        generalize hs h2 112 (0, 1240, xI (mrow (iv h2 112) 12 (zReal v) 8)) = h3 at k1 k2 ⊢
        have w3 := w2.fr k1 (by simp) (by simp)
        have hC := w3.1.1
        refine x_aload_n (i := 0) dX12_begins_208 rfl rfl rfl ?_
        refine x_bipush dX12_begins_209 rfl bC_12 ?_
        refine x_callV0 (ci := 12) (b := 110) (As := [_]) (d2 := d - 1) dX12_begins_211 rfl kX12_305 okX12_factors (hC.o rfl) (fun q hq => by cases hq; rfl) (by omega) rfl rfl (Nat.le_of_ble_eq_true rfl) (m_factors (x := 12) (by omega) w3 (by decide) k2 (fun h4 w4 c4 => ?_))
        refine x_iconst dX12_begins_214 rfl iC_1 ?_
        refine x_ireturn dX12_begins_215 rfl rfl ?_
        have em : min 1000 v = v := by omega
        rw [em] at K4
        exact K4 dg (by omega) h4 w4 (((c1.tr (m2.c (by simp))).tr (k1.c (by simp))).tr c4)
      · have hC2 := hC.setF (ci := 12) (a := 110) (kf := 28) (v := .int (nI a)) rfl NF_110_28 (by decide)
        obtain ⟨e1, e2⟩ := w1.at hC2
        refine x_aload_n (i := 0) dX12_begins_185 rfl rfl rfl ?_
        refine x_iload_n (i := 2) dX12_begins_186 rfl rfl rfl ?_
        refine x_putC (a := 110) dX12_begins_187 rfl fX12_298 (fun q hq => by cases hq; rfl) hC rfl ⟨rfl, rfl⟩ ?_
        refine x_iconst dX12_begins_190 rfl iC_0 ?_
        refine x_ireturn dX12_begins_191 rfl rfl ?_
        exact K0 (Or.inr (Or.inl ⟨dg, by show 999 < min 1000 v; omega⟩)) _ e1 (c1.tr e2)
    have loop : ∀ f b v h1, n - b = f → b ≤ n → mW h1 S (b, ctx, cur, c) → cF h h1 → v ≤ 9999 → zNum n tb (n - a) a 0 = zNum n tb f b (min 1000 v) → xWP G l mX12_begins d (zM G Q) 0 0 107 (xls [(0, .ref 110), (2, .int (nI a)), (3, .int (nI v))]) [] h1 := by
      intro f
      induction f with
      | zero =>
        intro b v h1 hf hbn w1 c1 hv en
        have hC := w1.1.1
        have g28 : (h1.1 110).2.2 28 = .int (nI b) := w1.2.1
        have g20 : (h1.1 110).2.2 20 = .int (nI n) := by have := w1.1.2.2.2.2.2.2.1.2.1; rw [hn] at this; exact this
        refine x_aload_n (i := 0) dX12_begins_107 rfl rfl rfl ?_
        refine x_getM (a := 110) dX12_begins_108 rfl fX12_298 hC rfl g28 ?_
        refine x_aload_n (i := 0) dX12_begins_111 rfl rfl rfl ?_
        refine x_getM (a := 110) dX12_begins_112 rfl fX12_283 hC rfl g20 ?_
        refine x_jc_ge (tgt := 178) dX12_begins_115 rfl rfl (by omega) (by omega) (fun c115 => ?_) (fun c115 => ?_)
        · exact x_to (beh b v h1 w1 c1 hv en) ⟨rfl, rfl, rfl, trivial⟩
        · exfalso
          omega
      | succ f ih =>
        intro b v h1 hf hbn w1 c1 hv en
        have hC := w1.1.1
        have g28 : (h1.1 110).2.2 28 = .int (nI b) := w1.2.1
        have g20 : (h1.1 110).2.2 20 = .int (nI n) := by have := w1.1.2.2.2.2.2.2.1.2.1; rw [hn] at this; exact this
        have g24 : ∀ j, j < n → iv h1 124 j = tb j := by have := w1.1.2.2.2.2.2.2.1.2.2; rw [hn, hb] at this; exact this
        have v24 := hC.v (a := 124) rfl
        refine x_aload_n (i := 0) dX12_begins_107 rfl rfl rfl ?_
        refine x_getM (a := 110) dX12_begins_108 rfl fX12_298 hC rfl g28 ?_
        refine x_aload_n (i := 0) dX12_begins_111 rfl rfl rfl ?_
        refine x_getM (a := 110) dX12_begins_112 rfl fX12_283 hC rfl g20 ?_
        refine x_jc_ge (tgt := 178) dX12_begins_115 rfl rfl (by omega) (by omega) (fun c115 => ?_) (fun c115 => ?_)
        · exfalso
          omega
        have hb2 : b < n := by omega
        refine x_aload_n (i := 0) dX12_begins_118 rfl rfl rfl ?_
        refine x_getC dX12_begins_119 rfl fX12_59 hC rfl F_110_19 ?_
        refine x_aload_n (i := 0) dX12_begins_122 rfl rfl rfl ?_
        refine x_getM (a := 110) dX12_begins_123 rfl fX12_298 hC rfl g28 ?_
        refine x_iald dX12_begins_126 rfl v24 rfl (by omega) (by decide) ?_
        rw [g24 b hb2]
        refine x_i2l dX12_begins_127 rfl ?_
        refine x_ldc2 dX12_begins_128 rfl cX12_308 ?_
        refine x_ldc2 dX12_begins_131 rfl cX12_310 ?_
        refine x_callS0 (As := [_, _, _]) (d2 := d - 1) dX12_begins_134 rfl kX12_95 okX12_in (by omega) rfl rfl (Nat.le_of_ble_eq_true rfl) (m_in (lo := 48) (hi := 57) (by decide) (by decide) (by decide) (fun z => ?_) (fun k k1 k2 ek qk => ?_))
        · have nd := eB_dig z
          rw [zNum, if_neg (fun q => nd q.2)] at en
          refine x_if_eq_t (tgt := 178) dX12_begins_137 rfl nI_0 ?_
          exact x_to (beh b v h1 w1 c1 hv en) ⟨rfl, rfl, rfl, trivial⟩
        · have dgb : zDig (tb b) := by rw [ek]; exact ⟨nI_le (by omega) (by omega), nI_le (by omega) (by omega)⟩
          have ed : dgN (tb b) = k - 48 := by
            rw [ek]
            unfold dgN
            rw [pk_sub (by omega), nI_toInt (by omega)]
            omega
          rw [zNum, if_pos ⟨hb2, dgb⟩, ed] at en
          have nxt : ∀ v2, v2 ≤ 9999 → min 1000 (min 1000 v * 10 + (k - 48)) = min 1000 v2 → xWP G l mX12_begins d (zM G Q) 0 0 165 (xls [(0, .ref 110), (2, .int (nI a)), (3, .int (nI v2))]) [] h1 := by
            intro v2 hv2 ev
            rw [ev] at en
            refine x_aload_n (i := 0) dX12_begins_165 rfl rfl rfl ?_
            refine x_dup dX12_begins_166 rfl rfl ?_
            refine x_getM (a := 110) dX12_begins_167 rfl fX12_298 hC rfl g28 ?_
            refine x_iconst dX12_begins_170 rfl iC_1 ?_
            refine x_iadd dX12_begins_171 rfl ?_
            rw [show nI b + nI 1 = nI (b + 1) from nI_add _ 1]
            have hC2 := hC.setF (ci := 12) (a := 110) (kf := 28) (v := .int (nI (b + 1))) rfl NF_110_28 (by decide)
            obtain ⟨e1, e2⟩ := w1.at hC2
            refine x_putC (a := 110) dX12_begins_172 rfl fX12_298 (fun q hq => by cases hq; rfl) hC rfl ⟨rfl, rfl⟩ ?_
            refine x_goto (tgt := 107) dX12_begins_175 rfl ?_
            exact x_to (ih (b + 1) v2 _ (by omega) (by omega) e1 (c1.tr e2) hv2 en) ⟨rfl, rfl, rfl, trivial⟩
          refine x_if_eq_f (tgt := 178) dX12_begins_137 rfl rfl nb1 ?_
          refine x_iload_n (i := 3) dX12_begins_140 rfl rfl rfl ?_
          refine x_sipush dX12_begins_141 rfl sC_999 ?_
          refine x_jc_gt (tgt := 165) dX12_begins_144 rfl rfl (by omega) (by omega) (fun c144 => ?_) (fun c144 => ?_)
          · exact x_to (nxt v hv (by omega)) ⟨rfl, rfl, rfl, trivial⟩
          · refine x_bipush dX12_begins_147 rfl bC_10 ?_
            refine x_iload_n (i := 3) dX12_begins_149 rfl rfl rfl ?_
            refine x_imul dX12_begins_150 rfl ?_
            refine x_aload_n (i := 0) dX12_begins_151 rfl rfl rfl ?_
            refine x_getC dX12_begins_152 rfl fX12_59 hC rfl F_110_19 ?_
            refine x_aload_n (i := 0) dX12_begins_155 rfl rfl rfl ?_
            refine x_getM (a := 110) dX12_begins_156 rfl fX12_298 hC rfl g28 ?_
            refine x_iald dX12_begins_159 rfl v24 rfl (by omega) (by decide) ?_
            rw [g24 b hb2, ek, show nI 10 * nI v = nI (10 * v) from nI_mul8 _ _]
            refine x_iadd dX12_begins_160 rfl ?_
            refine x_bipush dX12_begins_161 rfl bC_48 ?_
            refine x_isub dX12_begins_163 rfl ?_
            rw [show nI (10 * v) + nI k - nI 48 = nI (10 * v + k - 48) by rw [nI_add, pk_sub (by omega)]]
            refine x_istore_n (i := 3) dX12_begins_164 rfl rfl (by decide) ?_
            exact x_to (nxt (10 * v + k - 48) (by omega) (by omega)) ⟨rfl, rfl, rfl, trivial⟩
    exact x_to (loop (n - a) a 0 h rfl (by omega) hw (cF.rf hC) (by omega) rfl) ⟨rfl, rfl, rfl, trivial⟩
  refine x_iload_n (i := 1) dX12_begins_0 rfl rfl rfl ?_
  refine x_bipush dX12_begins_1 rfl bC_126 ?_
  refine x_ic_eq (tgt := 12) dX12_begins_3 rfl rfl (fun c3 => ?_) (fun c3 => ?_)
  · exact x_to (op (Or.inl c3)) ⟨rfl, rfl, trivial⟩
  · refine x_iload_n (i := 1) dX12_begins_6 rfl rfl rfl ?_
    refine x_bipush dX12_begins_7 rfl bC_40 ?_
    refine x_ic_ne (tgt := 50) dX12_begins_9 rfl rfl (fun c9 => ?_) (fun c9 => ?_)
    · exact x_to (rest c3 c9) ⟨rfl, rfl, trivial⟩
    · have c9' : x = nI 40 := by
        first
        | exact c9
        | exact Classical.byContradiction (fun z => c9 z)
      exact x_to (op (Or.inr c9')) ⟨rfl, rfl, trivial⟩
theorem m_follows {a : Nat} {ctx : cxT} {cur : lvT} {c : Bool} {t : Nat → Int32} {x : Int32} (hd : 5 ≤ d) (hw : mW h S (a, ctx, cur, c)) (et : cur.2.2 = some t) (hp : popM ctx = ctx)
    (K1 : x = nI 41 → ∀ r c2, ctx = some r :: c2 → ∀ h2, mW h2 S (finX (a + 1) c2 r (sumL cur t c).2 (sumL cur t c).1) → cF h h2 → Q (some (.int (nI 1))) h2)
    (K2 : (x = nI 43 ∨ x = nI 45) → ∀ h2, mW h2 S (a + 1, ctx, (some (sumL cur t c).2, (if x = nI 43 then nI 1 else -1), none), (sumL cur t c).1) → cF h h2 → Q (some (.int (nI 1))) h2)
    (K3 : x = nI 42 → ∀ h2, mW h2 S (a + 1, ctx, cur, c) → cF h h2 → Q (some (.int (nI 1))) h2)
    (K0 : ((x = nI 41 ∧ ctx = []) ∨ ¬ (x = nI 41 ∨ x = nI 43 ∨ x = nI 45 ∨ x = nI 42)) → Q (some (.int (nI 0))) h) : xCt G l mX12_follows d [.ref 110, .int x] h 0 0 Q := by
  have hC := hw.1.1
  have ll := lvl_le ctx
  have l12 : ctx.length ≤ 12 := hw.2.2.2.2.2.1
  have f26 : (h.1 110).2.2 26 = .int (nI (lvl ctx)) := hw.2.2.2.1
  refine xCt_of (by decide) (Nat.le_of_ble_eq_true rfl) ?_
  have inc : ∀ h1 Y, mW h1 S (a, Y) → cF h h1 → (∀ h2, mW h2 S (a + 1, Y) → cF h h2 → Q (some (.int (nI 1))) h2) → xWP G l mX12_follows d (zM G Q) 0 0 102 (xls [(0, .ref 110)]) [] h1 := by
    intro h1 Y w1 c1 k1
    have hC := w1.1.1
    have f28 : (h1.1 110).2.2 28 = .int (nI a) := w1.2.1
    refine x_aload_n (i := 0) dX12_follows_102 rfl rfl rfl ?_
    refine x_dup dX12_follows_103 rfl rfl ?_
    refine x_getM (a := 110) dX12_follows_104 rfl fX12_298 hC rfl f28 ?_
    refine x_iconst dX12_follows_107 rfl iC_1 ?_
    refine x_iadd dX12_follows_108 rfl ?_
    rw [show nI a + nI 1 = nI (a + 1) from nI_add _ 1]
    have hC2 := hC.setF (ci := 12) (a := 110) (kf := 28) (v := .int (nI (a + 1))) rfl NF_110_28 (by decide)
    obtain ⟨e1, e2⟩ := w1.at hC2
    refine x_putC (a := 110) dX12_follows_109 rfl fX12_298 (fun q hq => by cases hq; rfl) hC rfl ⟨rfl, rfl⟩ ?_
    refine x_iconst dX12_follows_112 rfl iC_1 ?_
    refine x_ireturn dX12_follows_113 rfl rfl ?_
    exact k1 _ e1 (c1.tr e2)
  refine x_iload_n (i := 1) dX12_follows_0 rfl rfl rfl ?_
  refine x_bipush dX12_follows_1 rfl bC_41 ?_
  refine x_ic_ne (tgt := 55) dX12_follows_3 rfl rfl (fun c3 => ?_) (fun c3 => ?_)
  rotate_left
  · have c3' : x = nI 41 := by
      first
      | exact c3
      | exact Classical.byContradiction (fun z => c3 z)
    match ctx, hp, hw, K1, K0, f26, l12, ll with
    | [], _, hw, _, K0, f26, _, _ =>
      change (h.1 110).2.2 26 = .int (nI 0) at f26
      refine x_aload_n (i := 0) dX12_follows_6 rfl rfl rfl ?_
      refine x_getM (a := 110) dX12_follows_7 rfl fX12_289 hC rfl f26 ?_
      refine x_if_ne_f (tgt := 15) dX12_follows_10 rfl rfl nI_0 ?_
      refine x_iconst dX12_follows_13 rfl iC_0 ?_
      refine x_ireturn dX12_follows_14 rfl rfl ?_
      exact K0 (Or.inl ⟨c3', rfl⟩)
    | none :: cc, hp, _, _, _, _, _, _ =>
      exfalso
      have : ∀ q : cxT, (popM q).length ≤ q.length := by
        intro q
        induction q with
        | nil => exact Nat.le_refl _
        | cons z q ih =>
          cases z with
          | none => show (popM q).length ≤ q.length + 1; omega
          | some r => exact Nat.le_refl _
      have h2 := this cc
      have h3 : (popM cc).length = cc.length + 1 := by
        have : popM cc = none :: cc := hp
        rw [this]
        rfl
      omega
    | some r :: cc, _, hw, K1, _, f26, l12, ll =>
      change (h.1 110).2.2 26 = .int (nI (lvl cc + 1)) at f26
      change cc.length + 1 ≤ 12 at l12
      have lc := lvl_le cc
      have pos : ¬ nI (lvl cc + 1) = 0 := by
        intro q
        have := (nI_eq (a := lvl cc + 1) (b := 0) (by omega) (by decide)).mp (by rw [q, nI_0])
        omega
      refine x_aload_n (i := 0) dX12_follows_6 rfl rfl rfl ?_
      refine x_getM (a := 110) dX12_follows_7 rfl fX12_289 hC rfl f26 ?_
      refine x_if_ne_t (tgt := 15) dX12_follows_10 rfl pos ?_
      refine x_aload_n (i := 0) dX12_follows_15 rfl rfl rfl ?_
      refine x_callV0 (ci := 12) (b := 110) (As := []) (d2 := d - 1) dX12_follows_16 rfl kX12_312 okX12_sums (hC.o rfl) (fun q hq => by cases hq; rfl) (by omega) rfl rfl (Nat.le_of_ble_eq_true rfl) (m_sums (by omega) hw et (fun h1 w1 c1 => ?_))
      obtain ⟨q1, q2, q3, q4, q5, q6, q7, q8⟩ := w1
      change (h1.1 110).2.2 26 = .int (nI (lvl cc + 1)) at q4
      change (h1.1 110).2.2 25 = .int (nI (cc.length + 1)) at q3
      have hC := q1.1
      refine x_aload_n (i := 0) dX12_follows_19 rfl rfl rfl ?_
      refine x_dup dX12_follows_20 rfl rfl ?_
      refine x_getM (a := 110) dX12_follows_21 rfl fX12_289 hC rfl q4 ?_
      refine x_iconst dX12_follows_24 rfl iC_1 ?_
      refine x_isub dX12_follows_25 rfl ?_
      rw [show nI (lvl cc + 1) - nI 1 = nI (lvl cc + 1 - 1) from pk_sub (by omega), show lvl cc + 1 - 1 = lvl cc by omega]
      have hC2 := hC.setF (ci := 12) (a := 110) (kf := 26) (v := .int (nI (lvl cc))) rfl NF_110_26 (by decide)
      obtain ⟨d1, d2, d3, d4, d5, d6⟩ := mW.f (P := fun _ => True) q1 hC2 (by decide)
      refine x_putC (a := 110) dX12_follows_26 rfl fX12_289 (fun q hq => by cases hq; rfl) hC rfl ⟨rfl, rfl⟩ ?_
      show xWP G l mX12_follows d (zM G Q) 0 0 29 _ [] (hs h1 110 (112, 0, updV (h1.1 110).2.2 26 (.int (nI (lvl cc)))))
      generalize hs h1 110 (112, 0, updV (h1.1 110).2.2 26 (.int (nI (lvl cc)))) = h2 at hC2 d1 d2 d3 d4 d5 d6 ⊢
      have g25 : (h2.1 110).2.2 25 = .int (nI (cc.length + 1)) := by rw [d4 25 (by decide)]; exact q3
      have hC := hC2
      refine x_aload_n (i := 0) dX12_follows_29 rfl rfl rfl ?_
      refine x_dup dX12_follows_30 rfl rfl ?_
      refine x_getM (a := 110) dX12_follows_31 rfl fX12_286 hC rfl g25 ?_
      refine x_iconst dX12_follows_34 rfl iC_1 ?_
      refine x_isub dX12_follows_35 rfl ?_
      rw [show nI (cc.length + 1) - nI 1 = nI (cc.length + 1 - 1) from pk_sub (by omega), show cc.length + 1 - 1 = cc.length by omega]
      have hC3 := hC.setF (ci := 12) (a := 110) (kf := 25) (v := .int (nI cc.length)) rfl NF_110_25 (by decide)
      obtain ⟨g1, g2, g3, g4, g5, g6⟩ := mW.f (P := fun _ => True) d1 hC3 (by decide)
      refine x_putC (a := 110) dX12_follows_36 rfl fX12_286 (fun q hq => by cases hq; rfl) hC rfl ⟨rfl, rfl⟩ ?_
      show xWP G l mX12_follows d (zM G Q) 0 0 39 _ [] (hs h2 110 (112, 0, updV (h2.1 110).2.2 25 (.int (nI cc.length))))
      generalize hs h2 110 (112, 0, updV (h2.1 110).2.2 25 (.int (nI cc.length))) = h3 at hC3 g1 g2 g3 g4 g5 g6 ⊢
      have g26 : (h3.1 110).2.2 26 = .int (nI (lvl cc)) := by rw [g4 26 (by decide)]; exact d3
      have hC := hC3
      have ei : ∀ q, q ≠ 110 → iv h3 q = iv h1 q := fun q hq => by rw [g5 q hq, d5 q hq]
      have ep : ∀ y, pl h3 y = pl h1 y := fun y => by rw [g6, d6]
      have w3 : mW h3 S (a, cc, r, (sumL cur t c).1) := by
        refine ⟨g1, by rw [g4 28 (by decide), d4 28 (by decide)]; exact q2, g3, g26, by rw [g4 27 (by decide), d4 27 (by decide)]; exact q5, by show cc.length ≤ 12; omega, ?_, ?_⟩
        · exact cxOk.kp _ q7.2.2 (fun j _ => by rw [ei 125 (by decide)]) (fun j _ => ⟨by rw [ei 126 (by decide)], by rw [ei 127 (by decide)], by rw [ei 128 (by decide)], ep _, ep _⟩)
        · exact q7.2.1.kp (by rw [ei 126 (by decide)]) (by rw [ei 127 (by decide)]) (by rw [ei 128 (by decide)]) (ep _) (ep _)
      have sv : pl h3 (24 + lvl cc + 1) = (sumL cur t c).2 := by
        rw [ep]
        exact q8.2.2.2.2.1 _ rfl
      refine x_aload_n (i := 0) dX12_follows_39 rfl rfl rfl ?_
      refine x_bipush dX12_follows_40 rfl bC_24 ?_
      refine x_aload_n (i := 0) dX12_follows_42 rfl rfl rfl ?_
      refine x_getM (a := 110) dX12_follows_43 rfl fX12_289 hC rfl g26 ?_
      refine x_iadd dX12_follows_46 rfl ?_
      rw [show nI 24 + nI (lvl cc) = nI (24 + lvl cc) from nI_add _ _]
      refine x_iconst dX12_follows_47 rfl iC_1 ?_
      refine x_iadd dX12_follows_48 rfl ?_
      rw [show nI (24 + lvl cc) + nI 1 = nI (24 + lvl cc + 1) from nI_add _ _]
      refine x_callV0 (ci := 12) (b := 110) (As := [_]) (d2 := d - 1) dX12_follows_49 rfl kX12_305 okX12_factors (hC.o rfl) (fun q hq => by cases hq; rfl) (by omega) rfl rfl (Nat.le_of_ble_eq_true rfl) (m_factors (x := 24 + lvl cc + 1) (by omega) w3 (by omega) sv (fun h4 w4 c4 => ?_))
      refine x_goto (tgt := 102) dX12_follows_52 rfl ?_
      exact x_to (inc h4 _ w4 (((c1.tr (cF.sm hC2 d2 (by simp))).tr (cF.sm hC3 g2 (by simp))).tr c4) (K1 c3' r cc rfl)) ⟨rfl, trivial⟩
  -- a sign
  have sg : (x = nI 43 ∨ x = nI 45) → xWP G l mX12_follows d (zM G Q) 0 0 67 (xls [(0, .ref 110), (1, .int x)]) [] h := by
    intro z
    refine x_aload_n (i := 0) dX12_follows_67 rfl rfl rfl ?_
    refine x_callV0 (ci := 12) (b := 110) (As := []) (d2 := d - 1) dX12_follows_68 rfl kX12_312 okX12_sums (hC.o rfl) (fun q hq => by cases hq; rfl) (by omega) rfl rfl (Nat.le_of_ble_eq_true rfl) (m_sums (by omega) hw et (fun h1 w1 c1 => ?_))
    obtain ⟨q1, q2, q3, q4, q5, q6, q7, q8⟩ := w1
    change (h1.1 110).2.2 26 = .int (nI (lvl ctx)) at q4
    have hC := q1.1
    have v8 := hC.v (a := 128) rfl
    have put : ∀ v, v = (if x = nI 43 then nI 1 else -1) → (v = 1 ∨ v = -1) → xWP G l mX12_follows d (zM G Q) 0 0 90 (xls [(0, .ref 110)]) [.int v, .int (nI (lvl ctx)), .ref 128] h1 := by
      intro v ev hv
      have hC6 := hC.setI (f := upd (iv h1 128) (lvl ctx) v) v8 (Or.inl rfl) (by decide)
      obtain ⟨k1, k2, k3, k4, k5, k6⟩ := mW.i q1 hC6 (Or.inr (Or.inr (Or.inr rfl)))
      refine x_iast dX12_follows_90 rfl v8 rfl (by omega) (by decide) ?_
      show xWP G l mX12_follows d (zM G Q) 0 0 91 _ [] (hs h1 128 (0, 13, xI (upd (iv h1 128) (lvl ctx) v)))
      generalize hs h1 128 (0, 13, xI (upd (iv h1 128) (lvl ctx) v)) = h2 at hC6 k1 k2 k3 k4 k5 k6 ⊢
      refine x_goto (tgt := 102) dX12_follows_91 rfl ?_
      refine x_to (inc h2 (ctx, (some (sumL cur t c).2, (if x = nI 43 then nI 1 else -1), none), (sumL cur t c).1) ⟨k1, by rw [k3]; exact q2, by rw [k3]; exact q3, by rw [k3]; exact q4, by rw [k3]; exact q5, q6, ?_, ?_⟩ (c1.tr (cF.sm hC6 k2 (by simp))) (K2 z)) ⟨rfl, trivial⟩
      · exact cxOk.kp _ q7 (fun j _ => by rw [k5 125 (by decide)]) (fun j hj => by
          have hj' : j < lvl ctx := hj
          exact ⟨by rw [k5 126 (by decide)], by rw [k5 127 (by decide)], by rw [k4]; unfold upd; rw [if_neg (by omega)], k6 _, k6 _⟩)
      · obtain ⟨y1, y2, y3, y4, y5, y6⟩ := q8
        refine ⟨by rw [k5 126 (by decide)]; exact y1, by rw [k5 127 (by decide)]; exact y2, by rw [← ev]; exact hv, ?_, fun f hf => by rw [k6]; exact y5 f hf, fun f hf => by rw [k6]; exact y6 f hf⟩
        show iv h2 128 (lvl ctx) = _
        rw [k4, ← ev]
        unfold upd
        rw [if_pos rfl]
    refine x_aload_n (i := 0) dX12_follows_71 rfl rfl rfl ?_
    refine x_getC dX12_follows_72 rfl fX12_71 hC rfl F_110_24 ?_
    refine x_aload_n (i := 0) dX12_follows_75 rfl rfl rfl ?_
    refine x_getM (a := 110) dX12_follows_76 rfl fX12_289 hC rfl q4 ?_
    refine x_iload_n (i := 1) dX12_follows_79 rfl rfl rfl ?_
    refine x_bipush dX12_follows_80 rfl bC_43 ?_
    refine x_ic_ne (tgt := 89) dX12_follows_82 rfl rfl (fun c82 => ?_) (fun c82 => ?_)
    · have c82' : ¬ x = nI 43 := c82
      refine x_iconst dX12_follows_89 rfl iC_m1 ?_
      exact x_to (put (-1) (by rw [if_neg c82']) (Or.inr rfl)) ⟨rfl, trivial⟩
    · have c82' : x = nI 43 := by
        first
        | exact c82
        | exact Classical.byContradiction (fun z => c82 z)
      refine x_iconst dX12_follows_85 rfl iC_1 ?_
      refine x_goto (tgt := 90) dX12_follows_86 rfl ?_
      exact x_to (put (nI 1) (by rw [if_pos c82']) (Or.inl rfl)) ⟨rfl, trivial⟩
  refine x_iload_n (i := 1) dX12_follows_55 rfl rfl rfl ?_
  refine x_bipush dX12_follows_56 rfl bC_43 ?_
  refine x_ic_eq (tgt := 67) dX12_follows_58 rfl rfl (fun c58 => ?_) (fun c58 => ?_)
  · exact x_to (sg (Or.inl c58)) ⟨rfl, rfl, trivial⟩
  · refine x_iload_n (i := 1) dX12_follows_61 rfl rfl rfl ?_
    refine x_bipush dX12_follows_62 rfl bC_45 ?_
    refine x_ic_ne (tgt := 94) dX12_follows_64 rfl rfl (fun c64 => ?_) (fun c64 => ?_)
    · refine x_iload_n (i := 1) dX12_follows_94 rfl rfl rfl ?_
      refine x_bipush dX12_follows_95 rfl bC_42 ?_
      refine x_ic_eq (tgt := 102) dX12_follows_97 rfl rfl (fun c97 => ?_) (fun c97 => ?_)
      · exact x_to (inc h _ hw (cF.rf hC) (K3 c97)) ⟨rfl, trivial⟩
      · refine x_iconst dX12_follows_100 rfl iC_0 ?_
        refine x_ireturn dX12_follows_101 rfl rfl ?_
        exact K0 (Or.inr (by rintro (q | q | q | q); exact c3 q; exact c58 q; exact c64 q; exact c97 q))
    · have c64' : x = nI 45 := by
        first
        | exact c64
        | exact Classical.byContradiction (fun z => c64 z)
      exact x_to (sg (Or.inr c64')) ⟨rfl, rfl, trivial⟩
end MOD

