/-! EightPartsModel: the table -/
def mTb (h : xH) (o : Nat) : Prop := ∀ i k, i < (zLst o 1).1 → k < (zLst o 1).1 → iv h 130 (240 * i + k) = zMA o i k
theorem nI_n1 {o : Nat} (h : o < 2147483648) : ¬ nI o = -1 := by
  intro z
  have := congrArg Int32.toInt z
  rw [nI_toInt h] at this
  have e1 : (-1 : Int32).toInt = -1 := rfl
  omega
section MOD
variable {G : xG} {l : Launch} {d : Nat} {h : xH} {Q : Option Value → xH → Prop} {S : St}
theorem m_laysTable (hd : 8 ≤ d) (hR : RM h S) (K : ∀ h2, RM h2 S → cF h h2 → mTb h2 S.2.1 → (∀ q, q ≠ 32 → (h2.1 110).2.2 q = (h.1 110).2.2 q) → h2.1 131 = h.1 131 → h2.1 132 = h.1 132 → Q none h2) : xCt G l mX12_laysTable d [.ref 110] h 0 0 Q := by
  have hC := hR.1
  have ho8 := hR.2.1.1
  have f4 := hR.2.1.2
  have hsN : (zLst S.2.1 1).1 ≤ 240 := zLst_le S.2.1 1
  have zl := (zLst_n ho8 (show 1 < 4 by decide)).1
  obtain ⟨z1, z2, z3⟩ := zLst_1 ho8 (norm := 1) (by decide)
  obtain ⟨x32, f32⟩ : ∃ x : Int32, (h.1 110).2.2 32 = .int x := by
    rcases hR.2.2.2.2.2.1 with e | ⟨o, -, e, -⟩
    · exact ⟨_, e⟩
    · exact ⟨_, e⟩
  refine xCt_of (by decide) (Nat.le_of_ble_eq_true rfl) ?_
  refine x_aload_n (i := 0) dX12_laysTable_0 rfl rfl rfl ?_
  refine x_getM (a := 110) dX12_laysTable_1 rfl fX12_81 hC rfl f32 ?_
  refine x_aload_n (i := 0) dX12_laysTable_4 rfl rfl rfl ?_
  refine x_getM (a := 110) dX12_laysTable_5 rfl fX12_24 hC rfl f4 ?_
  refine x_ic_ne (tgt := 12) dX12_laysTable_8 rfl rfl (fun c8 => ?_) (fun c8 => ?_)
  rotate_left
  · have ce : x32 = nI S.2.1 := by
      first
      | exact c8
      | exact Classical.byContradiction (fun z => c8 z)
    refine x_return dX12_laysTable_11 rfl ?_
    refine K h hR (cF.rf hC) ?_ (fun _ _ => rfl) rfl rfl
    rcases hR.2.2.2.2.2.1 with e | ⟨o2, q1, q2, q3⟩
    · rw [f32, ce] at e
      exact absurd (Value.int.inj e) (nI_n1 (by omega))
    · rw [f32, ce] at q2
      obtain rfl : S.2.1 = o2 := (nI_eq (by omega) (by omega)).mp (Value.int.inj q2)
      exact q3
  · clear c8
    refine x_aload_n (i := 0) dX12_laysTable_12 rfl rfl rfl ?_
    refine x_aload_n (i := 0) dX12_laysTable_13 rfl rfl rfl ?_
    refine x_getM (a := 110) dX12_laysTable_14 rfl fX12_24 hC rfl f4 ?_
    refine x_putC (a := 110) dX12_laysTable_17 rfl fX12_81 (fun q hq => by cases hq; rfl) hC rfl ⟨rfl, rfl⟩ ?_
    have hC1 := hC.setF (ci := 12) (a := 110) (kf := 32) (v := .int (nI S.2.1)) rfl NF_110_32 (by decide)
    have hv1 : mV [] [110] h (hs h 110 (112, 0, updV (h.1 110).2.2 32 (.int (nI S.2.1)))) := mV_o hC1 xSm.hs1 (by decide)
    have rw1 : RW (hs h 110 (112, 0, updV (h.1 110).2.2 32 (.int (nI S.2.1)))) S := hR.w.sc hv1 (by simp) (by simp [mNw]) (fv_ne (by decide)) (fv_ne (by decide)) (fv_ne (by decide))
    have fld : ∀ q, q ≠ 32 → ((hs h 110 (112, 0, updV (h.1 110).2.2 32 (.int (nI S.2.1)))).1 110).2.2 q = (h.1 110).2.2 q := fun q hq => fv_ne hq
    have f32' : ((hs h 110 (112, 0, updV (h.1 110).2.2 32 (.int (nI S.2.1)))).1 110).2.2 32 = .int (nI S.2.1) := fv_eq
    show xWP G l mX12_laysTable d (zM G Q) 0 0 20 _ [] (hs h 110 (112, 0, updV (h.1 110).2.2 32 (.int (nI S.2.1))))
    generalize hs h 110 (112, 0, updV (h.1 110).2.2 32 (.int (nI S.2.1))) = h1 at hC1 hv1 rw1 fld f32' ⊢
    have hC := hC1
    refine x_aload_n (i := 0) dX12_laysTable_20 rfl rfl rfl ?_
    refine x_iconst dX12_laysTable_21 rfl iC_1 ?_
    refine x_callV0 (ci := 12) (b := 110) (As := [_]) (d2 := d - 1) dX12_laysTable_22 rfl kX12_158 okX12_listSize (hC.o rfl) (fun q hq => by cases hq; rfl) (by omega) rfl rfl (Nat.le_of_ble_eq_true rfl) (w_listSize (norm := 1) (by omega) rw1 (by decide) (fun h2 r2 c2 s2 u2 e6 e4 => ?_))
    have hC := r2.1
    generalize hN : (zLst S.2.1 1).1 = N at *
    refine x_istore_n (i := 1) dX12_laysTable_25 rfl rfl (by decide) ?_
    refine x_iconst dX12_laysTable_26 rfl iC_0 ?_
    refine x_istore_n (i := 2) dX12_laysTable_27 rfl rfl (by decide) ?_
    have key := xloop (P := fun i => ∀ h4, RW h4 S → xSm [112, 113, 130] h2 h4 → (∀ i2 k2, i2 < i → k2 < N → iv h4 130 (240 * i2 + k2) = zMA S.2.1 i2 k2) → xWP G l mX12_laysTable d (zM G Q) 0 0 28 (xls [(0, .ref 110), (1, .int (nI N)), (2, .int (nI i))]) [] h4) N (by
      intro i hi ih h4 r4 s4 t4
      have hC := r4.1
      refine x_iload_n (i := 2) dX12_laysTable_28 rfl rfl rfl ?_
      refine x_iload_n (i := 1) dX12_laysTable_29 rfl rfl rfl ?_
      refine x_jc_ge (tgt := 103) dX12_laysTable_30 rfl rfl (by omega) (by omega) (fun c30 => ?_) (fun c30 => ?_)
      · obtain rfl : i = N := by omega
        refine x_return dX12_laysTable_103 rfl ?_
        have e110 : h4.1 110 = h1.1 110 := (s4.2 110 (by decide)).trans (s2.2 110 (by decide))
        have k1 : h1.1 131 = h.1 131 := hv1.2.1.2 131 (by decide)
        have k2 : h1.1 132 = h.1 132 := hv1.2.1.2 132 (by decide)
        have tb : mTb h4 S.2.1 := fun a b q1 q2 => t4 a b (by rw [← hN]; exact q1) (by rw [← hN]; exact q2)
        refine K h4 (r4.m (Or.inr ⟨S.2.1, ho8, by rw [e110]; exact f32', tb⟩)) (((hv1.c (by simp)).tr c2).tr ⟨hC, s4.1, fun a ha => s4.2 a (by simp; omega)⟩) tb (fun q hq => by rw [e110]; exact fld q hq) ?_ ?_
        · rw [s4.2 131 (by decide), s2.2 131 (by decide), k1]
        · rw [s4.2 132 (by decide), s2.2 132 (by decide), k2]
      · have hi2 : i < N := by omega
        refine x_iconst dX12_laysTable_33 rfl iC_0 ?_
        refine x_istore_n (i := 3) dX12_laysTable_34 rfl rfl (by decide) ?_
        have keyI := xloop (P := fun k => ∀ h5, RW h5 S → xSm [112, 113, 130] h2 h5 → (∀ i2 k2, i2 < i → k2 < N → iv h5 130 (240 * i2 + k2) = zMA S.2.1 i2 k2) → (∀ k2, k2 < k → iv h5 130 (240 * i + k2) = zMA S.2.1 i k2) → xWP G l mX12_laysTable d (zM G Q) 0 0 35 (xls [(0, .ref 110), (1, .int (nI N)), (2, .int (nI i)), (3, .int (nI k))]) [] h5) N (by
          intro k hk ihI h5 r5 s5 t5 t5k
          have hC := r5.1
          refine x_iload_n (i := 3) dX12_laysTable_35 rfl rfl rfl ?_
          refine x_iload_n (i := 1) dX12_laysTable_36 rfl rfl rfl ?_
          refine x_jc_ge (tgt := 97) dX12_laysTable_37 rfl rfl (by omega) (by omega) (fun c37 => ?_) (fun c37 => ?_)
          · obtain rfl : k = N := by omega
            refine x_iinc dX12_laysTable_97 rfl rfl (inc1 _) ?_
            refine x_goto (tgt := 28) dX12_laysTable_100 rfl ?_
            refine x_to (ih hi2 h5 r5 s5 (fun i2 k2 q1 q2 => ?_)) ⟨rfl, rfl, rfl, trivial⟩
            by_cases e : i2 = i
            · rw [e]; exact t5k k2 q2
            · exact t5 i2 k2 (by omega) q2
          · have hk2 : k < N := by omega
            have i4 : iv h5 114 = iv h2 114 := s5.iv (by decide)
            have e6' : iv h5 116 1 = nI S.2.1 := by rw [s5.iv (by decide)]; exact e6
            obtain ⟨T1, T2, -, z, T3, T4, T5, T6⟩ := T0_t ho8 (show i < lnN S.2.1 1 by omega) (show k < lnN S.2.1 1 by omega)
            refine x_aload_n (i := 0) dX12_laysTable_40 rfl rfl rfl ?_
            refine x_bipush dX12_laysTable_41 rfl bC_9 ?_
            refine x_iconst dX12_laysTable_43 rfl iC_1 ?_
            refine x_iload_n (i := 2) dX12_laysTable_44 rfl rfl rfl ?_
            refine x_callV0 (ci := 12) (b := 110) (As := [_, _, _]) (d2 := d - 1) dX12_laysTable_45 rfl kX12_178 okX12_brings (hC.o rfl) (fun q hq => by cases hq; rfl) (by omega) rfl rfl (Nat.le_of_ble_eq_true rfl) (m_brings (t := 9) (norm := 1) (by omega) hC (by decide) (by decide) (by omega) (zBd_up _) (fun q hq => by rw [i4]; exact e4 i hi2 q hq) (fun h6 k6 p6 => ?_))
            have hC := k6.1
            have p6 : pl h6 9 = c8 (zEl S.2.1 1 i) := p6
            have r6 := r5.sv k6 (by simp) (by simp) (by simp)
            have i6 : iv h6 114 = iv h2 114 := (k6.2.1.iv (by decide)).trans i4
            refine x_aload_n (i := 0) dX12_laysTable_48 rfl rfl rfl ?_
            refine x_bipush dX12_laysTable_49 rfl bC_10 ?_
            refine x_iconst dX12_laysTable_51 rfl iC_1 ?_
            refine x_iload_n (i := 3) dX12_laysTable_52 rfl rfl rfl ?_
            refine x_callV0 (ci := 12) (b := 110) (As := [_, _, _]) (d2 := d - 1) dX12_laysTable_53 rfl kX12_178 okX12_brings (hC.o rfl) (fun q hq => by cases hq; rfl) (by omega) rfl rfl (Nat.le_of_ble_eq_true rfl) (m_brings (t := 10) (norm := 1) (by omega) hC (by decide) (by decide) (by omega) (zBd_up _) (fun q hq => by rw [i6]; exact e4 k hk2 q hq) (fun h7 k7 p7 => ?_))
            have hC := k7.1
            have p7 : pl h7 10 = c8 (zEl S.2.1 1 k) := p7
            have p79 : pl h7 9 = c8 (zEl S.2.1 1 i) := (k7.pp (by decide) (by decide)).trans p6
            have r7 := r6.sv k7 (by simp) (by simp) (by simp)
            refine x_aload_n (i := 0) dX12_laysTable_56 rfl rfl rfl ?_
            refine x_getC dX12_laysTable_57 rfl fX12_78 hC rfl F_110_31 ?_
            refine x_sipush dX12_laysTable_60 rfl sC_240 ?_
            refine x_iload_n (i := 2) dX12_laysTable_63 rfl rfl rfl ?_
            refine x_imul dX12_laysTable_64 rfl ?_
            refine x_iload_n (i := 3) dX12_laysTable_65 rfl rfl rfl ?_
            refine x_iadd dX12_laysTable_66 rfl ?_
            rw [show nI 240 * nI i + nI k = nI (240 * i + k) by rw [nI_mul8, nI_add]]
            refine x_aload_n (i := 0) dX12_laysTable_67 rfl rfl rfl ?_
            refine x_bipush dX12_laysTable_68 rfl bC_11 ?_
            refine x_bipush dX12_laysTable_70 rfl bC_9 ?_
            refine x_bipush dX12_laysTable_72 rfl bC_10 ?_
            refine x_callV0 (ci := 12) (b := 110) (As := [_, _, _]) (d2 := d - 1) dX12_laysTable_74 rfl kX12_197 okX12_multiplies (hC.o rfl) (fun q hq => by cases hq; rfl) (by omega) rfl rfl (Nat.le_of_ble_eq_true rfl) (m_mulE (t := 11) (x := 9) (y := 10) (by omega) hC r7.b (by decide) (by decide) (by decide) p79 p7 (fun z2 g8 h8 k8 p8 => ?_) (fun g8 h8 k8 => ?_))
            rotate_left
            · rw [T3] at g8
              cases g8
            obtain rfl : z = z2 := Option.some.inj (T3.symm.trans g8)
            have hC := k8.1
            have r8 := r7.sv k8 (by simp) (by simp [mNw]) (by simp)
            have e68 : iv h8 116 1 = nI S.2.1 := by rw [k8.2.1.iv (by decide), k7.2.1.iv (by decide), k6.2.1.iv (by decide)]; exact e6'
            have n8 : nrmN (pl h8 11) 8 = 4 := by rw [p8, nrmN_e (Nat.le_refl _) (c8_c8 z)]; exact T5
            have pn : plN S.2.1 (pl h8 11) = zMA S.2.1 i k := by
              rw [p8, plN_e (c8_c8 z), T2, ← T4]
              unfold plN
              rw [T5, if_pos ⟨by decide, by decide⟩]
            refine x_if_eq_f (tgt := 89) dX12_laysTable_77 rfl rfl nb1 ?_
            refine x_aload_n (i := 0) dX12_laysTable_80 rfl rfl rfl ?_
            refine x_bipush dX12_laysTable_81 rfl bC_11 ?_
            refine x_callV0 (ci := 12) (b := 110) (As := [_]) (d2 := d - 1) dX12_laysTable_83 rfl kX12_337 okX12_numberOf (hC.o rfl) (fun q hq => by cases hq; rfl) (by omega) rfl rfl (Nat.le_of_ble_eq_true rfl) (w_numberOf (x := 11) (by omega) r8 (by decide) (fun h9 r9 c9 s9 u9 => ?_))
            obtain rfl : h9 = h8 := u9 n8 e68
            rw [pn]
            have v130 := hC.v (a := 130) rfl
            have hC10 := hC.setI (f := upd (iv h9 130) (240 * i + k) (zMA S.2.1 i k)) v130 (Or.inl rfl) (by decide)
            refine x_goto (tgt := 90) dX12_laysTable_86 rfl ?_
            refine x_iast dX12_laysTable_90 rfl v130 rfl (by omega) (by decide) ?_
            have m10 : mV [] [130] h9 (hs h9 130 (0, 57600, xI (upd (iv h9 130) (240 * i + k) (zMA S.2.1 i k)))) := mV_o hC10 xSm.hs1 (by decide)
            have i10 : iv (hs h9 130 (0, 57600, xI (upd (iv h9 130) (240 * i + k) (zMA S.2.1 i k)))) 130 = upd (iv h9 130) (240 * i + k) (zMA S.2.1 i k) := iv_hs
            have r10 := r9.sv m10 (by simp) (by simp [mNw]) (by simp)
            have s10 := ((((s5.tr k6.2.1).tr k7.2.1).tr k8.2.1).tr m10.2.1).sub (T := [112, 113, 130]) (by simp)
            have b9 : iv h9 130 = iv h5 130 := by rw [k8.2.1.iv (by decide), k7.2.1.iv (by decide), k6.2.1.iv (by decide)]
            have hC := hC10
            refine x_iinc dX12_laysTable_91 rfl rfl (inc1 _) ?_
            refine x_goto (tgt := 35) dX12_laysTable_94 rfl ?_
            refine x_to (ihI hk2 _ r10 s10 (fun i2 k2 q1 q2 => ?_) (fun k2 q2 => ?_)) ⟨rfl, rfl, rfl, rfl, trivial⟩
            · rw [i10, b9]
              unfold upd
              rw [if_neg (by omega)]
              exact t5 i2 k2 q1 q2
            · rw [i10, b9]
              unfold upd
              by_cases e : k2 = k
              · rw [e, if_pos rfl]
              · rw [if_neg (by omega)]
                exact t5k k2 (by omega)) 0 (Nat.zero_le _) h4 r4 s4 t4 (fun k2 q => absurd q (Nat.not_lt_zero k2))
        exact x_to keyI ⟨rfl, rfl, rfl, rfl, trivial⟩) 0 (Nat.zero_le _) h2 r2 (xSm.rf.sub (by simp)) (fun i2 k2 q => absurd q (Nat.not_lt_zero i2))
    exact x_to key ⟨rfl, rfl, rfl, trivial⟩
theorem n_table {a b : Int32} (hd : 10 ≤ d) (hR : RM h S) (K : ∀ r S2 h2, sp_table S a b = (r, S2) → RM h2 S2 → cF h h2 → Q (some (.int r)) h2) : xCt G l mX12_table d [.ref 110, .int a, .int b] h 0 0 Q := by
  have hC := hR.1
  have ho8 := hR.2.1.1
  have hsN : (zLst S.2.1 1).1 ≤ 240 := zLst_le S.2.1 1
  obtain ⟨z1, z2, z3⟩ := zLst_1 ho8 (norm := 1) (by decide)
  refine xCt_of (by decide) (Nat.le_of_ble_eq_true rfl) ?_
  refine x_aload_n (i := 0) dX12_table_0 rfl rfl rfl ?_
  refine x_iconst dX12_table_1 rfl iC_1 ?_
  refine x_callV0 (ci := 12) (b := 110) (As := [_]) (d2 := d - 1) dX12_table_2 rfl kX12_158 okX12_listSize (hC.o rfl) (fun q hq => by cases hq; rfl) (by omega) rfl rfl (Nat.le_of_ble_eq_true rfl) (m_listSize (norm := 1) (by omega) hR (by decide) (fun h2 r2 c2 s2 e6 e4 => ?_))
  have hC := r2.1
  refine x_istore_n (i := 3) dX12_table_5 rfl rfl (by decide) ?_
  refine x_iload_n (i := 1) dX12_table_6 rfl rfl rfl ?_
  refine x_i2l dX12_table_7 rfl ?_
  refine x_lconst dX12_table_8 rfl lC_0 ?_
  refine x_iload_n (i := 3) dX12_table_9 rfl rfl rfl ?_
  refine x_iconst dX12_table_10 rfl iC_1 ?_
  refine x_isub dX12_table_11 rfl ?_
  rw [show nI (zLst S.2.1 1).1 - nI 1 = nI ((zLst S.2.1 1).1 - 1) from pk_sub (by omega)]
  refine x_i2l dX12_table_12 rfl ?_
  refine x_callS0 (As := [_, _, _]) (d2 := d - 1) dX12_table_13 rfl kX12_95 okX12_in (by omega) rfl rfl (Nat.le_of_ble_eq_true rfl) (m_in (lo := 0) (hi := (zLst S.2.1 1).1 - 1) (by decide) (by rw [Int32.toInt_toInt64, nI_toInt (by omega)]) (by omega) (fun z => ?_) (fun i _ hi ei qi => ?_))
  · refine x_if_eq_t (tgt := 32) dX12_table_16 rfl nI_0 ?_
    refine x_iconst dX12_table_32 rfl iC_m1 ?_
    refine x_ireturn dX12_table_33 rfl rfl ?_
    exact K _ _ _ (by unfold sp_table eU; rw [z]) r2 c2
  subst ei
  refine x_if_eq_f (tgt := 32) dX12_table_16 rfl rfl nb1 ?_
  refine x_iload_n (i := 2) dX12_table_19 rfl rfl rfl ?_
  refine x_i2l dX12_table_20 rfl ?_
  refine x_lconst dX12_table_21 rfl lC_0 ?_
  refine x_iload_n (i := 3) dX12_table_22 rfl rfl rfl ?_
  refine x_iconst dX12_table_23 rfl iC_1 ?_
  refine x_isub dX12_table_24 rfl ?_
  rw [show nI (zLst S.2.1 1).1 - nI 1 = nI ((zLst S.2.1 1).1 - 1) from pk_sub (by omega)]
  refine x_i2l dX12_table_25 rfl ?_
  refine x_callS0 (As := [_, _, _]) (d2 := d - 1) dX12_table_26 rfl kX12_95 okX12_in (by omega) rfl rfl (Nat.le_of_ble_eq_true rfl) (m_in (lo := 0) (hi := (zLst S.2.1 1).1 - 1) (by decide) (by rw [Int32.toInt_toInt64, nI_toInt (by omega)]) (by omega) (fun z => ?_) (fun k _ hk ek qk => ?_))
  · refine x_if_ne_f (tgt := 34) dX12_table_29 rfl rfl nI_0 ?_
    refine x_iconst dX12_table_32 rfl iC_m1 ?_
    refine x_ireturn dX12_table_33 rfl rfl ?_
    exact K _ _ _ (by unfold sp_table eU; rw [qi]; simp only [z]) r2 c2
  subst ek
  refine x_if_ne_t (tgt := 34) dX12_table_29 rfl nb1 ?_
  refine x_aload_n (i := 0) dX12_table_34 rfl rfl rfl ?_
  refine x_callV0 (ci := 12) (b := 110) (As := []) (d2 := d - 1) dX12_table_35 rfl kX12_364 okX12_laysTable (hC.o rfl) (fun q hq => by cases hq; rfl) (by omega) rfl rfl (Nat.le_of_ble_eq_true rfl) (m_laysTable (by omega) r2 (fun h3 r3 c3 t3 _ _ _ => ?_))
  have hC := r3.1
  have v130 := hC.v (a := 130) rfl
  refine x_aload_n (i := 0) dX12_table_38 rfl rfl rfl ?_
  refine x_getC dX12_table_39 rfl fX12_78 hC rfl F_110_31 ?_
  refine x_sipush dX12_table_42 rfl sC_240 ?_
  refine x_iload_n (i := 1) dX12_table_45 rfl rfl rfl ?_
  refine x_imul dX12_table_46 rfl ?_
  refine x_iload_n (i := 2) dX12_table_47 rfl rfl rfl ?_
  refine x_iadd dX12_table_48 rfl ?_
  rw [show nI 240 * nI i + nI k = nI (240 * i + k) by rw [nI_mul8, nI_add]]
  refine x_iald dX12_table_49 rfl v130 rfl (by omega) (by decide) ?_
  rw [t3 i k (by omega) (by omega)]
  refine x_ireturn dX12_table_50 rfl rfl ?_
  exact K _ _ _ (by unfold sp_table eU; rw [qi]; simp only [qk]) r3 (c2.tr c3)
end MOD

