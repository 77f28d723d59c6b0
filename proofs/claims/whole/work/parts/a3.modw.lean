/-! EightPartsModel: while the table is laid -/
/-- its state but for the table -/
def RW (h : xH) (S : St) : Prop := Cs h ∧ (S.2.1 < 8 ∧ mRul h S.2.1) ∧ mSl h S.1 ∧ (mB h ∧ pl h 8 = c8 (zOne 0)) ∧ mLs h ∧ True ∧ mTp h S.2.2.1 ∧ mKp h S.2.2.2
theorem RM.w {h : xH} {S : St} (hR : RM h S) : RW h S := ⟨hR.1, hR.2.1, hR.2.2.1, hR.2.2.2.1, hR.2.2.2.2.1, trivial, hR.2.2.2.2.2.2⟩
theorem RW.m {h : xH} {S : St} (hR : RW h S) (hT : mTbl h) : RM h S := ⟨hR.1, hR.2.1, hR.2.2.1, hR.2.2.2.1, hR.2.2.2.2.1, hT, hR.2.2.2.2.2.2⟩
theorem RW.b {h : xH} {S : St} (hR : RW h S) : mB h := hR.2.2.2.1.1
theorem RW.p {h : xH} {S : St} (hR : RW h S) {j : Nat} (hj : j < 8) : pl h j = S.1 j := hR.2.2.1 j hj
theorem RW.ls {h h2 : xH} {S : St} (hR : RW h S) (hC : Cs h2) (hS : xSm [114, 115, 116, 117, 118] h h2) (hL : mLs h2) : RW h2 S ∧ cF h h2 := by
  obtain ⟨r1, ⟨r2, r3⟩, r4, r5, r6, r7, r8, r11, r12, r13⟩ := hR
  have k : ∀ a, a ∉ [114, 115, 116, 117, 118] → h2.1 a = h.1 a := fun a ha => hS.2 a ha
  have i : ∀ a, a ∉ [114, 115, 116, 117, 118] → iv h2 a = iv h a := fun a ha => hS.iv ha
  have ep : ∀ y, pl h2 y = pl h y := fun y => by unfold pl; rw [i 112 (by decide)]
  have e0 := k 110 (by decide)
  refine ⟨⟨hC, ⟨r2, by unfold mRul; rw [e0]; exact r3⟩, fun j hj => by rw [ep]; exact r4 j hj, ⟨fun y hy => by rw [ep]; exact r5.1 y hy, by rw [ep]; exact r5.2⟩, hL, trivial, ?_, r11, by rw [e0]; exact r12, ?_⟩, ⟨hC, hS.1, fun a ha => k a (by simp; omega)⟩⟩
  · unfold mTp
    rw [e0, i 124 (by decide)]
    exact r8
  · rw [i 133 (by decide)]
    exact r13
def mNw (a : Nat) : Prop := a = 114 ∨ a = 115 ∨ a = 116 ∨ a = 124 ∨ a = 133
/-- cells that it doesn't stand on, fields but for three -/
theorem RW.sc {h h2 : xH} {S : St} {P C : List Nat} (hR : RW h S) (hv : mV P C h h2) (hP : ∀ q ∈ P, 9 ≤ q) (hC : ∀ q ∈ C, ¬ mNw q) (f4 : (h2.1 110).2.2 4 = (h.1 110).2.2 4) (f20 : (h2.1 110).2.2 20 = (h.1 110).2.2 20) (f37 : (h2.1 110).2.2 37 = (h.1 110).2.2 37) : RW h2 S := by
  obtain ⟨r1, ⟨r2, r3⟩, r4, r5, r6, r7, ⟨r8, r9, r10⟩, r11, r12, r13⟩ := hR
  have k : ∀ a, mNw a → h2.1 a = h.1 a := fun a ha => hv.2.1.2 a (by
    simp only [List.mem_cons, not_or]
    exact ⟨by unfold mNw at ha; omega, fun z => hC a z ha⟩)
  have i : ∀ a, mNw a → iv h2 a = iv h a := fun a ha => by unfold iv; rw [k a ha]
  refine ⟨hv.1, ⟨r2, f4.trans r3⟩, fun j hj => ?_, ⟨hv.2.2.2 r5.1, ?_⟩, ?_, trivial, ⟨r8, f20.trans r9, ?_⟩, r11, f37.trans r12, ?_⟩
  · rw [hv.2.2.1 j (by omega) (fun z => by have := hP j z; omega)]
    exact r4 j hj
  · rw [hv.2.2.1 8 (by omega) (fun z => by have := hP 8 z; omega)]
    exact r5.2
  · unfold mLs
    rw [i 114 (by unfold mNw; omega), i 115 (by unfold mNw; omega), i 116 (by unfold mNw; omega)]
    exact r6
  · rw [i 124 (by unfold mNw; omega)]
    exact r10
  · rw [i 133 (by unfold mNw; omega)]
    exact r13
theorem RW.sv {h h2 : xH} {S : St} {P C : List Nat} (hR : RW h S) (hv : mV P C h h2) (hP : ∀ q ∈ P, 9 ≤ q) (hC : ∀ q ∈ C, ¬ mNw q) (h110 : 110 ∉ C) : RW h2 S := by
  have e : h2.1 110 = h.1 110 := hv.2.1.2 110 (by simp only [List.mem_cons, not_or]; exact ⟨by omega, h110⟩)
  exact hR.sc hv hP hC (by rw [e]) (by rw [e]) (by rw [e])
section MOD
variable {G : xG} {l : Launch} {d : Nat} {h : xH} {Q : Option Value → xH → Prop} {S : St}
theorem w_laysList {norm o : Nat} (hd : 4 ≤ d) (hR : RW h S) (hn : norm < 4) (ho : o < 8)
    (K : ∀ h2, RW h2 S → cF h h2 → xSm [114, 115, 116, 117, 118] h h2 → (iv h 116 norm = nI o → h2 = h) → iv h2 116 norm = nI o → iv h2 115 norm = nI (zLst o norm).1 → (∀ k, k < (zLst o norm).1 → ∀ p, p < 8 → iv h2 114 (8 * (lf norm + k) + p) = zEl o norm k p) → Q none h2) : xCt G l mX12_laysList d [.ref 110, .int (nI norm), .int (nI o)] h 0 0 Q := by
  have hC := hR.1
  have v6 := hC.v (a := 116) rfl
  refine xCt_of (by decide) (Nat.le_of_ble_eq_true rfl) ?_
  refine x_aload_n (i := 0) dX12_laysList_0 rfl rfl rfl ?_
  refine x_getC dX12_laysList_1 rfl fX12_34 hC rfl F_110_7 ?_
  refine x_iload_n (i := 1) dX12_laysList_4 rfl rfl rfl ?_
  refine x_iald dX12_laysList_5 rfl v6 rfl (by omega) (by decide) ?_
  refine x_iload_n (i := 2) dX12_laysList_6 rfl rfl rfl ?_
  refine x_ic_ne (tgt := 11) dX12_laysList_7 rfl rfl (fun c7 => ?_) (fun c7 => ?_)
  rotate_left
  · have ce : iv h 116 norm = nI o := by
      first
      | exact c7
      | exact Classical.byContradiction (fun z => c7 z)
    refine x_return dX12_laysList_10 rfl ?_
    rcases hR.2.2.2.2.1 norm hn with e | ⟨o2, q1, q2, q3, q4⟩
    · rw [ce] at e
      exact absurd e (fun z => by
        have := congrArg Int32.toInt z
        rw [nI_toInt (by omega)] at this
        have e1 : (-1 : Int32).toInt = -1 := rfl
        omega)
    · obtain rfl : o2 = o := (nI_eq (by omega) (by omega)).mp (q2.symm.trans ce)
      exact K h hR (cF.rf hC) (xSm.rf.sub (by simp)) (fun _ => rfl) q2 q3 q4
  · have hC1 := hC.setI (f := upd (iv h 116) norm (nI o)) v6 (Or.inl rfl) (by decide)
    refine x_aload_n (i := 0) dX12_laysList_11 rfl rfl rfl ?_
    refine x_getC dX12_laysList_12 rfl fX12_34 hC rfl F_110_7 ?_
    refine x_iload_n (i := 1) dX12_laysList_15 rfl rfl rfl ?_
    refine x_iload_n (i := 2) dX12_laysList_16 rfl rfl rfl ?_
    refine x_iast dX12_laysList_17 rfl v6 rfl (by omega) (by decide) ?_
    have s1 : xSm [116] h (hs h 116 (0, 4, xI (upd (iv h 116) norm (nI o)))) := xSm.hs1
    have j6 : iv (hs h 116 (0, 4, xI (upd (iv h 116) norm (nI o)))) 116 = upd (iv h 116) norm (nI o) := iv_hs
    show xWP G l mX12_laysList d (zM G Q) 0 0 18 _ [] (hs h 116 (0, 4, xI (upd (iv h 116) norm (nI o))))
    generalize hs h 116 (0, 4, xI (upd (iv h 116) norm (nI o))) = h1 at hC1 s1 j6 ⊢
    have hC := hC1
    refine x_bipush dX12_laysList_18 rfl bC_8 ?_
    refine x_iload_n (i := 1) dX12_laysList_20 rfl rfl rfl ?_
    refine x_callS0 (As := [_]) (d2 := d - 1) dX12_laysList_21 rfl kX12_143 okX12_listFrom (by omega) rfl rfl (Nat.le_of_ble_eq_true rfl) (m_listFrom hn ?_)
    refine x_imul dX12_laysList_24 rfl ?_
    rw [nI_mul8]
    refine x_istore_n (i := 3) dX12_laysList_25 rfl rfl (by decide) ?_
    refine x_iconst dX12_laysList_26 rfl iC_0 ?_
    refine x_istore dX12_laysList_27 rfl (by decide) ?_
    refine x_iconst dX12_laysList_29 rfl iC_0 ?_
    refine x_istore dX12_laysList_30 rfl (by decide) ?_
    refine x_aload_n (i := 0) dX12_laysList_32 rfl rfl rfl ?_
    refine x_getC dX12_laysList_33 rfl fX12_40 hC rfl F_110_9 ?_
    refine x_iconst dX12_laysList_36 rfl iC_0 ?_
    refine x_iconst dX12_laysList_37 rfl iC_4 ?_
    refine x_iload_n (i := 1) dX12_laysList_38 rfl rfl rfl ?_
    refine x_imul dX12_laysList_39 rfl ?_
    rw [nI_mul8]
    have v8 := hC.v (a := 118) rfl
    have hC2 := hC.setI (f := upd (iv h1 118) 0 (nI (4 * norm))) v8 (Or.inl rfl) (by decide)
    refine x_iast dX12_laysList_40 rfl v8 rfl (by omega) (by decide) ?_
    have s2 : xSm [118] h1 (hs h1 118 (0, 8, xI (upd (iv h1 118) 0 (nI (4 * norm))))) := xSm.hs1
    have j8 : iv (hs h1 118 (0, 8, xI (upd (iv h1 118) 0 (nI (4 * norm))))) 118 = upd (iv h1 118) 0 (nI (4 * norm)) := iv_hs
    show xWP G l mX12_laysList d (zM G Q) 0 0 41 _ [] (hs h1 118 (0, 8, xI (upd (iv h1 118) 0 (nI (4 * norm)))))
    generalize hs h1 118 (0, 8, xI (upd (iv h1 118) 0 (nI (4 * norm)))) = h2 at hC2 s2 j8 ⊢
    have hC := hC2
    have v7 := hC.v (a := 117) rfl
    have hC3 := hC.setI (f := upd (iv h2 117) 0 (nI 0 - nI 4)) v7 (Or.inl rfl) (by decide)
    refine x_aload_n (i := 0) dX12_laysList_41 rfl rfl rfl ?_
    refine x_getC dX12_laysList_42 rfl fX12_37 hC rfl F_110_8 ?_
    refine x_iconst dX12_laysList_45 rfl iC_0 ?_
    refine x_bipush dX12_laysList_46 rfl bC_m4 ?_
    rw [show (-4 : Int32) = nI 0 - nI 4 from by decide]
    refine x_iast dX12_laysList_48 rfl v7 rfl (by omega) (by decide) ?_
    have s3 : xSm [117] h2 (hs h2 117 (0, 8, xI (upd (iv h2 117) 0 (nI 0 - nI 4)))) := xSm.hs1
    have j7 : iv (hs h2 117 (0, 8, xI (upd (iv h2 117) 0 (nI 0 - nI 4)))) 117 = upd (iv h2 117) 0 (nI 0 - nI 4) := iv_hs
    show xWP G l mX12_laysList d (zM G Q) 0 0 49 _ [] (hs h2 117 (0, 8, xI (upd (iv h2 117) 0 (nI 0 - nI 4))))
    generalize hs h2 117 (0, 8, xI (upd (iv h2 117) 0 (nI 0 - nI 4))) = h3 at hC3 s3 j7 ⊢
    have s13 := ((s1.tr s2).tr s3)
    refine x_to (w_dfs (h := h) (by omega) hn ho 7 0 rfl h3 [] [] (4 * norm) [] (by omega) rfl (fun x hx => by cases hx) (by rw [lsD_T, List.append_nil, List.nil_append]) ⟨hC3, s13.sub (by simp), by rw [s3.iv (by decide), s2.iv (by decide), j6], fun j _ => by rw [s13.iv (by decide)], fun k hk => absurd hk (Nat.not_lt_zero k)⟩ (fun j hj => absurd hj (Nat.not_lt_zero j)) (by rw [j7]; rfl) (by rw [s3.iv (by decide), j8]; rfl) (fun h4 d4 _ _ => ?_)) ⟨rfl, rfl, rfl, rfl, rfl, rfl, trivial⟩
    rw [lsD_T, List.nil_append] at d4 ⊢
    obtain ⟨i1, i2, i3, i4, i5⟩ := d4
    have hC := i1
    have v5 := hC.v (a := 115) rfl
    rw [lsD_len] at i5 ⊢
    have hC5 := hC.setI (f := upd (iv h4 115) norm (nI (lnN o norm))) v5 (Or.inl rfl) (by decide)
    refine x_iload dX12_laysList_49 rfl rfl ?_
    refine x_if_lt_t (tgt := 244) dX12_laysList_51 rfl (by decide) ?_
    refine x_aload_n (i := 0) dX12_laysList_244 rfl rfl rfl ?_
    refine x_getC dX12_laysList_245 rfl fX12_31 hC rfl F_110_6 ?_
    refine x_iload_n (i := 1) dX12_laysList_248 rfl rfl rfl ?_
    refine x_iload dX12_laysList_249 rfl rfl ?_
    refine x_iast dX12_laysList_251 rfl v5 rfl (by omega) (by decide) ?_
    refine x_return dX12_laysList_252 rfl ?_
    obtain ⟨z1, z2⟩ := zLst_n ho hn
    have sS : xSm [114, 115, 116, 117, 118] h (hs h4 115 (0, 4, xI (upd (iv h4 115) norm (nI (lnN o norm))))) := (i2.tr xSm.hs1).sub (by simp)
    have f6 : iv (hs h4 115 (0, 4, xI (upd (iv h4 115) norm (nI (lnN o norm))))) 116 norm = nI o := by
      rw [iv_n (by decide), i3]
      unfold upd
      rw [if_pos rfl]
    have f5 : iv (hs h4 115 (0, 4, xI (upd (iv h4 115) norm (nI (lnN o norm))))) 115 norm = nI (zLst o norm).1 := by
      rw [iv_hs, z1]
      unfold upd
      rw [if_pos rfl]
    have f4 : ∀ k, k < (zLst o norm).1 → ∀ p, p < 8 → iv (hs h4 115 (0, 4, xI (upd (iv h4 115) norm (nI (lnN o norm))))) 114 (8 * (lf norm + k) + p) = zEl o norm k p := by
      intro k hk p hp
      rw [z1] at hk
      rw [iv_n (by decide), i5 k hk p hp, zEl_l ho hn hk hp]
    have hL : mLs (hs h4 115 (0, 4, xI (upd (iv h4 115) norm (nI (lnN o norm))))) := by
      intro q hq
      by_cases e : q = norm
      · subst e
        exact Or.inr ⟨o, ho, f6, f5, f4⟩
      · have g6 : iv (hs h4 115 (0, 4, xI (upd (iv h4 115) norm (nI (lnN o norm))))) 116 q = iv h 116 q := by
          rw [iv_n (by decide), i3]
          unfold upd
          rw [if_neg e]
        have g5 : iv (hs h4 115 (0, 4, xI (upd (iv h4 115) norm (nI (lnN o norm))))) 115 q = iv h 115 q := by
          rw [iv_hs]
          unfold upd
          rw [if_neg e, i2.iv (by decide)]
        rw [g6, g5]
        rcases hR.2.2.2.2.1 q hq with r | ⟨o2, q1, q2, q3, q4⟩
        · exact Or.inl r
        · refine Or.inr ⟨o2, q1, q2, q3, fun k hk p hp => ?_⟩
          have hz := zLst_le o2 q
          have hdj := lf_d q hq norm hn e
          rw [iv_n (by decide), i4 _ (by omega)]
          exact q4 k hk p hp
    obtain ⟨R1, R2⟩ := hR.ls hC5 sS hL
    exact K _ R1 R2 sS (fun z => absurd z c7) f6 f5 f4
theorem w_listSize {norm : Nat} (hd : 5 ≤ d) (hR : RW h S) (hn : norm < 4)
    (K : ∀ h2, RW h2 S → cF h h2 → xSm [114, 115, 116, 117, 118] h h2 → (iv h 116 norm = nI S.2.1 → h2 = h) → iv h2 116 norm = nI S.2.1 → (∀ k, k < (zLst S.2.1 norm).1 → ∀ p, p < 8 → iv h2 114 (8 * (lf norm + k) + p) = zEl S.2.1 norm k p) → Q (some (.int (nI (zLst S.2.1 norm).1))) h2) : xCt G l mX12_listSize d [.ref 110, .int (nI norm)] h 0 0 Q := by
  have hC := hR.1
  have f4 := hR.2.1.2
  refine xCt_of (by decide) (Nat.le_of_ble_eq_true rfl) ?_
  refine x_aload_n (i := 0) dX12_listSize_0 rfl rfl rfl ?_
  refine x_iload_n (i := 1) dX12_listSize_1 rfl rfl rfl ?_
  refine x_aload_n (i := 0) dX12_listSize_2 rfl rfl rfl ?_
  refine x_getM (a := 110) dX12_listSize_3 rfl fX12_24 hC rfl f4 ?_
  refine x_callV0 (ci := 12) (b := 110) (As := [_, _]) (d2 := d - 1) dX12_listSize_6 rfl kX12_152 okX12_laysList (hC.o rfl) (fun q hq => by cases hq; rfl) (by omega) rfl rfl (Nat.le_of_ble_eq_true rfl) (w_laysList (by omega) hR hn hR.2.1.1 (fun h2 r2 c2 s2 u2 e6 e5 e4 => ?_))
  have hC := r2.1
  have v5 := hC.v (a := 115) rfl
  refine x_aload_n (i := 0) dX12_listSize_9 rfl rfl rfl ?_
  refine x_getC dX12_listSize_10 rfl fX12_31 hC rfl F_110_6 ?_
  refine x_iload_n (i := 1) dX12_listSize_13 rfl rfl rfl ?_
  refine x_iald dX12_listSize_14 rfl v5 rfl (by omega) (by decide) ?_
  rw [e5]
  refine x_ireturn dX12_listSize_15 rfl rfl ?_
  exact K h2 r2 c2 s2 u2 e6 e4
theorem w_numberOf {x : Nat} (hd : 6 ≤ d) (hR : RW h S) (hx : x < 155) (K : ∀ h2, RW h2 S → cF h h2 → xSm [114, 115, 116, 117, 118] h h2 → (nrmN (pl h x) 8 = 4 → iv h 116 1 = nI S.2.1 → h2 = h) → Q (some (.int (plN S.2.1 (pl h x)))) h2) : xCt G l mX12_numberOf d [.ref 110, .int (nI x)] h 0 0 Q := by
  have hC := hR.1
  have ho8 := hR.2.1.1
  obtain ⟨nb1', nb2⟩ := nrm8 (hR.b x hx)
  refine xCt_of (by decide) (Nat.le_of_ble_eq_true rfl) ?_
  have no : plN S.2.1 (pl h x) = -1 → ∀ L, xWP G l mX12_numberOf d (zM G Q) 0 0 22 L [] h := by
    intro e L
    refine x_to (r := []) ?_ trivial
    refine x_iconst dX12_numberOf_22 rfl iC_m1 ?_
    refine x_ireturn dX12_numberOf_23 rfl rfl ?_
    rw [e] at K
    exact K h hR (cF.rf hC) (xSm.rf.sub (by simp)) (fun _ _ => rfl)
  refine x_aload_n (i := 0) dX12_numberOf_0 rfl rfl rfl ?_
  refine x_iload_n (i := 1) dX12_numberOf_1 rfl rfl rfl ?_
  refine x_callV0 (ci := 12) (b := 110) (As := [_]) (d2 := d - 1) dX12_numberOf_2 rfl kX12_137 okX12_normOf (hC.o rfl) (fun q hq => by cases hq; rfl) (by omega) rfl rfl (Nat.le_of_ble_eq_true rfl) (m_normOf hC hx ?_)
  refine x_lstore_n (i := 2) dX12_numberOf_5 rfl rfl (by decide) ?_
  refine x_aload_n (i := 0) dX12_numberOf_6 rfl rfl rfl ?_
  refine x_iload_n (i := 1) dX12_numberOf_7 rfl rfl rfl ?_
  refine x_callV0 (ci := 12) (b := 110) (As := [_]) (d2 := d - 1) dX12_numberOf_8 rfl kX12_134 okX12_isWhole (hC.o rfl) (fun q hq => by cases hq; rfl) (by omega) rfl rfl (Nat.le_of_ble_eq_true rfl) (m_isWhole (by omega) hC hR.2.1.2 ho8 hx (fun z => ?_) (fun z => ?_))
  rotate_left
  · refine x_if_eq_t (tgt := 22) dX12_numberOf_11 rfl nI_0 ?_
    refine no ?_ _
    unfold plN
    by_cases q : nrmN (pl h x) 8 ≤ 12 ∧ nrmN (pl h x) 8 % 4 = 0
    · rw [if_pos q]
      obtain ⟨a1, a2, a3, a4, a5, a6⟩ := dg_all q.1
      exact zFindL_f ho8 (by omega) a5 a1 a2 (by rw [← a6, z]; decide)
    · rw [if_neg q]
  rw [nb1']
  refine x_if_eq_f (tgt := 22) dX12_numberOf_11 rfl rfl nb1 ?_
  refine x_lload_n (i := 2) dX12_numberOf_14 rfl rfl rfl ?_
  refine x_ldc2 dX12_numberOf_15 rfl cX12_156 ?_
  refine x_lcmp dX12_numberOf_18 rfl ?_
  refine x_if_le (tgt := 24) dX12_numberOf_19 rfl rfl (fun c19 => ?_) (fun c19 => ?_)
  rotate_left
  · have cc : ¬ lN (nrmN (pl h x) 8) ≤ (12 : Int64) := mt (lg_cmp_le _ _).mpr c19
    refine no ?_ _
    unfold plN
    rw [if_neg (fun q => cc ((pk_lLE (b := 12) (by omega) (by omega)).mpr q.1))]
  have h12 : nrmN (pl h x) 8 ≤ 12 := by
    have cc : lN (nrmN (pl h x) 8) ≤ (12 : Int64) := (lg_cmp_le _ _).mp c19
    exact (pk_lLE (b := 12) (by omega) (by omega)).mp cc
  have m4 := wh_m4 ho8 h12 z
  obtain ⟨a1, a2, a3, a4, a5, a6⟩ := dg_all h12
  have ep : plN S.2.1 (pl h x) = zFindL S.2.1 (nrmN (pl h x) 8 / 4) (pl h x) := by unfold plN; rw [if_pos ⟨h12, m4⟩]
  rw [ep] at K
  obtain ⟨norm, en⟩ : ∃ norm, nrmN (pl h x) 8 = 4 * norm := ⟨nrmN (pl h x) 8 / 4, by omega⟩
  have hn : norm < 4 := by omega
  rw [en, show 4 * norm / 4 = norm by omega] at K
  obtain ⟨kf, kf1, kf2, kf3⟩ := zFindL_t (f := pl h x) ho8 hn a5 a1 a2 (by rw [a4, en]) (by rw [← a6]; exact z)
  rw [kf3] at K
  obtain ⟨z1, z2, z3⟩ := zLst_1 ho8 hn
  have zl := (zLst_n ho8 hn).1
  have hkf : kf < (zLst S.2.1 norm).1 := by rw [zl]; exact kf1
  refine x_lload_n (i := 2) dX12_numberOf_24 rfl rfl rfl ?_
  refine x_ldc2 dX12_numberOf_25 rfl cX12_141 ?_
  refine x_ldiv dX12_numberOf_28 rfl (by decide) ?_
  rw [en, show lN (4 * norm) / (4 : Int64) = lN norm from (pk_lDiv (b := 4) (by omega) (by omega) (by omega)).trans (by rw [show 4 * norm / 4 = norm by omega])]
  have e32 : (lN norm).toInt32 = nI norm := by
    have q : ∀ n, n < 4 → (lN n).toInt32 = nI n := by decide +kernel
    exact q norm hn
  refine x_l2i dX12_numberOf_29 rfl ?_
  rw [e32]
  refine x_istore dX12_numberOf_30 rfl (by decide) ?_
  refine x_iconst dX12_numberOf_32 rfl iC_0 ?_
  refine x_istore dX12_numberOf_33 rfl (by decide) ?_
  refine x_aload_n (i := 0) dX12_numberOf_35 rfl rfl rfl ?_
  refine x_iload dX12_numberOf_36 rfl rfl ?_
  refine x_callV0 (ci := 12) (b := 110) (As := [_]) (d2 := d - 1) dX12_numberOf_38 rfl kX12_158 okX12_listSize (hC.o rfl) (fun q hq => by cases hq; rfl) (by omega) rfl rfl (Nat.le_of_ble_eq_true rfl) (w_listSize (by omega) hR hn (fun h2 r2 c2 s2 u2 e6 e4 => ?_))
  have hC := r2.1
  have px : pl h2 x = pl h x := by unfold pl; rw [s2.iv (by decide)]
  have u2 : 4 * norm = 4 → iv h 116 1 = nI S.2.1 → h2 = h := fun y1 y2 => u2 (by rw [show norm = 1 by omega]; exact y2)
  generalize hN : (zLst S.2.1 norm).1 = N at *
  refine x_iconst dX12_numberOf_41 rfl iC_1 ?_
  refine x_isub dX12_numberOf_42 rfl ?_
  refine x_istore dX12_numberOf_43 rfl (by decide) ?_
  have loop : ∀ n lo H, H - lo ≤ n → H ≤ N → lo ≤ kf → kf < H → xWP G l mX12_numberOf d (zM G Q) 0 0 45 (xls [(0, .ref 110), (1, .int (nI x)), (4, .int (nI norm)), (5, .int (nI lo)), (6, .int (nI H - nI 1))]) [] h2 := by
    intro n
    induction n with
    | zero => intro lo H h1 h2 h3 h4; omega
    | succ n ih =>
      intro lo H h1 hH h3 h4
      rw [show nI H - nI 1 = nI (H - 1) from pk_sub (by omega)]
      refine x_iload dX12_numberOf_45 rfl rfl ?_
      refine x_iload dX12_numberOf_47 rfl rfl ?_
      refine x_jc_gt (tgt := 103) dX12_numberOf_49 rfl rfl (by omega) (by omega) (fun c49 => ?_) (fun c49 => ?_)
      · exfalso
        omega
      refine x_iload dX12_numberOf_52 rfl rfl ?_
      refine x_iload dX12_numberOf_54 rfl rfl ?_
      refine x_iadd dX12_numberOf_56 rfl ?_
      rw [show nI lo + nI (H - 1) = nI (lo + (H - 1)) from nI_add _ _]
      refine x_iconst dX12_numberOf_57 rfl iC_2 ?_
      refine x_idiv dX12_numberOf_58 rfl (by decide) ?_
      rw [show nI (lo + (H - 1)) / nI 2 = nI ((lo + (H - 1)) / 2) from pk_div (by omega) (by omega) (by omega)]
      obtain ⟨mid, hmid⟩ : ∃ mid, (lo + (H - 1)) / 2 = mid := ⟨_, rfl⟩
      rw [hmid]
      have hm : mid < N := by omega
      have hml : mid < lnN S.2.1 norm := by omega
      obtain ⟨l1, l2⟩ := lx_len _ _ _ (lsD_m hml).1
      have dig : ∀ ds : List Nat, ds.length = 8 → (∀ i ∈ ds, i < 7) → ∀ j, j < 8 → ds.getD j 0 < 7 := by
        intro ds q1 q2 j hj
        rw [List.getD_eq_getElem?_getD, List.getElem?_eq_getElem (by omega)]
        exact q2 _ (List.getElem_mem _)
      refine x_istore dX12_numberOf_59 rfl (by decide) ?_
      refine x_aload_n (i := 0) dX12_numberOf_61 rfl rfl rfl ?_
      refine x_iload_n (i := 1) dX12_numberOf_62 rfl rfl rfl ?_
      refine x_iload dX12_numberOf_63 rfl rfl ?_
      refine x_iload dX12_numberOf_65 rfl rfl ?_
      refine x_callV0 (ci := 12) (b := 110) (As := [_, _, _]) (d2 := d - 1) dX12_numberOf_67 rfl kX12_161 okX12_against (hC.o rfl) (fun q hq => by cases hq; rfl) (by omega) rfl rfl (Nat.le_of_ble_eq_true rfl) (m_against (g := zEl S.2.1 norm mid) (by omega) hC hx hn (by omega) (e4 mid hm) (fun q => ?_) (fun i hi q qn => ?_))
      · rw [px] at q
        have ee : ∀ j, j < 8 → (dg (pl h x)).getD j 0 = ((lsD S.2.1 norm).getD mid []).getD j 0 := by
          intro j hj
          have := q j hj
          rw [a3 j hj, zEl_l ho8 hn hml hj] at this
          refine (vv_cmp _ (dig _ a1 a2 j hj) _ (dig _ l1 l2 j hj)).1.mp ?_
          rw [this]
          exact Int32.sub_self _
        have el : dg (pl h x) = (lsD S.2.1 norm).getD mid [] := by
          refine List.ext_getElem (by rw [a1, l1]) (fun j j1 j2 => ?_)
          have := ee j (by omega)
          rw [List.getD_eq_getElem?_getD, List.getElem?_eq_getElem j1, List.getD_eq_getElem?_getD, List.getElem?_eq_getElem j2] at this
          exact this
        have em : kf = mid := by
          have lp : lsP S.2.1 norm kf = lsP S.2.1 norm mid := by unfold lsP; rw [kf2, el]
          rcases Nat.lt_trichotomy kf mid with w | w | w
          · have := lsP_lt w hml; omega
          · exact w
          · have := lsP_lt w kf1; omega
        refine x_istore dX12_numberOf_70 rfl (by decide) ?_
        refine x_iload dX12_numberOf_72 rfl rfl ?_
        refine x_if_ne_f (tgt := 80) dX12_numberOf_74 rfl rfl nI_0 ?_
        refine x_iload dX12_numberOf_77 rfl rfl ?_
        refine x_ireturn dX12_numberOf_79 rfl rfl ?_
        rw [← em]
        exact K _ r2 c2 s2 u2
      · rw [px] at q qn ⊢
        have ee : ∀ j, j < i → (dg (pl h x)).getD j 0 = ((lsD S.2.1 norm).getD mid []).getD j 0 := by
          intro j hj
          have := q j hj
          rw [a3 j (by omega), zEl_l ho8 hn hml (by omega)] at this
          refine (vv_cmp _ (dig _ a1 a2 j (by omega)) _ (dig _ l1 l2 j (by omega))).1.mp ?_
          rw [this]
          exact Int32.sub_self _
        rw [a3 i hi, zEl_l ho8 hn hml hi] at qn ⊢
        obtain ⟨w1, w2⟩ := vv_cmp _ (dig _ a1 a2 i hi) _ (dig _ l1 l2 i hi)
        have lk : lsP S.2.1 norm kf = pkN 0 (dg (pl h x)) := by unfold lsP; rw [kf2]
        have lm : lsP S.2.1 norm mid = pkN 0 ((lsD S.2.1 norm).getD mid []) := rfl
        refine x_istore dX12_numberOf_70 rfl (by decide) ?_
        refine x_iload dX12_numberOf_72 rfl rfl ?_
        refine x_if_ne_t (tgt := 80) dX12_numberOf_74 rfl qn ?_
        refine x_iload dX12_numberOf_80 rfl rfl ?_
        refine x_if_ge (tgt := 94) dX12_numberOf_82 rfl rfl (fun c82 => ?_) (fun c82 => ?_)
        · have ge : ((lsD S.2.1 norm).getD mid []).getD i 0 < (dg (pl h x)).getD i 0 := by
            have u1 : ¬ (dg (pl h x)).getD i 0 < ((lsD S.2.1 norm).getD mid []).getD i 0 := fun y => by
              have := Int32.lt_iff_toInt_lt.mp (w2.mpr y)
              have := Int32.le_iff_toInt_le.mp c82
              omega
            have u2 : ¬ (dg (pl h x)).getD i 0 = ((lsD S.2.1 norm).getD mid []).getD i 0 := fun y => qn (w1.mpr y)
            omega
          have lt := pk_lex i _ _ 0 (l1.trans a1.symm) l2 a2 (by omega) (fun j hj => (ee j hj).symm) ge
          have kl : mid < kf := by
            rcases Nat.lt_trichotomy kf mid with w | w | w
            · have := lsP_lt w hml; omega
            · subst w; omega
            · exact w
          refine x_iload dX12_numberOf_94 rfl rfl ?_
          refine x_iconst dX12_numberOf_96 rfl iC_1 ?_
          refine x_iadd dX12_numberOf_97 rfl ?_
          rw [show nI mid + nI 1 = nI (mid + 1) from nI_add _ _]
          refine x_istore dX12_numberOf_98 rfl (by decide) ?_
          refine x_goto (tgt := 45) dX12_numberOf_100 rfl ?_
          refine x_to (ih (mid + 1) H (by omega) (by omega) (by omega) h4) ⟨rfl, rfl, rfl, rfl, ?_, trivial⟩
          rw [show nI H - nI 1 = nI (H - 1) from pk_sub (by omega)]
          rfl
        · have lti : (dg (pl h x)).getD i 0 < ((lsD S.2.1 norm).getD mid []).getD i 0 := w2.mp (Int32.not_le.mp c82)
          have lt := pk_lex i _ _ 0 (a1.trans l1.symm) a2 l2 (by omega) ee lti
          have kl : kf < mid := by
            rcases Nat.lt_trichotomy kf mid with w | w | w
            · exact w
            · subst w; omega
            · have := lsP_lt w kf1; omega
          refine x_iload dX12_numberOf_85 rfl rfl ?_
          refine x_iconst dX12_numberOf_87 rfl iC_1 ?_
          refine x_isub dX12_numberOf_88 rfl ?_
          refine x_istore dX12_numberOf_89 rfl (by decide) ?_
          refine x_goto (tgt := 100) dX12_numberOf_91 rfl ?_
          refine x_goto (tgt := 45) dX12_numberOf_100 rfl ?_
          exact x_to (ih lo mid (by omega) (by omega) h3 kl) ⟨rfl, rfl, rfl, rfl, rfl, trivial⟩
  exact x_to (loop N 0 N (by omega) (Nat.le_refl _) (by omega) hkf) ⟨rfl, rfl, rfl, rfl, rfl, trivial⟩
end MOD

