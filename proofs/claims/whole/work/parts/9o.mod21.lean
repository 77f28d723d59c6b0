/-! EightPartsModel: a list is laid -/
theorem RM.ls {h h2 : xH} {S : St} (hR : RM h S) (hC : Cs h2) (hS : xSm [114, 115, 116, 117, 118] h h2) (hL : mLs h2) : RM h2 S ∧ cF h h2 := by
  obtain ⟨r1, ⟨r2, r3⟩, r4, r5, r6, r7, r8, r11, r12, r13⟩ := hR
  have k : ∀ a, a ∉ [114, 115, 116, 117, 118] → h2.1 a = h.1 a := fun a ha => hS.2 a ha
  have i : ∀ a, a ∉ [114, 115, 116, 117, 118] → iv h2 a = iv h a := fun a ha => hS.iv ha
  have ep : ∀ y, pl h2 y = pl h y := fun y => by unfold pl; rw [i 112 (by decide)]
  have e0 := k 110 (by decide)
  refine ⟨⟨hC, ⟨r2, by unfold mRul; rw [e0]; exact r3⟩, fun j hj => by rw [ep]; exact r4 j hj, ⟨fun y hy => by rw [ep]; exact r5.1 y hy, by rw [ep]; exact r5.2⟩, hL, ?_, ?_, r11, by rw [e0]; exact r12, ?_⟩, ⟨hC, hS.1, fun a ha => k a (by simp; omega)⟩⟩
  · unfold mTbl
    rw [e0, i 130 (by decide)]
    exact r7
  · unfold mTp
    rw [e0, i 124 (by decide)]
    exact r8
  · rw [i 133 (by decide)]
    exact r13
theorem lf_d : ∀ a, a < 4 → ∀ b, b < 4 → a ≠ b → lf a + zRoom a ≤ lf b ∨ lf b + zRoom b ≤ lf a := by decide
section MOD
variable {G : xG} {l : Launch} {d : Nat} {h : xH} {Q : Option Value → xH → Prop} {S : St}
theorem w_dfs {o norm : Nat} (hd : 3 ≤ d) (hn : norm < 4) (ho : o < 8) : ∀ m i, i + m = 7 → dSt G l d Q h o norm i 0 := by
  intro m
  induction m with
  | zero => exact fun i hi => w_node hd hn ho (by omega) (fun z => absurd z (by omega)) 7 0 rfl
  | succ m ih => exact fun i hi => w_node hd hn ho (by omega) (fun _ => ih (i + 1) (by omega)) 7 0 rfl
theorem m_laysList {norm o : Nat} (hd : 4 ≤ d) (hR : RM h S) (hn : norm < 4) (ho : o < 8)
    (K : ∀ h2, RM h2 S → cF h h2 → xSm [114, 115, 116, 117, 118] h h2 → iv h2 116 norm = nI o → iv h2 115 norm = nI (zLst o norm).1 → (∀ k, k < (zLst o norm).1 → ∀ p, p < 8 → iv h2 114 (8 * (lf norm + k) + p) = zEl o norm k p) → Q none h2) : xCt G l mX12_laysList d [.ref 110, .int (nI norm), .int (nI o)] h 0 0 Q := by
  have hC := hR.1
  have v6 := hC.v (a := 116) rfl
  refine xCt_of (by decide) (Nat.le_of_ble_eq_true rfl) ?_
  refine x_aload_n (i := 0) dX12_laysList_0 rfl rfl rfl ?_
  refine x_getC dX12_laysList_1 rfl fX12_34 hC rfl F_110_7 ?_
  refine x_iload_n (i := 1) dX12_laysList_4 rfl rfl rfl ?_
  refine x_iald dX12_laysList_5 rfl v6 rfl (by omega) (by decide) ?_
  refine x_iload_n (i := 2) dX12_laysList_6 rfl rfl rfl ?_
  refine x_ic_ne (tgt := 11) dX12_laysList_7 rfl rfl (fun c7 => ?_) (fun c7 => ?_)
  rotate_left
  · have ce : iv h 116 norm = nI o := by
      first
      | exact c7
      | exact Classical.byContradiction (fun z => c7 z)
    refine x_return dX12_laysList_10 rfl ?_
    rcases hR.2.2.2.2.1 norm hn with e | ⟨o2, q1, q2, q3, q4⟩
    · rw [ce] at e
      exact absurd e (fun z => by
        have := congrArg Int32.toInt z
        rw [nI_toInt (by omega)] at this
        have e1 : (-1 : Int32).toInt = -1 := rfl
        omega)
    · obtain rfl : o2 = o := (nI_eq (by omega) (by omega)).mp (q2.symm.trans ce)
      exact K h hR (cF.rf hC) (xSm.rf.sub (by simp)) q2 q3 q4
  · have hC1 := hC.setI (f := upd (iv h 116) norm (nI o)) v6 (Or.inl rfl) (by decide)
    refine x_aload_n (i := 0) dX12_laysList_11 rfl rfl rfl ?_
    refine x_getC dX12_laysList_12 rfl fX12_34 hC rfl F_110_7 ?_
    refine x_iload_n (i := 1) dX12_laysList_15 rfl rfl rfl ?_
    refine x_iload_n (i := 2) dX12_laysList_16 rfl rfl rfl ?_
    refine x_iast dX12_laysList_17 rfl v6 rfl (by omega) (by decide) ?_
    have s1 : xSm [116] h (hs h 116 (0, 4, xI (upd (iv h 116) norm (nI o)))) := xSm.hs1
    have j6 : iv (hs h 116 (0, 4, xI (upd (iv h 116) norm (nI o)))) 116 = upd (iv h 116) norm (nI o) := iv_hs
    show xWP G l mX12_laysList d (zM G Q) 0 0 18 _ [] (hs h 116 (0, 4, xI (upd (iv h 116) norm (nI o))))
    generalize hs h 116 (0, 4, xI (upd (iv h 116) norm (nI o))) = h1 at hC1 s1 j6 ⊢
    have hC := hC1
    refine x_bipush dX12_laysList_18 rfl bC_8 ?_
    refine x_iload_n (i := 1) dX12_laysList_20 rfl rfl rfl ?_
    refine x_callS0 (As := [_]) (d2 := d - 1) dX12_laysList_21 rfl kX12_143 okX12_listFrom (by omega) rfl rfl (Nat.le_of_ble_eq_true rfl) (m_listFrom hn ?_)
    refine x_imul dX12_laysList_24 rfl ?_
    rw [nI_mul8]
    refine x_istore_n (i := 3) dX12_laysList_25 rfl rfl (by decide) ?_
    refine x_iconst dX12_laysList_26 rfl iC_0 ?_
    refine x_istore dX12_laysList_27 rfl (by decide) ?_
    refine x_iconst dX12_laysList_29 rfl iC_0 ?_
    refine x_istore dX12_laysList_30 rfl (by decide) ?_
    refine x_aload_n (i := 0) dX12_laysList_32 rfl rfl rfl ?_
    refine x_getC dX12_laysList_33 rfl fX12_40 hC rfl F_110_9 ?_
    refine x_iconst dX12_laysList_36 rfl iC_0 ?_
    refine x_iconst dX12_laysList_37 rfl iC_4 ?_
    refine x_iload_n (i := 1) dX12_laysList_38 rfl rfl rfl ?_
    refine x_imul dX12_laysList_39 rfl ?_
    rw [nI_mul8]
    have v8 := hC.v (a := 118) rfl
    have hC2 := hC.setI (f := upd (iv h1 118) 0 (nI (4 * norm))) v8 (Or.inl rfl) (by decide)
    refine x_iast dX12_laysList_40 rfl v8 rfl (by omega) (by decide) ?_
    have s2 : xSm [118] h1 (hs h1 118 (0, 8, xI (upd (iv h1 118) 0 (nI (4 * norm))))) := xSm.hs1
    have j8 : iv (hs h1 118 (0, 8, xI (upd (iv h1 118) 0 (nI (4 * norm))))) 118 = upd (iv h1 118) 0 (nI (4 * norm)) := iv_hs
    show xWP G l mX12_laysList d (zM G Q) 0 0 41 _ [] (hs h1 118 (0, 8, xI (upd (iv h1 118) 0 (nI (4 * norm)))))
    generalize hs h1 118 (0, 8, xI (upd (iv h1 118) 0 (nI (4 * norm)))) = h2 at hC2 s2 j8 ⊢
    have hC := hC2
    have v7 := hC.v (a := 117) rfl
    have hC3 := hC.setI (f := upd (iv h2 117) 0 (nI 0 - nI 4)) v7 (Or.inl rfl) (by decide)
    refine x_aload_n (i := 0) dX12_laysList_41 rfl rfl rfl ?_
    refine x_getC dX12_laysList_42 rfl fX12_37 hC rfl F_110_8 ?_
    refine x_iconst dX12_laysList_45 rfl iC_0 ?_
    refine x_bipush dX12_laysList_46 rfl bC_m4 ?_
    rw [show (-4 : Int32) = nI 0 - nI 4 from by decide]
    refine x_iast dX12_laysList_48 rfl v7 rfl (by omega) (by decide) ?_
    have s3 : xSm [117] h2 (hs h2 117 (0, 8, xI (upd (iv h2 117) 0 (nI 0 - nI 4)))) := xSm.hs1
    have j7 : iv (hs h2 117 (0, 8, xI (upd (iv h2 117) 0 (nI 0 - nI 4)))) 117 = upd (iv h2 117) 0 (nI 0 - nI 4) := iv_hs
    show xWP G l mX12_laysList d (zM G Q) 0 0 49 _ [] (hs h2 117 (0, 8, xI (upd (iv h2 117) 0 (nI 0 - nI 4))))
    generalize hs h2 117 (0, 8, xI (upd (iv h2 117) 0 (nI 0 - nI 4))) = h3 at hC3 s3 j7 ⊢
    have s13 := ((s1.tr s2).tr s3)
    refine x_to (w_dfs (h := h) (by omega) hn ho 7 0 rfl h3 [] [] (4 * norm) [] (by omega) rfl (fun x hx => by cases hx) (by rw [lsD_T, List.append_nil, List.nil_append]) ⟨hC3, s13.sub (by simp), by rw [s3.iv (by decide), s2.iv (by decide), j6], fun j _ => by rw [s13.iv (by decide)], fun k hk => absurd hk (Nat.not_lt_zero k)⟩ (fun j hj => absurd hj (Nat.not_lt_zero j)) (by rw [j7]; rfl) (by rw [s3.iv (by decide), j8]; rfl) (fun h4 d4 _ _ => ?_)) ⟨rfl, rfl, rfl, rfl, rfl, rfl, trivial⟩
    rw [lsD_T, List.nil_append] at d4 ⊢
    obtain ⟨i1, i2, i3, i4, i5⟩ := d4
    have hC := i1
    have v5 := hC.v (a := 115) rfl
    rw [lsD_len] at i5 ⊢
    have hC5 := hC.setI (f := upd (iv h4 115) norm (nI (lnN o norm))) v5 (Or.inl rfl) (by decide)
    refine x_iload dX12_laysList_49 rfl rfl ?_
    refine x_if_lt_t (tgt := 244) dX12_laysList_51 rfl (by decide) ?_
    refine x_aload_n (i := 0) dX12_laysList_244 rfl rfl rfl ?_
    refine x_getC dX12_laysList_245 rfl fX12_31 hC rfl F_110_6 ?_
    refine x_iload_n (i := 1) dX12_laysList_248 rfl rfl rfl ?_
    refine x_iload dX12_laysList_249 rfl rfl ?_
    refine x_iast dX12_laysList_251 rfl v5 rfl (by omega) (by decide) ?_
    refine x_return dX12_laysList_252 rfl ?_
    obtain ⟨z1, z2⟩ := zLst_n ho hn
    have sS : xSm [114, 115, 116, 117, 118] h (hs h4 115 (0, 4, xI (upd (iv h4 115) norm (nI (lnN o norm))))) := (i2.tr xSm.hs1).sub (by simp)
    have f6 : iv (hs h4 115 (0, 4, xI (upd (iv h4 115) norm (nI (lnN o norm))))) 116 norm = nI o := by
      rw [iv_n (by decide), i3]
      unfold upd
      rw [if_pos rfl]
    have f5 : iv (hs h4 115 (0, 4, xI (upd (iv h4 115) norm (nI (lnN o norm))))) 115 norm = nI (zLst o norm).1 := by
      rw [iv_hs, z1]
      unfold upd
      rw [if_pos rfl]
    have f4 : ∀ k, k < (zLst o norm).1 → ∀ p, p < 8 → iv (hs h4 115 (0, 4, xI (upd (iv h4 115) norm (nI (lnN o norm))))) 114 (8 * (lf norm + k) + p) = zEl o norm k p := by
      intro k hk p hp
      rw [z1] at hk
      rw [iv_n (by decide), i5 k hk p hp, zEl_l ho hn hk hp]
    have hL : mLs (hs h4 115 (0, 4, xI (upd (iv h4 115) norm (nI (lnN o norm))))) := by
      intro q hq
      by_cases e : q = norm
      · subst e
        exact Or.inr ⟨o, ho, f6, f5, f4⟩
      · have g6 : iv (hs h4 115 (0, 4, xI (upd (iv h4 115) norm (nI (lnN o norm))))) 116 q = iv h 116 q := by
          rw [iv_n (by decide), i3]
          unfold upd
          rw [if_neg e]
        have g5 : iv (hs h4 115 (0, 4, xI (upd (iv h4 115) norm (nI (lnN o norm))))) 115 q = iv h 115 q := by
          rw [iv_hs]
          unfold upd
          rw [if_neg e, i2.iv (by decide)]
        rw [g6, g5]
        rcases hR.2.2.2.2.1 q hq with r | ⟨o2, q1, q2, q3, q4⟩
        · exact Or.inl r
        · refine Or.inr ⟨o2, q1, q2, q3, fun k hk p hp => ?_⟩
          have hz := zLst_le o2 q
          have hdj := lf_d q hq norm hn e
          rw [iv_n (by decide), i4 _ (by omega)]
          exact q4 k hk p hp
    obtain ⟨R1, R2⟩ := hR.ls hC5 sS hL
    exact K _ R1 R2 sS f6 f5 f4
theorem m_listSize {norm : Nat} (hd : 5 ≤ d) (hR : RM h S) (hn : norm < 4)
    (K : ∀ h2, RM h2 S → cF h h2 → xSm [114, 115, 116, 117, 118] h h2 → iv h2 116 norm = nI S.2.1 → (∀ k, k < (zLst S.2.1 norm).1 → ∀ p, p < 8 → iv h2 114 (8 * (lf norm + k) + p) = zEl S.2.1 norm k p) → Q (some (.int (nI (zLst S.2.1 norm).1))) h2) : xCt G l mX12_listSize d [.ref 110, .int (nI norm)] h 0 0 Q := by
  have hC := hR.1
  have f4 := hR.2.1.2
  refine xCt_of (by decide) (Nat.le_of_ble_eq_true rfl) ?_
  refine x_aload_n (i := 0) dX12_listSize_0 rfl rfl rfl ?_
  refine x_iload_n (i := 1) dX12_listSize_1 rfl rfl rfl ?_
  refine x_aload_n (i := 0) dX12_listSize_2 rfl rfl rfl ?_
  refine x_getM (a := 110) dX12_listSize_3 rfl fX12_24 hC rfl f4 ?_
  refine x_callV0 (ci := 12) (b := 110) (As := [_, _]) (d2 := d - 1) dX12_listSize_6 rfl kX12_152 okX12_laysList (hC.o rfl) (fun q hq => by cases hq; rfl) (by omega) rfl rfl (Nat.le_of_ble_eq_true rfl) (m_laysList (by omega) hR hn hR.2.1.1 (fun h2 r2 c2 s2 e6 e5 e4 => ?_))
  have hC := r2.1
  have v5 := hC.v (a := 115) rfl
  refine x_aload_n (i := 0) dX12_listSize_9 rfl rfl rfl ?_
  refine x_getC dX12_listSize_10 rfl fX12_31 hC rfl F_110_6 ?_
  refine x_iload_n (i := 1) dX12_listSize_13 rfl rfl rfl ?_
  refine x_iald dX12_listSize_14 rfl v5 rfl (by omega) (by decide) ?_
  rw [e5]
  refine x_ireturn dX12_listSize_15 rfl rfl ?_
  exact K h2 r2 c2 s2 e6 e4
end MOD

