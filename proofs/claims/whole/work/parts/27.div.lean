/-! EightParts$Divider -/
def zBd (f : Nat → Int32) : Prop := ∀ j, j < 8 → -20000 ≤ (f j).toInt ∧ (f j).toInt ≤ 20000
theorem zBd_nar {w : Nat → Int64} (hw : zIn w) : zBd (zNar w) := by
  intro j hj
  obtain ⟨h1, h2⟩ := hw j hj
  rw [Int64.lt_iff_toInt_lt] at h1
  rw [Int64.le_iff_toInt_le] at h2
  have e1 : (-20000 : Int64).toInt = -20000 := by decide
  have e2 : (20000 : Int64).toInt = 20000 := by decide
  rw [e1] at h1
  rw [e2] at h2
  have e3 : (zNar w j).toInt = (w j).toInt := by
    show (w j).toInt32.toInt = _
    rw [Int64.toInt_toInt32]
    exact fb_bmod (by omega) (by omega)
  rw [e3]
  omega
def nrmN (g : Nat → Int32) : Nat → Nat
  | 0 => 0
  | i + 1 => nrmN g i + (g i).toInt.natAbs * (g i).toInt.natAbs
theorem nrm_sq {x : Int32} (h : -20000 ≤ x.toInt ∧ x.toInt ≤ 20000) : x.toInt64 * x.toInt64 = lN (x.toInt.natAbs * x.toInt.natAbs) ∧ x.toInt.natAbs * x.toInt.natAbs ≤ 400000000 := by
  have hb : x.toInt.natAbs ≤ 20000 := by omega
  have h2 : x.toInt.natAbs * x.toInt.natAbs ≤ 400000000 := Nat.le_trans (Nat.mul_le_mul hb hb) (by decide)
  refine ⟨?_, h2⟩
  apply Int64.toInt_inj.mp
  rw [pk_lT (by omega)]
  have e1 : x.toInt64.toInt = x.toInt := Int32.toInt_toInt64 x
  have e2 : ((x.toInt.natAbs * x.toInt.natAbs : Nat) : Int) = x.toInt * x.toInt := by
    rw [Int.natCast_mul]
    exact Int.natAbs_mul_self' x.toInt
  have h3 : (0 : Int) ≤ x.toInt * x.toInt := by rw [← e2]; omega
  have h4 : x.toInt * x.toInt ≤ 400000000 := by rw [← e2]; omega
  rw [fb_mulL (by rw [e1]; omega) (by rw [e1]; omega), e1, e2]
theorem nrm_eq {g : Nat → Int32} (hg : zBd g) : ∀ i, i ≤ 8 → zInn g g i = lN (nrmN g i) ∧ nrmN g i ≤ i * 400000000
  | 0, _ => ⟨rfl, by simp [nrmN]⟩
  | i + 1, hi => by
    obtain ⟨h1, h2⟩ := nrm_eq hg i (by omega)
    obtain ⟨h3, h4⟩ := nrm_sq (hg i (by omega))
    rw [zInn, h1, h3, lN_add, nrmN]
    exact ⟨rfl, by omega⟩
theorem nrm8 {g : Nat → Int32} (hg : zBd g) : zInn g g 8 = lN (nrmN g 8) ∧ nrmN g 8 ≤ 3200000000 := by
  obtain ⟨h1, h2⟩ := nrm_eq hg 8 (by omega)
  exact ⟨h1, by omega⟩
theorem lN_lit (n : Nat) : (OfNat.ofNat n : Int64) = lN n := rfl
theorem nrm_div {g : Nat → Int32} (hg : zBd g) (h0 : ¬ zInn g g 8 = 0) (h4 : zInn g g 8 - zInn g g 8 / 4 * 4 = 0) : (1 : Int64) ≤ zInn g g 8 / 4 ∧ ¬ 2 * (zInn g g 8 / 4) = 0 ∧ ∃ m, 1 ≤ m ∧ m ≤ 800000000 ∧ nrmN g 8 = 4 * m ∧ zInn g g 8 / 4 = lN m := by
  obtain ⟨e1, hb⟩ := nrm8 hg
  rw [e1] at h0 h4 ⊢
  have e4 : (4 : Int64) = lN 4 := rfl
  rw [e4] at h4 ⊢
  have ed : lN (nrmN g 8) / lN 4 = lN (nrmN g 8 / 4) := pk_lDiv (by omega) (by omega) (by omega)
  rw [pk_lRem (by omega) (by omega) (by omega)] at h4
  have h5 : nrmN g 8 % 4 = 0 := (pk_lEQ (b := 0) (by omega) (by omega)).mp h4
  have h6 : nrmN g 8 ≠ 0 := fun e => h0 (by rw [e]; rfl)
  rw [ed]
  refine ⟨(pk_lLE (a := 1) (by omega) (by omega)).mpr (by omega), fun z => ?_, nrmN g 8 / 4, by omega, by omega, by omega, rfl⟩
  have z2 : lN 2 * lN (nrmN g 8 / 4) = lN 0 := z
  rw [lN_mul] at z2
  have := (pk_lEQ (by omega) (by omega)).mp z2
  omega
/-- quotient and rest -/
noncomputable def oSplit (o : Nat) (f g : Nat → Int32) : Option ((Nat → Int32) × (Nat → Int32)) :=
  @ite _ (zInn g g 8 = 0 ∨ ¬ zInn g g 8 - zInn g g 8 / 4 * 4 = 0 ∨ ¬ zEven (zM4 f (zMir g)) ∨ ¬ zIn (zNst o (zHalf (zM4 f (zMir g))) (zInn g g 8 / 4))) (Classical.propDecidable _) none
    ((oMul (zNar (zNst o (zHalf (zM4 f (zMir g))) (zInn g g 8 / 4))) g).bind (fun r1 => (oAdd f r1 (-1)).map (fun r => (zNar (zNst o (zHalf (zM4 f (zMir g))) (zInn g g 8 / 4)), r))))
abbrev dS : List Nat := [11, 16, 17, 19, 20, 21, 38, 39, 40, 43]
section DIV
variable {G : xG} {l : Launch} {d : Nat} {h : xH} {Q : Option Value → xH → Prop}
theorem c_split {a b o : Nat} (hd : 4 ≤ d) (hC : Cs h) (ho : hOrd h o) (ho8 : o < 8) (ha : csV a) (hb : csV b) (han : a ∉ dS) (hbn : b ∉ dS) (hbd : zBd (iv h b))
    (Kt : ∀ q r, oSplit o (iv h a) (iv h b) = some (q, r) → ∀ h2, Cs h2 → xSm dS h h2 → iv h2 38 = q → iv h2 39 = r → Q (some (.int (nI 1))) h2)
    (Kf : oSplit o (iv h a) (iv h b) = none → ∀ h2, Cs h2 → xSm dS h h2 → Q (some (.int (nI 0))) h2) : xCt G l mX0_split d [.ref 37, .ref a, .ref b] h 0 0 Q := by
  have va := hC.v ha
  have vb := hC.v hb
  have v40 := hC.v (a := 40) rfl
  have v43 := hC.j (a := 43) rfl
  have an : a ≠ 40 ∧ a ≠ 39 ∧ a ≠ 38 ∧ a ≠ 43 := by simp at han; omega
  have bn : b ≠ 40 ∧ b ≠ 39 ∧ b ≠ 38 ∧ b ≠ 43 := by simp at hbn; omega
  have sub0 : xSm dS h h := xSm.rf.sub (by simp)
  refine xCt_of (by decide) (Nat.le_of_ble_eq_true rfl) ?_
  refine x_aload_n (i := 2) dX0_split_0 rfl rfl rfl ?_
  refine x_callS0 (As := [_]) (d2 := d - 1) dX0_split_1 rfl kX0_47 okX5_normBy4 (by omega) rfl rfl (Nat.le_of_ble_eq_true rfl) (c_normBy4 (by omega) vb ?_)
  refine x_lstore_n (i := 3) dX0_split_4 rfl rfl (by decide) ?_
  refine x_lload_n (i := 3) dX0_split_5 rfl rfl rfl ?_
  refine x_lconst dX0_split_6 rfl lC_0 ?_
  refine x_lcmp dX0_split_7 rfl ?_
  refine x_if_eq (tgt := 21) dX0_split_8 rfl rfl (fun c8 => ?_) (fun c8 => ?_)
  · refine x_iconst dX0_split_21 rfl iC_0 ?_
    refine x_ireturn dX0_split_22 rfl rfl ?_
    exact Kf (if_pos (Or.inl ((lg_cmp_eq _ _).mp c8))) h hC sub0
  · have n0 : ¬ zInn (iv h b) (iv h b) 8 = 0 := fun e => c8 ((lg_cmp_eq _ _).mpr e)
    refine x_lload_n (i := 3) dX0_split_11 rfl rfl rfl ?_
    refine x_ldc2 dX0_split_12 rfl cX0_53 ?_
    refine x_lrem dX0_split_15 rfl (by decide) ?_
    refine x_lconst dX0_split_16 rfl lC_0 ?_
    refine x_lcmp dX0_split_17 rfl ?_
    refine x_if_eq (tgt := 23) dX0_split_18 rfl rfl (fun c18 => ?_) (fun c18 => ?_)
    · have n4 := (lg_cmp_eq _ _).mp c18
      obtain ⟨p1, p2, -⟩ := nrm_div hbd n0 n4
      refine x_aload_n (i := 0) dX0_split_23 rfl rfl rfl ?_
      refine x_getC dX0_split_24 rfl fX0_18 hC rfl F_37_4 ?_
      refine x_aload_n (i := 2) dX0_split_27 rfl rfl rfl ?_
      refine x_callS0 (As := [_, _]) (d2 := d - 1) dX0_split_28 rfl kX0_55 okX5_layMirrored (by omega) rfl rfl (Nat.le_of_ble_eq_true rfl) (c_layMirrored v40 vb ?_)
      have hC1 := hC.setI (f := zMir (iv h b)) v40 (Or.inl rfl) (by decide)
      have va1 := hs_ne (c := (0, 8, xI (zMir (iv h b)))) an.1 va
      have v43' := hs_ne (c := (0, 8, xI (zMir (iv h b)))) (show 43 ≠ 40 by decide) v43
      refine x_aload_n (i := 0) dX0_split_31 rfl rfl rfl ?_
      refine x_getC dX0_split_32 rfl fX0_27 hC1 rfl F_37_7 ?_
      refine x_aload_n (i := 1) dX0_split_35 rfl rfl rfl ?_
      refine x_aload_n (i := 0) dX0_split_36 rfl rfl rfl ?_
      refine x_getC dX0_split_37 rfl fX0_18 hC1 rfl F_37_4 ?_
      refine x_callS0 (As := [_, _, _]) (d2 := d - 1) dX0_split_40 rfl kX0_59 okX5_multiplyBy4 (by omega) rfl rfl (Nat.le_of_ble_eq_true rfl) (c_multiplyBy4 v43' va1 hs_eq ?_)
      have hC2 := hC1.setJ (f := zM4 (iv h a) (zMir (iv h b))) v43'
      refine x_aload_n (i := 0) dX0_split_43 rfl rfl rfl ?_
      refine x_getC dX0_split_44 rfl fX0_27 hC2 rfl F_37_7 ?_
      refine x_callS0 (As := [_]) (d2 := d - 1) dX0_split_47 rfl kX0_63 okX5_halve (by omega) rfl rfl (Nat.le_of_ble_eq_true rfl) (c_halve hs_eq (fun z => ?_) (fun w z => ?_))
      · rw [hs_hs]
        have hC3 := hC1.setJ (f := zHalf (zM4 (iv h a) (zMir (iv h b)))) v43'
        have hS3 : xSm [40, 43] h (hs (hs h 40 (0, 8, xI (zMir (iv h b)))) 43 (1, 8, xJ (zHalf (zM4 (iv h a) (zMir (iv h b)))))) := xSm.hs2
        have v43'' : (hs (hs h 40 (0, 8, xI (zMir (iv h b)))) 43 (1, 8, xJ (zHalf (zM4 (iv h a) (zMir (iv h b)))))).1 43 = (1, 8, xJ (zHalf (zM4 (iv h a) (zMir (iv h b))))) := hs_eq
        show xWP G l mX0_split d (zM G Q) 0 0 50 _ (xpush (some (.int (nI 1))) []) (hs (hs h 40 (0, 8, xI (zMir (iv h b)))) 43 (1, 8, xJ (zHalf (zM4 (iv h a) (zMir (iv h b))))))
        generalize hs (hs h 40 (0, 8, xI (zMir (iv h b)))) 43 (1, 8, xJ (zHalf (zM4 (iv h a) (zMir (iv h b))))) = h3 at hC3 hS3 v43'' ⊢
        have hC := hC3
        have ho3 : hOrd h3 o := by unfold hOrd; rw [hS3.2 14 (by decide)]; exact ho
        refine x_if_eq_f (tgt := 119) dX0_split_50 rfl rfl nb1 ?_
        refine x_aload_n (i := 0) dX0_split_53 rfl rfl rfl ?_
        refine x_getC dX0_split_54 rfl fX0_39 hC rfl F_37_0 ?_
        refine x_aload_n (i := 0) dX0_split_57 rfl rfl rfl ?_
        refine x_getC dX0_split_58 rfl fX0_9 hC rfl F_37_2 ?_
        refine x_aload_n (i := 0) dX0_split_61 rfl rfl rfl ?_
        refine x_getC dX0_split_62 rfl fX0_27 hC rfl F_37_7 ?_
        refine x_lload_n (i := 3) dX0_split_65 rfl rfl rfl ?_
        refine x_ldc2 dX0_split_66 rfl cX0_53 ?_
        refine x_ldiv dX0_split_69 rfl (by decide) ?_
        refine x_callV0 (ci := 2) (b := 14) (As := [_, _, _]) (d2 := d - 1) dX0_split_70 rfl kX0_67 okX2_layNearest (hC.o rfl) (fun q hq => by cases hq; rfl) (by omega) rfl rfl (Nat.le_of_ble_eq_true rfl) (c_layNearest (by omega) hC ho3 ho8 (t := 38) rfl v43'' (by decide) p1 p2 (fun z5 h4 hC4 hS4 e4 => ?_) (fun z5 h4 hC4 hS4 => ?_))
        · have hC := hC4
          have hS34 := (hS3.tr hS4).sub (T := dS) (by simp)
          have eb : iv h4 b = iv h b := hS34.iv hbn
          have ea : iv h4 a = iv h a := hS34.iv han
          have os : oSplit o (iv h a) (iv h b) = (oMul (iv h4 38) (iv h b)).bind (fun r1 => (oAdd (iv h a) r1 (-1)).map (fun r => (iv h4 38, r))) := by
            rw [e4]
            exact if_neg (by rintro (q | q | q | q); exact n0 q; exact q n4; exact q z; exact q z5)
          rw [os] at Kt Kf
          refine x_if_eq_f (tgt := 119) dX0_split_73 rfl rfl nb1 ?_
          refine x_aload_n (i := 0) dX0_split_76 rfl rfl rfl ?_
          refine x_getC dX0_split_77 rfl fX0_43 hC rfl F_37_1 ?_
          refine x_aload_n (i := 0) dX0_split_80 rfl rfl rfl ?_
          refine x_getC dX0_split_81 rfl fX0_15 hC rfl F_37_3 ?_
          refine x_aload_n (i := 0) dX0_split_84 rfl rfl rfl ?_
          refine x_getC dX0_split_85 rfl fX0_9 hC rfl F_37_2 ?_
          refine x_aload_n (i := 2) dX0_split_88 rfl rfl rfl ?_
          refine x_callV0 (ci := 7) (b := 10) (As := [_, _, _]) (d2 := d - 1) dX0_split_89 rfl kX0_73 okX7_multiply (hC.o rfl) (fun q hq => by cases hq; rfl) (by omega) rfl rfl (Nat.le_of_ble_eq_true rfl) (c_mul (by omega) hC (t := 39) rfl (a := 38) rfl hb (fun z6 hz6 h5 hC5 hS5 e5 => ?_) (fun hz6 h5 hC5 hS5 => ?_))
          · rw [eb] at hz6
            have hC := hC5
            have hS35 := (hS34.tr hS5).sub (T := dS) (by simp)
            have ea5 : iv h5 a = iv h a := hS35.iv han
            have e38 : iv h5 38 = iv h4 38 := hS5.iv (by decide)
            refine x_if_eq_f (tgt := 119) dX0_split_92 rfl rfl nb1 ?_
            refine x_aload_n (i := 0) dX0_split_95 rfl rfl rfl ?_
            refine x_getC dX0_split_96 rfl fX0_43 hC rfl F_37_1 ?_
            refine x_aload_n (i := 0) dX0_split_99 rfl rfl rfl ?_
            refine x_getC dX0_split_100 rfl fX0_15 hC rfl F_37_3 ?_
            refine x_aload_n (i := 1) dX0_split_103 rfl rfl rfl ?_
            refine x_aload_n (i := 0) dX0_split_104 rfl rfl rfl ?_
            refine x_getC dX0_split_105 rfl fX0_15 hC rfl F_37_3 ?_
            refine x_iconst dX0_split_108 rfl iC_m1 ?_
            refine x_callV0 (ci := 7) (b := 10) (As := [_, _, _, _]) (d2 := d - 1) dX0_split_109 rfl kX0_79 okX7_add (hC.o rfl) (fun q hq => by cases hq; rfl) (by omega) rfl rfl (Nat.le_of_ble_eq_true rfl) (c_sum (by omega) hC (t := 39) rfl ha (b := 39) rfl (fun z7 hz7 h6 hC6 hS6 e6 => ?_) (fun hz7 h6 hC6 hS6 => ?_))
            · rw [ea5, e5] at hz7
              refine x_if_eq_f (tgt := 119) dX0_split_112 rfl rfl nb1 ?_
              refine x_iconst dX0_split_115 rfl iC_1 ?_
              refine x_goto (tgt := 120) dX0_split_116 rfl ?_
              refine x_ireturn dX0_split_120 rfl rfl ?_
              refine Kt (iv h4 38) z7 (by rw [hz6]; show (oAdd _ _ _).map _ = _; rw [hz7]; rfl) h6 hC6 ((hS35.tr hS6).sub (by simp)) ?_ e6
              rw [hS6.iv (by decide), e38]
            · rw [ea5, e5] at hz7
              refine x_if_eq_t (tgt := 119) dX0_split_112 rfl nI_0 ?_
              refine x_iconst dX0_split_119 rfl iC_0 ?_
              refine x_ireturn dX0_split_120 rfl rfl ?_
              exact Kf (by rw [hz6]; show (oAdd _ _ _).map _ = _; rw [hz7]; rfl) h6 hC6 ((hS35.tr hS6).sub (by simp))
          · rw [eb] at hz6
            refine x_if_eq_t (tgt := 119) dX0_split_92 rfl nI_0 ?_
            refine x_iconst dX0_split_119 rfl iC_0 ?_
            refine x_ireturn dX0_split_120 rfl rfl ?_
            exact Kf (by rw [hz6]; rfl) h5 hC5 ((hS34.tr hS5).sub (by simp))
        · refine x_if_eq_t (tgt := 119) dX0_split_73 rfl nI_0 ?_
          refine x_iconst dX0_split_119 rfl iC_0 ?_
          refine x_ireturn dX0_split_120 rfl rfl ?_
          exact Kf (if_pos (Or.inr (Or.inr (Or.inr z5)))) h4 hC4 ((hS3.tr hS4).sub (by simp))
      · rw [hs_hs]
        refine x_if_eq_t (tgt := 119) dX0_split_50 rfl nI_0 ?_
        refine x_iconst dX0_split_119 rfl iC_0 ?_
        refine x_ireturn dX0_split_120 rfl rfl ?_
        exact Kf (if_pos (Or.inr (Or.inr (Or.inl z)))) _ (hC1.setJ v43') (xSm.hs2.sub (by simp))
    · refine x_iconst dX0_split_21 rfl iC_0 ?_
      refine x_ireturn dX0_split_22 rfl rfl ?_
      exact Kf (if_pos (Or.inr (Or.inl (fun e => c18 ((lg_cmp_eq _ _).mpr e))))) h hC sub0
end DIV

