/-! EightPartsModel: made, madeAt, the calls -/
section MOD
variable {G : xG} {l : Launch} {d : Nat} {h : xH} {Q : Option Value → xH → Prop} {S : St}
theorem n_made {a n : Int32} (hd : 12 ≤ d) (hR : RM h S) (K : ∀ r S2 h2, sp_made S a n = (r, S2) → RM h2 S2 → cF h h2 → Q (some (.int r)) h2) : xCt G l mX12_made d [.ref 110, .int a, .int n] h 0 0 Q := by
  have hC := hR.1
  have ho := hR.2.1.1
  have n240 := ln_room S.2.1 ho 1 (by decide)
  have r1 : zRoom 1 = 240 := rfl
  have zl := (zLst_n ho (show 1 < 4 by decide)).1
  refine xCt_of (by decide) (Nat.le_of_ble_eq_true rfl) ?_
  refine x_iload_n (i := 1) dX12_made_0 rfl rfl rfl ?_
  refine x_i2l dX12_made_1 rfl ?_
  refine x_lconst dX12_made_2 rfl lC_1 ?_
  refine x_ldc2 dX12_made_3 rfl cX12_378 ?_
  refine x_callS0 (As := [_, _, _]) (d2 := d - 1) dX12_made_6 rfl kX12_95 okX12_in (by omega) rfl rfl (Nat.le_of_ble_eq_true rfl) (m_in (lo := 1) (hi := 255) (by decide) (by decide) (by decide) (fun z => ?_) (fun m m1 m2 em qm => ?_))
  · refine x_if_eq_t (tgt := 24) dX12_made_9 rfl nI_0 ?_
    refine x_iconst dX12_made_24 rfl iC_m1 ?_
    refine x_ireturn dX12_made_25 rfl rfl ?_
    exact K _ _ _ (by unfold sp_made; rw [z]) hR (cF.rf hC)
  subst em
  refine x_if_eq_f (tgt := 24) dX12_made_9 rfl rfl nb1 ?_
  refine x_iload_n (i := 2) dX12_made_12 rfl rfl rfl ?_
  refine x_i2l dX12_made_13 rfl ?_
  refine x_lconst dX12_made_14 rfl lC_0 ?_
  refine x_ldc2 dX12_made_15 rfl cX12_141 ?_
  refine x_callS0 (As := [_, _, _]) (d2 := d - 1) dX12_made_18 rfl kX12_95 okX12_in (by omega) rfl rfl (Nat.le_of_ble_eq_true rfl) (m_in (lo := 0) (hi := 4) (by decide) (by decide) (by decide) (fun z => ?_) (fun w _ w2 ew qw => ?_))
  · refine x_if_ne_f (tgt := 26) dX12_made_21 rfl rfl nI_0 ?_
    refine x_iconst dX12_made_24 rfl iC_m1 ?_
    refine x_ireturn dX12_made_25 rfl rfl ?_
    exact K _ _ _ (by unfold sp_made; rw [qm]; simp only [z]) hR (cF.rf hC)
  subst ew
  refine x_if_ne_t (tgt := 26) dX12_made_21 rfl nb1 ?_
  refine x_aload_n (i := 0) dX12_made_26 rfl rfl rfl ?_
  refine x_iload_n (i := 1) dX12_made_27 rfl rfl rfl ?_
  refine x_callV0 (ci := 12) (b := 110) (As := [_]) (d2 := d - 1) dX12_made_28 rfl kX12_380 okX12_laysMade (hC.o rfl) (fun q hq => by cases hq; rfl) (by omega) rfl rfl (Nat.le_of_ble_eq_true rfl) (m_laysMade (by omega) hR ⟨m1, m2⟩ (fun md h2 k2 u2 => ?_) (fun md h2 r2 c2 => ?_))
  rotate_left
  · refine x_if_ne_f (tgt := 37) dX12_made_31 rfl rfl nI_0 ?_
    refine x_bipush dX12_made_34 rfl bC_m2 ?_
    refine x_ireturn dX12_made_36 rfl rfl ?_
    exact K _ _ _ (by unfold sp_made; rw [qm]; simp only [qw]; exact if_neg md) r2 c2
  have en : sp_made S (nI m) (nI w) = (mdA S.2.1 (mdS S (nI m)) w, S) := by unfold sp_made; rw [qm]; simp only [qw]; exact if_pos md
  obtain ⟨srt, v1, v2, v3⟩ := uK_srt ho u2
  obtain ⟨f35, hg, -⟩ := u2
  generalize mdS S (nI m) = s at *
  have hC := k2.1.1
  have sl := gS_le hg
  have hsr : ∀ j, j < s.1 → iv h2 132 j = nI (srt j) ∧ srt j < lnN S.2.1 1 := fun j hj => ⟨(v1 j hj).1, (v1 j hj).2.1⟩
  have ec : cN (fun i => ∀ j, j < s.1 → T0 S.2.1 (srt i) (srt j) = T0 S.2.1 (srt j) (srt i)) s.1 = cN (fun i => ∀ j, j < s.1 → T0 S.2.1 (s.2 i) (s.2 j) = T0 S.2.1 (s.2 j) (s.2 i)) s.1 := by
    rw [v3 (fun u => ∀ j, j < s.1 → T0 S.2.1 u (srt j) = T0 S.2.1 (srt j) u)]
    refine cN_cong (fun i _ => ?_)
    constructor
    · intro z j hj
      obtain ⟨j2, a1, a2⟩ := v2 (s.2 j) ⟨j, hj, rfl⟩
      rw [← a2]
      exact z j2 a1
    · intro z j hj
      obtain ⟨j2, a1, a2⟩ := (v1 j hj).2.2.1
      rw [← a2]
      exact z j2 a1
  have cl := cN_le (fun i => ∀ j, j < s.1 → T0 S.2.1 (s.2 i) (s.2 j) = T0 S.2.1 (s.2 j) (s.2 i)) s.1
  refine x_if_ne_t (tgt := 37) dX12_made_31 rfl nb1 ?_
  refine x_iload_n (i := 2) dX12_made_37 rfl rfl rfl ?_
  rcases (show w = 0 ∨ w = 1 ∨ w = 2 ∨ w = 3 ∨ w = 4 by omega) with rfl | rfl | rfl | rfl | rfl
  · refine x_tabIn (tgt := 68) dX12_made_38 (by decide) (by decide) (off := 30) rfl rfl ?_
    refine x_aload_n (i := 0) dX12_made_68 rfl rfl rfl ?_
    refine x_getM (a := 110) dX12_made_69 rfl fX12_367 hC rfl f35 ?_
    refine x_ireturn dX12_made_72 rfl rfl ?_
    exact K _ _ _ en k2.1 k2.2.1
  · refine x_tabIn (tgt := 73) dX12_made_38 (by decide) (by decide) (off := 35) rfl rfl ?_
    have ai := as_iff ho hg (fun j hj => (v1 j hj).2.2.1) v2
    refine x_aload_n (i := 0) dX12_made_73 rfl rfl rfl ?_
    refine x_callV0 (ci := 12) (b := 110) (As := []) (d2 := d - 1) dX12_made_74 rfl kX12_383 okX12_areAssociative (hC.o rfl) (fun q hq => by cases hq; rfl) (by omega) rfl rfl (Nat.le_of_ble_eq_true rfl) (m_areAssoc (c := s.1) (srt := srt) (by omega) ho hC k2.2.2 f35 (by omega) hsr (fun z => ?_) (fun z => ?_))
    · refine x_if_eq_f (tgt := 84) dX12_made_77 rfl rfl nb1 ?_
      refine x_iconst dX12_made_80 rfl iC_1 ?_
      refine x_goto (tgt := 85) dX12_made_81 rfl ?_
      refine x_ireturn dX12_made_85 rfl rfl ?_
      refine K _ _ _ (en.trans ?_) k2.1 k2.2.1
      show (bI _, S) = _
      rw [bI_t (ai.mp z)]
      rfl
    · refine x_if_eq_t (tgt := 84) dX12_made_77 rfl nI_0 ?_
      refine x_iconst dX12_made_84 rfl iC_0 ?_
      refine x_ireturn dX12_made_85 rfl rfl ?_
      refine K _ _ _ (en.trans ?_) k2.1 k2.2.1
      show (bI _, S) = _
      rw [bI_f (fun q => z (ai.mpr q))]
      rfl
  · refine x_tabIn (tgt := 86) dX12_made_38 (by decide) (by decide) (off := 48) rfl rfl ?_
    refine x_aload_n (i := 0) dX12_made_86 rfl rfl rfl ?_
    refine x_callV0 (ci := 12) (b := 110) (As := []) (d2 := d - 1) dX12_made_87 rfl kX12_386 okX12_center (hC.o rfl) (fun q hq => by cases hq; rfl) (by omega) rfl rfl (Nat.le_of_ble_eq_true rfl) (m_center (c := s.1) (srt := srt) (by omega) ho hC k2.2.2 f35 (by omega) hsr ?_)
    rw [ec]
    refine x_aload_n (i := 0) dX12_made_90 rfl rfl rfl ?_
    refine x_getM (a := 110) dX12_made_91 rfl fX12_367 hC rfl f35 ?_
    refine x_jc_ne (tgt := 101) dX12_made_94 rfl rfl (by omega) (by omega) (fun c94 => ?_) (fun c94 => ?_)
    · refine x_iconst dX12_made_101 rfl iC_0 ?_
      refine x_ireturn dX12_made_102 rfl rfl ?_
      refine K _ _ _ (en.trans ?_) k2.1 k2.2.1
      show (bI _, S) = _
      rw [bI_f c94]
      rfl
    · refine x_iconst dX12_made_97 rfl iC_1 ?_
      refine x_goto (tgt := 102) dX12_made_98 rfl ?_
      refine x_ireturn dX12_made_102 rfl rfl ?_
      refine K _ _ _ (en.trans ?_) k2.1 k2.2.1
      show (bI _, S) = _
      rw [bI_t c94]
      rfl
  · refine x_tabIn (tgt := 103) dX12_made_38 (by decide) (by decide) (off := 65) rfl rfl ?_
    refine x_aload_n (i := 0) dX12_made_103 rfl rfl rfl ?_
    refine x_callV0 (ci := 12) (b := 110) (As := []) (d2 := d - 1) dX12_made_104 rfl kX12_386 okX12_center (hC.o rfl) (fun q hq => by cases hq; rfl) (by omega) rfl rfl (Nat.le_of_ble_eq_true rfl) (m_center (c := s.1) (srt := srt) (by omega) ho hC k2.2.2 f35 (by omega) hsr ?_)
    rw [ec]
    refine x_ireturn dX12_made_107 rfl rfl ?_
    exact K _ _ _ en k2.1 k2.2.1
  · refine x_tabOut (tgt := 108) dX12_made_38 (by decide) rfl ?_
    refine x_aload_n (i := 0) dX12_made_108 rfl rfl rfl ?_
    refine x_callV0 (ci := 12) (b := 110) (As := []) (d2 := d - 1) dX12_made_109 rfl kX12_389 okX12_squares (hC.o rfl) (fun q hq => by cases hq; rfl) (by omega) rfl rfl (Nat.le_of_ble_eq_true rfl) (m_squares (c := s.1) (srt := srt) (by omega) k2 f35 (by omega) hsr (fun h3 r3 c3 => ?_))
    refine x_ireturn dX12_made_112 rfl rfl ?_
    refine K _ _ _ (en.trans ?_) r3 c3
    show (nI _, S) = _
    rw [zl, v3 (fun u => T0 S.2.1 u u = lnN S.2.1 1 - 1)]
theorem n_madeAt {a k : Int32} (hd : 12 ≤ d) (hR : RM h S) (K : ∀ r S2 h2, sp_madeAt S a k = (r, S2) → RM h2 S2 → cF h h2 → Q (some (.int r)) h2) : xCt G l mX12_madeAt d [.ref 110, .int a, .int k] h 0 0 Q := by
  have hC := hR.1
  have ho := hR.2.1.1
  have n240 := ln_room S.2.1 ho 1 (by decide)
  have r1 : zRoom 1 = 240 := rfl
  refine xCt_of (by decide) (Nat.le_of_ble_eq_true rfl) ?_
  refine x_iload_n (i := 1) dX12_madeAt_0 rfl rfl rfl ?_
  refine x_i2l dX12_madeAt_1 rfl ?_
  refine x_lconst dX12_madeAt_2 rfl lC_1 ?_
  refine x_ldc2 dX12_madeAt_3 rfl cX12_378 ?_
  refine x_callS0 (As := [_, _, _]) (d2 := d - 1) dX12_madeAt_6 rfl kX12_95 okX12_in (by omega) rfl rfl (Nat.le_of_ble_eq_true rfl) (m_in (lo := 1) (hi := 255) (by decide) (by decide) (by decide) (fun z => ?_) (fun m m1 m2 em qm => ?_))
  · refine x_if_eq_t (tgt := 16) dX12_madeAt_9 rfl nI_0 ?_
    refine x_iconst dX12_madeAt_16 rfl iC_m1 ?_
    refine x_ireturn dX12_madeAt_17 rfl rfl ?_
    exact K _ _ _ (by unfold sp_madeAt; rw [z]) hR (cF.rf hC)
  subst em
  refine x_if_eq_f (tgt := 16) dX12_madeAt_9 rfl rfl nb1 ?_
  refine x_iload_n (i := 2) dX12_madeAt_12 rfl rfl rfl ?_
  refine x_if_ge (tgt := 18) dX12_madeAt_13 rfl rfl (fun c13 => ?_) (fun c13 => ?_)
  rotate_left
  · refine x_iconst dX12_madeAt_16 rfl iC_m1 ?_
    refine x_ireturn dX12_madeAt_17 rfl rfl ?_
    exact K _ _ _ (by unfold sp_madeAt; rw [qm]; exact if_neg c13) hR (cF.rf hC)
  have kp : (0 : Int32) ≤ k := c13
  refine x_aload_n (i := 0) dX12_madeAt_18 rfl rfl rfl ?_
  refine x_iload_n (i := 1) dX12_madeAt_19 rfl rfl rfl ?_
  refine x_callV0 (ci := 12) (b := 110) (As := [_]) (d2 := d - 1) dX12_madeAt_20 rfl kX12_380 okX12_laysMade (hC.o rfl) (fun q hq => by cases hq; rfl) (by omega) rfl rfl (Nat.le_of_ble_eq_true rfl) (m_laysMade (by omega) hR ⟨m1, m2⟩ (fun md h2 k2 u2 => ?_) (fun md h2 r2 c2 => ?_))
  rotate_left
  · refine x_if_ne_f (tgt := 29) dX12_madeAt_23 rfl rfl nI_0 ?_
    refine x_bipush dX12_madeAt_26 rfl bC_m2 ?_
    refine x_ireturn dX12_madeAt_28 rfl rfl ?_
    refine K _ _ _ ?_ r2 c2
    unfold sp_madeAt
    rw [qm]
    show (if (0 : Int32) ≤ k then _ else _) = _
    rw [if_pos kp]
    exact if_neg md
  have en : sp_madeAt S (nI m) k = (zKt1 (mIn (mdS S (nI m))) k 240 0, S) := by
    unfold sp_madeAt
    rw [qm]
    show (if (0 : Int32) ≤ k then _ else _) = _
    rw [if_pos kp]
    exact if_pos md
  obtain ⟨srt, v1, v2, v3⟩ := uK_srt ho u2
  obtain ⟨f35, hg, -⟩ := u2
  generalize mdS S (nI m) = s at *
  have hC := k2.1.1
  have sl := gS_le hg
  have e240 := gS_n (gS_up hg (show lnN S.2.1 1 ≤ 240 by omega))
  have vk := hC.v (a := 132) rfl
  have kr := fb_rng k
  have kp2 := Int32.le_iff_toInt_le.mp kp
  have e0 : (0 : Int32).toInt = 0 := rfl
  obtain ⟨kn, hkn, ek⟩ : ∃ kn, kn < 2147483648 ∧ k = nI kn := ⟨k.toInt.toNat, by omega, by
    apply Int32.toInt_inj.mp
    rw [nI_toInt (by omega)]
    omega⟩
  subst ek
  refine x_if_ne_t (tgt := 29) dX12_madeAt_23 rfl nb1 ?_
  refine x_iload_n (i := 2) dX12_madeAt_29 rfl rfl rfl ?_
  refine x_aload_n (i := 0) dX12_madeAt_30 rfl rfl rfl ?_
  refine x_getM (a := 110) dX12_madeAt_31 rfl fX12_367 hC rfl f35 ?_
  refine x_jc_ge (tgt := 46) dX12_madeAt_34 rfl rfl (by omega) (by omega) (fun c34 => ?_) (fun c34 => ?_)
  · refine x_iconst dX12_madeAt_46 rfl iC_m1 ?_
    refine x_ireturn dX12_madeAt_47 rfl rfl ?_
    refine K _ _ _ (en.trans ?_) k2.1 k2.2.1
    rw [zKt1_no 240 0 (fun u _ hu mu z => ?_)]
    have := cN_lt (show u < 240 by omega) mu
    have e2 := (nI_eq (by omega) (by omega)).mp z
    omega
  · obtain ⟨b1, b2, b3, b4⟩ := v1 kn c34
    refine x_aload_n (i := 0) dX12_madeAt_37 rfl rfl rfl ?_
    refine x_getC dX12_madeAt_38 rfl fX12_87 hC rfl F_110_34 ?_
    refine x_iload_n (i := 2) dX12_madeAt_41 rfl rfl rfl ?_
    refine x_iald dX12_madeAt_42 rfl vk rfl (by omega) (by decide) ?_
    rw [b1]
    refine x_goto (tgt := 47) dX12_madeAt_43 rfl ?_
    refine x_ireturn dX12_madeAt_47 rfl rfl ?_
    refine K _ _ _ (en.trans ?_) k2.1 k2.2.1
    rw [zKt1_at b3 (by rw [b4]) (by omega) 240 0 (Nat.zero_le _) (by omega)]
end MOD

