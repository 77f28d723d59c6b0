/-! EightPartsModel: count, alikeMany -/
section MOD
variable {G : xG} {l : Launch} {d : Nat} {h : xH} {Q : Option Value → xH → Prop} {S : St}
theorem n_count {n : Int32} (hd : 10 ≤ d) (hR : RM h S) (K : ∀ r S2 h2, sp_count S n = (r, S2) → RM h2 S2 → cF h h2 → Q (some (.int r)) h2) : xCt G l mX12_count d [.ref 110, .int n] h 0 0 Q := by
  have hC := hR.1
  have ho := hR.2.1.2
  refine xCt_of (by decide) (Nat.le_of_ble_eq_true rfl) ?_
  refine x_iload_n (i := 1) dX12_count_0 rfl rfl rfl ?_
  cases qm : eB 0 4 n with
  | none =>
    refine x_tabOut (tgt := 62) dX12_count_1 ?_ rfl ?_
    · unfold eB at qm
      split at qm
      · cases qm
      · omega
    refine x_iconst dX12_count_62 rfl iC_m1 ?_
    refine x_ireturn dX12_count_63 rfl rfl ?_
    exact K _ _ _ (by unfold sp_count; rw [qm]) hR (cF.rf hC)
  | some m =>
    obtain ⟨-, m2, em⟩ := eB_some qm (by decide)
    subst em
    unfold sp_count at K
    rw [qm] at K
    rcases (show m = 0 ∨ m = 1 ∨ m = 2 ∨ m = 3 ∨ m = 4 by omega) with rfl | rfl | rfl | rfl | rfl
    · refine x_tabIn (tgt := 36) dX12_count_1 (by decide) (by decide) (off := 35) rfl rfl ?_
      refine x_aload_n (i := 0) dX12_count_36 rfl rfl rfl ?_
      refine x_getM (a := 110) dX12_count_37 rfl fX12_24 hC rfl ho ?_
      refine x_ireturn dX12_count_40 rfl rfl ?_
      exact K _ _ _ rfl hR (cF.rf hC)
    · refine x_tabIn (tgt := 41) dX12_count_1 (by decide) (by decide) (off := 40) rfl rfl ?_
      refine x_aload_n (i := 0) dX12_count_41 rfl rfl rfl ?_
      refine x_iconst dX12_count_42 rfl iC_1 ?_
      refine x_callV0 (ci := 12) (b := 110) (As := [_]) (d2 := d - 1) dX12_count_43 rfl kX12_158 okX12_listSize (hC.o rfl) (fun q hq => by cases hq; rfl) (by omega) rfl rfl (Nat.le_of_ble_eq_true rfl) (m_listSize (norm := 1) (by omega) hR (by decide) (fun h2 r2 c2 s2 e6 e4 => ?_))
      refine x_ireturn dX12_count_46 rfl rfl ?_
      exact K _ _ _ rfl r2 c2
    · refine x_tabIn (tgt := 47) dX12_count_1 (by decide) (by decide) (off := 46) rfl rfl ?_
      refine x_aload_n (i := 0) dX12_count_47 rfl rfl rfl ?_
      refine x_callV0 (ci := 12) (b := 110) (As := []) (d2 := d - 1) dX12_count_48 rfl kX12_398 okX12_wholes (hC.o rfl) (fun q hq => by cases hq; rfl) (by omega) rfl rfl (Nat.le_of_ble_eq_true rfl) (m_wholes (hR := hR) (by omega) ?_)
      refine x_ireturn dX12_count_51 rfl rfl ?_
      exact K _ _ _ rfl hR (cF.rf hC)
    · refine x_tabIn (tgt := 52) dX12_count_1 (by decide) (by decide) (off := 51) rfl rfl ?_
      have hk := hR.2.2.2.2.2.2.2.2.1
      refine x_aload_n (i := 0) dX12_count_52 rfl rfl rfl ?_
      refine x_getM (a := 110) dX12_count_53 rfl fX12_395 hC rfl hk ?_
      refine x_ireturn dX12_count_56 rfl rfl ?_
      exact K _ _ _ rfl hR (cF.rf hC)
    · refine x_tabIn (tgt := 57) dX12_count_1 (by decide) (by decide) (off := 56) rfl rfl ?_
      refine x_aload_n (i := 0) dX12_count_57 rfl rfl rfl ?_
      refine x_callV0 (ci := 12) (b := 110) (As := []) (d2 := d - 1) dX12_count_58 rfl kX12_401 okX12_noughts (hC.o rfl) (fun q hq => by cases hq; rfl) (by omega) rfl rfl (Nat.le_of_ble_eq_true rfl) (m_noughts (hR := hR) (by omega) ?_)
      refine x_ireturn dX12_count_61 rfl rfl ?_
      exact K _ _ _ rfl hR (cF.rf hC)
theorem n_alikeMany {a n m : Int32} (hd : 10 ≤ d) (hR : RM h S) (K : ∀ r S2 h2, sp_alikeMany S a n m = (r, S2) → RM h2 S2 → cF h h2 → Q (some (.int r)) h2) : xCt G l mX12_alikeMany d [.ref 110, .int a, .int n, .int m] h 0 0 Q := by
  have hC := hR.1
  refine xCt_of (by decide) (Nat.le_of_ble_eq_true rfl) ?_
  refine x_iload_n (i := 1) dX12_alikeMany_0 rfl rfl rfl ?_
  refine x_callS0 (As := [_]) (d2 := d - 1) dX12_alikeMany_1 rfl kX12_165 okX12_isSlot (by omega) rfl rfl (Nat.le_of_ble_eq_true rfl) (m_isSlot (by omega) (fun z => ?_) (fun x hx ex qx => ?_))
  · refine x_if_eq_t (tgt := 26) dX12_alikeMany_4 rfl nI_0 ?_
    refine x_iconst dX12_alikeMany_26 rfl iC_m1 ?_
    refine x_ireturn dX12_alikeMany_27 rfl rfl ?_
    exact K _ _ _ (by simp only [sp_alikeMany, z]) hR (cF.rf hC)
  subst ex
  refine x_if_eq_f (tgt := 26) dX12_alikeMany_4 rfl rfl nb1 ?_
  refine x_iload_n (i := 2) dX12_alikeMany_7 rfl rfl rfl ?_
  refine x_callS0 (As := [_]) (d2 := d - 1) dX12_alikeMany_8 rfl kX12_175 okX12_isNorm (by omega) rfl rfl (Nat.le_of_ble_eq_true rfl) (m_isNorm (by omega) (fun z => ?_) (fun norm hn en qn => ?_))
  · refine x_if_eq_t (tgt := 26) dX12_alikeMany_11 rfl nI_0 ?_
    refine x_iconst dX12_alikeMany_26 rfl iC_m1 ?_
    refine x_ireturn dX12_alikeMany_27 rfl rfl ?_
    exact K _ _ _ (by simp only [sp_alikeMany, qx, z]) hR (cF.rf hC)
  subst en
  refine x_if_eq_f (tgt := 26) dX12_alikeMany_11 rfl rfl nb1 ?_
  refine x_iload_n (i := 3) dX12_alikeMany_14 rfl rfl rfl ?_
  refine x_i2l dX12_alikeMany_15 rfl ?_
  refine x_lconst dX12_alikeMany_16 rfl lC_1 ?_
  refine x_ldc2 dX12_alikeMany_17 rfl cX12_205 ?_
  refine x_callS0 (As := [_, _, _]) (d2 := d - 1) dX12_alikeMany_20 rfl kX12_95 okX12_in (by omega) rfl rfl (Nat.le_of_ble_eq_true rfl) (m_in (lo := 1) (hi := 1000) (by decide) (by decide) (by decide) (fun z => ?_) (fun w w1 w2 ew qw => ?_))
  · refine x_if_ne_f (tgt := 28) dX12_alikeMany_23 rfl rfl nI_0 ?_
    refine x_iconst dX12_alikeMany_26 rfl iC_m1 ?_
    refine x_ireturn dX12_alikeMany_27 rfl rfl ?_
    exact K _ _ _ (by simp only [sp_alikeMany, qx, qn, z]) hR (cF.rf hC)
  subst ew
  obtain ⟨z1, z2, z3⟩ := zLst_1 hR.2.1.1 hn
  refine x_if_ne_t (tgt := 28) dX12_alikeMany_23 rfl nb1 ?_
  refine x_aload_n (i := 0) dX12_alikeMany_28 rfl rfl rfl ?_
  refine x_iload_n (i := 2) dX12_alikeMany_29 rfl rfl rfl ?_
  refine x_callV0 (ci := 12) (b := 110) (As := [_]) (d2 := d - 1) dX12_alikeMany_30 rfl kX12_158 okX12_listSize (hC.o rfl) (fun q hq => by cases hq; rfl) (by omega) rfl rfl (Nat.le_of_ble_eq_true rfl) (m_listSize (by omega) hR hn (fun h2 r2 c2 s2 e6 e4 => ?_))
  have hC := r2.1
  obtain ⟨p, hp⟩ : ∃ p : Nat → Prop, p = fun k => zWB S.2.1 (zDif (S.1 x) (zEl S.2.1 norm k)) (nI w).toInt64 := ⟨_, rfl⟩
  have en : sp_alikeMany S (nI x) (nI norm) (nI w) = (nI (cN p (zLst S.2.1 norm).1), S) := by simp only [sp_alikeMany, qx, qn, qw, hp]
  generalize hN : (zLst S.2.1 norm).1 = N at *
  refine x_istore dX12_alikeMany_33 rfl (by decide) ?_
  refine x_iconst dX12_alikeMany_35 rfl iC_0 ?_
  refine x_istore dX12_alikeMany_36 rfl (by decide) ?_
  refine x_iconst dX12_alikeMany_38 rfl iC_0 ?_
  refine x_istore dX12_alikeMany_39 rfl (by decide) ?_
  have key := xloop (P := fun i => ∀ h1, mV [9] [113] h2 h1 → xWP G l mX12_alikeMany d (zM G Q) 0 0 41 (xls [(0, .ref 110), (1, .int (nI x)), (2, .int (nI norm)), (3, .int (nI w)), (4, .int (nI N)), (5, .int (nI (cN p i))), (6, .int (nI i))]) [] h1) N (by
    intro i hi ih h1 m1
    have hC := m1.1
    refine x_iload dX12_alikeMany_41 rfl rfl ?_
    refine x_iload dX12_alikeMany_43 rfl rfl ?_
    refine x_jc_ge (tgt := 77) dX12_alikeMany_45 rfl rfl (by omega) (by omega) (fun c45 => ?_) (fun c45 => ?_)
    · obtain rfl : i = N := by omega
      refine x_iload dX12_alikeMany_77 rfl rfl ?_
      refine x_ireturn dX12_alikeMany_79 rfl rfl ?_
      exact K _ _ _ en (r2.sc m1 (by simp) (by simp [mN])) (c2.tr (m1.c (by simp)))
    · have hi2 : i < N := by omega
      have i4 : iv h1 114 = iv h2 114 := m1.2.1.iv (by decide)
      refine x_aload_n (i := 0) dX12_alikeMany_48 rfl rfl rfl ?_
      refine x_bipush dX12_alikeMany_49 rfl bC_9 ?_
      refine x_iload_n (i := 2) dX12_alikeMany_51 rfl rfl rfl ?_
      refine x_iload dX12_alikeMany_52 rfl rfl ?_
      refine x_callV0 (ci := 12) (b := 110) (As := [_, _, _]) (d2 := d - 1) dX12_alikeMany_54 rfl kX12_178 okX12_brings (hC.o rfl) (fun q hq => by cases hq; rfl) (by omega) rfl rfl (Nat.le_of_ble_eq_true rfl) (m_brings (t := 9) (by omega) hC (by decide) hn (by omega) (zBd_up _) (fun q hq => by rw [i4]; exact e4 i hi2 q hq) (fun h3 k3 e3 => ?_))
      have hC := k3.1
      have m3 := (m1.tr k3).sub (P2 := [9]) (C2 := [113]) (by simp) (by simp)
      have r3 : RM h3 S := r2.sc m3 (by simp) (by simp [mN])
      have ex : pl h3 x = S.1 x := r3.p hx
      have ee : zWB S.2.1 (zDif (pl h3 x) (pl h3 9)) (nI w).toInt64 ↔ p i := by
        rw [hp, ex, e3]
        refine zWB_e (fun j hj => ?_)
        unfold zDif
        rw [c8_lt hj]
        rfl
      refine x_aload_n (i := 0) dX12_alikeMany_57 rfl rfl rfl ?_
      refine x_iload_n (i := 1) dX12_alikeMany_58 rfl rfl rfl ?_
      refine x_bipush dX12_alikeMany_59 rfl bC_9 ?_
      refine x_iload_n (i := 3) dX12_alikeMany_61 rfl rfl rfl ?_
      refine x_callV0 (ci := 12) (b := 110) (As := [_, _, _]) (d2 := d - 1) dX12_alikeMany_62 rfl kX12_355 okX12_areAlike (hC.o rfl) (fun q hq => by cases hq; rfl) (by omega) rfl rfl (Nat.le_of_ble_eq_true rfl) (m_areAlike (y := 9) (by omega) hC r3.2.1.2 r3.2.1.1 r3.b (by omega) (by decide) ⟨w1, w2⟩ (fun z h4 k4 => ?_) (fun z h4 k4 => ?_))
      · have hC := k4.1
        refine x_if_eq_f (tgt := 71) dX12_alikeMany_65 rfl rfl nb1 ?_
        refine x_iinc dX12_alikeMany_68 rfl rfl (inc1 _) ?_
        refine x_iinc dX12_alikeMany_71 rfl rfl (inc1 _) ?_
        refine x_goto (tgt := 41) dX12_alikeMany_74 rfl ?_
        exact x_to (ih hi2 h4 ((m3.tr k4).sub (by simp) (by simp))) ⟨rfl, rfl, rfl, rfl, rfl, by rw [cN_t (n := i) (ee.mp z)]; rfl, rfl, trivial⟩
      · have hC := k4.1
        refine x_if_eq_t (tgt := 71) dX12_alikeMany_65 rfl nI_0 ?_
        refine x_iinc dX12_alikeMany_71 rfl rfl (inc1 _) ?_
        refine x_goto (tgt := 41) dX12_alikeMany_74 rfl ?_
        exact x_to (ih hi2 h4 ((m3.tr k4).sub (by simp) (by simp))) ⟨rfl, rfl, rfl, rfl, rfl, by rw [cN_f (n := i) (fun y => z (ee.mpr y))]; rfl, rfl, trivial⟩) 0 (Nat.zero_le _) h2 ((mV.rf hC).sub (P := []) (C := []) (by simp) (by simp))
  exact x_to key ⟨rfl, rfl, rfl, rfl, rfl, rfl, rfl, trivial⟩
end MOD

