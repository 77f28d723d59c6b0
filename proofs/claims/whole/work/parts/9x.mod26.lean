/-! EightPartsModel: commuting -/
section MOD
variable {G : xG} {l : Launch} {d : Nat} {h : xH} {Q : Option Value → xH → Prop} {S : St}
theorem m_doCommute {x y : Nat} {fx fy : Nat → Int32} (hd : 3 ≤ d) (hC : Cs h) (hB : mB h) (hx : x < 155) (hy : y < 155) (x1 : x ≠ 10) (y1 : y ≠ 10) (ex : pl h x = c8 fx) (ey : pl h y = c8 fy)
    (Kt : zCom fx fy → ∀ h2, mV [10, 11] [113] h h2 → Q (some (.int (nI 1))) h2) (Kf : ¬ zCom fx fy → ∀ h2, mV [10, 11] [113] h h2 → Q (some (.int (nI 0))) h2) : xCt G l mX12_doCommute d [.ref 110, .int (nI x), .int (nI y)] h 0 0 Q := by
  refine xCt_of (by decide) (Nat.le_of_ble_eq_true rfl) ?_
  refine x_aload_n (i := 0) dX12_doCommute_0 rfl rfl rfl ?_
  refine x_bipush dX12_doCommute_1 rfl bC_10 ?_
  refine x_iload_n (i := 1) dX12_doCommute_3 rfl rfl rfl ?_
  refine x_iload_n (i := 2) dX12_doCommute_4 rfl rfl rfl ?_
  refine x_callV0 (ci := 12) (b := 110) (As := [_, _, _]) (d2 := d - 1) dX12_doCommute_5 rfl kX12_197 okX12_multiplies (hC.o rfl) (fun q hq => by cases hq; rfl) (by omega) rfl rfl (Nat.le_of_ble_eq_true rfl) (m_mulE (t := 10) (by omega) hC hB (by decide) hx hy ex ey (fun f g1 h1 k1 e1 => ?_) (fun g1 h1 k1 => ?_))
  rotate_left
  · refine x_if_eq_t (tgt := 37) dX12_doCommute_8 rfl nI_0 ?_
    refine x_iconst dX12_doCommute_37 rfl iC_0 ?_
    refine x_ireturn dX12_doCommute_38 rfl rfl ?_
    exact Kf (fun ⟨f, g, q1, q2, q3⟩ => by rw [g1] at q1; cases q1) h1 (k1.sub (by simp) (by simp))
  have hC := k1.1
  refine x_if_eq_f (tgt := 37) dX12_doCommute_8 rfl rfl nb1 ?_
  refine x_aload_n (i := 0) dX12_doCommute_11 rfl rfl rfl ?_
  refine x_bipush dX12_doCommute_12 rfl bC_11 ?_
  refine x_iload_n (i := 2) dX12_doCommute_14 rfl rfl rfl ?_
  refine x_iload_n (i := 1) dX12_doCommute_15 rfl rfl rfl ?_
  refine x_callV0 (ci := 12) (b := 110) (As := [_, _, _]) (d2 := d - 1) dX12_doCommute_16 rfl kX12_197 okX12_multiplies (hC.o rfl) (fun q hq => by cases hq; rfl) (by omega) rfl rfl (Nat.le_of_ble_eq_true rfl) (m_mulE (t := 11) (by omega) hC (k1.2.2.2 hB) (by decide) hy hx (by rw [k1.pp hy (by simp; omega), ey]) (by rw [k1.pp hx (by simp; omega), ex]) (fun g g2 h2 k2 e2 => ?_) (fun g2 h2 k2 => ?_))
  rotate_left
  · refine x_if_eq_t (tgt := 37) dX12_doCommute_19 rfl nI_0 ?_
    refine x_iconst dX12_doCommute_37 rfl iC_0 ?_
    refine x_ireturn dX12_doCommute_38 rfl rfl ?_
    exact Kf (fun ⟨f, g, q1, q2, q3⟩ => by rw [g2] at q2; cases q2) h2 ((k1.tr k2).sub (by simp) (by simp))
  have hC := k2.1
  have kk := (k1.tr k2).sub (P2 := [10, 11]) (C2 := [113]) (by simp) (by simp)
  refine x_if_eq_f (tgt := 37) dX12_doCommute_19 rfl rfl nb1 ?_
  refine x_aload_n (i := 0) dX12_doCommute_22 rfl rfl rfl ?_
  refine x_bipush dX12_doCommute_23 rfl bC_10 ?_
  refine x_bipush dX12_doCommute_25 rfl bC_11 ?_
  refine x_callV0 (ci := 12) (b := 110) (As := [_, _]) (d2 := d - 1) dX12_doCommute_27 rfl kX12_280 okX12_areSame (hC.o rfl) (fun q hq => by cases hq; rfl) (by omega) rfl rfl (Nat.le_of_ble_eq_true rfl) (m_sameE (x := 10) (y := 11) hC (by decide) (by decide) (by rw [k2.pp (by decide) (by decide), e1]) e2 (fun z => ?_) (fun z => ?_))
  · refine x_if_eq_f (tgt := 37) dX12_doCommute_30 rfl rfl nb1 ?_
    refine x_iconst dX12_doCommute_33 rfl iC_1 ?_
    refine x_goto (tgt := 38) dX12_doCommute_34 rfl ?_
    refine x_ireturn dX12_doCommute_38 rfl rfl ?_
    exact Kt ⟨f, g, g1, g2, z⟩ h2 kk
  · refine x_if_eq_t (tgt := 37) dX12_doCommute_30 rfl nI_0 ?_
    refine x_iconst dX12_doCommute_37 rfl iC_0 ?_
    refine x_ireturn dX12_doCommute_38 rfl rfl ?_
    refine Kf (fun ⟨f', g', q1, q2, q3⟩ => z ?_) h2 kk
    rw [g1] at q1
    rw [g2] at q2
    cases q1
    cases q2
    exact q3
theorem n_commuting {a n : Int32} (hd : 10 ≤ d) (hR : RM h S) (K : ∀ r S2 h2, sp_commuting S a n = (r, S2) → RM h2 S2 → cF h h2 → Q (some (.int r)) h2) : xCt G l mX12_commuting d [.ref 110, .int a, .int n] h 0 0 Q := by
  have hC := hR.1
  refine xCt_of (by decide) (Nat.le_of_ble_eq_true rfl) ?_
  refine x_iload_n (i := 1) dX12_commuting_0 rfl rfl rfl ?_
  refine x_callS0 (As := [_]) (d2 := d - 1) dX12_commuting_1 rfl kX12_165 okX12_isSlot (by omega) rfl rfl (Nat.le_of_ble_eq_true rfl) (m_isSlot (by omega) (fun z => ?_) (fun x hx ex qx => ?_))
  · refine x_if_eq_t (tgt := 14) dX12_commuting_4 rfl nI_0 ?_
    refine x_iconst dX12_commuting_14 rfl iC_m1 ?_
    refine x_ireturn dX12_commuting_15 rfl rfl ?_
    exact K _ _ _ (by simp only [sp_commuting, z]) hR (cF.rf hC)
  subst ex
  refine x_if_eq_f (tgt := 14) dX12_commuting_4 rfl rfl nb1 ?_
  refine x_iload_n (i := 2) dX12_commuting_7 rfl rfl rfl ?_
  refine x_callS0 (As := [_]) (d2 := d - 1) dX12_commuting_8 rfl kX12_175 okX12_isNorm (by omega) rfl rfl (Nat.le_of_ble_eq_true rfl) (m_isNorm (by omega) (fun z => ?_) (fun norm hn en qn => ?_))
  · refine x_if_ne_f (tgt := 16) dX12_commuting_11 rfl rfl nI_0 ?_
    refine x_iconst dX12_commuting_14 rfl iC_m1 ?_
    refine x_ireturn dX12_commuting_15 rfl rfl ?_
    exact K _ _ _ (by simp only [sp_commuting, qx, z]) hR (cF.rf hC)
  subst en
  obtain ⟨z1, z2, z3⟩ := zLst_1 hR.2.1.1 hn
  refine x_if_ne_t (tgt := 16) dX12_commuting_11 rfl nb1 ?_
  refine x_aload_n (i := 0) dX12_commuting_16 rfl rfl rfl ?_
  refine x_iload_n (i := 2) dX12_commuting_17 rfl rfl rfl ?_
  refine x_callV0 (ci := 12) (b := 110) (As := [_]) (d2 := d - 1) dX12_commuting_18 rfl kX12_158 okX12_listSize (hC.o rfl) (fun q hq => by cases hq; rfl) (by omega) rfl rfl (Nat.le_of_ble_eq_true rfl) (m_listSize (by omega) hR hn (fun h2 r2 c2 s2 e6 e4 => ?_))
  have hC := r2.1
  obtain ⟨p, hp⟩ : ∃ p : Nat → Prop, p = fun k => zCom (S.1 x) (zEl S.2.1 norm k) := ⟨_, rfl⟩
  have en : sp_commuting S (nI x) (nI norm) = (nI (cN p (zLst S.2.1 norm).1), S) := by simp only [sp_commuting, qx, qn, hp]
  generalize hN : (zLst S.2.1 norm).1 = N at *
  refine x_istore_n (i := 3) dX12_commuting_21 rfl rfl (by decide) ?_
  refine x_iconst dX12_commuting_22 rfl iC_0 ?_
  refine x_istore dX12_commuting_23 rfl (by decide) ?_
  refine x_iconst dX12_commuting_25 rfl iC_0 ?_
  refine x_istore dX12_commuting_26 rfl (by decide) ?_
  have key := xloop (P := fun i => ∀ h1, mV [9, 10, 11] [113] h2 h1 → xWP G l mX12_commuting d (zM G Q) 0 0 28 (xls [(0, .ref 110), (1, .int (nI x)), (2, .int (nI norm)), (3, .int (nI N)), (4, .int (nI (cN p i))), (5, .int (nI i))]) [] h1) N (by
    intro i hi ih h1 m1
    have hC := m1.1
    refine x_iload dX12_commuting_28 rfl rfl ?_
    refine x_iload_n (i := 3) dX12_commuting_30 rfl rfl rfl ?_
    refine x_jc_ge (tgt := 62) dX12_commuting_31 rfl rfl (by omega) (by omega) (fun c31 => ?_) (fun c31 => ?_)
    · obtain rfl : i = N := by omega
      refine x_iload dX12_commuting_62 rfl rfl ?_
      refine x_ireturn dX12_commuting_64 rfl rfl ?_
      exact K _ _ _ en (r2.sc m1 (by simp) (by simp [mN])) (c2.tr (m1.c (by simp)))
    · have hi2 : i < N := by omega
      have i4 : iv h1 114 = iv h2 114 := m1.2.1.iv (by decide)
      refine x_aload_n (i := 0) dX12_commuting_34 rfl rfl rfl ?_
      refine x_bipush dX12_commuting_35 rfl bC_9 ?_
      refine x_iload_n (i := 2) dX12_commuting_37 rfl rfl rfl ?_
      refine x_iload dX12_commuting_38 rfl rfl ?_
      refine x_callV0 (ci := 12) (b := 110) (As := [_, _, _]) (d2 := d - 1) dX12_commuting_40 rfl kX12_178 okX12_brings (hC.o rfl) (fun q hq => by cases hq; rfl) (by omega) rfl rfl (Nat.le_of_ble_eq_true rfl) (m_brings (t := 9) (by omega) hC (by decide) hn (by omega) (zBd_up _) (fun q hq => by rw [i4]; exact e4 i hi2 q hq) (fun h3 k3 e3 => ?_))
      have hC := k3.1
      have m3 := (m1.tr k3).sub (P2 := [9, 10, 11]) (C2 := [113]) (by simp) (by simp)
      have r3 : RM h3 S := r2.sc m3 (by simp) (by simp [mN])
      have ex : pl h3 x = c8 (S.1 x) := by rw [r3.p hx, r3.cc hx]
      refine x_aload_n (i := 0) dX12_commuting_43 rfl rfl rfl ?_
      refine x_iload_n (i := 1) dX12_commuting_44 rfl rfl rfl ?_
      refine x_bipush dX12_commuting_45 rfl bC_9 ?_
      refine x_callV0 (ci := 12) (b := 110) (As := [_, _]) (d2 := d - 1) dX12_commuting_47 rfl kX12_358 okX12_doCommute (hC.o rfl) (fun q hq => by cases hq; rfl) (by omega) rfl rfl (Nat.le_of_ble_eq_true rfl) (m_doCommute (y := 9) (by omega) hC r3.b (by omega) (by decide) (by omega) (by decide) ex e3 (fun z h4 k4 => ?_) (fun z h4 k4 => ?_))
      · have hC := k4.1
        have pi : p i := by rw [hp]; exact z
        refine x_if_eq_f (tgt := 56) dX12_commuting_50 rfl rfl nb1 ?_
        refine x_iinc dX12_commuting_53 rfl rfl (inc1 _) ?_
        refine x_iinc dX12_commuting_56 rfl rfl (inc1 _) ?_
        refine x_goto (tgt := 28) dX12_commuting_59 rfl ?_
        exact x_to (ih hi2 h4 ((m3.tr k4).sub (by simp) (by simp))) ⟨rfl, rfl, rfl, rfl, by rw [cN_t (n := i) pi]; rfl, rfl, trivial⟩
      · have hC := k4.1
        have pi : ¬ p i := by rw [hp]; exact z
        refine x_if_eq_t (tgt := 56) dX12_commuting_50 rfl nI_0 ?_
        refine x_iinc dX12_commuting_56 rfl rfl (inc1 _) ?_
        refine x_goto (tgt := 28) dX12_commuting_59 rfl ?_
        exact x_to (ih hi2 h4 ((m3.tr k4).sub (by simp) (by simp))) ⟨rfl, rfl, rfl, rfl, by rw [cN_f (n := i) pi]; rfl, rfl, trivial⟩) 0 (Nat.zero_le _) h2 ((mV.rf hC).sub (P := []) (C := []) (by simp) (by simp))
  exact x_to key ⟨rfl, rfl, rfl, rfl, rfl, rfl, trivial⟩
end MOD

