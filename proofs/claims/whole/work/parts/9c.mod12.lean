/-! EightPartsModel: nearest, divide -/
theorem ad_b {a b : Int64} {A : Int} (h : -A ≤ a.toInt ∧ a.toInt ≤ A) (hA : A ≤ 4000000000) (hb : -400000000 ≤ b.toInt ∧ b.toInt ≤ 400000000) : -(A + 400000000) ≤ (a + b).toInt ∧ (a + b).toInt ≤ A + 400000000 := by
  rw [fb_addL (by omega) (by omega)]
  omega
theorem csS_1 : ∀ j, j < 64 → csS.getD j 0 = 1 ∨ csS.getD j 0 = -1 := by decide
theorem tm_b {f g : Nat → Int32} (hf : zBd f) (hg : zBd g) {i k : Nat} (hi : i < 8) (hk : k < 8) : -400000000 ≤ ((f i).toInt64 * (g k).toInt64 * (csS.getD (8 * i + k) 0).toInt64).toInt ∧ ((f i).toInt64 * (g k).toInt64 * (csS.getD (8 * i + k) 0).toInt64).toInt ≤ 400000000 := by
  have h1 := hf i hi
  have h2 := hg k hk
  have e1 : (f i).toInt64.toInt = (f i).toInt := Int32.toInt_toInt64 _
  have e2 : (g k).toInt64.toInt = (g k).toInt := Int32.toInt_toInt64 _
  have m := Nat.mul_le_mul (show (f i).toInt.natAbs ≤ 20000 by omega) (show (g k).toInt.natAbs ≤ 20000 by omega)
  rw [← Int.natAbs_mul] at m
  have e3 : ((f i).toInt64 * (g k).toInt64).toInt = (f i).toInt * (g k).toInt := by
    rw [fb_mulL (by rw [e1, e2]; omega) (by rw [e1, e2]; omega), e1, e2]
  rcases csS_1 (8 * i + k) (by omega) with e | e
  · rw [e, i1L, Int64.mul_one, e3]
    omega
  · rw [e, im1L, mulm1, Int64.toInt_neg, e3, fb_bmodL (by omega) (by omega)]
    omega
theorem zM4_bd {f g : Nat → Int32} (hf : zBd f) (hg : zBd g) {p : Nat} (hp : p < 8) : -3200000000 ≤ (zM4 f g p).toInt ∧ (zM4 f g p).toInt ≤ 3200000000 := by
  obtain ⟨T, hT⟩ : ∃ T : Nat → Nat → Int64, T = fun i k => (f i).toInt64 * (g k).toInt64 * (csS.getD (8 * i + k) 0).toInt64 := ⟨_, rfl⟩
  rw [← zAo_M4 (t := T) (fun i _ k _ => by rw [hT]) p hp, zAo_at T hp]
  have t : ∀ i, i < 8 → -400000000 ≤ (T i (i ^^^ p)).toInt ∧ (T i (i ^^^ p)).toInt ≤ 400000000 := fun i hi => by rw [hT]; exact tm_b hf hg hi (xor8l i hi p hp).1
  have z : -0 ≤ (0 : Int64).toInt ∧ (0 : Int64).toInt ≤ 0 := ⟨by decide, by decide⟩
  have a0 := ad_b z (by omega) (t 0 (by decide))
  have a1 := ad_b a0 (by omega) (t 1 (by decide))
  have a2 := ad_b a1 (by omega) (t 2 (by decide))
  have a3 := ad_b a2 (by omega) (t 3 (by decide))
  have a4 := ad_b a3 (by omega) (t 4 (by decide))
  have a5 := ad_b a4 (by omega) (t 5 (by decide))
  have a6 := ad_b a5 (by omega) (t 6 (by decide))
  have a7 := ad_b a6 (by omega) (t 7 (by decide))
  exact ⟨by omega, by omega⟩
theorem zHalf_b {w : Nat → Int64} {p : Nat} (h : -3200000000 ≤ (w p).toInt ∧ (w p).toInt ≤ 3200000000) : nB1 (zHalf w p).toInt := by
  have e2 : (2 : Int64).toInt = 2 := rfl
  obtain ⟨e, -, -⟩ := dv_t (a := w p) (b := 2) (by omega) (by rw [e2]; omega)
  have q := Int.natAbs_tdiv_le_natAbs (w p).toInt (2 : Int64).toInt
  show -4000000000 ≤ (w p / 2).toInt ∧ (w p / 2).toInt ≤ 4000000000
  rw [e]
  omega
theorem zM4_n {f g : Nat → Int32} (hf : zBd f) (hg : zBd g) {m : Nat} (h1 : 1 ≤ m) (h2 : m ≤ 800000000) {w : Nat → Int64} (hw : ∀ p, p < 8 → w p = zHalf (zM4 f g) p) : nrB w (lN m) := by
  have e : (lN m).toInt = m := pk_lT (by omega)
  refine ⟨fun j hj => ?_, by rw [e]; omega, by rw [e]; omega⟩
  rw [hw j hj]
  exact zHalf_b (zM4_bd hf hg hj)
section MOD
variable {G : xG} {l : Launch} {d : Nat} {h : xH} {Q : Option Value → xH → Prop} {S : St}
theorem n_nearest {a1 a2 n : Int32} (hd : 10 ≤ d) (hR : RM h S) (K : ∀ r S2 h2, sp_nearest S a1 a2 n = (r, S2) → RM h2 S2 → cF h h2 → Q (some (.int r)) h2) : xCt G l mX12_nearest d [.ref 110, .int a1, .int a2, .int n] h 0 0 Q := by
  have hC := hR.1
  have hC0 := hC
  have v := hC.v (a := 112) rfl
  have v3 := hC.j (a := 113) rfl
  refine xCt_of (by decide) (Nat.le_of_ble_eq_true rfl) ?_
  refine x_iload_n (i := 1) dX12_nearest_0 rfl rfl rfl ?_
  refine x_callS0 (As := [_]) (d2 := d - 1) dX12_nearest_1 rfl kX12_165 okX12_isSlot (by omega) rfl rfl (Nat.le_of_ble_eq_true rfl) (m_isSlot (by omega) (fun z => ?_) (fun t ht et qt => ?_))
  · refine x_if_eq_t (tgt := 26) dX12_nearest_4 rfl nI_0 ?_
    refine x_iconst dX12_nearest_26 rfl iC_m1 ?_
    refine x_ireturn dX12_nearest_27 rfl rfl ?_
    exact K _ _ _ (by simp only [sp_nearest, z] <;> rfl) hR (cF.rf hC)
  subst et
  refine x_if_eq_f (tgt := 26) dX12_nearest_4 rfl rfl nb1 ?_
  refine x_iload_n (i := 2) dX12_nearest_7 rfl rfl rfl ?_
  refine x_callS0 (As := [_]) (d2 := d - 1) dX12_nearest_8 rfl kX12_165 okX12_isSlot (by omega) rfl rfl (Nat.le_of_ble_eq_true rfl) (m_isSlot (by omega) (fun z => ?_) (fun x hx ex qx => ?_))
  · refine x_if_eq_t (tgt := 26) dX12_nearest_11 rfl nI_0 ?_
    refine x_iconst dX12_nearest_26 rfl iC_m1 ?_
    refine x_ireturn dX12_nearest_27 rfl rfl ?_
    exact K _ _ _ (by simp only [sp_nearest, qt, z] <;> rfl) hR (cF.rf hC)
  subst ex
  refine x_if_eq_f (tgt := 26) dX12_nearest_11 rfl rfl nb1 ?_
  refine x_iload_n (i := 3) dX12_nearest_14 rfl rfl rfl ?_
  refine x_i2l dX12_nearest_15 rfl ?_
  refine x_lconst dX12_nearest_16 rfl lC_1 ?_
  refine x_ldc2 dX12_nearest_17 rfl cX12_205 ?_
  refine x_callS0 (As := [_, _, _]) (d2 := d - 1) dX12_nearest_20 rfl kX12_95 okX12_in (by omega) rfl rfl (Nat.le_of_ble_eq_true rfl) (m_in (lo := 1) (hi := 1000) (by decide) (by decide) (by decide) (fun z => ?_) (fun m lm hm em qm => ?_))
  · refine x_if_ne_f (tgt := 28) dX12_nearest_23 rfl rfl nI_0 ?_
    refine x_iconst dX12_nearest_26 rfl iC_m1 ?_
    refine x_ireturn dX12_nearest_27 rfl rfl ?_
    exact K _ _ _ (by simp only [sp_nearest, qt, qx, z] <;> rfl) hR (cF.rf hC)
  subst em
  refine x_if_ne_t (tgt := 28) dX12_nearest_23 rfl nb1 ?_
  have en : sp_nearest S (nI t) (nI x) (nI m) = sMay S t (oNst S.2.1 (fun j => (S.1 x j).toInt64) (nI m).toInt64) := by simp only [sp_nearest, qt, qx, qm]
  refine x_iconst dX12_nearest_28 rfl iC_0 ?_
  refine x_istore dX12_nearest_29 rfl (by decide) ?_
  have key := xloop (P := fun i => xWP G l mX12_nearest d (zM G Q) 0 0 31 (xls [(0, .ref 110), (1, .int (nI t)), (2, .int (nI x)), (3, .int (nI m)), (4, .int (nI i))]) [] (hs h 113 (1, 8, xJ (xF (fun j => (pl h x j).toInt64) (jv h 113) i)))) 8 (by
    intro i hi ih
    have hC := hC0.setJ (f := xF (fun j => (pl h x j).toInt64) (jv h 113) i) v3
    refine x_iload dX12_nearest_31 rfl rfl ?_
    refine x_bipush dX12_nearest_33 rfl bC_8 ?_
    refine x_jc_ge (tgt := 64) dX12_nearest_35 rfl rfl (by omega) (by omega) (fun c35 => ?_) (fun c35 => ?_)
    · obtain rfl : i = 8 := by omega
      refine x_topJ (f2 := fun j => (pl h x j).toInt64) (fun j hj => if_pos hj) (by decide) ?_
      have hC2 := hC0.setJ (f := fun j => (pl h x j).toInt64) v3
      have hv : mV [] [113] h (hs h 113 (1, 8, xJ (fun j => (pl h x j).toInt64))) := mV_o hC2 xSm.hs1 (by decide)
      have ho2 : mRul (hs h 113 (1, 8, xJ (fun j => (pl h x j).toInt64))) S.2.1 := (fv_n (by decide)).trans hR.2.1.2
      have hC := hC2
      have w2 : (hs h 113 (1, 8, xJ (fun j => (pl h x j).toInt64))).1 113 = (1, 8, xJ (fun j => (pl h x j).toInt64)) := hs_eq
      have bb : nrB (fun j => (pl h x j).toInt64) (nI m).toInt64 := by
        refine ⟨fun j hj => ?_, by rw [nI_li (by omega)]; omega, by rw [nI_li (by omega)]; omega⟩
        have := hR.b x (by omega) j hj
        show -4000000000 ≤ (pl h x j).toInt64.toInt ∧ _
        rw [Int32.toInt_toInt64]
        omega
      generalize hs h 113 (1, 8, xJ (fun j => (pl h x j).toInt64)) = h2 at hC2 hv ho2 w2 hC ⊢
      refine x_aload_n (i := 0) dX12_nearest_64 rfl rfl rfl ?_
      refine x_iload_n (i := 3) dX12_nearest_65 rfl rfl rfl ?_
      refine x_i2l dX12_nearest_66 rfl ?_
      refine x_callV0 (ci := 12) (b := 110) (As := [_]) (d2 := d - 1) dX12_nearest_67 rfl kX12_241 okX12_nears (hC.o rfl) (fun q hq => by cases hq; rfl) (by omega) rfl rfl (Nat.le_of_ble_eq_true rfl) (m_nears (by omega) hC ho2 hR.2.1.1 w2 bb (fun h3 w3 hv3 e3 q3 => ?_))
      have hC := hv3.1
      have hv4 := (hv.tr hv3).sub (P2 := []) (C2 := [113, 119, 120]) (by simp) (by simp)
      rw [hR.p hx] at q3
      refine x_aload_n (i := 0) dX12_nearest_70 rfl rfl rfl ?_
      refine x_iload_n (i := 1) dX12_nearest_71 rfl rfl rfl ?_
      refine x_callV0 (ci := 12) (b := 110) (As := [_]) (d2 := d - 1) dX12_nearest_72 rfl kX12_109 okX12_comes (hC.o rfl) (fun q hq => by cases hq; rfl) (by omega) rfl rfl (Nat.le_of_ble_eq_true rfl) (m_comes (by omega) hC (by omega) e3 (fun z h4 k4 e4 => ?_) (fun z => ?_))
      · rw [zIn_e q3] at z
        rw [zNar_e q3] at e4
        have hv5 := (hv4.tr k4).sub (P2 := [t]) (C2 := [113, 119, 120]) (by simp) (by simp)
        refine x_callS0 (As := [_]) (d2 := d - 1) dX12_nearest_75 rfl kX12_185 okX12_can (by omega) rfl rfl (Nat.le_of_ble_eq_true rfl) (m_can1 ?_)
        refine x_ireturn dX12_nearest_78 rfl rfl ?_
        exact K _ _ _ (by rw [en]; unfold oNst; rw [zIf_t z]; rfl) (hR.set ht hv5 (by simp) (by simp [mN]) e4) (hv5.c (by simp))
      · rw [zIn_e q3] at z
        refine x_callS0 (As := [_]) (d2 := d - 1) dX12_nearest_75 rfl kX12_185 okX12_can (by omega) rfl rfl (Nat.le_of_ble_eq_true rfl) (m_can0 ?_)
        refine x_ireturn dX12_nearest_78 rfl rfl ?_
        exact K _ _ _ (by rw [en]; unfold oNst; rw [zIf_f z]; rfl) (hR.sc hv4 (by simp) (by simp [mN])) (hv4.c (by simp))
    · have w2 := hs_ne (c := (1, 8, xJ (xF (fun j => (pl h x j).toInt64) (jv h 113) i))) (show 112 ≠ 113 by decide) v
      refine x_aload_n (i := 0) dX12_nearest_38 rfl rfl rfl ?_
      refine x_getC dX12_nearest_39 rfl fX12_20 hC rfl F_110_3 ?_
      refine x_iload dX12_nearest_42 rfl rfl ?_
      refine x_aload_n (i := 0) dX12_nearest_44 rfl rfl rfl ?_
      refine x_getC dX12_nearest_45 rfl fX12_17 hC rfl F_110_2 ?_
      refine x_bipush dX12_nearest_48 rfl bC_8 ?_
      refine x_iload_n (i := 2) dX12_nearest_50 rfl rfl rfl ?_
      refine x_imul dX12_nearest_51 rfl ?_
      refine x_iload dX12_nearest_52 rfl rfl ?_
      refine x_iadd dX12_nearest_54 rfl ?_
      rw [nI_8]
      refine x_iald dX12_nearest_55 rfl w2 rfl (by omega) (by decide) ?_
      refine x_i2l dX12_nearest_56 rfl ?_
      rw [← pl_lt c35]
      refine x_lastT dX12_nearest_57 rfl rfl (by omega) (by decide) ?_
      rw [show vp_updL (xF (fun j => (pl h x j).toInt64) (jv h 113) i) i (pl h x i).toInt64 = xF (fun j => (pl h x j).toInt64) (jv h 113) (i + 1) from xF_updL (fun j => (pl h x j).toInt64) _ i]
      refine x_iinc dX12_nearest_58 rfl rfl (inc1 _) ?_
      refine x_goto (tgt := 31) dX12_nearest_61 rfl ?_
      exact x_to (ih c35) ⟨rfl, rfl, rfl, rfl, rfl, trivial⟩) 0 (Nat.zero_le _)
  rw [xF_0, hs_self v3] at key
  exact x_to key ⟨rfl, rfl, rfl, rfl, rfl, trivial⟩
theorem m_divides {x y o : Nat} (hd : 5 ≤ d) (hC : Cs h) (ho : mRul h o) (ho8 : o < 8) (hB : mB h) (hx : x < 155) (hy : y < 155) (x1 : x ≠ 16 ∧ x ≠ 17) (y1 : y ≠ 16 ∧ y ≠ 17)
    (Kt : ∀ q r, oSplit o (pl h x) (pl h y) = some (q, r) → ∀ h2, mV [16, 17] [113, 119, 120] h h2 → pl h2 16 = c8 q → pl h2 17 = c8 r → Q (some (.int (nI 1))) h2)
    (Kf : oSplit o (pl h x) (pl h y) = none → ∀ h2, mV [16, 17] [113, 119, 120] h h2 → Q (some (.int (nI 0))) h2) : xCt G l mX12_divides d [.ref 110, .int (nI x), .int (nI y)] h 0 0 Q := by
  have rf0 : mV [16, 17] [113, 119, 120] h h := mV.rf hC
  refine xCt_of (by decide) (Nat.le_of_ble_eq_true rfl) ?_
  refine x_aload_n (i := 0) dX12_divides_0 rfl rfl rfl ?_
  refine x_iload_n (i := 2) dX12_divides_1 rfl rfl rfl ?_
  refine x_callV0 (ci := 12) (b := 110) (As := [_]) (d2 := d - 1) dX12_divides_2 rfl kX12_137 okX12_normOf (hC.o rfl) (fun q hq => by cases hq; rfl) (by omega) rfl rfl (Nat.le_of_ble_eq_true rfl) (m_normOf hC hy ?_)
  refine x_lstore_n (i := 3) dX12_divides_5 rfl rfl (by decide) ?_
  refine x_lload_n (i := 3) dX12_divides_6 rfl rfl rfl ?_
  refine x_lconst dX12_divides_7 rfl lC_0 ?_
  refine x_lcmp dX12_divides_8 rfl ?_
  refine x_if_eq (tgt := 33) dX12_divides_9 rfl rfl (fun c9 => ?_) (fun c9 => ?_)
  · refine x_iconst dX12_divides_33 rfl iC_0 ?_
    refine x_ireturn dX12_divides_34 rfl rfl ?_
    exact Kf (if_pos (Or.inl ((lg_cmp_eq _ _).mp c9))) h rf0
  have n0 : ¬ zInn (pl h y) (pl h y) 8 = 0 := mt (lg_cmp_eq _ _).mpr c9
  refine x_lload_n (i := 3) dX12_divides_12 rfl rfl rfl ?_
  refine x_ldc2 dX12_divides_13 rfl cX12_141 ?_
  refine x_lrem dX12_divides_16 rfl (by decide) ?_
  refine x_lconst dX12_divides_17 rfl lC_0 ?_
  refine x_lcmp dX12_divides_18 rfl ?_
  refine x_if_ne (tgt := 33) dX12_divides_19 rfl rfl (fun c19 => ?_) (fun c19 => ?_)
  · refine x_iconst dX12_divides_33 rfl iC_0 ?_
    refine x_ireturn dX12_divides_34 rfl rfl ?_
    refine Kf (if_pos (Or.inr (Or.inl ?_))) h rf0
    first
    | exact mt (lg_cmp_eq _ _).mpr c19
    | exact fun z => c19 ((lg_cmp_eq _ _).mpr z)
  have n4 : zInn (pl h y) (pl h y) 8 - zInn (pl h y) (pl h y) 8 / 4 * 4 = 0 := by
    first
    | exact (lg_cmp_eq _ _).mp c19
    | exact Classical.byContradiction (fun z => c19 (fun e => z ((lg_cmp_eq _ _).mp e)))
  obtain ⟨p1, p2, m, m1, m2, m3, m4⟩ := nrm_div (hB y hy) n0 n4
  refine x_aload_n (i := 0) dX12_divides_22 rfl rfl rfl ?_
  refine x_iload_n (i := 1) dX12_divides_23 rfl rfl rfl ?_
  refine x_iload_n (i := 2) dX12_divides_24 rfl rfl rfl ?_
  refine x_iconst dX12_divides_25 rfl iC_0 ?_
  refine x_iconst dX12_divides_26 rfl iC_1 ?_
  refine x_callV0 (ci := 12) (b := 110) (As := [_, _, _, _]) (d2 := d - 1) dX12_divides_27 rfl kX12_105 okX12_isProduct (hC.o rfl) (fun q hq => by cases hq; rfl) (by omega) rfl rfl (Nat.le_of_ble_eq_true rfl) (m_isProduct (mx := 0) (my := 1) hC hx hy (by decide) (by decide) (hB x hx) (hB y hy) (fun z h2 w hv hw ew => ?_) (fun z h2 hv => ?_))
  rotate_left
  · rw [zFm_0, zFm_1] at z
    refine x_if_ne_f (tgt := 35) dX12_divides_30 rfl rfl nI_0 ?_
    refine x_iconst dX12_divides_33 rfl iC_0 ?_
    refine x_ireturn dX12_divides_34 rfl rfl ?_
    exact Kf (if_pos (Or.inr (Or.inr (Or.inl z)))) h2 (hv.sub (by simp) (by simp))
  rw [zFm_0, zFm_1] at z ew
  have hC := hv.1
  have ho2 : mRul h2 o := by
    show (h2.1 110).2.2 4 = _
    rw [hv.2.1.2 110 (by decide)]
    exact ho
  have nb : nrB w (zInn (pl h y) (pl h y) 8 / 4) := by
    rw [m4]
    exact zM4_n (hB x hx) (zBd_mir (hB y hy)) m1 m2 ew
  refine x_if_ne_t (tgt := 35) dX12_divides_30 rfl nb1 ?_
  refine x_aload_n (i := 0) dX12_divides_35 rfl rfl rfl ?_
  refine x_lload_n (i := 3) dX12_divides_36 rfl rfl rfl ?_
  refine x_ldc2 dX12_divides_37 rfl cX12_141 ?_
  refine x_ldiv dX12_divides_40 rfl (by decide) ?_
  refine x_callV0 (ci := 12) (b := 110) (As := [_]) (d2 := d - 1) dX12_divides_41 rfl kX12_241 okX12_nears (hC.o rfl) (fun q hq => by cases hq; rfl) (by omega) rfl rfl (Nat.le_of_ble_eq_true rfl) (m_nears (by omega) hC ho2 ho8 hw nb (fun h3 w3 hv3 e3 q3 => ?_))
  have q4 : ∀ j, j < 8 → w3 j = zNst o (zHalf (zM4 (pl h x) (zMir (pl h y)))) (zInn (pl h y) (pl h y) 8 / 4) j := fun j hj => (q3 j hj).trans (zNst_c ew j hj)
  have hC := hv3.1
  have k3 := (hv.tr hv3).sub (P2 := [16, 17]) (C2 := [113, 119, 120]) (by simp) (by simp)
  refine x_aload_n (i := 0) dX12_divides_44 rfl rfl rfl ?_
  refine x_bipush dX12_divides_45 rfl bC_16 ?_
  refine x_callV0 (ci := 12) (b := 110) (As := [_]) (d2 := d - 1) dX12_divides_47 rfl kX12_109 okX12_comes (hC.o rfl) (fun q hq => by cases hq; rfl) (by omega) rfl rfl (Nat.le_of_ble_eq_true rfl) (m_comes (by omega) hC (t := 16) (by decide) e3 (fun z5 h4 k4 e4 => ?_) (fun z5 => ?_))
  rotate_left
  · rw [zIn_e q4] at z5
    refine x_if_eq_t (tgt := 82) dX12_divides_50 rfl nI_0 ?_
    refine x_iconst dX12_divides_82 rfl iC_0 ?_
    refine x_ireturn dX12_divides_83 rfl rfl ?_
    exact Kf (if_pos (Or.inr (Or.inr (Or.inr z5)))) h3 k3
  rw [zIn_e q4] at z5
  rw [zNar_e q4] at e4
  generalize hZ : zNar (zNst o (zHalf (zM4 (pl h x) (zMir (pl h y)))) (zInn (pl h y) (pl h y) 8 / 4)) = Z at e4
  have os : oSplit o (pl h x) (pl h y) = (oMul Z (pl h y)).bind (fun r1 => (oAdd (pl h x) r1 (-1)).map (fun r => (Z, r))) := by
    rw [← hZ]
    exact if_neg (by rintro (q | q | q | q); exact n0 q; exact q n4; exact q z; exact q z5)
  rw [os] at Kt Kf
  have k5 := (k3.tr k4).sub (P2 := [16, 17]) (C2 := [113, 119, 120]) (by simp) (by simp)
  have hC := k4.1
  have ey : pl h4 y = pl h y := k5.2.2.1 y hy (by simp; omega)
  refine x_if_eq_f (tgt := 82) dX12_divides_50 rfl rfl nb1 ?_
  refine x_aload_n (i := 0) dX12_divides_53 rfl rfl rfl ?_
  refine x_bipush dX12_divides_54 rfl bC_17 ?_
  refine x_bipush dX12_divides_56 rfl bC_16 ?_
  refine x_iload_n (i := 2) dX12_divides_58 rfl rfl rfl ?_
  refine x_callV0 (ci := 12) (b := 110) (As := [_, _, _]) (d2 := d - 1) dX12_divides_59 rfl kX12_197 okX12_multiplies (hC.o rfl) (fun q hq => by cases hq; rfl) (by omega) rfl rfl (Nat.le_of_ble_eq_true rfl) (m_mul (by omega) hC (k5.2.2.2 hB) (t := 17) (x := 16) (by decide) (by decide) hy (fun z6 g6 h5 v5 e5 => ?_) (fun g6 h5 v5 => ?_))
  rotate_left
  · rw [e4, oMul_cl, ey] at g6
    refine x_if_eq_t (tgt := 82) dX12_divides_62 rfl nI_0 ?_
    refine x_iconst dX12_divides_82 rfl iC_0 ?_
    refine x_ireturn dX12_divides_83 rfl rfl ?_
    exact Kf (by rw [g6]; rfl) h5 ((k5.tr v5).sub (by simp) (by simp))
  rw [e4, oMul_cl, ey] at g6
  have k6 := (k5.tr v5).sub (P2 := [16, 17]) (C2 := [113, 119, 120]) (by simp) (by simp)
  have hC := v5.1
  have ex : pl h5 x = pl h x := k6.2.2.1 x hx (by simp; omega)
  refine x_if_eq_f (tgt := 82) dX12_divides_62 rfl rfl nb1 ?_
  refine x_aload_n (i := 0) dX12_divides_65 rfl rfl rfl ?_
  refine x_bipush dX12_divides_66 rfl bC_17 ?_
  refine x_iload_n (i := 1) dX12_divides_68 rfl rfl rfl ?_
  refine x_bipush dX12_divides_69 rfl bC_17 ?_
  refine x_iconst dX12_divides_71 rfl iC_m1 ?_
  refine x_callV0 (ci := 12) (b := 110) (As := [_, _, _, _]) (d2 := d - 1) dX12_divides_72 rfl kX12_193 okX12_adds (hC.o rfl) (fun q hq => by cases hq; rfl) (by omega) rfl rfl (Nat.le_of_ble_eq_true rfl) (m_adds (by omega) hC (k6.2.2.2 hB) (Or.inr rfl) (t := 17) (y := 17) (by decide) hx (by decide) (fun z7 g7 h6 v6 e6 => ?_) (fun g7 h6 v6 => ?_))
  · have g8 : ∃ z8, oAdd (pl h x) z6 (-1) = some z8 ∧ c8 z7 = c8 z8 := by
      have e := oAdd_e (f := pl h5 x) (f2 := pl h x) (g := pl h5 17) (g2 := z6) (s := -1) (by rw [ex]) (by rw [e5, c8_c8])
      rw [g7] at e
      cases e2 : oAdd (pl h x) z6 (-1) with
      | none => rw [e2] at e; cases e
      | some y => rw [e2] at e; exact ⟨y, rfl, Option.some.inj e⟩
    obtain ⟨z8, g8, e8⟩ := g8
    have k7 := (k6.tr v6).sub (P2 := [16, 17]) (C2 := [113, 119, 120]) (by simp) (by simp)
    refine x_if_eq_f (tgt := 82) dX12_divides_75 rfl rfl nb1 ?_
    refine x_iconst dX12_divides_78 rfl iC_1 ?_
    refine x_goto (tgt := 83) dX12_divides_79 rfl ?_
    refine x_ireturn dX12_divides_83 rfl rfl ?_
    refine Kt Z z8 (by rw [g6]; show (oAdd _ _ _).map _ = _; rw [g8]; rfl) h6 k7 ?_ (e6.trans e8)
    rw [v6.2.2.1 16 (by decide) (by simp), v5.2.2.1 16 (by decide) (by simp), e4]
  · have g8 : oAdd (pl h x) z6 (-1) = none := by
      have e := oAdd_e (f := pl h5 x) (f2 := pl h x) (g := pl h5 17) (g2 := z6) (s := -1) (by rw [ex]) (by rw [e5, c8_c8])
      rw [g7] at e
      cases e2 : oAdd (pl h x) z6 (-1) with
      | none => rfl
      | some y => rw [e2] at e; cases e
    refine x_if_eq_t (tgt := 82) dX12_divides_75 rfl nI_0 ?_
    refine x_iconst dX12_divides_82 rfl iC_0 ?_
    refine x_ireturn dX12_divides_83 rfl rfl ?_
    exact Kf (by rw [g6]; show (oAdd _ _ _).map _ = _; rw [g8]; rfl) h6 ((k6.tr v6).sub (by simp) (by simp))
end MOD

