/-! EightPartsModel: multiplies, adds, mirrors, turns -/
theorem zFm_0 (f : Nat → Int32) : zFm 0 f = f := if_pos rfl
theorem zFm_1 (f : Nat → Int32) : zFm 1 f = zMir f := if_neg (by decide)
theorem zIn_e {w v : Nat → Int64} (h : ∀ p, p < 8 → w p = v p) : zIn w ↔ zIn v := zIn_c h
theorem zNar_e {w v : Nat → Int64} (h : ∀ p, p < 8 → w p = v p) : c8 (zNar w) = c8 (zNar v) := c8_eq.mpr (fun p hp => by unfold zNar; rw [h p hp])
theorem add32 {a b s : Int32} (ha : -20000 ≤ a.toInt ∧ a.toInt ≤ 20000) (hb : -20000 ≤ b.toInt ∧ b.toInt ≤ 20000) (hs : s = 1 ∨ s = -1) : (a + s * b).toInt64 = a.toInt64 + s.toInt64 * b.toInt64 := by
  have e1 : (1 : Int32).toInt = 1 := rfl
  have e2 : (-1 : Int32).toInt = -1 := rfl
  have ea : a.toInt64.toInt = a.toInt := Int32.toInt_toInt64 a
  have eb : b.toInt64.toInt = b.toInt := Int32.toInt_toInt64 b
  have es : s.toInt64.toInt = s.toInt := Int32.toInt_toInt64 s
  apply Int64.toInt_inj.mp
  rcases hs with rfl | rfl
  · have m1 : ((1 : Int32) * b).toInt = b.toInt := by rw [fb_mulI (by rw [e1]; omega) (by rw [e1]; omega), e1]; omega
    have m2 : ((1 : Int32).toInt64 * b.toInt64).toInt = b.toInt := by rw [fb_mulL (by rw [es, eb, e1]; omega) (by rw [es, eb, e1]; omega), es, eb, e1]; omega
    rw [Int32.toInt_toInt64, fb_addI (by rw [m1]; omega) (by rw [m1]; omega), fb_addL (by rw [m2, ea]; omega) (by rw [m2, ea]; omega), m1, m2, ea]
  · have m1 : ((-1 : Int32) * b).toInt = -b.toInt := by rw [fb_mulI (by rw [e2]; omega) (by rw [e2]; omega), e2]; omega
    have m2 : ((-1 : Int32).toInt64 * b.toInt64).toInt = -b.toInt := by rw [fb_mulL (by rw [es, eb, e2]; omega) (by rw [es, eb, e2]; omega), es, eb, e2]; omega
    rw [Int32.toInt_toInt64, fb_addI (by rw [m1]; omega) (by rw [m1]; omega), fb_addL (by rw [m2, ea]; omega) (by rw [m2, ea]; omega), m1, m2, ea]
/-- a long told as an int -/
noncomputable def zHl (v : Int64) : Int32 := @ite _ ((2000000000 : Int64) < v) (Classical.propDecidable _) (2000000000 : Int64).toInt32 (@ite _ (v < (-2000000000 : Int64)) (Classical.propDecidable _) (-2000000000 : Int64).toInt32 v.toInt32)
theorem zMaxL_t {a b : Int64} (h : a < b) : zMaxL a b = b := if_pos h
theorem zMaxL_f {a b : Int64} (h : ¬ a < b) : zMaxL a b = a := if_neg h
theorem zMinL_t {a b : Int64} (h : b < a) : zMinL a b = b := if_pos h
theorem zMinL_f {a b : Int64} (h : ¬ b < a) : zMinL a b = a := if_neg h
theorem zHl_eq (v : Int64) : zHl v = zCap v := by
  have e1 : (2000000000 : Int64).toInt = 2000000000 := by decide
  have e2 : (-2000000000 : Int64).toInt = -2000000000 := by decide
  unfold zHl zCap
  by_cases c1 : (2000000000 : Int64) < v
  · rw [if_pos c1, zMinL_f (fun z => by rw [Int64.lt_iff_toInt_lt] at z c1; omega), zMaxL_t (by rw [Int64.lt_iff_toInt_lt]; omega)]
  · rw [if_neg c1]
    by_cases c2 : v < (-2000000000 : Int64)
    · rw [if_pos c2, zMinL_t (by rw [Int64.lt_iff_toInt_lt] at c2 ⊢; omega), zMaxL_f (fun z => by rw [Int64.lt_iff_toInt_lt] at z c2; omega)]
    · rw [if_neg c2]
      by_cases c3 : v < (2000000000 : Int64)
      · rw [zMinL_t c3]
        by_cases c4 : (-2000000000 : Int64) < v
        · rw [zMaxL_t c4]
        · rw [zMaxL_f c4]
          have : v = (-2000000000 : Int64) := by
            apply Int64.toInt_inj.mp
            rw [Int64.lt_iff_toInt_lt] at c2 c4
            omega
          rw [this]
      · rw [zMinL_f c3, zMaxL_t (by rw [Int64.lt_iff_toInt_lt]; omega)]
        have : v = (2000000000 : Int64) := by
          apply Int64.toInt_inj.mp
          rw [Int64.lt_iff_toInt_lt] at c1 c3
          omega
        rw [this]
section MOD
variable {G : xG} {l : Launch} {d : Nat} {h : xH} {Q : Option Value → xH → Prop}
theorem m_mul {t x y : Nat} (hd : 2 ≤ d) (hC : Cs h) (hB : mB h) (ht : t < 155) (hx : x < 155) (hy : y < 155)
    (Kt : ∀ z, oMul (pl h x) (pl h y) = some z → ∀ h2, mV [t] [113] h h2 → pl h2 t = c8 z → Q (some (.int (nI 1))) h2)
    (Kf : oMul (pl h x) (pl h y) = none → ∀ h2, mV [] [113] h h2 → Q (some (.int (nI 0))) h2) : xCt G l mX12_multiplies d [.ref 110, .int (nI t), .int (nI x), .int (nI y)] h 0 0 Q := by
  refine xCt_of (by decide) (Nat.le_of_ble_eq_true rfl) ?_
  refine x_aload_n (i := 0) dX12_multiplies_0 rfl rfl rfl ?_
  refine x_iload_n (i := 2) dX12_multiplies_1 rfl rfl rfl ?_
  refine x_iload_n (i := 3) dX12_multiplies_2 rfl rfl rfl ?_
  refine x_iconst dX12_multiplies_3 rfl iC_0 ?_
  refine x_iconst dX12_multiplies_4 rfl iC_0 ?_
  refine x_callV0 (ci := 12) (b := 110) (As := [_, _, _, _]) (d2 := d - 1) dX12_multiplies_5 rfl kX12_105 okX12_isProduct (hC.o rfl) (fun q hq => by cases hq; rfl) (by omega) rfl rfl (Nat.le_of_ble_eq_true rfl) (m_isProduct (mx := 0) (my := 0) hC hx hy (by decide) (by decide) (hB x hx) (hB y hy) (fun z h2 w hv hw ew => ?_) (fun z h2 hv => ?_))
  · rw [zFm_0, zFm_0] at z ew
    have hC := hv.1
    refine x_if_eq_f (tgt := 23) dX12_multiplies_8 rfl rfl nb1 ?_
    refine x_aload_n (i := 0) dX12_multiplies_11 rfl rfl rfl ?_
    refine x_iload_n (i := 1) dX12_multiplies_12 rfl rfl rfl ?_
    refine x_callV0 (ci := 12) (b := 110) (As := [_]) (d2 := d - 1) dX12_multiplies_13 rfl kX12_109 okX12_comes (hC.o rfl) (fun q hq => by cases hq; rfl) (by omega) rfl rfl (Nat.le_of_ble_eq_true rfl) (m_comes (by omega) hC ht hw (fun z2 h3 hv3 e3 => ?_) (fun z2 => ?_))
    · refine x_if_eq_f (tgt := 23) dX12_multiplies_16 rfl rfl nb1 ?_
      refine x_iconst dX12_multiplies_19 rfl iC_1 ?_
      refine x_goto (tgt := 24) dX12_multiplies_20 rfl ?_
      refine x_ireturn dX12_multiplies_24 rfl rfl ?_
      refine Kt _ (zIf_t ⟨z, (zIn_e ew).mp z2⟩) h3 ((hv.tr hv3).sub (by simp) (by simp)) ?_
      rw [e3]
      exact zNar_e ew
    · refine x_if_eq_t (tgt := 23) dX12_multiplies_16 rfl nI_0 ?_
      refine x_iconst dX12_multiplies_23 rfl iC_0 ?_
      refine x_ireturn dX12_multiplies_24 rfl rfl ?_
      exact Kf (zIf_f (fun q => z2 ((zIn_e ew).mpr q.2))) h2 hv
  · rw [zFm_0, zFm_0] at z
    refine x_if_eq_t (tgt := 23) dX12_multiplies_8 rfl nI_0 ?_
    refine x_iconst dX12_multiplies_23 rfl iC_0 ?_
    refine x_ireturn dX12_multiplies_24 rfl rfl ?_
    exact Kf (zIf_f (fun q => z q.1)) h2 hv
theorem m_adds {t x y : Nat} {s : Int32} (hd : 2 ≤ d) (hC : Cs h) (hB : mB h) (hs1 : s = 1 ∨ s = -1) (ht : t < 155) (hx : x < 155) (hy : y < 155)
    (Kt : ∀ z, oAdd (pl h x) (pl h y) s = some z → ∀ h2, mV [t] [113] h h2 → pl h2 t = c8 z → Q (some (.int (nI 1))) h2)
    (Kf : oAdd (pl h x) (pl h y) s = none → ∀ h2, mV [] [113] h h2 → Q (some (.int (nI 0))) h2) : xCt G l mX12_adds d [.ref 110, .int (nI t), .int (nI x), .int (nI y), .int s] h 0 0 Q := by
  have v := hC.v (a := 112) rfl
  have v3 := hC.j (a := 113) rfl
  have hC0 := hC
  refine xCt_of (by decide) (Nat.le_of_ble_eq_true rfl) ?_
  refine x_iconst dX12_adds_0 rfl iC_0 ?_
  refine x_istore dX12_adds_1 rfl (by decide) ?_
  have key := xloop (P := fun i => xWP G l mX12_adds d (zM G Q) 0 0 3 (xls [(0, .ref 110), (1, .int (nI t)), (2, .int (nI x)), (3, .int (nI y)), (4, .int s), (5, .int (nI i))]) [] (hs h 113 (1, 8, xJ (xF (zAdd (pl h x) (pl h y) s) (jv h 113) i)))) 8 (by
    intro i hi ih
    have hC := hC0.setJ (f := xF (zAdd (pl h x) (pl h y) s) (jv h 113) i) v3
    refine x_iload dX12_adds_3 rfl rfl ?_
    refine x_bipush dX12_adds_5 rfl bC_8 ?_
    refine x_jc_ge (tgt := 52) dX12_adds_7 rfl rfl (by omega) (by omega) (fun c7 => ?_) (fun c7 => ?_)
    · obtain rfl : i = 8 := by omega
      refine x_topJ (f2 := zAdd (pl h x) (pl h y) s) (fun j hj => if_pos hj) (by decide) ?_
      have hC2 := hC0.setJ (f := zAdd (pl h x) (pl h y) s) v3
      have hv : mV [] [113] h (hs h 113 (1, 8, xJ (zAdd (pl h x) (pl h y) s))) := mV_o hC2 xSm.hs1 (by decide)
      have hC := hC2
      refine x_aload_n (i := 0) dX12_adds_52 rfl rfl rfl ?_
      refine x_iload_n (i := 1) dX12_adds_53 rfl rfl rfl ?_
      refine x_callV0 (ci := 12) (b := 110) (As := [_]) (d2 := d - 1) dX12_adds_54 rfl kX12_109 okX12_comes (hC.o rfl) (fun q hq => by cases hq; rfl) (by omega) rfl rfl (Nat.le_of_ble_eq_true rfl) (m_comes (by omega) hC ht hs_eq (fun z2 h3 hv3 e3 => ?_) (fun z2 => ?_))
      · refine x_ireturn dX12_adds_57 rfl rfl ?_
        exact Kt _ (zIf_t z2) h3 ((hv.tr hv3).sub (by simp) (by simp)) e3
      · refine x_ireturn dX12_adds_57 rfl rfl ?_
        exact Kf (zIf_f z2) _ hv
    · have w2 := hs_ne (c := (1, 8, xJ (xF (zAdd (pl h x) (pl h y) s) (jv h 113) i))) (show 112 ≠ 113 by decide) v
      refine x_aload_n (i := 0) dX12_adds_10 rfl rfl rfl ?_
      refine x_getC dX12_adds_11 rfl fX12_20 hC rfl F_110_3 ?_
      refine x_iload dX12_adds_14 rfl rfl ?_
      refine x_aload_n (i := 0) dX12_adds_16 rfl rfl rfl ?_
      refine x_getC dX12_adds_17 rfl fX12_17 hC rfl F_110_2 ?_
      refine x_bipush dX12_adds_20 rfl bC_8 ?_
      refine x_iload_n (i := 2) dX12_adds_22 rfl rfl rfl ?_
      refine x_imul dX12_adds_23 rfl ?_
      refine x_iload dX12_adds_24 rfl rfl ?_
      refine x_iadd dX12_adds_26 rfl ?_
      rw [nI_8]
      refine x_iald dX12_adds_27 rfl w2 rfl (by omega) (by decide) ?_
      refine x_iload dX12_adds_28 rfl rfl ?_
      refine x_aload_n (i := 0) dX12_adds_30 rfl rfl rfl ?_
      refine x_getC dX12_adds_31 rfl fX12_17 hC rfl F_110_2 ?_
      refine x_bipush dX12_adds_34 rfl bC_8 ?_
      refine x_iload_n (i := 3) dX12_adds_36 rfl rfl rfl ?_
      refine x_imul dX12_adds_37 rfl ?_
      refine x_iload dX12_adds_38 rfl rfl ?_
      refine x_iadd dX12_adds_40 rfl ?_
      rw [nI_8]
      refine x_iald dX12_adds_41 rfl w2 rfl (by omega) (by decide) ?_
      refine x_imul dX12_adds_42 rfl ?_
      refine x_iadd dX12_adds_43 rfl ?_
      refine x_i2l dX12_adds_44 rfl ?_
      rw [← pl_lt c7, ← pl_lt c7, add32 (hB x hx i c7) (hB y hy i c7) hs1]
      refine x_lastT dX12_adds_45 rfl rfl (by omega) (by decide) ?_
      rw [show vp_updL (xF (zAdd (pl h x) (pl h y) s) (jv h 113) i) i ((pl h x i).toInt64 + s.toInt64 * (pl h y i).toInt64) = xF (zAdd (pl h x) (pl h y) s) (jv h 113) (i + 1) from xF_updL (zAdd (pl h x) (pl h y) s) _ i]
      refine x_iinc dX12_adds_46 rfl rfl (inc1 _) ?_
      refine x_goto (tgt := 3) dX12_adds_49 rfl ?_
      exact x_to (ih c7) ⟨rfl, rfl, rfl, rfl, rfl, rfl, trivial⟩) 0 (Nat.zero_le _)
  rw [xF_0, hs_self v3] at key
  exact x_to key ⟨rfl, rfl, rfl, rfl, rfl, rfl, trivial⟩
theorem m_mirrors {t x : Nat} (hC : Cs h) (ht : t < 155) (hx : x < 155) (K : ∀ h2, mV [t] [] h h2 → pl h2 t = c8 (zMir (pl h x)) → Q none h2) : xCt G l mX12_mirrors d [.ref 110, .int (nI t), .int (nI x)] h 0 0 Q := by
  have v := hC.v (a := 112) rfl
  have hC0 := hC
  refine xCt_of (by decide) (Nat.le_of_ble_eq_true rfl) ?_
  refine x_iconst dX12_mirrors_0 rfl iC_0 ?_
  refine x_istore_n (i := 3) dX12_mirrors_1 rfl rfl (by decide) ?_
  have key := xloop (P := fun i => xWP G l mX12_mirrors d (zM G Q) 0 0 2 (xls [(0, .ref 110), (1, .int (nI t)), (2, .int (nI x)), (3, .int (nI i))]) [] (hs h 112 (0, 1240, xI (mrow (iv h 112) t (zMir (pl h x)) i)))) 8 (by
    intro i hi ih
    have hC := hC0.setI (f := mrow (iv h 112) t (zMir (pl h x)) i) v (Or.inl rfl) (by decide)
    refine x_iload_n (i := 3) dX12_mirrors_2 rfl rfl rfl ?_
    refine x_bipush dX12_mirrors_3 rfl bC_8 ?_
    refine x_jc_ge (tgt := 53) dX12_mirrors_5 rfl rfl (by omega) (by omega) (fun c5 => ?_) (fun c5 => ?_)
    · obtain rfl : i = 8 := by omega
      refine x_return dX12_mirrors_53 rfl ?_
      obtain ⟨k1, k2⟩ := mV_row (x := t) (f := zMir (pl h x)) hC0 ht (fun z => zBd_mir (z x hx))
      exact K _ k1 k2
    · have fin : ∀ vv, vv = zMir (pl h x) i → xWP G l mX12_mirrors d (zM G Q) 0 0 46 (xls [(0, .ref 110), (1, .int (nI t)), (2, .int (nI x)), (3, .int (nI i))]) [.int vv, .int (nI (8 * t + i)), .ref 112] (hs h 112 (0, 1240, xI (mrow (iv h 112) t (zMir (pl h x)) i))) := by
        intro vv ev
        subst ev
        refine x_iastT dX12_mirrors_46 rfl rfl (by omega) (by decide) ?_
        rw [mrow_s]
        refine x_iinc dX12_mirrors_47 rfl rfl (inc1 _) ?_
        refine x_goto (tgt := 2) dX12_mirrors_50 rfl ?_
        exact x_to (ih c5) ⟨rfl, rfl, rfl, rfl, trivial⟩
      refine x_aload_n (i := 0) dX12_mirrors_8 rfl rfl rfl ?_
      refine x_getC dX12_mirrors_9 rfl fX12_17 hC rfl F_110_2 ?_
      refine x_bipush dX12_mirrors_12 rfl bC_8 ?_
      refine x_iload_n (i := 1) dX12_mirrors_14 rfl rfl rfl ?_
      refine x_imul dX12_mirrors_15 rfl ?_
      refine x_iload_n (i := 3) dX12_mirrors_16 rfl rfl rfl ?_
      refine x_iadd dX12_mirrors_17 rfl ?_
      rw [nI_8]
      refine x_iload_n (i := 3) dX12_mirrors_18 rfl rfl rfl ?_
      refine x_if_ne (tgt := 34) dX12_mirrors_19 rfl rfl (fun c19 => ?_) (fun c19 => ?_)
      · have i0 : ¬ i = 0 := fun e => c19 (by rw [e]; exact nI_0)
        refine x_aload_n (i := 0) dX12_mirrors_34 rfl rfl rfl ?_
        refine x_getC dX12_mirrors_35 rfl fX12_17 hC rfl F_110_2 ?_
        refine x_bipush dX12_mirrors_38 rfl bC_8 ?_
        refine x_iload_n (i := 2) dX12_mirrors_40 rfl rfl rfl ?_
        refine x_imul dX12_mirrors_41 rfl ?_
        refine x_iload_n (i := 3) dX12_mirrors_42 rfl rfl rfl ?_
        refine x_iadd dX12_mirrors_43 rfl ?_
        rw [nI_8]
        refine x_iald dX12_mirrors_44 rfl hs_eq rfl (by omega) (by decide) ?_
        refine x_ineg dX12_mirrors_45 rfl ?_
        refine x_to (fin _ ?_) ⟨rfl, rfl, rfl, rfl, trivial⟩
        unfold zMir
        rw [if_neg i0]
        congr 1
        unfold mrow
        split
        · next q =>
          obtain rfl : x = t := by omega
          omega
        · exact (pl_lt c5).symm
      · have i0 : i = 0 := (nI_eq (by omega) (by omega)).mp (c19.trans nI_0.symm)
        subst i0
        refine x_aload_n (i := 0) dX12_mirrors_22 rfl rfl rfl ?_
        refine x_getC dX12_mirrors_23 rfl fX12_17 hC rfl F_110_2 ?_
        refine x_bipush dX12_mirrors_26 rfl bC_8 ?_
        refine x_iload_n (i := 2) dX12_mirrors_28 rfl rfl rfl ?_
        refine x_imul dX12_mirrors_29 rfl ?_
        rw [nI_mul8]
        refine x_iald dX12_mirrors_30 rfl hs_eq rfl (by omega) (by decide) ?_
        refine x_goto (tgt := 46) dX12_mirrors_31 rfl ?_
        refine x_to (fin _ ?_) ⟨rfl, rfl, rfl, rfl, trivial⟩
        rw [mrow_0]
        unfold zMir
        rw [if_pos rfl, pl_lt (by decide)]
        rfl) 0 (Nat.zero_le _)
  rw [mrow_0, hs_self v] at key
  exact x_to key ⟨rfl, rfl, rfl, rfl, trivial⟩
theorem m_normOf {x : Nat} (hC : Cs h) (hx : x < 155) (K : Q (some (.long (zInn (pl h x) (pl h x) 8))) h) : xCt G l mX12_normOf d [.ref 110, .int (nI x)] h 0 0 Q := by
  have v := hC.v (a := 112) rfl
  refine xCt_of (by decide) (Nat.le_of_ble_eq_true rfl) ?_
  refine x_lconst dX12_normOf_0 rfl lC_0 ?_
  refine x_lstore_n (i := 2) dX12_normOf_1 rfl rfl (by decide) ?_
  refine x_iconst dX12_normOf_2 rfl iC_0 ?_
  refine x_istore dX12_normOf_3 rfl (by decide) ?_
  have key := xloop (P := fun i => xWP G l mX12_normOf d (zM G Q) 0 0 5 (xls [(0, .ref 110), (1, .int (nI x)), (2, .long (zInn (pl h x) (pl h x) i)), (4, .int (nI i))]) [] h) 8 (by
    intro i hi ih
    refine x_iload dX12_normOf_5 rfl rfl ?_
    refine x_bipush dX12_normOf_7 rfl bC_8 ?_
    refine x_jc_ge (tgt := 48) dX12_normOf_9 rfl rfl (by omega) (by omega) (fun c9 => ?_) (fun c9 => ?_)
    · obtain rfl : i = 8 := by omega
      refine x_lload_n (i := 2) dX12_normOf_48 rfl rfl rfl ?_
      refine x_lreturn dX12_normOf_49 rfl ?_
      exact K
    · refine x_lload_n (i := 2) dX12_normOf_12 rfl rfl rfl ?_
      refine x_aload_n (i := 0) dX12_normOf_13 rfl rfl rfl ?_
      refine x_getC dX12_normOf_14 rfl fX12_17 hC rfl F_110_2 ?_
      refine x_bipush dX12_normOf_17 rfl bC_8 ?_
      refine x_iload_n (i := 1) dX12_normOf_19 rfl rfl rfl ?_
      refine x_imul dX12_normOf_20 rfl ?_
      refine x_iload dX12_normOf_21 rfl rfl ?_
      refine x_iadd dX12_normOf_23 rfl ?_
      rw [nI_8]
      refine x_iald dX12_normOf_24 rfl (by first | assumption | exact hs_eq | exact hs_ne (by first | assumption | decide | omega) (by first | assumption | exact hs_eq | exact hs_ne (by first | assumption | decide | omega) (by first | assumption | exact hs_eq | exact hs_ne (by first | assumption | decide | omega) (by assumption)))) rfl (by omega) (by decide) ?_
      refine x_i2l dX12_normOf_25 rfl ?_
      refine x_aload_n (i := 0) dX12_normOf_26 rfl rfl rfl ?_
      refine x_getC dX12_normOf_27 rfl fX12_17 hC rfl F_110_2 ?_
      refine x_bipush dX12_normOf_30 rfl bC_8 ?_
      refine x_iload_n (i := 1) dX12_normOf_32 rfl rfl rfl ?_
      refine x_imul dX12_normOf_33 rfl ?_
      refine x_iload dX12_normOf_34 rfl rfl ?_
      refine x_iadd dX12_normOf_36 rfl ?_
      rw [nI_8]
      refine x_iald dX12_normOf_37 rfl (by first | assumption | exact hs_eq | exact hs_ne (by first | assumption | decide | omega) (by first | assumption | exact hs_eq | exact hs_ne (by first | assumption | decide | omega) (by first | assumption | exact hs_eq | exact hs_ne (by first | assumption | decide | omega) (by assumption)))) rfl (by omega) (by decide) ?_
      refine x_i2l dX12_normOf_38 rfl ?_
      refine x_lmul dX12_normOf_39 rfl ?_
      rw [← pl_lt c9]
      refine x_ladd dX12_normOf_40 rfl ?_
      refine x_lstore_n (i := 2) dX12_normOf_41 rfl rfl (by decide) ?_
      refine x_iinc dX12_normOf_42 rfl rfl (inc1 _) ?_
      refine x_goto (tgt := 5) dX12_normOf_45 rfl ?_
      exact x_to (ih c9) ⟨rfl, rfl, rfl, rfl, trivial⟩) 0 (Nat.zero_le _)
  exact x_to key ⟨rfl, rfl, rfl, rfl, trivial⟩
theorem m_held {v : Int64} (K : Q (some (.int (zCap v))) h) : xCt G l mX12_held d [.long v] h 0 0 Q := by
  rw [← zHl_eq] at K
  unfold zHl at K
  refine xCt_of (by decide) (Nat.le_of_ble_eq_true rfl) ?_
  refine x_lload_n (i := 0) dX12_held_0 rfl rfl rfl ?_
  refine x_ldc2 dX12_held_1 rfl cX12_113 ?_
  refine x_lcmp dX12_held_4 rfl ?_
  refine x_if_le (tgt := 14) dX12_held_5 rfl rfl (fun c5 => ?_) (fun c5 => ?_)
  · rw [if_neg (fun z => by have := (lg_cmp_le _ _).mp c5; exact Int64.not_lt.mpr this z)] at K
    refine x_lload_n (i := 0) dX12_held_14 rfl rfl rfl ?_
    refine x_ldc2 dX12_held_15 rfl cX12_115 ?_
    refine x_lcmp dX12_held_18 rfl ?_
    refine x_if_ge (tgt := 28) dX12_held_19 rfl rfl (fun c19 => ?_) (fun c19 => ?_)
    · rw [if_neg (fun z => by have := (lg_cmp_ge _ _).mp c19; exact Int64.not_lt.mpr this z)] at K
      refine x_lload_n (i := 0) dX12_held_28 rfl rfl rfl ?_
      refine x_l2i dX12_held_29 rfl ?_
      refine x_ireturn dX12_held_30 rfl rfl ?_
      exact K
    · rw [if_pos (Int64.not_le.mp (fun z => c19 ((lg_cmp_ge _ _).mpr z)))] at K
      refine x_ldc2 dX12_held_22 rfl cX12_115 ?_
      refine x_goto (tgt := 29) dX12_held_25 rfl ?_
      refine x_l2i dX12_held_29 rfl ?_
      refine x_ireturn dX12_held_30 rfl rfl ?_
      exact K
  · rw [if_pos (Int64.not_le.mp (fun z => c5 ((lg_cmp_le _ _).mpr z)))] at K
    refine x_ldc2 dX12_held_8 rfl cX12_113 ?_
    refine x_goto (tgt := 29) dX12_held_11 rfl ?_
    refine x_l2i dX12_held_29 rfl ?_
    refine x_ireturn dX12_held_30 rfl rfl ?_
    exact K
theorem m_ends1 {t x : Nat} (hd : 1 ≤ d) (hC : Cs h) (ht : t < 155) (hx : x < 155) (K : ∀ h2, mV [t] [] h h2 → pl h2 t = pl h x → Q (some (.int (nI 1))) h2) : xCt G l mX12_ends d [.ref 110, .int (nI 1), .int (nI t), .int (nI x)] h 0 0 Q := by
  refine xCt_of (by decide) (Nat.le_of_ble_eq_true rfl) ?_
  refine x_iload_n (i := 1) dX12_ends_0 rfl rfl rfl ?_
  refine x_if_eq_f (tgt := 10) dX12_ends_1 rfl rfl nb1 ?_
  refine x_aload_n (i := 0) dX12_ends_4 rfl rfl rfl ?_
  refine x_iload_n (i := 2) dX12_ends_5 rfl rfl rfl ?_
  refine x_iload_n (i := 3) dX12_ends_6 rfl rfl rfl ?_
  refine x_callV0 (ci := 12) (b := 110) (As := [_, _]) (d2 := d - 1) dX12_ends_7 rfl kX12_182 okX12_becomes (hC.o rfl) (fun q hq => by cases hq; rfl) (by omega) rfl rfl (Nat.le_of_ble_eq_true rfl) (m_becomes hC ht hx (fun h2 hv e => ?_))
  refine x_iload_n (i := 1) dX12_ends_10 rfl rfl rfl ?_
  refine x_callS0 (As := [_]) (d2 := d - 1) dX12_ends_11 rfl kX12_185 okX12_can (by omega) rfl rfl (Nat.le_of_ble_eq_true rfl) (m_can1 ?_)
  refine x_ireturn dX12_ends_14 rfl rfl ?_
  exact K h2 hv e
theorem m_ends0 {t x : Nat} (hd : 1 ≤ d) (K : Q (some (.int (-2))) h) : xCt G l mX12_ends d [.ref 110, .int (nI 0), .int (nI t), .int (nI x)] h 0 0 Q := by
  refine xCt_of (by decide) (Nat.le_of_ble_eq_true rfl) ?_
  refine x_iload_n (i := 1) dX12_ends_0 rfl rfl rfl ?_
  refine x_if_eq_t (tgt := 10) dX12_ends_1 rfl nI_0 ?_
  refine x_iload_n (i := 1) dX12_ends_10 rfl rfl rfl ?_
  refine x_callS0 (As := [_]) (d2 := d - 1) dX12_ends_11 rfl kX12_185 okX12_can (by omega) rfl rfl (Nat.le_of_ble_eq_true rfl) (m_can0 ?_)
  refine x_ireturn dX12_ends_14 rfl rfl ?_
  exact K
/-- x turned by u comes to t, which is neither x nor u -/
theorem m_turns {t x u how : Nat} (hd : 4 ≤ d) (hC : Cs h) (hB : mB h) (ht : t < 155) (hx : x < 155) (hu : u < 155) (hh : how < 4) (htu : t ≠ u) (ht21 : t ≠ 21) (hu21 : u ≠ 21)
    (Kt : ∀ z, oTurn (pl h x) (pl h u) how = some z → ∀ h2, mV [t, 21] [113] h h2 → pl h2 t = c8 z → Q (some (.int (nI 1))) h2)
    (Kf : oTurn (pl h x) (pl h u) how = none → ∀ h2, mV [t, 21] [113] h h2 → Q (some (.int (nI 0))) h2) : xCt G l mX12_turns d [.ref 110, .int (nI t), .int (nI x), .int (nI u), .int (nI how)] h 0 0 Q := by
  refine xCt_of (by decide) (Nat.le_of_ble_eq_true rfl) ?_
  refine x_iload dX12_turns_0 rfl rfl ?_
  refine x_iconst dX12_turns_2 rfl iC_1 ?_
  refine x_jc_ne (tgt := 14) dX12_turns_3 rfl rfl (by omega) (by omega) (fun c3 => ?_) (fun c3 => ?_)
  rotate_left
  · subst c3
    refine x_aload_n (i := 0) dX12_turns_6 rfl rfl rfl ?_
    refine x_iload_n (i := 1) dX12_turns_7 rfl rfl rfl ?_
    refine x_iload_n (i := 2) dX12_turns_8 rfl rfl rfl ?_
    refine x_iload_n (i := 3) dX12_turns_9 rfl rfl rfl ?_
    refine x_callV0 (ci := 12) (b := 110) (As := [_, _, _]) (d2 := d - 1) dX12_turns_10 rfl kX12_197 okX12_multiplies (hC.o rfl) (fun q hq => by cases hq; rfl) (by omega) rfl rfl (Nat.le_of_ble_eq_true rfl) (m_mul (by omega) hC hB ht hx hu (fun z hz h2 hv e => ?_) (fun hz h2 hv => ?_))
    · refine x_ireturn dX12_turns_13 rfl rfl ?_
      exact Kt z hz h2 (hv.sub (by simp) (by simp)) e
    · refine x_ireturn dX12_turns_13 rfl rfl ?_
      exact Kf hz h2 (hv.sub (by simp) (by simp))
  refine x_aload_n (i := 0) dX12_turns_14 rfl rfl rfl ?_
  refine x_iload_n (i := 1) dX12_turns_15 rfl rfl rfl ?_
  refine x_iload_n (i := 3) dX12_turns_16 rfl rfl rfl ?_
  refine x_iload_n (i := 2) dX12_turns_17 rfl rfl rfl ?_
  refine x_callV0 (ci := 12) (b := 110) (As := [_, _, _]) (d2 := d - 1) dX12_turns_18 rfl kX12_197 okX12_multiplies (hC.o rfl) (fun q hq => by cases hq; rfl) (by omega) rfl rfl (Nat.le_of_ble_eq_true rfl) (m_mul (by omega) hC hB ht hu hx (fun z hz h2 hv e => ?_) (fun hz h2 hv => ?_))
  rotate_left
  · refine x_if_ne_f (tgt := 26) dX12_turns_21 rfl rfl nI_0 ?_
    refine x_iconst dX12_turns_24 rfl iC_0 ?_
    refine x_ireturn dX12_turns_25 rfl rfl ?_
    refine Kf ?_ h2 (hv.sub (by simp) (by simp))
    rcases (show how = 0 ∨ how = 2 ∨ how = 3 by omega) with rfl | rfl | rfl
    · exact hz
    · show (oMul _ _).bind _ = _
      rw [hz]
      rfl
    · show (oMul _ _).bind _ = _
      rw [hz]
      rfl
  have hC := hv.1
  have hB2 := hv.2.2.2 hB
  refine x_if_ne_t (tgt := 26) dX12_turns_21 rfl nb1 ?_
  refine x_iload dX12_turns_26 rfl rfl ?_
  refine x_if_ne (tgt := 33) dX12_turns_28 rfl rfl (fun c28 => ?_) (fun c28 => ?_)
  rotate_left
  · have h0 : how = 0 := (nI_eq (by omega) (by omega)).mp (c28.trans nI_0.symm)
    subst h0
    refine x_iconst dX12_turns_31 rfl iC_1 ?_
    refine x_ireturn dX12_turns_32 rfl rfl ?_
    exact Kt z hz h2 (hv.sub (by simp) (by simp)) e
  have h0 : ¬ how = 0 := fun e => c28 (by rw [e]; exact nI_0)
  refine x_aload_n (i := 0) dX12_turns_33 rfl rfl rfl ?_
  refine x_bipush dX12_turns_34 rfl bC_21 ?_
  refine x_iload_n (i := 3) dX12_turns_36 rfl rfl rfl ?_
  refine x_callV0 (ci := 12) (b := 110) (As := [_, _]) (d2 := d - 1) dX12_turns_37 rfl kX12_200 okX12_mirrors (hC.o rfl) (fun q hq => by cases hq; rfl) (by omega) rfl rfl (Nat.le_of_ble_eq_true rfl) (m_mirrors hC (t := 21) (by decide) hu (fun h3 hv3 e3 => ?_))
  have hC := hv3.1
  have hB3 := hv3.2.2.2 hB2
  have et : pl h3 t = c8 z := (hv3.2.2.1 t ht (by simp; exact ht21)).trans e
  have eu : pl h3 u = pl h u := (hv3.2.2.1 u hu (by simp; exact hu21)).trans (hv.2.2.1 u hu (by simp; exact Ne.symm htu))
  have eu2 : pl h2 u = pl h u := hv.2.2.1 u hu (by simp; exact Ne.symm htu)
  rw [eu2] at e3
  have fin : ∀ w, w < 155 → (∀ g, oMul z (pl h3 w) = g → oTurn (pl h x) (pl h u) how = g) → xWP G l mX12_turns d (zM G Q) 0 0 55 (xls [(0, .ref 110)]) [.int (nI w), .int (nI t), .int (nI t), .ref 110] h3 := by
    intro w hw eg
    have e4 : oMul (pl h3 t) (pl h3 w) = oMul z (pl h3 w) := by rw [et, oMul_cl]
    refine x_callV0 (ci := 12) (b := 110) (As := [_, _, _]) (d2 := d - 1) dX12_turns_55 rfl kX12_197 okX12_multiplies (hC.o rfl) (fun q hq => by cases hq; rfl) (by omega) rfl rfl (Nat.le_of_ble_eq_true rfl) (m_mul (by omega) hC hB3 ht ht hw (fun z5 hz5 h5 hv5 e5 => ?_) (fun hz5 h5 hv5 => ?_))
    · rw [e4] at hz5
      refine x_ireturn dX12_turns_58 rfl rfl ?_
      exact Kt z5 (eg _ hz5) h5 (((hv.tr hv3).tr hv5).sub (by simp) (by simp)) e5
    · rw [e4] at hz5
      refine x_ireturn dX12_turns_58 rfl rfl ?_
      exact Kf (eg _ hz5) h5 (((hv.tr hv3).tr hv5).sub (by simp) (by simp))
  refine x_aload_n (i := 0) dX12_turns_40 rfl rfl rfl ?_
  refine x_iload_n (i := 1) dX12_turns_41 rfl rfl rfl ?_
  refine x_iload_n (i := 1) dX12_turns_42 rfl rfl rfl ?_
  refine x_iload dX12_turns_43 rfl rfl ?_
  refine x_iconst dX12_turns_45 rfl iC_2 ?_
  refine x_jc_ne (tgt := 53) dX12_turns_46 rfl rfl (by omega) (by omega) (fun c46 => ?_) (fun c46 => ?_)
  · have h3e : how = 3 := by omega
    subst h3e
    refine x_bipush dX12_turns_53 rfl bC_21 ?_
    refine x_to (fin 21 (by decide) (fun g hg => ?_)) ⟨rfl, trivial⟩
    show (oMul _ _).bind _ = _
    rw [hz, Option.bind_some, ← hg, e3, oMul_cr]
  · subst c46
    refine x_iload_n (i := 3) dX12_turns_49 rfl rfl rfl ?_
    refine x_goto (tgt := 55) dX12_turns_50 rfl ?_
    refine x_to (fin u hu (fun g hg => ?_)) ⟨rfl, trivial⟩
    show (oMul _ _).bind _ = _
    rw [hz, Option.bind_some, ← hg, eu]
theorem m_isUnit {x o : Nat} (hd : 4 ≤ d) (hC : Cs h) (ho : mRul h o) (ho8 : o < 8) (hx : x < 155) (Kt : ofO o (oddN (pl h x)) = true ∧ zInn (pl h x) (pl h x) 8 = 4 → Q (some (.int (nI 1))) h) (Kf : ¬ (ofO o (oddN (pl h x)) = true ∧ zInn (pl h x) (pl h x) 8 = 4) → Q (some (.int (nI 0))) h) : xCt G l mX12_isUnit d [.ref 110, .int (nI x)] h 0 0 Q := by
  refine xCt_of (by decide) (Nat.le_of_ble_eq_true rfl) ?_
  refine x_aload_n (i := 0) dX12_isUnit_0 rfl rfl rfl ?_
  refine x_iload_n (i := 1) dX12_isUnit_1 rfl rfl rfl ?_
  refine x_callV0 (ci := 12) (b := 110) (As := [_]) (d2 := d - 1) dX12_isUnit_2 rfl kX12_134 okX12_isWhole (hC.o rfl) (fun q hq => by cases hq; rfl) (by omega) rfl rfl (Nat.le_of_ble_eq_true rfl) (m_isWhole (by omega) hC ho ho8 hx (fun z => ?_) (fun z => ?_))
  · refine x_if_eq_f (tgt := 24) dX12_isUnit_5 rfl rfl nb1 ?_
    refine x_aload_n (i := 0) dX12_isUnit_8 rfl rfl rfl ?_
    refine x_iload_n (i := 1) dX12_isUnit_9 rfl rfl rfl ?_
    refine x_callV0 (ci := 12) (b := 110) (As := [_]) (d2 := d - 1) dX12_isUnit_10 rfl kX12_137 okX12_normOf (hC.o rfl) (fun q hq => by cases hq; rfl) (by omega) rfl rfl (Nat.le_of_ble_eq_true rfl) (m_normOf hC hx ?_)
    refine x_ldc2 dX12_isUnit_13 rfl cX12_141 ?_
    refine x_lcmp dX12_isUnit_16 rfl ?_
    refine x_if_ne (tgt := 24) dX12_isUnit_17 rfl rfl (fun c17 => ?_) (fun c17 => ?_)
    · refine x_iconst dX12_isUnit_24 rfl iC_0 ?_
      refine x_ireturn dX12_isUnit_25 rfl rfl ?_
      exact Kf (fun q => c17 ((lg_cmp_eq _ _).mpr q.2))
    · refine x_iconst dX12_isUnit_20 rfl iC_1 ?_
      refine x_goto (tgt := 25) dX12_isUnit_21 rfl ?_
      refine x_ireturn dX12_isUnit_25 rfl rfl ?_
      exact Kt ⟨z, (lg_cmp_eq _ _).mp c17⟩
  · refine x_if_eq_t (tgt := 24) dX12_isUnit_5 rfl nI_0 ?_
    refine x_iconst dX12_isUnit_24 rfl iC_0 ?_
    refine x_ireturn dX12_isUnit_25 rfl rfl ?_
    exact Kf (fun q => by rw [q.1] at z; cases z)
end MOD

