/-! EightParts: all of a norm, one by one, more -/
section PUB
variable {G : xG} {l : Launch} {d : Nat} {h : xH} {Q : Option Value → xH → Prop} {b : Bool} {S : St}
theorem p_alikeMany {a1 n q : Int32} (hd : 20 ≤ d) (hR : RC b h S) (hm : h.2 < 800000) (K : ∀ r S2 h2, sp_alikeMany S a1 n q = (r, S2) → RC b h2 S2 → mF h h2 → Q (some (.int r)) h2) : xCt G l mX11_alikeMany d [.ref 0, .int a1, .int n, .int q] h 1 6720 Q := by
  have hC := hR.1
  refine xCt_of (by decide) (Nat.le_of_ble_eq_true rfl) ?_
  refine x_iload_n (i := 1) dX11_alikeMany_0 rfl rfl rfl ?_
  refine x_callS0 (As := [_]) (d2 := d - 1) dX11_alikeMany_1 rfl kX11_115 okX11_isEighth (by omega) rfl rfl (Nat.le_of_ble_eq_true rfl) (c_isEighth (fun z => ?_) (fun x hx ex qx => ?_))
  · refine x_if_eq_t (tgt := 21) dX11_alikeMany_4 rfl nI_0 ?_
    refine x_iconst dX11_alikeMany_21 rfl iC_m1 ?_
    refine x_ireturn dX11_alikeMany_22 rfl rfl ?_
    exact K _ _ _ (by simp only [sp_alikeMany, z] <;> rfl) hR mF.rf
  subst ex
  refine x_if_eq_f (tgt := 21) dX11_alikeMany_4 rfl rfl nb1 ?_
  refine x_iload_n (i := 2) dX11_alikeMany_7 rfl rfl rfl ?_
  refine x_callS0 (As := [_]) (d2 := d - 1) dX11_alikeMany_8 rfl kX11_125 okX11_isListedNorm (by omega) rfl rfl (Nat.le_of_ble_eq_true rfl) (c_isListedNorm (fun z => ?_) (fun mm hmm emm qmm => ?_))
  · refine x_if_eq_t (tgt := 21) dX11_alikeMany_11 rfl nI_0 ?_
    refine x_iconst dX11_alikeMany_21 rfl iC_m1 ?_
    refine x_ireturn dX11_alikeMany_22 rfl rfl ?_
    exact K _ _ _ (by simp only [sp_alikeMany, qx, z] <;> rfl) hR mF.rf
  subst emm
  refine x_if_eq_f (tgt := 21) dX11_alikeMany_11 rfl rfl nb1 ?_
  refine x_iload_n (i := 3) dX11_alikeMany_14 rfl rfl rfl ?_
  refine x_callS0 (As := [_]) (d2 := d - 1) dX11_alikeMany_15 rfl kX11_190 okX11_isDivisor (by omega) rfl rfl (Nat.le_of_ble_eq_true rfl) (c_isDivisor (fun z => ?_) (fun w hw ew qw => ?_))
  · refine x_if_ne_f (tgt := 23) dX11_alikeMany_18 rfl rfl nI_0 ?_
    refine x_iconst dX11_alikeMany_21 rfl iC_m1 ?_
    refine x_ireturn dX11_alikeMany_22 rfl rfl ?_
    exact K _ _ _ (by simp only [sp_alikeMany, qx, qmm, z] <;> rfl) hR mF.rf
  subst ew
  refine x_if_ne_t (tgt := 23) dX11_alikeMany_18 rfl nb1 ?_
  have en : sp_alikeMany S (nI x) (nI mm) (nI w) = (nI (cN (fun k => zWB S.2.1 (zDif (S.1 x) (zEl S.2.1 mm k)) (nI w).toInt64) (zLst S.2.1 mm).1), S) := by simp only [sp_alikeMany, qx, qmm, qw]
  have rl := zRoom_le mm hmm
  have sm := zLst_sm (o := S.2.1) (norm := mm) hmm
  refine x_aload_n (i := 0) dX11_alikeMany_23 rfl rfl rfl ?_
  refine x_getC dX11_alikeMany_24 rfl fX11_33 hC rfl F_0_3 ?_
  refine x_iload_n (i := 2) dX11_alikeMany_27 rfl rfl rfl ?_
  refine x_callV (ci := 4) (b := 22) (As := [_]) (d2 := d - 1) (mc2 := 1) (ms2 := zRoom mm) (k2 := 0) (n2 := 0) dX11_alikeMany_28 rfl kX11_276 okX4_manyOf (hC.o rfl) (fun q hq => by cases hq; rfl) (by omega) rfl rfl (Nat.le_of_ble_eq_true rfl) (by omega) (by omega) (q_many (by omega) hR hm hmm (fun h1 k1 k2 k3 => ?_))
  refine x_istore dX11_alikeMany_31 rfl (by decide) ?_
  refine x_iconst dX11_alikeMany_33 rfl iC_0 ?_
  refine x_istore dX11_alikeMany_34 rfl (by decide) ?_
  refine x_iconst dX11_alikeMany_36 rfl iC_0 ?_
  refine x_istore dX11_alikeMany_37 rfl (by decide) ?_
  have key := xloop (P := fun i => ∀ h2, RCn b mm h2 S → xSq scP h1 h2 → xWP G l mX11_alikeMany d (zM G Q) 0 0 39 (xls [(0, .ref 0), (1, .int (nI x)), (2, .int (nI mm)), (3, .int (nI w)), (4, .int (nI (zLst S.2.1 mm).1)), (5, .int (nI (cN (fun k => zWB S.2.1 (zDif (S.1 x) (zEl S.2.1 mm k)) (nI w).toInt64) i))), (6, .int (nI i))]) [] h2) (zLst S.2.1 mm).1 (by
    intro i hi ih h2 r2 q2
    have hC := r2.1.1
    refine x_iload dX11_alikeMany_39 rfl rfl ?_
    refine x_iload dX11_alikeMany_41 rfl rfl ?_
    refine x_jc_ge (tgt := 90) dX11_alikeMany_43 rfl rfl (by omega) (by omega) (fun c43 => ?_) (fun c43 => ?_)
    · obtain rfl : i = (zLst S.2.1 mm).1 := by omega
      refine x_iload dX11_alikeMany_90 rfl rfl ?_
      refine x_ireturn dX11_alikeMany_92 rfl rfl ?_
      exact K _ _ _ en r2.1 (k2.trq q2)
    · refine x_aload_n (i := 0) dX11_alikeMany_46 rfl rfl rfl ?_
      refine x_getC dX11_alikeMany_47 rfl fX11_33 hC rfl F_0_3 ?_
      refine x_aload_n (i := 0) dX11_alikeMany_50 rfl rfl rfl ?_
      refine x_getC dX11_alikeMany_51 rfl fX11_101 hC rfl F_0_12 ?_
      refine x_iload_n (i := 2) dX11_alikeMany_54 rfl rfl rfl ?_
      refine x_iload dX11_alikeMany_55 rfl rfl ?_
      refine x_callV0 (ci := 4) (b := 22) (As := [_, _, _]) (d2 := d - 1) dX11_alikeMany_57 rfl kX11_128 okX4_take (hC.o rfl) (fun q hq => by cases hq; rfl) (by omega) rfl rfl (Nat.le_of_ble_eq_true rfl) (q_takeC (by omega) r2 hmm (a := 106) rfl c43 ?_)
      have hC2 := hC.setI (f := zEl S.2.1 mm i) (hC.v (a := 106) rfl) (Or.inl rfl) (by decide)
      have q3 : xSq scP h2 (hs h2 106 (0, 8, xI (zEl S.2.1 mm i))) := xSm.hs1.sc (by intro q hq; simp only [List.mem_cons, List.not_mem_nil, or_false] at hq; unfold scP; omega)
      have r3 := r2.sc hC2 q3
      have e3 : iv (hs h2 106 (0, 8, xI (zEl S.2.1 mm i))) 106 = zEl S.2.1 mm i := iv_hs
      have e := zWB_e (o := S.2.1) (n := (nI w).toInt64) (w := zDif (S.1 x) (zEl S.2.1 mm i)) (v := zDif (iv (hs h2 106 (0, 8, xI (zEl S.2.1 mm i))) (2 + x)) (zEl S.2.1 mm i)) (fun j hj => by unfold zDif; rw [← (r3.1.sl hx).1, c8_lt hj])
      have hC := hC2
      refine x_if_eq_f (tgt := 84) dX11_alikeMany_60 rfl rfl nb1 ?_
      refine x_aload_n (i := 0) dX11_alikeMany_63 rfl rfl rfl ?_
      refine x_aload_n (i := 0) dX11_alikeMany_64 rfl rfl rfl ?_
      refine x_getC dX11_alikeMany_65 rfl fX11_11 hC rfl F_0_0 ?_
      refine x_iload_n (i := 1) dX11_alikeMany_68 rfl rfl rfl ?_
      refine x_aaldC (t := 0) dX11_alikeMany_69 rfl hC rfl (by decide) rfl (by omega) (by decide) (csF_slot hx) ?_
      refine x_aload_n (i := 0) dX11_alikeMany_70 rfl rfl rfl ?_
      refine x_getC dX11_alikeMany_71 rfl fX11_101 hC rfl F_0_12 ?_
      refine x_iload_n (i := 3) dX11_alikeMany_74 rfl rfl rfl ?_
      refine x_callV0 (ci := 11) (b := 0) (As := [_, _, _]) (d2 := d - 1) dX11_alikeMany_75 rfl kX11_288 okX11_areAlike (hC.o rfl) (fun q hq => by cases hq; rfl) (by omega) rfl rfl (Nat.le_of_ble_eq_true rfl) (q_areAlike (by omega) r3.1 (csV_slot hx) (y := 106) rfl hw (fun z h4 hC4 hS4 => ?_) (fun z h4 hC4 hS4 => ?_))
      · rw [e3] at z
        have q4 := hS4.sc (by intro q hq; simp only [List.mem_cons, List.not_mem_nil, or_false] at hq; unfold scP; omega)
        refine x_if_eq_f (tgt := 84) dX11_alikeMany_78 rfl rfl nb1 ?_
        refine x_iinc dX11_alikeMany_81 rfl rfl (inc1 _) ?_
        refine x_iinc dX11_alikeMany_84 rfl rfl (inc1 _) ?_
        refine x_goto (tgt := 39) dX11_alikeMany_87 rfl ?_
        exact x_to (ih c43 _ (r3.sc hC4 q4) ((q2.tr q3).tr q4)) ⟨rfl, rfl, rfl, rfl, rfl, by rw [cN_t (n := i) (e.mpr z)]; rfl, rfl, trivial⟩
      · rw [e3] at z
        have q4 := hS4.sc (by intro q hq; simp only [List.mem_cons, List.not_mem_nil, or_false] at hq; unfold scP; omega)
        refine x_if_eq_t (tgt := 84) dX11_alikeMany_78 rfl nI_0 ?_
        refine x_iinc dX11_alikeMany_84 rfl rfl (inc1 _) ?_
        refine x_goto (tgt := 39) dX11_alikeMany_87 rfl ?_
        exact x_to (ih c43 _ (r3.sc hC4 q4) ((q2.tr q3).tr q4)) ⟨rfl, rfl, rfl, rfl, rfl, by rw [cN_f (n := i) (fun y => z (e.mp y))]; rfl, rfl, trivial⟩) 0 (Nat.zero_le _)
  exact x_to (key h1 k1 xSq.rf) ⟨rfl, rfl, rfl, rfl, rfl, rfl, rfl, trivial⟩
theorem q_doCommute {x y : Nat} (hd : 5 ≤ d) (hC : Cs h) (hx : csV x) (hy : csV y) (nx : x ∉ [11, 107, 108]) (ny : y ∉ [11, 107, 108])
    (Kt : zCom (iv h x) (iv h y) → ∀ h2, Cs h2 → xSm [11, 107, 108] h h2 → Q (some (.int (nI 1))) h2) (Kf : ¬ zCom (iv h x) (iv h y) → ∀ h2, Cs h2 → xSm [11, 107, 108] h h2 → Q (some (.int (nI 0))) h2) : xCt G l mX11_doCommute d [.ref 0, .ref x, .ref y] h 0 0 Q := by
  refine xCt_of (by decide) (Nat.le_of_ble_eq_true rfl) ?_
  have fl : ∀ h2 L, Cs h2 → xSm [11, 107, 108] h h2 → ¬ zCom (iv h x) (iv h y) → xWP G l mX11_doCommute d (zM G Q) 0 0 50 L [] h2 := by
    intro h2 L hC2 hS2 e
    refine x_iconst dX11_doCommute_50 rfl iC_0 ?_
    refine x_ireturn dX11_doCommute_51 rfl rfl ?_
    exact Kf e h2 hC2 hS2
  refine x_aload_n (i := 0) dX11_doCommute_0 rfl rfl rfl ?_
  refine x_getC dX11_doCommute_1 rfl fX11_17 hC rfl F_0_1 ?_
  refine x_aload_n (i := 0) dX11_doCommute_4 rfl rfl rfl ?_
  refine x_getC dX11_doCommute_5 rfl fX11_105 hC rfl F_0_13 ?_
  refine x_aload_n (i := 1) dX11_doCommute_8 rfl rfl rfl ?_
  refine x_aload_n (i := 2) dX11_doCommute_9 rfl rfl rfl ?_
  refine x_callV0 (ci := 7) (b := 10) (As := [_, _, _]) (d2 := d - 1) dX11_doCommute_10 rfl kX11_155 okX7_multiply (hC.o rfl) (fun q hq => by cases hq; rfl) (by omega) rfl rfl (Nat.le_of_ble_eq_true rfl) (c_mul (by omega) hC (t := 107) rfl hx hy (fun z1 g1 h1 hC1 hS1 v1 => ?_) (fun g1 h1 hC1 hS1 => ?_))
  rotate_left
  · refine x_if_eq_t (tgt := 50) dX11_doCommute_13 rfl nI_0 ?_
    exact fl _ _ hC1 (hS1.sub (by simp)) (by rintro ⟨f, g, e1, -⟩; rw [g1] at e1; cases e1)
  have s1 := hS1.sub (T := [11, 107, 108]) (by simp)
  have hC := hC1
  refine x_if_eq_f (tgt := 50) dX11_doCommute_13 rfl rfl nb1 ?_
  refine x_aload_n (i := 0) dX11_doCommute_16 rfl rfl rfl ?_
  refine x_getC dX11_doCommute_17 rfl fX11_17 hC rfl F_0_1 ?_
  refine x_aload_n (i := 0) dX11_doCommute_20 rfl rfl rfl ?_
  refine x_getC dX11_doCommute_21 rfl fX11_108 hC rfl F_0_14 ?_
  refine x_aload_n (i := 2) dX11_doCommute_24 rfl rfl rfl ?_
  refine x_aload_n (i := 1) dX11_doCommute_25 rfl rfl rfl ?_
  refine x_callV0 (ci := 7) (b := 10) (As := [_, _, _]) (d2 := d - 1) dX11_doCommute_26 rfl kX11_155 okX7_multiply (hC.o rfl) (fun q hq => by cases hq; rfl) (by omega) rfl rfl (Nat.le_of_ble_eq_true rfl) (c_mul (by omega) hC (t := 108) rfl hy hx (fun z2 g2 h2 hC2 hS2 v2 => ?_) (fun g2 h2 hC2 hS2 => ?_))
  rotate_left
  · rw [s1.iv nx, s1.iv ny] at g2
    refine x_if_eq_t (tgt := 50) dX11_doCommute_29 rfl nI_0 ?_
    exact fl _ _ hC2 ((s1.tr hS2).sub (by simp)) (by rintro ⟨f, g, -, e1, -⟩; rw [g2] at e1; cases e1)
  rw [s1.iv nx, s1.iv ny] at g2
  have s2 := (s1.tr hS2).sub (T := [11, 107, 108]) (by simp)
  have hC := hC2
  have v107 := hC.v (a := 107) rfl
  have v108 := hC.v (a := 108) rfl
  have e7 : iv h2 107 = z1 := (hS2.iv (by decide)).trans v1
  rw [e7] at v107
  rw [v2] at v108
  refine x_if_eq_f (tgt := 50) dX11_doCommute_29 rfl rfl nb1 ?_
  refine x_aload_n (i := 0) dX11_doCommute_32 rfl rfl rfl ?_
  refine x_getC dX11_doCommute_33 rfl fX11_105 hC rfl F_0_13 ?_
  refine x_aload_n (i := 0) dX11_doCommute_36 rfl rfl rfl ?_
  refine x_getC dX11_doCommute_37 rfl fX11_108 hC rfl F_0_14 ?_
  refine x_callS0 (As := [_, _]) (d2 := d - 1) dX11_doCommute_40 rfl kX11_273 okX5_areEqual (by omega) rfl rfl (Nat.le_of_ble_eq_true rfl) (c_areEqual v107 v108 (fun q => ?_) (fun q => ?_))
  · refine x_if_eq_f (tgt := 50) dX11_doCommute_43 rfl rfl nb1 ?_
    refine x_iconst dX11_doCommute_46 rfl iC_1 ?_
    refine x_goto (tgt := 51) dX11_doCommute_47 rfl ?_
    refine x_ireturn dX11_doCommute_51 rfl rfl ?_
    exact Kt ⟨z1, z2, g1, g2, q⟩ h2 hC2 s2
  · refine x_if_eq_t (tgt := 50) dX11_doCommute_43 rfl nI_0 ?_
    exact fl _ _ hC2 s2 (by rintro ⟨f, g, e1, e2, e3⟩; rw [g1] at e1; rw [g2] at e2; cases e1; cases e2; exact q e3)
theorem p_commuting {a1 n : Int32} (hd : 20 ≤ d) (hR : RC b h S) (hm : h.2 < 800000) (K : ∀ r S2 h2, sp_commuting S a1 n = (r, S2) → RC b h2 S2 → mF h h2 → Q (some (.int r)) h2) : xCt G l mX11_commuting d [.ref 0, .int a1, .int n] h 1 6720 Q := by
  have hC := hR.1
  refine xCt_of (by decide) (Nat.le_of_ble_eq_true rfl) ?_
  refine x_iload_n (i := 1) dX11_commuting_0 rfl rfl rfl ?_
  refine x_callS0 (As := [_]) (d2 := d - 1) dX11_commuting_1 rfl kX11_115 okX11_isEighth (by omega) rfl rfl (Nat.le_of_ble_eq_true rfl) (c_isEighth (fun z => ?_) (fun x hx ex qx => ?_))
  · refine x_if_eq_t (tgt := 14) dX11_commuting_4 rfl nI_0 ?_
    refine x_iconst dX11_commuting_14 rfl iC_m1 ?_
    refine x_ireturn dX11_commuting_15 rfl rfl ?_
    exact K _ _ _ (by simp only [sp_commuting, z] <;> rfl) hR mF.rf
  subst ex
  refine x_if_eq_f (tgt := 14) dX11_commuting_4 rfl rfl nb1 ?_
  refine x_iload_n (i := 2) dX11_commuting_7 rfl rfl rfl ?_
  refine x_callS0 (As := [_]) (d2 := d - 1) dX11_commuting_8 rfl kX11_125 okX11_isListedNorm (by omega) rfl rfl (Nat.le_of_ble_eq_true rfl) (c_isListedNorm (fun z => ?_) (fun mm hmm emm qmm => ?_))
  · refine x_if_ne_f (tgt := 16) dX11_commuting_11 rfl rfl nI_0 ?_
    refine x_iconst dX11_commuting_14 rfl iC_m1 ?_
    refine x_ireturn dX11_commuting_15 rfl rfl ?_
    exact K _ _ _ (by simp only [sp_commuting, qx, z] <;> rfl) hR mF.rf
  subst emm
  refine x_if_ne_t (tgt := 16) dX11_commuting_11 rfl nb1 ?_
  have en : sp_commuting S (nI x) (nI mm) = (nI (cN (fun k => zCom (S.1 x) (zEl S.2.1 mm k)) (zLst S.2.1 mm).1), S) := by simp only [sp_commuting, qx, qmm]
  have rl := zRoom_le mm hmm
  have sm := zLst_sm (o := S.2.1) (norm := mm) hmm
  refine x_aload_n (i := 0) dX11_commuting_16 rfl rfl rfl ?_
  refine x_getC dX11_commuting_17 rfl fX11_33 hC rfl F_0_3 ?_
  refine x_iload_n (i := 2) dX11_commuting_20 rfl rfl rfl ?_
  refine x_callV (ci := 4) (b := 22) (As := [_]) (d2 := d - 1) (mc2 := 1) (ms2 := zRoom mm) (k2 := 0) (n2 := 0) dX11_commuting_21 rfl kX11_276 okX4_manyOf (hC.o rfl) (fun q hq => by cases hq; rfl) (by omega) rfl rfl (Nat.le_of_ble_eq_true rfl) (by omega) (by omega) (q_many (by omega) hR hm hmm (fun h1 k1 k2 k3 => ?_))
  refine x_istore_n (i := 3) dX11_commuting_24 rfl rfl (by decide) ?_
  refine x_iconst dX11_commuting_25 rfl iC_0 ?_
  refine x_istore dX11_commuting_26 rfl (by decide) ?_
  refine x_iconst dX11_commuting_28 rfl iC_0 ?_
  refine x_istore dX11_commuting_29 rfl (by decide) ?_
  have key := xloop (P := fun i => ∀ h2, RCn b mm h2 S → xSq scP h1 h2 → xWP G l mX11_commuting d (zM G Q) 0 0 31 (xls [(0, .ref 0), (1, .int (nI x)), (2, .int (nI mm)), (3, .int (nI (zLst S.2.1 mm).1)), (4, .int (nI (cN (fun k => zCom (S.1 x) (zEl S.2.1 mm k)) i))), (5, .int (nI i))]) [] h2) (zLst S.2.1 mm).1 (by
    intro i hi ih h2 r2 q2
    have hC := r2.1.1
    refine x_iload dX11_commuting_31 rfl rfl ?_
    refine x_iload_n (i := 3) dX11_commuting_33 rfl rfl rfl ?_
    refine x_jc_ge (tgt := 80) dX11_commuting_34 rfl rfl (by omega) (by omega) (fun c34 => ?_) (fun c34 => ?_)
    · obtain rfl : i = (zLst S.2.1 mm).1 := by omega
      refine x_iload dX11_commuting_80 rfl rfl ?_
      refine x_ireturn dX11_commuting_82 rfl rfl ?_
      exact K _ _ _ en r2.1 (k2.trq q2)
    · refine x_aload_n (i := 0) dX11_commuting_37 rfl rfl rfl ?_
      refine x_getC dX11_commuting_38 rfl fX11_33 hC rfl F_0_3 ?_
      refine x_aload_n (i := 0) dX11_commuting_41 rfl rfl rfl ?_
      refine x_getC dX11_commuting_42 rfl fX11_101 hC rfl F_0_12 ?_
      refine x_iload_n (i := 2) dX11_commuting_45 rfl rfl rfl ?_
      refine x_iload dX11_commuting_46 rfl rfl ?_
      refine x_callV0 (ci := 4) (b := 22) (As := [_, _, _]) (d2 := d - 1) dX11_commuting_48 rfl kX11_128 okX4_take (hC.o rfl) (fun q hq => by cases hq; rfl) (by omega) rfl rfl (Nat.le_of_ble_eq_true rfl) (q_takeC (by omega) r2 hmm (a := 106) rfl c34 ?_)
      have hC2 := hC.setI (f := zEl S.2.1 mm i) (hC.v (a := 106) rfl) (Or.inl rfl) (by decide)
      have q3 : xSq scP h2 (hs h2 106 (0, 8, xI (zEl S.2.1 mm i))) := xSm.hs1.sc (by intro q hq; simp only [List.mem_cons, List.not_mem_nil, or_false] at hq; unfold scP; omega)
      have r3 := r2.sc hC2 q3
      have e3 : iv (hs h2 106 (0, 8, xI (zEl S.2.1 mm i))) 106 = zEl S.2.1 mm i := iv_hs
      have e := zCom_e (y := zEl S.2.1 mm i) (r3.1.c hx)
      have hC := hC2
      refine x_if_eq_f (tgt := 74) dX11_commuting_51 rfl rfl nb1 ?_
      refine x_aload_n (i := 0) dX11_commuting_54 rfl rfl rfl ?_
      refine x_aload_n (i := 0) dX11_commuting_55 rfl rfl rfl ?_
      refine x_getC dX11_commuting_56 rfl fX11_11 hC rfl F_0_0 ?_
      refine x_iload_n (i := 1) dX11_commuting_59 rfl rfl rfl ?_
      refine x_aaldC (t := 0) dX11_commuting_60 rfl hC rfl (by decide) rfl (by omega) (by decide) (csF_slot hx) ?_
      refine x_aload_n (i := 0) dX11_commuting_61 rfl rfl rfl ?_
      refine x_getC dX11_commuting_62 rfl fX11_101 hC rfl F_0_12 ?_
      refine x_callV0 (ci := 11) (b := 0) (As := [_, _]) (d2 := d - 1) dX11_commuting_65 rfl kX11_291 okX11_doCommute (hC.o rfl) (fun q hq => by cases hq; rfl) (by omega) rfl rfl (Nat.le_of_ble_eq_true rfl) (q_doCommute (by omega) hC (csV_slot hx) (y := 106) rfl (by simp only [List.mem_cons, List.not_mem_nil, or_false, not_or]; omega) (by decide) (fun z h4 hC4 hS4 => ?_) (fun z h4 hC4 hS4 => ?_))
      · rw [e3] at z
        have q4 := hS4.sc (by intro q hq; simp only [List.mem_cons, List.not_mem_nil, or_false] at hq; unfold scP; omega)
        refine x_if_eq_f (tgt := 74) dX11_commuting_68 rfl rfl nb1 ?_
        refine x_iinc dX11_commuting_71 rfl rfl (inc1 _) ?_
        refine x_iinc dX11_commuting_74 rfl rfl (inc1 _) ?_
        refine x_goto (tgt := 31) dX11_commuting_77 rfl ?_
        exact x_to (ih c34 _ (r3.sc hC4 q4) ((q2.tr q3).tr q4)) ⟨rfl, rfl, rfl, rfl, by rw [cN_t (n := i) (e.mpr z)]; rfl, rfl, trivial⟩
      · rw [e3] at z
        have q4 := hS4.sc (by intro q hq; simp only [List.mem_cons, List.not_mem_nil, or_false] at hq; unfold scP; omega)
        refine x_if_eq_t (tgt := 74) dX11_commuting_68 rfl nI_0 ?_
        refine x_iinc dX11_commuting_74 rfl rfl (inc1 _) ?_
        refine x_goto (tgt := 31) dX11_commuting_77 rfl ?_
        exact x_to (ih c34 _ (r3.sc hC4 q4) ((q2.tr q3).tr q4)) ⟨rfl, rfl, rfl, rfl, by rw [cN_f (n := i) (fun y => z (e.mp y))]; rfl, rfl, trivial⟩) 0 (Nat.zero_le _)
  exact x_to (key h1 k1 xSq.rf) ⟨rfl, rfl, rfl, rfl, rfl, rfl, trivial⟩
theorem p_sides {a1 a2 : Int32} {right : Nat} (hd : 20 ≤ d) (hR : RC b h S) (hm : h.2 < 800000) (hr : right < 2) (K : ∀ r S2 h2, sp_sides S a1 a2 right = (r, S2) → RC b h2 S2 → mF h h2 → Q (some (.int r)) h2) : xCt G l mX11_sides d [.ref 0, .int a1, .int a2, .int (nI right)] h 1 6720 Q := by
  have hC := hR.1
  refine xCt_of (by decide) (Nat.le_of_ble_eq_true rfl) ?_
  refine x_iload_n (i := 1) dX11_sides_0 rfl rfl rfl ?_
  refine x_iload_n (i := 2) dX11_sides_1 rfl rfl rfl ?_
  refine x_callS0 (As := [_, _]) (d2 := d - 1) dX11_sides_2 rfl kX11_132 okX11_areSlots (by omega) rfl rfl (Nat.le_of_ble_eq_true rfl) (c_areSlots2 (by omega) (fun z => ?_) (fun x y hx hy ex ey qx qy => ?_))
  · refine x_if_ne_f (tgt := 10) dX11_sides_5 rfl rfl nI_0 ?_
    refine x_iconst dX11_sides_8 rfl iC_m1 ?_
    refine x_ireturn dX11_sides_9 rfl rfl ?_
    exact K _ _ _ (by rcases z with z | ⟨i, z0, z⟩; exact (by simp only [sp_sides, z] <;> rfl); exact (by simp only [sp_sides, z0, z] <;> rfl)) hR mF.rf
  subst ex ey
  refine x_if_ne_t (tgt := 10) dX11_sides_5 rfl nb1 ?_
  have en : sp_sides S (nI x) (nI y) right = (nI (cN (fun k => ∃ f, oTurn (S.1 x) (zEl S.2.1 1 k) right = some f ∧ zSame f (S.1 y)) (zLst S.2.1 1).1), S) := by simp only [sp_sides, qx, qy]
  have sm := zLst_sm (o := S.2.1) (norm := 1) (by decide)
  have rl := zRoom_le 1 (by decide)
  have go : xWP G l mX11_sides d (zM G Q) 1 6720 19 (xls [(0, .ref 0), (1, .int (nI x)), (2, .int (nI y))]) [.int (nI right)] h := by
    refine x_istore dX11_sides_19 rfl (by decide) ?_
    refine x_aload_n (i := 0) dX11_sides_21 rfl rfl rfl ?_
    refine x_getC dX11_sides_22 rfl fX11_33 hC rfl F_0_3 ?_
    refine x_iconst dX11_sides_25 rfl iC_1 ?_
    refine x_callV (ci := 4) (b := 22) (As := [_]) (d2 := d - 1) (mc2 := 1) (ms2 := zRoom 1) (k2 := 0) (n2 := 0) dX11_sides_26 rfl kX11_276 okX4_manyOf (hC.o rfl) (fun q hq => by cases hq; rfl) (by omega) rfl rfl (Nat.le_of_ble_eq_true rfl) (by omega) (by omega) (q_many (norm := 1) (by omega) hR hm (by decide) (fun h1 k1 k2 k3 => ?_))
    refine x_istore dX11_sides_29 rfl (by decide) ?_
    refine x_iconst dX11_sides_31 rfl iC_0 ?_
    refine x_istore dX11_sides_32 rfl (by decide) ?_
    refine x_iconst dX11_sides_34 rfl iC_0 ?_
    refine x_istore dX11_sides_35 rfl (by decide) ?_
    have key := xloop (P := fun i => ∀ h2, RCn b 1 h2 S → xSq scP h1 h2 → xWP G l mX11_sides d (zM G Q) 0 0 37 (xls [(0, .ref 0), (1, .int (nI x)), (2, .int (nI y)), (4, .int (nI right)), (5, .int (nI (zLst S.2.1 1).1)), (6, .int (nI (cN (fun k => ∃ f, oTurn (S.1 x) (zEl S.2.1 1 k) right = some f ∧ zSame f (S.1 y)) i))), (7, .int (nI i))]) [] h2) (zLst S.2.1 1).1 (by
      intro i hi ih h2 r2 q2
      have hC := r2.1.1
      refine x_iload dX11_sides_37 rfl rfl ?_
      refine x_iload dX11_sides_39 rfl rfl ?_
      refine x_jc_ge (tgt := 112) dX11_sides_41 rfl rfl (by omega) (by omega) (fun c41 => ?_) (fun c41 => ?_)
      · obtain rfl : i = (zLst S.2.1 1).1 := by omega
        refine x_iload dX11_sides_112 rfl rfl ?_
        refine x_ireturn dX11_sides_114 rfl rfl ?_
        exact K _ _ _ en r2.1 (k2.trq q2)
      · refine x_aload_n (i := 0) dX11_sides_44 rfl rfl rfl ?_
        refine x_getC dX11_sides_45 rfl fX11_33 hC rfl F_0_3 ?_
        refine x_aload_n (i := 0) dX11_sides_48 rfl rfl rfl ?_
        refine x_getC dX11_sides_49 rfl fX11_101 hC rfl F_0_12 ?_
        refine x_iconst dX11_sides_52 rfl iC_1 ?_
        refine x_iload dX11_sides_53 rfl rfl ?_
        refine x_callV0 (ci := 4) (b := 22) (As := [_, _, _]) (d2 := d - 1) dX11_sides_55 rfl kX11_128 okX4_take (hC.o rfl) (fun q hq => by cases hq; rfl) (by omega) rfl rfl (Nat.le_of_ble_eq_true rfl) (q_takeC (norm := 1) (by omega) r2 (by decide) (a := 106) rfl c41 ?_)
        have hC2 := hC.setI (f := zEl S.2.1 1 i) (hC.v (a := 106) rfl) (Or.inl rfl) (by decide)
        have q3 : xSq scP h2 (hs h2 106 (0, 8, xI (zEl S.2.1 1 i))) := xSm.hs1.sc (by intro q hq; simp only [List.mem_cons, List.not_mem_nil, or_false] at hq; unfold scP; omega)
        have r3 := r2.sc hC2 q3
        have e3 : iv (hs h2 106 (0, 8, xI (zEl S.2.1 1 i))) 106 = zEl S.2.1 1 i := iv_hs
        have e := oTurn_e (g := zEl S.2.1 1 i) (how := right) (r3.1.c hx) rfl
        have hC := hC2
        refine x_if_eq_f (tgt := 106) dX11_sides_58 rfl rfl nb1 ?_
        refine x_aload_n (i := 0) dX11_sides_61 rfl rfl rfl ?_
        refine x_getC dX11_sides_62 rfl fX11_17 hC rfl F_0_1 ?_
        refine x_aload_n (i := 0) dX11_sides_65 rfl rfl rfl ?_
        refine x_getC dX11_sides_66 rfl fX11_105 hC rfl F_0_13 ?_
        refine x_aload_n (i := 0) dX11_sides_69 rfl rfl rfl ?_
        refine x_getC dX11_sides_70 rfl fX11_11 hC rfl F_0_0 ?_
        refine x_iload_n (i := 1) dX11_sides_73 rfl rfl rfl ?_
        refine x_aaldC (t := 0) dX11_sides_74 rfl hC rfl (by decide) rfl (by omega) (by decide) (csF_slot hx) ?_
        refine x_aload_n (i := 0) dX11_sides_75 rfl rfl rfl ?_
        refine x_getC dX11_sides_76 rfl fX11_101 hC rfl F_0_12 ?_
        refine x_iload dX11_sides_79 rfl rfl ?_
        refine x_callV0 (ci := 7) (b := 10) (As := [_, _, _, _]) (d2 := d - 1) dX11_sides_81 rfl kX11_169 okX7_turnBy (hC.o rfl) (fun q hq => by cases hq; rfl) (by omega) rfl rfl (Nat.le_of_ble_eq_true rfl) (c_turnBy (by omega) hC (t := 107) rfl (csV_slot hx) (b := 106) rfl (by omega) (by decide) (by omega) (fun z hz h4 hC4 hS4 hv => ?_) (fun hz h4 hC4 hS4 => ?_))
        · rw [e3, ← e] at hz
          have q4 := hS4.sc (by intro q hq; simp only [List.mem_cons, List.not_mem_nil, or_false] at hq; unfold scP; omega)
          have r4 := r3.sc hC4 q4
          have hC := hC4
          have v107 := hC.v (a := 107) rfl
          have vy := hC.v (csV_slot hy)
          rw [hv] at v107
          have es := zSame_e (f := z) rfl (r4.1.c hy)
          refine x_if_eq_f (tgt := 106) dX11_sides_84 rfl rfl nb1 ?_
          refine x_aload_n (i := 0) dX11_sides_87 rfl rfl rfl ?_
          refine x_getC dX11_sides_88 rfl fX11_105 hC rfl F_0_13 ?_
          refine x_aload_n (i := 0) dX11_sides_91 rfl rfl rfl ?_
          refine x_getC dX11_sides_92 rfl fX11_11 hC rfl F_0_0 ?_
          refine x_iload_n (i := 2) dX11_sides_95 rfl rfl rfl ?_
          refine x_aaldC (t := 0) dX11_sides_96 rfl hC rfl (by decide) rfl (by omega) (by decide) (csF_slot hy) ?_
          refine x_callS0 (As := [_, _]) (d2 := d - 1) dX11_sides_97 rfl kX11_273 okX5_areEqual (by omega) rfl rfl (Nat.le_of_ble_eq_true rfl) (c_areEqual v107 vy (fun q => ?_) (fun q => ?_))
          · refine x_if_eq_f (tgt := 106) dX11_sides_100 rfl rfl nb1 ?_
            refine x_iinc dX11_sides_103 rfl rfl (inc1 _) ?_
            refine x_iinc dX11_sides_106 rfl rfl (inc1 _) ?_
            refine x_goto (tgt := 37) dX11_sides_109 rfl ?_
            exact x_to (ih c41 _ r4 ((q2.tr q3).tr q4)) ⟨rfl, rfl, rfl, rfl, rfl, by rw [cN_t (n := i) ⟨z, hz, es.mpr q⟩]; rfl, rfl, trivial⟩
          · refine x_if_eq_t (tgt := 106) dX11_sides_100 rfl nI_0 ?_
            refine x_iinc dX11_sides_106 rfl rfl (inc1 _) ?_
            refine x_goto (tgt := 37) dX11_sides_109 rfl ?_
            exact x_to (ih c41 _ r4 ((q2.tr q3).tr q4)) ⟨rfl, rfl, rfl, rfl, rfl, by rw [cN_f (n := i) (by rintro ⟨f, e1, e2⟩; rw [hz] at e1; cases e1; exact q (es.mp e2))]; rfl, rfl, trivial⟩
        · rw [e3, ← e] at hz
          have q4 := hS4.sc (by intro q hq; simp only [List.mem_cons, List.not_mem_nil, or_false] at hq; unfold scP; omega)
          refine x_if_eq_t (tgt := 106) dX11_sides_84 rfl nI_0 ?_
          refine x_iinc dX11_sides_106 rfl rfl (inc1 _) ?_
          refine x_goto (tgt := 37) dX11_sides_109 rfl ?_
          exact x_to (ih c41 _ (r3.sc hC4 q4) ((q2.tr q3).tr q4)) ⟨rfl, rfl, rfl, rfl, rfl, by rw [cN_f (n := i) (by rintro ⟨f, e1, e2⟩; rw [hz] at e1; cases e1)]; rfl, rfl, trivial⟩) 0 (Nat.zero_le _)
    exact x_to (key h1 k1 xSq.rf) ⟨rfl, rfl, rfl, rfl, rfl, rfl, rfl, trivial⟩
  rcases (show right = 0 ∨ right = 1 by omega) with rfl | rfl
  · refine x_iload_n (i := 3) dX11_sides_10 rfl rfl rfl ?_
    refine x_if_eq_t (tgt := 18) dX11_sides_11 rfl nI_0 ?_
    refine x_iconst dX11_sides_18 rfl iC_0 ?_
    exact x_to go ⟨rfl, rfl, rfl, trivial⟩
  · refine x_iload_n (i := 3) dX11_sides_10 rfl rfl rfl ?_
    refine x_if_eq_f (tgt := 18) dX11_sides_11 rfl rfl nb1 ?_
    refine x_iconst dX11_sides_14 rfl iC_1 ?_
    refine x_goto (tgt := 19) dX11_sides_15 rfl ?_
    exact x_to go ⟨rfl, rfl, rfl, trivial⟩
theorem q_doAssociate {x y z : Nat} (hd : 5 ≤ d) (hC : Cs h) (hx : csV x) (hy : csV y) (hz : csV z) (nx : x ∉ [11, 107, 108]) (ny : y ∉ [11, 107, 108]) (nz : z ∉ [11, 107, 108])
    (Kt : zAss (iv h x) (iv h y) (iv h z) → ∀ h2, Cs h2 → xSm [11, 107, 108] h h2 → Q (some (.int (nI 1))) h2) (Kf : ¬ zAss (iv h x) (iv h y) (iv h z) → ∀ h2, Cs h2 → xSm [11, 107, 108] h h2 → Q (some (.int (nI 0))) h2) : xCt G l mX11_doAssociate d [.ref 0, .ref x, .ref y, .ref z] h 0 0 Q := by
  refine xCt_of (by decide) (Nat.le_of_ble_eq_true rfl) ?_
  have fl : ∀ h2 L, Cs h2 → xSm [11, 107, 108] h h2 → ¬ zAss (iv h x) (iv h y) (iv h z) → xWP G l mX11_doAssociate d (zM G Q) 0 0 88 L [] h2 := by
    intro h2 L hC2 hS2 e
    refine x_iconst dX11_doAssociate_88 rfl iC_0 ?_
    refine x_ireturn dX11_doAssociate_89 rfl rfl ?_
    exact Kf e h2 hC2 hS2
  refine x_aload_n (i := 0) dX11_doAssociate_0 rfl rfl rfl ?_
  refine x_getC dX11_doAssociate_1 rfl fX11_17 hC rfl F_0_1 ?_
  refine x_aload_n (i := 0) dX11_doAssociate_4 rfl rfl rfl ?_
  refine x_getC dX11_doAssociate_5 rfl fX11_105 hC rfl F_0_13 ?_
  refine x_aload_n (i := 1) dX11_doAssociate_8 rfl rfl rfl ?_
  refine x_aload_n (i := 2) dX11_doAssociate_9 rfl rfl rfl ?_
  refine x_callV0 (ci := 7) (b := 10) (As := [_, _, _]) (d2 := d - 1) dX11_doAssociate_10 rfl kX11_155 okX7_multiply (hC.o rfl) (fun q hq => by cases hq; rfl) (by omega) rfl rfl (Nat.le_of_ble_eq_true rfl) (c_mul (by omega) hC (t := 107) rfl hx hy (fun z1 g1 h1 hC1 hS1 v1 => ?_) (fun g1 h1 hC1 hS1 => ?_))
  rotate_left
  · refine x_if_eq_t (tgt := 88) dX11_doAssociate_13 rfl nI_0 ?_
    exact fl _ _ hC1 (hS1.sub (by simp)) (by rintro ⟨f, f2, g, g2, e1, -⟩; rw [g1] at e1; cases e1)
  have s1 := hS1.sub (T := [11, 107, 108]) (by simp)
  have hC := hC1
  refine x_if_eq_f (tgt := 88) dX11_doAssociate_13 rfl rfl nb1 ?_
  refine x_aload_n (i := 0) dX11_doAssociate_16 rfl rfl rfl ?_
  refine x_getC dX11_doAssociate_17 rfl fX11_17 hC rfl F_0_1 ?_
  refine x_aload_n (i := 0) dX11_doAssociate_20 rfl rfl rfl ?_
  refine x_getC dX11_doAssociate_21 rfl fX11_105 hC rfl F_0_13 ?_
  refine x_aload_n (i := 0) dX11_doAssociate_24 rfl rfl rfl ?_
  refine x_getC dX11_doAssociate_25 rfl fX11_105 hC rfl F_0_13 ?_
  refine x_aload_n (i := 3) dX11_doAssociate_28 rfl rfl rfl ?_
  refine x_callV0 (ci := 7) (b := 10) (As := [_, _, _]) (d2 := d - 1) dX11_doAssociate_29 rfl kX11_155 okX7_multiply (hC.o rfl) (fun q hq => by cases hq; rfl) (by omega) rfl rfl (Nat.le_of_ble_eq_true rfl) (c_mul (by omega) hC (t := 107) rfl (a := 107) rfl hz (fun z2 g2 h2 hC2 hS2 v2 => ?_) (fun g2 h2 hC2 hS2 => ?_))
  rotate_left
  · rw [v1, s1.iv nz] at g2
    refine x_if_eq_t (tgt := 88) dX11_doAssociate_32 rfl nI_0 ?_
    exact fl _ _ hC2 ((s1.tr hS2).sub (by simp)) (by rintro ⟨f, f2, g, g3, e1, e2, -⟩; rw [g1] at e1; cases e1; rw [g2] at e2; cases e2)
  rw [v1, s1.iv nz] at g2
  have s2 := (s1.tr hS2).sub (T := [11, 107, 108]) (by simp)
  have hC := hC2
  refine x_if_eq_f (tgt := 88) dX11_doAssociate_32 rfl rfl nb1 ?_
  refine x_aload_n (i := 0) dX11_doAssociate_35 rfl rfl rfl ?_
  refine x_getC dX11_doAssociate_36 rfl fX11_17 hC rfl F_0_1 ?_
  refine x_aload_n (i := 0) dX11_doAssociate_39 rfl rfl rfl ?_
  refine x_getC dX11_doAssociate_40 rfl fX11_108 hC rfl F_0_14 ?_
  refine x_aload_n (i := 2) dX11_doAssociate_43 rfl rfl rfl ?_
  refine x_aload_n (i := 3) dX11_doAssociate_44 rfl rfl rfl ?_
  refine x_callV0 (ci := 7) (b := 10) (As := [_, _, _]) (d2 := d - 1) dX11_doAssociate_45 rfl kX11_155 okX7_multiply (hC.o rfl) (fun q hq => by cases hq; rfl) (by omega) rfl rfl (Nat.le_of_ble_eq_true rfl) (c_mul (by omega) hC (t := 108) rfl hy hz (fun z3 g3 h3 hC3 hS3 v3 => ?_) (fun g3 h3 hC3 hS3 => ?_))
  rotate_left
  · rw [s2.iv ny, s2.iv nz] at g3
    refine x_if_eq_t (tgt := 88) dX11_doAssociate_48 rfl nI_0 ?_
    exact fl _ _ hC3 ((s2.tr hS3).sub (by simp)) (by rintro ⟨f, f2, g, g4, -, -, e1, -⟩; rw [g3] at e1; cases e1)
  rw [s2.iv ny, s2.iv nz] at g3
  have s3 := (s2.tr hS3).sub (T := [11, 107, 108]) (by simp)
  have hC := hC3
  refine x_if_eq_f (tgt := 88) dX11_doAssociate_48 rfl rfl nb1 ?_
  refine x_aload_n (i := 0) dX11_doAssociate_51 rfl rfl rfl ?_
  refine x_getC dX11_doAssociate_52 rfl fX11_17 hC rfl F_0_1 ?_
  refine x_aload_n (i := 0) dX11_doAssociate_55 rfl rfl rfl ?_
  refine x_getC dX11_doAssociate_56 rfl fX11_108 hC rfl F_0_14 ?_
  refine x_aload_n (i := 1) dX11_doAssociate_59 rfl rfl rfl ?_
  refine x_aload_n (i := 0) dX11_doAssociate_60 rfl rfl rfl ?_
  refine x_getC dX11_doAssociate_61 rfl fX11_108 hC rfl F_0_14 ?_
  refine x_callV0 (ci := 7) (b := 10) (As := [_, _, _]) (d2 := d - 1) dX11_doAssociate_64 rfl kX11_155 okX7_multiply (hC.o rfl) (fun q hq => by cases hq; rfl) (by omega) rfl rfl (Nat.le_of_ble_eq_true rfl) (c_mul (by omega) hC (t := 108) rfl hx (b := 108) rfl (fun z4 g4 h4 hC4 hS4 v4 => ?_) (fun g4 h4 hC4 hS4 => ?_))
  rotate_left
  · rw [s3.iv nx, v3] at g4
    refine x_if_eq_t (tgt := 88) dX11_doAssociate_67 rfl nI_0 ?_
    exact fl _ _ hC4 ((s3.tr hS4).sub (by simp)) (by rintro ⟨f, f2, g, g5, -, -, e1, e2, -⟩; rw [g3] at e1; cases e1; rw [g4] at e2; cases e2)
  rw [s3.iv nx, v3] at g4
  have s4 := (s3.tr hS4).sub (T := [11, 107, 108]) (by simp)
  have hC := hC4
  have v107 := hC.v (a := 107) rfl
  have v108 := hC.v (a := 108) rfl
  have e7 : iv h4 107 = z2 := by rw [hS4.iv (by decide), hS3.iv (by decide)]; exact v2
  rw [e7] at v107
  rw [v4] at v108
  refine x_if_eq_f (tgt := 88) dX11_doAssociate_67 rfl rfl nb1 ?_
  refine x_aload_n (i := 0) dX11_doAssociate_70 rfl rfl rfl ?_
  refine x_getC dX11_doAssociate_71 rfl fX11_105 hC rfl F_0_13 ?_
  refine x_aload_n (i := 0) dX11_doAssociate_74 rfl rfl rfl ?_
  refine x_getC dX11_doAssociate_75 rfl fX11_108 hC rfl F_0_14 ?_
  refine x_callS0 (As := [_, _]) (d2 := d - 1) dX11_doAssociate_78 rfl kX11_273 okX5_areEqual (by omega) rfl rfl (Nat.le_of_ble_eq_true rfl) (c_areEqual v107 v108 (fun q => ?_) (fun q => ?_))
  · refine x_if_eq_f (tgt := 88) dX11_doAssociate_81 rfl rfl nb1 ?_
    refine x_iconst dX11_doAssociate_84 rfl iC_1 ?_
    refine x_goto (tgt := 89) dX11_doAssociate_85 rfl ?_
    refine x_ireturn dX11_doAssociate_89 rfl rfl ?_
    exact Kt ⟨z1, z2, z3, z4, g1, g2, g3, g4, q⟩ h4 hC4 s4
  · refine x_if_eq_t (tgt := 88) dX11_doAssociate_81 rfl nI_0 ?_
    exact fl _ _ hC4 s4 (by rintro ⟨f, f2, g, g5, e1, e2, e3, e4, e5⟩; rw [g1] at e1; cases e1; rw [g2] at e2; cases e2; rw [g3] at e3; cases e3; rw [g4] at e4; cases e4; exact q e5)
theorem p_nucleus {a1 a2 : Int32} (hd : 20 ≤ d) (hR : RC b h S) (hm : h.2 < 800000) (K : ∀ r S2 h2, sp_nucleus S a1 a2 = (r, S2) → RC b h2 S2 → mF h h2 → Q (some (.int r)) h2) : xCt G l mX11_nucleus d [.ref 0, .int a1, .int a2] h 1 6720 Q := by
  have hC := hR.1
  refine xCt_of (by decide) (Nat.le_of_ble_eq_true rfl) ?_
  refine x_iload_n (i := 1) dX11_nucleus_0 rfl rfl rfl ?_
  refine x_iload_n (i := 2) dX11_nucleus_1 rfl rfl rfl ?_
  refine x_callS0 (As := [_, _]) (d2 := d - 1) dX11_nucleus_2 rfl kX11_132 okX11_areSlots (by omega) rfl rfl (Nat.le_of_ble_eq_true rfl) (c_areSlots2 (by omega) (fun z => ?_) (fun x y hx hy ex ey qx qy => ?_))
  · refine x_if_ne_f (tgt := 10) dX11_nucleus_5 rfl rfl nI_0 ?_
    refine x_iconst dX11_nucleus_8 rfl iC_m1 ?_
    refine x_ireturn dX11_nucleus_9 rfl rfl ?_
    exact K _ _ _ (by rcases z with z | ⟨i, z0, z⟩; exact (by simp only [sp_nucleus, z] <;> rfl); exact (by simp only [sp_nucleus, z0, z] <;> rfl)) hR mF.rf
  subst ex ey
  refine x_if_ne_t (tgt := 10) dX11_nucleus_5 rfl nb1 ?_
  have en : sp_nucleus S (nI x) (nI y) = (nI (cN (fun k => zAss (zEl S.2.1 1 k) (S.1 x) (S.1 y)) (zLst S.2.1 1).1), S) := by simp only [sp_nucleus, qx, qy]
  have sm := zLst_sm (o := S.2.1) (norm := 1) (by decide)
  have rl := zRoom_le 1 (by decide)
  refine x_aload_n (i := 0) dX11_nucleus_10 rfl rfl rfl ?_
  refine x_getC dX11_nucleus_11 rfl fX11_33 hC rfl F_0_3 ?_
  refine x_iconst dX11_nucleus_14 rfl iC_1 ?_
  refine x_callV (ci := 4) (b := 22) (As := [_]) (d2 := d - 1) (mc2 := 1) (ms2 := zRoom 1) (k2 := 0) (n2 := 0) dX11_nucleus_15 rfl kX11_276 okX4_manyOf (hC.o rfl) (fun q hq => by cases hq; rfl) (by omega) rfl rfl (Nat.le_of_ble_eq_true rfl) (by omega) (by omega) (q_many (norm := 1) (by omega) hR hm (by decide) (fun h1 k1 k2 k3 => ?_))
  refine x_istore_n (i := 3) dX11_nucleus_18 rfl rfl (by decide) ?_
  refine x_iconst dX11_nucleus_19 rfl iC_0 ?_
  refine x_istore dX11_nucleus_20 rfl (by decide) ?_
  refine x_iconst dX11_nucleus_22 rfl iC_0 ?_
  refine x_istore dX11_nucleus_23 rfl (by decide) ?_
  have key := xloop (P := fun i => ∀ h2, RCn b 1 h2 S → xSq scP h1 h2 → xWP G l mX11_nucleus d (zM G Q) 0 0 25 (xls [(0, .ref 0), (1, .int (nI x)), (2, .int (nI y)), (3, .int (nI (zLst S.2.1 1).1)), (4, .int (nI (cN (fun k => zAss (zEl S.2.1 1 k) (S.1 x) (S.1 y)) i))), (5, .int (nI i))]) [] h2) (zLst S.2.1 1).1 (by
    intro i hi ih h2 r2 q2
    have hC := r2.1.1
    refine x_iload dX11_nucleus_25 rfl rfl ?_
    refine x_iload_n (i := 3) dX11_nucleus_27 rfl rfl rfl ?_
    refine x_jc_ge (tgt := 80) dX11_nucleus_28 rfl rfl (by omega) (by omega) (fun c28 => ?_) (fun c28 => ?_)
    · obtain rfl : i = (zLst S.2.1 1).1 := by omega
      refine x_iload dX11_nucleus_80 rfl rfl ?_
      refine x_ireturn dX11_nucleus_82 rfl rfl ?_
      exact K _ _ _ en r2.1 (k2.trq q2)
    · refine x_aload_n (i := 0) dX11_nucleus_31 rfl rfl rfl ?_
      refine x_getC dX11_nucleus_32 rfl fX11_33 hC rfl F_0_3 ?_
      refine x_aload_n (i := 0) dX11_nucleus_35 rfl rfl rfl ?_
      refine x_getC dX11_nucleus_36 rfl fX11_101 hC rfl F_0_12 ?_
      refine x_iconst dX11_nucleus_39 rfl iC_1 ?_
      refine x_iload dX11_nucleus_40 rfl rfl ?_
      refine x_callV0 (ci := 4) (b := 22) (As := [_, _, _]) (d2 := d - 1) dX11_nucleus_42 rfl kX11_128 okX4_take (hC.o rfl) (fun q hq => by cases hq; rfl) (by omega) rfl rfl (Nat.le_of_ble_eq_true rfl) (q_takeC (norm := 1) (by omega) r2 (by decide) (a := 106) rfl c28 ?_)
      have hC2 := hC.setI (f := zEl S.2.1 1 i) (hC.v (a := 106) rfl) (Or.inl rfl) (by decide)
      have q3 : xSq scP h2 (hs h2 106 (0, 8, xI (zEl S.2.1 1 i))) := xSm.hs1.sc (by intro q hq; simp only [List.mem_cons, List.not_mem_nil, or_false] at hq; unfold scP; omega)
      have r3 := r2.sc hC2 q3
      have e3 : iv (hs h2 106 (0, 8, xI (zEl S.2.1 1 i))) 106 = zEl S.2.1 1 i := iv_hs
      have e := zAss_e (x := zEl S.2.1 1 i) (r3.1.c hx) (r3.1.c hy)
      have hC := hC2
      refine x_if_eq_f (tgt := 74) dX11_nucleus_45 rfl rfl nb1 ?_
      refine x_aload_n (i := 0) dX11_nucleus_48 rfl rfl rfl ?_
      refine x_aload_n (i := 0) dX11_nucleus_49 rfl rfl rfl ?_
      refine x_getC dX11_nucleus_50 rfl fX11_101 hC rfl F_0_12 ?_
      refine x_aload_n (i := 0) dX11_nucleus_53 rfl rfl rfl ?_
      refine x_getC dX11_nucleus_54 rfl fX11_11 hC rfl F_0_0 ?_
      refine x_iload_n (i := 1) dX11_nucleus_57 rfl rfl rfl ?_
      refine x_aaldC (t := 0) dX11_nucleus_58 rfl hC rfl (by decide) rfl (by omega) (by decide) (csF_slot hx) ?_
      refine x_aload_n (i := 0) dX11_nucleus_59 rfl rfl rfl ?_
      refine x_getC dX11_nucleus_60 rfl fX11_11 hC rfl F_0_0 ?_
      refine x_iload_n (i := 2) dX11_nucleus_63 rfl rfl rfl ?_
      refine x_aaldC (t := 0) dX11_nucleus_64 rfl hC rfl (by decide) rfl (by omega) (by decide) (csF_slot hy) ?_
      refine x_callV0 (ci := 11) (b := 0) (As := [_, _, _]) (d2 := d - 1) dX11_nucleus_65 rfl kX11_328 okX11_doAssociate (hC.o rfl) (fun q hq => by cases hq; rfl) (by omega) rfl rfl (Nat.le_of_ble_eq_true rfl) (q_doAssociate (by omega) hC (x := 106) rfl (csV_slot hx) (csV_slot hy) (by decide) (by simp only [List.mem_cons, List.not_mem_nil, or_false, not_or]; omega) (by simp only [List.mem_cons, List.not_mem_nil, or_false, not_or]; omega) (fun z h4 hC4 hS4 => ?_) (fun z h4 hC4 hS4 => ?_))
      · rw [e3] at z
        have q4 := hS4.sc (by intro q hq; simp only [List.mem_cons, List.not_mem_nil, or_false] at hq; unfold scP; omega)
        refine x_if_eq_f (tgt := 74) dX11_nucleus_68 rfl rfl nb1 ?_
        refine x_iinc dX11_nucleus_71 rfl rfl (inc1 _) ?_
        refine x_iinc dX11_nucleus_74 rfl rfl (inc1 _) ?_
        refine x_goto (tgt := 25) dX11_nucleus_77 rfl ?_
        exact x_to (ih c28 _ (r3.sc hC4 q4) ((q2.tr q3).tr q4)) ⟨rfl, rfl, rfl, rfl, by rw [cN_t (n := i) (e.mpr z)]; rfl, rfl, trivial⟩
      · rw [e3] at z
        have q4 := hS4.sc (by intro q hq; simp only [List.mem_cons, List.not_mem_nil, or_false] at hq; unfold scP; omega)
        refine x_if_eq_t (tgt := 74) dX11_nucleus_68 rfl nI_0 ?_
        refine x_iinc dX11_nucleus_74 rfl rfl (inc1 _) ?_
        refine x_goto (tgt := 25) dX11_nucleus_77 rfl ?_
        exact x_to (ih c28 _ (r3.sc hC4 q4) ((q2.tr q3).tr q4)) ⟨rfl, rfl, rfl, rfl, by rw [cN_f (n := i) (fun y => z (e.mp y))]; rfl, rfl, trivial⟩) 0 (Nat.zero_le _)
  exact x_to (key h1 k1 xSq.rf) ⟨rfl, rfl, rfl, rfl, rfl, rfl, trivial⟩
end PUB

