/-! EightPartsModel: turned, alike, the tape, what is kept -/
theorem nI_64 (a b : Nat) : nI 65 * nI a + nI b = nI (65 * a + b) := by rw [nI_mul8, nI_add]
section MOD
variable {G : xG} {l : Launch} {d : Nat} {h : xH} {Q : Option Value → xH → Prop} {S : St}
theorem n_turned {a1 n a2 a3 : Int32} (hd : 10 ≤ d) (hR : RM h S) (K : ∀ r S2 h2, sp_turned S a1 n a2 a3 = (r, S2) → RM h2 S2 → cF h h2 → Q (some (.int r)) h2) : xCt G l mX12_turned d [.ref 110, .int a1, .int n, .int a2, .int a3] h 0 0 Q := by
  have hC := hR.1
  refine xCt_of (by decide) (Nat.le_of_ble_eq_true rfl) ?_
  refine x_iload_n (i := 1) dX12_turned_0 rfl rfl rfl ?_
  refine x_callS0 (As := [_]) (d2 := d - 1) dX12_turned_1 rfl kX12_165 okX12_isSlot (by omega) rfl rfl (Nat.le_of_ble_eq_true rfl) (m_isSlot (by omega) (fun z => ?_) (fun x hx ex qx => ?_))
  · refine x_if_eq_t (tgt := 29) dX12_turned_4 rfl nI_0 ?_
    refine x_sipush dX12_turned_29 rfl sC_m30000 ?_
    refine x_ireturn dX12_turned_32 rfl rfl ?_
    exact K _ _ _ (by simp only [sp_turned, z] <;> rfl) hR (cF.rf hC)
  subst ex
  refine x_if_eq_f (tgt := 29) dX12_turned_4 rfl rfl nb1 ?_
  refine x_iload_n (i := 2) dX12_turned_7 rfl rfl rfl ?_
  refine x_callS0 (As := [_]) (d2 := d - 1) dX12_turned_8 rfl kX12_207 okX12_isTurn (by omega) rfl rfl (Nat.le_of_ble_eq_true rfl) (m_isTurn (by omega) (fun z => ?_) (fun w hw ew qw => ?_))
  · refine x_if_eq_t (tgt := 29) dX12_turned_11 rfl nI_0 ?_
    refine x_sipush dX12_turned_29 rfl sC_m30000 ?_
    refine x_ireturn dX12_turned_32 rfl rfl ?_
    exact K _ _ _ (by simp only [sp_turned, qx, z] <;> rfl) hR (cF.rf hC)
  subst ew
  refine x_if_eq_f (tgt := 29) dX12_turned_11 rfl rfl nb1 ?_
  refine x_iload_n (i := 3) dX12_turned_14 rfl rfl rfl ?_
  refine x_callS0 (As := [_]) (d2 := d - 1) dX12_turned_15 rfl kX12_168 okX12_isPart (by omega) rfl rfl (Nat.le_of_ble_eq_true rfl) (m_isPart (by omega) (fun z => ?_) (fun i hi ei qi => ?_))
  · refine x_if_eq_t (tgt := 29) dX12_turned_18 rfl nI_0 ?_
    refine x_sipush dX12_turned_29 rfl sC_m30000 ?_
    refine x_ireturn dX12_turned_32 rfl rfl ?_
    exact K _ _ _ (by simp only [sp_turned, qx, qw, z] <;> rfl) hR (cF.rf hC)
  subst ei
  refine x_if_eq_f (tgt := 29) dX12_turned_18 rfl rfl nb1 ?_
  refine x_iload dX12_turned_21 rfl rfl ?_
  refine x_callS0 (As := [_]) (d2 := d - 1) dX12_turned_23 rfl kX12_168 okX12_isPart (by omega) rfl rfl (Nat.le_of_ble_eq_true rfl) (m_isPart (by omega) (fun z => ?_) (fun p hp ep qp => ?_))
  · refine x_if_ne_f (tgt := 33) dX12_turned_26 rfl rfl nI_0 ?_
    refine x_sipush dX12_turned_29 rfl sC_m30000 ?_
    refine x_ireturn dX12_turned_32 rfl rfl ?_
    exact K _ _ _ (by simp only [sp_turned, qx, qw, qi, z] <;> rfl) hR (cF.rf hC)
  subst ep
  refine x_if_ne_t (tgt := 33) dX12_turned_26 rfl nb1 ?_
  refine x_aload_n (i := 0) dX12_turned_33 rfl rfl rfl ?_
  refine x_bipush dX12_turned_34 rfl bC_10 ?_
  refine x_callV0 (ci := 12) (b := 110) (As := [_]) (d2 := d - 1) dX12_turned_36 rfl kX12_171 okX12_nought (hC.o rfl) (fun q hq => by cases hq; rfl) (by omega) rfl rfl (Nat.le_of_ble_eq_true rfl) (m_nought hC (t := 10) (by decide) (fun h1 hv1 e1 => ?_))
  have hC := hv1.1
  have row := hC.v (a := 112) rfl
  refine x_aload_n (i := 0) dX12_turned_39 rfl rfl rfl ?_
  refine x_getC dX12_turned_40 rfl fX12_17 hC rfl F_110_2 ?_
  refine x_bipush dX12_turned_43 rfl bC_80 ?_
  refine x_iload_n (i := 3) dX12_turned_45 rfl rfl rfl ?_
  refine x_iadd dX12_turned_46 rfl ?_
  rw [show nI 80 + nI i = nI (8 * 10 + i) from nI_add 80 i]
  refine x_iconst dX12_turned_47 rfl iC_2 ?_
  refine x_iast dX12_turned_48 rfl row rfl (by omega) (by decide) ?_
  have eu : upd (iv h1 112) (8 * 10 + i) (nI 2) = mrow (iv h1 112) 10 (zOne i) 8 := by
    funext j
    unfold upd mrow zOne
    by_cases e : j = 8 * 10 + i
    · rw [if_pos e, if_pos (by omega)]
      show nI 2 = if j - 8 * 10 = i then nI 2 else nI 0
      rw [if_pos (by omega)]
    · rw [if_neg e]
      by_cases q : 8 * 10 ≤ j ∧ j < 8 * 10 + 8
      · rw [if_pos q]
        show iv h1 112 j = if j - 8 * 10 = i then nI 2 else nI 0
        rw [if_neg (by omega)]
        have := congrFun e1 (j - 8 * 10)
        rw [pl_lt (by omega), c8_lt (by omega)] at this
        rw [← this]
        congr 1
        omega
      · rw [if_neg q]
  rw [eu]
  obtain ⟨k1, k2⟩ := mV_row (x := 10) (f := zOne i) hC (by decide) (fun _ => zBd_one i)
  have kk := (hv1.tr k1).sub (P2 := [10]) (C2 := [113]) (by simp) (by simp)
  have hC := k1.1
  show xWP G l mX12_turned d (zM G Q) 0 0 49 _ [] (hs h1 112 (0, 1240, xI (mrow (iv h1 112) 10 (zOne i) 8)))
  generalize hs h1 112 (0, 1240, xI (mrow (iv h1 112) 10 (zOne i) 8)) = h2 at *
  have r2 := hR.sc kk (by simp) (by simp [mN])
  have e4 : oTurn (pl h2 10) (pl h2 x) w = oTurn (zOne i) (S.1 x) w := oTurn_e (by rw [k2, c8_c8]) (by rw [r2.p hx])
  refine x_aload_n (i := 0) dX12_turned_49 rfl rfl rfl ?_
  refine x_bipush dX12_turned_50 rfl bC_9 ?_
  refine x_bipush dX12_turned_52 rfl bC_10 ?_
  refine x_iload_n (i := 1) dX12_turned_54 rfl rfl rfl ?_
  refine x_iload_n (i := 2) dX12_turned_55 rfl rfl rfl ?_
  refine x_callV0 (ci := 12) (b := 110) (As := [_, _, _, _]) (d2 := d - 1) dX12_turned_56 rfl kX12_210 okX12_turns (hC.o rfl) (fun q hq => by cases hq; rfl) (by omega) rfl rfl (Nat.le_of_ble_eq_true rfl) (m_turns (t := 9) (x := 10) (by omega) hC r2.b (by decide) (by decide) (by omega) hw (by omega) (by decide) (by omega) (fun z hz h3 hv3 e3 => ?_) (fun hz h3 hv3 => ?_))
  · rw [e4] at hz
    have kk2 := (kk.tr hv3).sub (P2 := [10, 9, 21]) (C2 := [113]) (by simp) (by simp)
    have hC := hv3.1
    have row := hC.v (a := 112) rfl
    refine x_if_eq_f (tgt := 75) dX12_turned_59 rfl rfl nb1 ?_
    refine x_aload_n (i := 0) dX12_turned_62 rfl rfl rfl ?_
    refine x_getC dX12_turned_63 rfl fX12_17 hC rfl F_110_2 ?_
    refine x_bipush dX12_turned_66 rfl bC_72 ?_
    refine x_iload dX12_turned_68 rfl rfl ?_
    refine x_iadd dX12_turned_70 rfl ?_
    rw [show nI 72 + nI p = nI (8 * 9 + p) from nI_add 72 p]
    refine x_iald dX12_turned_71 rfl row rfl (by omega) (by decide) ?_
    refine x_goto (tgt := 78) dX12_turned_72 rfl ?_
    refine x_ireturn dX12_turned_78 rfl rfl ?_
    have ep : iv h3 112 (8 * 9 + p) = z p := by
      have := congrFun e3 p
      rwa [pl_lt hp, c8_lt hp] at this
    rw [ep]
    exact K _ _ _ (by simp only [sp_turned, qx, qw, qi, qp, hz]) (hR.sc kk2 (by simp) (by simp [mN])) (kk2.c (by simp))
  · rw [e4] at hz
    have kk2 := (kk.tr hv3).sub (P2 := [10, 9, 21]) (C2 := [113]) (by simp) (by simp)
    refine x_if_eq_t (tgt := 75) dX12_turned_59 rfl nI_0 ?_
    refine x_sipush dX12_turned_75 rfl sC_m30000 ?_
    refine x_ireturn dX12_turned_78 rfl rfl ?_
    exact K _ _ _ (by simp only [sp_turned, qx, qw, qi, qp, hz]) (hR.sc kk2 (by simp) (by simp [mN])) (kk2.c (by simp))
theorem m_isWholeBy {o : Nat} {n : Int64} {w : Nat → Int64} (hd : 3 ≤ d) (hC : Cs h) (ho : mRul h o) (ho8 : o < 8) (hw : h.1 113 = (1, 8, xJ w)) (hn : ¬ n = 0) (Kt : zWB o w n → Q (some (.int (nI 1))) h) (Kf : ¬ zWB o w n → Q (some (.int (nI 0))) h) : xCt G l mX12_isWholeBy d [.ref 110, .long n] h 0 0 Q := by
  refine xCt_of (by decide) (Nat.le_of_ble_eq_true rfl) ?_
  refine x_iconst dX12_isWholeBy_0 rfl iC_0 ?_
  refine x_istore_n (i := 3) dX12_isWholeBy_1 rfl rfl (by decide) ?_
  refine x_iconst dX12_isWholeBy_2 rfl iC_0 ?_
  refine x_istore dX12_isWholeBy_3 rfl (by decide) ?_
  have key := xloop (P := fun i => (∀ j, j < i → w j - w j / n * n = 0) → xWP G l mX12_isWholeBy d (zM G Q) 0 0 5 (xls [(0, .ref 110), (1, .long n), (3, .int (nI (zSet (fun j => pL (w j / n)) i))), (4, .int (nI i))]) [] h) 8 (by
    intro i hi ih hj
    refine x_iload dX12_isWholeBy_5 rfl rfl ?_
    refine x_bipush dX12_isWholeBy_7 rfl bC_8 ?_
    refine x_jc_ge (tgt := 59) dX12_isWholeBy_9 rfl rfl (by omega) (by omega) (fun c9 => ?_) (fun c9 => ?_)
    · obtain rfl : i = 8 := by omega
      refine x_aload_n (i := 0) dX12_isWholeBy_59 rfl rfl rfl ?_
      refine x_getM (a := 110) dX12_isWholeBy_60 rfl fX12_24 hC rfl ho ?_
      refine x_iload_n (i := 3) dX12_isWholeBy_63 rfl rfl rfl ?_
      refine x_callS0 (As := [_, _]) (d2 := d - 1) dX12_isWholeBy_64 rfl kX12_131 okX12_isOf (by omega) rfl rfl (Nat.le_of_ble_eq_true rfl) (m_isOf (by omega) ho8 (zSet_lt _ 8) (fun z => ?_) (fun z => ?_))
      · refine x_ireturn dX12_isWholeBy_67 rfl rfl ?_
        exact Kt ⟨hj, z⟩
      · refine x_ireturn dX12_isWholeBy_67 rfl rfl ?_
        exact Kf (fun q => by rw [q.2] at z; cases z)
    · refine x_aload_n (i := 0) dX12_isWholeBy_12 rfl rfl rfl ?_
      refine x_getC dX12_isWholeBy_13 rfl fX12_20 hC rfl F_110_3 ?_
      refine x_iload dX12_isWholeBy_16 rfl rfl ?_
      refine x_lald dX12_isWholeBy_18 rfl hw rfl (by omega) (by decide) ?_
      refine x_lload_n (i := 1) dX12_isWholeBy_19 rfl rfl rfl ?_
      refine x_lrem dX12_isWholeBy_20 rfl hn ?_
      refine x_lconst dX12_isWholeBy_21 rfl lC_0 ?_
      refine x_lcmp dX12_isWholeBy_22 rfl ?_
      refine x_if_eq (tgt := 28) dX12_isWholeBy_23 rfl rfl (fun c23 => ?_) (fun c23 => ?_)
      · have hj2 : ∀ j, j < i + 1 → w j - w j / n * n = 0 := lt_s hj ((lg_cmp_eq _ _).mp c23)
        refine x_aload_n (i := 0) dX12_isWholeBy_28 rfl rfl rfl ?_
        refine x_getC dX12_isWholeBy_29 rfl fX12_20 hC rfl F_110_3 ?_
        refine x_iload dX12_isWholeBy_32 rfl rfl ?_
        refine x_lald dX12_isWholeBy_34 rfl hw rfl (by omega) (by decide) ?_
        refine x_lload_n (i := 1) dX12_isWholeBy_35 rfl rfl rfl ?_
        refine x_ldiv dX12_isWholeBy_36 rfl hn ?_
        refine x_ldc2 dX12_isWholeBy_37 rfl cX12_103 ?_
        refine x_lrem dX12_isWholeBy_40 rfl (by decide) ?_
        refine x_lconst dX12_isWholeBy_41 rfl lC_0 ?_
        refine x_lcmp dX12_isWholeBy_42 rfl ?_
        refine x_if_eq (tgt := 53) dX12_isWholeBy_43 rfl rfl (fun c43 => ?_) (fun c43 => ?_)
        · have z : ¬ pL (w i / n) = true := fun z => (pL_rem _).mpr z ((lg_cmp_eq _ _).mp c43)
          refine x_iinc dX12_isWholeBy_53 rfl rfl (inc1 _) ?_
          refine x_goto (tgt := 5) dX12_isWholeBy_56 rfl ?_
          exact x_to (ih c9 hj2) ⟨rfl, rfl, by rw [(or_bit8 (p := fun j => pL (w j / n)) c9).2 (Bool.eq_false_iff.mpr z)]; rfl, rfl, trivial⟩
        · have z : pL (w i / n) = true := (pL_rem _).mp (fun q => c43 ((lg_cmp_eq _ _).mpr q))
          refine x_iload_n (i := 3) dX12_isWholeBy_46 rfl rfl rfl ?_
          refine x_iconst dX12_isWholeBy_47 rfl iC_1 ?_
          refine x_iload dX12_isWholeBy_48 rfl rfl ?_
          refine x_ishl dX12_isWholeBy_50 rfl ?_
          refine x_ior dX12_isWholeBy_51 rfl ?_
          rw [(or_bit8 (p := fun j => pL (w j / n)) c9).1 z]
          refine x_istore_n (i := 3) dX12_isWholeBy_52 rfl rfl (by decide) ?_
          refine x_iinc dX12_isWholeBy_53 rfl rfl (inc1 _) ?_
          refine x_goto (tgt := 5) dX12_isWholeBy_56 rfl ?_
          exact x_to (ih c9 hj2) ⟨rfl, rfl, rfl, rfl, trivial⟩
      · refine x_iconst dX12_isWholeBy_26 rfl iC_0 ?_
        refine x_ireturn dX12_isWholeBy_27 rfl rfl ?_
        exact Kf (fun q => c23 ((lg_cmp_eq _ _).mpr (q.1 i c9)))) 0 (Nat.zero_le _) (fun j hj => absurd hj (Nat.not_lt_zero j))
  exact x_to key ⟨rfl, rfl, rfl, rfl, trivial⟩
theorem m_areAlike {x y m o : Nat} (hd : 5 ≤ d) (hC : Cs h) (ho : mRul h o) (ho8 : o < 8) (hB : mB h) (hx : x < 155) (hy : y < 155) (hm : 1 ≤ m ∧ m ≤ 1000)
    (Kt : zWB o (zDif (pl h x) (pl h y)) (nI m).toInt64 → ∀ h2, mV [] [113] h h2 → Q (some (.int (nI 1))) h2) (Kf : ¬ zWB o (zDif (pl h x) (pl h y)) (nI m).toInt64 → ∀ h2, mV [] [113] h h2 → Q (some (.int (nI 0))) h2) : xCt G l mX12_areAlike d [.ref 110, .int (nI x), .int (nI y), .int (nI m)] h 0 0 Q := by
  have v := hC.v (a := 112) rfl
  have v3 := hC.j (a := 113) rfl
  have hC0 := hC
  have n0 : ¬ (nI m).toInt64 = 0 := by
    intro z
    have := (nI_1le hm.1 hm.2).1
    rw [z] at this
    exact absurd this (by decide)
  refine xCt_of (by decide) (Nat.le_of_ble_eq_true rfl) ?_
  refine x_iconst dX12_areAlike_0 rfl iC_0 ?_
  refine x_istore dX12_areAlike_1 rfl (by decide) ?_
  have key := xloop (P := fun i => xWP G l mX12_areAlike d (zM G Q) 0 0 3 (xls [(0, .ref 110), (1, .int (nI x)), (2, .int (nI y)), (3, .int (nI m)), (4, .int (nI i))]) [] (hs h 113 (1, 8, xJ (xF (zDif (pl h x) (pl h y)) (jv h 113) i)))) 8 (by
    intro i hi ih
    have hC := hC0.setJ (f := xF (zDif (pl h x) (pl h y)) (jv h 113) i) v3
    refine x_iload dX12_areAlike_3 rfl rfl ?_
    refine x_bipush dX12_areAlike_5 rfl bC_8 ?_
    refine x_jc_ge (tgt := 49) dX12_areAlike_7 rfl rfl (by omega) (by omega) (fun c7 => ?_) (fun c7 => ?_)
    · obtain rfl : i = 8 := by omega
      refine x_topJ (f2 := zDif (pl h x) (pl h y)) (fun j hj => if_pos hj) (by decide) ?_
      have hC2 := hC0.setJ (f := zDif (pl h x) (pl h y)) v3
      have hv : mV [] [113] h (hs h 113 (1, 8, xJ (zDif (pl h x) (pl h y)))) := mV_o hC2 xSm.hs1 (by decide)
      have ho2 : mRul (hs h 113 (1, 8, xJ (zDif (pl h x) (pl h y)))) o := (fv_n (by decide)).trans ho
      have hC := hC2
      refine x_aload_n (i := 0) dX12_areAlike_49 rfl rfl rfl ?_
      refine x_iload_n (i := 3) dX12_areAlike_50 rfl rfl rfl ?_
      refine x_i2l dX12_areAlike_51 rfl ?_
      refine x_callV0 (ci := 12) (b := 110) (As := [_]) (d2 := d - 1) dX12_areAlike_52 rfl kX12_340 okX12_isWholeBy (hC.o rfl) (fun q hq => by cases hq; rfl) (by omega) rfl rfl (Nat.le_of_ble_eq_true rfl) (m_isWholeBy (by omega) hC ho2 ho8 hs_eq n0 (fun z => ?_) (fun z => ?_))
      · refine x_ireturn dX12_areAlike_55 rfl rfl ?_
        exact Kt z _ hv
      · refine x_ireturn dX12_areAlike_55 rfl rfl ?_
        exact Kf z _ hv
    · have w2 := hs_ne (c := (1, 8, xJ (xF (zDif (pl h x) (pl h y)) (jv h 113) i))) (show 112 ≠ 113 by decide) v
      refine x_aload_n (i := 0) dX12_areAlike_10 rfl rfl rfl ?_
      refine x_getC dX12_areAlike_11 rfl fX12_20 hC rfl F_110_3 ?_
      refine x_iload dX12_areAlike_14 rfl rfl ?_
      refine x_aload_n (i := 0) dX12_areAlike_16 rfl rfl rfl ?_
      refine x_getC dX12_areAlike_17 rfl fX12_17 hC rfl F_110_2 ?_
      refine x_bipush dX12_areAlike_20 rfl bC_8 ?_
      refine x_iload_n (i := 1) dX12_areAlike_22 rfl rfl rfl ?_
      refine x_imul dX12_areAlike_23 rfl ?_
      refine x_iload dX12_areAlike_24 rfl rfl ?_
      refine x_iadd dX12_areAlike_26 rfl ?_
      rw [nI_8]
      refine x_iald dX12_areAlike_27 rfl w2 rfl (by omega) (by decide) ?_
      refine x_aload_n (i := 0) dX12_areAlike_28 rfl rfl rfl ?_
      refine x_getC dX12_areAlike_29 rfl fX12_17 hC rfl F_110_2 ?_
      refine x_bipush dX12_areAlike_32 rfl bC_8 ?_
      refine x_iload_n (i := 2) dX12_areAlike_34 rfl rfl rfl ?_
      refine x_imul dX12_areAlike_35 rfl ?_
      refine x_iload dX12_areAlike_36 rfl rfl ?_
      refine x_iadd dX12_areAlike_38 rfl ?_
      rw [nI_8]
      refine x_iald dX12_areAlike_39 rfl w2 rfl (by omega) (by decide) ?_
      refine x_isub dX12_areAlike_40 rfl ?_
      refine x_i2l dX12_areAlike_41 rfl ?_
      rw [← pl_lt c7, ← pl_lt c7, ng_sub (hB x hx i c7) (hB y hy i c7)]
      refine x_lastT dX12_areAlike_42 rfl rfl (by omega) (by decide) ?_
      rw [show vp_updL (xF (zDif (pl h x) (pl h y)) (jv h 113) i) i ((pl h x i).toInt64 - (pl h y i).toInt64) = xF (zDif (pl h x) (pl h y)) (jv h 113) (i + 1) from xF_updL (zDif (pl h x) (pl h y)) _ i]
      refine x_iinc dX12_areAlike_43 rfl rfl (inc1 _) ?_
      refine x_goto (tgt := 3) dX12_areAlike_46 rfl ?_
      exact x_to (ih c7) ⟨rfl, rfl, rfl, rfl, rfl, trivial⟩) 0 (Nat.zero_le _)
  rw [xF_0, hs_self v3] at key
  exact x_to key ⟨rfl, rfl, rfl, rfl, rfl, trivial⟩
theorem n_alike {a1 a2 n : Int32} (hd : 10 ≤ d) (hR : RM h S) (K : ∀ r S2 h2, sp_alike S a1 a2 n = (r, S2) → RM h2 S2 → cF h h2 → Q (some (.int r)) h2) : xCt G l mX12_alike d [.ref 110, .int a1, .int a2, .int n] h 0 0 Q := by
  have hC := hR.1
  refine xCt_of (by decide) (Nat.le_of_ble_eq_true rfl) ?_
  refine x_iload_n (i := 1) dX12_alike_0 rfl rfl rfl ?_
  refine x_callS0 (As := [_]) (d2 := d - 1) dX12_alike_1 rfl kX12_165 okX12_isSlot (by omega) rfl rfl (Nat.le_of_ble_eq_true rfl) (m_isSlot (by omega) (fun z => ?_) (fun x hx ex qx => ?_))
  · refine x_if_eq_t (tgt := 44) dX12_alike_4 rfl nI_0 ?_
    refine x_iconst dX12_alike_44 rfl iC_m1 ?_
    refine x_ireturn dX12_alike_45 rfl rfl ?_
    exact K _ _ _ (by simp only [sp_alike, z] <;> rfl) hR (cF.rf hC)
  subst ex
  refine x_if_eq_f (tgt := 44) dX12_alike_4 rfl rfl nb1 ?_
  refine x_iload_n (i := 2) dX12_alike_7 rfl rfl rfl ?_
  refine x_callS0 (As := [_]) (d2 := d - 1) dX12_alike_8 rfl kX12_165 okX12_isSlot (by omega) rfl rfl (Nat.le_of_ble_eq_true rfl) (m_isSlot (by omega) (fun z => ?_) (fun y hy ey qy => ?_))
  · refine x_if_eq_t (tgt := 44) dX12_alike_11 rfl nI_0 ?_
    refine x_iconst dX12_alike_44 rfl iC_m1 ?_
    refine x_ireturn dX12_alike_45 rfl rfl ?_
    exact K _ _ _ (by simp only [sp_alike, qx, z] <;> rfl) hR (cF.rf hC)
  subst ey
  refine x_if_eq_f (tgt := 44) dX12_alike_11 rfl rfl nb1 ?_
  refine x_iload_n (i := 3) dX12_alike_14 rfl rfl rfl ?_
  refine x_i2l dX12_alike_15 rfl ?_
  refine x_lconst dX12_alike_16 rfl lC_1 ?_
  refine x_ldc2 dX12_alike_17 rfl cX12_205 ?_
  refine x_callS0 (As := [_, _, _]) (d2 := d - 1) dX12_alike_20 rfl kX12_95 okX12_in (by omega) rfl rfl (Nat.le_of_ble_eq_true rfl) (m_in (lo := 1) (hi := 1000) (by decide) (by decide) (by decide) (fun z => ?_) (fun m lm hm em qm => ?_))
  · refine x_if_eq_t (tgt := 44) dX12_alike_23 rfl nI_0 ?_
    refine x_iconst dX12_alike_44 rfl iC_m1 ?_
    refine x_ireturn dX12_alike_45 rfl rfl ?_
    exact K _ _ _ (by simp only [sp_alike, qx, qy, z] <;> rfl) hR (cF.rf hC)
  subst em
  refine x_if_eq_f (tgt := 44) dX12_alike_23 rfl rfl nb1 ?_
  refine x_aload_n (i := 0) dX12_alike_26 rfl rfl rfl ?_
  refine x_iload_n (i := 1) dX12_alike_27 rfl rfl rfl ?_
  refine x_iload_n (i := 2) dX12_alike_28 rfl rfl rfl ?_
  refine x_iload_n (i := 3) dX12_alike_29 rfl rfl rfl ?_
  refine x_callV0 (ci := 12) (b := 110) (As := [_, _, _]) (d2 := d - 1) dX12_alike_30 rfl kX12_355 okX12_areAlike (hC.o rfl) (fun q hq => by cases hq; rfl) (by omega) rfl rfl (Nat.le_of_ble_eq_true rfl) (m_areAlike (by omega) hC hR.2.1.2 hR.2.1.1 hR.b (by omega) (by omega) ⟨lm, hm⟩ (fun z h2 hv => ?_) (fun z h2 hv => ?_))
  · rw [hR.p hx, hR.p hy] at z
    refine x_if_eq_f (tgt := 40) dX12_alike_33 rfl rfl nb1 ?_
    refine x_iconst dX12_alike_36 rfl iC_1 ?_
    refine x_goto (tgt := 45) dX12_alike_37 rfl ?_
    refine x_ireturn dX12_alike_45 rfl rfl ?_
    exact K _ _ _ (by simp only [sp_alike, qx, qy, qm]; rw [bI_t z]; rfl) (hR.sc hv (by simp) (by simp [mN])) (hv.c (by simp))
  · rw [hR.p hx, hR.p hy] at z
    refine x_if_eq_t (tgt := 40) dX12_alike_33 rfl nI_0 ?_
    refine x_iconst dX12_alike_40 rfl iC_0 ?_
    refine x_goto (tgt := 45) dX12_alike_41 rfl ?_
    refine x_ireturn dX12_alike_45 rfl rfl ?_
    exact K _ _ _ (by simp only [sp_alike, qx, qy, qm]; rw [bI_f z]; rfl) (hR.sc hv (by simp) (by simp [mN])) (hv.c (by simp))
/-- another tape -/
theorem RM.tape {h h2 : xH} {S : St} {t : tpT} (hR : RM h S) (hC : Cs h2) (hS : xSm [124, 110] h h2) (f : ∀ q, q ≠ 20 → (h2.1 110).2.2 q = (h.1 110).2.2 q) (hT : mTp h2 t) : RM h2 (sTp S t) ∧ cF h h2 := by
  obtain ⟨r1, ⟨r2, r3⟩, r4, r5, r6, r7, r8, r11, r12, r13⟩ := hR
  have k : ∀ a, a ≠ 110 → a ≠ 124 → h2.1 a = h.1 a := fun a a1 a2 => hS.2 a (by simp; omega)
  have i : ∀ a, a ≠ 110 → a ≠ 124 → iv h2 a = iv h a := fun a a1 a2 => by unfold iv; rw [k a a1 a2]
  have ep : ∀ y, pl h2 y = pl h y := fun y => by unfold pl; rw [i 112 (by decide) (by decide)]
  refine ⟨⟨hC, ⟨r2, (f 4 (by decide)).trans r3⟩, fun j hj => by rw [ep]; exact r4 j hj, ⟨fun y hy => by rw [ep]; exact r5.1 y hy, by rw [ep]; exact r5.2⟩, ?_, ?_, hT, r11, (f 37 (by decide)).trans r12, ?_⟩, ⟨hC, hS.1, fun a ha => k a (by omega) (by omega)⟩⟩
  · unfold mLs
    rw [i 114 (by decide) (by decide), i 115 (by decide) (by decide), i 116 (by decide) (by decide)]
    exact r6
  · unfold mTbl
    rw [f 32 (by decide), i 130 (by decide) (by decide)]
    exact r7
  · rw [i 133 (by decide) (by decide)]
    exact r13
theorem n_back {n : Int32} (hd : 10 ≤ d) (hR : RM h S) (K : ∀ r S2 h2, sp_back S n = (r, S2) → RM h2 S2 → cF h h2 → Q (some (.int r)) h2) : xCt G l mX12_back d [.ref 110, .int n] h 0 0 Q := by
  have hC := hR.1
  obtain ⟨t1, t2, t3⟩ := hR.2.2.2.2.2.2.1
  refine xCt_of (by decide) (Nat.le_of_ble_eq_true rfl) ?_
  refine x_iload_n (i := 1) dX12_back_0 rfl rfl rfl ?_
  refine x_i2l dX12_back_1 rfl ?_
  refine x_lconst dX12_back_2 rfl lC_0 ?_
  refine x_aload_n (i := 0) dX12_back_3 rfl rfl rfl ?_
  refine x_getM (a := 110) dX12_back_4 rfl fX12_283 hC rfl t2 ?_
  refine x_i2l dX12_back_7 rfl ?_
  refine x_callS0 (As := [_, _, _]) (d2 := d - 1) dX12_back_8 rfl kX12_95 okX12_in (by omega) rfl rfl (Nat.le_of_ble_eq_true rfl) (m_in (lo := 0) (hi := S.2.2.1.1) (by decide) (by rw [Int32.toInt_toInt64, nI_toInt (by omega)]) (by omega) (fun z => ?_) (fun m _ m2 em qm => ?_))
  · refine x_if_ne_f (tgt := 16) dX12_back_11 rfl rfl nI_0 ?_
    refine x_iconst dX12_back_14 rfl iC_m1 ?_
    refine x_ireturn dX12_back_15 rfl rfl ?_
    exact K _ _ _ (by unfold sp_back; rw [z]) hR (cF.rf hC)
  subst em
  refine x_if_ne_t (tgt := 16) dX12_back_11 rfl nb1 ?_
  refine x_aload_n (i := 0) dX12_back_16 rfl rfl rfl ?_
  refine x_dup dX12_back_17 rfl rfl ?_
  refine x_getM (a := 110) dX12_back_18 rfl fX12_283 hC rfl t2 ?_
  refine x_iload_n (i := 1) dX12_back_21 rfl rfl rfl ?_
  refine x_isub dX12_back_22 rfl ?_
  rw [show nI S.2.2.1.1 - nI m = nI (S.2.2.1.1 - m) from pk_sub m2]
  have hC2 := hC.setF (ci := 12) (a := 110) (kf := 20) (v := .int (nI (S.2.2.1.1 - m))) rfl NF_110_20 (by decide)
  have n2 : ((hs h 110 (112, 0, updV (h.1 110).2.2 20 (.int (nI (S.2.2.1.1 - m))))).1 110).2.2 20 = .int (nI (S.2.2.1.1 - m)) := fv_eq
  refine x_putC (a := 110) dX12_back_23 rfl fX12_283 (fun q hq => by cases hq; rfl) hC rfl ⟨rfl, rfl⟩ ?_
  have hC := hC2
  refine x_aload_n (i := 0) dX12_back_26 rfl rfl rfl ?_
  refine x_getM (a := 110) dX12_back_27 rfl fX12_283 hC rfl n2 ?_
  refine x_ireturn dX12_back_30 rfl rfl ?_
  obtain ⟨k1, k2⟩ := hR.tape (t := (S.2.2.1.1 - m, S.2.2.1.2)) hC2 (xSm.hs1.sub (by simp)) (fun q hq => fv_ne hq) ⟨by show S.2.2.1.1 - m ≤ 200; omega, n2, fun j hj => by rw [iv_n (by decide)]; exact t3 j (by have hj' : j < S.2.2.1.1 - m := hj; omega)⟩
  exact K _ _ _ (by unfold sp_back; rw [qm]) k1 k2
theorem n_feed {a1 a2 a3 a4 a5 : Int32} (hd : 10 ≤ d) (hR : RM h S) (K : ∀ r S2 h2, sp_feed S a1 a2 a3 a4 a5 = (r, S2) → RM h2 S2 → cF h h2 → Q (some (.int r)) h2) : xCt G l mX12_feed d [.ref 110, .int a1, .int a2, .int a3, .int a4, .int a5] h 0 0 Q := by
  have hC := hR.1
  obtain ⟨t1, t2, t3⟩ := hR.2.2.2.2.2.2.1
  refine xCt_of (by decide) (Nat.le_of_ble_eq_true rfl) ?_
  refine x_aload_n (i := 0) dX12_feed_0 rfl rfl rfl ?_
  refine x_getM (a := 110) dX12_feed_1 rfl fX12_283 hC rfl t2 ?_
  refine x_bipush dX12_feed_4 rfl bC_20 ?_
  refine x_iadd dX12_feed_6 rfl ?_
  rw [show nI S.2.2.1.1 + nI 20 = nI (S.2.2.1.1 + 20) from nI_add _ 20]
  refine x_sipush dX12_feed_7 rfl sC_200 ?_
  refine x_jc_le (tgt := 15) dX12_feed_10 rfl rfl (by omega) (by omega) (fun c10 => ?_) (fun c10 => ?_)
  rotate_left
  · refine x_iconst dX12_feed_13 rfl iC_m1 ?_
    refine x_ireturn dX12_feed_14 rfl rfl ?_
    exact K _ _ _ (if_neg (by omega)) hR (cF.rf hC)
  generalize hn : S.2.2.1.1 = n at *
  refine x_iconst dX12_feed_15 rfl iC_0 ?_
  refine x_istore dX12_feed_16 rfl (by decide) ?_
  have key := xloop (P := fun i => ∀ h1, Cs h1 → xSm [124, 110] h h1 → (∀ q, q ≠ 20 → (h1.1 110).2.2 q = (h.1 110).2.2 q) → (h1.1 110).2.2 20 = .int (nI (n + i)) → (∀ j, j < n + i → iv h1 124 j = (fdT S.2.2.1 (w5 a1 a2 a3 a4 a5)).2 j) → xWP G l mX12_feed d (zM G Q) 0 0 18 (xls [(0, .ref 110), (1, .int a1), (2, .int a2), (3, .int a3), (4, .int a4), (5, .int a5), (6, .int (nI i))]) [] h1) 20 (by
    intro i hi ih h1 hC1 hS1 f1 n1 e1
    have hC := hC1
    have v := hC.v (a := 124) rfl
    refine x_iload dX12_feed_18 rfl rfl ?_
    refine x_bipush dX12_feed_20 rfl bC_20 ?_
    refine x_jc_ge (tgt := 115) dX12_feed_22 rfl rfl (by omega) (by omega) (fun c22 => ?_) (fun c22 => ?_)
    · obtain rfl : i = 20 := by omega
      refine x_aload_n (i := 0) dX12_feed_115 rfl rfl rfl ?_
      refine x_getM (a := 110) dX12_feed_116 rfl fX12_283 hC rfl n1 ?_
      refine x_ireturn dX12_feed_119 rfl rfl ?_
      obtain ⟨k1, k2⟩ := hR.tape (t := fdT S.2.2.1 (w5 a1 a2 a3 a4 a5)) hC1 hS1 f1 ⟨by show S.2.2.1.1 + 20 ≤ 200; omega, by show _ = Value.int (nI (S.2.2.1.1 + 20)); rw [hn]; exact n1, fun j hj => e1 j (by have hj' : j < S.2.2.1.1 + 20 := hj; omega)⟩
      exact K _ _ _ (by unfold sp_feed; rw [hn]; exact if_pos c10) k1 k2
    · have fin : ∀ wd, wd = w5 a1 a2 a3 a4 a5 (i / 4) → xWP G l mX12_feed d (zM G Q) 0 0 71 (xls [(0, .ref 110), (1, .int a1), (2, .int a2), (3, .int a3), (4, .int a4), (5, .int a5), (6, .int (nI i))]) [.int wd] h1 := by
        intro wd ew
        refine x_istore dX12_feed_71 rfl (by decide) ?_
        refine x_aload_n (i := 0) dX12_feed_73 rfl rfl rfl ?_
        refine x_getC dX12_feed_74 rfl fX12_59 hC rfl F_110_19 ?_
        refine x_aload_n (i := 0) dX12_feed_77 rfl rfl rfl ?_
        refine x_getM (a := 110) dX12_feed_78 rfl fX12_283 hC rfl n1 ?_
        refine x_iload dX12_feed_81 rfl rfl ?_
        refine x_bipush dX12_feed_83 rfl bC_24 ?_
        refine x_bipush dX12_feed_85 rfl bC_8 ?_
        refine x_iload dX12_feed_87 rfl rfl ?_
        refine x_iconst dX12_feed_89 rfl iC_4 ?_
        refine x_irem dX12_feed_90 rfl (by decide) ?_
        have er : nI 24 - nI 8 * (nI i - nI i / nI 4 * nI 4) = nI (24 - 8 * (i % 4)) := by
          have q : ∀ i, i < 20 → nI 24 - nI 8 * (nI i - nI i / nI 4 * nI 4) = nI (24 - 8 * (i % 4)) := by decide +kernel
          exact q i c22
        refine x_imul dX12_feed_91 rfl ?_
        refine x_isub dX12_feed_92 rfl ?_
        rw [er]
        refine x_ishr dX12_feed_93 rfl ?_
        refine x_sipush dX12_feed_94 rfl sC_255 ?_
        refine x_iand dX12_feed_97 rfl ?_
        have hC2 := hC.setI (f := upd (iv h1 124) (n + i) ((wd >>> (nI (24 - 8 * (i % 4)) &&& 31)) &&& nI 255)) v (Or.inl rfl) (by decide)
        have n2 : ((hs h1 124 (0, 200, xI (upd (iv h1 124) (n + i) ((wd >>> (nI (24 - 8 * (i % 4)) &&& 31)) &&& nI 255)))).1 110).2.2 20 = .int (nI (n + i)) := (fv_n (by decide)).trans n1
        refine x_iast dX12_feed_98 rfl v rfl (by omega) (by decide) ?_
        have hC := hC2
        refine x_aload_n (i := 0) dX12_feed_99 rfl rfl rfl ?_
        refine x_dup dX12_feed_100 rfl rfl ?_
        refine x_getM (a := 110) dX12_feed_101 rfl fX12_283 hC rfl n2 ?_
        refine x_iconst dX12_feed_104 rfl iC_1 ?_
        refine x_iadd dX12_feed_105 rfl ?_
        rw [show nI (n + i) + nI 1 = nI (n + (i + 1)) from nI_add (n + i) 1]
        refine x_putC (a := 110) dX12_feed_106 rfl fX12_283 (fun q hq => by cases hq; rfl) hC rfl ⟨rfl, rfl⟩ ?_
        refine x_iinc dX12_feed_109 rfl rfl (inc1 _) ?_
        refine x_goto (tgt := 18) dX12_feed_112 rfl ?_
        refine x_to (ih c22 _ (hC2.setF (ci := 12) rfl NF_110_20 (by decide)) ((hS1.tr xSm.hs2).sub (by simp)) (fun q hq => ?_) fv_eq (fun j hj => ?_)) ⟨rfl, rfl, rfl, rfl, rfl, rfl, rfl, trivial⟩
        · rw [fv_ne hq, fv_n (by decide)]
          exact f1 q hq
        · rw [iv_n (by decide), iv_hs]
          unfold upd
          by_cases e : j = n + i
          · rw [if_pos e, ew]
            show _ = if S.2.2.1.1 ≤ j ∧ j < S.2.2.1.1 + 20 then (w5 a1 a2 a3 a4 a5 ((j - S.2.2.1.1) / 4) >>> (nI (24 - 8 * ((j - S.2.2.1.1) % 4)) &&& 31)) &&& nI 255 else S.2.2.1.2 j
            rw [hn, if_pos (by omega), show j - n = i by omega]
          · rw [if_neg e]
            exact e1 j (by omega)
      refine x_iload dX12_feed_25 rfl rfl ?_
      refine x_iconst dX12_feed_27 rfl iC_4 ?_
      refine x_jc_ge (tgt := 35) dX12_feed_28 rfl rfl (by omega) (by omega) (fun c28 => ?_) (fun c28 => ?_)
      · refine x_iload dX12_feed_35 rfl rfl ?_
        refine x_bipush dX12_feed_37 rfl bC_8 ?_
        refine x_jc_ge (tgt := 46) dX12_feed_39 rfl rfl (by omega) (by omega) (fun c39 => ?_) (fun c39 => ?_)
        · refine x_iload dX12_feed_46 rfl rfl ?_
          refine x_bipush dX12_feed_48 rfl bC_12 ?_
          refine x_jc_ge (tgt := 57) dX12_feed_50 rfl rfl (by omega) (by omega) (fun c50 => ?_) (fun c50 => ?_)
          · refine x_iload dX12_feed_57 rfl rfl ?_
            refine x_bipush dX12_feed_59 rfl bC_16 ?_
            refine x_jc_ge (tgt := 69) dX12_feed_61 rfl rfl (by omega) (by omega) (fun c61 => ?_) (fun c61 => ?_)
            · refine x_iload dX12_feed_69 rfl rfl ?_
              exact x_to (fin a5 (by rw [show i / 4 = 4 by omega]; rfl)) ⟨rfl, rfl, rfl, rfl, rfl, rfl, rfl, trivial⟩
            · refine x_iload dX12_feed_64 rfl rfl ?_
              refine x_goto (tgt := 71) dX12_feed_66 rfl ?_
              exact x_to (fin a4 (by rw [show i / 4 = 3 by omega]; rfl)) ⟨rfl, rfl, rfl, rfl, rfl, rfl, rfl, trivial⟩
          · refine x_iload_n (i := 3) dX12_feed_53 rfl rfl rfl ?_
            refine x_goto (tgt := 71) dX12_feed_54 rfl ?_
            exact x_to (fin a3 (by rw [show i / 4 = 2 by omega]; rfl)) ⟨rfl, rfl, rfl, rfl, rfl, rfl, rfl, trivial⟩
        · refine x_iload_n (i := 2) dX12_feed_42 rfl rfl rfl ?_
          refine x_goto (tgt := 71) dX12_feed_43 rfl ?_
          exact x_to (fin a2 (by rw [show i / 4 = 1 by omega]; rfl)) ⟨rfl, rfl, rfl, rfl, rfl, rfl, rfl, trivial⟩
      · refine x_iload_n (i := 1) dX12_feed_31 rfl rfl rfl ?_
        refine x_goto (tgt := 71) dX12_feed_32 rfl ?_
        exact x_to (fin a1 (by rw [show i / 4 = 0 by omega]; rfl)) ⟨rfl, rfl, rfl, rfl, rfl, rfl, rfl, trivial⟩) 0 (Nat.zero_le _)
  refine x_to (key h hC (xSm.rf.sub (by simp)) (fun _ _ => rfl) t2 (fun j hj => ?_)) ⟨rfl, rfl, rfl, rfl, rfl, rfl, rfl, trivial⟩
  show _ = if S.2.2.1.1 ≤ j ∧ j < S.2.2.1.1 + 20 then _ else S.2.2.1.2 j
  rw [hn, if_neg (by omega)]
  exact t3 j (by omega)
end MOD

