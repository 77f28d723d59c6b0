/-! EightParts$Reader: sums -/
theorem zSums_ok {n : Nat} {tb : Nat → Int32} {dp : Nat} {fac : rdF} (hf : rdOk n fac) : ∀ k, rdOk n (zSums n tb dp fac k) := by
  intro k
  induction k with
  | zero => exact fun s hs => hs
  | succ k ih =>
    intro s hs
    rw [zSums]
    split
    · split
      · next q =>
        refine ih _ ?_
        rw [rMay_1]
        refine zTerm_ok hf _ ?_
        have : zAhd n tb s.1 < n := by
          rcases q with q | q
          · exact zBy_lt q (by decide)
          · exact zBy_lt q (by decide)
        show zAhd n tb s.1 + 1 ≤ n
        omega
      · exact zAhd_le hs
    · exact hs
theorem zSum_ok {n : Nat} {tb : Nat → Int32} {dp : Nat} {fac : rdF} (hf : rdOk n fac) : rdOk n (zSum n tb dp fac) := fun s hs => zSums_ok hf n _ (zTerm_ok hf s hs)
section READ
variable {G : xG} {l : Launch} {d : Nat} {h : xH} {Q : Option Value → xH → Prop}
theorem rdH.e11 {h0 h h2 : xH} {s : zRd} (r : rdH h0 h s) (hC : Cs h2) (hS : xSm [11] h h2) : rdH h0 h2 s := by
  obtain ⟨r1, r2, r3, r4, r5, r6⟩ := r
  have e58 : h2.1 58 = h.1 58 := hS.2 58 (by simp)
  exact ⟨hC, r2.tr (hS.sq (by intro b hb; simp at hb; unfold rdP; omega)), by rw [e58]; exact r3, by rw [e58]; exact r4, by rw [e58]; exact r5, fun b b1 b2 b3 b4 => (hS.iv (by simp; omega)).trans (r6 b b1 b2 b3 b4)⟩
theorem c_sumE {t a b : Nat} {s : Int32} {fa fb : Nat → Int32} (hd : 1 ≤ d) (hC : Cs h) (ht : csV t) (ha : csV a) (hb : csV b) (ea : iv h a = fa) (eb : iv h b = fb)
    (Kt : ∀ z, oAdd fa fb s = some z → ∀ h2, Cs h2 → xSm [11, t] h h2 → iv h2 t = z → Q (some (.int (nI 1))) h2)
    (Kf : oAdd fa fb s = none → ∀ h2, Cs h2 → xSm [11] h h2 → Q (some (.int (nI 0))) h2) : xCt G l mX7_add d [.ref 10, .ref t, .ref a, .ref b, .int s] h 0 0 Q := by
  subst ea eb
  exact c_sum hd hC ht ha hb Kt Kf
theorem c_readSum {h0 : xH} {s : zRd} {n dp : Nat} {fac : rdF} (hd : 4 ≤ d) (hr : rdH h0 h s) (hn : hTl h0 n) (hn2 : n ≤ 200) (ha : s.1 ≤ n) (hdp : dp < 13) (hok : rdOk n fac) (hf : ctFac G l (d - 1 - 1) h0 n dp fac)
    (K : ∀ h2, rdH h0 h2 (zSum n (tpB h0) dp fac s) → Q none h2) : xCt G l mX6_readSum d [.ref 58, .int (nI dp)] h 0 0 Q := by
  refine xCt_of (by decide) (Nat.le_of_ble_eq_true rfl) ?_
  have hC := hr.1
  refine x_aload_n (i := 0) dX6_readSum_0 rfl rfl rfl ?_
  refine x_iload_n (i := 1) dX6_readSum_1 rfl rfl rfl ?_
  refine x_callV0 (ci := 6) (b := 58) (As := [_]) (d2 := d - 1) dX6_readSum_2 rfl kX6_67 okX6_readTerm (hC.o rfl) (fun q hq => by cases hq; rfl) (by omega) rfl rfl (Nat.le_of_ble_eq_true rfl) (c_readTerm (by omega) hr hn hn2 ha hdp hok hf (fun h1 hr1 => ?_))
  have hC := hr1.1
  have vt := hC.v (csV_rd (60 + dp) (by omega) (by omega) (by omega) (by omega))
  have vf := hC.v (csV_rd (74 + dp) (by omega) (by omega) (by omega) (by omega))
  rw [hr1.2.2.2.2.2 (74 + dp) (by omega) (by omega) (by omega) (by omega)] at vf
  refine x_aload_n (i := 0) dX6_readSum_5 rfl rfl rfl ?_
  refine x_getC dX6_readSum_6 rfl fX6_13 hC rfl F_58_3 ?_
  refine x_iload_n (i := 1) dX6_readSum_9 rfl rfl rfl ?_
  refine x_aaldC (t := 0) dX6_readSum_10 rfl hC rfl (by decide) rfl (by omega) (by decide) (csF_sum hdp) ?_
  refine x_aload_n (i := 0) dX6_readSum_11 rfl rfl rfl ?_
  refine x_getC dX6_readSum_12 rfl fX6_16 hC rfl F_58_4 ?_
  refine x_iload_n (i := 1) dX6_readSum_15 rfl rfl rfl ?_
  refine x_aaldC (t := 0) dX6_readSum_16 rfl hC rfl (by decide) rfl (by omega) (by decide) (csF_ter hdp) ?_
  refine x_callS0 (As := [_, _]) (d2 := d - 1) dX6_readSum_17 rfl kX6_52 okX5_lay (by omega) rfl rfl (Nat.le_of_ble_eq_true rfl) (c_lay (by omega) vt vf ?_)
  have hr2 : rdH h0 (hs h1 (60 + dp) (0, 8, xI ((zTerm n (tpB h0) dp fac s).2.2.2 (74 + dp)))) (rRow (zTerm n (tpB h0) dp fac s) (60 + dp) ((zTerm n (tpB h0) dp fac s).2.2.2 (74 + dp))) := hr1.row (hC.setI vt (Or.inl rfl) (by omega)) (xSm.hs1.sub (by simp)) iv_hs (by omega) (by omega) (by omega) (by omega)
  have key := xloop (P := fun i => ∀ h1 s1, rdH h0 h1 s1 → s1.1 ≤ n → zSum n (tpB h0) dp fac s = zSums n (tpB h0) dp fac (n - i) s1 → xWP G l mX6_readSum d (zM G Q) 0 0 22 (xls [(0, .ref 58), (1, .int (nI dp)), (2, .int (nI i))]) [] h1) n (by
    intro i hi ih h1 s1 hr1 hs1 e
    have hC := hr1.1
    have hfa : (h1.1 58).2.2 7 = .int s1.2.1 := hr1.2.2.2.1
    have e56 : h1.1 56 = h0.1 56 := hr1.2.1.2 56 (by unfold rdP; omega)
    have hn1 : hTl h1 n := by unfold hTl; rw [e56]; exact hn
    refine x_iload_n (i := 2) dX6_readSum_22 rfl rfl rfl ?_
    refine x_aload_n (i := 0) dX6_readSum_23 rfl rfl rfl ?_
    refine x_getC dX6_readSum_24 rfl fX6_33 hC rfl F_58_0 ?_
    refine x_getM (a := 56) dX6_readSum_27 rfl fX6_58 hC rfl hn1 ?_
    refine x_jc_ge (tgt := 120) dX6_readSum_30 rfl rfl (by omega) (by omega) (fun c30 => ?_) (fun c30 => ?_)
    · rw [show n - i = 0 by omega] at e
      refine x_return dX6_readSum_120 rfl ?_
      rw [e] at K
      exact K h1 hr1
    · obtain ⟨f, hf1⟩ : ∃ f, n - i = f + 1 := ⟨n - i - 1, by omega⟩
      rw [hf1, zSums] at e
      refine x_aload_n (i := 0) dX6_readSum_33 rfl rfl rfl ?_
      refine x_getM (a := 58) dX6_readSum_34 rfl fX6_26 hC rfl hfa ?_
      refine x_iconst dX6_readSum_37 rfl iC_m1 ?_
      refine x_ic_ne (tgt := 120) dX6_readSum_38 rfl rfl (fun c38 => ?_) (fun c38 => ?_)
      · rw [if_neg c38] at e
        refine x_return dX6_readSum_120 rfl ?_
        rw [e] at K
        exact K h1 hr1
      · rw [if_pos c38] at e
        refine x_aload_n (i := 0) dX6_readSum_41 rfl rfl rfl ?_
        refine x_callV0 (ci := 6) (b := 58) (As := []) (d2 := d - 1) dX6_readSum_42 rfl kX6_48 okX6_ahead (hC.o rfl) (fun q hq => by cases hq; rfl) (by omega) rfl rfl (Nat.le_of_ble_eq_true rfl) (c_ahead (by omega) hr1 hn hn2 hs1 (fun h2 hr2 => ?_))
        have hC := hr2.1
        have go : ∀ sg : Int32, (zBy n (tpB h0) (zAhd n (tpB h0) s1.1) = nI 43 ∨ zBy n (tpB h0) (zAhd n (tpB h0) s1.1) = nI 45) → sg = (if zBy n (tpB h0) (zAhd n (tpB h0) s1.1) = nI 43 then nI 1 else -1) → (∀ h1, xWP G l mX6_readSum d (zM G Q) 0 0 108 (xls [(0, .ref 58), (1, .int (nI dp)), (2, .int (nI i)), (3, .int (zBy n (tpB h0) (zAhd n (tpB h0) s1.1)))]) [.int sg, .ref (74 + dp), .ref (60 + dp), .ref (60 + dp), .ref 10, .ref 58] h1 → xWP G l mX6_readSum d (zM G Q) 0 0 97 (xls [(0, .ref 58), (1, .int (nI dp)), (2, .int (nI i)), (3, .int (zBy n (tpB h0) (zAhd n (tpB h0) s1.1)))]) [.ref (74 + dp), .ref (60 + dp), .ref (60 + dp), .ref 10, .ref 58] h1) → xWP G l mX6_readSum d (zM G Q) 0 0 59 (xls [(0, .ref 58), (1, .int (nI dp)), (2, .int (nI i)), (3, .int (zBy n (tpB h0) (zAhd n (tpB h0) s1.1)))]) [] h2 := by
          intro sg c esg w97
          rw [if_pos c, ← esg] at e
          have hlt : zAhd n (tpB h0) s1.1 < n := by
            rcases c with c | c
            · exact zBy_lt c (by decide)
            · exact zBy_lt c (by decide)
          have hat2 : (h2.1 58).2.2 6 = .int (nI (zAhd n (tpB h0) s1.1)) := hr2.2.2.1
          refine x_aload_n (i := 0) dX6_readSum_59 rfl rfl rfl ?_
          refine x_dup dX6_readSum_60 rfl rfl ?_
          refine x_getM (a := 58) dX6_readSum_61 rfl fX6_22 hC rfl hat2 ?_
          refine x_iconst dX6_readSum_64 rfl iC_1 ?_
          refine x_iadd dX6_readSum_65 rfl ?_
          rw [show nI (zAhd n (tpB h0) s1.1) + nI 1 = nI (zAhd n (tpB h0) s1.1 + 1) from nI_add _ 1]
          refine x_putC (a := 58) dX6_readSum_66 rfl fX6_22 (fun q hq => by cases hq; rfl) hC rfl ⟨rfl, rfl⟩ ?_
          have hr3 := hr2.at (zAhd n (tpB h0) s1.1 + 1)
          have hC := hr3.1
          refine x_aload_n (i := 0) dX6_readSum_69 rfl rfl rfl ?_
          refine x_iload_n (i := 1) dX6_readSum_70 rfl rfl rfl ?_
          refine x_callV0 (ci := 6) (b := 58) (As := [_]) (d2 := d - 1) dX6_readSum_71 rfl kX6_67 okX6_readTerm (hC.o rfl) (fun q hq => by cases hq; rfl) (by omega) rfl rfl (Nat.le_of_ble_eq_true rfl) (c_readTerm (s := rAt s1 (zAhd n (tpB h0) s1.1 + 1)) (by omega) hr3 hn hn2 (by show zAhd n (tpB h0) s1.1 + 1 ≤ n; omega) hdp hok hf (fun h4 hr4 => ?_))
          have hC := hr4.1
          have e4 := hr4.2.2.2.2.2
          have hok4 := zTerm_ok (tb := tpB h0) (dp := dp) hok (rAt s1 (zAhd n (tpB h0) s1.1 + 1)) (by show zAhd n (tpB h0) s1.1 + 1 ≤ n; omega)
          generalize zTerm n (tpB h0) dp fac (rAt s1 (zAhd n (tpB h0) s1.1 + 1)) = s4 at hr4 e e4 hok4
          refine x_aload_n (i := 0) dX6_readSum_74 rfl rfl rfl ?_
          refine x_aload_n (i := 0) dX6_readSum_75 rfl rfl rfl ?_
          refine x_getC dX6_readSum_76 rfl fX6_40 hC rfl F_58_2 ?_
          refine x_aload_n (i := 0) dX6_readSum_79 rfl rfl rfl ?_
          refine x_getC dX6_readSum_80 rfl fX6_13 hC rfl F_58_3 ?_
          refine x_iload_n (i := 1) dX6_readSum_83 rfl rfl rfl ?_
          refine x_aaldC (t := 0) dX6_readSum_84 rfl hC rfl (by decide) rfl (by omega) (by decide) (csF_sum hdp) ?_
          refine x_aload_n (i := 0) dX6_readSum_85 rfl rfl rfl ?_
          refine x_getC dX6_readSum_86 rfl fX6_13 hC rfl F_58_3 ?_
          refine x_iload_n (i := 1) dX6_readSum_89 rfl rfl rfl ?_
          refine x_aaldC (t := 0) dX6_readSum_90 rfl hC rfl (by decide) rfl (by omega) (by decide) (csF_sum hdp) ?_
          refine x_aload_n (i := 0) dX6_readSum_91 rfl rfl rfl ?_
          refine x_getC dX6_readSum_92 rfl fX6_16 hC rfl F_58_4 ?_
          refine x_iload_n (i := 1) dX6_readSum_95 rfl rfl rfl ?_
          refine x_aaldC (t := 0) dX6_readSum_96 rfl hC rfl (by decide) rfl (by omega) (by decide) (csF_ter hdp) ?_
          refine w97 h4 ?_
          refine x_callV0 (ci := 7) (b := 10) (As := [_, _, _, _]) (d2 := d - 1) dX6_readSum_108 rfl kX6_70 okX7_add (hC.o rfl) (fun q hq => by cases hq; rfl) (by omega) rfl rfl (Nat.le_of_ble_eq_true rfl) (c_sumE (by omega) hC (csV_rd (60 + dp) (by omega) (by omega) (by omega) (by omega)) (csV_rd (60 + dp) (by omega) (by omega) (by omega) (by omega)) (csV_rd (74 + dp) (by omega) (by omega) (by omega) (by omega)) (e4 _ (by omega) (by omega) (by omega) (by omega)) (e4 _ (by omega) (by omega) (by omega) (by omega)) (fun z hz h5 hC5 hS5 v5 => ?_) (fun hz h5 hC5 hS5 => ?_))
          · have hr5 := hr4.row hC5 hS5 v5 (by omega) (by omega) (by omega) (by omega)
            have hC := hC5
            refine x_callV0 (ci := 6) (b := 58) (As := [_]) (d2 := d - 1) dX6_readSum_111 rfl kX6_76 okX6_note (hC.o rfl) (fun q hq => by cases hq; rfl) (by omega) rfl rfl (Nat.le_of_ble_eq_true rfl) (c_note hr5 (fun h6 hr6 => ?_))
            refine x_iinc dX6_readSum_114 rfl rfl (inc1 _) ?_
            refine x_goto (tgt := 22) dX6_readSum_117 rfl ?_
            rw [hz] at e
            refine x_to (ih c30 h6 _ hr6 (by exact hok4) ?_) ⟨rfl, rfl, rfl, trivial⟩
            rw [e, show n - (i + 1) = f by omega]
            rfl
          · have hr5 := hr4.e11 hC5 hS5
            have hC := hC5
            refine x_callV0 (ci := 6) (b := 58) (As := [_]) (d2 := d - 1) dX6_readSum_111 rfl kX6_76 okX6_note (hC.o rfl) (fun q hq => by cases hq; rfl) (by omega) rfl rfl (Nat.le_of_ble_eq_true rfl) (c_note hr5 (fun h6 hr6 => ?_))
            refine x_iinc dX6_readSum_114 rfl rfl (inc1 _) ?_
            refine x_goto (tgt := 22) dX6_readSum_117 rfl ?_
            rw [hz] at e
            refine x_to (ih c30 h6 _ hr6 (by exact hok4) ?_) ⟨rfl, rfl, rfl, trivial⟩
            rw [e, show n - (i + 1) = f by omega]
            rfl
        refine x_istore_n (i := 3) dX6_readSum_45 rfl rfl (by decide) ?_
        refine x_iload_n (i := 3) dX6_readSum_46 rfl rfl rfl ?_
        refine x_bipush dX6_readSum_47 rfl bC_43 ?_
        refine x_ic_eq (tgt := 59) dX6_readSum_49 rfl rfl (fun c49 => ?_) (fun c49 => ?_)
        · refine x_to (go (nI 1) (Or.inl c49) (by rw [if_pos c49]) (fun h1 w => ?_)) ⟨rfl, rfl, rfl, rfl, trivial⟩
          refine x_iload_n (i := 3) dX6_readSum_97 rfl rfl rfl ?_
          refine x_bipush dX6_readSum_98 rfl bC_43 ?_
          refine x_ic_ne_f (tgt := 107) dX6_readSum_100 rfl rfl c49 ?_
          refine x_iconst dX6_readSum_103 rfl iC_1 ?_
          refine x_goto (tgt := 108) dX6_readSum_104 rfl ?_
          exact x_to w ⟨rfl, rfl, rfl, rfl, trivial⟩
        · refine x_iload_n (i := 3) dX6_readSum_52 rfl rfl rfl ?_
          refine x_bipush dX6_readSum_53 rfl bC_45 ?_
          refine x_ic_eq (tgt := 59) dX6_readSum_55 rfl rfl (fun c55 => ?_) (fun c55 => ?_)
          · refine x_to (go (-1) (Or.inr c55) (by rw [if_neg c49]) (fun h1 w => ?_)) ⟨rfl, rfl, rfl, rfl, trivial⟩
            refine x_iload_n (i := 3) dX6_readSum_97 rfl rfl rfl ?_
            refine x_bipush dX6_readSum_98 rfl bC_43 ?_
            refine x_ic_ne_t (tgt := 107) dX6_readSum_100 rfl c49 ?_
            refine x_iconst dX6_readSum_107 rfl iC_m1 ?_
            exact x_to w ⟨rfl, rfl, rfl, rfl, trivial⟩
          · rw [if_neg (by rintro (z | z); exact c49 z; exact c55 z)] at e
            refine x_return dX6_readSum_58 rfl ?_
            rw [e] at K
            exact K h2 hr2) 0 (Nat.zero_le _)
  refine x_iconst dX6_readSum_20 rfl iC_0 ?_
  refine x_istore_n (i := 2) dX6_readSum_21 rfl rfl (by decide) ?_
  exact x_to (key _ _ hr2 (zTerm_ok hok s ha) rfl) ⟨rfl, rfl, rfl, trivial⟩
end READ

