/-! EightParts$Ways: all of a row; how many are unlike -/
/-- the k-th slot of a row -/
def slR (row : Int32) (k : Nat) : Nat := (row >>> (nI 3 * nI k &&& 31)).toBitVec.toNat % 8
theorem slR_lt (row : Int32) (k : Nat) : slR row k < 8 := Nat.mod_lt _ (by decide)
theorem slR_eq (row : Int32) (k : Nat) : (row >>> (nI 3 * nI k &&& 31)) &&& nI 7 = nI (slR row k) := pk_and _ 3 rfl
def vI (V : Nat → zO) (sl : Nat → Nat → Int32) : Nat → Nat → zO
  | 0 => V
  | n + 1 => vUpd (vI V sl n) n (some (sl n))
noncomputable def vG (V : Nat → zO) (len : Nat) : Nat → Nat → zO
  | 0 => V
  | n + 1 => vS (vG V len n) n len (len - 1)
noncomputable def vF (V : Nat → zO) (many : Nat) : Nat → Nat → zO
  | 0 => V
  | n + 1 => vG (vF V many n) (n + 2) (many - (n + 2) + 1)
section WAYS
variable {G : xG} {l : Launch} {d : Nat} {h : xH} {Q : Option Value → xH → Prop}
theorem c_slotOfRow {row : Int32} {k : Nat} (K : Q (some (.int (nI (slR row k)))) h) : xCt G l mX11_slotOfRow d [.int row, .int (nI k)] h 0 0 Q := by
  refine xCt_of (by decide) (Nat.le_of_ble_eq_true rfl) ?_
  refine x_iload_n (i := 0) dX11_slotOfRow_0 rfl rfl rfl ?_
  refine x_iconst dX11_slotOfRow_1 rfl iC_3 ?_
  refine x_iload_n (i := 1) dX11_slotOfRow_2 rfl rfl rfl ?_
  refine x_imul dX11_slotOfRow_3 rfl ?_
  refine x_ishr dX11_slotOfRow_4 rfl ?_
  refine x_bipush dX11_slotOfRow_5 rfl bC_7 ?_
  refine x_iand dX11_slotOfRow_7 rfl ?_
  rw [slR_eq]
  refine x_ireturn dX11_slotOfRow_8 rfl rfl ?_
  exact K
theorem w_fill {p many K0 N0 : Nat} {row : Int32} {V : Nat → zO} (hd : 4 ≤ d) (hC : Cs h) (hR : wyR h p) (hV : wyV h p V) (h1m : 1 ≤ many) (hm : many ≤ 6)
    (K : ∀ h2, wyH p h h2 (vF (vI V (fun k => iv h (2 + slR row k)) many) many (many - 1)) → Q none h2) : xWP G l mX10_fill d (zM G Q) K0 N0 20 (xls [(0, .ref 53), (1, .ref 1), (2, .int (nI many)), (3, .int row)]) [] h := by
  refine x_iconst dX10_fill_20 rfl iC_0 ?_
  refine x_istore dX10_fill_21 rfl (by decide) ?_
  have key2 : ∀ h1, wyH p h h1 (vI V (fun k => iv h (2 + slR row k)) many) → xWP G l mX10_fill d (zM G Q) K0 N0 61 (xls [(0, .ref 53), (1, .ref 1), (2, .int (nI many)), (3, .int row)]) [] h1 := by
    intro h1 hw
    refine x_iconst dX10_fill_61 rfl iC_2 ?_
    refine x_istore dX10_fill_62 rfl (by decide) ?_
    have keyA := xloop (P := fun n => ∀ h1, wyH p h h1 (vF (vI V (fun k => iv h (2 + slR row k)) many) many n) → xWP G l mX10_fill d (zM G Q) K0 N0 64 (xls [(0, .ref 53), (1, .ref 1), (2, .int (nI many)), (3, .int row), (4, .int (nI (n + 2)))]) [] h1) (many - 1) (by
      intro n hn ih h1 hw
      refine x_iload dX10_fill_64 rfl rfl ?_
      refine x_iload_n (i := 2) dX10_fill_66 rfl rfl rfl ?_
      refine x_jc_gt (tgt := 102) dX10_fill_67 rfl rfl (by omega) (by omega) (fun c67 => ?_) (fun c67 => ?_)
      · obtain rfl : n = many - 1 := by omega
        refine x_return dX10_fill_102 rfl ?_
        exact K h1 hw
      · refine x_iconst dX10_fill_70 rfl iC_0 ?_
        refine x_istore dX10_fill_71 rfl (by decide) ?_
        have keyB := xloop (P := fun f => ∀ h1, wyH p h h1 (vG (vF (vI V (fun k => iv h (2 + slR row k)) many) many n) (n + 2) f) → xWP G l mX10_fill d (zM G Q) K0 N0 73 (xls [(0, .ref 53), (1, .ref 1), (2, .int (nI many)), (3, .int row), (4, .int (nI (n + 2))), (5, .int (nI f))]) [] h1) (many - (n + 2) + 1) (by
          intro f hf ihf h1 hw
          refine x_iload dX10_fill_73 rfl rfl ?_
          refine x_iload dX10_fill_75 rfl rfl ?_
          refine x_iadd dX10_fill_77 rfl ?_
          rw [show nI f + nI (n + 2) = nI (f + (n + 2)) from nI_add _ _]
          refine x_iload_n (i := 2) dX10_fill_78 rfl rfl rfl ?_
          refine x_jc_gt (tgt := 96) dX10_fill_79 rfl rfl (by omega) (by omega) (fun c79 => ?_) (fun c79 => ?_)
          · obtain rfl : f = many - (n + 2) + 1 := by omega
            refine x_iinc dX10_fill_96 rfl rfl (inc1 _) ?_
            refine x_goto (tgt := 64) dX10_fill_99 rfl ?_
            exact x_to (ih (by omega) h1 hw) ⟨rfl, rfl, rfl, rfl, rfl, trivial⟩
          · obtain ⟨hC, hR, hS, hV⟩ := hw
            refine x_aload_n (i := 0) dX10_fill_82 rfl rfl rfl ?_
            refine x_iload dX10_fill_83 rfl rfl ?_
            refine x_iload dX10_fill_85 rfl rfl ?_
            refine x_callV0 (ci := 10) (b := 53) (As := [_, _]) (d2 := d - 1) dX10_fill_87 rfl kX10_38 okX10_fillStretch (hC.o rfl) (fun q hq => by cases hq; rfl) (by omega) rfl rfl (Nat.le_of_ble_eq_true rfl) (c_fillStretch (by omega) hC hR hV (by omega) (by omega) (fun h2 hw2 => ?_))
            refine x_iinc dX10_fill_90 rfl rfl (inc1 _) ?_
            refine x_goto (tgt := 73) dX10_fill_93 rfl ?_
            obtain ⟨hC2, hR2, hS2, hV2⟩ := hw2
            exact x_to (ihf (by omega) h2 ⟨hC2, hR2, hS.tr hS2, hV2⟩) ⟨rfl, rfl, rfl, rfl, rfl, rfl, trivial⟩) 0 (Nat.zero_le _)
        exact x_to (keyB h1 hw) ⟨rfl, rfl, rfl, rfl, rfl, rfl, trivial⟩) 0 (Nat.zero_le _)
    exact x_to (keyA h1 hw) ⟨rfl, rfl, rfl, rfl, rfl, trivial⟩
  have key := xloop (P := fun n => ∀ h1, wyH p h h1 (vI V (fun k => iv h (2 + slR row k)) n) → xWP G l mX10_fill d (zM G Q) K0 N0 23 (xls [(0, .ref 53), (1, .ref 1), (2, .int (nI many)), (3, .int row), (4, .int (nI n))]) [] h1) many (by
    intro n hn ih h1 hw
    refine x_iload dX10_fill_23 rfl rfl ?_
    refine x_iload_n (i := 2) dX10_fill_25 rfl rfl rfl ?_
    refine x_jc_ge (tgt := 61) dX10_fill_26 rfl rfl (by omega) (by omega) (fun c26 => ?_) (fun c26 => ?_)
    · obtain rfl : n = many := by omega
      exact x_to (key2 h1 hw) ⟨rfl, rfl, rfl, rfl, trivial⟩
    · obtain ⟨hC, hR, hS, hV⟩ := hw
      have s8 := slR_lt row n
      have e0 : iv h1 (2 + slR row n) = iv h (2 + slR row n) := hS.iv (by have := hR.2.1; unfold wyP; omega)
      have vs := hC.v (csV_slot s8)
      rw [e0] at vs
      obtain ⟨r1, r2, r3, r4, r5⟩ := hR
      have vp := r5 n (by omega)
      unfold xV8 at vp
      have v55 := hC.z (a := 55) rfl
      refine x_aload_n (i := 0) dX10_fill_29 rfl rfl rfl ?_
      refine x_getM (a := 53) dX10_fill_30 rfl fX10_11 hC rfl r1 ?_
      refine x_iload dX10_fill_33 rfl rfl ?_
      refine x_aald (t := 0)  dX10_fill_35 rfl r4 (by decide) rfl (by omega) (by decide) ?_
      refine x_aload_n (i := 1) dX10_fill_36 rfl rfl rfl ?_
      refine x_iload_n (i := 3) dX10_fill_37 rfl rfl rfl ?_
      refine x_iload dX10_fill_38 rfl rfl ?_
      refine x_callS0 (As := [_, _]) (d2 := d - 1) dX10_fill_40 rfl kX10_28 okX11_slotOfRow (by omega) rfl rfl (Nat.le_of_ble_eq_true rfl) (c_slotOfRow ?_)
      refine x_aaldC (t := 0) dX10_fill_43 rfl hC rfl (by decide) rfl (by omega) (by decide) (csF_slot s8) ?_
      refine x_callS0 (As := [_, _]) (d2 := d - 1) dX10_fill_44 rfl kX10_32 okX5_lay (by omega) rfl rfl (Nat.le_of_ble_eq_true rfl) (c_lay (by omega) vp vs ?_)
      have hC1 := hC.setI (f := iv h (2 + slR row n)) vp (Or.inl rfl) (by omega)
      have hC2 := hC1.setI (f := upd (iv h1 55) n (nI 1)) (hs_ne (by omega) v55) (Or.inr (Or.inl rfl)) (by decide)
      have s2 : xSq (wyP p) h1 (hs (hs h1 (p + 1 + n) (0, 8, xI (iv h (2 + slR row n)))) 55 (2, 104, xI (upd (iv h1 55) n (nI 1)))) := xSm.hs2.sq (by intro a ha; simp at ha; unfold wyP; omega)
      refine x_aload_n (i := 0) dX10_fill_47 rfl rfl rfl ?_
      refine x_getC dX10_fill_48 rfl fX10_16 hC1 rfl F_53_2 ?_
      refine x_iload dX10_fill_51 rfl rfl ?_
      refine x_iconst dX10_fill_53 rfl iC_1 ?_
      refine x_zast dX10_fill_54 rfl (hs_ne (by omega) v55) rfl (by omega) (by decide) (by decide) ?_
      refine x_iinc dX10_fill_55 rfl rfl (inc1 _) ?_
      refine x_goto (tgt := 23) dX10_fill_58 rfl ?_
      refine x_to (ih c26 _ ⟨hC2, wyR.sq ⟨r1, r2, r3, r4, r5⟩ s2 (fun j hj => ?_), hS.tr s2, fun j hj => ?_⟩) ⟨rfl, rfl, rfl, rfl, rfl, trivial⟩
      · unfold xV8
        rw [hs_n (by omega), iv_n (by omega)]
        by_cases e : j = n
        · subst e
          rw [hs_eq, iv_hs]
        · rw [hs_n (by omega), iv_n (by omega)]
          exact r5 j hj
      · rw [iv_hs, iv_n (by omega)]
        unfold vI vUpd upd
        by_cases e : j = n
        · subst e
          refine Or.inl ⟨?_, by simp⟩
          rw [if_pos rfl, iv_hs]
        · simp only [e, if_false]
          rw [iv_n (by omega)]
          exact hV j hj) 0 (Nat.zero_le _)
  exact x_to (key h ⟨hC, hR, xSq.rf, hV⟩) ⟨rfl, rfl, rfl, rfl, rfl, trivial⟩
theorem c_fill1 {p many : Nat} {row : Int32} {V : Nat → zO} (hd : 4 ≤ d) (hC : Cs h) (hR : wyR h p) (hV : wyV h p V) (h1m : 1 ≤ many) (hm : many ≤ 6)
    (K : ∀ h2, wyH p h h2 (vF (vI V (fun k => iv h (2 + slR row k)) many) many (many - 1)) → Q none h2) : xCt G l mX10_fill d [.ref 53, .ref 1, .int (nI many), .int row] h 0 0 Q := by
  refine xCt_of (by decide) (Nat.le_of_ble_eq_true rfl) ?_
  obtain ⟨r1, r2, r3, r4, r5⟩ := hR
  refine x_aload_n (i := 0) dX10_fill_0 rfl rfl rfl ?_
  refine x_getM (a := 53) dX10_fill_1 rfl fX10_11 hC rfl r1 ?_
  refine x_alen dX10_fill_4 rfl r4 (by decide) rfl ?_
  refine x_if_ne_t (tgt := 20) dX10_fill_5 rfl (by decide) ?_
  exact x_to (w_fill hd hC ⟨r1, r2, r3, r4, r5⟩ hV h1m hm K) ⟨rfl, rfl, rfl, rfl, trivial⟩
/-- layWay -/
theorem c_layWay {p t many k : Nat} {V : Nat → zO} (hd : 2 ≤ d) (hC : Cs h) (hR : wyR h p) (hV : wyV h p V) (hm : many ≤ 6) (hk : k < wM many) (ht : csV t) (ht1 : t < 110)
    (Kt : ∀ z, V (wB many + k) = some z → ∀ h2, Cs h2 → xSm [t] h h2 → iv h2 t = z → Q (some (.int (nI 1))) h2)
    (Kf : V (wB many + k) = none → Q (some (.int (nI 0))) h) : xCt G l mX10_layWay d [.ref 53, .ref t, .int (nI many), .int (nI k)] h 0 0 Q := by
  have hb : wB many + k < 104 := by
    have q : ∀ m, m ≤ 6 → wB m + wM m ≤ 104 := by decide
    have := q many hm
    omega
  have v55 := hC.z (a := 55) rfl
  have vt := hC.v ht
  obtain ⟨r1, r2, r3, r4, r5⟩ := hR
  have vp := r5 _ hb
  unfold xV8 at vp
  refine xCt_of (by decide) (Nat.le_of_ble_eq_true rfl) ?_
  refine x_gets dX10_layWay_0 rfl sX10_42 ?_
  refine x_iload_n (i := 2) dX10_layWay_3 rfl rfl rfl ?_
  refine x_saB dX10_layWay_4 rfl (by omega) ?_
  refine x_iload_n (i := 3) dX10_layWay_5 rfl rfl rfl ?_
  refine x_iadd dX10_layWay_6 rfl ?_
  rw [show nI (wB many) + nI k = nI (wB many + k) from nI_add _ _]
  refine x_istore dX10_layWay_7 rfl (by decide) ?_
  refine x_aload_n (i := 0) dX10_layWay_9 rfl rfl rfl ?_
  refine x_getC dX10_layWay_10 rfl fX10_16 hC rfl F_53_2 ?_
  refine x_iload dX10_layWay_13 rfl rfl ?_
  refine x_zald dX10_layWay_15 rfl (by first | assumption | exact hs_eq | exact hs_ne (by first | assumption | decide | omega) (by first | assumption | exact hs_eq | exact hs_ne (by first | assumption | decide | omega) (by first | assumption | exact hs_eq | exact hs_ne (by first | assumption | decide | omega) (by assumption)))) rfl (by omega) (by decide) ?_
  rcases hV _ hb with ⟨va, ea⟩ | ⟨va, ea⟩
  · refine x_if_eq_f (tgt := 30) dX10_layWay_16 rfl rfl (by rw [ea]; exact nb1) ?_
    refine x_aload_n (i := 1) dX10_layWay_19 rfl rfl rfl ?_
    refine x_aload_n (i := 0) dX10_layWay_20 rfl rfl rfl ?_
    refine x_getM (a := 53) dX10_layWay_21 rfl fX10_11 hC rfl r1 ?_
    refine x_iload dX10_layWay_24 rfl rfl ?_
    refine x_aald (t := 0)  dX10_layWay_26 rfl r4 (by decide) rfl (by omega) (by decide) ?_
    refine x_callS0 (As := [_, _]) (d2 := d - 1) dX10_layWay_27 rfl kX10_32 okX5_lay (by omega) rfl rfl (Nat.le_of_ble_eq_true rfl) (c_lay (by omega) vt vp ?_)
    have hC1 := hC.setI (f := iv h (p + 1 + (wB many + k))) vt (Or.inl rfl) (by omega)
    refine x_aload_n (i := 0) dX10_layWay_30 rfl rfl rfl ?_
    refine x_getC dX10_layWay_31 rfl fX10_16 hC1 rfl F_53_2 ?_
    refine x_iload dX10_layWay_34 rfl rfl ?_
    refine x_zald dX10_layWay_36 rfl (hs_ne (fun e => by subst e; cases ht) v55) rfl (by omega) (by decide) ?_
    rw [ea]
    refine x_ireturn dX10_layWay_37 rfl rfl ?_
    exact Kt _ va _ hC1 xSm.hs1 iv_hs
  · refine x_if_eq_t (tgt := 30) dX10_layWay_16 rfl (by rw [ea]; exact nI_0) ?_
    refine x_aload_n (i := 0) dX10_layWay_30 rfl rfl rfl ?_
    refine x_getC dX10_layWay_31 rfl fX10_16 hC rfl F_53_2 ?_
    refine x_iload dX10_layWay_34 rfl rfl ?_
    refine x_zald dX10_layWay_36 rfl (by first | assumption | exact hs_eq | exact hs_ne (by first | assumption | decide | omega) (by first | assumption | exact hs_eq | exact hs_ne (by first | assumption | decide | omega) (by first | assumption | exact hs_eq | exact hs_ne (by first | assumption | decide | omega) (by assumption)))) rfl (by omega) (by decide) ?_
    rw [ea]
    refine x_ireturn dX10_layWay_37 rfl rfl ?_
    exact Kf va
end WAYS

