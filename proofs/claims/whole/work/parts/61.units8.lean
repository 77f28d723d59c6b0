/-! EightParts$Units: multiplyAt, when all is made -/
section UNITS
variable {G : xG} {l : Launch} {d : Nat} {h : xH} {Q : Option Value → xH → Prop}
theorem c_mulAt1 {r o i k : Nat} {pf : Int32} {rw0 : Nat → Nat} {mk : Nat → Option Nat} {g gl : Nat → Int32} (hd : 5 ≤ d) (hC : Cs h) (ho : hOrd h o) (ho8 : o < 8) (hL : lsC h rw0 mk) (hmk : mk 1 = some o) (hr : 134 ≤ r) (h4 : (h.1 31).2.2 4 = .ref r) (h5 : (h.1 31).2.2 5 = .int pf) (hrow : h.1 r = (0, 14400, xI g)) (hlr : 134 ≤ rw0 1) (hne : rw0 1 ≠ r) (hlist : h.1 (rw0 1) = (0, 240, xI gl)) (hsz : iv h 28 1 = nI (zLst o 1).1) (hgl : ∀ j, j < (zLst o 1).1 → gl j = (zLst o 1).2 j) (hV : pf = nI o → ucV o g) (hi : i < (zLst o 1).1) (hk : k < (zLst o 1).1)
    (K : ∀ h2 g2, Cs h2 → xSm [11, 31, 32, 33, r] h h2 → (h2.1 31).2.2 5 = .int (nI o) → (∀ q, q ≠ 5 → (h2.1 31).2.2 q = (h.1 31).2.2 q) → h2.1 r = (0, 14400, xI g2) → ucV o g2 → Q (some (.int (zMA o i k))) h2) : xCt G l mX9_multiplyAt d [.ref 31, .int (nI i), .int (nI k)] h 0 0 Q := by
  have hsN : (zLst o 1).1 ≤ 240 := zLst_le o 1
  unfold zMA at K
  refine xCt_of (by decide) (Nat.le_of_ble_eq_true rfl) ?_
  refine x_aload_n (i := 0) dX9_multiplyAt_0 rfl rfl rfl ?_
  refine x_getC dX9_multiplyAt_1 rfl fX9_35 hC rfl F_31_0 ?_
  refine x_iconst dX9_multiplyAt_4 rfl iC_1 ?_
  refine x_callV0 (ci := 4) (b := 22) (As := [_]) (d2 := d - 1) dX9_multiplyAt_5 rfl kX9_43 okX4_manyOf (hC.o rfl) (fun q hq => by cases hq; rfl) (by omega) rfl rfl (Nat.le_of_ble_eq_true rfl) (c_lmanyOfC (norm := 1) hC ho ho8 (by decide) hL hmk ?_)
  generalize hsz0 : (zLst o 1).1 = sz at *
  refine x_iconst dX9_multiplyAt_8 rfl iC_1 ?_
  refine x_isub dX9_multiplyAt_9 rfl ?_
  rw [show nI sz - nI 1 = nI (sz - 1) from pk_sub (by omega)]
  refine x_istore_n (i := 3) dX9_multiplyAt_10 rfl rfl (by decide) ?_
  refine x_iload_n (i := 1) dX9_multiplyAt_11 rfl rfl rfl ?_
  refine x_if_lt_f (tgt := 29) dX9_multiplyAt_12 rfl rfl (nI_pos (by omega)) ?_
  refine x_iload_n (i := 1) dX9_multiplyAt_15 rfl rfl rfl ?_
  refine x_iload_n (i := 3) dX9_multiplyAt_16 rfl rfl rfl ?_
  refine x_ic_gt_f (tgt := 29) dX9_multiplyAt_17 rfl rfl (nI_nlt (by omega) (by omega)) ?_
  refine x_iload_n (i := 2) dX9_multiplyAt_20 rfl rfl rfl ?_
  refine x_if_lt_f (tgt := 29) dX9_multiplyAt_21 rfl rfl (nI_pos (by omega)) ?_
  refine x_iload_n (i := 2) dX9_multiplyAt_24 rfl rfl rfl ?_
  refine x_iload_n (i := 3) dX9_multiplyAt_25 rfl rfl rfl ?_
  refine x_ic_le_t (tgt := 31) dX9_multiplyAt_26 rfl (nI_le (by omega) (by omega)) ?_
  refine x_iload_n (i := 1) dX9_multiplyAt_31 rfl rfl rfl ?_
  refine x_iload_n (i := 3) dX9_multiplyAt_32 rfl rfl rfl ?_
  refine x_iload_n (i := 1) dX9_multiplyAt_33 rfl rfl rfl ?_
  refine x_isub dX9_multiplyAt_34 rfl ?_
  rw [show nI (sz - 1) - nI i = nI (sz - 1 - i) from pk_sub (by omega)]
  refine x_callS0 (As := [_, _]) (d2 := d - 1) dX9_multiplyAt_35 rfl kX9_49 okJ9_min_7cf53 (by omega) rfl rfl (Nat.le_of_ble_eq_true rfl) (c_minI (by omega) (by omega) ?_)
  refine x_istore dX9_multiplyAt_38 rfl (by decide) ?_
  refine x_iload_n (i := 2) dX9_multiplyAt_40 rfl rfl rfl ?_
  refine x_iload_n (i := 3) dX9_multiplyAt_41 rfl rfl rfl ?_
  refine x_iload_n (i := 2) dX9_multiplyAt_42 rfl rfl rfl ?_
  refine x_isub dX9_multiplyAt_43 rfl ?_
  rw [show nI (sz - 1) - nI k = nI (sz - 1 - k) from pk_sub (by omega)]
  refine x_callS0 (As := [_, _]) (d2 := d - 1) dX9_multiplyAt_44 rfl kX9_49 okJ9_min_7cf53 (by omega) rfl rfl (Nat.le_of_ble_eq_true rfl) (c_minI (by omega) (by omega) ?_)
  refine x_istore dX9_multiplyAt_47 rfl (by decide) ?_
  refine x_aload_n (i := 0) dX9_multiplyAt_49 rfl rfl rfl ?_
  refine x_iload dX9_multiplyAt_50 rfl rfl ?_
  refine x_iload dX9_multiplyAt_52 rfl rfl ?_
  have m1 : min i (sz - 1 - i) < 120 := by omega
  have m2 : min k (sz - 1 - k) < 120 := by omega
  have l1 : min i (sz - 1 - i) < 2147483648 := by omega
  have l2 : min k (sz - 1 - k) < 2147483648 := by omega
  generalize min i (sz - 1 - i) = fi at *
  generalize min k (sz - 1 - k) = fk at *
  refine x_callV0 (ci := 9) (b := 31) (As := [_, _]) (d2 := d - 1) dX9_multiplyAt_54 rfl kX9_55 okX9_multiplyNegative (hC.o rfl) (fun q hq => by cases hq; rfl) (by omega) rfl rfl (Nat.le_of_ble_eq_true rfl) (c_mulNeg1 (by omega) hC ho hr h4 h5 hrow hL.1 hlr hne hlist (by rw [hsz, hsz0]) (by rw [hsz0]; exact hgl) hV m1 m2 (fun h2 g2 k1 k2 k3 k4 k5 k6 => ?_))
  have kk := K h2 g2 k1 k2 k3 k4 k5 k6
  generalize zMN o fi fk = mn at *
  have fd : (((fi = i ↔ fk = k) ∨ mn = -1) → xWP G l mX9_multiplyAt d (zM G Q) 0 0 90 (xls [(0, .ref 31), (1, .int (nI i)), (2, .int (nI k)), (3, .int (nI (sz - 1))), (4, .int (nI fi)), (5, .int (nI fk)), (6, .int mn)]) [] h2) := by
    intro z
    rw [if_pos z] at kk
    refine x_iload dX9_multiplyAt_90 rfl rfl ?_
    refine x_goto (tgt := 99) dX9_multiplyAt_92 rfl ?_
    refine x_ireturn dX9_multiplyAt_99 rfl rfl ?_
    exact kk
  have w84 : ¬ (fi = i ↔ fk = k) → xWP G l mX9_multiplyAt d (zM G Q) 0 0 84 (xls [(0, .ref 31), (1, .int (nI i)), (2, .int (nI k)), (3, .int (nI (sz - 1))), (4, .int (nI fi)), (5, .int (nI fk)), (6, .int mn)]) [] h2 := by
    intro z
    refine x_iload dX9_multiplyAt_84 rfl rfl ?_
    refine x_iconst dX9_multiplyAt_86 rfl iC_m1 ?_
    refine x_ic_ne (tgt := 95) dX9_multiplyAt_87 rfl rfl (fun c87 => ?_) (fun c87 => ?_)
    · rw [if_neg (by rintro (y | y); exact z y; exact c87 y)] at kk
      refine x_iload_n (i := 3) dX9_multiplyAt_95 rfl rfl rfl ?_
      refine x_iload dX9_multiplyAt_96 rfl rfl ?_
      refine x_isub dX9_multiplyAt_98 rfl ?_
      refine x_ireturn dX9_multiplyAt_99 rfl rfl ?_
      exact kk
    · exact x_to (fd (Or.inr c87)) ⟨rfl, rfl, rfl, rfl, rfl, rfl, rfl, trivial⟩
  refine x_istore dX9_multiplyAt_57 rfl (by decide) ?_
  refine x_iload dX9_multiplyAt_59 rfl rfl ?_
  refine x_iload_n (i := 1) dX9_multiplyAt_61 rfl rfl rfl ?_
  refine x_jc_ne (tgt := 69) dX9_multiplyAt_62 rfl rfl (by omega) (by omega) (fun c62 => ?_) (fun c62 => ?_)
  · refine x_iconst dX9_multiplyAt_69 rfl iC_0 ?_
    refine x_iload dX9_multiplyAt_70 rfl rfl ?_
    refine x_iload_n (i := 2) dX9_multiplyAt_72 rfl rfl rfl ?_
    refine x_jc_ne (tgt := 80) dX9_multiplyAt_73 rfl rfl (by omega) (by omega) (fun c73 => ?_) (fun c73 => ?_)
    · refine x_iconst dX9_multiplyAt_80 rfl iC_0 ?_
      refine x_ic_eq_t (tgt := 90) dX9_multiplyAt_81 rfl rfl ?_
      exact x_to (fd (Or.inl ⟨fun e => absurd e c62, fun e => absurd e c73⟩)) ⟨rfl, rfl, rfl, rfl, rfl, rfl, rfl, trivial⟩
    · refine x_iconst dX9_multiplyAt_76 rfl iC_1 ?_
      refine x_goto (tgt := 81) dX9_multiplyAt_77 rfl ?_
      refine x_ic_eq_f (tgt := 90) dX9_multiplyAt_81 rfl rfl (by decide) ?_
      exact x_to (w84 (fun z => c62 (z.mpr c73))) ⟨rfl, rfl, rfl, rfl, rfl, rfl, rfl, trivial⟩
  · refine x_iconst dX9_multiplyAt_65 rfl iC_1 ?_
    refine x_goto (tgt := 70) dX9_multiplyAt_66 rfl ?_
    refine x_iload dX9_multiplyAt_70 rfl rfl ?_
    refine x_iload_n (i := 2) dX9_multiplyAt_72 rfl rfl rfl ?_
    refine x_jc_ne (tgt := 80) dX9_multiplyAt_73 rfl rfl (by omega) (by omega) (fun c73 => ?_) (fun c73 => ?_)
    · refine x_iconst dX9_multiplyAt_80 rfl iC_0 ?_
      refine x_ic_eq_f (tgt := 90) dX9_multiplyAt_81 rfl rfl (by decide) ?_
      exact x_to (w84 (fun z => c73 (z.mp c62))) ⟨rfl, rfl, rfl, rfl, rfl, rfl, rfl, trivial⟩
    · refine x_iconst dX9_multiplyAt_76 rfl iC_1 ?_
      refine x_goto (tgt := 81) dX9_multiplyAt_77 rfl ?_
      refine x_ic_eq_t (tgt := 90) dX9_multiplyAt_81 rfl rfl ?_
      exact x_to (fd (Or.inl ⟨fun _ => c73, fun _ => c62⟩)) ⟨rfl, rfl, rfl, rfl, rfl, rfl, rfl, trivial⟩
end UNITS

