/-! EightPartsModel: laysMade; made, madeAt -/
theorem cN_up {p : Nat → Prop} {m : Nat} (h : ∀ j, m ≤ j → ¬ p j) : ∀ n, m ≤ n → cN p n = cN p m
  | 0, hn => by rw [show m = 0 by omega]
  | n + 1, hn => by
    by_cases e : m = n + 1
    · rw [e]
    · rw [cN_f (h n (by omega)), cN_up h n (by omega)]
theorem gS_up {M M2 : Nat} {s : mS} (hg : gS M s) (h : M ≤ M2) : gS M2 s := ⟨fun j hj => Nat.lt_of_lt_of_le (hg.1 j hj) h, fun P => by
  rw [hg.2 P]
  exact (cN_up (fun j hj z => by have := gS_in hg z.1; omega) M2 h).symm⟩
section MOD
variable {G : xG} {l : Launch} {d : Nat} {h : xH} {Q : Option Value → xH → Prop} {S : St}
theorem m_laysMade {m : Nat} (hd : 9 ≤ d) (hR : RM h S) (hm : 1 ≤ m ∧ m ≤ 255)
    (Kt : mdOk S (nI m) → ∀ h2, mK h h2 S → uK h2 S.2.1 (mdS S (nI m)) → Q (some (.int (nI 1))) h2)
    (Kf : ¬ mdOk S (nI m) → ∀ h2, RM h2 S → cF h h2 → Q (some (.int (nI 0))) h2) : xCt G l mX12_laysMade d [.ref 110, .int (nI m)] h 0 0 Q := by
  have hC := hR.1
  have ho8 := hR.2.1.1
  have n240 := ln_room S.2.1 ho8 1 (by decide)
  have r1 : zRoom 1 = 240 := rfl
  have zl := (zLst_n ho8 (show 1 < 4 by decide)).1
  have bS : ∀ j, j < 8 → zBd (S.1 j) := fun j hj => by rw [← hR.p hj]; exact hR.b j (by omega)
  have bi : ∀ j, j < 8 → (bitI (nI m) j ↔ m / 2 ^ j % 2 = 1) := fun j hj => bit_m m (by omega) j hj
  have md : mdOk S (nI m) ↔ ∀ j, j < 8 → m / 2 ^ j % 2 = 1 → ofO S.2.1 (oddN (S.1 j)) = true ∧ zInn (S.1 j) (S.1 j) 8 = 4 := by
    unfold mdOk
    constructor
    · exact fun z j hj q => (md_1 ho8 (bS j hj)).mp (z j hj ((bi j hj).mpr q))
    · exact fun z j hj q => (md_1 ho8 (bS j hj)).mpr (z j hj ((bi j hj).mp q))
  refine xCt_of (by decide) (Nat.le_of_ble_eq_true rfl) ?_
  -- behind the clearing
  have cont : ∀ h2, RM h2 S → cF h h2 → uJ h2 (0, fun _ => 0) → xWP G l mX12_laysMade d (zM G Q) 0 0 27 (xls [(0, .ref 110), (1, .int (nI m))]) [] h2 := by
    intro h2 R2 c2 J2
    have hC := R2.1
    refine x_iconst dX12_laysMade_27 rfl iC_0 ?_
    refine x_istore_n (i := 2) dX12_laysMade_28 rfl rfl (by decide) ?_
    have key := xloop (P := fun i => (∀ j, j < i → m / 2 ^ j % 2 = 1 → ofO S.2.1 (oddN (S.1 j)) = true ∧ zInn (S.1 j) (S.1 j) 8 = 4) → xWP G l mX12_laysMade d (zM G Q) 0 0 29 (xls [(0, .ref 110), (1, .int (nI m)), (2, .int (nI i))]) [] h2) 8 (by
      intro i hi ih ok
      refine x_iload_n (i := 2) dX12_laysMade_29 rfl rfl rfl ?_
      refine x_bipush dX12_laysMade_30 rfl bC_8 ?_
      refine x_jc_ge (tgt := 59) dX12_laysMade_32 rfl rfl (by omega) (by omega) (fun c32 => ?_) (fun c32 => ?_)
      · obtain rfl : i = 8 := by omega
        have mdk := md.mpr ok
        refine x_aload_n (i := 0) dX12_laysMade_59 rfl rfl rfl ?_
        refine x_callV0 (ci := 12) (b := 110) (As := []) (d2 := d - 1) dX12_laysMade_60 rfl kX12_364 okX12_laysTable (hC.o rfl) (fun q hq => by cases hq; rfl) (by omega) rfl rfl (Nat.le_of_ble_eq_true rfl) (m_laysTable (by omega) R2 (fun h3 r3 c3 t3 f3 e31 e32 => ?_))
        have J3 : uJ h3 (0, fun _ => 0) := J2.keep (f3 35 (by decide)) (by unfold iv; rw [e31]) (by unfold iv; rw [e32])
        have k3 : mK h h3 S := ⟨r3, c2.tr c3, t3⟩
        refine x_iconst dX12_laysMade_63 rfl iC_0 ?_
        refine x_istore_n (i := 2) dX12_laysMade_64 rfl rfl (by decide) ?_
        have fuL : ∀ j, j < 8 → bitI (nI m) j → fuN S.2.1 (S.1 j) < lnN S.2.1 1 ∧ plN S.2.1 (S.1 j) = nI (fuN S.2.1 (S.1 j)) := by
          intro j hj q
          obtain ⟨a, b⟩ := mdk j hj q
          obtain ⟨f1, f2⟩ := fuN_eq b
          obtain ⟨n1, n2⟩ := nrm8 (bS j hj)
          rw [n1] at a
          have a1 : nrmN (S.1 j) 8 ≤ 4 := (pk_lLE (b := 4) (by omega) (by omega)).mp (by rw [a]; exact Int64.le_refl _)
          have a2 : 4 ≤ nrmN (S.1 j) 8 := (pk_lLE (a := 4) (by omega) (by omega)).mp (by rw [a]; exact Int64.le_refl _)
          refine ⟨by rw [← zl]; exact f1, ?_⟩
          unfold plN
          rw [show nrmN (S.1 j) 8 = 4 by omega, if_pos ⟨by decide, by decide⟩]
          exact f2
        have key2 := xloop (P := fun i => ∀ h4, mK h h4 S → uJ h4 (gaS (bitI (nI m)) (fun j => fuN S.2.1 (S.1 j)) i) → xWP G l mX12_laysMade d (zM G Q) 0 0 65 (xls [(0, .ref 110), (1, .int (nI m)), (2, .int (nI i))]) [] h4) 8 (by
          intro i hi ih2 h4 k4 J4
          have hC := k4.1.1
          refine x_iload_n (i := 2) dX12_laysMade_65 rfl rfl rfl ?_
          refine x_bipush dX12_laysMade_66 rfl bC_8 ?_
          refine x_jc_ge (tgt := 94) dX12_laysMade_68 rfl rfl (by omega) (by omega) (fun c68 => ?_) (fun c68 => ?_)
          · obtain rfl : i = 8 := by omega
            refine x_iconst dX12_laysMade_94 rfl iC_0 ?_
            refine x_istore_n (i := 2) dX12_laysMade_95 rfl rfl (by decide) ?_
            refine x_to (w_close (by omega) (fun _ h5 k5 u5 => Kt mdk h5 k5 u5) k4 J4 (gS_ga 8 (fun j hj q => (fuL j hj q).1)) ?_) ⟨rfl, rfl, trivial⟩
            unfold mdS
            rw [zl]
          · refine x_iload_n (i := 1) dX12_laysMade_71 rfl rfl rfl ?_
            refine x_iload_n (i := 2) dX12_laysMade_72 rfl rfl rfl ?_
            refine x_callS0 (As := [_, _]) (d2 := d - 1) dX12_laysMade_73 rfl kX12_121 okX12_has (by omega) rfl rfl (Nat.le_of_ble_eq_true rfl) (m_has (by omega) c68 (fun z => ?_) (fun z => ?_))
            · have zb := (bi i c68).mpr z
              obtain ⟨f1, f2⟩ := fuL i c68 zb
              have gl := gaS_le (bitI (nI m)) (fun j => fuN S.2.1 (S.1 j)) i
              refine x_if_eq_f (tgt := 88) dX12_laysMade_76 rfl rfl nb1 ?_
              refine x_aload_n (i := 0) dX12_laysMade_79 rfl rfl rfl ?_
              refine x_aload_n (i := 0) dX12_laysMade_80 rfl rfl rfl ?_
              refine x_iload_n (i := 2) dX12_laysMade_81 rfl rfl rfl ?_
              refine x_callV0 (ci := 12) (b := 110) (As := [_]) (d2 := d - 1) dX12_laysMade_82 rfl kX12_337 okX12_numberOf (hC.o rfl) (fun q hq => by cases hq; rfl) (by omega) rfl rfl (Nat.le_of_ble_eq_true rfl) (m_numberOf (x := i) (by omega) k4.1 (by omega) (fun h5 r5 c5 s5 => ?_))
              rw [k4.1.p c68, f2]
              have hC := r5.1
              have J5 := J4.keep (by rw [s5.2 110 (by decide)]) (s5.iv (by decide)) (s5.iv (by decide))
              have k5 : mK h h5 S := ⟨r5, k4.2.1.tr c5, by unfold mTb; rw [s5.iv (by decide)]; exact k4.2.2⟩
              refine x_callV0 (ci := 12) (b := 110) (As := [_]) (d2 := d - 1) dX12_laysMade_85 rfl kX12_373 okX12_adds_ (hC.o rfl) (fun q hq => by cases hq; rfl) (by omega) rfl rfl (Nat.le_of_ble_eq_true rfl) (m_adds1 hC J5 (by omega) (fun z => by omega) (fun h6 C6 J6 s6 f6 => ?_))
              have k6 := k5.ad C6 s6 f6
              have hC := C6
              refine x_iinc dX12_laysMade_88 rfl rfl (inc1 _) ?_
              refine x_goto (tgt := 65) dX12_laysMade_91 rfl ?_
              exact x_to (ih2 c68 h6 k6 (by rw [gaS, if_pos zb]; exact J6)) ⟨rfl, rfl, rfl, trivial⟩
            · have zb : ¬ bitI (nI m) i := fun q => z ((bi i c68).mp q)
              refine x_if_eq_t (tgt := 88) dX12_laysMade_76 rfl nI_0 ?_
              refine x_iinc dX12_laysMade_88 rfl rfl (inc1 _) ?_
              refine x_goto (tgt := 65) dX12_laysMade_91 rfl ?_
              exact x_to (ih2 c68 h4 k4 (by rw [gaS, if_neg zb]; exact J4)) ⟨rfl, rfl, rfl, trivial⟩) 0 (Nat.zero_le _) h3 k3 J3
        exact x_to key2 ⟨rfl, rfl, rfl, trivial⟩
      · refine x_iload_n (i := 1) dX12_laysMade_35 rfl rfl rfl ?_
        refine x_iload_n (i := 2) dX12_laysMade_36 rfl rfl rfl ?_
        refine x_callS0 (As := [_, _]) (d2 := d - 1) dX12_laysMade_37 rfl kX12_121 okX12_has (by omega) rfl rfl (Nat.le_of_ble_eq_true rfl) (m_has (by omega) c32 (fun z => ?_) (fun z => ?_))
        · refine x_if_eq_f (tgt := 53) dX12_laysMade_40 rfl rfl nb1 ?_
          refine x_aload_n (i := 0) dX12_laysMade_43 rfl rfl rfl ?_
          refine x_iload_n (i := 2) dX12_laysMade_44 rfl rfl rfl ?_
          refine x_callV0 (ci := 12) (b := 110) (As := [_]) (d2 := d - 1) dX12_laysMade_45 rfl kX12_370 okX12_isUnit (hC.o rfl) (fun q hq => by cases hq; rfl) (by omega) rfl rfl (Nat.le_of_ble_eq_true rfl) (m_isUnit (x := i) (by omega) hC R2.2.1.2 ho8 (by omega) (fun y => ?_) (fun y => ?_))
          · rw [R2.p c32] at y
            refine x_if_ne_t (tgt := 53) dX12_laysMade_48 rfl nb1 ?_
            refine x_iinc dX12_laysMade_53 rfl rfl (inc1 _) ?_
            refine x_goto (tgt := 29) dX12_laysMade_56 rfl ?_
            exact x_to (ih c32 (lt_s ok (fun _ => y))) ⟨rfl, rfl, rfl, trivial⟩
          · rw [R2.p c32] at y
            refine x_if_ne_f (tgt := 53) dX12_laysMade_48 rfl rfl nI_0 ?_
            refine x_iconst dX12_laysMade_51 rfl iC_0 ?_
            refine x_ireturn dX12_laysMade_52 rfl rfl ?_
            exact Kf (fun q => y (md.mp q i c32 z)) h2 R2 c2
        · refine x_if_eq_t (tgt := 53) dX12_laysMade_40 rfl nI_0 ?_
          refine x_iinc dX12_laysMade_53 rfl rfl (inc1 _) ?_
          refine x_goto (tgt := 29) dX12_laysMade_56 rfl ?_
          exact x_to (ih c32 (lt_s ok (fun q => absurd q z))) ⟨rfl, rfl, rfl, trivial⟩) 0 (Nat.zero_le _) (fun j hj => absurd hj (Nat.not_lt_zero j))
    exact x_to key ⟨rfl, rfl, rfl, trivial⟩
  have hC1 := hC.setF (ci := 12) (a := 110) (kf := 35) (v := .int (nI 0)) rfl NF_110_35 (by decide)
  have hv1 : mV [] [110] h (hs h 110 (112, 0, updV (h.1 110).2.2 35 (.int (nI 0)))) := mV_o hC1 xSm.hs1 (by decide)
  have R1 : RM (hs h 110 (112, 0, updV (h.1 110).2.2 35 (.int (nI 0)))) S := hR.fl hv1 (by simp) (by simp [mNw]) (fv_ne (by decide)) (fv_ne (by decide)) (fv_ne (by decide)) (fv_ne (by decide))
  have f35 : ((hs h 110 (112, 0, updV (h.1 110).2.2 35 (.int (nI 0)))).1 110).2.2 35 = .int (nI 0) := fv_eq
  refine x_aload_n (i := 0) dX12_laysMade_0 rfl rfl rfl ?_
  refine x_iconst dX12_laysMade_1 rfl iC_0 ?_
  refine x_putC (a := 110) dX12_laysMade_2 rfl fX12_367 (fun q hq => by cases hq; rfl) hC rfl ⟨rfl, rfl⟩ ?_
  show xWP G l mX12_laysMade d (zM G Q) 0 0 5 _ [] (hs h 110 (112, 0, updV (h.1 110).2.2 35 (.int (nI 0))))
  generalize hs h 110 (112, 0, updV (h.1 110).2.2 35 (.int (nI 0))) = h1 at hC1 hv1 R1 f35 ⊢
  have v1 := hC1.z (a := 131) rfl
  refine x_iconst dX12_laysMade_5 rfl iC_0 ?_
  refine x_istore_n (i := 2) dX12_laysMade_6 rfl rfl (by decide) ?_
  have key := xloop (P := fun k => xWP G l mX12_laysMade d (zM G Q) 0 0 7 (xls [(0, .ref 110), (1, .int (nI m)), (2, .int (nI k))]) [] (hs h1 131 (2, 240, xI (xF (fun _ => nI 0) (iv h1 131) k)))) 240 (by
    intro k hk ih
    have hC2 := hC1.setI (f := xF (fun _ => nI 0) (iv h1 131) k) v1 (Or.inr (Or.inl rfl)) (by decide)
    have hC := hC2
    refine x_iload_n (i := 2) dX12_laysMade_7 rfl rfl rfl ?_
    refine x_sipush dX12_laysMade_8 rfl sC_240 ?_
    refine x_jc_ge (tgt := 27) dX12_laysMade_11 rfl rfl (by omega) (by omega) (fun c11 => ?_) (fun c11 => ?_)
    · obtain rfl : k = 240 := by omega
      have hv2 : mV [] [131] h1 (hs h1 131 (2, 240, xI (xF (fun _ => nI 0) (iv h1 131) 240))) := mV_o hC2 xSm.hs1 (by decide)
      refine x_to (cont _ (R1.fl hv2 (by simp) (by simp [mNw]) (fv_n (by decide)) (fv_n (by decide)) (fv_n (by decide)) (fv_n (by decide))) ((hv1.c (by simp)).tr (hv2.c (by simp))) ⟨(fv_n (by decide)).trans f35, Nat.zero_le _, fun j hj => absurd hj (Nat.not_lt_zero j), fun u hu => Or.inr ⟨?_, ?_⟩⟩) ⟨rfl, rfl, trivial⟩
      · rw [iv_hs]
        exact if_pos hu
      · rintro ⟨j, hj, -⟩
        exact absurd hj (Nat.not_lt_zero j)
    · refine x_aload_n (i := 0) dX12_laysMade_14 rfl rfl rfl ?_
      refine x_getC dX12_laysMade_15 rfl fX12_84 hC rfl F_110_33 ?_
      refine x_iload_n (i := 2) dX12_laysMade_18 rfl rfl rfl ?_
      refine x_iconst dX12_laysMade_19 rfl iC_0 ?_
      refine x_zast dX12_laysMade_20 rfl hs_eq rfl (by omega) (by decide) (by decide) ?_
      rw [hs_hs, xF_upd (fun _ => nI 0)]
      have hC3 := hC1.setI (f := xF (fun _ => nI 0) (iv h1 131) (k + 1)) v1 (Or.inr (Or.inl rfl)) (by decide)
      have hC := hC3
      refine x_iinc dX12_laysMade_21 rfl rfl (inc1 _) ?_
      refine x_goto (tgt := 7) dX12_laysMade_24 rfl ?_
      exact x_to (ih c11) ⟨rfl, rfl, rfl, trivial⟩) 0 (Nat.zero_le _)
  rw [xF_0, hs_self v1] at key
  exact x_to key ⟨rfl, rfl, rfl, trivial⟩
end MOD

