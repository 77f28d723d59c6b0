/-! EightPartsModel: made, madeAt -/
theorem uK_srt {h : xH} {o : Nat} {s : mS} (ho : o < 8) (hK : uK h o s) : ∃ srt : Nat → Nat, (∀ j, j < s.1 → iv h 132 j = nI (srt j) ∧ srt j < lnN o 1 ∧ mIn s (srt j) ∧ cN (mIn s) (srt j) = j) ∧ (∀ u, mIn s u → ∃ j, j < s.1 ∧ srt j = u) ∧ ∀ P : Nat → Prop, cN (fun j => P (srt j)) s.1 = cN (fun i => P (s.2 i)) s.1 := by
  obtain ⟨-, hg, hr⟩ := hK
  have n240 := ln_room o ho 1 (by decide)
  have r1 : zRoom 1 = 240 := rfl
  have g2 := gS_up hg (show lnN o 1 ≤ 240 by omega)
  have e240 := gS_n g2
  have ex : ∀ j, ∃ v, j < s.1 → v < 240 ∧ mIn s v ∧ cN (mIn s) v = j := by
    intro j
    by_cases c : j < s.1
    · obtain ⟨v, v1, v2, v3⟩ := cN_at (p := mIn s) 240 j (by rw [e240]; exact c)
      exact ⟨v, fun _ => ⟨v1, v2, v3⟩⟩
    · exact ⟨0, fun z => absurd z c⟩
  obtain ⟨srt, hs⟩ := Classical.skolem.mp ex
  have back : ∀ u, u < 240 → mIn s u → srt (cN (mIn s) u) = u := by
    intro u hu m
    have l1 : cN (mIn s) u < s.1 := by rw [← e240]; exact cN_lt hu m
    obtain ⟨a1, a2, a3⟩ := hs _ l1
    rcases Nat.lt_trichotomy (srt (cN (mIn s) u)) u with q | q | q
    · have := cN_lt (p := mIn s) q a2
      omega
    · exact q
    · have := cN_lt (p := mIn s) q m
      omega
  refine ⟨srt, fun j hj => ?_, fun u hu => ?_, fun P => ?_⟩
  · obtain ⟨a1, a2, a3⟩ := hs j hj
    have := hr _ a1 a2
    rw [a3] at this
    exact ⟨this, gS_in hg a2, a2, a3⟩
  · have h1 := gS_in g2 hu
    exact ⟨cN (mIn s) u, by rw [← e240]; exact cN_lt h1 hu, back u h1 hu⟩
  · have := cN_rise (p := mIn s) (P := P) (srt := srt) 240 back
    rw [e240] at this
    rw [this]
    exact (g2.2 P).symm
/-- associative: in the one order, and in the other -/
theorem as_iff {o : Nat} {s : mS} {srt : Nat → Nat} (ho : o < 8) (hg : gS (lnN o 1) s) (h1 : ∀ j, j < s.1 → mIn s (srt j)) (h2 : ∀ u, mIn s u → ∃ j, j < s.1 ∧ srt j = u) : (∀ i, i < s.1 → ∀ k, k < s.1 → ∀ z, z < s.1 → T0 o (T0 o (srt i) (srt k)) (srt z) = T0 o (srt i) (T0 o (srt k) (srt z))) ↔ ∀ i, i < s.1 → asU o (T0 o) s.1 s.2 (s.2 i) := by
  have zl := (zLst_n ho (show 1 < 4 by decide)).1
  constructor
  · intro a i hi
    right
    intro j hj k hk
    obtain ⟨i2, b1, b2⟩ := h2 (s.2 i) ⟨i, hi, rfl⟩
    obtain ⟨j2, c1, c2⟩ := h2 (s.2 j) ⟨j, hj, rfl⟩
    obtain ⟨k2, d1, d2⟩ := h2 (s.2 k) ⟨k, hk, rfl⟩
    rw [← b2, ← c2, ← d2]
    exact a i2 b1 j2 c1 k2 d1
  · intro a i hi k hk z hz
    obtain ⟨i2, b1, b2⟩ := h1 i hi
    obtain ⟨k2, c1, c2⟩ := h1 k hk
    obtain ⟨z2, d1, d2⟩ := h1 z hz
    rw [← b2, ← c2, ← d2]
    rcases a i2 b1 with q | q
    · rw [zl] at q
      exact T0_re ho q (hg.1 k2 c1) (hg.1 z2 d1)
    · exact q k2 c1 z2 d1
section MOD
variable {G : xG} {l : Launch} {d : Nat} {h : xH} {Q : Option Value → xH → Prop} {S : St} {o c : Nat} {srt : Nat → Nat}
theorem m_madeP {i k : Nat} (ho : o < 8) (hC : Cs h) (ht : mTb h o) (hi : i < lnN o 1) (hk : k < lnN o 1) (K : Q (some (.int (nI (T0 o i k)))) h) : xCt G l mX12_madeProduct d [.ref 110, .int (nI i), .int (nI k)] h 0 0 Q := by
  have n240 := ln_room o ho 1 (by decide)
  have r1 : zRoom 1 = 240 := rfl
  have zl := (zLst_n ho (show 1 < 4 by decide)).1
  have v130 := hC.v (a := 130) rfl
  refine xCt_of (by decide) (Nat.le_of_ble_eq_true rfl) ?_
  refine x_aload_n (i := 0) dX12_madeProduct_0 rfl rfl rfl ?_
  refine x_getC dX12_madeProduct_1 rfl fX12_78 hC rfl F_110_31 ?_
  refine x_sipush dX12_madeProduct_4 rfl sC_240 ?_
  refine x_iload_n (i := 1) dX12_madeProduct_7 rfl rfl rfl ?_
  refine x_imul dX12_madeProduct_8 rfl ?_
  refine x_iload_n (i := 2) dX12_madeProduct_9 rfl rfl rfl ?_
  refine x_iadd dX12_madeProduct_10 rfl ?_
  rw [show nI 240 * nI i + nI k = nI (240 * i + k) by rw [nI_mul8, nI_add]]
  refine x_iald dX12_madeProduct_11 rfl v130 rfl (by omega) (by decide) ?_
  rw [ht i k (by omega) (by omega), (T0_t ho hi hk).2.1]
  refine x_ireturn dX12_madeProduct_12 rfl rfl ?_
  exact K
theorem m_areAssoc (hd : 1 ≤ d) (ho : o < 8) (hC : Cs h) (ht : mTb h o) (hc : (h.1 110).2.2 35 = .int (nI c)) (c240 : c ≤ 240) (hs : ∀ j, j < c → iv h 132 j = nI (srt j) ∧ srt j < lnN o 1)
    (Kt : (∀ i, i < c → ∀ k, k < c → ∀ z, z < c → T0 o (T0 o (srt i) (srt k)) (srt z) = T0 o (srt i) (T0 o (srt k) (srt z))) → Q (some (.int (nI 1))) h)
    (Kf : ¬ (∀ i, i < c → ∀ k, k < c → ∀ z, z < c → T0 o (T0 o (srt i) (srt k)) (srt z) = T0 o (srt i) (T0 o (srt k) (srt z))) → Q (some (.int (nI 0))) h) : xCt G l mX12_areAssociative d [.ref 110] h 0 0 Q := by
  have n240 := ln_room o ho 1 (by decide)
  have r1 : zRoom 1 = 240 := rfl
  have v2 := hC.v (a := 132) rfl
  refine xCt_of (by decide) (Nat.le_of_ble_eq_true rfl) ?_
  refine x_iconst dX12_areAssociative_0 rfl iC_0 ?_
  refine x_istore_n (i := 1) dX12_areAssociative_1 rfl rfl (by decide) ?_
  have key := xloop (P := fun i => (∀ i2, i2 < i → ∀ k, k < c → ∀ z, z < c → T0 o (T0 o (srt i2) (srt k)) (srt z) = T0 o (srt i2) (T0 o (srt k) (srt z))) → xWP G l mX12_areAssociative d (zM G Q) 0 0 2 (xls [(0, .ref 110), (1, .int (nI i))]) [] h) c (by
    intro i hi ih hj
    refine x_iload_n (i := 1) dX12_areAssociative_2 rfl rfl rfl ?_
    refine x_aload_n (i := 0) dX12_areAssociative_3 rfl rfl rfl ?_
    refine x_getM (a := 110) dX12_areAssociative_4 rfl fX12_367 hC rfl hc ?_
    refine x_jc_ge (tgt := 111) dX12_areAssociative_7 rfl rfl (by omega) (by omega) (fun c7 => ?_) (fun c7 => ?_)
    · obtain rfl : i = c := by omega
      refine x_iconst dX12_areAssociative_111 rfl iC_1 ?_
      refine x_ireturn dX12_areAssociative_112 rfl rfl ?_
      exact Kt hj
    · have a := hs i c7
      refine x_iconst dX12_areAssociative_10 rfl iC_0 ?_
      refine x_istore_n (i := 2) dX12_areAssociative_11 rfl rfl (by decide) ?_
      have keyK := xloop (P := fun k => (∀ k2, k2 < k → ∀ z, z < c → T0 o (T0 o (srt i) (srt k2)) (srt z) = T0 o (srt i) (T0 o (srt k2) (srt z))) → xWP G l mX12_areAssociative d (zM G Q) 0 0 12 (xls [(0, .ref 110), (1, .int (nI i)), (2, .int (nI k))]) [] h) c (by
        intro k hk ihK hjK
        refine x_iload_n (i := 2) dX12_areAssociative_12 rfl rfl rfl ?_
        refine x_aload_n (i := 0) dX12_areAssociative_13 rfl rfl rfl ?_
        refine x_getM (a := 110) dX12_areAssociative_14 rfl fX12_367 hC rfl hc ?_
        refine x_jc_ge (tgt := 105) dX12_areAssociative_17 rfl rfl (by omega) (by omega) (fun c17 => ?_) (fun c17 => ?_)
        · obtain rfl : k = c := by omega
          refine x_iinc dX12_areAssociative_105 rfl rfl (inc1 _) ?_
          refine x_goto (tgt := 2) dX12_areAssociative_108 rfl ?_
          exact x_to (ih c7 (lt_s hj hjK)) ⟨rfl, rfl, trivial⟩
        · have b := hs k c17
          have t1 := (T0_t ho a.2 b.2).1
          refine x_aload_n (i := 0) dX12_areAssociative_20 rfl rfl rfl ?_
          refine x_aload_n (i := 0) dX12_areAssociative_21 rfl rfl rfl ?_
          refine x_getC dX12_areAssociative_22 rfl fX12_87 hC rfl F_110_34 ?_
          refine x_iload_n (i := 1) dX12_areAssociative_25 rfl rfl rfl ?_
          refine x_iald dX12_areAssociative_26 rfl v2 rfl (by omega) (by decide) ?_
          rw [a.1]
          refine x_aload_n (i := 0) dX12_areAssociative_27 rfl rfl rfl ?_
          refine x_getC dX12_areAssociative_28 rfl fX12_87 hC rfl F_110_34 ?_
          refine x_iload_n (i := 2) dX12_areAssociative_31 rfl rfl rfl ?_
          refine x_iald dX12_areAssociative_32 rfl v2 rfl (by omega) (by decide) ?_
          rw [b.1]
          refine x_callV0 (ci := 12) (b := 110) (As := [_, _]) (d2 := d - 1) dX12_areAssociative_33 rfl kX12_375 okX12_madeProduct (hC.o rfl) (fun q hq => by cases hq; rfl) (by omega) rfl rfl (Nat.le_of_ble_eq_true rfl) (m_madeP ho hC ht a.2 b.2 ?_)
          refine x_istore_n (i := 3) dX12_areAssociative_36 rfl rfl (by decide) ?_
          refine x_iconst dX12_areAssociative_37 rfl iC_0 ?_
          refine x_istore dX12_areAssociative_38 rfl (by decide) ?_
          have keyZ := xloop (P := fun z => (∀ z2, z2 < z → T0 o (T0 o (srt i) (srt k)) (srt z2) = T0 o (srt i) (T0 o (srt k) (srt z2))) → xWP G l mX12_areAssociative d (zM G Q) 0 0 40 (xls [(0, .ref 110), (1, .int (nI i)), (2, .int (nI k)), (3, .int (nI (T0 o (srt i) (srt k)))), (4, .int (nI z))]) [] h) c (by
            intro z hz ihZ hjZ
            refine x_iload dX12_areAssociative_40 rfl rfl ?_
            refine x_aload_n (i := 0) dX12_areAssociative_42 rfl rfl rfl ?_
            refine x_getM (a := 110) dX12_areAssociative_43 rfl fX12_367 hC rfl hc ?_
            refine x_jc_ge (tgt := 99) dX12_areAssociative_46 rfl rfl (by omega) (by omega) (fun c46 => ?_) (fun c46 => ?_)
            · obtain rfl : z = c := by omega
              refine x_iinc dX12_areAssociative_99 rfl rfl (inc1 _) ?_
              refine x_goto (tgt := 12) dX12_areAssociative_102 rfl ?_
              exact x_to (ihK c17 (lt_s hjK hjZ)) ⟨rfl, rfl, rfl, trivial⟩
            · have e := hs z c46
              have t2 := (T0_t ho b.2 e.2).1
              have t3 := (T0_t ho t1 e.2).1
              have t4 := (T0_t ho a.2 t2).1
              refine x_aload_n (i := 0) dX12_areAssociative_49 rfl rfl rfl ?_
              refine x_iload_n (i := 3) dX12_areAssociative_50 rfl rfl rfl ?_
              refine x_aload_n (i := 0) dX12_areAssociative_51 rfl rfl rfl ?_
              refine x_getC dX12_areAssociative_52 rfl fX12_87 hC rfl F_110_34 ?_
              refine x_iload dX12_areAssociative_55 rfl rfl ?_
              refine x_iald dX12_areAssociative_57 rfl v2 rfl (by omega) (by decide) ?_
              rw [e.1]
              refine x_callV0 (ci := 12) (b := 110) (As := [_, _]) (d2 := d - 1) dX12_areAssociative_58 rfl kX12_375 okX12_madeProduct (hC.o rfl) (fun q hq => by cases hq; rfl) (by omega) rfl rfl (Nat.le_of_ble_eq_true rfl) (m_madeP ho hC ht t1 e.2 ?_)
              refine x_aload_n (i := 0) dX12_areAssociative_61 rfl rfl rfl ?_
              refine x_aload_n (i := 0) dX12_areAssociative_62 rfl rfl rfl ?_
              refine x_getC dX12_areAssociative_63 rfl fX12_87 hC rfl F_110_34 ?_
              refine x_iload_n (i := 1) dX12_areAssociative_66 rfl rfl rfl ?_
              refine x_iald dX12_areAssociative_67 rfl v2 rfl (by omega) (by decide) ?_
              rw [a.1]
              refine x_aload_n (i := 0) dX12_areAssociative_68 rfl rfl rfl ?_
              refine x_aload_n (i := 0) dX12_areAssociative_69 rfl rfl rfl ?_
              refine x_getC dX12_areAssociative_70 rfl fX12_87 hC rfl F_110_34 ?_
              refine x_iload_n (i := 2) dX12_areAssociative_73 rfl rfl rfl ?_
              refine x_iald dX12_areAssociative_74 rfl v2 rfl (by omega) (by decide) ?_
              rw [b.1]
              refine x_aload_n (i := 0) dX12_areAssociative_75 rfl rfl rfl ?_
              refine x_getC dX12_areAssociative_76 rfl fX12_87 hC rfl F_110_34 ?_
              refine x_iload dX12_areAssociative_79 rfl rfl ?_
              refine x_iald dX12_areAssociative_81 rfl v2 rfl (by omega) (by decide) ?_
              rw [e.1]
              refine x_callV0 (ci := 12) (b := 110) (As := [_, _]) (d2 := d - 1) dX12_areAssociative_82 rfl kX12_375 okX12_madeProduct (hC.o rfl) (fun q hq => by cases hq; rfl) (by omega) rfl rfl (Nat.le_of_ble_eq_true rfl) (m_madeP ho hC ht b.2 e.2 ?_)
              refine x_callV0 (ci := 12) (b := 110) (As := [_, _]) (d2 := d - 1) dX12_areAssociative_85 rfl kX12_375 okX12_madeProduct (hC.o rfl) (fun q hq => by cases hq; rfl) (by omega) rfl rfl (Nat.le_of_ble_eq_true rfl) (m_madeP ho hC ht a.2 t2 ?_)
              refine x_jc_eq (tgt := 93) dX12_areAssociative_88 rfl rfl (by omega) (by omega) (fun c88 => ?_) (fun c88 => ?_)
              · refine x_iinc dX12_areAssociative_93 rfl rfl (inc1 _) ?_
                refine x_goto (tgt := 40) dX12_areAssociative_96 rfl ?_
                exact x_to (ihZ c46 (lt_s hjZ c88)) ⟨rfl, rfl, rfl, rfl, rfl, trivial⟩
              · refine x_iconst dX12_areAssociative_91 rfl iC_0 ?_
                refine x_ireturn dX12_areAssociative_92 rfl rfl ?_
                exact Kf (fun q => c88 (q i c7 k c17 z c46))) 0 (Nat.zero_le _) (fun j hj => absurd hj (Nat.not_lt_zero j))
          exact x_to keyZ ⟨rfl, rfl, rfl, rfl, rfl, trivial⟩) 0 (Nat.zero_le _) (fun j hj => absurd hj (Nat.not_lt_zero j))
      exact x_to keyK ⟨rfl, rfl, rfl, trivial⟩) 0 (Nat.zero_le _) (fun j hj => absurd hj (Nat.not_lt_zero j))
  exact x_to key ⟨rfl, rfl, trivial⟩
theorem m_center (hd : 1 ≤ d) (ho : o < 8) (hC : Cs h) (ht : mTb h o) (hc : (h.1 110).2.2 35 = .int (nI c)) (c240 : c ≤ 240) (hs : ∀ j, j < c → iv h 132 j = nI (srt j) ∧ srt j < lnN o 1)
    (K : Q (some (.int (nI (cN (fun i => ∀ j, j < c → T0 o (srt i) (srt j) = T0 o (srt j) (srt i)) c)))) h) : xCt G l mX12_center d [.ref 110] h 0 0 Q := by
  have n240 := ln_room o ho 1 (by decide)
  have r1 : zRoom 1 = 240 := rfl
  have v2 := hC.v (a := 132) rfl
  obtain ⟨p, hp⟩ : ∃ p : Nat → Prop, p = fun i => ∀ j, j < c → T0 o (srt i) (srt j) = T0 o (srt j) (srt i) := ⟨_, rfl⟩
  rw [← hp] at K
  refine xCt_of (by decide) (Nat.le_of_ble_eq_true rfl) ?_
  refine x_iconst dX12_center_0 rfl iC_0 ?_
  refine x_istore_n (i := 1) dX12_center_1 rfl rfl (by decide) ?_
  refine x_iconst dX12_center_2 rfl iC_0 ?_
  refine x_istore_n (i := 2) dX12_center_3 rfl rfl (by decide) ?_
  have key := xloop (P := fun i => xWP G l mX12_center d (zM G Q) 0 0 4 (xls [(0, .ref 110), (1, .int (nI (cN p i))), (2, .int (nI i))]) [] h) c (by
    intro i hi ih
    refine x_iload_n (i := 2) dX12_center_4 rfl rfl rfl ?_
    refine x_aload_n (i := 0) dX12_center_5 rfl rfl rfl ?_
    refine x_getM (a := 110) dX12_center_6 rfl fX12_367 hC rfl hc ?_
    refine x_jc_ge (tgt := 92) dX12_center_9 rfl rfl (by omega) (by omega) (fun c9 => ?_) (fun c9 => ?_)
    · obtain rfl : i = c := by omega
      refine x_iload_n (i := 1) dX12_center_92 rfl rfl rfl ?_
      refine x_ireturn dX12_center_93 rfl rfl ?_
      exact K
    · have a := hs i c9
      have yes : p i → xWP G l mX12_center d (zM G Q) 0 0 79 (xls [(0, .ref 110), (1, .int (nI (cN p i))), (2, .int (nI i)), (3, .int (nI 1))]) [] h := by
        intro pi
        refine x_iload_n (i := 3) dX12_center_79 rfl rfl rfl ?_
        refine x_if_eq_f (tgt := 86) dX12_center_80 rfl rfl nb1 ?_
        refine x_iinc dX12_center_83 rfl rfl (inc1 _) ?_
        refine x_iinc dX12_center_86 rfl rfl (inc1 _) ?_
        refine x_goto (tgt := 4) dX12_center_89 rfl ?_
        exact x_to (ih c9) ⟨rfl, by rw [cN_t (n := i) pi]; rfl, rfl, trivial⟩
      have no : ¬ p i → xWP G l mX12_center d (zM G Q) 0 0 79 (xls [(0, .ref 110), (1, .int (nI (cN p i))), (2, .int (nI i)), (3, .int (nI 0))]) [] h := by
        intro pi
        refine x_iload_n (i := 3) dX12_center_79 rfl rfl rfl ?_
        refine x_if_eq_t (tgt := 86) dX12_center_80 rfl nI_0 ?_
        refine x_iinc dX12_center_86 rfl rfl (inc1 _) ?_
        refine x_goto (tgt := 4) dX12_center_89 rfl ?_
        exact x_to (ih c9) ⟨rfl, by rw [cN_f (n := i) pi]; rfl, rfl, trivial⟩
      refine x_iconst dX12_center_12 rfl iC_1 ?_
      refine x_istore_n (i := 3) dX12_center_13 rfl rfl (by decide) ?_
      refine x_iconst dX12_center_14 rfl iC_0 ?_
      refine x_istore dX12_center_15 rfl (by decide) ?_
      have keyK := xloop (P := fun k => (∀ j, j < k → T0 o (srt i) (srt j) = T0 o (srt j) (srt i)) → xWP G l mX12_center d (zM G Q) 0 0 17 (xls [(0, .ref 110), (1, .int (nI (cN p i))), (2, .int (nI i)), (3, .int (nI 1)), (4, .int (nI k))]) [] h) c (by
        intro k hk ihK hj
        refine x_iload dX12_center_17 rfl rfl ?_
        refine x_aload_n (i := 0) dX12_center_19 rfl rfl rfl ?_
        refine x_getM (a := 110) dX12_center_20 rfl fX12_367 hC rfl hc ?_
        refine x_jc_ge (tgt := 79) dX12_center_23 rfl rfl (by omega) (by omega) (fun c23 => ?_) (fun c23 => ?_)
        · obtain rfl : k = c := by omega
          exact x_to (yes (by rw [hp]; exact hj)) ⟨rfl, rfl, rfl, rfl, trivial⟩
        · have b := hs k c23
          have t1 := (T0_t ho a.2 b.2).1
          have t2 := (T0_t ho b.2 a.2).1
          refine x_iload_n (i := 3) dX12_center_26 rfl rfl rfl ?_
          refine x_if_eq_f (tgt := 79) dX12_center_27 rfl rfl nb1 ?_
          refine x_aload_n (i := 0) dX12_center_30 rfl rfl rfl ?_
          refine x_aload_n (i := 0) dX12_center_31 rfl rfl rfl ?_
          refine x_getC dX12_center_32 rfl fX12_87 hC rfl F_110_34 ?_
          refine x_iload_n (i := 2) dX12_center_35 rfl rfl rfl ?_
          refine x_iald dX12_center_36 rfl v2 rfl (by omega) (by decide) ?_
          rw [a.1]
          refine x_aload_n (i := 0) dX12_center_37 rfl rfl rfl ?_
          refine x_getC dX12_center_38 rfl fX12_87 hC rfl F_110_34 ?_
          refine x_iload dX12_center_41 rfl rfl ?_
          refine x_iald dX12_center_43 rfl v2 rfl (by omega) (by decide) ?_
          rw [b.1]
          refine x_callV0 (ci := 12) (b := 110) (As := [_, _]) (d2 := d - 1) dX12_center_44 rfl kX12_375 okX12_madeProduct (hC.o rfl) (fun q hq => by cases hq; rfl) (by omega) rfl rfl (Nat.le_of_ble_eq_true rfl) (m_madeP ho hC ht a.2 b.2 ?_)
          refine x_aload_n (i := 0) dX12_center_47 rfl rfl rfl ?_
          refine x_aload_n (i := 0) dX12_center_48 rfl rfl rfl ?_
          refine x_getC dX12_center_49 rfl fX12_87 hC rfl F_110_34 ?_
          refine x_iload dX12_center_52 rfl rfl ?_
          refine x_iald dX12_center_54 rfl v2 rfl (by omega) (by decide) ?_
          rw [b.1]
          refine x_aload_n (i := 0) dX12_center_55 rfl rfl rfl ?_
          refine x_getC dX12_center_56 rfl fX12_87 hC rfl F_110_34 ?_
          refine x_iload_n (i := 2) dX12_center_59 rfl rfl rfl ?_
          refine x_iald dX12_center_60 rfl v2 rfl (by omega) (by decide) ?_
          rw [a.1]
          refine x_callV0 (ci := 12) (b := 110) (As := [_, _]) (d2 := d - 1) dX12_center_61 rfl kX12_375 okX12_madeProduct (hC.o rfl) (fun q hq => by cases hq; rfl) (by omega) rfl rfl (Nat.le_of_ble_eq_true rfl) (m_madeP ho hC ht b.2 a.2 ?_)
          refine x_jc_ne (tgt := 71) dX12_center_64 rfl rfl (by omega) (by omega) (fun c64 => ?_) (fun c64 => ?_)
          · have pn : ¬ p i := fun q => c64 (by rw [hp] at q; exact q k c23)
            refine x_iconst dX12_center_71 rfl iC_0 ?_
            refine x_istore_n (i := 3) dX12_center_72 rfl rfl (by decide) ?_
            refine x_iinc dX12_center_73 rfl rfl (inc1 _) ?_
            refine x_goto (tgt := 17) dX12_center_76 rfl ?_
            refine x_iload dX12_center_17 rfl rfl ?_
            refine x_aload_n (i := 0) dX12_center_19 rfl rfl rfl ?_
            refine x_getM (a := 110) dX12_center_20 rfl fX12_367 hC rfl hc ?_
            refine x_jc_ge (tgt := 79) dX12_center_23 rfl rfl (by omega) (by omega) (fun c23 => ?_) (fun c23 => ?_)
            · exact x_to (no pn) ⟨rfl, rfl, rfl, rfl, trivial⟩
            · refine x_iload_n (i := 3) dX12_center_26 rfl rfl rfl ?_
              refine x_if_eq_t (tgt := 79) dX12_center_27 rfl nI_0 ?_
              exact x_to (no pn) ⟨rfl, rfl, rfl, rfl, trivial⟩
          · refine x_iconst dX12_center_67 rfl iC_1 ?_
            refine x_goto (tgt := 72) dX12_center_68 rfl ?_
            refine x_istore_n (i := 3) dX12_center_72 rfl rfl (by decide) ?_
            refine x_iinc dX12_center_73 rfl rfl (inc1 _) ?_
            refine x_goto (tgt := 17) dX12_center_76 rfl ?_
            exact x_to (ihK c23 (lt_s hj c64)) ⟨rfl, rfl, rfl, rfl, rfl, trivial⟩) 0 (Nat.zero_le _) (fun j hj => absurd hj (Nat.not_lt_zero j))
      exact x_to keyK ⟨rfl, rfl, rfl, rfl, rfl, trivial⟩) 0 (Nat.zero_le _)
  exact x_to key ⟨rfl, rfl, rfl, trivial⟩
theorem pl_one9 {h1 : xH} (e1 : pl h1 9 = c8 (fun _ => nI 0)) : upd (iv h1 112) 72 (nI 2) = mrow (iv h1 112) 9 (zOne 0) 8 := by
  funext j
  unfold upd mrow zOne
  by_cases e : j = 72
  · rw [if_pos e, if_pos (by omega)]
    show nI 2 = if j - 8 * 9 = 0 then nI 2 else nI 0
    rw [if_pos (by omega)]
  · rw [if_neg e]
    by_cases q : 8 * 9 ≤ j ∧ j < 8 * 9 + 8
    · rw [if_pos q]
      show iv h1 112 j = if j - 8 * 9 = 0 then nI 2 else nI 0
      rw [if_neg (by omega)]
      have := congrFun e1 (j - 8 * 9)
      rw [pl_lt (by omega), c8_lt (by omega)] at this
      rw [← this]
      congr 1
      omega
    · rw [if_neg q]
theorem pl_1 {o : Nat} (ho : o < 8) : plN o (zOne 0) = nI (lnN o 1 - 1) := by
  have n16 := ln_16 o ho
  have hz : ofO o (oddN (zOne 0)) = true := by rw [show oddN (zOne 0) = 0 by decide +kernel]; exact of_0 o ho
  obtain ⟨t, t1, t2, t3⟩ := un_ix ho hz (by decide +kernel)
  have e : t = lnN o 1 - 1 := el_in ho t1 (by omega) (fun p hp => by rw [t3 p hp, el_1 ho p hp])
  unfold plN
  rw [show nrmN (zOne 0) 8 = 4 by decide +kernel, if_pos ⟨by decide, by decide⟩, ← e]
  exact t2
theorem m_squares {h0 : xH} (hd : 7 ≤ d) (hk : mK h0 h S) (hc : (h.1 110).2.2 35 = .int (nI c)) (c240 : c ≤ 240) (hsr : ∀ j, j < c → iv h 132 j = nI (srt j) ∧ srt j < lnN S.2.1 1)
    (K : ∀ h2, RM h2 S → cF h0 h2 → Q (some (.int (nI (cN (fun i => T0 S.2.1 (srt i) (srt i) = lnN S.2.1 1 - 1) c)))) h2) : xCt G l mX12_squares d [.ref 110] h 0 0 Q := by
  have hC := hk.1.1
  have ho := hk.1.2.1.1
  have n240 := ln_room S.2.1 ho 1 (by decide)
  have n16 := ln_16 S.2.1 ho
  have r1 : zRoom 1 = 240 := rfl
  obtain ⟨p, hp⟩ : ∃ p : Nat → Prop, p = fun i => T0 S.2.1 (srt i) (srt i) = lnN S.2.1 1 - 1 := ⟨_, rfl⟩
  rw [← hp] at K
  refine xCt_of (by decide) (Nat.le_of_ble_eq_true rfl) ?_
  refine x_aload_n (i := 0) dX12_squares_0 rfl rfl rfl ?_
  refine x_bipush dX12_squares_1 rfl bC_9 ?_
  refine x_callV0 (ci := 12) (b := 110) (As := [_]) (d2 := d - 1) dX12_squares_3 rfl kX12_171 okX12_nought (hC.o rfl) (fun q hq => by cases hq; rfl) (by omega) rfl rfl (Nat.le_of_ble_eq_true rfl) (m_nought (t := 9) hC (by decide) (fun h1 hv1 e1 => ?_))
  have hC := hv1.1
  have row := hC.v (a := 112) rfl
  refine x_aload_n (i := 0) dX12_squares_6 rfl rfl rfl ?_
  refine x_getC dX12_squares_7 rfl fX12_17 hC rfl F_110_2 ?_
  refine x_bipush dX12_squares_10 rfl bC_72 ?_
  refine x_iconst dX12_squares_12 rfl iC_2 ?_
  refine x_iast dX12_squares_13 rfl row rfl (by omega) (by decide) ?_
  rw [pl_one9 e1]
  obtain ⟨k1, k2⟩ := mV_row (x := 9) (f := zOne 0) hC (by decide) (fun _ => zBd_one 0)
  generalize hs h1 112 (0, 1240, xI (mrow (iv h1 112) 9 (zOne 0) 8)) = h2 at k1 k2 ⊢
  have kk := (hv1.tr k1).sub (P2 := [9]) (C2 := []) (by simp) (by simp)
  have R2 := hk.1.sc kk (by simp) (by simp)
  have c2 := hk.2.1.tr (kk.c (by simp))
  have hC := R2.1
  refine x_aload_n (i := 0) dX12_squares_14 rfl rfl rfl ?_
  refine x_bipush dX12_squares_15 rfl bC_9 ?_
  refine x_callV0 (ci := 12) (b := 110) (As := [_]) (d2 := d - 1) dX12_squares_17 rfl kX12_337 okX12_numberOf (hC.o rfl) (fun q hq => by cases hq; rfl) (by omega) rfl rfl (Nat.le_of_ble_eq_true rfl) (m_numberOf (x := 9) (by omega) R2 (by decide) (fun h3 r3 c3 s3 => ?_))
  rw [k2, plN_e (c8_c8 _), pl_1 ho]
  have hC := r3.1
  have hc3 : (h3.1 110).2.2 35 = .int (nI c) := by rw [s3.2 110 (by decide), kk.2.1.2 110 (by decide)]; exact hc
  have i3 : iv h3 132 = iv h 132 := by rw [s3.iv (by decide), kk.2.1.iv (by decide)]
  have t3 : mTb h3 S.2.1 := by unfold mTb; rw [s3.iv (by decide), kk.2.1.iv (by decide)]; exact hk.2.2
  have v2 := hC.v (a := 132) rfl
  refine x_istore_n (i := 1) dX12_squares_20 rfl rfl (by decide) ?_
  refine x_iconst dX12_squares_21 rfl iC_0 ?_
  refine x_istore_n (i := 2) dX12_squares_22 rfl rfl (by decide) ?_
  refine x_iconst dX12_squares_23 rfl iC_0 ?_
  refine x_istore_n (i := 3) dX12_squares_24 rfl rfl (by decide) ?_
  have key := xloop (P := fun i => xWP G l mX12_squares d (zM G Q) 0 0 25 (xls [(0, .ref 110), (1, .int (nI (lnN S.2.1 1 - 1))), (2, .int (nI (cN p i))), (3, .int (nI i))]) [] h3) c (by
    intro i hi ih
    refine x_iload_n (i := 3) dX12_squares_25 rfl rfl rfl ?_
    refine x_aload_n (i := 0) dX12_squares_26 rfl rfl rfl ?_
    refine x_getM (a := 110) dX12_squares_27 rfl fX12_367 hC rfl hc3 ?_
    refine x_jc_ge (tgt := 62) dX12_squares_30 rfl rfl (by omega) (by omega) (fun c30 => ?_) (fun c30 => ?_)
    · obtain rfl : i = c := by omega
      refine x_iload_n (i := 2) dX12_squares_62 rfl rfl rfl ?_
      refine x_ireturn dX12_squares_63 rfl rfl ?_
      exact K h3 r3 (c2.tr c3)
    · have a := hsr i c30
      rw [← i3] at a
      have t1 := (T0_t ho a.2 a.2).1
      refine x_aload_n (i := 0) dX12_squares_33 rfl rfl rfl ?_
      refine x_aload_n (i := 0) dX12_squares_34 rfl rfl rfl ?_
      refine x_getC dX12_squares_35 rfl fX12_87 hC rfl F_110_34 ?_
      refine x_iload_n (i := 3) dX12_squares_38 rfl rfl rfl ?_
      refine x_iald dX12_squares_39 rfl v2 rfl (by omega) (by decide) ?_
      rw [a.1]
      refine x_aload_n (i := 0) dX12_squares_40 rfl rfl rfl ?_
      refine x_getC dX12_squares_41 rfl fX12_87 hC rfl F_110_34 ?_
      refine x_iload_n (i := 3) dX12_squares_44 rfl rfl rfl ?_
      refine x_iald dX12_squares_45 rfl v2 rfl (by omega) (by decide) ?_
      rw [a.1]
      refine x_callV0 (ci := 12) (b := 110) (As := [_, _]) (d2 := d - 1) dX12_squares_46 rfl kX12_375 okX12_madeProduct (hC.o rfl) (fun q hq => by cases hq; rfl) (by omega) rfl rfl (Nat.le_of_ble_eq_true rfl) (m_madeP ho hC t3 a.2 a.2 ?_)
      refine x_iload_n (i := 1) dX12_squares_49 rfl rfl rfl ?_
      refine x_jc_ne (tgt := 56) dX12_squares_50 rfl rfl (by omega) (by omega) (fun c50 => ?_) (fun c50 => ?_)
      · have pi : ¬ p i := by rw [hp]; exact c50
        refine x_iinc dX12_squares_56 rfl rfl (inc1 _) ?_
        refine x_goto (tgt := 25) dX12_squares_59 rfl ?_
        exact x_to (ih c30) ⟨rfl, rfl, by rw [cN_f (n := i) pi]; rfl, rfl, trivial⟩
      · have pi : p i := by rw [hp]; exact c50
        refine x_iinc dX12_squares_53 rfl rfl (inc1 _) ?_
        refine x_iinc dX12_squares_56 rfl rfl (inc1 _) ?_
        refine x_goto (tgt := 25) dX12_squares_59 rfl ?_
        exact x_to (ih c30) ⟨rfl, rfl, by rw [cN_t (n := i) pi]; rfl, rfl, trivial⟩) 0 (Nat.zero_le _)
  exact x_to key ⟨rfl, rfl, rfl, rfl, trivial⟩
end MOD

