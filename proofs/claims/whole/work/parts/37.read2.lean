/-! EightParts$Reader: numbers -/
theorem csF_sum : ∀ {j : Nat}, j < 13 → ((59, j, .ref (60 + j)) : Nat × Nat × Value) ∈ csF
  | 0, _ => F_59_0
  | 1, _ => F_59_1
  | 2, _ => F_59_2
  | 3, _ => F_59_3
  | 4, _ => F_59_4
  | 5, _ => F_59_5
  | 6, _ => F_59_6
  | 7, _ => F_59_7
  | 8, _ => F_59_8
  | 9, _ => F_59_9
  | 10, _ => F_59_10
  | 11, _ => F_59_11
  | 12, _ => F_59_12
  | n + 13, h => absurd h (by omega)
theorem csF_ter : ∀ {j : Nat}, j < 13 → ((73, j, .ref (74 + j)) : Nat × Nat × Value) ∈ csF
  | 0, _ => F_73_0
  | 1, _ => F_73_1
  | 2, _ => F_73_2
  | 3, _ => F_73_3
  | 4, _ => F_73_4
  | 5, _ => F_73_5
  | 6, _ => F_73_6
  | 7, _ => F_73_7
  | 8, _ => F_73_8
  | 9, _ => F_73_9
  | 10, _ => F_73_10
  | 11, _ => F_73_11
  | 12, _ => F_73_12
  | n + 13, h => absurd h (by omega)
theorem csF_fac : ∀ {j : Nat}, j < 13 → ((87, j, .ref (88 + j)) : Nat × Nat × Value) ∈ csF
  | 0, _ => F_87_0
  | 1, _ => F_87_1
  | 2, _ => F_87_2
  | 3, _ => F_87_3
  | 4, _ => F_87_4
  | 5, _ => F_87_5
  | 6, _ => F_87_6
  | 7, _ => F_87_7
  | 8, _ => F_87_8
  | 9, _ => F_87_9
  | 10, _ => F_87_10
  | 11, _ => F_87_11
  | 12, _ => F_87_12
  | n + 13, h => absurd h (by omega)
theorem csV_rd0 : ∀ a, a < 101 → ((60 ≤ a ∧ a ≠ 73 ∧ a ≠ 87) → csT.getD a (1, 1) = (0, 8)) := by decide +kernel
theorem csT_len : csT.length = 134 := by decide +kernel
theorem csV_rd (a : Nat) (h1 : a ≤ 100) (h2 : 60 ≤ a) (h3 : a ≠ 73) (h4 : a ≠ 87) : csV a := by
  have e := csV_rd0 a (by omega) ⟨h2, h3, h4⟩
  unfold csV
  have ql : a < csT.length := by rw [csT_len]; omega
  have q : csT[a]? = some csT[a] := List.getElem?_eq_getElem ql
  rw [List.getD_eq_getElem?_getD, q] at e
  rw [q]
  exact congrArg some e
def dgN (c : Int32) : Nat := (c - nI 48).toInt.toNat
theorem dg_eq {c : Int32} (hc : zDig c) : dgN c ≤ 9 ∧ c = nI (48 + dgN c) := by
  obtain ⟨h1, h2⟩ := hc
  have q1 := Int32.le_iff_toInt_le.mp h1
  have q2 := Int32.le_iff_toInt_le.mp h2
  rw [nI_toInt (by decide)] at q1 q2
  obtain ⟨k, hk⟩ : ∃ k : Nat, c.toInt = k := ⟨c.toInt.toNat, by omega⟩
  have en : c = nI k := by
    apply Int32.toInt_inj.mp
    rw [hk, nI_toInt (by omega)]
  subst en
  have e : dgN (nI k) = k - 48 := by
    unfold dgN
    rw [pk_sub (by omega), nI_toInt (by omega)]
    omega
  rw [e]
  refine ⟨by omega, ?_⟩
  congr 1
  omega
def zNum (n : Nat) (tb : Nat → Int32) : Nat → Nat → Nat → Nat × Nat
  | 0, a, v => (a, v)
  | f + 1, a, v => if a < n ∧ zDig (tb a) then zNum n tb f (a + 1) (min 1000 (v * 10 + dgN (tb a))) else (a, v)
theorem zNum_le (n : Nat) (tb : Nat → Int32) : ∀ f a v, a ≤ n → v ≤ 1000 → a ≤ (zNum n tb f a v).1 ∧ (zNum n tb f a v).1 ≤ n ∧ (zNum n tb f a v).2 ≤ 1000 := by
  intro f
  induction f with
  | zero => exact fun a v ha hv => ⟨Nat.le_refl _, ha, hv⟩
  | succ f ih =>
    intro a v ha hv
    rw [zNum]
    split
    · next q =>
      have := ih (a + 1) (min 1000 (v * 10 + dgN (tb a))) (by omega) (by omega)
      omega
    · exact ⟨Nat.le_refl _, ha, hv⟩
def zReal (v : Nat) : Nat → Int32 := upd (fun _ => nI 0) 0 (nI (2 * v))
def zInt (n : Nat) (tb : Nat → Int32) (dp : Nat) (s : zRd) : zRd := if 999 < (zNum n tb (n - s.1) s.1 0).2 then ((zNum n tb (n - s.1) s.1 0).1, nI s.1, s.2.2) else ((zNum n tb (n - s.1) s.1 0).1, s.2.1, s.2.2.1, rUpd s.2.2.2 (88 + dp) (zReal (zNum n tb (n - s.1) s.1 0).2))
section READ
variable {G : xG} {l : Launch} {d : Nat} {h : xH} {Q : Option Value → xH → Prop}
theorem c_minI {a b : Nat} (ha : a < 2147483648) (hb : b < 2147483648) (K : Q (some (.int (nI (min a b)))) h) : xCt G l mJ9_min_7cf53 d [.int (nI a), .int (nI b)] h 0 0 Q := by
  refine xCt_ofF pf_minI (Nat.le_of_ble_eq_true rfl) ?_
  refine x_iload_n (i := 0) dJ9_min_7cf53_0 rfl rfl rfl ?_
  refine x_iload_n (i := 1) dJ9_min_7cf53_1 rfl rfl rfl ?_
  refine x_jc_gt (tgt := 9) dJ9_min_7cf53_2 rfl rfl (by omega) (by omega) (fun c2 => ?_) (fun c2 => ?_)
  · refine x_iload_n (i := 1) dJ9_min_7cf53_9 rfl rfl rfl ?_
    refine x_ireturn dJ9_min_7cf53_10 rfl rfl ?_
    rw [Nat.min_eq_right (by omega)] at K
    exact K
  · refine x_iload_n (i := 0) dJ9_min_7cf53_5 rfl rfl rfl ?_
    refine x_goto (tgt := 10) dJ9_min_7cf53_6 rfl ?_
    refine x_ireturn dJ9_min_7cf53_10 rfl rfl ?_
    rw [Nat.min_eq_left (by omega)] at K
    exact K
theorem c_readInt {h0 : xH} {s : zRd} {n dp : Nat} (hd : 2 ≤ d) (hr : rdH h0 h s) (hn : hTl h0 n) (hn2 : n ≤ 200) (ha : s.1 ≤ n) (hdp : dp < 13)
    (K : ∀ h2, rdH h0 h2 (zInt n (tpB h0) dp s) → Q none h2) : xCt G l mX6_readInt d [.ref 58, .int (nI dp)] h 0 0 Q := by
  refine xCt_of (by decide) (Nat.le_of_ble_eq_true rfl) ?_
  have hat0 := hr.2.2.1
  have hC := hr.1
  have fin : ∀ a v h1, rdH h0 h1 (a, s.2) → v ≤ 1000 → zNum n (tpB h0) (n - s.1) s.1 0 = (a, v) → xWP G l mX6_readInt d (zM G Q) 0 0 77 (xls [(0, .ref 58), (1, .int (nI dp)), (2, .int (nI s.1)), (3, .int (nI v))]) [] h1 := by
    intro a v h1 hr1 hv e
    have hC := hr1.1
    have vf := hC.v (csV_rd (88 + dp) (by omega) (by omega) (by omega) (by omega))
    refine x_iload_n (i := 3) dX6_readInt_77 rfl rfl rfl ?_
    refine x_sipush dX6_readInt_78 rfl sC_999 ?_
    refine x_jc_le (tgt := 90) dX6_readInt_81 rfl rfl (by omega) (by omega) (fun c81 => ?_) (fun c81 => ?_)
    · refine x_aload_n (i := 0) dX6_readInt_90 rfl rfl rfl ?_
      refine x_getC dX6_readInt_91 rfl fX6_19 hC rfl F_58_5 ?_
      refine x_iload_n (i := 1) dX6_readInt_94 rfl rfl rfl ?_
      refine x_aaldC (t := 0) dX6_readInt_95 rfl hC rfl (by decide) rfl (by omega) (by decide) (csF_fac hdp) ?_
      refine x_iconst dX6_readInt_96 rfl iC_0 ?_
      refine x_callS0 (As := [_, _]) (d2 := d - 1) dX6_readInt_97 rfl kX6_107 okJ7_fill_53178 (by omega) rfl rfl (Nat.le_of_ble_eq_true rfl) (c_fill vf (by decide) ?_)
      have hC1 := hC.setI (f := fun _ => nI 0) vf (Or.inl rfl) (by omega)
      refine x_aload_n (i := 0) dX6_readInt_100 rfl rfl rfl ?_
      refine x_getC dX6_readInt_101 rfl fX6_19 hC1 rfl F_58_5 ?_
      refine x_iload_n (i := 1) dX6_readInt_104 rfl rfl rfl ?_
      refine x_aaldC (t := 0) dX6_readInt_105 rfl hC1 rfl (by decide) rfl (by omega) (by decide) (csF_fac hdp) ?_
      refine x_iconst dX6_readInt_106 rfl iC_0 ?_
      refine x_iconst dX6_readInt_107 rfl iC_2 ?_
      refine x_iload_n (i := 3) dX6_readInt_108 rfl rfl rfl ?_
      refine x_imul dX6_readInt_109 rfl ?_
      rw [show nI 2 * nI v = nI (2 * v) from nI_mul8 2 v]
      refine x_iastT dX6_readInt_110 rfl rfl (by omega) (by decide) ?_
      refine x_return dX6_readInt_111 rfl ?_
      refine K _ ?_
      unfold zInt
      rw [e, if_neg (by show ¬ 999 < v; omega)]
      refine hr1.row (hC.setI vf (Or.inl rfl) (by omega)) (xSm.hs1.sub (by simp)) iv_hs (by omega) (by omega) (by omega) (by omega)
    · refine x_aload_n (i := 0) dX6_readInt_84 rfl rfl rfl ?_
      refine x_iload_n (i := 2) dX6_readInt_85 rfl rfl rfl ?_
      refine x_putC (a := 58) dX6_readInt_86 rfl fX6_26 (fun q hq => by cases hq; rfl) hC rfl ⟨rfl, rfl⟩ ?_
      refine x_return dX6_readInt_89 rfl ?_
      refine K _ ?_
      unfold zInt
      rw [e, if_pos (by show 999 < v; omega)]
      exact hr1.fault _
  have key := xloop (P := fun i => ∀ v h1, rdH h0 h1 (s.1 + i, s.2) → v ≤ 1000 → zNum n (tpB h0) (n - s.1) s.1 0 = zNum n (tpB h0) (n - (s.1 + i)) (s.1 + i) v → xWP G l mX6_readInt d (zM G Q) 0 0 7 (xls [(0, .ref 58), (1, .int (nI dp)), (2, .int (nI s.1)), (3, .int (nI v))]) [] h1) (n - s.1) (by
    intro i hi ih v h1 hr1 hv e
    have hC := hr1.1
    have hat : (h1.1 58).2.2 6 = .int (nI (s.1 + i)) := hr1.2.2.1
    have e56 : h1.1 56 = h0.1 56 := hr1.2.1.2 56 (by unfold rdP; omega)
    have e57 : iv h1 57 = iv h0 57 := hr1.2.1.iv (by unfold rdP; omega)
    have et : ∀ j, iv h1 57 j &&& nI 255 = tpB h0 j := fun j => by unfold tpB; rw [e57]
    have hn1 : hTl h1 n := by unfold hTl; rw [e56]; exact hn
    refine x_aload_n (i := 0) dX6_readInt_7 rfl rfl rfl ?_
    refine x_getM (a := 58) dX6_readInt_8 rfl fX6_22 hC rfl hat ?_
    refine x_aload_n (i := 0) dX6_readInt_11 rfl rfl rfl ?_
    refine x_getC dX6_readInt_12 rfl fX6_33 hC rfl F_58_0 ?_
    refine x_getM (a := 56) dX6_readInt_15 rfl fX6_58 hC rfl hn1 ?_
    refine x_jc_ge (tgt := 77) dX6_readInt_18 rfl rfl (by omega) (by omega) (fun c18 => ?_) (fun c18 => ?_)
    · rw [show n - (s.1 + i) = 0 by omega] at e
      exact x_to (fin _ _ h1 hr1 hv e) ⟨rfl, rfl, rfl, rfl, trivial⟩
    · obtain ⟨f, hf⟩ : ∃ f, n - (s.1 + i) = f + 1 := ⟨n - (s.1 + i) - 1, by omega⟩
      rw [hf, zNum] at e
      refine x_aload_n (i := 0) dX6_readInt_21 rfl rfl rfl ?_
      refine x_getC dX6_readInt_22 rfl fX6_33 hC rfl F_58_0 ?_
      refine x_aload_n (i := 0) dX6_readInt_25 rfl rfl rfl ?_
      refine x_getM (a := 58) dX6_readInt_26 rfl fX6_22 hC rfl hat ?_
      refine x_callV0 (ci := 8) (b := 56) (As := [_]) (d2 := d - 1) dX6_readInt_29 rfl kX6_63 okX8_byteAt (hC.o rfl) (fun q hq => by cases hq; rfl) (by omega) rfl rfl (Nat.le_of_ble_eq_true rfl) (c_byteAt hC hn1 hn2 (by omega) (fun q => ?_) (fun q => ?_))
      · rw [et]
        refine x_callS0 (As := [_]) (d2 := d - 1) dX6_readInt_32 rfl kX6_87 okX6_isDigit (by omega) rfl rfl (Nat.le_of_ble_eq_true rfl) (c_isDigit (fun z => ?_) (fun z => ?_))
        · rw [if_pos ⟨c18, z⟩] at e
          obtain ⟨g1, g2⟩ := dg_eq z
          refine x_if_eq_f (tgt := 77) dX6_readInt_35 rfl rfl nb1 ?_
          refine x_sipush dX6_readInt_38 rfl sC_1000 ?_
          refine x_iload_n (i := 3) dX6_readInt_41 rfl rfl rfl ?_
          refine x_bipush dX6_readInt_42 rfl bC_10 ?_
          refine x_imul dX6_readInt_44 rfl ?_
          refine x_aload_n (i := 0) dX6_readInt_45 rfl rfl rfl ?_
          refine x_getC dX6_readInt_46 rfl fX6_33 hC rfl F_58_0 ?_
          refine x_aload_n (i := 0) dX6_readInt_49 rfl rfl rfl ?_
          refine x_getM (a := 58) dX6_readInt_50 rfl fX6_22 hC rfl hat ?_
          refine x_callV0 (ci := 8) (b := 56) (As := [_]) (d2 := d - 1) dX6_readInt_53 rfl kX6_63 okX8_byteAt (hC.o rfl) (fun q hq => by cases hq; rfl) (by omega) rfl rfl (Nat.le_of_ble_eq_true rfl) (c_byteAt hC hn1 hn2 (by omega) (fun q => ?_) (fun q => ?_))
          · rw [et]
            refine x_iadd dX6_readInt_56 rfl ?_
            refine x_bipush dX6_readInt_57 rfl bC_48 ?_
            refine x_isub dX6_readInt_59 rfl ?_
            rw [show nI v * nI 10 + tpB h0 (s.1 + i) - nI 48 = nI (v * 10 + dgN (tpB h0 (s.1 + i))) by
              rw [g2, show dgN (nI (48 + dgN (tpB h0 (s.1 + i)))) = dgN (tpB h0 (s.1 + i)) by rw [← g2], nI_mul8, nI_add, pk_sub (by omega)]
              congr 1
              omega]
            refine x_callS0 (As := [_, _]) (d2 := d - 1) dX6_readInt_60 rfl kX6_101 okJ9_min_7cf53 (by omega) rfl rfl (Nat.le_of_ble_eq_true rfl) (c_minI (by omega) (by omega) ?_)
            refine x_istore_n (i := 3) dX6_readInt_63 rfl rfl (by decide) ?_
            refine x_aload_n (i := 0) dX6_readInt_64 rfl rfl rfl ?_
            refine x_dup dX6_readInt_65 rfl rfl ?_
            refine x_getM (a := 58) dX6_readInt_66 rfl fX6_22 hC rfl hat ?_
            refine x_iconst dX6_readInt_69 rfl iC_1 ?_
            refine x_iadd dX6_readInt_70 rfl ?_
            rw [show nI (s.1 + i) + nI 1 = nI (s.1 + (i + 1)) from nI_add _ 1]
            refine x_putC (a := 58) dX6_readInt_71 rfl fX6_22 (fun q hq => by cases hq; rfl) hC rfl ⟨rfl, rfl⟩ ?_
            refine x_goto (tgt := 7) dX6_readInt_74 rfl ?_
            refine x_to (ih (by omega) _ _ (hr1.at (s.1 + (i + 1))) (by omega) ?_) ⟨rfl, rfl, rfl, rfl, trivial⟩
            rw [e, show n - (s.1 + (i + 1)) = f by omega]
            rfl
          · omega
        · rw [if_neg (fun y => z y.2)] at e
          refine x_if_eq_t (tgt := 77) dX6_readInt_35 rfl nI_0 ?_
          exact x_to (fin _ _ h1 hr1 hv e) ⟨rfl, rfl, rfl, rfl, trivial⟩
      · omega) 0 (Nat.zero_le _)
  refine x_aload_n (i := 0) dX6_readInt_0 rfl rfl rfl ?_
  refine x_getM (a := 58) dX6_readInt_1 rfl fX6_22 hC rfl hat0 ?_
  refine x_istore_n (i := 2) dX6_readInt_4 rfl rfl (by decide) ?_
  refine x_iconst dX6_readInt_5 rfl iC_0 ?_
  refine x_istore_n (i := 3) dX6_readInt_6 rfl rfl (by decide) ?_
  exact x_to (key 0 h hr (by omega) rfl) ⟨rfl, rfl, rfl, rfl, trivial⟩
end READ

