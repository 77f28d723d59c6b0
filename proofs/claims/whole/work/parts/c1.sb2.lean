/-! THE BUILDER: room is made, the text is cleared, a character is added, length, charAt -/
theorem bB.h1 {h : xH} {v N : Nat} {T : List Nat} (hB : bB h v N T) : Cs h := hB.1
theorem bB.f2 {h : xH} {v N : Nat} {T : List Nat} (hB : bB h v N T) (w : Value) : bB (hs h 104 (113, 0, updV (h.1 104).2.2 2 w)) v N T ∧ bF h v N (hs h 104 (113, 0, updV (h.1 104).2.2 2 w)) v N := by
  obtain ⟨hC, ⟨f0, f1, f3⟩, ⟨v1, v2⟩, ⟨g, g1, g2, g3⟩, nn, t1, r1⟩ := hB
  refine ⟨⟨hC.setF (ci := 13) (a := 104) (kf := 2) (v := w) rfl NF_104_2 (by decide), ⟨(fv_ne (by decide)).trans f0, (fv_ne (by decide)).trans f1, (fv_ne (by decide)).trans f3⟩, ⟨v1, v2⟩, ⟨g, (hs_n (by omega)).trans g1, g2, g3⟩, nn, t1, r1⟩, ⟨Nat.le_refl _, fun a _ a2 _ => hs_n a2, Or.inl rfl, Nat.le_refl _⟩⟩
theorem bB.cnt {h : xH} {v N : Nat} {T : List Nat} (hB : bB h v N T) {T2 : List Nat} (hl : T2.length ≤ N) (ht : ∀ j, T2.getD j 0 < 128) (hg : ∀ g, h.1 v = (3, N, xI g) → ∀ j, j < T2.length → g j = nI (T2.getD j 0)) : bB (hs h 104 (113, 0, updV (h.1 104).2.2 3 (.int (nI T2.length)))) v N T2 ∧ bF h v N (hs h 104 (113, 0, updV (h.1 104).2.2 3 (.int (nI T2.length)))) v N := by
  obtain ⟨hC, ⟨f0, f1, f3⟩, ⟨v1, v2⟩, ⟨g, g1, g2, g3⟩, ⟨n1, n2, n3⟩, t1, r1⟩ := hB
  refine ⟨⟨hC.setF (ci := 13) (a := 104) (kf := 3) (v := .int (nI T2.length)) rfl NF_104_3 (by decide), ⟨(fv_ne (by decide)).trans f0, (fv_ne (by decide)).trans f1, fv_eq⟩, ⟨v1, v2⟩, ⟨g, (hs_n (by omega)).trans g1, g2, hg g g1⟩, ⟨n1, n2, hl⟩, ht, r1⟩, ⟨Nat.le_refl _, fun a _ a2 _ => hs_n a2, Or.inl rfl, Nat.le_refl _⟩⟩
theorem bB.row {h : xH} {v N : Nat} {T : List Nat} (hB : bB h v N T) {f : Nat → Int32} (hf : ∀ j, j < N → fits .byte (.int (f j)) = true) (hg : ∀ j, j < T.length → f j = nI (T.getD j 0)) : bB (hs h v (3, N, xI f)) v N T ∧ bF h v N (hs h v (3, N, xI f)) v N := by
  obtain ⟨hC, ⟨f0, f1, f3⟩, ⟨v1, v2⟩, ⟨g, g1, g2, g3⟩, nn, t1, r1⟩ := hB
  have e : (hs h v (3, N, xI f)).1 104 = h.1 104 := hs_n (by omega)
  refine ⟨⟨hC.setI g1 (Or.inr (Or.inr rfl)) (by omega), ⟨by rw [e]; exact f0, by rw [e]; exact f1, by rw [e]; exact f3⟩, ⟨v1, v2⟩, ⟨f, hs_eq, hf, hg⟩, nn, t1, r1⟩, ⟨Nat.le_refl _, fun a _ _ a3 => hs_n a3, Or.inl rfl, Nat.le_refl _⟩⟩
theorem t_ap {T M : List Nat} (ht : ∀ j, T.getD j 0 < 128) (hm : ∀ j, M.getD j 0 < 128) : ∀ j, (T ++ M).getD j 0 < 128 := by
  intro j
  rcases Nat.lt_or_ge j T.length with z | z
  · rw [gd_ap z]
    exact ht j
  · rw [show j = T.length + (j - T.length) by omega, gd_at]
    exact hm _
theorem t_1 {c : Nat} (hc : c < 128) : ∀ j, ([c] : List Nat).getD j 0 < 128 := by
  intro j
  match j with
  | 0 => exact hc
  | j + 1 => exact Nat.zero_lt_of_lt hc
section SBC
variable {G : xG} {l : Launch} {d : Nat} {h : xH} {Q : Option Value → xH → Prop} {v N : Nat} {T : List Nat}
theorem c_ens {m : Nat} (hd : 5 ≤ d) (hB : bB h v N T) (hm : m ≤ 80) (hm2 : m ≤ 2 * N + 2) (K : ∀ h2 v2, bB h2 v2 (gN N m) T → bF h v N h2 v2 (gN N m) → Q none h2) : xCt G l mJ5_ensureCapacityInternal_d00df d [.ref 104, .int (nI m)] h (gC N m) (gZ N m) Q := by
  have hB0 := hB
  obtain ⟨hC, ⟨f0, f1, f3⟩, ⟨v1, v2⟩, ⟨g, g1, g2, g3⟩, ⟨n1, n2, n3⟩, t1, r1⟩ := hB
  have sb : (nI m - nI N).toInt = (m : Int) - N := pk_sub_toInt (by omega) (by omega)
  have e0 : (0 : Int32).toInt = 0 := rfl
  refine xCt_ofF (by decide +kernel) (Nat.le_of_ble_eq_true rfl) ?_
  refine x_aload_n (i := 0) dJ5_ensureCapacityInternal_d00df_0 rfl rfl rfl ?_
  refine x_getM (a := 104) dJ5_ensureCapacityInternal_d00df_1 rfl fJ5_15 hC rfl f0 ?_
  refine x_alen dJ5_ensureCapacityInternal_d00df_4 rfl g1 (by decide) rfl ?_
  refine x_aload_n (i := 0) dJ5_ensureCapacityInternal_d00df_5 rfl rfl rfl ?_
  refine x_getM (a := 104) dJ5_ensureCapacityInternal_d00df_6 rfl fJ5_22 hC rfl f1 ?_
  refine x_ishr dJ5_ensureCapacityInternal_d00df_9 rfl ?_
  rw [shr0]
  by_cases c : m ≤ N
  · have e : gN N m = N := if_pos c
    rw [e] at K
    have le0 : nI m - nI N ≤ 0 := Int32.le_iff_toInt_le.mpr (by rw [sb, e0]; omega)
    refine x_istore_n (i := 2) dJ5_ensureCapacityInternal_d00df_10 rfl rfl (by decide) ?_
    refine x_iload_n (i := 1) dJ5_ensureCapacityInternal_d00df_11 rfl rfl rfl ?_
    refine x_iload_n (i := 2) dJ5_ensureCapacityInternal_d00df_12 rfl rfl rfl ?_
    refine x_isub dJ5_ensureCapacityInternal_d00df_13 rfl ?_
    refine x_if_le_t (tgt := 38) dJ5_ensureCapacityInternal_d00df_14 rfl le0 ?_
    refine x_return dJ5_ensureCapacityInternal_d00df_38 rfl ?_
    exact K h v hB0 bF.rf
  · have e : gN N m = 2 * N + 2 := if_neg c
    have pay := g_pay n1 hm
    rw [e] at K pay
    have eC : gC N m = 1 := if_neg c
    have eZ : gZ N m = 2 * N + 2 := if_neg c
    rw [eC] at pay ⊢
    rw [eZ] at pay ⊢
    have le0 : ¬ nI m - nI N ≤ 0 := fun q => by
      have := Int32.le_iff_toInt_le.mp q
      rw [sb, e0] at this
      omega
    refine x_istore_n (i := 2) dJ5_ensureCapacityInternal_d00df_10 rfl rfl (by decide) ?_
    refine x_iload_n (i := 1) dJ5_ensureCapacityInternal_d00df_11 rfl rfl rfl ?_
    refine x_iload_n (i := 2) dJ5_ensureCapacityInternal_d00df_12 rfl rfl rfl ?_
    refine x_isub dJ5_ensureCapacityInternal_d00df_13 rfl ?_
    refine x_if_le_f (tgt := 38) dJ5_ensureCapacityInternal_d00df_14 rfl rfl le0 ?_
    refine x_aload_n (i := 0) dJ5_ensureCapacityInternal_d00df_17 rfl rfl rfl ?_
    refine x_aload_n (i := 0) dJ5_ensureCapacityInternal_d00df_18 rfl rfl rfl ?_
    refine x_getM (a := 104) dJ5_ensureCapacityInternal_d00df_19 rfl fJ5_15 hC rfl f0 ?_
    refine x_aload_n (i := 0) dJ5_ensureCapacityInternal_d00df_22 rfl rfl rfl ?_
    refine x_iload_n (i := 1) dJ5_ensureCapacityInternal_d00df_23 rfl rfl rfl ?_
    refine x_callP0 (N := mJ5_newCapacity_0f7a4) (ci := 13) (b := 104) (As := [_]) (d2 := d - 1) dJ5_ensureCapacityInternal_d00df_24 rfl gJ5_104 obJ5_newCapacity_0f7a4 oiJ5_newCapacity_0f7a4 opJ5_newCapacity_0f7a4 sel_lat rfl (hC.o rfl) (by omega) rfl rfl (Nat.le_of_ble_eq_true rfl) (c_newCap (by omega) hB0 (by omega) (by omega) ?_)
    refine x_aload_n (i := 0) dJ5_ensureCapacityInternal_d00df_27 rfl rfl rfl ?_
    refine x_getM (a := 104) dJ5_ensureCapacityInternal_d00df_28 rfl fJ5_22 hC rfl f1 ?_
    refine x_ishl dJ5_ensureCapacityInternal_d00df_31 rfl ?_
    rw [shl0]
    refine x_callS (As := [_, _]) (d2 := d - 1) (mc2 := 1) (ms2 := 2 * N + 2) (k2 := 0) (n2 := 0) dJ5_ensureCapacityInternal_d00df_32 rfl kJ5_108 okJ7_copyOf_9075b (by omega) rfl rfl (Nat.le_of_ble_eq_true rfl) (by omega) (by omega) (c_copyOf (by omega) hC g1 v2 (by omega) (by omega) (by omega) g2 (fun h2 f C2 s2 k2 a2 b2 d2 => ?_))
    refine x_putC (a := 104) dJ5_ensureCapacityInternal_d00df_35 rfl fJ5_15 (fun q hq => by cases hq; rfl) C2 rfl ⟨rfl, rfl⟩ ?_
    refine x_return dJ5_ensureCapacityInternal_d00df_38 rfl ?_
    have h134 := hC.1
    have e4 : h2.1 104 = h.1 104 := k2 104 (by omega)
    refine K _ h.2 ⟨C2.setF (ci := 13) (a := 104) (kf := 0) (v := .ref h.2) rfl NF_104_0 (by decide), ⟨fv_eq, (fv_ne (by decide)).trans (by rw [e4]; exact f1), (fv_ne (by decide)).trans (by rw [e4]; exact f3)⟩, ⟨Or.inr h134, by show h.2 < h2.2; omega⟩, ⟨f, (hs_n (by omega)).trans a2, d2, fun j hj => (b2 j (by omega)).trans (g3 j hj)⟩, ⟨by omega, by omega, by omega⟩, t1, by show h2.2 + _ ≤ _; omega⟩ ⟨by show h.2 ≤ h2.2; omega, fun a q1 q2 q3 => (hs_n q2).trans (k2 a q1), Or.inr (Nat.le_refl _), by show h2.2 + _ ≤ _; omega⟩
theorem c_sl (hd : 6 ≤ d) (hB : bB h v N T) (K : ∀ h2, bB h2 v N [] → bF h v N h2 v N → Q none h2) : xCt G l mJ5_setLength_d00df d [.ref 104, .int (nI 0)] h 0 0 Q := by
  have n1 := hB.2.2.2.2.1
  refine xCt_ofF (by decide +kernel) (Nat.le_of_ble_eq_true rfl) ?_
  have hC := hB.1
  refine x_iload_n (i := 1) dJ5_setLength_d00df_0 rfl rfl rfl ?_
  refine x_if_ge_t (tgt := 13) dJ5_setLength_d00df_1 rfl (by decide) ?_
  refine x_aload_n (i := 0) dJ5_setLength_d00df_13 rfl rfl rfl ?_
  refine x_iload_n (i := 1) dJ5_setLength_d00df_14 rfl rfl rfl ?_
  have ens := c_ens (G := G) (l := l) (d := d - 1) (m := 0) (Q := fun r h2 => xWP G l mJ5_setLength_d00df d (zM G Q) 0 0 18 (xls (lv_args 0 [Value.ref 104, Value.int (nI 0)])) (xpush r []) h2) (by omega) hB (by omega) (by omega)
  rw [show gC N 0 = 0 from if_pos (by omega), show gZ N 0 = 0 from if_pos (by omega), show gN N 0 = N from if_pos (by omega)] at ens
  refine x_callP0 (N := mJ5_ensureCapacityInternal_d00df) (ci := 13) (b := 104) (As := [_]) (d2 := d - 1) dJ5_setLength_d00df_15 rfl gJ5_100 obJ5_ensureCapacityInternal_d00df oiJ5_ensureCapacityInternal_d00df opJ5_ensureCapacityInternal_d00df sel_lat rfl (hC.o rfl) (by omega) rfl rfl (Nat.le_of_ble_eq_true rfl) (ens (fun h2 v2 B2 F2 => ?_))
  have hC := B2.1
  obtain rfl | hv2 : v2 = v ∨ h.2 ≤ v2 := F2.2.2.1
  rotate_left
  · exfalso
    have := F2.2.2.2
    have := B2.2.2.1.2
    omega
  have fin : ∀ h3, bB h3 v2 N T → bF h v2 N h3 v2 N → xWP G l mJ5_setLength_d00df d (zM G Q) 0 0 76 (xls [(0, Value.ref 104), (1, Value.int (nI 0))]) [] h3 := by
    intro h3 B3 F3
    have hC := B3.1
    obtain ⟨B4, F4⟩ := B3.cnt (T2 := []) (Nat.zero_le _) (fun j => by simp) (fun g _ j hj => absurd hj (Nat.not_lt_zero j))
    refine x_aload_n (i := 0) dJ5_setLength_d00df_76 rfl rfl rfl ?_
    refine x_iload_n (i := 1) dJ5_setLength_d00df_77 rfl rfl rfl ?_
    refine x_putC (a := 104) dJ5_setLength_d00df_78 rfl fJ5_79 (fun q hq => by cases hq; rfl) hC rfl ⟨rfl, rfl⟩ ?_
    refine x_return dJ5_setLength_d00df_81 rfl ?_
    exact K _ B4 (F3.tr F4)
  have f3 := B2.2.1.2.2
  have tl := B2.2.2.2.2.1
  refine x_aload_n (i := 0) dJ5_setLength_d00df_18 rfl rfl rfl ?_
  refine x_getM (a := 104) dJ5_setLength_d00df_19 rfl fJ5_79 hC rfl f3 ?_
  refine x_iload_n (i := 1) dJ5_setLength_d00df_22 rfl rfl rfl ?_
  refine x_jc_ge (tgt := 63) dJ5_setLength_d00df_23 rfl rfl (by omega) (by omega) (fun c23 => ?_) (fun c23 => ?_)
  rotate_left
  · exfalso
    omega
  refine x_aload_n (i := 0) dJ5_setLength_d00df_63 rfl rfl rfl ?_
  refine x_getM (a := 104) dJ5_setLength_d00df_64 rfl fJ5_79 hC rfl f3 ?_
  refine x_iload_n (i := 1) dJ5_setLength_d00df_67 rfl rfl rfl ?_
  refine x_jc_le (tgt := 76) dJ5_setLength_d00df_68 rfl rfl (by omega) (by omega) (fun c68 => ?_) (fun c68 => ?_)
  · exact x_to (fin h2 B2 F2) ⟨rfl, rfl, trivial⟩
  · obtain ⟨B3, F3⟩ := B2.f2 (.int (nI 1))
    refine x_aload_n (i := 0) dJ5_setLength_d00df_71 rfl rfl rfl ?_
    refine x_iconst dJ5_setLength_d00df_72 rfl iC_1 ?_
    refine x_putC (a := 104) dJ5_setLength_d00df_73 rfl fJ5_73 (fun q hq => by cases hq; rfl) hC rfl ⟨rfl, rfl⟩ ?_
    exact x_to (fin _ B3 (F2.tr F3)) ⟨rfl, rfl, trivial⟩
theorem c_sl4 (hd : 7 ≤ d) (hB : bB h v N T) (K : ∀ h2, bB h2 v N [] → bF h v N h2 v N → Q none h2) : xCt G l mJ4_setLength_d00df d [.ref 104, .int (nI 0)] h 0 0 Q := by
  refine xCt_ofF (by decide +kernel) (Nat.le_of_ble_eq_true rfl) ?_
  have hC := hB.1
  refine x_aload_n (i := 0) dJ4_setLength_d00df_0 rfl rfl rfl ?_
  refine x_iload_n (i := 1) dJ4_setLength_d00df_1 rfl rfl rfl ?_
  refine x_callU0 (N := mJ5_setLength_d00df) (ci := 13) (b := 104) (As := [_]) (d2 := d - 1) dJ4_setLength_d00df_2 rfl gJ4_333 obJ5_setLength_d00df oiJ5_setLength_d00df osJ5_setLength_d00df sup_sb (by decide) (hC.o rfl) (by omega) rfl rfl (Nat.le_of_ble_eq_true rfl) (c_sl (by omega) hB (fun h2 B2 F2 => ?_))
  refine x_return dJ4_setLength_d00df_5 rfl ?_
  exact K h2 B2 F2
theorem c_canE {c : Nat} (hc : c < 128) (K : Q (some (.int (nI 1))) h) : xCt G l mJ1_canEncode_fc78d d [.int (nI c)] h 0 0 Q := by
  refine xCt_ofF (by decide +kernel) (Nat.le_of_ble_eq_true rfl) ?_
  refine x_iload_n (i := 0) dJ1_canEncode_fc78d_0 rfl rfl rfl ?_
  refine x_sipush dJ1_canEncode_fc78d_1 rfl sC_255 ?_
  refine x_jc_gt (tgt := 11) dJ1_canEncode_fc78d_4 rfl rfl (by omega) (by omega) (fun c4 => ?_) (fun c4 => ?_)
  · exfalso
    omega
  refine x_iconst dJ1_canEncode_fc78d_7 rfl iC_1 ?_
  refine x_goto (tgt := 12) dJ1_canEncode_fc78d_8 rfl ?_
  refine x_ireturn dJ1_canEncode_fc78d_12 rfl rfl ?_
  exact K
theorem c_apC5 {c : Nat} (hd : 6 ≤ d) (hB : bB h v N T) (hc : c < 128) (hl : T.length + 1 ≤ 80) (K : ∀ h2 v2, bB h2 v2 (gN N (T.length + 1)) (T ++ [c]) → bF h v N h2 v2 (gN N (T.length + 1)) → Q (some (.ref 104)) h2) : xCt G l mJ5_append_3fe6f d [.ref 104, .int (nI c)] h (gC N (T.length + 1)) (gZ N (T.length + 1)) Q := by
  have f3 := hB.2.1.2.2
  have nb := hB.2.2.2.2.1
  have gl := gN_le (N := N) (m := T.length + 1) (by omega)
  refine xCt_ofF (by decide +kernel) (Nat.le_of_ble_eq_true rfl) ?_
  have hC := hB.1
  refine x_aload_n (i := 0) dJ5_append_3fe6f_0 rfl rfl rfl ?_
  refine x_aload_n (i := 0) dJ5_append_3fe6f_1 rfl rfl rfl ?_
  refine x_getM (a := 104) dJ5_append_3fe6f_2 rfl fJ5_79 hC rfl f3 ?_
  refine x_iconst dJ5_append_3fe6f_5 rfl iC_1 ?_
  refine x_iadd dJ5_append_3fe6f_6 rfl ?_
  rw [show nI T.length + nI 1 = nI (T.length + 1) from nI_add _ _]
  refine x_callP (N := mJ5_ensureCapacityInternal_d00df) (ci := 13) (b := 104) (As := [_]) (d2 := d - 1) (mc2 := gC N (T.length + 1)) (ms2 := gZ N (T.length + 1)) (k2 := 0) (n2 := 0) dJ5_append_3fe6f_7 rfl gJ5_100 obJ5_ensureCapacityInternal_d00df oiJ5_ensureCapacityInternal_d00df opJ5_ensureCapacityInternal_d00df sel_lat rfl (hC.o rfl) (by omega) rfl rfl (Nat.le_of_ble_eq_true rfl) (by omega) (by omega) (c_ens (by omega) hB hl (by omega) (fun h2 v2 B2 F2 => ?_))
  generalize gN N (T.length + 1) = N2 at *
  have hC := B2.1
  obtain ⟨f0, f1, f3⟩ := B2.2.1
  refine x_aload_n (i := 0) dJ5_append_3fe6f_10 rfl rfl rfl ?_
  refine x_callN0 (N := mJ5_isLatin1_aae02) (ci := 13) (b := 104) (As := []) (d2 := d - 1) dJ5_append_3fe6f_11 rfl gJ5_83 obJ5_isLatin1_aae02 oiJ5_isLatin1_aae02 osJ5_isLatin1_aae02 (fun q hq => by cases hq; exact sel_lat) (hC.o rfl) (by omega) rfl rfl (Nat.le_of_ble_eq_true rfl) (c_lat hC f1 ?_)
  refine x_if_eq_f (tgt := 45) dJ5_append_3fe6f_14 rfl rfl nb1 ?_
  refine x_iload_n (i := 1) dJ5_append_3fe6f_17 rfl rfl rfl ?_
  refine x_callS0 (As := [_]) (d2 := d - 1) dJ5_append_3fe6f_18 rfl kJ5_191 okJ1_canEncode_fc78d (by omega) rfl rfl (Nat.le_of_ble_eq_true rfl) (c_canE hc ?_)
  obtain ⟨g, g1, g2, g3⟩ := B2.2.2.2.1
  obtain ⟨i1, i2, i3⟩ := by_id hc
  have lt : (T ++ [c]).length = T.length + 1 := by rw [List.length_append]; rfl
  have gu : ∀ j, j < T.length + 1 → upd g T.length (nI c) j = nI ((T ++ [c]).getD j 0) := by
    intro j hj
    unfold upd
    by_cases e : j = T.length
    · rw [if_pos e, e]
      exact congrArg nI (gd_at (L := T) (M := [c]) (j := 0)).symm
    · rw [if_neg e, gd_ap (by omega)]
      exact g3 j (by omega)
  have B3 := B2.row (f := upd g T.length (nI c)) (fun j hj => by unfold upd; split; exact i2; exact g2 j hj) (fun j hj => by rw [gu j (by omega), gd_ap hj])
  have B4 := B3.1.cnt (T2 := T ++ [c]) (by omega) (t_ap B2.2.2.2.2.2.1 (t_1 hc)) (fun g' e j hj => by
    have e2 : (3, N2, xI g') = ((3, N2, xI (upd g T.length (nI c))) : xC) := e.symm.trans hs_eq
    have e3 : xI g' j = xI (upd g T.length (nI c)) j := congrFun (congrArg (fun q : xC => q.2.2) e2) j
    have e4 : g' j = upd g T.length (nI c) j := by
      unfold xI at e3
      exact Value.int.inj e3
    rw [e4]
    exact gu j (by omega))
  rw [lt] at B4
  have hne : v2 ≠ 104 := by have := B2.2.2.1; omega
  have he : hs (hs h2 v2 (3, N2, xI (upd g T.length (nI c)))) 104 (113, 0, updV ((hs h2 v2 (3, N2, xI (upd g T.length (nI c)))).1 104).2.2 3 (.int (nI (T.length + 1)))) = hs (hs h2 104 (113, 0, updV (h2.1 104).2.2 3 (.int (nI (T.length + 1))))) v2 (3, N2, xI (upd g T.length (nI c))) := by
    rw [hs_n (Ne.symm hne)]
    exact hs_comm h2 hne _ _
  refine x_if_eq_f (tgt := 45) dJ5_append_3fe6f_21 rfl rfl nb1 ?_
  refine x_aload_n (i := 0) dJ5_append_3fe6f_24 rfl rfl rfl ?_
  refine x_getM (a := 104) dJ5_append_3fe6f_25 rfl fJ5_15 hC rfl f0 ?_
  refine x_aload_n (i := 0) dJ5_append_3fe6f_28 rfl rfl rfl ?_
  refine x_dup dJ5_append_3fe6f_29 rfl rfl ?_
  refine x_getM (a := 104) dJ5_append_3fe6f_30 rfl fJ5_79 hC rfl f3 ?_
  refine x_dup_x1 dJ5_append_3fe6f_33 rfl rfl rfl ?_
  refine x_iconst dJ5_append_3fe6f_34 rfl iC_1 ?_
  refine x_iadd dJ5_append_3fe6f_35 rfl ?_
  rw [show nI T.length + nI 1 = nI (T.length + 1) from nI_add _ _]
  refine x_putC (a := 104) dJ5_append_3fe6f_36 rfl fJ5_79 (fun q hq => by cases hq; rfl) hC rfl ⟨rfl, rfl⟩ ?_
  refine x_iload_n (i := 1) dJ5_append_3fe6f_39 rfl rfl rfl ?_
  refine x_i2b dJ5_append_3fe6f_40 rfl ?_
  rw [i1]
  refine x_bast (N := N2) (j := T.length) (g := g) dJ5_append_3fe6f_41 rfl ((hs_n hne).trans g1) rfl (by omega) (by have := B2.2.2.2.2.1; omega) ?_
  rw [i1]
  refine x_goto (tgt := 75) dJ5_append_3fe6f_42 rfl ?_
  refine x_aload_n (i := 0) dJ5_append_3fe6f_75 rfl rfl rfl ?_
  refine x_areturn dJ5_append_3fe6f_76 rfl (by first | exact Or.inr ⟨_, rfl⟩ | exact Or.inl ⟨_, rfl⟩) ?_
  rw [he] at B4
  exact K _ v2 B4.1 (F2.tr (B3.2.tr B4.2))
theorem c_apC {c : Nat} (hd : 7 ≤ d) (hB : bB h v N T) (hc : c < 128) (hl : T.length + 1 ≤ 80) (K : ∀ h2 v2, bB h2 v2 (gN N (T.length + 1)) (T ++ [c]) → bF h v N h2 v2 (gN N (T.length + 1)) → Q (some (.ref 104)) h2) : xCt G l mJ4_append_cf468 d [.ref 104, .int (nI c)] h (gC N (T.length + 1)) (gZ N (T.length + 1)) Q := by
  refine xCt_ofF (by decide +kernel) (Nat.le_of_ble_eq_true rfl) ?_
  have hC := hB.1
  refine x_aload_n (i := 0) dJ4_append_cf468_0 rfl rfl rfl ?_
  refine x_iload_n (i := 1) dJ4_append_cf468_1 rfl rfl rfl ?_
  refine x_callU (N := mJ5_append_3fe6f) (ci := 13) (b := 104) (As := [_]) (d2 := d - 1) (mc2 := gC N (T.length + 1)) (ms2 := gZ N (T.length + 1)) (k2 := 0) (n2 := 0) dJ4_append_cf468_2 rfl gJ4_50 obJ5_append_3fe6f oiJ5_append_3fe6f osJ5_append_3fe6f sup_sb (by decide) (hC.o rfl) (by omega) rfl rfl (Nat.le_of_ble_eq_true rfl) (by omega) (by omega) (c_apC5 (by omega) hB hc hl (fun h2 v2 B2 F2 => ?_))
  refine x_pop dJ4_append_cf468_5 rfl rfl ?_
  refine x_aload_n (i := 0) dJ4_append_cf468_6 rfl rfl rfl ?_
  refine x_areturn dJ4_append_cf468_7 rfl (Or.inl ⟨_, rfl⟩) ?_
  exact K h2 v2 B2 F2
theorem c_len5 (hB : bB h v N T) (K : Q (some (.int (nI T.length))) h) : xCt G l mJ5_length_8abf5 d [.ref 104] h 0 0 Q := by
  have f3 := hB.2.1.2.2
  refine xCt_ofF (by decide +kernel) (Nat.le_of_ble_eq_true rfl) ?_
  have hC := hB.1
  refine x_aload_n (i := 0) dJ5_length_8abf5_0 rfl rfl rfl ?_
  refine x_getM (a := 104) dJ5_length_8abf5_1 rfl fJ5_79 hC rfl f3 ?_
  refine x_ireturn dJ5_length_8abf5_4 rfl rfl ?_
  exact K
theorem c_len (hd : 1 ≤ d) (hB : bB h v N T) (K : Q (some (.int (nI T.length))) h) : xCt G l mJ4_length_8abf5 d [.ref 104] h 0 0 Q := by
  refine xCt_ofF (by decide +kernel) (Nat.le_of_ble_eq_true rfl) ?_
  have hC := hB.1
  refine x_aload_n (i := 0) dJ4_length_8abf5_0 rfl rfl rfl ?_
  refine x_callU0 (N := mJ5_length_8abf5) (ci := 13) (b := 104) (As := []) (d2 := d - 1) dJ4_length_8abf5_1 rfl gJ4_343 obJ5_length_8abf5 oiJ5_length_8abf5 osJ5_length_8abf5 sup_sb (by decide) (hC.o rfl) (by omega) rfl rfl (Nat.le_of_ble_eq_true rfl) (c_len5 hB ?_)
  refine x_ireturn dJ4_length_8abf5_4 rfl rfl ?_
  exact K
end SBC

