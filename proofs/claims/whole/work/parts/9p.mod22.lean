/-! EightPartsModel: what is listed -/
theorem zLst_1 {o norm : Nat} (ho : o < 8) (hn : norm < 4) : 1 ≤ (zLst o norm).1 ∧ lf norm + (zLst o norm).1 ≤ 9121 ∧ (zLst o norm).1 ≤ 6720 := by
  have h1 := ln_0 o ho norm hn
  have h2 := zLst_le o norm
  have h3 := lf_r norm hn
  have h4 := zRoom_le norm hn
  rw [(zLst_n ho hn).1] at h2 ⊢
  omega
theorem eB_k {sz : Nat} {k : Int32} (h1 : 1 ≤ sz) (h : eB 0 (sz - 1) k = none) : ¬ (0 ≤ k.toInt ∧ k.toInt < (sz : Int)) := by
  intro z
  unfold eB at h
  rw [if_pos (by omega)] at h
  cases h
section MOD
variable {G : xG} {l : Launch} {d : Nat} {h : xH} {Q : Option Value → xH → Prop} {S : St}
theorem m_brings {t norm k : Nat} {f : Nat → Int32} (hd : 1 ≤ d) (hC : Cs h) (ht : t < 155) (hn : norm < 4) (hk : lf norm + k < 9121) (hf : zBd f) (e : ∀ p, p < 8 → iv h 114 (8 * (lf norm + k) + p) = f p) (K : ∀ h2, mV [t] [] h h2 → pl h2 t = c8 f → Q none h2) : xCt G l mX12_brings d [.ref 110, .int (nI t), .int (nI norm), .int (nI k)] h 0 0 Q := by
  have hC0 := hC
  have v := hC.v (a := 112) rfl
  have v4 := hC.v (a := 114) rfl
  refine xCt_of (by decide) (Nat.le_of_ble_eq_true rfl) ?_
  refine x_iconst dX12_brings_0 rfl iC_0 ?_
  refine x_istore dX12_brings_1 rfl (by decide) ?_
  have key := xloop (P := fun i => xWP G l mX12_brings d (zM G Q) 0 0 3 (xls [(0, .ref 110), (1, .int (nI t)), (2, .int (nI norm)), (3, .int (nI k)), (4, .int (nI i))]) [] (hs h 112 (0, 1240, xI (mrow (iv h 112) t f i)))) 8 (by
    intro i hi ih
    have hC := hC0.setI (f := mrow (iv h 112) t f i) v (Or.inl rfl) (by decide)
    have w4 := hs_ne (c := (0, 1240, xI (mrow (iv h 112) t f i))) (show 114 ≠ 112 by decide) v4
    refine x_iload dX12_brings_3 rfl rfl ?_
    refine x_bipush dX12_brings_5 rfl bC_8 ?_
    refine x_jc_ge (tgt := 45) dX12_brings_7 rfl rfl (by omega) (by omega) (fun c7 => ?_) (fun c7 => ?_)
    · obtain rfl : i = 8 := by omega
      obtain ⟨k1, k2⟩ := mV_row (x := t) (f := f) hC0 ht (fun _ => hf)
      refine x_return dX12_brings_45 rfl ?_
      exact K _ k1 k2
    · refine x_aload_n (i := 0) dX12_brings_10 rfl rfl rfl ?_
      refine x_getC dX12_brings_11 rfl fX12_17 hC rfl F_110_2 ?_
      refine x_bipush dX12_brings_14 rfl bC_8 ?_
      refine x_iload_n (i := 1) dX12_brings_16 rfl rfl rfl ?_
      refine x_imul dX12_brings_17 rfl ?_
      refine x_iload dX12_brings_18 rfl rfl ?_
      refine x_iadd dX12_brings_20 rfl ?_
      rw [nI_8]
      refine x_aload_n (i := 0) dX12_brings_21 rfl rfl rfl ?_
      refine x_getC dX12_brings_22 rfl fX12_28 hC rfl F_110_5 ?_
      refine x_bipush dX12_brings_25 rfl bC_8 ?_
      refine x_iload_n (i := 2) dX12_brings_27 rfl rfl rfl ?_
      refine x_callS0 (As := [_]) (d2 := d - 1) dX12_brings_28 rfl kX12_143 okX12_listFrom (by omega) rfl rfl (Nat.le_of_ble_eq_true rfl) (m_listFrom hn ?_)
      refine x_iload_n (i := 3) dX12_brings_31 rfl rfl rfl ?_
      refine x_iadd dX12_brings_32 rfl ?_
      rw [show nI (lf norm) + nI k = nI (lf norm + k) from nI_add _ _]
      refine x_imul dX12_brings_33 rfl ?_
      refine x_iload dX12_brings_34 rfl rfl ?_
      refine x_iadd dX12_brings_36 rfl ?_
      rw [nI_8]
      refine x_iald dX12_brings_37 rfl w4 rfl (by omega) (by decide) ?_
      rw [e i c7]
      refine x_iastT dX12_brings_38 rfl rfl (by omega) (by decide) ?_
      rw [mrow_s]
      refine x_iinc dX12_brings_39 rfl rfl (inc1 _) ?_
      refine x_goto (tgt := 3) dX12_brings_42 rfl ?_
      exact x_to (ih c7) ⟨rfl, rfl, rfl, rfl, rfl, trivial⟩) 0 (Nat.zero_le _)
  rw [mrow_0, hs_self v] at key
  exact x_to key ⟨rfl, rfl, rfl, rfl, rfl, trivial⟩
theorem n_many {n : Int32} (hd : 10 ≤ d) (hR : RM h S) (K : ∀ r S2 h2, sp_many S n = (r, S2) → RM h2 S2 → cF h h2 → Q (some (.int r)) h2) : xCt G l mX12_many d [.ref 110, .int n] h 0 0 Q := by
  have hC := hR.1
  refine xCt_of (by decide) (Nat.le_of_ble_eq_true rfl) ?_
  refine x_iload_n (i := 1) dX12_many_0 rfl rfl rfl ?_
  refine x_callS0 (As := [_]) (d2 := d - 1) dX12_many_1 rfl kX12_175 okX12_isNorm (by omega) rfl rfl (Nat.le_of_ble_eq_true rfl) (m_isNorm (by omega) (fun z => ?_) (fun norm hn en qn => ?_))
  · refine x_if_eq_t (tgt := 15) dX12_many_4 rfl nI_0 ?_
    refine x_iconst dX12_many_15 rfl iC_m1 ?_
    refine x_ireturn dX12_many_16 rfl rfl ?_
    exact K _ _ _ (by simp only [sp_many, z]) hR (cF.rf hC)
  · subst en
    refine x_if_eq_f (tgt := 15) dX12_many_4 rfl rfl nb1 ?_
    refine x_aload_n (i := 0) dX12_many_7 rfl rfl rfl ?_
    refine x_iload_n (i := 1) dX12_many_8 rfl rfl rfl ?_
    refine x_callV0 (ci := 12) (b := 110) (As := [_]) (d2 := d - 1) dX12_many_9 rfl kX12_158 okX12_listSize (hC.o rfl) (fun q hq => by cases hq; rfl) (by omega) rfl rfl (Nat.le_of_ble_eq_true rfl) (m_listSize (by omega) hR hn (fun h2 r2 c2 s2 e6 e4 => ?_))
    refine x_goto (tgt := 16) dX12_many_12 rfl ?_
    refine x_ireturn dX12_many_16 rfl rfl ?_
    exact K _ _ _ (by simp only [sp_many, qn]) r2 c2
theorem n_listed {a n k : Int32} (hd : 10 ≤ d) (hR : RM h S) (K : ∀ r S2 h2, sp_listed S a n k = (r, S2) → RM h2 S2 → cF h h2 → Q (some (.int r)) h2) : xCt G l mX12_listed d [.ref 110, .int a, .int n, .int k] h 0 0 Q := by
  have hC := hR.1
  refine xCt_of (by decide) (Nat.le_of_ble_eq_true rfl) ?_
  refine x_iload_n (i := 1) dX12_listed_0 rfl rfl rfl ?_
  refine x_callS0 (As := [_]) (d2 := d - 1) dX12_listed_1 rfl kX12_165 okX12_isSlot (by omega) rfl rfl (Nat.le_of_ble_eq_true rfl) (m_isSlot (by omega) (fun z => ?_) (fun t ht et qt => ?_))
  · refine x_if_eq_t (tgt := 31) dX12_listed_4 rfl nI_0 ?_
    refine x_iconst dX12_listed_31 rfl iC_0 ?_
    refine x_ireturn dX12_listed_32 rfl rfl ?_
    exact K _ _ _ (by simp only [sp_listed, z]; rfl) hR (cF.rf hC)
  subst et
  refine x_if_eq_f (tgt := 31) dX12_listed_4 rfl rfl nb1 ?_
  refine x_iload_n (i := 2) dX12_listed_7 rfl rfl rfl ?_
  refine x_callS0 (As := [_]) (d2 := d - 1) dX12_listed_8 rfl kX12_175 okX12_isNorm (by omega) rfl rfl (Nat.le_of_ble_eq_true rfl) (m_isNorm (by omega) (fun z => ?_) (fun norm hn en qn => ?_))
  · refine x_if_eq_t (tgt := 31) dX12_listed_11 rfl nI_0 ?_
    refine x_iconst dX12_listed_31 rfl iC_0 ?_
    refine x_ireturn dX12_listed_32 rfl rfl ?_
    exact K _ _ _ (by simp only [sp_listed, qt, z]; rfl) hR (cF.rf hC)
  subst en
  obtain ⟨z1, z2, z3⟩ := zLst_1 hR.2.1.1 hn
  refine x_if_eq_f (tgt := 31) dX12_listed_11 rfl rfl nb1 ?_
  refine x_iload_n (i := 3) dX12_listed_14 rfl rfl rfl ?_
  refine x_i2l dX12_listed_15 rfl ?_
  refine x_lconst dX12_listed_16 rfl lC_0 ?_
  refine x_aload_n (i := 0) dX12_listed_17 rfl rfl rfl ?_
  refine x_iload_n (i := 2) dX12_listed_18 rfl rfl rfl ?_
  refine x_callV0 (ci := 12) (b := 110) (As := [_]) (d2 := d - 1) dX12_listed_19 rfl kX12_158 okX12_listSize (hC.o rfl) (fun q hq => by cases hq; rfl) (by omega) rfl rfl (Nat.le_of_ble_eq_true rfl) (m_listSize (by omega) hR hn (fun h2 r2 c2 s2 e6 e4 => ?_))
  have hC := r2.1
  refine x_iconst dX12_listed_22 rfl iC_1 ?_
  refine x_isub dX12_listed_23 rfl ?_
  rw [show nI (zLst S.2.1 norm).1 - nI 1 = nI ((zLst S.2.1 norm).1 - 1) from pk_sub z1]
  refine x_i2l dX12_listed_24 rfl ?_
  refine x_callS0 (As := [_, _, _]) (d2 := d - 1) dX12_listed_25 rfl kX12_95 okX12_in (by omega) rfl rfl (Nat.le_of_ble_eq_true rfl) (m_in (lo := 0) (hi := (zLst S.2.1 norm).1 - 1) (by decide) (by rw [nI_li (by omega)]) (by omega) (fun z => ?_) (fun j _ j2 ej qj => ?_))
  · refine x_if_ne_f (tgt := 33) dX12_listed_28 rfl rfl nI_0 ?_
    refine x_iconst dX12_listed_31 rfl iC_0 ?_
    refine x_ireturn dX12_listed_32 rfl rfl ?_
    exact K _ _ _ (by simp only [sp_listed, qt, qn]; exact if_neg (eB_k z1 z)) r2 c2
  · subst ej
    have hj : j < (zLst S.2.1 norm).1 := by omega
    obtain ⟨k1, k2, k3⟩ := kIn (k := nI j) rfl hj z3
    refine x_if_ne_t (tgt := 33) dX12_listed_28 rfl nb1 ?_
    refine x_aload_n (i := 0) dX12_listed_33 rfl rfl rfl ?_
    refine x_iload_n (i := 1) dX12_listed_34 rfl rfl rfl ?_
    refine x_iload_n (i := 2) dX12_listed_35 rfl rfl rfl ?_
    refine x_iload_n (i := 3) dX12_listed_36 rfl rfl rfl ?_
    refine x_callV0 (ci := 12) (b := 110) (As := [_, _, _]) (d2 := d - 1) dX12_listed_37 rfl kX12_178 okX12_brings (hC.o rfl) (fun q hq => by cases hq; rfl) (by omega) rfl rfl (Nat.le_of_ble_eq_true rfl) (m_brings (by omega) hC (by omega) hn (by omega) (zBd_up _) (e4 j hj) (fun h3 k4 e5 => ?_))
    refine x_iconst dX12_listed_40 rfl iC_1 ?_
    refine x_ireturn dX12_listed_41 rfl rfl ?_
    exact K _ _ _ (by simp only [sp_listed, qt, qn]; rw [if_pos ⟨k1, k2⟩, k3]; rfl) (r2.set ht k4 (by simp) (by simp) e5) (c2.tr (k4.c (by simp)))
theorem n_listedPart {n k a : Int32} (hd : 10 ≤ d) (hR : RM h S) (K : ∀ r S2 h2, sp_listedPart S n k a = (r, S2) → RM h2 S2 → cF h h2 → Q (some (.int r)) h2) : xCt G l mX12_listedPart d [.ref 110, .int n, .int k, .int a] h 0 0 Q := by
  have hC := hR.1
  refine xCt_of (by decide) (Nat.le_of_ble_eq_true rfl) ?_
  refine x_iload_n (i := 1) dX12_listedPart_0 rfl rfl rfl ?_
  refine x_callS0 (As := [_]) (d2 := d - 1) dX12_listedPart_1 rfl kX12_175 okX12_isNorm (by omega) rfl rfl (Nat.le_of_ble_eq_true rfl) (m_isNorm (by omega) (fun z => ?_) (fun norm hn en qn => ?_))
  · refine x_if_eq_t (tgt := 31) dX12_listedPart_4 rfl nI_0 ?_
    refine x_sipush dX12_listedPart_31 rfl sC_m30000 ?_
    refine x_ireturn dX12_listedPart_34 rfl rfl ?_
    exact K _ _ _ (by simp only [sp_listedPart, z]) hR (cF.rf hC)
  subst en
  obtain ⟨z1, z2, z3⟩ := zLst_1 hR.2.1.1 hn
  refine x_if_eq_f (tgt := 31) dX12_listedPart_4 rfl rfl nb1 ?_
  refine x_iload_n (i := 2) dX12_listedPart_7 rfl rfl rfl ?_
  refine x_i2l dX12_listedPart_8 rfl ?_
  refine x_lconst dX12_listedPart_9 rfl lC_0 ?_
  refine x_aload_n (i := 0) dX12_listedPart_10 rfl rfl rfl ?_
  refine x_iload_n (i := 1) dX12_listedPart_11 rfl rfl rfl ?_
  refine x_callV0 (ci := 12) (b := 110) (As := [_]) (d2 := d - 1) dX12_listedPart_12 rfl kX12_158 okX12_listSize (hC.o rfl) (fun q hq => by cases hq; rfl) (by omega) rfl rfl (Nat.le_of_ble_eq_true rfl) (m_listSize (by omega) hR hn (fun h2 r2 c2 s2 e6 e4 => ?_))
  have hC := r2.1
  refine x_iconst dX12_listedPart_15 rfl iC_1 ?_
  refine x_isub dX12_listedPart_16 rfl ?_
  rw [show nI (zLst S.2.1 norm).1 - nI 1 = nI ((zLst S.2.1 norm).1 - 1) from pk_sub z1]
  refine x_i2l dX12_listedPart_17 rfl ?_
  refine x_callS0 (As := [_, _, _]) (d2 := d - 1) dX12_listedPart_18 rfl kX12_95 okX12_in (by omega) rfl rfl (Nat.le_of_ble_eq_true rfl) (m_in (lo := 0) (hi := (zLst S.2.1 norm).1 - 1) (by decide) (by rw [nI_li (by omega)]) (by omega) (fun z => ?_) (fun j _ j2 ej qj => ?_))
  · refine x_if_eq_t (tgt := 31) dX12_listedPart_21 rfl nI_0 ?_
    refine x_sipush dX12_listedPart_31 rfl sC_m30000 ?_
    refine x_ireturn dX12_listedPart_34 rfl rfl ?_
    refine K _ _ _ ?_ r2 c2
    cases qp : sE a with
    | none => simp only [sp_listedPart, qn, qp]
    | some q => simp only [sp_listedPart, qn, qp]; exact if_neg (eB_k z1 z)
  · subst ej
    have hj : j < (zLst S.2.1 norm).1 := by omega
    obtain ⟨k1, k2, k3⟩ := kIn (k := nI j) rfl hj z3
    refine x_if_eq_f (tgt := 31) dX12_listedPart_21 rfl rfl nb1 ?_
    refine x_iload_n (i := 3) dX12_listedPart_24 rfl rfl rfl ?_
    refine x_callS0 (As := [_]) (d2 := d - 1) dX12_listedPart_25 rfl kX12_168 okX12_isPart (by omega) rfl rfl (Nat.le_of_ble_eq_true rfl) (m_isPart (by omega) (fun z => ?_) (fun p hp ep qp => ?_))
    · refine x_if_ne_f (tgt := 35) dX12_listedPart_28 rfl rfl nI_0 ?_
      refine x_sipush dX12_listedPart_31 rfl sC_m30000 ?_
      refine x_ireturn dX12_listedPart_34 rfl rfl ?_
      exact K _ _ _ (by simp only [sp_listedPart, qn, z]) r2 c2
    · subst ep
      have v4 := hC.v (a := 114) rfl
      refine x_if_ne_t (tgt := 35) dX12_listedPart_28 rfl nb1 ?_
      refine x_aload_n (i := 0) dX12_listedPart_35 rfl rfl rfl ?_
      refine x_getC dX12_listedPart_36 rfl fX12_28 hC rfl F_110_5 ?_
      refine x_bipush dX12_listedPart_39 rfl bC_8 ?_
      refine x_iload_n (i := 1) dX12_listedPart_41 rfl rfl rfl ?_
      refine x_callS0 (As := [_]) (d2 := d - 1) dX12_listedPart_42 rfl kX12_143 okX12_listFrom (by omega) rfl rfl (Nat.le_of_ble_eq_true rfl) (m_listFrom hn ?_)
      refine x_iload_n (i := 2) dX12_listedPart_45 rfl rfl rfl ?_
      refine x_iadd dX12_listedPart_46 rfl ?_
      rw [show nI (lf norm) + nI j = nI (lf norm + j) from nI_add _ _]
      refine x_imul dX12_listedPart_47 rfl ?_
      refine x_iload_n (i := 3) dX12_listedPart_48 rfl rfl rfl ?_
      refine x_iadd dX12_listedPart_49 rfl ?_
      rw [nI_8]
      refine x_iald dX12_listedPart_50 rfl v4 rfl (by omega) (by decide) ?_
      rw [e4 j hj p hp]
      refine x_ireturn dX12_listedPart_51 rfl rfl ?_
      exact K _ _ _ (by simp only [sp_listedPart, qn, qp]; rw [if_pos ⟨k1, k2⟩, k3]) r2 c2
end MOD

