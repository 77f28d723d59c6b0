/-! THE BUILDER: cleared from what it held between two calls; charAt; the text "/2" is added -/
theorem by_nar : ((List.range 128).all fun c => decide (narrow .char (.int (nI c)) = .int (nI c))) = true := by decide +kernel
theorem by_ch {c : Nat} (hc : c < 128) : narrow .char (.int (nI c)) = .int (nI c) := by
  have h := List.all_eq_true.mp by_nar c (List.mem_range.mpr hc)
  exact of_decide_eq_true h
theorem sbS.z {h : xH} {v N c : Nat} {g : Nat → Int32} (hC : Cs h) (hS : sbS h v N c g) (hr : h.2 + phN N ≤ 900010) : bB (hs h 104 (113, 0, updV (h.1 104).2.2 3 (.int (nI 0)))) v N [] ∧ bF h v N (hs h 104 (113, 0, updV (h.1 104).2.2 3 (.int (nI 0)))) v N := by
  obtain ⟨f0, f1, f3, v1, v2, g1, n1, n2, n3, g2⟩ := hS
  refine ⟨⟨hC.setF (ci := 13) (a := 104) (kf := 3) (v := .int (nI 0)) rfl NF_104_3 (by decide), ⟨(fv_ne (by decide)).trans f0, (fv_ne (by decide)).trans f1, fv_eq⟩, ⟨v1, v2⟩, ⟨g, (hs_n (by omega)).trans g1, g2, fun j hj => absurd hj (Nat.not_lt_zero j)⟩, ⟨n1, n2, Nat.zero_le _⟩, fun j => by simp, hr⟩, ⟨Nat.le_refl _, fun a _ a2 _ => hs_n a2, Or.inl rfl, Nat.le_refl _⟩⟩
theorem sbS.m {h : xH} {v N c : Nat} {g : Nat → Int32} (hS : sbS h v N c g) (w : Value) : sbS (hs h 104 (113, 0, updV (h.1 104).2.2 2 w)) v N c g ∧ bF h v N (hs h 104 (113, 0, updV (h.1 104).2.2 2 w)) v N := by
  obtain ⟨f0, f1, f3, v1, v2, g1, n1⟩ := hS
  exact ⟨⟨(fv_ne (by decide)).trans f0, (fv_ne (by decide)).trans f1, (fv_ne (by decide)).trans f3, v1, v2, (hs_n (by omega)).trans g1, n1⟩, ⟨Nat.le_refl _, fun a _ a2 _ => hs_n a2, Or.inl rfl, Nat.le_refl _⟩⟩
section SBC
variable {G : xG} {l : Launch} {d : Nat} {h : xH} {Q : Option Value → xH → Prop} {v N : Nat} {T : List Nat}
theorem c_ens0 {c : Nat} {g : Nat → Int32} (hC : Cs h) (hS : sbS h v N c g) (K : Q none h) : xCt G l mJ5_ensureCapacityInternal_d00df d [.ref 104, .int (nI 0)] h 0 0 Q := by
  obtain ⟨f0, f1, f3, v1, v2, g1, n1, n2, n3, g2⟩ := hS
  have sb : (nI 0 - nI N).toInt = ((0 : Nat) : Int) - N := pk_sub_toInt (by omega) (by omega)
  have e0 : (0 : Int32).toInt = 0 := rfl
  refine xCt_ofF (by decide +kernel) (Nat.le_of_ble_eq_true rfl) ?_
  refine x_aload_n (i := 0) dJ5_ensureCapacityInternal_d00df_0 rfl rfl rfl ?_
  refine x_getM (a := 104) dJ5_ensureCapacityInternal_d00df_1 rfl fJ5_15 hC rfl f0 ?_
  refine x_alen dJ5_ensureCapacityInternal_d00df_4 rfl g1 (by decide) rfl ?_
  refine x_aload_n (i := 0) dJ5_ensureCapacityInternal_d00df_5 rfl rfl rfl ?_
  refine x_getM (a := 104) dJ5_ensureCapacityInternal_d00df_6 rfl fJ5_22 hC rfl f1 ?_
  refine x_ishr dJ5_ensureCapacityInternal_d00df_9 rfl ?_
  rw [shr0]
  have le0 : nI 0 - nI N ≤ 0 := Int32.le_iff_toInt_le.mpr (by rw [sb, e0]; omega)
  refine x_istore_n (i := 2) dJ5_ensureCapacityInternal_d00df_10 rfl rfl (by decide) ?_
  refine x_iload_n (i := 1) dJ5_ensureCapacityInternal_d00df_11 rfl rfl rfl ?_
  refine x_iload_n (i := 2) dJ5_ensureCapacityInternal_d00df_12 rfl rfl rfl ?_
  refine x_isub dJ5_ensureCapacityInternal_d00df_13 rfl ?_
  refine x_if_le_t (tgt := 38) dJ5_ensureCapacityInternal_d00df_14 rfl le0 ?_
  refine x_return dJ5_ensureCapacityInternal_d00df_38 rfl ?_
  exact K
theorem c_sl0 {c : Nat} {g : Nat → Int32} (hd : 2 ≤ d) (hC : Cs h) (hS : sbS h v N c g) (hr : h.2 + phN N ≤ 900010) (K : ∀ h2, bB h2 v N [] → bF h v N h2 v N → Q none h2) : xCt G l mJ5_setLength_d00df d [.ref 104, .int (nI 0)] h 0 0 Q := by
  refine xCt_ofF (by decide +kernel) (Nat.le_of_ble_eq_true rfl) ?_
  have f3 := hS.2.2.1
  have nn := hS.2.2.2.2.2.2
  refine x_iload_n (i := 1) dJ5_setLength_d00df_0 rfl rfl rfl ?_
  refine x_if_ge_t (tgt := 13) dJ5_setLength_d00df_1 rfl (by decide) ?_
  refine x_aload_n (i := 0) dJ5_setLength_d00df_13 rfl rfl rfl ?_
  refine x_iload_n (i := 1) dJ5_setLength_d00df_14 rfl rfl rfl ?_
  refine x_callP0 (N := mJ5_ensureCapacityInternal_d00df) (ci := 13) (b := 104) (As := [_]) (d2 := d - 1) dJ5_setLength_d00df_15 rfl gJ5_100 obJ5_ensureCapacityInternal_d00df oiJ5_ensureCapacityInternal_d00df opJ5_ensureCapacityInternal_d00df sel_lat rfl (hC.o rfl) (by omega) rfl rfl (Nat.le_of_ble_eq_true rfl) (c_ens0 hC hS ?_)
  have fin : ∀ h3, Cs h3 → sbS h3 v N c g → h3.2 + phN N ≤ 900010 → bF h v N h3 v N → xWP G l mJ5_setLength_d00df d (zM G Q) 0 0 76 (xls [(0, Value.ref 104), (1, Value.int (nI 0))]) [] h3 := by
    intro h3 hC S3 r3 F3
    obtain ⟨B4, F4⟩ := S3.z hC r3
    refine x_aload_n (i := 0) dJ5_setLength_d00df_76 rfl rfl rfl ?_
    refine x_iload_n (i := 1) dJ5_setLength_d00df_77 rfl rfl rfl ?_
    refine x_putC (a := 104) dJ5_setLength_d00df_78 rfl fJ5_79 (fun q hq => by cases hq; rfl) hC rfl ⟨rfl, rfl⟩ ?_
    refine x_return dJ5_setLength_d00df_81 rfl ?_
    exact K _ B4 (F3.tr F4)
  refine x_aload_n (i := 0) dJ5_setLength_d00df_18 rfl rfl rfl ?_
  refine x_getM (a := 104) dJ5_setLength_d00df_19 rfl fJ5_79 hC rfl f3 ?_
  refine x_iload_n (i := 1) dJ5_setLength_d00df_22 rfl rfl rfl ?_
  refine x_jc_ge (tgt := 63) dJ5_setLength_d00df_23 rfl rfl (by omega) (by omega) (fun c23 => ?_) (fun c23 => ?_)
  rotate_left
  · exfalso
    omega
  refine x_aload_n (i := 0) dJ5_setLength_d00df_63 rfl rfl rfl ?_
  refine x_getM (a := 104) dJ5_setLength_d00df_64 rfl fJ5_79 hC rfl f3 ?_
  refine x_iload_n (i := 1) dJ5_setLength_d00df_67 rfl rfl rfl ?_
  refine x_jc_le (tgt := 76) dJ5_setLength_d00df_68 rfl rfl (by omega) (by omega) (fun c68 => ?_) (fun c68 => ?_)
  · exact x_to (fin h hC hS hr bF.rf) ⟨rfl, rfl, trivial⟩
  · obtain ⟨S3, F3⟩ := hS.m (.int (nI 1))
    refine x_aload_n (i := 0) dJ5_setLength_d00df_71 rfl rfl rfl ?_
    refine x_iconst dJ5_setLength_d00df_72 rfl iC_1 ?_
    refine x_putC (a := 104) dJ5_setLength_d00df_73 rfl fJ5_73 (fun q hq => by cases hq; rfl) hC rfl ⟨rfl, rfl⟩ ?_
    exact x_to (fin _ (hC.setF (ci := 13) (a := 104) (kf := 2) (v := .int (nI 1)) rfl NF_104_2 (by decide)) S3 hr F3) ⟨rfl, rfl, trivial⟩
theorem c_slz {c : Nat} {g : Nat → Int32} (hd : 3 ≤ d) (hC : Cs h) (hS : sbS h v N c g) (hr : h.2 + phN N ≤ 900010) (K : ∀ h2, bB h2 v N [] → bF h v N h2 v N → Q none h2) : xCt G l mJ4_setLength_d00df d [.ref 104, .int (nI 0)] h 0 0 Q := by
  refine xCt_ofF (by decide +kernel) (Nat.le_of_ble_eq_true rfl) ?_
  refine x_aload_n (i := 0) dJ4_setLength_d00df_0 rfl rfl rfl ?_
  refine x_iload_n (i := 1) dJ4_setLength_d00df_1 rfl rfl rfl ?_
  refine x_callU0 (N := mJ5_setLength_d00df) (ci := 13) (b := 104) (As := [_]) (d2 := d - 1) dJ4_setLength_d00df_2 rfl gJ4_333 obJ5_setLength_d00df oiJ5_setLength_d00df osJ5_setLength_d00df sup_sb (by decide) (hC.o rfl) (by omega) rfl rfl (Nat.le_of_ble_eq_true rfl) (c_sl0 (by omega) hC hS hr (fun h2 B2 F2 => ?_))
  refine x_return dJ4_setLength_d00df_5 rfl ?_
  exact K h2 B2 F2
theorem c_ck3 {i n : Nat} {w : Value} (hw : w.category = 1) (hi : i < n) (hn : n < 2147483648) (K : Q (some (.int (nI i))) h) : xCt G l mJ3_checkIndex_8e157 d [.int (nI i), .int (nI n), w] h 0 0 Q := by
  refine xCt_ofF (by decide +kernel) (by cases w <;> first | exact Nat.le_of_ble_eq_true rfl | cases hw) ?_
  have nn : ¬ nI i < 0 := nI_pos (by omega)
  refine x_iload_n (i := 0) dJ3_checkIndex_8e157_0 rfl rfl rfl ?_
  refine x_if_lt_f (tgt := 9) dJ3_checkIndex_8e157_1 rfl rfl nn ?_
  refine x_iload_n (i := 0) dJ3_checkIndex_8e157_4 rfl rfl rfl ?_
  refine x_iload_n (i := 1) dJ3_checkIndex_8e157_5 rfl rfl rfl ?_
  refine x_jc_lt (tgt := 16) dJ3_checkIndex_8e157_6 rfl rfl (by omega) (by omega) (fun c6 => ?_) (fun c6 => ?_)
  · refine x_iload_n (i := 0) dJ3_checkIndex_8e157_16 rfl rfl rfl ?_
    refine x_ireturn dJ3_checkIndex_8e157_17 rfl rfl ?_
    exact K
  · exfalso
    omega
theorem c_ck0 {i n : Nat} (hd : 1 ≤ d) (hi : i < n) (hn : n < 2147483648) (K : Q none h) : xCt G l mJ0_checkIndex_df160 d [.int (nI i), .int (nI n)] h 0 0 Q := by
  refine xCt_ofF (by decide +kernel) (Nat.le_of_ble_eq_true rfl) ?_
  refine x_iload_n (i := 0) dJ0_checkIndex_df160_0 rfl rfl rfl ?_
  refine x_iload_n (i := 1) dJ0_checkIndex_df160_1 rfl rfl rfl ?_
  refine x_getQ dJ0_checkIndex_df160_2 rfl tJ0_1053 (fun w hw => ?_)
  refine x_callS0 (As := [_, _, _]) (d2 := d - 1) dJ0_checkIndex_df160_5 rfl kJ0_1059 okJ3_checkIndex_8e157 (by omega) rfl rfl (Nat.le_of_ble_eq_true rfl) (c_ck3 hw hi hn ?_)
  refine x_pop dJ0_checkIndex_df160_8 rfl rfl ?_
  refine x_return dJ0_checkIndex_df160_9 rfl ?_
  exact K
theorem c_cat5 {i : Nat} (hd : 2 ≤ d) (hB : bB h v N T) (hi : i < T.length) (K : Q (some (.int (nI (T.getD i 0)))) h) : xCt G l mJ5_charAt_5068e d [.ref 104, .int (nI i)] h 0 0 Q := by
  obtain ⟨hC, ⟨f0, f1, f3⟩, ⟨v1, v2⟩, ⟨g, g1, g2, g3⟩, ⟨n1, n2, n3⟩, t1, r1⟩ := hB
  obtain ⟨p1, p2, p3⟩ := by_id (t1 i)
  refine xCt_ofF (by decide +kernel) (Nat.le_of_ble_eq_true rfl) ?_
  refine x_aload_n (i := 0) dJ5_charAt_5068e_0 rfl rfl rfl ?_
  refine x_getM (a := 104) dJ5_charAt_5068e_1 rfl fJ5_22 hC rfl f1 ?_
  refine x_istore_n (i := 2) dJ5_charAt_5068e_4 rfl rfl (by decide) ?_
  refine x_aload_n (i := 0) dJ5_charAt_5068e_5 rfl rfl rfl ?_
  refine x_getM (a := 104) dJ5_charAt_5068e_6 rfl fJ5_15 hC rfl f0 ?_
  refine x_astore_n (i := 3) dJ5_charAt_5068e_9 rfl rfl (by decide) ?_
  refine x_aload_n (i := 0) dJ5_charAt_5068e_10 rfl rfl rfl ?_
  refine x_getM (a := 104) dJ5_charAt_5068e_11 rfl fJ5_79 hC rfl f3 ?_
  refine x_aload_n (i := 3) dJ5_charAt_5068e_14 rfl rfl rfl ?_
  refine x_alen dJ5_charAt_5068e_15 rfl g1 (by decide) rfl ?_
  refine x_iload_n (i := 2) dJ5_charAt_5068e_16 rfl rfl rfl ?_
  refine x_ishr dJ5_charAt_5068e_17 rfl ?_
  rw [shr0]
  refine x_callS0 (As := [_, _]) (d2 := d - 1) dJ5_charAt_5068e_18 rfl kJ5_138 okJ9_min_7cf53 (by omega) rfl rfl (Nat.le_of_ble_eq_true rfl) (c_minI (by omega) (by omega) ?_)
  rw [Nat.min_eq_left n3]
  refine x_istore dJ5_charAt_5068e_21 rfl (by decide) ?_
  refine x_iload_n (i := 1) dJ5_charAt_5068e_23 rfl rfl rfl ?_
  refine x_iload dJ5_charAt_5068e_24 rfl rfl ?_
  refine x_callS0 (As := [_, _]) (d2 := d - 1) dJ5_charAt_5068e_26 rfl kJ5_144 okJ0_checkIndex_df160 (by omega) rfl rfl (Nat.le_of_ble_eq_true rfl) (c_ck0 (by omega) hi (by omega) ?_)
  refine x_iload_n (i := 2) dJ5_charAt_5068e_29 rfl rfl rfl ?_
  refine x_if_ne_f (tgt := 42) dJ5_charAt_5068e_30 rfl rfl nI_0 ?_
  refine x_aload_n (i := 3) dJ5_charAt_5068e_33 rfl rfl rfl ?_
  refine x_iload_n (i := 1) dJ5_charAt_5068e_34 rfl rfl rfl ?_
  refine x_bald (N := N) (j := i) (g := g) dJ5_charAt_5068e_35 rfl g1 rfl (by omega) (by omega) ?_
  rw [g3 i hi]
  refine x_sipush dJ5_charAt_5068e_36 rfl sC_255 ?_
  refine x_iand dJ5_charAt_5068e_39 rfl ?_
  refine x_i2c dJ5_charAt_5068e_40 rfl ?_
  rw [p3]
  refine x_ireturn dJ5_charAt_5068e_41 rfl (by_ch (t1 i)) ?_
  exact K
theorem c_cat {i : Nat} (hd : 3 ≤ d) (hB : bB h v N T) (hi : i < T.length) (K : Q (some (.int (nI (T.getD i 0)))) h) : xCt G l mJ4_charAt_5068e d [.ref 104, .int (nI i)] h 0 0 Q := by
  have hC := hB.1
  have t1 := hB.2.2.2.2.2.1
  refine xCt_ofF (by decide +kernel) (Nat.le_of_ble_eq_true rfl) ?_
  refine x_aload_n (i := 0) dJ4_charAt_5068e_0 rfl rfl rfl ?_
  refine x_iload_n (i := 1) dJ4_charAt_5068e_1 rfl rfl rfl ?_
  refine x_callU0 (N := mJ5_charAt_5068e) (ci := 13) (b := 104) (As := [_]) (d2 := d - 1) dJ4_charAt_5068e_2 rfl gJ4_329 obJ5_charAt_5068e oiJ5_charAt_5068e osJ5_charAt_5068e sup_sb (by decide) (hC.o rfl) (by omega) rfl rfl (Nat.le_of_ble_eq_true rfl) (c_cat5 (by omega) hB hi ?_)
  refine x_ireturn dJ4_charAt_5068e_5 rfl (by_ch (t1 i)) ?_
  exact K
theorem c_tco (K : Q (some (.int (nI 0))) h) : xCt G l mJ0_coder_7d493 d [.ref (1000000 + 6)] h 0 0 Q := by
  refine xCt_ofF (by decide +kernel) (Nat.le_of_ble_eq_true rfl) ?_
  refine x_getZ (v := .int (nI 1)) dJ0_coder_7d493_0 rfl tJ0_38 (fun s hs => hs.2.2.2.2.2.2.1) ?_
  refine x_if_eq_f (tgt := 13) dJ0_coder_7d493_3 rfl rfl nb1 ?_
  refine x_aload_n (i := 0) dJ0_coder_7d493_6 rfl rfl rfl ?_
  refine x_getT (v := .int (nI 0)) dJ0_coder_7d493_7 rfl tJ0_15 (fun s hs => (hs.2.2.2.2.2.2.2.2.2.2.1.1 0 (by decide)).2.1) ?_
  refine x_goto (tgt := 14) dJ0_coder_7d493_10 rfl ?_
  refine x_ireturn dJ0_coder_7d493_14 rfl rfl ?_
  exact K
theorem c_tln (hd : 1 ≤ d) (K : Q (some (.int (nI 2))) h) : xCt G l mJ0_length_8abf5 d [.ref (1000000 + 6)] h 0 0 Q := by
  refine xCt_ofF (by decide +kernel) (Nat.le_of_ble_eq_true rfl) ?_
  refine x_aload_n (i := 0) dJ0_length_8abf5_0 rfl rfl rfl ?_
  refine x_getT (v := .ref (1000000 + 7)) dJ0_length_8abf5_1 rfl tJ0_9 (fun s hs => by rw [xtv_st]; exact (hs.2.2.2.2.2.2.2.2.2.2.1.1 0 (by decide)).2.2.1) ?_
  refine x_salen (N := 2) (v := nI 2) dJ0_length_8abf5_4 rfl (fun s hs => (hs.2.2.2.2.2.2.2.2.2.2.1.1 0 (by decide)).2.2.2) rfl ?_
  refine x_aload_n (i := 0) dJ0_length_8abf5_5 rfl rfl rfl ?_
  refine x_callT (N := mJ0_coder_7d493) (As := []) (d2 := d - 1) dJ0_length_8abf5_6 rfl gJ0_335 okJ0_coder_7d493 rfl (by omega) rfl rfl (Nat.le_of_ble_eq_true rfl) (c_tco ?_)
  refine x_ishr dJ0_length_8abf5_9 rfl ?_
  rw [shr0]
  refine x_ireturn dJ0_length_8abf5_10 rfl rfl ?_
  exact K
def t2B : Nat → Int32 := fun j => ([47, 50] : List Int32).getD j 0
theorem c_tgb {a p : Nat} {g : Nat → Int32} (hd : 1 ≤ d) (ha : h.1 a = (3, N, xI g)) (hp : p + 2 ≤ N) (hN : N ≤ 100000) (K : Q none (hs h a (3, N, xI (va_cpy t2B g 0 p 2)))) : xCt G l mJ0_getBytes_840e7 d [.ref (1000000 + 6), .ref a, .int (nI p), .int (nI 0)] h 0 0 Q := by
  refine xCt_ofF (by decide +kernel) (Nat.le_of_ble_eq_true rfl) ?_
  refine x_aload_n (i := 0) dJ0_getBytes_840e7_0 rfl rfl rfl ?_
  refine x_callT (N := mJ0_coder_7d493) (As := []) (d2 := d - 1) dJ0_getBytes_840e7_1 rfl gJ0_335 okJ0_coder_7d493 rfl (by omega) rfl rfl (Nat.le_of_ble_eq_true rfl) (c_tco ?_)
  refine x_iload_n (i := 3) dJ0_getBytes_840e7_4 rfl rfl rfl ?_
  refine x_ic_ne_f (tgt := 28) dJ0_getBytes_840e7_5 rfl rfl rfl ?_
  refine x_aload_n (i := 0) dJ0_getBytes_840e7_8 rfl rfl rfl ?_
  refine x_getT (v := .ref (1000000 + 7)) dJ0_getBytes_840e7_9 rfl tJ0_9 (fun s hs => by rw [xtv_st]; exact (hs.2.2.2.2.2.2.2.2.2.2.1.1 0 (by decide)).2.2.1) ?_
  refine x_iconst dJ0_getBytes_840e7_12 rfl iC_0 ?_
  refine x_aload_n (i := 1) dJ0_getBytes_840e7_13 rfl rfl rfl ?_
  refine x_iload_n (i := 2) dJ0_getBytes_840e7_14 rfl rfl rfl ?_
  refine x_iload_n (i := 3) dJ0_getBytes_840e7_15 rfl rfl rfl ?_
  refine x_ishl dJ0_getBytes_840e7_16 rfl ?_
  rw [shl0]
  refine x_aload_n (i := 0) dJ0_getBytes_840e7_17 rfl rfl rfl ?_
  refine x_getT (v := .ref (1000000 + 7)) dJ0_getBytes_840e7_18 rfl tJ0_9 (fun s hs => by rw [xtv_st]; exact (hs.2.2.2.2.2.2.2.2.2.2.1.1 0 (by decide)).2.2.1) ?_
  refine x_salen (N := 2) (v := nI 2) dJ0_getBytes_840e7_21 rfl (fun s hs => (hs.2.2.2.2.2.2.2.2.2.2.1.1 0 (by decide)).2.2.2) rfl ?_
  refine x_copyT (j := 7) (n0 := 2) (f := t2B) (sp := 0) (dp := p) (cn := 2) dJ0_getBytes_840e7_22 rfl aJ0_212 (fun s hs => (hs.2.2.2.2.2.2.2.2.2.2.1.1 0 (by decide)).2.2.2) ha rfl rfl rfl (by decide) hp (by decide) (by omega) (fun i hi => ?_) hd (Nat.le_of_ble_eq_true rfl) ?_
  · match i, hi with
    | 0, _ => decide
    | 1, _ => decide
  refine x_goto (tgt := 43) dJ0_getBytes_840e7_25 rfl ?_
  refine x_return dJ0_getBytes_840e7_43 rfl ?_
  exact K
theorem c_inf (hd : 1 ≤ d) (hC : Cs h) (f1 : (h.1 104).2.2 1 = .int (nI 0)) (K : Q none h) : xCt G l mJ5_inflateIfNeededFor_a7421 d [.ref 104, .ref (1000000 + 6)] h 0 0 Q := by
  refine xCt_ofF (by decide +kernel) (Nat.le_of_ble_eq_true rfl) ?_
  refine x_getZ (v := .int (nI 1)) dJ5_inflateIfNeededFor_a7421_0 rfl tJ5_18 (fun s hs => hs.2.2.2.2.2.2.1) ?_
  refine x_if_eq_f (tgt := 21) dJ5_inflateIfNeededFor_a7421_3 rfl rfl nb1 ?_
  refine x_aload_n (i := 0) dJ5_inflateIfNeededFor_a7421_6 rfl rfl rfl ?_
  refine x_getM (a := 104) dJ5_inflateIfNeededFor_a7421_7 rfl fJ5_22 hC rfl f1 ?_
  refine x_aload_n (i := 1) dJ5_inflateIfNeededFor_a7421_10 rfl rfl rfl ?_
  refine x_callT (N := mJ0_coder_7d493) (As := []) (d2 := d - 1) dJ5_inflateIfNeededFor_a7421_11 rfl gJ5_40 okJ0_coder_7d493 rfl (by omega) rfl rfl (Nat.le_of_ble_eq_true rfl) (c_tco ?_)
  refine x_ic_eq_t (tgt := 21) dJ5_inflateIfNeededFor_a7421_14 rfl rfl ?_
  refine x_return dJ5_inflateIfNeededFor_a7421_21 rfl ?_
  exact K
theorem c_psa {p : Nat} {g : Nat → Int32} (hd : 2 ≤ d) (hC : Cs h) (f0 : (h.1 104).2.2 0 = .ref v) (f1 : (h.1 104).2.2 1 = .int (nI 0)) (hv : h.1 v = (3, N, xI g)) (hp : p + 2 ≤ N) (hN : N ≤ 100000) (K : Q none (hs h v (3, N, xI (va_cpy t2B g 0 p 2)))) : xCt G l mJ5_putStringAt_47b60 d [.ref 104, .int (nI p), .ref (1000000 + 6)] h 0 0 Q := by
  refine xCt_ofF (by decide +kernel) (Nat.le_of_ble_eq_true rfl) ?_
  refine x_aload_n (i := 0) dJ5_putStringAt_47b60_0 rfl rfl rfl ?_
  refine x_aload_n (i := 2) dJ5_putStringAt_47b60_1 rfl rfl rfl ?_
  refine x_callP0 (N := mJ5_inflateIfNeededFor_a7421) (ci := 13) (b := 104) (As := [_]) (d2 := d - 1) dJ5_putStringAt_47b60_2 rfl gJ5_397 obJ5_inflateIfNeededFor_a7421 oiJ5_inflateIfNeededFor_a7421 opJ5_inflateIfNeededFor_a7421 sel_lat rfl (hC.o rfl) (by omega) rfl rfl (Nat.le_of_ble_eq_true rfl) (c_inf (by omega) hC f1 ?_)
  refine x_aload_n (i := 2) dJ5_putStringAt_47b60_5 rfl rfl rfl ?_
  refine x_aload_n (i := 0) dJ5_putStringAt_47b60_6 rfl rfl rfl ?_
  refine x_getM (a := 104) dJ5_putStringAt_47b60_7 rfl fJ5_15 hC rfl f0 ?_
  refine x_iload_n (i := 1) dJ5_putStringAt_47b60_10 rfl rfl rfl ?_
  refine x_aload_n (i := 0) dJ5_putStringAt_47b60_11 rfl rfl rfl ?_
  refine x_getM (a := 104) dJ5_putStringAt_47b60_12 rfl fJ5_22 hC rfl f1 ?_
  refine x_callT (N := mJ0_getBytes_840e7) (As := [_, _, _]) (d2 := d - 1) dJ5_putStringAt_47b60_15 rfl gJ5_399 okJ0_getBytes_840e7 rfl (by omega) rfl rfl (Nat.le_of_ble_eq_true rfl) (c_tgb (by omega) hv hp hN ?_)
  refine x_return dJ5_putStringAt_47b60_18 rfl ?_
  exact K
theorem c_apS5 (hd : 6 ≤ d) (hB : bB h v N T) (hl : T.length + 2 ≤ 80) (K : ∀ h2 v2, bB h2 v2 (gN N (T.length + 2)) (T ++ [47, 50]) → bF h v N h2 v2 (gN N (T.length + 2)) → Q (some (.ref 104)) h2) : xCt G l mJ5_append_cf1ce d [.ref 104, .ref (1000000 + 6)] h (gC N (T.length + 2)) (gZ N (T.length + 2)) Q := by
  have f3 := hB.2.1.2.2
  have nb := hB.2.2.2.2.1
  have gl := gN_le (N := N) (m := T.length + 2) (by omega)
  refine xCt_ofF (by decide +kernel) (Nat.le_of_ble_eq_true rfl) ?_
  have hC := hB.1
  refine x_aload_n (i := 1) dJ5_append_cf1ce_0 rfl rfl rfl ?_
  refine x_nonnull (tgt := 9) dJ5_append_cf1ce_1 rfl ?_
  refine x_aload_n (i := 1) dJ5_append_cf1ce_9 rfl rfl rfl ?_
  refine x_callT (N := mJ0_length_8abf5) (As := []) (d2 := d - 1) dJ5_append_cf1ce_10 rfl gJ5_32 okJ0_length_8abf5 rfl (by omega) rfl rfl (Nat.le_of_ble_eq_true rfl) (c_tln (by omega) ?_)
  refine x_istore_n (i := 2) dJ5_append_cf1ce_13 rfl rfl (by decide) ?_
  refine x_aload_n (i := 0) dJ5_append_cf1ce_14 rfl rfl rfl ?_
  refine x_aload_n (i := 0) dJ5_append_cf1ce_15 rfl rfl rfl ?_
  refine x_getM (a := 104) dJ5_append_cf1ce_16 rfl fJ5_79 hC rfl f3 ?_
  refine x_iload_n (i := 2) dJ5_append_cf1ce_19 rfl rfl rfl ?_
  refine x_iadd dJ5_append_cf1ce_20 rfl ?_
  rw [show nI T.length + nI 2 = nI (T.length + 2) from nI_add _ _]
  refine x_callP (N := mJ5_ensureCapacityInternal_d00df) (ci := 13) (b := 104) (As := [_]) (d2 := d - 1) (mc2 := gC N (T.length + 2)) (ms2 := gZ N (T.length + 2)) (k2 := 0) (n2 := 0) dJ5_append_cf1ce_21 rfl gJ5_100 obJ5_ensureCapacityInternal_d00df oiJ5_ensureCapacityInternal_d00df opJ5_ensureCapacityInternal_d00df sel_lat rfl (hC.o rfl) (by omega) rfl rfl (Nat.le_of_ble_eq_true rfl) (by omega) (by omega) (c_ens (by omega) hB hl (by omega) (fun h2 v2 B2 F2 => ?_))
  generalize gN N (T.length + 2) = N2 at *
  have hC := B2.1
  obtain ⟨f0, f1, f3⟩ := B2.2.1
  obtain ⟨g, g1, g2, g3⟩ := B2.2.2.2.1
  refine x_aload_n (i := 0) dJ5_append_cf1ce_24 rfl rfl rfl ?_
  refine x_aload_n (i := 0) dJ5_append_cf1ce_25 rfl rfl rfl ?_
  refine x_getM (a := 104) dJ5_append_cf1ce_26 rfl fJ5_79 hC rfl f3 ?_
  refine x_aload_n (i := 1) dJ5_append_cf1ce_29 rfl rfl rfl ?_
  refine x_callP0 (N := mJ5_putStringAt_47b60) (ci := 13) (b := 104) (As := [_, _]) (d2 := d - 1) dJ5_append_cf1ce_30 rfl gJ5_208 obJ5_putStringAt_47b60 oiJ5_putStringAt_47b60 opJ5_putStringAt_47b60 sel_lat rfl (hC.o rfl) (by omega) rfl rfl (Nat.le_of_ble_eq_true rfl) (c_psa (by omega) hC f0 f1 g1 (by omega) (by have := B2.2.2.2.2.1; omega) ?_)
  have lt : (T ++ [47, 50]).length = T.length + 2 := List.length_append
  have gu : ∀ j, j < T.length + 2 → va_cpy t2B g 0 T.length 2 j = nI ((T ++ [47, 50]).getD j 0) := by
    intro j hj
    unfold va_cpy
    by_cases e : T.length ≤ j
    · rw [if_pos (by omega)]
      have ej : j = T.length + (j - T.length) := by omega
      have e2 : (T ++ [47, 50]).getD j 0 = ([47, 50] : List Nat).getD (j - T.length) 0 := by
        conv => lhs; rw [ej]
        exact gd_at
      rw [e2, Nat.zero_add]
      rcases (show j - T.length = 0 ∨ j - T.length = 1 by omega) with z | z
      · rw [z]; decide
      · rw [z]; decide
    · rw [if_neg (by omega), gd_ap (by omega)]
      exact g3 j (by omega)
  have B3 := B2.row (f := va_cpy t2B g 0 T.length 2) (fun j hj => by
    by_cases e : T.length ≤ j ∧ j < T.length + 2
    · rw [gu j (by omega)]
      exact (by_id (t_ap B2.2.2.2.2.2.1 (M := [47, 50]) (fun j => by
        match j with
        | 0 => decide
        | 1 => decide
        | j + 2 => exact (by decide : 0 < 128)) j)).2.1
    · unfold va_cpy
      rw [if_neg e]
      exact g2 j hj) (fun j hj => by rw [gu j (by omega), gd_ap hj])
  have B4 := B3.1.cnt (T2 := T ++ [47, 50]) (by omega) (t_ap B2.2.2.2.2.2.1 (fun j => by
        match j with
        | 0 => decide
        | 1 => decide
        | j + 2 => exact (by decide : 0 < 128))) (fun g' e j hj => by
    have e2 : (3, N2, xI g') = ((3, N2, xI (va_cpy t2B g 0 T.length 2)) : xC) := e.symm.trans hs_eq
    have e3 : xI g' j = xI (va_cpy t2B g 0 T.length 2) j := congrFun (congrArg (fun q : xC => q.2.2) e2) j
    have e4 : g' j = va_cpy t2B g 0 T.length 2 j := by
      unfold xI at e3
      exact Value.int.inj e3
    rw [e4]
    exact gu j (by omega))
  rw [lt] at B4
  have hC := B3.1.1
  have f3 := B3.1.2.1.2.2
  refine x_aload_n (i := 0) dJ5_append_cf1ce_33 rfl rfl rfl ?_
  refine x_dup dJ5_append_cf1ce_34 rfl rfl ?_
  refine x_getM (a := 104) dJ5_append_cf1ce_35 rfl fJ5_79 hC rfl f3 ?_
  refine x_iload_n (i := 2) dJ5_append_cf1ce_38 rfl rfl rfl ?_
  refine x_iadd dJ5_append_cf1ce_39 rfl ?_
  rw [show nI T.length + nI 2 = nI (T.length + 2) from nI_add _ _]
  refine x_putC (a := 104) dJ5_append_cf1ce_40 rfl fJ5_79 (fun q hq => by cases hq; rfl) hC rfl ⟨rfl, rfl⟩ ?_
  refine x_aload_n (i := 0) dJ5_append_cf1ce_43 rfl rfl rfl ?_
  refine x_areturn dJ5_append_cf1ce_44 rfl (by first | exact Or.inr ⟨_, rfl⟩ | exact Or.inl ⟨_, rfl⟩) ?_
  exact K _ v2 B4.1 (F2.tr (B3.2.tr B4.2))
theorem c_apS (hd : 7 ≤ d) (hB : bB h v N T) (hl : T.length + 2 ≤ 80) (K : ∀ h2 v2, bB h2 v2 (gN N (T.length + 2)) (T ++ [47, 50]) → bF h v N h2 v2 (gN N (T.length + 2)) → Q (some (.ref 104)) h2) : xCt G l mJ4_append_15ec4 d [.ref 104, .ref (1000000 + 6)] h (gC N (T.length + 2)) (gZ N (T.length + 2)) Q := by
  refine xCt_ofF (by decide +kernel) (Nat.le_of_ble_eq_true rfl) ?_
  have hC := hB.1
  refine x_aload_n (i := 0) dJ4_append_15ec4_0 rfl rfl rfl ?_
  refine x_aload_n (i := 1) dJ4_append_15ec4_1 rfl rfl rfl ?_
  refine x_callU (N := mJ5_append_cf1ce) (ci := 13) (b := 104) (As := [_]) (d2 := d - 1) (mc2 := gC N (T.length + 2)) (ms2 := gZ N (T.length + 2)) (k2 := 0) (n2 := 0) dJ4_append_15ec4_2 rfl gJ4_29 obJ5_append_cf1ce oiJ5_append_cf1ce osJ5_append_cf1ce sup_sb (by decide) (hC.o rfl) (by omega) rfl rfl (Nat.le_of_ble_eq_true rfl) (by omega) (by omega) (c_apS5 (by omega) hB hl (fun h2 v2 B2 F2 => ?_))
  refine x_pop dJ4_append_15ec4_5 rfl rfl ?_
  refine x_aload_n (i := 0) dJ4_append_15ec4_6 rfl rfl rfl ?_
  refine x_areturn dJ4_append_15ec4_7 rfl (by first | exact Or.inr ⟨_, rfl⟩ | exact Or.inl ⟨_, rfl⟩) ?_
  exact K h2 v2 B2 F2
theorem c_absI {w : Int32} (hb : -20000 ≤ w.toInt ∧ w.toInt ≤ 20000) (K : Q (some (.int (nI w.toInt.natAbs))) h) : xCt G l mJ9_abs_0f7a4 d [.int w] h 0 0 Q := by
  obtain ⟨a1, a2, a3, a4⟩ := abs_p hb
  refine xCt_ofF (by decide +kernel) (Nat.le_of_ble_eq_true rfl) ?_
  refine x_iload_n (i := 0) dJ9_abs_0f7a4_0 rfl rfl rfl ?_
  refine x_if_ge (tgt := 9) dJ9_abs_0f7a4_1 rfl rfl (fun c1 => ?_) (fun c1 => ?_)
  · refine x_iload_n (i := 0) dJ9_abs_0f7a4_9 rfl rfl rfl ?_
    refine x_ireturn dJ9_abs_0f7a4_10 rfl rfl ?_
    rw [← a2 (Int32.not_lt.mpr c1)] at K
    exact K
  · refine x_iload_n (i := 0) dJ9_abs_0f7a4_4 rfl rfl rfl ?_
    refine x_ineg dJ9_abs_0f7a4_5 rfl ?_
    refine x_goto (tgt := 10) dJ9_abs_0f7a4_6 rfl ?_
    refine x_ireturn dJ9_abs_0f7a4_10 rfl rfl ?_
    rw [← a1 (Int32.not_le.mp c1)] at K
    exact K
end SBC

