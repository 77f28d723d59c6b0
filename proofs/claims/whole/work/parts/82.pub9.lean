/-! EightParts: place, count -/
theorem nrmN_e {f g : Nat → Int32} : ∀ {n : Nat}, n ≤ 8 → c8 f = c8 g → nrmN f n = nrmN g n
  | 0, _, _ => rfl
  | n + 1, hn, h => by rw [nrmN, nrmN, nrmN_e (n := n) (by omega) h, c8_eq.mp h n (by omega)]
theorem zPk_e {f g : Nat → Int32} : ∀ {n : Nat}, n ≤ 8 → c8 f = c8 g → zPk f n = zPk g n
  | 0, _, _ => rfl
  | n + 1, hn, h => by rw [zPk, zPk, zPk_e (n := n) (by omega) h, c8_eq.mp h n (by omega)]
theorem zFindL_e {o norm : Nat} {f g : Nat → Int32} (h : c8 f = c8 g) : zFindL o norm f = zFindL o norm g := by unfold zFindL; rw [zPk_e (Nat.le_refl _) h]
/-- the number of a listed one, -1 -/
def plN (o : Nat) (f : Nat → Int32) : Int32 := if nrmN f 8 ≤ 12 ∧ nrmN f 8 % 4 = 0 then zFindL o (nrmN f 8 / 4) f else -1
theorem plN_e {o : Nat} {f g : Nat → Int32} (h : c8 f = c8 g) : plN o f = plN o g := by unfold plN; rw [nrmN_e (Nat.le_refl _) h, zFindL_e h]
def sp_place (S : St) (a : Int32) : Int32 × St := match sE a with
  | none => (-1, S)
  | some x => (if plN S.2.1 (S.1 x) = -1 then -2 else plN S.2.1 (S.1 x), S)
noncomputable def sp_count (S : St) (n : Int32) : Int32 × St := match eB 0 4 n with
  | none => (-1, S)
  | some 0 => (nI S.2.1, S)
  | some 1 => (nI (zLst S.2.1 1).1, S)
  | some 2 => (nI (zSet (fun s => ofO S.2.1 (oddN (S.1 s))) 8), S)
  | some 3 => (nI S.2.2.2.1, S)
  | some _ => (nI (zSet (fun s => @decide (isZ (S.1 s)) (Classical.propDecidable _)) 8), S)
section PUB
variable {G : xG} {l : Launch} {d : Nat} {h : xH} {Q : Option Value → xH → Prop} {b : Bool} {S : St}
theorem q_find {x : Nat} (hd : 12 ≤ d) (hR : RC b h S) (hm : h.2 < 800000) (hx : x < 8) (K : ∀ h2, RC b h2 S → mF h h2 → Q (some (.int (plN S.2.1 (S.1 x)))) h2) : xCt G l mX4_find d [.ref 22, .ref (2 + x)] h 1 6720 Q := by
  obtain ⟨e1, hb⟩ := nrm8 (hR.sl hx).2
  have vx := hR.1.v (csV_slot hx)
  rw [plN_e (hR.c hx)] at K
  have l12 : (12 : Int64) = lN 12 := rfl
  have l4 : (4 : Int64) = lN 4 := rfl
  have ed : lN (nrmN (iv h (2 + x)) 8) / lN 4 = lN (nrmN (iv h (2 + x)) 8 / 4) := pk_lDiv (by omega) (by omega) (by omega)
  have er : lN (nrmN (iv h (2 + x)) 8) - lN (nrmN (iv h (2 + x)) 8) / lN 4 * lN 4 = lN (nrmN (iv h (2 + x)) 8 % 4) := pk_lRem (by omega) (by omega) (by omega)
  unfold plN at K
  by_cases c : nrmN (iv h (2 + x)) 8 ≤ 12 ∧ nrmN (iv h (2 + x)) 8 % 4 = 0
  · rw [if_pos c] at K
    have hn : nrmN (iv h (2 + x)) 8 / 4 < 4 := by omega
    have rl := zRoom_le _ hn
    obtain ⟨rw0, mk, r, p, v, N, cc, g, hI⟩ := hR.2.2
    refine xCt_wk (Nat.le_refl d) (Nat.le_refl 1) rl (c_lfind (norm := nrmN (iv h (2 + x)) 8 / 4) (Good := fun h2 => lsG h S.2.1 (nrmN (iv h (2 + x)) 8 / 4) rw0 mk 1 h2) (by omega) hR.1 hR.o.1 hn vx ?_ ?_ ?_ (fun Q2 K2 => c_manyX (by omega) hR.1 (by omega) hR.o.2 hR.o.1 hn hI.1 K2) (fun h2 hg => ?_) (fun h2 hg => ?_))
    · rw [e1, l12]
      intro z
      have := (pk_lLT (by omega) (by omega)).mp z
      omega
    · rw [e1, l4, er, c.2]
      rfl
    · rw [e1, l4, ed]
      have q : ∀ k, k < 4 → (lN k).toInt32 = nI k := by decide
      exact q _ hn
    · obtain ⟨k1, k2, k3⟩ := hR.lsG hI hn hg
      obtain ⟨rw1, mk1, _, _, _, _, _, _, i1, e⟩ := k1.2
      refine ⟨k1.1.1, ⟨rw1, mk1, i1.1, e⟩, ?_⟩
      rw [k3 (2 + x) (by omega) (by simp only [List.mem_cons, List.not_mem_nil, or_false, not_or]; omega)]
      exact vx
    · obtain ⟨k1, k2, k3⟩ := hR.lsG hI hn hg
      exact K h2 k1.1 k2
  · rw [if_neg c] at K
    refine xCt_wk (Nat.le_refl d) (Nat.zero_le _) (Nat.zero_le _) (c_lfindN (by omega) hR.1 vx ?_ (K h hR mF.rf))
    by_cases c1 : nrmN (iv h (2 + x)) 8 ≤ 12
    · right
      rw [e1, l4, er]
      intro z
      have z2 : lN (nrmN (iv h (2 + x)) 8 % 4) = lN 0 := z
      have := (pk_lEQ (by omega) (by omega)).mp z2
      omega
    · left
      rw [e1, l12]
      exact (pk_lLT (by omega) (by omega)).mpr (by omega)
theorem p_place {a1 : Int32} (hd : 20 ≤ d) (hR : RC b h S) (hm : h.2 < 800000) (K : ∀ r S2 h2, sp_place S a1 = (r, S2) → RC b h2 S2 → mF h h2 → Q (some (.int r)) h2) : xCt G l mX11_place d [.ref 0, .int a1] h 1 6720 Q := by
  have hC := hR.1
  refine xCt_of (by decide) (Nat.le_of_ble_eq_true rfl) ?_
  refine x_iload_n (i := 1) dX11_place_0 rfl rfl rfl ?_
  refine x_callS0 (As := [_]) (d2 := d - 1) dX11_place_1 rfl kX11_115 okX11_isEighth (by omega) rfl rfl (Nat.le_of_ble_eq_true rfl) (c_isEighth (fun z => ?_) (fun x hx ex qx => ?_))
  · refine x_if_ne_f (tgt := 9) dX11_place_4 rfl rfl nI_0 ?_
    refine x_iconst dX11_place_7 rfl iC_m1 ?_
    refine x_ireturn dX11_place_8 rfl rfl ?_
    exact K _ _ _ (by simp only [sp_place, z] <;> rfl) hR mF.rf
  subst ex
  refine x_if_ne_t (tgt := 9) dX11_place_4 rfl nb1 ?_
  refine x_aload_n (i := 0) dX11_place_9 rfl rfl rfl ?_
  refine x_getC dX11_place_10 rfl fX11_33 hC rfl F_0_3 ?_
  refine x_aload_n (i := 0) dX11_place_13 rfl rfl rfl ?_
  refine x_getC dX11_place_14 rfl fX11_11 hC rfl F_0_0 ?_
  refine x_iload_n (i := 1) dX11_place_17 rfl rfl rfl ?_
  refine x_aaldC (t := 0) dX11_place_18 rfl hC rfl (by decide) rfl (by omega) (by decide) (csF_slot hx) ?_
  refine x_callV (ci := 4) (b := 22) (As := [_]) (d2 := d - 1) (mc2 := 1) (ms2 := 6720) (k2 := 0) (n2 := 0) dX11_place_19 rfl kX11_277 okX4_find (hC.o rfl) (fun q hq => by cases hq; rfl) (by omega) rfl rfl (Nat.le_of_ble_eq_true rfl) (by omega) (by omega) (q_find (by omega) hR hm hx (fun h2 k1 k2 => ?_))
  refine x_istore_n (i := 2) dX11_place_22 rfl rfl (by decide) ?_
  refine x_iload_n (i := 2) dX11_place_23 rfl rfl rfl ?_
  refine x_iconst dX11_place_24 rfl iC_m1 ?_
  refine x_ic_ne (tgt := 33) dX11_place_25 rfl rfl (fun c25 => ?_) (fun c25 => ?_)
  · refine x_iload_n (i := 2) dX11_place_33 rfl rfl rfl ?_
    refine x_ireturn dX11_place_34 rfl rfl ?_
    exact K _ _ _ (by simp only [sp_place, qx]; rw [if_neg c25]) k1 k2
  · refine x_bipush dX11_place_28 rfl bC_m2 ?_
    refine x_goto (tgt := 34) dX11_place_30 rfl ?_
    refine x_ireturn dX11_place_34 rfl rfl ?_
    exact K _ _ _ (by simp only [sp_place, qx]; rw [if_pos c25]) k1 k2
theorem q_wholes (hd : 5 ≤ d) (hR : RC b h S) (K : Q (some (.int (nI (zSet (fun s => ofO S.2.1 (oddN (S.1 s))) 8)))) h) : xCt G l mX11_wholeSlots d [.ref 0] h 0 0 Q := by
  have hC := hR.1
  refine xCt_of (by decide) (Nat.le_of_ble_eq_true rfl) ?_
  refine x_iconst dX11_wholeSlots_0 rfl iC_0 ?_
  refine x_istore_n (i := 1) dX11_wholeSlots_1 rfl rfl (by decide) ?_
  refine x_iconst dX11_wholeSlots_2 rfl iC_0 ?_
  refine x_istore_n (i := 2) dX11_wholeSlots_3 rfl rfl (by decide) ?_
  have key := xloop (P := fun i => xWP G l mX11_wholeSlots d (zM G Q) 0 0 4 (xls [(0, .ref 0), (1, .int (nI (zSet (fun s => ofO S.2.1 (oddN (S.1 s))) i))), (2, .int (nI i))]) [] h) 8 (by
    intro i hi ih
    refine x_iload_n (i := 2) dX11_wholeSlots_4 rfl rfl rfl ?_
    refine x_bipush dX11_wholeSlots_5 rfl bC_8 ?_
    refine x_jc_ge (tgt := 38) dX11_wholeSlots_7 rfl rfl (by omega) (by omega) (fun c7 => ?_) (fun c7 => ?_)
    · obtain rfl : i = 8 := by omega
      refine x_iload_n (i := 1) dX11_wholeSlots_38 rfl rfl rfl ?_
      refine x_ireturn dX11_wholeSlots_39 rfl rfl ?_
      exact K
    · have e := oddN_e (hR.c c7)
      refine x_aload_n (i := 0) dX11_wholeSlots_10 rfl rfl rfl ?_
      refine x_getC dX11_wholeSlots_11 rfl fX11_24 hC rfl F_0_2 ?_
      refine x_aload_n (i := 0) dX11_wholeSlots_14 rfl rfl rfl ?_
      refine x_getC dX11_wholeSlots_15 rfl fX11_11 hC rfl F_0_0 ?_
      refine x_iload_n (i := 2) dX11_wholeSlots_18 rfl rfl rfl ?_
      refine x_aaldC (t := 0) dX11_wholeSlots_19 rfl hC rfl (by decide) rfl (by omega) (by decide) (csF_slot c7) ?_
      refine x_callV0 (ci := 2) (b := 14) (As := [_]) (d2 := d - 1) dX11_wholeSlots_20 rfl kX11_264 okX2_isWhole (hC.o rfl) (fun q hq => by cases hq; rfl) (by omega) rfl rfl (Nat.le_of_ble_eq_true rfl) (c_isWhole (by omega) hC hR.o.2 hR.o.1 (csV_slot c7) (fun z => ?_) (fun z => ?_))
      · refine x_if_eq_f (tgt := 32) dX11_wholeSlots_23 rfl rfl nb1 ?_
        refine x_iload_n (i := 1) dX11_wholeSlots_26 rfl rfl rfl ?_
        refine x_iconst dX11_wholeSlots_27 rfl iC_1 ?_
        refine x_iload_n (i := 2) dX11_wholeSlots_28 rfl rfl rfl ?_
        refine x_ishl dX11_wholeSlots_29 rfl ?_
        refine x_ior dX11_wholeSlots_30 rfl ?_
        rw [(or_bit8 (p := fun s => ofO S.2.1 (oddN (S.1 s))) c7).1 (by show ofO _ _ = true; rw [e]; exact z)]
        refine x_istore_n (i := 1) dX11_wholeSlots_31 rfl rfl (by decide) ?_
        refine x_iinc dX11_wholeSlots_32 rfl rfl (inc1 _) ?_
        refine x_goto (tgt := 4) dX11_wholeSlots_35 rfl ?_
        exact x_to (ih c7) ⟨rfl, rfl, rfl, trivial⟩
      · refine x_if_eq_t (tgt := 32) dX11_wholeSlots_23 rfl nI_0 ?_
        refine x_iinc dX11_wholeSlots_32 rfl rfl (inc1 _) ?_
        refine x_goto (tgt := 4) dX11_wholeSlots_35 rfl ?_
        exact x_to (ih c7) ⟨rfl, by rw [(or_bit8 (p := fun s => ofO S.2.1 (oddN (S.1 s))) c7).2 (by show ofO _ _ = false; rw [e]; exact z)]; rfl, rfl, trivial⟩) 0 (Nat.zero_le _)
  exact x_to key ⟨rfl, rfl, rfl, trivial⟩
theorem q_empty (hd : 5 ≤ d) (hR : RC b h S) (K : Q (some (.int (nI (zSet (fun s => @decide (isZ (S.1 s)) (Classical.propDecidable _)) 8)))) h) : xCt G l mX11_emptySlots d [.ref 0] h 0 0 Q := by
  have hC := hR.1
  refine xCt_of (by decide) (Nat.le_of_ble_eq_true rfl) ?_
  refine x_iconst dX11_emptySlots_0 rfl iC_0 ?_
  refine x_istore_n (i := 1) dX11_emptySlots_1 rfl rfl (by decide) ?_
  refine x_iconst dX11_emptySlots_2 rfl iC_0 ?_
  refine x_istore_n (i := 2) dX11_emptySlots_3 rfl rfl (by decide) ?_
  have key := xloop (P := fun i => xWP G l mX11_emptySlots d (zM G Q) 0 0 4 (xls [(0, .ref 0), (1, .int (nI (zSet (fun s => @decide (isZ (S.1 s)) (Classical.propDecidable _)) i))), (2, .int (nI i))]) [] h) 8 (by
    intro i hi ih
    refine x_iload_n (i := 2) dX11_emptySlots_4 rfl rfl rfl ?_
    refine x_bipush dX11_emptySlots_5 rfl bC_8 ?_
    refine x_jc_ge (tgt := 34) dX11_emptySlots_7 rfl rfl (by omega) (by omega) (fun c7 => ?_) (fun c7 => ?_)
    · obtain rfl : i = 8 := by omega
      refine x_iload_n (i := 1) dX11_emptySlots_34 rfl rfl rfl ?_
      refine x_ireturn dX11_emptySlots_35 rfl rfl ?_
      exact K
    · have e := isZ_e (hR.c c7)
      refine x_aload_n (i := 0) dX11_emptySlots_10 rfl rfl rfl ?_
      refine x_getC dX11_emptySlots_11 rfl fX11_11 hC rfl F_0_0 ?_
      refine x_iload_n (i := 2) dX11_emptySlots_14 rfl rfl rfl ?_
      refine x_aaldC (t := 0) dX11_emptySlots_15 rfl hC rfl (by decide) rfl (by omega) (by decide) (csF_slot c7) ?_
      refine x_callS0 (As := [_]) (d2 := d - 1) dX11_emptySlots_16 rfl kX11_186 okX5_isZero (by omega) rfl rfl (Nat.le_of_ble_eq_true rfl) (c_isZero (hC.v (csV_slot c7)) (fun z => ?_) (fun z => ?_))
      · refine x_if_eq_f (tgt := 28) dX11_emptySlots_19 rfl rfl nb1 ?_
        refine x_iload_n (i := 1) dX11_emptySlots_22 rfl rfl rfl ?_
        refine x_iconst dX11_emptySlots_23 rfl iC_1 ?_
        refine x_iload_n (i := 2) dX11_emptySlots_24 rfl rfl rfl ?_
        refine x_ishl dX11_emptySlots_25 rfl ?_
        refine x_ior dX11_emptySlots_26 rfl ?_
        rw [(or_bit8 (p := fun s => @decide (isZ (S.1 s)) (Classical.propDecidable _)) c7).1 (@decide_eq_true _ (Classical.propDecidable _) (e.mpr z))]
        refine x_istore_n (i := 1) dX11_emptySlots_27 rfl rfl (by decide) ?_
        refine x_iinc dX11_emptySlots_28 rfl rfl (inc1 _) ?_
        refine x_goto (tgt := 4) dX11_emptySlots_31 rfl ?_
        exact x_to (ih c7) ⟨rfl, rfl, rfl, trivial⟩
      · refine x_if_eq_t (tgt := 28) dX11_emptySlots_19 rfl nI_0 ?_
        refine x_iinc dX11_emptySlots_28 rfl rfl (inc1 _) ?_
        refine x_goto (tgt := 4) dX11_emptySlots_31 rfl ?_
        exact x_to (ih c7) ⟨rfl, by rw [(or_bit8 (p := fun s => @decide (isZ (S.1 s)) (Classical.propDecidable _)) c7).2 (@decide_eq_false _ (Classical.propDecidable _) (fun q => z (e.mp q)))]; rfl, rfl, trivial⟩) 0 (Nat.zero_le _)
  exact x_to key ⟨rfl, rfl, rfl, trivial⟩
theorem eB_out {hi : Nat} {x : Int32} (hn : hi < 2147483648) (h : x.toInt < 0 ∨ (hi : Int) < x.toInt) : eB 0 hi x = none := if_neg (by omega)
theorem p_count {n : Int32} (hd : 20 ≤ d) (hR : RC b h S) (hm : h.2 < 800000) (K : ∀ r S2 h2, sp_count S n = (r, S2) → RC b h2 S2 → mF h h2 → Q (some (.int r)) h2) : xCt G l mX11_count d [.ref 0, .int n] h 1 6720 Q := by
  have hC := hR.1
  have ho := hR.o.2
  refine xCt_of (by decide) (Nat.le_of_ble_eq_true rfl) ?_
  refine x_iload_n (i := 1) dX11_count_0 rfl rfl rfl ?_
  cases qm : eB 0 4 n with
  | none =>
    refine x_tabOut (tgt := 71) dX11_count_1 ?_ rfl ?_
    · unfold eB at qm
      split at qm
      · cases qm
      · omega
    refine x_iconst dX11_count_71 rfl iC_m1 ?_
    refine x_ireturn dX11_count_72 rfl rfl ?_
    exact K _ _ _ (by unfold sp_count; rw [qm]) hR mF.rf
  | some m =>
    obtain ⟨-, m2, em⟩ := eB_some qm (by decide)
    subst em
    have sp : sp_count S (nI m) = sp_count S (nI m) := rfl
    unfold sp_count at K
    rw [qm] at K
    rcases (show m = 0 ∨ m = 1 ∨ m = 2 ∨ m = 3 ∨ m = 4 by omega) with rfl | rfl | rfl | rfl | rfl
    · refine x_tabIn (tgt := 36) dX11_count_1 (by decide) (by decide) (off := 35) rfl rfl ?_
      refine x_aload_n (i := 0) dX11_count_36 rfl rfl rfl ?_
      refine x_getC dX11_count_37 rfl fX11_24 hC rfl F_0_2 ?_
      refine x_getM (a := 14) dX11_count_40 rfl fX11_140 hC rfl ho ?_
      refine x_ireturn dX11_count_43 rfl rfl ?_
      exact K _ _ _ rfl hR mF.rf
    · refine x_tabIn (tgt := 44) dX11_count_1 (by decide) (by decide) (off := 43) rfl rfl ?_
      have rl := zRoom_le 1 (by decide)
      refine x_aload_n (i := 0) dX11_count_44 rfl rfl rfl ?_
      refine x_getC dX11_count_45 rfl fX11_33 hC rfl F_0_3 ?_
      refine x_iconst dX11_count_48 rfl iC_1 ?_
      refine x_callV (ci := 4) (b := 22) (As := [_]) (d2 := d - 1) (mc2 := 1) (ms2 := zRoom 1) (k2 := 0) (n2 := 0) dX11_count_49 rfl kX11_276 okX4_manyOf (hC.o rfl) (fun q hq => by cases hq; rfl) (by omega) rfl rfl (Nat.le_of_ble_eq_true rfl) (by omega) (by omega) (q_many (norm := 1) (by omega) hR hm (by decide) (fun h2 k1 k2 k3 => ?_))
      refine x_ireturn dX11_count_52 rfl rfl ?_
      exact K _ _ _ rfl k1.1 k2
    · refine x_tabIn (tgt := 53) dX11_count_1 (by decide) (by decide) (off := 52) rfl rfl ?_
      refine x_aload_n (i := 0) dX11_count_53 rfl rfl rfl ?_
      refine x_callV0 (ci := 11) (b := 0) (As := []) (d2 := d - 1) dX11_count_54 rfl kX11_359 okX11_wholeSlots (hC.o rfl) (fun q hq => by cases hq; rfl) (by omega) rfl rfl (Nat.le_of_ble_eq_true rfl) (q_wholes (by omega) hR ?_)
      refine x_ireturn dX11_count_57 rfl rfl ?_
      exact K _ _ _ rfl hR mF.rf
    · refine x_tabIn (tgt := 58) dX11_count_1 (by decide) (by decide) (off := 57) rfl rfl ?_
      have hk := hR.2.1.2.2.2.2.1
      refine x_aload_n (i := 0) dX11_count_58 rfl rfl rfl ?_
      refine x_getC dX11_count_59 rfl fX11_90 hC rfl F_0_10 ?_
      refine x_getM (a := 101) dX11_count_62 rfl fX11_352 hC rfl hk ?_
      refine x_ireturn dX11_count_65 rfl rfl ?_
      exact K _ _ _ rfl hR mF.rf
    · refine x_tabIn (tgt := 66) dX11_count_1 (by decide) (by decide) (off := 65) rfl rfl ?_
      refine x_aload_n (i := 0) dX11_count_66 rfl rfl rfl ?_
      refine x_callV0 (ci := 11) (b := 0) (As := []) (d2 := d - 1) dX11_count_67 rfl kX11_362 okX11_emptySlots (hC.o rfl) (fun q hq => by cases hq; rfl) (by omega) rfl rfl (Nat.le_of_ble_eq_true rfl) (q_empty (by omega) hR ?_)
      refine x_ireturn dX11_count_70 rfl rfl ?_
      exact K _ _ _ rfl hR mF.rf
end PUB

