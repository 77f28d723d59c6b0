/-! EightParts$Reckoner -/
section RECK
variable {G : xG} {l : Launch} {d : Nat} {h : xH} {Q : Option Value → xH → Prop}
/-- sums: what they are, wide -/
def zAdd (f g : Nat → Int32) (s : Int32) : Nat → Int64 := fun j => (f j).toInt64 + s.toInt64 * (g j).toInt64
def zNar (w : Nat → Int64) : Nat → Int32 := fun j => (w j).toInt32
def zScale (n : Int32) (f : Nat → Int32) : Nat → Int64 := fun j => n.toInt64 * (f j).toInt64
/-- what comes of a wide number: it comes, or it can't be -/
theorem c_add {t a b : Nat} {s : Int32} (hd : 1 ≤ d) (hC : Cs h) (ht : csV t) (ha : csV a) (hb : csV b)
    (Kt : zIn (zAdd (iv h a) (iv h b) s) → ∀ h2, Cs h2 → xSm [11, t] h h2 → iv h2 t = zNar (zAdd (iv h a) (iv h b) s) → Q (some (.int (nI 1))) h2)
    (Kf : ¬ zIn (zAdd (iv h a) (iv h b) s) → ∀ h2, Cs h2 → xSm [11] h h2 → Q (some (.int (nI 0))) h2) : xCt G l mX7_add d [.ref 10, .ref t, .ref a, .ref b, .int s] h 0 0 Q := by
  have ta : t ≠ 11 := csV_ne ht (q := (1, 8)) rfl (by decide)
  have aa : a ≠ 11 := csV_ne ha (q := (1, 8)) rfl (by decide)
  have ba : b ≠ 11 := csV_ne hb (q := (1, 8)) rfl (by decide)
  have t1 : t ≠ 111 := csV_ne ht (q := (0, 64)) rfl (by decide)
  have vt := hC.v ht
  have va := hC.v ha
  have vb := hC.v hb
  have v11 := hC.j (a := 11) rfl
  refine xCt_of (by decide) (Nat.le_of_ble_eq_true rfl) ?_
  refine x_iconst dX7_add_0 rfl iC_0 ?_
  refine x_istore dX7_add_1 rfl (by decide) ?_
  have key := xloop (P := fun i => xWP G l mX7_add d (zM G Q) 0 0 3 (xls [(0, .ref 10), (1, .ref t), (2, .ref a), (3, .ref b), (4, .int s), (5, .int (nI i))]) [] (hs h 11 (1, 8, xJ (xF (zAdd (iv h a) (iv h b) s) (jv h 11) i)))) 8 (by
    intro i hi ih
    have hC1 := hC.setJ (f := xF (zAdd (iv h a) (iv h b) s) (jv h 11) i) v11
    refine x_iload dX7_add_3 rfl rfl ?_
    refine x_bipush dX7_add_5 rfl bC_8 ?_
    refine x_jc_ge (tgt := 38) dX7_add_7 rfl rfl (by omega) (by omega) (fun c7 => ?_) (fun c7 => ?_)
    · obtain rfl : i = 8 := by omega
      refine x_topJ (f2 := zAdd (iv h a) (iv h b) s) (fun j hj => if_pos hj) (by decide) ?_
      have hC2 := hC.setJ (f := zAdd (iv h a) (iv h b) s) v11
      refine x_aload_n (i := 1) dX7_add_38 rfl rfl rfl ?_
      refine x_aload_n (i := 0) dX7_add_39 rfl rfl rfl ?_
      refine x_getC dX7_add_40 rfl fX7_9 hC2 rfl F_10_0 ?_
      refine x_callS0 (As := [_, _]) (d2 := d - 1) dX7_add_43 rfl kX7_22 okX5_layIfWithin (by omega) rfl rfl (Nat.le_of_ble_eq_true rfl) (c_layIfWithin (hs_ne ta vt) hs_eq (fun z => ?_) (fun z => ?_))
      · refine x_ireturn dX7_add_46 rfl rfl ?_
        exact Kt z _ (hC2.setI (hs_ne ta vt) (Or.inl rfl) t1) xSm.hs2 iv_hs
      · refine x_ireturn dX7_add_46 rfl rfl ?_
        exact Kf z _ hC2 xSm.hs1
    · refine x_aload_n (i := 0) dX7_add_10 rfl rfl rfl ?_
      refine x_getC dX7_add_11 rfl fX7_9 hC1 rfl F_10_0 ?_
      refine x_iload dX7_add_14 rfl rfl ?_
      refine x_aload_n (i := 2) dX7_add_16 rfl rfl rfl ?_
      refine x_iload dX7_add_17 rfl rfl ?_
      refine x_iald dX7_add_19 rfl (by first | assumption | exact hs_eq | exact hs_ne (by first | assumption | decide | omega) (by first | assumption | exact hs_eq | exact hs_ne (by first | assumption | decide | omega) (by first | assumption | exact hs_eq | exact hs_ne (by first | assumption | decide | omega) (by assumption)))) rfl (by omega) (by decide) ?_
      refine x_i2l dX7_add_20 rfl ?_
      refine x_iload dX7_add_21 rfl rfl ?_
      refine x_i2l dX7_add_23 rfl ?_
      refine x_aload_n (i := 3) dX7_add_24 rfl rfl rfl ?_
      refine x_iload dX7_add_25 rfl rfl ?_
      refine x_iald dX7_add_27 rfl (by first | assumption | exact hs_eq | exact hs_ne (by first | assumption | decide | omega) (by first | assumption | exact hs_eq | exact hs_ne (by first | assumption | decide | omega) (by first | assumption | exact hs_eq | exact hs_ne (by first | assumption | decide | omega) (by assumption)))) rfl (by omega) (by decide) ?_
      refine x_i2l dX7_add_28 rfl ?_
      refine x_lmul dX7_add_29 rfl ?_
      refine x_ladd dX7_add_30 rfl ?_
      refine x_lastT dX7_add_31 rfl rfl (by omega) (by decide) ?_
      rw [show vp_updL (xF (zAdd (iv h a) (iv h b) s) (jv h 11) i) i ((iv h a i).toInt64 + s.toInt64 * (iv h b i).toInt64) = xF (zAdd (iv h a) (iv h b) s) (jv h 11) (i + 1) from xF_updL (zAdd (iv h a) (iv h b) s) _ i]
      refine x_iinc dX7_add_32 rfl rfl (inc1 _) ?_
      refine x_goto (tgt := 3) dX7_add_35 rfl ?_
      exact x_to (ih c7) ⟨rfl, rfl, rfl, rfl, rfl, rfl, trivial⟩) 0 (Nat.zero_le _)
  rw [xF_0, hs_self v11] at key
  exact x_to key ⟨rfl, rfl, rfl, rfl, rfl, rfl, trivial⟩
/-- products: whole, within -/
def zHalf (w : Nat → Int64) : Nat → Int64 := fun j => w j / 2
def zCan (f g : Nat → Int32) : Prop := zEven (zM4 f g) ∧ zIn (zHalf (zM4 f g))
def zMul (f g : Nat → Int32) : Nat → Int32 := zNar (zHalf (zM4 f g))
theorem c_multiply {t a b : Nat} (hd : 1 ≤ d) (hC : Cs h) (ht : csV t) (ha : csV a) (hb : csV b)
    (Kt : zCan (iv h a) (iv h b) → ∀ h2, Cs h2 → xSm [11, t] h h2 → iv h2 t = zMul (iv h a) (iv h b) → Q (some (.int (nI 1))) h2)
    (Kf : ¬ zCan (iv h a) (iv h b) → ∀ h2, Cs h2 → xSm [11] h h2 → Q (some (.int (nI 0))) h2) : xCt G l mX7_multiply d [.ref 10, .ref t, .ref a, .ref b] h 0 0 Q := by
  have ta : t ≠ 11 := csV_ne ht (q := (1, 8)) rfl (by decide)
  have t1 : t ≠ 111 := csV_ne ht (q := (0, 64)) rfl (by decide)
  have vt := hC.v ht
  have va := hC.v ha
  have vb := hC.v hb
  have v11 := hC.j (a := 11) rfl
  refine xCt_of (by decide) (Nat.le_of_ble_eq_true rfl) ?_
  refine x_aload_n (i := 0) dX7_multiply_0 rfl rfl rfl ?_
  refine x_getC dX7_multiply_1 rfl fX7_9 hC rfl F_10_0 ?_
  refine x_aload_n (i := 2) dX7_multiply_4 rfl rfl rfl ?_
  refine x_aload_n (i := 3) dX7_multiply_5 rfl rfl rfl ?_
  refine x_callS0 (As := [_, _, _]) (d2 := d - 1) dX7_multiply_6 rfl kX7_28 okX5_multiplyBy4 (by omega) rfl rfl (Nat.le_of_ble_eq_true rfl) (c_multiplyBy4 v11 va vb ?_)
  have hC1 := hC.setJ (f := zM4 (iv h a) (iv h b)) v11
  refine x_aload_n (i := 0) dX7_multiply_9 rfl rfl rfl ?_
  refine x_getC dX7_multiply_10 rfl fX7_9 hC1 rfl F_10_0 ?_
  refine x_callS0 (As := [_]) (d2 := d - 1) dX7_multiply_13 rfl kX7_32 okX5_halve (by omega) rfl rfl (Nat.le_of_ble_eq_true rfl) (c_halve hs_eq (fun z => ?_) (fun w z => ?_))
  · rw [hs_hs]
    have hC2 := hC.setJ (f := zHalf (zM4 (iv h a) (iv h b))) v11
    refine x_if_eq (tgt := 34) dX7_multiply_16 rfl rfl (fun c16 => ?_) (fun c16 => ?_)
    · exact absurd c16 (by decide)
    · refine x_aload_n (i := 1) dX7_multiply_19 rfl rfl rfl ?_
      refine x_aload_n (i := 0) dX7_multiply_20 rfl rfl rfl ?_
      refine x_getC dX7_multiply_21 rfl fX7_9 hC2 rfl F_10_0 ?_
      refine x_callS0 (As := [_, _]) (d2 := d - 1) dX7_multiply_24 rfl kX7_22 okX5_layIfWithin (by omega) rfl rfl (Nat.le_of_ble_eq_true rfl) (c_layIfWithin (hs_ne ta vt) hs_eq (fun z2 => ?_) (fun z2 => ?_))
      · refine x_if_eq (tgt := 34) dX7_multiply_27 rfl rfl (fun c27 => ?_) (fun c27 => ?_)
        · exact absurd c27 (by decide)
        · refine x_iconst dX7_multiply_30 rfl iC_1 ?_
          refine x_goto (tgt := 35) dX7_multiply_31 rfl ?_
          refine x_ireturn dX7_multiply_35 rfl rfl ?_
          exact Kt ⟨z, z2⟩ _ (hC2.setI (hs_ne ta vt) (Or.inl rfl) t1) xSm.hs2 iv_hs
      · refine x_if_eq (tgt := 34) dX7_multiply_27 rfl rfl (fun c27 => ?_) (fun c27 => ?_)
        · refine x_iconst dX7_multiply_34 rfl iC_0 ?_
          refine x_ireturn dX7_multiply_35 rfl rfl ?_
          exact Kf (fun q => z2 q.2) _ hC2 xSm.hs1
        · exact absurd nI_0 c27
  · rw [hs_hs]
    refine x_if_eq (tgt := 34) dX7_multiply_16 rfl rfl (fun c16 => ?_) (fun c16 => ?_)
    · refine x_iconst dX7_multiply_34 rfl iC_0 ?_
      refine x_ireturn dX7_multiply_35 rfl rfl ?_
      exact Kf (fun q => z q.1) _ (hC.setJ v11) xSm.hs1
    · exact absurd nI_0 c16
theorem c_scale {t a : Nat} {s : Int32} (hd : 1 ≤ d) (hC : Cs h) (ht : csV t) (ha : csV a)
    (Kt : zIn (zScale s (iv h a)) → ∀ h2, Cs h2 → xSm [11, t] h h2 → iv h2 t = zNar (zScale s (iv h a)) → Q (some (.int (nI 1))) h2)
    (Kf : ¬ zIn (zScale s (iv h a)) → ∀ h2, Cs h2 → xSm [11] h h2 → Q (some (.int (nI 0))) h2) : xCt G l mX7_scale d [.ref 10, .ref t, .ref a, .int s] h 0 0 Q := by
  have ta : t ≠ 11 := csV_ne ht (q := (1, 8)) rfl (by decide)
  have aa : a ≠ 11 := csV_ne ha (q := (1, 8)) rfl (by decide)
  have t1 : t ≠ 111 := csV_ne ht (q := (0, 64)) rfl (by decide)
  have vt := hC.v ht
  have va := hC.v ha
  have v11 := hC.j (a := 11) rfl
  refine xCt_of (by decide) (Nat.le_of_ble_eq_true rfl) ?_
  refine x_iconst dX7_scale_0 rfl iC_0 ?_
  refine x_istore dX7_scale_1 rfl (by decide) ?_
  have key := xloop (P := fun i => xWP G l mX7_scale d (zM G Q) 0 0 3 (xls [(0, .ref 10), (1, .ref t), (2, .ref a), (3, .int s), (4, .int (nI i))]) [] (hs h 11 (1, 8, xJ (xF (zScale s (iv h a)) (jv h 11) i)))) 8 (by
    intro i hi ih
    have hC1 := hC.setJ (f := xF (zScale s (iv h a)) (jv h 11) i) v11
    refine x_iload dX7_scale_3 rfl rfl ?_
    refine x_bipush dX7_scale_5 rfl bC_8 ?_
    refine x_jc_ge (tgt := 31) dX7_scale_7 rfl rfl (by omega) (by omega) (fun c7 => ?_) (fun c7 => ?_)
    · obtain rfl : i = 8 := by omega
      refine x_topJ (f2 := zScale s (iv h a)) (fun j hj => if_pos hj) (by decide) ?_
      have hC2 := hC.setJ (f := zScale s (iv h a)) v11
      refine x_aload_n (i := 1) dX7_scale_31 rfl rfl rfl ?_
      refine x_aload_n (i := 0) dX7_scale_32 rfl rfl rfl ?_
      refine x_getC dX7_scale_33 rfl fX7_9 hC2 rfl F_10_0 ?_
      refine x_callS0 (As := [_, _]) (d2 := d - 1) dX7_scale_36 rfl kX7_22 okX5_layIfWithin (by omega) rfl rfl (Nat.le_of_ble_eq_true rfl) (c_layIfWithin (hs_ne ta vt) hs_eq (fun z => ?_) (fun z => ?_))
      · refine x_ireturn dX7_scale_39 rfl rfl ?_
        exact Kt z _ (hC2.setI (hs_ne ta vt) (Or.inl rfl) t1) xSm.hs2 iv_hs
      · refine x_ireturn dX7_scale_39 rfl rfl ?_
        exact Kf z _ hC2 xSm.hs1
    · refine x_aload_n (i := 0) dX7_scale_10 rfl rfl rfl ?_
      refine x_getC dX7_scale_11 rfl fX7_9 hC1 rfl F_10_0 ?_
      refine x_iload dX7_scale_14 rfl rfl ?_
      refine x_iload_n (i := 3) dX7_scale_16 rfl rfl rfl ?_
      refine x_i2l dX7_scale_17 rfl ?_
      refine x_aload_n (i := 2) dX7_scale_18 rfl rfl rfl ?_
      refine x_iload dX7_scale_19 rfl rfl ?_
      refine x_iald dX7_scale_21 rfl (by first | assumption | exact hs_eq | exact hs_ne (by first | assumption | decide | omega) (by first | assumption | exact hs_eq | exact hs_ne (by first | assumption | decide | omega) (by first | assumption | exact hs_eq | exact hs_ne (by first | assumption | decide | omega) (by assumption)))) rfl (by omega) (by decide) ?_
      refine x_i2l dX7_scale_22 rfl ?_
      refine x_lmul dX7_scale_23 rfl ?_
      refine x_lastT dX7_scale_24 rfl rfl (by omega) (by decide) ?_
      rw [show vp_updL (xF (zScale s (iv h a)) (jv h 11) i) i (s.toInt64 * (iv h a i).toInt64) = xF (zScale s (iv h a)) (jv h 11) (i + 1) from xF_updL (zScale s (iv h a)) _ i]
      refine x_iinc dX7_scale_25 rfl rfl (inc1 _) ?_
      refine x_goto (tgt := 3) dX7_scale_28 rfl ?_
      exact x_to (ih c7) ⟨rfl, rfl, rfl, rfl, rfl, trivial⟩) 0 (Nat.zero_le _)
  rw [xF_0, hs_self v11] at key
  exact x_to key ⟨rfl, rfl, rfl, rfl, rfl, trivial⟩
/-- a number, or none: it can't be -/
abbrev zO : Type := Option (Nat → Int32)
noncomputable def zIf (p : Prop) (z : Nat → Int32) : zO := @ite _ p (Classical.propDecidable p) (some z) none
theorem zIf_t {p : Prop} {z : Nat → Int32} (hp : p) : zIf p z = some z := if_pos hp
theorem zIf_f {p : Prop} {z : Nat → Int32} (hp : ¬ p) : zIf p z = none := if_neg hp
noncomputable def oMul (f g : Nat → Int32) : zO := zIf (zCan f g) (zMul f g)
noncomputable def oAdd (f g : Nat → Int32) (s : Int32) : zO := zIf (zIn (zAdd f g s)) (zNar (zAdd f g s))
noncomputable def oScale (s : Int32) (f : Nat → Int32) : zO := zIf (zIn (zScale s f)) (zNar (zScale s f))
theorem nb1 : ¬ (nI 1 = 0) := by decide
theorem c_mul {t a b : Nat} (hd : 1 ≤ d) (hC : Cs h) (ht : csV t) (ha : csV a) (hb : csV b)
    (Kt : ∀ z, oMul (iv h a) (iv h b) = some z → ∀ h2, Cs h2 → xSm [11, t] h h2 → iv h2 t = z → Q (some (.int (nI 1))) h2)
    (Kf : oMul (iv h a) (iv h b) = none → ∀ h2, Cs h2 → xSm [11] h h2 → Q (some (.int (nI 0))) h2) : xCt G l mX7_multiply d [.ref 10, .ref t, .ref a, .ref b] h 0 0 Q := c_multiply hd hC ht ha hb (fun z => Kt _ (zIf_t z)) (fun z => Kf (zIf_f z))
theorem c_sum {t a b : Nat} {s : Int32} (hd : 1 ≤ d) (hC : Cs h) (ht : csV t) (ha : csV a) (hb : csV b)
    (Kt : ∀ z, oAdd (iv h a) (iv h b) s = some z → ∀ h2, Cs h2 → xSm [11, t] h h2 → iv h2 t = z → Q (some (.int (nI 1))) h2)
    (Kf : oAdd (iv h a) (iv h b) s = none → ∀ h2, Cs h2 → xSm [11] h h2 → Q (some (.int (nI 0))) h2) : xCt G l mX7_add d [.ref 10, .ref t, .ref a, .ref b, .int s] h 0 0 Q := c_add hd hC ht ha hb (fun z => Kt _ (zIf_t z)) (fun z => Kf (zIf_f z))
theorem c_scl {t a : Nat} {s : Int32} (hd : 1 ≤ d) (hC : Cs h) (ht : csV t) (ha : csV a)
    (Kt : ∀ z, oScale s (iv h a) = some z → ∀ h2, Cs h2 → xSm [11, t] h h2 → iv h2 t = z → Q (some (.int (nI 1))) h2)
    (Kf : oScale s (iv h a) = none → ∀ h2, Cs h2 → xSm [11] h h2 → Q (some (.int (nI 0))) h2) : xCt G l mX7_scale d [.ref 10, .ref t, .ref a, .int s] h 0 0 Q := c_scale hd hC ht ha (fun z => Kt _ (zIf_t z)) (fun z => Kf (zIf_f z))
/-- a turn of f by u -/
noncomputable def oTurn (f u : Nat → Int32) (how : Nat) : zO := match how with
  | 0 => oMul u f
  | 1 => oMul f u
  | 2 => (oMul u f).bind (fun m => oMul m u)
  | _ => (oMul u f).bind (fun m => oMul m (zMir u))
theorem c_turnBy {t a b how : Nat} (hd : 2 ≤ d) (hC : Cs h) (ht : csV t) (ha : csV a) (hb : csV b) (hh : how < 4) (hbn : b ≠ 12 ∧ b ≠ 13) (han : a ≠ 13)
    (Kt : ∀ z, oTurn (iv h a) (iv h b) how = some z → ∀ h2, Cs h2 → xSm [11, 12, 13, t] h h2 → iv h2 t = z → Q (some (.int (nI 1))) h2)
    (Kf : oTurn (iv h a) (iv h b) how = none → ∀ h2, Cs h2 → xSm [11, 12, 13] h h2 → Q (some (.int (nI 0))) h2) : xCt G l mX7_turnBy d [.ref 10, .ref t, .ref a, .ref b, .int (nI how)] h 0 0 Q := by
  have b11 : b ≠ 11 := csV_ne hb (q := (1, 8)) rfl (by decide)
  have a11 : a ≠ 11 := csV_ne ha (q := (1, 8)) rfl (by decide)
  have bS : b ∉ [11, 12] := by simp; omega
  refine xCt_of (by decide) (Nat.le_of_ble_eq_true rfl) ?_
  refine x_iload dX7_turnBy_0 rfl rfl ?_
  have ei : (nI how).toInt = how := nI_toInt (by omega)
  rcases (show how = 0 ∨ how = 1 ∨ how = 2 ∨ how = 3 by omega) with rfl | rfl | rfl | rfl
  · refine x_tabIn (tgt := 28) dX7_turnBy_2 (by decide) (by decide) (off := 26) rfl rfl ?_
    refine x_aload_n (i := 0) dX7_turnBy_28 rfl rfl rfl ?_
    refine x_aload_n (i := 1) dX7_turnBy_29 rfl rfl rfl ?_
    refine x_aload_n (i := 3) dX7_turnBy_30 rfl rfl rfl ?_
    refine x_aload_n (i := 2) dX7_turnBy_31 rfl rfl rfl ?_
    refine x_callV0 (ci := 7) (b := 10) (As := [_, _, _]) (d2 := d - 1) dX7_turnBy_32 rfl kX7_36 okX7_multiply (hC.o rfl) (fun q hq => by cases hq; rfl) (by omega) rfl rfl (Nat.le_of_ble_eq_true rfl) (c_mul (by omega) hC ht hb ha (fun z hz h2 hC2 hS hv => ?_) (fun hz h2 hC2 hS => ?_))
    · refine x_ireturn dX7_turnBy_35 rfl rfl ?_
      exact Kt z hz h2 hC2 (hS.sub (by simp)) hv
    · refine x_ireturn dX7_turnBy_35 rfl rfl ?_
      exact Kf hz h2 hC2 (hS.sub (by simp))
  · refine x_tabIn (tgt := 36) dX7_turnBy_2 (by decide) (by decide) (off := 34) rfl rfl ?_
    refine x_aload_n (i := 0) dX7_turnBy_36 rfl rfl rfl ?_
    refine x_aload_n (i := 1) dX7_turnBy_37 rfl rfl rfl ?_
    refine x_aload_n (i := 2) dX7_turnBy_38 rfl rfl rfl ?_
    refine x_aload_n (i := 3) dX7_turnBy_39 rfl rfl rfl ?_
    refine x_callV0 (ci := 7) (b := 10) (As := [_, _, _]) (d2 := d - 1) dX7_turnBy_40 rfl kX7_36 okX7_multiply (hC.o rfl) (fun q hq => by cases hq; rfl) (by omega) rfl rfl (Nat.le_of_ble_eq_true rfl) (c_mul (by omega) hC ht ha hb (fun z hz h2 hC2 hS hv => ?_) (fun hz h2 hC2 hS => ?_))
    · refine x_ireturn dX7_turnBy_43 rfl rfl ?_
      exact Kt z hz h2 hC2 (hS.sub (by simp)) hv
    · refine x_ireturn dX7_turnBy_43 rfl rfl ?_
      exact Kf hz h2 hC2 (hS.sub (by simp))
  · refine x_tabIn (tgt := 44) dX7_turnBy_2 (by decide) (by decide) (off := 42) rfl rfl ?_
    refine x_aload_n (i := 0) dX7_turnBy_44 rfl rfl rfl ?_
    refine x_aload_n (i := 0) dX7_turnBy_45 rfl rfl rfl ?_
    refine x_getC dX7_turnBy_46 rfl fX7_15 hC rfl F_10_1 ?_
    refine x_aload_n (i := 3) dX7_turnBy_49 rfl rfl rfl ?_
    refine x_aload_n (i := 2) dX7_turnBy_50 rfl rfl rfl ?_
    refine x_callV0 (ci := 7) (b := 10) (As := [_, _, _]) (d2 := d - 1) dX7_turnBy_51 rfl kX7_36 okX7_multiply (hC.o rfl) (fun q hq => by cases hq; rfl) (by omega) rfl rfl (Nat.le_of_ble_eq_true rfl) (c_mul (by omega) hC (t := 12) rfl hb ha (fun z hz h2 hC2 hS hv => ?_) (fun hz h2 hC2 hS => ?_))
    · refine x_if_eq_f (tgt := 74) dX7_turnBy_54 rfl rfl nb1 ?_
      refine x_aload_n (i := 0) dX7_turnBy_57 rfl rfl rfl ?_
      refine x_aload_n (i := 1) dX7_turnBy_58 rfl rfl rfl ?_
      refine x_aload_n (i := 0) dX7_turnBy_59 rfl rfl rfl ?_
      refine x_getC dX7_turnBy_60 rfl fX7_15 hC2 rfl F_10_1 ?_
      refine x_aload_n (i := 3) dX7_turnBy_63 rfl rfl rfl ?_
      have hC := hC2
      have eb : iv h2 b = iv h b := hS.iv bS
      refine x_callV0 (ci := 7) (b := 10) (As := [_, _, _]) (d2 := d - 1) dX7_turnBy_64 rfl kX7_36 okX7_multiply (hC.o rfl) (fun q hq => by cases hq; rfl) (by omega) rfl rfl (Nat.le_of_ble_eq_true rfl) (c_mul (by omega) hC ht (a := 12) rfl hb (fun z3 hz3 h3 hC3 hS3 hv3 => ?_) (fun hz3 h3 hC3 hS3 => ?_))
      · rw [hv, eb] at hz3
        refine x_if_eq_f (tgt := 74) dX7_turnBy_67 rfl rfl nb1 ?_
        refine x_iconst dX7_turnBy_70 rfl iC_1 ?_
        refine x_goto (tgt := 75) dX7_turnBy_71 rfl ?_
        refine x_ireturn dX7_turnBy_75 rfl rfl ?_
        exact Kt z3 (by show (oMul _ _).bind _ = _; rw [hz]; exact hz3) h3 hC3 ((hS.tr hS3).sub (by simp)) hv3
      · rw [hv, eb] at hz3
        refine x_if_eq_t (tgt := 74) dX7_turnBy_67 rfl nI_0 ?_
        refine x_iconst dX7_turnBy_74 rfl iC_0 ?_
        refine x_ireturn dX7_turnBy_75 rfl rfl ?_
        exact Kf (by show (oMul _ _).bind _ = _; rw [hz]; exact hz3) h3 hC3 ((hS.tr hS3).sub (by simp))
    · refine x_if_eq_t (tgt := 74) dX7_turnBy_54 rfl nI_0 ?_
      refine x_iconst dX7_turnBy_74 rfl iC_0 ?_
      refine x_ireturn dX7_turnBy_75 rfl rfl ?_
      exact Kf (by show (oMul _ _).bind _ = _; rw [hz]; rfl) h2 hC2 (hS.sub (by simp))
  · refine x_tabOut (tgt := 76) dX7_turnBy_2 (Or.inr (by decide)) rfl ?_
    have v13 := hC.v (a := 13) rfl
    have vb := hC.v hb
    refine x_aload_n (i := 0) dX7_turnBy_76 rfl rfl rfl ?_
    refine x_getC dX7_turnBy_77 rfl fX7_19 hC rfl F_10_2 ?_
    refine x_aload_n (i := 3) dX7_turnBy_80 rfl rfl rfl ?_
    refine x_callS0 (As := [_, _]) (d2 := d - 1) dX7_turnBy_81 rfl kX7_40 okX5_layMirrored (by omega) rfl rfl (Nat.le_of_ble_eq_true rfl) (c_layMirrored v13 vb ?_)
    have hC1 := hC.setI (f := zMir (iv h b)) v13 (Or.inl rfl) (by decide)
    have e1 : iv (hs h 13 (0, 8, xI (zMir (iv h b)))) b = iv h b := iv_n hbn.2
    have e2 : iv (hs h 13 (0, 8, xI (zMir (iv h b)))) a = iv h a := iv_n han
    have e3 : iv (hs h 13 (0, 8, xI (zMir (iv h b)))) 13 = zMir (iv h b) := iv_hs
    have hS1 : xSm [13] h (hs h 13 (0, 8, xI (zMir (iv h b)))) := xSm.hs1
    generalize hs h 13 (0, 8, xI (zMir (iv h b))) = h1 at hC1 e1 e2 e3 hS1 ⊢
    have hC := hC1
    refine x_aload_n (i := 0) dX7_turnBy_84 rfl rfl rfl ?_
    refine x_aload_n (i := 0) dX7_turnBy_85 rfl rfl rfl ?_
    refine x_getC dX7_turnBy_86 rfl fX7_15 hC rfl F_10_1 ?_
    refine x_aload_n (i := 3) dX7_turnBy_89 rfl rfl rfl ?_
    refine x_aload_n (i := 2) dX7_turnBy_90 rfl rfl rfl ?_
    refine x_callV0 (ci := 7) (b := 10) (As := [_, _, _]) (d2 := d - 1) dX7_turnBy_91 rfl kX7_36 okX7_multiply (hC.o rfl) (fun q hq => by cases hq; rfl) (by omega) rfl rfl (Nat.le_of_ble_eq_true rfl) (c_mul (by omega) hC (t := 12) rfl hb ha (fun z hz h2 hC2 hS hv => ?_) (fun hz h2 hC2 hS => ?_))
    · rw [e1, e2] at hz
      refine x_if_eq_f (tgt := 117) dX7_turnBy_94 rfl rfl nb1 ?_
      refine x_aload_n (i := 0) dX7_turnBy_97 rfl rfl rfl ?_
      refine x_aload_n (i := 1) dX7_turnBy_98 rfl rfl rfl ?_
      refine x_aload_n (i := 0) dX7_turnBy_99 rfl rfl rfl ?_
      refine x_getC dX7_turnBy_100 rfl fX7_15 hC2 rfl F_10_1 ?_
      refine x_aload_n (i := 0) dX7_turnBy_103 rfl rfl rfl ?_
      refine x_getC dX7_turnBy_104 rfl fX7_19 hC2 rfl F_10_2 ?_
      have hC := hC2
      have e4 : iv h2 13 = zMir (iv h b) := (hS.iv (by decide)).trans e3
      refine x_callV0 (ci := 7) (b := 10) (As := [_, _, _]) (d2 := d - 1) dX7_turnBy_107 rfl kX7_36 okX7_multiply (hC.o rfl) (fun q hq => by cases hq; rfl) (by omega) rfl rfl (Nat.le_of_ble_eq_true rfl) (c_mul (by omega) hC ht (a := 12) rfl (b := 13) rfl (fun z3 hz3 h3 hC3 hS3 hv3 => ?_) (fun hz3 h3 hC3 hS3 => ?_))
      · rw [hv, e4] at hz3
        refine x_if_eq_f (tgt := 117) dX7_turnBy_110 rfl rfl nb1 ?_
        refine x_iconst dX7_turnBy_113 rfl iC_1 ?_
        refine x_goto (tgt := 118) dX7_turnBy_114 rfl ?_
        refine x_ireturn dX7_turnBy_118 rfl rfl ?_
        exact Kt z3 (by show (oMul _ _).bind _ = _; rw [hz]; exact hz3) h3 hC3 (((hS1.tr hS).tr hS3).sub (by simp)) hv3
      · rw [hv, e4] at hz3
        refine x_if_eq_t (tgt := 117) dX7_turnBy_110 rfl nI_0 ?_
        refine x_iconst dX7_turnBy_117 rfl iC_0 ?_
        refine x_ireturn dX7_turnBy_118 rfl rfl ?_
        exact Kf (by show (oMul _ _).bind _ = _; rw [hz]; exact hz3) h3 hC3 (((hS1.tr hS).tr hS3).sub (by simp))
    · rw [e1, e2] at hz
      refine x_if_eq_t (tgt := 117) dX7_turnBy_94 rfl nI_0 ?_
      refine x_iconst dX7_turnBy_117 rfl iC_0 ?_
      refine x_ireturn dX7_turnBy_118 rfl rfl ?_
      exact Kf (by show (oMul _ _).bind _ = _; rw [hz]; rfl) h2 hC2 ((hS1.tr hS).sub (by simp))
end RECK

