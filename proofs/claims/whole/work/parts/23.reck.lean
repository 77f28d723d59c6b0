/-! EightParts$Reckoner -/
section RECK
variable {G : xG} {l : Launch} {d : Nat} {h : xH} {Q : Option Value → xH → Prop}
/-- sums: what they are, wide -/
def zAdd (f g : Nat → Int32) (s : Int32) : Nat → Int64 := fun j => (f j).toInt64 + s.toInt64 * (g j).toInt64
def zNar (w : Nat → Int64) : Nat → Int32 := fun j => (w j).toInt32
def zScale (n : Int32) (f : Nat → Int32) : Nat → Int64 := fun j => n.toInt64 * (f j).toInt64
/-- what comes of a wide number: it comes, or it can't be -/
theorem c_add {t a b : Nat} {s : Int32} (hd : 1 ≤ d) (hC : Cs h) (ht : csV t) (ha : csV a) (hb : csV b)
    (Kt : zIn (zAdd (iv h a) (iv h b) s) → ∀ h2, Cs h2 → xSm [11, t] h h2 → iv h2 t = zNar (zAdd (iv h a) (iv h b) s) → Q (some (.int (nI 1))) h2)
    (Kf : ¬ zIn (zAdd (iv h a) (iv h b) s) → ∀ h2, Cs h2 → xSm [11] h h2 → Q (some (.int (nI 0))) h2) : xCt G l mX7_add d [.ref 10, .ref t, .ref a, .ref b, .int s] h 0 0 Q := by
  have ta : t ≠ 11 := csV_ne ht (q := (1, 8)) rfl (by decide)
  have aa : a ≠ 11 := csV_ne ha (q := (1, 8)) rfl (by decide)
  have ba : b ≠ 11 := csV_ne hb (q := (1, 8)) rfl (by decide)
  have t1 : t ≠ 111 := csV_ne ht (q := (0, 64)) rfl (by decide)
  have vt := hC.v ht
  have va := hC.v ha
  have vb := hC.v hb
  have v11 := hC.j (a := 11) rfl
  refine xCt_of (by decide) (Nat.le_of_ble_eq_true rfl) ?_
  refine x_iconst dX7_add_0 rfl iC_0 ?_
  refine x_istore dX7_add_1 rfl (by decide) ?_
  have key := xloop (P := fun i => xWP G l mX7_add d (zM G Q) 0 0 3 (xls [(0, .ref 10), (1, .ref t), (2, .ref a), (3, .ref b), (4, .int s), (5, .int (nI i))]) [] (hs h 11 (1, 8, xJ (xF (zAdd (iv h a) (iv h b) s) (jv h 11) i)))) 8 (by
    intro i hi ih
    have hC1 := hC.setJ (f := xF (zAdd (iv h a) (iv h b) s) (jv h 11) i) v11
    refine x_iload dX7_add_3 rfl rfl ?_
    refine x_bipush dX7_add_5 rfl bC_8 ?_
    refine x_jc_ge (tgt := 38) dX7_add_7 rfl rfl (by omega) (by omega) (fun c7 => ?_) (fun c7 => ?_)
    · obtain rfl : i = 8 := by omega
      refine x_topJ (f2 := zAdd (iv h a) (iv h b) s) (fun j hj => if_pos hj) (by decide) ?_
      have hC2 := hC.setJ (f := zAdd (iv h a) (iv h b) s) v11
      refine x_aload_n (i := 1) dX7_add_38 rfl rfl rfl ?_
      refine x_aload_n (i := 0) dX7_add_39 rfl rfl rfl ?_
      refine x_getC dX7_add_40 rfl fX7_9 hC2 rfl F_10_0 ?_
      refine x_callS0 (As := [_, _]) (d2 := d - 1) dX7_add_43 rfl kX7_22 okX5_layIfWithin (by omega) rfl rfl (Nat.le_of_ble_eq_true rfl) (c_layIfWithin (hs_ne ta vt) hs_eq (fun z => ?_) (fun z => ?_))
      · refine x_ireturn dX7_add_46 rfl rfl ?_
        exact Kt z _ (hC2.setI (hs_ne ta vt) (Or.inl rfl) t1) xSm.hs2 iv_hs
      · refine x_ireturn dX7_add_46 rfl rfl ?_
        exact Kf z _ hC2 xSm.hs1
    · refine x_aload_n (i := 0) dX7_add_10 rfl rfl rfl ?_
      refine x_getC dX7_add_11 rfl fX7_9 hC1 rfl F_10_0 ?_
      refine x_iload dX7_add_14 rfl rfl ?_
      refine x_aload_n (i := 2) dX7_add_16 rfl rfl rfl ?_
      refine x_iload dX7_add_17 rfl rfl ?_
      refine x_iald dX7_add_19 rfl (by first | assumption | exact hs_eq | exact hs_ne (by first | assumption | decide | omega) (by first | assumption | exact hs_eq | exact hs_ne (by first | assumption | decide | omega) (by first | assumption | exact hs_eq | exact hs_ne (by first | assumption | decide | omega) (by assumption)))) rfl (by omega) (by decide) ?_
      refine x_i2l dX7_add_20 rfl ?_
      refine x_iload dX7_add_21 rfl rfl ?_
      refine x_i2l dX7_add_23 rfl ?_
      refine x_aload_n (i := 3) dX7_add_24 rfl rfl rfl ?_
      refine x_iload dX7_add_25 rfl rfl ?_
      refine x_iald dX7_add_27 rfl (by first | assumption | exact hs_eq | exact hs_ne (by first | assumption | decide | omega) (by first | assumption | exact hs_eq | exact hs_ne (by first | assumption | decide | omega) (by first | assumption | exact hs_eq | exact hs_ne (by first | assumption | decide | omega) (by assumption)))) rfl (by omega) (by decide) ?_
      refine x_i2l dX7_add_28 rfl ?_
      refine x_lmul dX7_add_29 rfl ?_
      refine x_ladd dX7_add_30 rfl ?_
      refine x_lastT dX7_add_31 rfl rfl (by omega) (by decide) ?_
      rw [show vp_updL (xF (zAdd (iv h a) (iv h b) s) (jv h 11) i) i ((iv h a i).toInt64 + s.toInt64 * (iv h b i).toInt64) = xF (zAdd (iv h a) (iv h b) s) (jv h 11) (i + 1) from xF_updL (zAdd (iv h a) (iv h b) s) _ i]
      refine x_iinc dX7_add_32 rfl rfl (inc1 _) ?_
      refine x_goto (tgt := 3) dX7_add_35 rfl ?_
      exact x_to (ih c7) ⟨rfl, rfl, rfl, rfl, rfl, rfl, trivial⟩) 0 (Nat.zero_le _)
  rw [xF_0, hs_self v11] at key
  exact x_to key ⟨rfl, rfl, rfl, rfl, rfl, rfl, trivial⟩
/-- products: whole, within -/
def zHalf (w : Nat → Int64) : Nat → Int64 := fun j => w j / 2
def zCan (f g : Nat → Int32) : Prop := zEven (zM4 f g) ∧ zIn (zHalf (zM4 f g))
def zMul (f g : Nat → Int32) : Nat → Int32 := zNar (zHalf (zM4 f g))
theorem c_multiply {t a b : Nat} (hd : 1 ≤ d) (hC : Cs h) (ht : csV t) (ha : csV a) (hb : csV b)
    (Kt : zCan (iv h a) (iv h b) → ∀ h2, Cs h2 → xSm [11, t] h h2 → iv h2 t = zMul (iv h a) (iv h b) → Q (some (.int (nI 1))) h2)
    (Kf : ¬ zCan (iv h a) (iv h b) → ∀ h2, Cs h2 → xSm [11] h h2 → Q (some (.int (nI 0))) h2) : xCt G l mX7_multiply d [.ref 10, .ref t, .ref a, .ref b] h 0 0 Q := by
  have ta : t ≠ 11 := csV_ne ht (q := (1, 8)) rfl (by decide)
  have t1 : t ≠ 111 := csV_ne ht (q := (0, 64)) rfl (by decide)
  have vt := hC.v ht
  have va := hC.v ha
  have vb := hC.v hb
  have v11 := hC.j (a := 11) rfl
  refine xCt_of (by decide) (Nat.le_of_ble_eq_true rfl) ?_
  refine x_aload_n (i := 0) dX7_multiply_0 rfl rfl rfl ?_
  refine x_getC dX7_multiply_1 rfl fX7_9 hC rfl F_10_0 ?_
  refine x_aload_n (i := 2) dX7_multiply_4 rfl rfl rfl ?_
  refine x_aload_n (i := 3) dX7_multiply_5 rfl rfl rfl ?_
  refine x_callS0 (As := [_, _, _]) (d2 := d - 1) dX7_multiply_6 rfl kX7_28 okX5_multiplyBy4 (by omega) rfl rfl (Nat.le_of_ble_eq_true rfl) (c_multiplyBy4 v11 va vb ?_)
  have hC1 := hC.setJ (f := zM4 (iv h a) (iv h b)) v11
  refine x_aload_n (i := 0) dX7_multiply_9 rfl rfl rfl ?_
  refine x_getC dX7_multiply_10 rfl fX7_9 hC1 rfl F_10_0 ?_
  refine x_callS0 (As := [_]) (d2 := d - 1) dX7_multiply_13 rfl kX7_32 okX5_halve (by omega) rfl rfl (Nat.le_of_ble_eq_true rfl) (c_halve hs_eq (fun z => ?_) (fun w z => ?_))
  · rw [hs_hs]
    have hC2 := hC.setJ (f := zHalf (zM4 (iv h a) (iv h b))) v11
    refine x_if_eq (tgt := 34) dX7_multiply_16 rfl rfl (fun c16 => ?_) (fun c16 => ?_)
    · exact absurd c16 (by decide)
    · refine x_aload_n (i := 1) dX7_multiply_19 rfl rfl rfl ?_
      refine x_aload_n (i := 0) dX7_multiply_20 rfl rfl rfl ?_
      refine x_getC dX7_multiply_21 rfl fX7_9 hC2 rfl F_10_0 ?_
      refine x_callS0 (As := [_, _]) (d2 := d - 1) dX7_multiply_24 rfl kX7_22 okX5_layIfWithin (by omega) rfl rfl (Nat.le_of_ble_eq_true rfl) (c_layIfWithin (hs_ne ta vt) hs_eq (fun z2 => ?_) (fun z2 => ?_))
      · refine x_if_eq (tgt := 34) dX7_multiply_27 rfl rfl (fun c27 => ?_) (fun c27 => ?_)
        · exact absurd c27 (by decide)
        · refine x_iconst dX7_multiply_30 rfl iC_1 ?_
          refine x_goto (tgt := 35) dX7_multiply_31 rfl ?_
          refine x_ireturn dX7_multiply_35 rfl rfl ?_
          exact Kt ⟨z, z2⟩ _ (hC2.setI (hs_ne ta vt) (Or.inl rfl) t1) xSm.hs2 iv_hs
      · refine x_if_eq (tgt := 34) dX7_multiply_27 rfl rfl (fun c27 => ?_) (fun c27 => ?_)
        · refine x_iconst dX7_multiply_34 rfl iC_0 ?_
          refine x_ireturn dX7_multiply_35 rfl rfl ?_
          exact Kf (fun q => z2 q.2) _ hC2 xSm.hs1
        · exact absurd nI_0 c27
  · rw [hs_hs]
    refine x_if_eq (tgt := 34) dX7_multiply_16 rfl rfl (fun c16 => ?_) (fun c16 => ?_)
    · refine x_iconst dX7_multiply_34 rfl iC_0 ?_
      refine x_ireturn dX7_multiply_35 rfl rfl ?_
      exact Kf (fun q => z q.1) _ (hC.setJ v11) xSm.hs1
    · exact absurd nI_0 c16
end RECK

