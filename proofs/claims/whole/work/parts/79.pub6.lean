/-! EightParts: all of a norm, one by one -/
noncomputable def zKth (p : Nat → Prop) (k : Int32) : Nat → Nat → Int32
  | 0, _ => -2
  | f + 1, n => @ite _ (p n) (Classical.propDecidable _) (if nI (cN p n) = k then nI n else zKth p k f (n + 1)) (zKth p k f (n + 1))
noncomputable def sp_divisors (S : St) (a n : Int32) (right : Nat) : Int32 × St := match sE a with
  | none => (-1, S)
  | some x => match eB 1 3 n with
    | none => (-1, S)
    | some norm => (nI (cN (fun k => zDv S.2.1 (zEl S.2.1 norm k) norm (S.1 x) right) (zLst S.2.1 norm).1), S)
noncomputable def sp_divisor (S : St) (a n : Int32) (right : Nat) (k : Int32) : Int32 × St := match sE a with
  | none => (-1, S)
  | some x => match eB 1 3 n with
    | none => (-1, S)
    | some norm => if (0 : Int32) ≤ k then (zKth (fun k => zDv S.2.1 (zEl S.2.1 norm k) norm (S.1 x) right) k (zLst S.2.1 norm).1 0, S) else (-1, S)
noncomputable def sp_angles (S : St) (a n v : Int32) : Int32 × St := match sE a with
  | none => (-1, S)
  | some x => match eB 0 3 n with
    | none => (-1, S)
    | some norm => (nI (cN (fun k => zCap (zInn (zEl S.2.1 norm k) (S.1 x) 8) = v) (zLst S.2.1 norm).1), S)
noncomputable def sp_alikeMany (S : St) (a n m : Int32) : Int32 × St := match sE a with
  | none => (-1, S)
  | some x => match eB 0 3 n with
    | none => (-1, S)
    | some norm => match eB 1 1000 m with
      | none => (-1, S)
      | some q => (nI (cN (fun k => zWB S.2.1 (zDif (S.1 x) (zEl S.2.1 norm k)) (nI q).toInt64) (zLst S.2.1 norm).1), S)
def zCom (x y : Nat → Int32) : Prop := ∃ f g, oMul x y = some f ∧ oMul y x = some g ∧ zSame f g
def zAss (x y z : Nat → Int32) : Prop := ∃ f f2 g g2, oMul x y = some f ∧ oMul f z = some f2 ∧ oMul y z = some g ∧ oMul x g = some g2 ∧ zSame f2 g2
noncomputable def sp_commuting (S : St) (a n : Int32) : Int32 × St := match sE a with
  | none => (-1, S)
  | some x => match eB 0 3 n with
    | none => (-1, S)
    | some norm => (nI (cN (fun k => zCom (S.1 x) (zEl S.2.1 norm k)) (zLst S.2.1 norm).1), S)
noncomputable def sp_sides (S : St) (a b : Int32) (right : Nat) : Int32 × St := match sE a with
  | none => (-1, S)
  | some x => match sE b with
    | none => (-1, S)
    | some y => (nI (cN (fun k => ∃ f, oTurn (S.1 x) (zEl S.2.1 1 k) right = some f ∧ zSame f (S.1 y)) (zLst S.2.1 1).1), S)
noncomputable def sp_nucleus (S : St) (a b : Int32) : Int32 × St := match sE a with
  | none => (-1, S)
  | some x => match sE b with
    | none => (-1, S)
    | some y => (nI (cN (fun k => zAss (zEl S.2.1 1 k) (S.1 x) (S.1 y)) (zLst S.2.1 1).1), S)
theorem zDv_e {o m right : Nat} {y x x2 : Nat → Int32} (h : c8 x = c8 x2) : zDv o y m x right ↔ zDv o y m x2 right := by
  unfold zDv
  rw [zM4_e rfl h, zM4_e (g := zMir y) h rfl]
theorem zCom_e {x x2 y : Nat → Int32} (h : c8 x = c8 x2) : zCom x y ↔ zCom x2 y := by unfold zCom; rw [oMul_e h rfl, oMul_e (f := y) rfl h]
theorem zAss_e {x y y2 z z2 : Nat → Int32} (h : c8 y = c8 y2) (h2 : c8 z = c8 z2) : zAss x y z ↔ zAss x y2 z2 := by
  have e : ∀ f, oMul f z = oMul f z2 := fun f => oMul_e rfl h2
  unfold zAss
  simp only [oMul_e (f := x) rfl h, oMul_e h h2, e]
section PUB
variable {G : xG} {l : Launch} {d : Nat} {h : xH} {Q : Option Value → xH → Prop} {b : Bool} {S : St}
theorem q_divAt {norm x j right : Nat} (hd : 8 ≤ d) (hR : RCn b norm h S) (hnm : 1 ≤ norm ∧ norm ≤ 3) (hx : x < 8) (hr : right < 2) (hj : j < (zLst S.2.1 norm).1)
    (Kt : zDv S.2.1 (zEl S.2.1 norm j) norm (S.1 x) right → ∀ h2, RCn b norm h2 S → xSq scP h h2 → Q (some (.int (nI 1))) h2) (Kf : ¬ zDv S.2.1 (zEl S.2.1 norm j) norm (S.1 x) right → ∀ h2, RCn b norm h2 S → xSq scP h h2 → Q (some (.int (nI 0))) h2) : xCt G l mX11_isDivisorAt d [.ref 0, .int (nI x), .int (nI norm), .int (nI right), .int (nI j)] h 0 0 Q := by
  have hC := hR.1.1
  refine xCt_of (by decide) (Nat.le_of_ble_eq_true rfl) ?_
  refine x_aload_n (i := 0) dX11_isDivisorAt_0 rfl rfl rfl ?_
  refine x_getC dX11_isDivisorAt_1 rfl fX11_33 hC rfl F_0_3 ?_
  refine x_aload_n (i := 0) dX11_isDivisorAt_4 rfl rfl rfl ?_
  refine x_getC dX11_isDivisorAt_5 rfl fX11_101 hC rfl F_0_12 ?_
  refine x_iload_n (i := 2) dX11_isDivisorAt_8 rfl rfl rfl ?_
  refine x_iload dX11_isDivisorAt_9 rfl rfl ?_
  refine x_callV0 (ci := 4) (b := 22) (As := [_, _, _]) (d2 := d - 1) dX11_isDivisorAt_11 rfl kX11_128 okX4_take (hC.o rfl) (fun q hq => by cases hq; rfl) (by omega) rfl rfl (Nat.le_of_ble_eq_true rfl) (q_takeC (by omega) hR (by omega) (a := 106) rfl hj ?_)
  have hC2 := hC.setI (f := zEl S.2.1 norm j) (hC.v (a := 106) rfl) (Or.inl rfl) (by decide)
  have q1 : xSq scP h (hs h 106 (0, 8, xI (zEl S.2.1 norm j))) := xSm.hs1.sc (by intro q hq; simp only [List.mem_cons, List.not_mem_nil, or_false] at hq; unfold scP; omega)
  have hR2 := hR.sc hC2 q1
  have e1 : iv (hs h 106 (0, 8, xI (zEl S.2.1 norm j))) 106 = zEl S.2.1 norm j := iv_hs
  have e2 := zDv_e (o := S.2.1) (m := norm) (right := right) (y := zEl S.2.1 norm j) (hR2.1.c hx)
  have hC := hC2
  refine x_if_eq_f (tgt := 43) dX11_isDivisorAt_14 rfl rfl nb1 ?_
  refine x_aload_n (i := 0) dX11_isDivisorAt_17 rfl rfl rfl ?_
  refine x_getC dX11_isDivisorAt_18 rfl fX11_51 hC rfl F_0_5 ?_
  refine x_aload_n (i := 0) dX11_isDivisorAt_21 rfl rfl rfl ?_
  refine x_getC dX11_isDivisorAt_22 rfl fX11_101 hC rfl F_0_12 ?_
  refine x_iload_n (i := 2) dX11_isDivisorAt_25 rfl rfl rfl ?_
  refine x_aload_n (i := 0) dX11_isDivisorAt_26 rfl rfl rfl ?_
  refine x_getC dX11_isDivisorAt_27 rfl fX11_11 hC rfl F_0_0 ?_
  refine x_iload_n (i := 1) dX11_isDivisorAt_30 rfl rfl rfl ?_
  refine x_aaldC (t := 0) dX11_isDivisorAt_31 rfl hC rfl (by decide) rfl (by omega) (by decide) (csF_slot hx) ?_
  refine x_iload_n (i := 3) dX11_isDivisorAt_32 rfl rfl rfl ?_
  refine x_callV0 (ci := 0) (b := 37) (As := [_, _, _, _]) (d2 := d - 1) dX11_isDivisorAt_33 rfl kX11_389 okX0_divides (hC.o rfl) (fun q hq => by cases hq; rfl) (by omega) rfl rfl (Nat.le_of_ble_eq_true rfl) (c_divides (by omega) hC hR2.1.o.2 hR2.1.o.1 (y := 106) rfl (csV_slot hx) (by omega) hnm hr (fun z h2 hC2 hS => ?_) (fun z h2 hC2 hS => ?_))
  · rw [e1] at z
    refine x_if_eq_f (tgt := 43) dX11_isDivisorAt_36 rfl rfl nb1 ?_
    refine x_iconst dX11_isDivisorAt_39 rfl iC_1 ?_
    refine x_goto (tgt := 44) dX11_isDivisorAt_40 rfl ?_
    refine x_ireturn dX11_isDivisorAt_44 rfl rfl ?_
    have sq := hS.sc (by intro q hq; simp only [List.mem_cons, List.not_mem_nil, or_false] at hq; unfold scP; omega)
    exact Kt (e2.mpr z) h2 (hR2.sc hC2 sq) (q1.tr sq)
  · rw [e1] at z
    refine x_if_eq_t (tgt := 43) dX11_isDivisorAt_36 rfl nI_0 ?_
    refine x_iconst dX11_isDivisorAt_43 rfl iC_0 ?_
    refine x_ireturn dX11_isDivisorAt_44 rfl rfl ?_
    have sq := hS.sc (by intro q hq; simp only [List.mem_cons, List.not_mem_nil, or_false] at hq; unfold scP; omega)
    exact Kf (fun q => z (e2.mp q)) h2 (hR2.sc hC2 sq) (q1.tr sq)
theorem mF.trq {h h1 h2 : xH} (a : mF h h1) (s : xSq scP h1 h2) : mF h h2 := by
  have := mF.sq s (fun a => scP_lt)
  exact ⟨fun x x1 x2 => (this.1 x x1 x2).trans (a.1 x x1 x2), by rw [s.1]; exact a.2.1, by rw [s.1]; exact a.2.2⟩
theorem p_divisors {a1 n : Int32} {right : Nat} (hd : 20 ≤ d) (hR : RC b h S) (hm : h.2 < 800000) (hr : right < 2) (K : ∀ r S2 h2, sp_divisors S a1 n right = (r, S2) → RC b h2 S2 → mF h h2 → Q (some (.int r)) h2) : xCt G l mX11_divisors d [.ref 0, .int a1, .int n, .int (nI right)] h 1 6720 Q := by
  have hC := hR.1
  refine xCt_of (by decide) (Nat.le_of_ble_eq_true rfl) ?_
  refine x_iload_n (i := 1) dX11_divisors_0 rfl rfl rfl ?_
  refine x_callS0 (As := [_]) (d2 := d - 1) dX11_divisors_1 rfl kX11_115 okX11_isEighth (by omega) rfl rfl (Nat.le_of_ble_eq_true rfl) (c_isEighth (fun z => ?_) (fun x hx ex qx => ?_))
  · refine x_if_eq_t (tgt := 17) dX11_divisors_4 rfl nI_0 ?_
    refine x_iconst dX11_divisors_17 rfl iC_m1 ?_
    refine x_ireturn dX11_divisors_18 rfl rfl ?_
    exact K _ _ _ (by simp only [sp_divisors, z] <;> rfl) hR mF.rf
  subst ex
  refine x_if_eq_f (tgt := 17) dX11_divisors_4 rfl rfl nb1 ?_
  refine x_iload_n (i := 2) dX11_divisors_7 rfl rfl rfl ?_
  refine x_iconst dX11_divisors_8 rfl iC_1 ?_
  refine x_ic_lt (tgt := 17) dX11_divisors_9 rfl rfl (fun c9 => ?_) (fun c9 => ?_)
  · refine x_iconst dX11_divisors_17 rfl iC_m1 ?_
    refine x_ireturn dX11_divisors_18 rfl rfl ?_
    exact K _ _ _ (by simp only [sp_divisors, qx, eB_lo (lo := 1) (hi := 3) (by decide) c9]) hR mF.rf
  refine x_iload_n (i := 2) dX11_divisors_12 rfl rfl rfl ?_
  refine x_iconst dX11_divisors_13 rfl iC_3 ?_
  refine x_ic_le (tgt := 19) dX11_divisors_14 rfl rfl (fun c14 => ?_) (fun c14 => ?_)
  rotate_left
  · refine x_iconst dX11_divisors_17 rfl iC_m1 ?_
    refine x_ireturn dX11_divisors_18 rfl rfl ?_
    exact K _ _ _ (by simp only [sp_divisors, qx, eB_hi (lo := 1) (hi := 3) (by decide) (Int32.not_le.mp c14)]) hR mF.rf
  obtain ⟨m, m1, m2, em, qm⟩ := eB_in (lo := 1) (hi := 3) (by decide) (by decide) c9 (Int32.not_lt.mpr c14)
  subst em
  have en : sp_divisors S (nI x) (nI m) right = (nI (cN (fun k => zDv S.2.1 (zEl S.2.1 m k) m (S.1 x) right) (zLst S.2.1 m).1), S) := by simp only [sp_divisors, qx, qm]
  have rl := zRoom_le m (by omega)
  have sm := zLst_sm (o := S.2.1) (norm := m) (by omega)
  refine x_aload_n (i := 0) dX11_divisors_19 rfl rfl rfl ?_
  refine x_getC dX11_divisors_20 rfl fX11_33 hC rfl F_0_3 ?_
  refine x_iload_n (i := 2) dX11_divisors_23 rfl rfl rfl ?_
  refine x_callV (ci := 4) (b := 22) (As := [_]) (d2 := d - 1) (mc2 := 1) (ms2 := zRoom m) (k2 := 0) (n2 := 0) dX11_divisors_24 rfl kX11_276 okX4_manyOf (hC.o rfl) (fun q hq => by cases hq; rfl) (by omega) rfl rfl (Nat.le_of_ble_eq_true rfl) (by omega) (by omega) (q_many (by omega) hR hm (by omega) (fun h1 k1 k2 k3 => ?_))
  refine x_istore dX11_divisors_27 rfl (by decide) ?_
  refine x_iconst dX11_divisors_29 rfl iC_0 ?_
  refine x_istore dX11_divisors_30 rfl (by decide) ?_
  refine x_iconst dX11_divisors_32 rfl iC_0 ?_
  refine x_istore dX11_divisors_33 rfl (by decide) ?_
  have key := xloop (P := fun i => ∀ h2, RCn b m h2 S → xSq scP h1 h2 → xWP G l mX11_divisors d (zM G Q) 0 0 35 (xls [(0, .ref 0), (1, .int (nI x)), (2, .int (nI m)), (3, .int (nI right)), (4, .int (nI (zLst S.2.1 m).1)), (5, .int (nI (cN (fun k => zDv S.2.1 (zEl S.2.1 m k) m (S.1 x) right) i))), (6, .int (nI i))]) [] h2) (zLst S.2.1 m).1 (by
    intro i hi ih h2 r2 q2
    have hC := r2.1.1
    refine x_iload dX11_divisors_35 rfl rfl ?_
    refine x_iload dX11_divisors_37 rfl rfl ?_
    refine x_jc_ge (tgt := 63) dX11_divisors_39 rfl rfl (by omega) (by omega) (fun c39 => ?_) (fun c39 => ?_)
    · obtain rfl : i = (zLst S.2.1 m).1 := by omega
      refine x_iload dX11_divisors_63 rfl rfl ?_
      refine x_ireturn dX11_divisors_65 rfl rfl ?_
      exact K _ _ _ en r2.1 (k2.trq q2)
    · refine x_aload_n (i := 0) dX11_divisors_42 rfl rfl rfl ?_
      refine x_iload_n (i := 1) dX11_divisors_43 rfl rfl rfl ?_
      refine x_iload_n (i := 2) dX11_divisors_44 rfl rfl rfl ?_
      refine x_iload_n (i := 3) dX11_divisors_45 rfl rfl rfl ?_
      refine x_iload dX11_divisors_46 rfl rfl ?_
      refine x_callV0 (ci := 11) (b := 0) (As := [_, _, _, _]) (d2 := d - 1) dX11_divisors_48 rfl kX11_280 okX11_isDivisorAt (hC.o rfl) (fun q hq => by cases hq; rfl) (by omega) rfl rfl (Nat.le_of_ble_eq_true rfl) (q_divAt (by omega) r2 ⟨m1, m2⟩ hx hr c39 (fun z h3 r3 q3 => ?_) (fun z h3 r3 q3 => ?_))
      · refine x_if_eq_f (tgt := 57) dX11_divisors_51 rfl rfl nb1 ?_
        refine x_iinc dX11_divisors_54 rfl rfl (inc1 _) ?_
        refine x_iinc dX11_divisors_57 rfl rfl (inc1 _) ?_
        refine x_goto (tgt := 35) dX11_divisors_60 rfl ?_
        exact x_to (ih c39 h3 r3 (q2.tr q3)) ⟨rfl, rfl, rfl, rfl, rfl, by rw [cN_t (n := i) z]; rfl, rfl, trivial⟩
      · refine x_if_eq_t (tgt := 57) dX11_divisors_51 rfl nI_0 ?_
        refine x_iinc dX11_divisors_57 rfl rfl (inc1 _) ?_
        refine x_goto (tgt := 35) dX11_divisors_60 rfl ?_
        exact x_to (ih c39 h3 r3 (q2.tr q3)) ⟨rfl, rfl, rfl, rfl, rfl, by rw [cN_f (n := i) z]; rfl, rfl, trivial⟩) 0 (Nat.zero_le _)
  exact x_to (key h1 k1 xSq.rf) ⟨rfl, rfl, rfl, rfl, rfl, rfl, rfl, trivial⟩
theorem p_divisor {a1 n : Int32} {right : Nat} {kk : Int32} (hd : 20 ≤ d) (hR : RC b h S) (hm : h.2 < 800000) (hr : right < 2) (K : ∀ r S2 h2, sp_divisor S a1 n right kk = (r, S2) → RC b h2 S2 → mF h h2 → Q (some (.int r)) h2) : xCt G l mX11_divisor d [.ref 0, .int a1, .int n, .int (nI right), .int kk] h 1 6720 Q := by
  have hC := hR.1
  refine xCt_of (by decide) (Nat.le_of_ble_eq_true rfl) ?_
  refine x_iload_n (i := 1) dX11_divisor_0 rfl rfl rfl ?_
  refine x_callS0 (As := [_]) (d2 := d - 1) dX11_divisor_1 rfl kX11_115 okX11_isEighth (by omega) rfl rfl (Nat.le_of_ble_eq_true rfl) (c_isEighth (fun z => ?_) (fun x hx ex qx => ?_))
  · refine x_if_eq_t (tgt := 22) dX11_divisor_4 rfl nI_0 ?_
    refine x_iconst dX11_divisor_22 rfl iC_m1 ?_
    refine x_ireturn dX11_divisor_23 rfl rfl ?_
    exact K _ _ _ (by simp only [sp_divisor, z] <;> rfl) hR mF.rf
  subst ex
  refine x_if_eq_f (tgt := 22) dX11_divisor_4 rfl rfl nb1 ?_
  refine x_iload_n (i := 2) dX11_divisor_7 rfl rfl rfl ?_
  refine x_iconst dX11_divisor_8 rfl iC_1 ?_
  refine x_ic_lt (tgt := 22) dX11_divisor_9 rfl rfl (fun c9 => ?_) (fun c9 => ?_)
  · refine x_iconst dX11_divisor_22 rfl iC_m1 ?_
    refine x_ireturn dX11_divisor_23 rfl rfl ?_
    exact K _ _ _ (by simp only [sp_divisor, qx, eB_lo (lo := 1) (hi := 3) (by decide) c9]) hR mF.rf
  refine x_iload_n (i := 2) dX11_divisor_12 rfl rfl rfl ?_
  refine x_iconst dX11_divisor_13 rfl iC_3 ?_
  refine x_ic_gt (tgt := 22) dX11_divisor_14 rfl rfl (fun c14 => ?_) (fun c14 => ?_)
  · refine x_iconst dX11_divisor_22 rfl iC_m1 ?_
    refine x_ireturn dX11_divisor_23 rfl rfl ?_
    exact K _ _ _ (by simp only [sp_divisor, qx, eB_hi (lo := 1) (hi := 3) (by decide) c14]) hR mF.rf
  obtain ⟨m, m1, m2, em, qm⟩ := eB_in (lo := 1) (hi := 3) (by decide) (by decide) c9 c14
  subst em
  refine x_iload dX11_divisor_17 rfl rfl ?_
  refine x_if_ge (tgt := 24) dX11_divisor_19 rfl rfl (fun c19 => ?_) (fun c19 => ?_)
  rotate_left
  · refine x_iconst dX11_divisor_22 rfl iC_m1 ?_
    refine x_ireturn dX11_divisor_23 rfl rfl ?_
    exact K _ _ _ (by simp only [sp_divisor, qx, qm]; exact if_neg c19) hR mF.rf
  have en : sp_divisor S (nI x) (nI m) right kk = (zKth (fun k => zDv S.2.1 (zEl S.2.1 m k) m (S.1 x) right) kk (zLst S.2.1 m).1 0, S) := by simp only [sp_divisor, qx, qm]; exact if_pos c19
  have rl := zRoom_le m (by omega)
  have sm := zLst_sm (o := S.2.1) (norm := m) (by omega)
  refine x_aload_n (i := 0) dX11_divisor_24 rfl rfl rfl ?_
  refine x_getC dX11_divisor_25 rfl fX11_33 hC rfl F_0_3 ?_
  refine x_iload_n (i := 2) dX11_divisor_28 rfl rfl rfl ?_
  refine x_callV (ci := 4) (b := 22) (As := [_]) (d2 := d - 1) (mc2 := 1) (ms2 := zRoom m) (k2 := 0) (n2 := 0) dX11_divisor_29 rfl kX11_276 okX4_manyOf (hC.o rfl) (fun q hq => by cases hq; rfl) (by omega) rfl rfl (Nat.le_of_ble_eq_true rfl) (by omega) (by omega) (q_many (by omega) hR hm (by omega) (fun h1 k1 k2 k3 => ?_))
  refine x_istore dX11_divisor_32 rfl (by decide) ?_
  refine x_iconst dX11_divisor_34 rfl iC_0 ?_
  refine x_istore dX11_divisor_35 rfl (by decide) ?_
  refine x_iconst dX11_divisor_37 rfl iC_0 ?_
  refine x_istore dX11_divisor_38 rfl (by decide) ?_
  have key := xloop (P := fun i => ∀ h2, RCn b m h2 S → xSq scP h1 h2 → zKth (fun k => zDv S.2.1 (zEl S.2.1 m k) m (S.1 x) right) kk (zLst S.2.1 m).1 0 = zKth (fun k => zDv S.2.1 (zEl S.2.1 m k) m (S.1 x) right) kk ((zLst S.2.1 m).1 - i) i → xWP G l mX11_divisor d (zM G Q) 0 0 40 (xls [(0, .ref 0), (1, .int (nI x)), (2, .int (nI m)), (3, .int (nI right)), (4, .int kk), (5, .int (nI (zLst S.2.1 m).1)), (6, .int (nI (cN (fun k => zDv S.2.1 (zEl S.2.1 m k) m (S.1 x) right) i))), (7, .int (nI i))]) [] h2) (zLst S.2.1 m).1 (by
    intro i hi ih h2 r2 q2 ez
    have hC := r2.1.1
    refine x_iload dX11_divisor_40 rfl rfl ?_
    refine x_iload dX11_divisor_42 rfl rfl ?_
    refine x_jc_ge (tgt := 78) dX11_divisor_44 rfl rfl (by omega) (by omega) (fun c44 => ?_) (fun c44 => ?_)
    · rw [show (zLst S.2.1 m).1 - i = 0 by omega, zKth] at ez
      refine x_bipush dX11_divisor_78 rfl bC_m2 ?_
      refine x_ireturn dX11_divisor_80 rfl rfl ?_
      exact K _ _ _ (by rw [en, ez]) r2.1 (k2.trq q2)
    · obtain ⟨f, ef⟩ : ∃ f, (zLst S.2.1 m).1 - i = f + 1 := ⟨(zLst S.2.1 m).1 - i - 1, by omega⟩
      rw [ef, zKth] at ez
      refine x_aload_n (i := 0) dX11_divisor_47 rfl rfl rfl ?_
      refine x_iload_n (i := 1) dX11_divisor_48 rfl rfl rfl ?_
      refine x_iload_n (i := 2) dX11_divisor_49 rfl rfl rfl ?_
      refine x_iload_n (i := 3) dX11_divisor_50 rfl rfl rfl ?_
      refine x_iload dX11_divisor_51 rfl rfl ?_
      refine x_callV0 (ci := 11) (b := 0) (As := [_, _, _, _]) (d2 := d - 1) dX11_divisor_53 rfl kX11_280 okX11_isDivisorAt (hC.o rfl) (fun q hq => by cases hq; rfl) (by omega) rfl rfl (Nat.le_of_ble_eq_true rfl) (q_divAt (by omega) r2 ⟨m1, m2⟩ hx hr c44 (fun z h3 r3 q3 => ?_) (fun z h3 r3 q3 => ?_))
      · rw [if_pos z] at ez
        refine x_if_eq_f (tgt := 72) dX11_divisor_56 rfl rfl nb1 ?_
        refine x_iload dX11_divisor_59 rfl rfl ?_
        refine x_iload dX11_divisor_61 rfl rfl ?_
        refine x_ic_ne (tgt := 69) dX11_divisor_63 rfl rfl (fun c63 => ?_) (fun c63 => ?_)
        · rw [if_neg c63] at ez
          refine x_iinc dX11_divisor_69 rfl rfl (inc1 _) ?_
          refine x_iinc dX11_divisor_72 rfl rfl (inc1 _) ?_
          refine x_goto (tgt := 40) dX11_divisor_75 rfl ?_
          exact x_to (ih c44 h3 r3 (q2.tr q3) (by rw [ez, show (zLst S.2.1 m).1 - (i + 1) = f by omega])) ⟨rfl, rfl, rfl, rfl, rfl, rfl, by rw [cN_t (n := i) z]; rfl, rfl, trivial⟩
        · rw [if_pos c63] at ez
          refine x_iload dX11_divisor_66 rfl rfl ?_
          refine x_ireturn dX11_divisor_68 rfl rfl ?_
          exact K _ _ _ (by rw [en, ez]) r3.1 (k2.trq (q2.tr q3))
      · rw [if_neg z] at ez
        refine x_if_eq_t (tgt := 72) dX11_divisor_56 rfl nI_0 ?_
        refine x_iinc dX11_divisor_72 rfl rfl (inc1 _) ?_
        refine x_goto (tgt := 40) dX11_divisor_75 rfl ?_
        exact x_to (ih c44 h3 r3 (q2.tr q3) (by rw [ez, show (zLst S.2.1 m).1 - (i + 1) = f by omega])) ⟨rfl, rfl, rfl, rfl, rfl, rfl, by rw [cN_f (n := i) z]; rfl, rfl, trivial⟩) 0 (Nat.zero_le _)
  exact x_to (key h1 k1 xSq.rf rfl) ⟨rfl, rfl, rfl, rfl, rfl, rfl, rfl, rfl, trivial⟩
theorem p_angles {a1 n v : Int32} (hd : 20 ≤ d) (hR : RC b h S) (hm : h.2 < 800000) (K : ∀ r S2 h2, sp_angles S a1 n v = (r, S2) → RC b h2 S2 → mF h h2 → Q (some (.int r)) h2) : xCt G l mX11_angles d [.ref 0, .int a1, .int n, .int v] h 1 6720 Q := by
  have hC := hR.1
  refine xCt_of (by decide) (Nat.le_of_ble_eq_true rfl) ?_
  refine x_iload_n (i := 1) dX11_angles_0 rfl rfl rfl ?_
  refine x_callS0 (As := [_]) (d2 := d - 1) dX11_angles_1 rfl kX11_115 okX11_isEighth (by omega) rfl rfl (Nat.le_of_ble_eq_true rfl) (c_isEighth (fun z => ?_) (fun x hx ex qx => ?_))
  · refine x_if_eq_t (tgt := 14) dX11_angles_4 rfl nI_0 ?_
    refine x_iconst dX11_angles_14 rfl iC_m1 ?_
    refine x_ireturn dX11_angles_15 rfl rfl ?_
    exact K _ _ _ (by simp only [sp_angles, z] <;> rfl) hR mF.rf
  subst ex
  refine x_if_eq_f (tgt := 14) dX11_angles_4 rfl rfl nb1 ?_
  refine x_iload_n (i := 2) dX11_angles_7 rfl rfl rfl ?_
  refine x_callS0 (As := [_]) (d2 := d - 1) dX11_angles_8 rfl kX11_125 okX11_isListedNorm (by omega) rfl rfl (Nat.le_of_ble_eq_true rfl) (c_isListedNorm (fun z => ?_) (fun mm hmm emm qmm => ?_))
  · refine x_if_ne_f (tgt := 16) dX11_angles_11 rfl rfl nI_0 ?_
    refine x_iconst dX11_angles_14 rfl iC_m1 ?_
    refine x_ireturn dX11_angles_15 rfl rfl ?_
    exact K _ _ _ (by simp only [sp_angles, qx, z] <;> rfl) hR mF.rf
  subst emm
  refine x_if_ne_t (tgt := 16) dX11_angles_11 rfl nb1 ?_
  have en : sp_angles S (nI x) (nI mm) v = (nI (cN (fun k => zCap (zInn (zEl S.2.1 mm k) (S.1 x) 8) = v) (zLst S.2.1 mm).1), S) := by simp only [sp_angles, qx, qmm]
  have rl := zRoom_le mm hmm
  have sm := zLst_sm (o := S.2.1) (norm := mm) hmm
  refine x_aload_n (i := 0) dX11_angles_16 rfl rfl rfl ?_
  refine x_getC dX11_angles_17 rfl fX11_33 hC rfl F_0_3 ?_
  refine x_iload_n (i := 2) dX11_angles_20 rfl rfl rfl ?_
  refine x_callV (ci := 4) (b := 22) (As := [_]) (d2 := d - 1) (mc2 := 1) (ms2 := zRoom mm) (k2 := 0) (n2 := 0) dX11_angles_21 rfl kX11_276 okX4_manyOf (hC.o rfl) (fun q hq => by cases hq; rfl) (by omega) rfl rfl (Nat.le_of_ble_eq_true rfl) (by omega) (by omega) (q_many (by omega) hR hm hmm (fun h1 k1 k2 k3 => ?_))
  refine x_istore dX11_angles_24 rfl (by decide) ?_
  refine x_iconst dX11_angles_26 rfl iC_0 ?_
  refine x_istore dX11_angles_27 rfl (by decide) ?_
  refine x_iconst dX11_angles_29 rfl iC_0 ?_
  refine x_istore dX11_angles_30 rfl (by decide) ?_
  have key := xloop (P := fun i => ∀ h2, RCn b mm h2 S → xSq scP h1 h2 → xWP G l mX11_angles d (zM G Q) 0 0 32 (xls [(0, .ref 0), (1, .int (nI x)), (2, .int (nI mm)), (3, .int v), (4, .int (nI (zLst S.2.1 mm).1)), (5, .int (nI (cN (fun k => zCap (zInn (zEl S.2.1 mm k) (S.1 x) 8) = v) i))), (6, .int (nI i))]) [] h2) (zLst S.2.1 mm).1 (by
    intro i hi ih h2 r2 q2
    have hC := r2.1.1
    refine x_iload dX11_angles_32 rfl rfl ?_
    refine x_iload dX11_angles_34 rfl rfl ?_
    refine x_jc_ge (tgt := 85) dX11_angles_36 rfl rfl (by omega) (by omega) (fun c36 => ?_) (fun c36 => ?_)
    · obtain rfl : i = (zLst S.2.1 mm).1 := by omega
      refine x_iload dX11_angles_85 rfl rfl ?_
      refine x_ireturn dX11_angles_87 rfl rfl ?_
      exact K _ _ _ en r2.1 (k2.trq q2)
    · refine x_aload_n (i := 0) dX11_angles_39 rfl rfl rfl ?_
      refine x_getC dX11_angles_40 rfl fX11_33 hC rfl F_0_3 ?_
      refine x_aload_n (i := 0) dX11_angles_43 rfl rfl rfl ?_
      refine x_getC dX11_angles_44 rfl fX11_101 hC rfl F_0_12 ?_
      refine x_iload_n (i := 2) dX11_angles_47 rfl rfl rfl ?_
      refine x_iload dX11_angles_48 rfl rfl ?_
      refine x_callV0 (ci := 4) (b := 22) (As := [_, _, _]) (d2 := d - 1) dX11_angles_50 rfl kX11_128 okX4_take (hC.o rfl) (fun q hq => by cases hq; rfl) (by omega) rfl rfl (Nat.le_of_ble_eq_true rfl) (q_takeC (by omega) r2 hmm (a := 106) rfl c36 ?_)
      have hC2 := hC.setI (f := zEl S.2.1 mm i) (hC.v (a := 106) rfl) (Or.inl rfl) (by decide)
      have q3 : xSq scP h2 (hs h2 106 (0, 8, xI (zEl S.2.1 mm i))) := xSm.hs1.sc (by intro q hq; simp only [List.mem_cons, List.not_mem_nil, or_false] at hq; unfold scP; omega)
      have r3 := r2.sc hC2 q3
      have hC := hC2
      have vx := hC.v (csV_slot hx)
      refine x_if_eq_f (tgt := 79) dX11_angles_53 rfl rfl nb1 ?_
      refine x_aload_n (i := 0) dX11_angles_56 rfl rfl rfl ?_
      refine x_getC dX11_angles_57 rfl fX11_101 hC rfl F_0_12 ?_
      refine x_aload_n (i := 0) dX11_angles_60 rfl rfl rfl ?_
      refine x_getC dX11_angles_61 rfl fX11_11 hC rfl F_0_0 ?_
      refine x_iload_n (i := 1) dX11_angles_64 rfl rfl rfl ?_
      refine x_aaldC (t := 0) dX11_angles_65 rfl hC rfl (by decide) rfl (by omega) (by decide) (csF_slot hx) ?_
      refine x_callS0 (As := [_, _]) (d2 := d - 1) dX11_angles_66 rfl kX11_284 okX5_innerBy4 (by omega) rfl rfl (Nat.le_of_ble_eq_true rfl) (c_innerBy4 hs_eq vx ?_)
      rw [zInn_e (f := zEl S.2.1 mm i) rfl (r3.1.c hx).symm]
      refine x_callS0 (As := [_]) (d2 := d - 1) dX11_angles_69 rfl kX11_240 okX11_capped (by omega) rfl rfl (Nat.le_of_ble_eq_true rfl) (c_capped (by omega) ?_)
      refine x_iload_n (i := 3) dX11_angles_72 rfl rfl rfl ?_
      refine x_ic_ne (tgt := 79) dX11_angles_73 rfl rfl (fun c73 => ?_) (fun c73 => ?_)
      · refine x_iinc dX11_angles_79 rfl rfl (inc1 _) ?_
        refine x_goto (tgt := 32) dX11_angles_82 rfl ?_
        exact x_to (ih c36 _ r3 (q2.tr q3)) ⟨rfl, rfl, rfl, rfl, rfl, by rw [cN_f (n := i) c73]; rfl, rfl, trivial⟩
      · refine x_iinc dX11_angles_76 rfl rfl (inc1 _) ?_
        refine x_iinc dX11_angles_79 rfl rfl (inc1 _) ?_
        refine x_goto (tgt := 32) dX11_angles_82 rfl ?_
        exact x_to (ih c36 _ r3 (q2.tr q3)) ⟨rfl, rfl, rfl, rfl, rfl, by rw [cN_t (n := i) c73]; rfl, rfl, trivial⟩) 0 (Nat.zero_le _)
  exact x_to (key h1 k1 xSq.rf) ⟨rfl, rfl, rfl, rfl, rfl, rfl, rfl, trivial⟩
end PUB

