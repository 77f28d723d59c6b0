/-! EightParts: laid -/
def sp_put (S : St) (a b v : Int32) : Int32 × St := match sE a with
  | none => (0, S)
  | some t => match sE b with
    | none => (0, S)
    | some p => if -20000 ≤ v ∧ v ≤ 20000 then (1, sSet S t (upd (S.1 t) p v)) else (0, S)
def sp_one (S : St) (a b : Int32) : Int32 × St := match sE a with
  | none => (0, S)
  | some t => match sE b with
    | none => (0, S)
    | some i => (1, sSet S t (zOne i))
def sp_copy (S : St) (a b : Int32) : Int32 × St := match sE a with
  | none => (0, S)
  | some t => match sE b with
    | none => (0, S)
    | some x => (1, sSet S t (S.1 x))
def sOrd (S : St) (o : Nat) : St := (S.1, o, S.2.2)
def sp_order (S : St) (a : Int32) : Int32 × St := match sE a with
  | none => (-1, S)
  | some o => (nI S.2.1, sOrd S o)
noncomputable def sMay (S : St) (t : Nat) (o : zO) : Int32 × St := match o with
  | none => (-2, S)
  | some z => (1, sSet S t z)
noncomputable def sp_sum (s : Int32) (S : St) (a b c : Int32) : Int32 × St := match sE a with
  | none => (-1, S)
  | some t => match sE b with
    | none => (-1, S)
    | some x => match sE c with
      | none => (-1, S)
      | some y => sMay S t (oAdd (S.1 x) (S.1 y) s)
noncomputable def sp_product (S : St) (a b c : Int32) : Int32 × St := match sE a with
  | none => (-1, S)
  | some t => match sE b with
    | none => (-1, S)
    | some x => match sE c with
      | none => (-1, S)
      | some y => sMay S t (oMul (S.1 x) (S.1 y))
def sp_mirror (S : St) (a b : Int32) : Int32 × St := match sE a with
  | none => (-1, S)
  | some t => match sE b with
    | none => (-1, S)
    | some x => (1, sSet S t (zMir (S.1 x)))
noncomputable def sp_times (S : St) (a b n : Int32) : Int32 × St := match sE a with
  | none => (-1, S)
  | some t => match sE b with
    | none => (-1, S)
    | some x => if -1000 ≤ n ∧ n ≤ 1000 then sMay S t (oScale n (S.1 x)) else (-1, S)
noncomputable def sp_turn (S : St) (a b c n : Int32) : Int32 × St := match sE a with
  | none => (-1, S)
  | some t => match sE b with
    | none => (-1, S)
    | some x => match sE c with
      | none => (-1, S)
      | some u => match eB 0 3 n with
        | none => (-1, S)
        | some how => sMay S t (oTurn (S.1 x) (S.1 u) how)
theorem sMay_none {S : St} {t : Nat} {o : zO} (h : o = none) : sMay S t o = (-2, S) := by rw [h]; rfl
theorem sMay_some {S : St} {t : Nat} {o : zO} {z : Nat → Int32} (h : o = some z) : sMay S t o = (1, sSet S t z) := by rw [h]; rfl
theorem sSet_c (S : St) (t : Nat) {z y : Nat → Int32} (h : c8 z = c8 y) : sSet S t z = sSet S t y := by unfold sSet; rw [h]
theorem sMay_map {S : St} {t : Nat} {o o2 : zO} (h : o.map c8 = o2.map c8) : sMay S t o = sMay S t o2 := by
  cases o with
  | none => cases o2 with
    | none => rfl
    | some y => cases h
  | some z => cases o2 with
    | none => cases h
    | some y => exact congrArg (Prod.mk 1) (sSet_c S t (Option.some.inj h))
section PUB
variable {G : xG} {l : Launch} {d : Nat} {h : xH} {Q : Option Value → xH → Prop} {b : Bool} {S : St}
theorem zBd_upd {f : Nat → Int32} {p : Nat} {v : Int32} (hf : zBd f) (h1 : -20000 ≤ v) (h2 : v ≤ 20000) : zBd (upd f p v) := by
  intro j hj
  unfold upd
  split
  · rw [Int32.le_iff_toInt_le] at h1 h2
    have e1 : (-20000 : Int32).toInt = -20000 := by decide
    have e2 : (20000 : Int32).toInt = 20000 := by decide
    omega
  · exact hf j hj
theorem zBd_one (i : Nat) : zBd (zOne i) := by
  intro j _
  unfold zOne
  split
  · have : (nI 2).toInt = 2 := rfl
    omega
  · have : (nI 0).toInt = 0 := rfl
    omega
theorem zBd_mir {f : Nat → Int32} (hf : zBd f) : zBd (zMir f) := by
  intro j hj
  unfold zMir
  split
  · exact hf 0 (by decide)
  · have := hf j hj
    rw [fb_negI (by omega)]
    omega
theorem xSm.sc {h h2 : xH} {T : List Nat} (s : xSm T h h2) (hT : ∀ a ∈ T, scP a) : xSq scP h h2 := s.sq hT
theorem xSm.sct {h h2 : xH} {T : List Nat} {t : Nat} (s : xSm T h h2) (hT : ∀ a ∈ T, scP a ∨ a = 2 + t) : xSq (fun a => scP a ∨ a = 2 + t) h h2 := s.sq hT
theorem scP_lt {a : Nat} (h : scP a) : a < 110 ∨ 133 < a := by unfold scP at h; omega
theorem sct_lt {t : Nat} (ht : t < 8) {a : Nat} (h : scP a ∨ a = 2 + t) : a < 110 ∨ 133 < a := by
  rcases h with h | h
  · exact scP_lt h
  · omega
theorem p_put {a1 a2 v : Int32} (hd : 10 ≤ d) (hR : RC b h S) (K : ∀ r S2 h2, sp_put S a1 a2 v = (r, S2) → RC b h2 S2 → mF h h2 → Q (some (.int r)) h2) : xCt G l mX11_put d [.ref 0, .int a1, .int a2, .int v] h 0 0 Q := by
  have hC := hR.1
  refine xCt_of (by decide) (Nat.le_of_ble_eq_true rfl) ?_
  refine x_iload_n (i := 1) dX11_put_0 rfl rfl rfl ?_
  refine x_callS0 (As := [_]) (d2 := d - 1) dX11_put_1 rfl kX11_115 okX11_isEighth (by omega) rfl rfl (Nat.le_of_ble_eq_true rfl) (c_isEighth (fun z => ?_) (fun t ht et qt => ?_))
  · refine x_if_eq_t (tgt := 28) dX11_put_4 rfl nI_0 ?_
    refine x_iconst dX11_put_28 rfl iC_0 ?_
    refine x_ireturn dX11_put_29 rfl rfl ?_
    exact K _ _ _ (by simp only [sp_put, z] <;> rfl) hR mF.rf
  subst et
  refine x_if_eq_f (tgt := 28) dX11_put_4 rfl rfl nb1 ?_
  refine x_iload_n (i := 2) dX11_put_7 rfl rfl rfl ?_
  refine x_callS0 (As := [_]) (d2 := d - 1) dX11_put_8 rfl kX11_115 okX11_isEighth (by omega) rfl rfl (Nat.le_of_ble_eq_true rfl) (c_isEighth (fun z => ?_) (fun x hx ex qx => ?_))
  · refine x_if_eq_t (tgt := 28) dX11_put_11 rfl nI_0 ?_
    refine x_iconst dX11_put_28 rfl iC_0 ?_
    refine x_ireturn dX11_put_29 rfl rfl ?_
    exact K _ _ _ (by simp only [sp_put, qt, z] <;> rfl) hR mF.rf
  subst ex
  refine x_if_eq_f (tgt := 28) dX11_put_11 rfl rfl nb1 ?_
  refine x_iload_n (i := 3) dX11_put_14 rfl rfl rfl ?_
  refine x_sipush dX11_put_15 rfl sC_m20000 ?_
  refine x_ic_lt (tgt := 28) dX11_put_18 rfl rfl (fun c18 => ?_) (fun c18 => ?_)
  · refine x_iconst dX11_put_28 rfl iC_0 ?_
    refine x_ireturn dX11_put_29 rfl rfl ?_
    exact K _ _ _ (by simp only [sp_put, qt, qx]; exact if_neg (fun z => Int32.not_le.mpr c18 z.1)) hR mF.rf
  refine x_iload_n (i := 3) dX11_put_21 rfl rfl rfl ?_
  refine x_sipush dX11_put_22 rfl sC_20000 ?_
  refine x_ic_le (tgt := 30) dX11_put_25 rfl rfl (fun c25 => ?_) (fun c25 => ?_)
  rotate_left
  · refine x_iconst dX11_put_28 rfl iC_0 ?_
    refine x_ireturn dX11_put_29 rfl rfl ?_
    exact K _ _ _ (by simp only [sp_put, qt, qx]; exact if_neg (fun z => c25 z.2)) hR mF.rf
  have vt := hC.v (csV_slot ht)
  have hsl := hR.sl ht
  refine x_aload_n (i := 0) dX11_put_30 rfl rfl rfl ?_
  refine x_getC dX11_put_31 rfl fX11_11 hC rfl F_0_0 ?_
  refine x_iload_n (i := 1) dX11_put_34 rfl rfl rfl ?_
  refine x_aaldC (t := 0) dX11_put_35 rfl hC rfl (by decide) rfl (by omega) (by decide) (csF_slot ht) ?_
  refine x_iload_n (i := 2) dX11_put_36 rfl rfl rfl ?_
  refine x_iload_n (i := 3) dX11_put_37 rfl rfl rfl ?_
  refine x_iast dX11_put_38 rfl vt rfl (by omega) (by decide) ?_
  refine x_iconst dX11_put_39 rfl iC_1 ?_
  refine x_ireturn dX11_put_40 rfl rfl ?_
  have hC2 := hC.setI (f := upd (iv h (2 + t)) x v) vt (Or.inl rfl) (by omega)
  have sq : xSq (fun a => scP a ∨ a = 2 + t) h (hs h (2 + t) (0, 8, xI (upd (iv h (2 + t)) x v))) := xSm.hs1.sct (by intro q hq; simp only [List.mem_cons, List.not_mem_nil, or_false] at hq; unfold scP; omega)
  refine K _ _ _ ?_ (hR.set ht hC2 sq (z := upd (S.1 t) x v) ?_ (zBd_upd (by rw [← hsl.1]; exact zBd_c8.mpr hsl.2) (Int32.not_lt.mp c18) c25)) (mF.sq sq (fun a => sct_lt ht))
  · simp only [sp_put, qt, qx]
    exact if_pos ⟨Int32.not_lt.mp c18, c25⟩
  · rw [iv_hs]
    refine c8_eq.mpr (fun p hp => ?_)
    unfold upd
    rw [← hsl.1, c8_lt hp]
theorem p_one {a1 a2 : Int32} (hd : 10 ≤ d) (hR : RC b h S) (K : ∀ r S2 h2, sp_one S a1 a2 = (r, S2) → RC b h2 S2 → mF h h2 → Q (some (.int r)) h2) : xCt G l mX11_one d [.ref 0, .int a1, .int a2] h 0 0 Q := by
  have hC := hR.1
  refine xCt_of (by decide) (Nat.le_of_ble_eq_true rfl) ?_
  refine x_iload_n (i := 1) dX11_one_0 rfl rfl rfl ?_
  refine x_callS0 (As := [_]) (d2 := d - 1) dX11_one_1 rfl kX11_115 okX11_isEighth (by omega) rfl rfl (Nat.le_of_ble_eq_true rfl) (c_isEighth (fun z => ?_) (fun t ht et qt => ?_))
  · refine x_if_eq_t (tgt := 14) dX11_one_4 rfl nI_0 ?_
    refine x_iconst dX11_one_14 rfl iC_0 ?_
    refine x_ireturn dX11_one_15 rfl rfl ?_
    exact K _ _ _ (by simp only [sp_one, z] <;> rfl) hR mF.rf
  subst et
  refine x_if_eq_f (tgt := 14) dX11_one_4 rfl rfl nb1 ?_
  refine x_iload_n (i := 2) dX11_one_7 rfl rfl rfl ?_
  refine x_callS0 (As := [_]) (d2 := d - 1) dX11_one_8 rfl kX11_115 okX11_isEighth (by omega) rfl rfl (Nat.le_of_ble_eq_true rfl) (c_isEighth (fun z => ?_) (fun x hx ex qx => ?_))
  · refine x_if_ne_f (tgt := 16) dX11_one_11 rfl rfl nI_0 ?_
    refine x_iconst dX11_one_14 rfl iC_0 ?_
    refine x_ireturn dX11_one_15 rfl rfl ?_
    exact K _ _ _ (by simp only [sp_one, qt, z] <;> rfl) hR mF.rf
  subst ex
  refine x_if_ne_t (tgt := 16) dX11_one_11 rfl nb1 ?_
  have vt := hC.v (csV_slot ht)
  refine x_aload_n (i := 0) dX11_one_16 rfl rfl rfl ?_
  refine x_getC dX11_one_17 rfl fX11_11 hC rfl F_0_0 ?_
  refine x_iload_n (i := 1) dX11_one_20 rfl rfl rfl ?_
  refine x_aaldC (t := 0) dX11_one_21 rfl hC rfl (by decide) rfl (by omega) (by decide) (csF_slot ht) ?_
  refine x_iload_n (i := 2) dX11_one_22 rfl rfl rfl ?_
  refine x_callS0 (As := [_, _]) (d2 := d - 1) dX11_one_23 rfl kX11_119 okX5_layOne (by omega) rfl rfl (Nat.le_of_ble_eq_true rfl) (c_layOne (by omega) hx vt ?_)
  refine x_iconst dX11_one_26 rfl iC_1 ?_
  refine x_ireturn dX11_one_27 rfl rfl ?_
  have sq : xSq (fun a => scP a ∨ a = 2 + t) h (hs h (2 + t) (0, 8, xI (zOne x))) := xSm.hs1.sct (by intro q hq; simp only [List.mem_cons, List.not_mem_nil, or_false] at hq; unfold scP; omega)
  exact K _ _ _ (by simp only [sp_one, qt, qx]; rfl) (hR.set ht (hC.setI vt (Or.inl rfl) (by omega)) sq (by rw [iv_hs]) (zBd_one x)) (mF.sq sq (fun a => sct_lt ht))
theorem p_copy {a1 a2 : Int32} (hd : 10 ≤ d) (hR : RC b h S) (K : ∀ r S2 h2, sp_copy S a1 a2 = (r, S2) → RC b h2 S2 → mF h h2 → Q (some (.int r)) h2) : xCt G l mX11_copy d [.ref 0, .int a1, .int a2] h 0 0 Q := by
  have hC := hR.1
  refine xCt_of (by decide) (Nat.le_of_ble_eq_true rfl) ?_
  refine x_iload_n (i := 1) dX11_copy_0 rfl rfl rfl ?_
  refine x_iload_n (i := 2) dX11_copy_1 rfl rfl rfl ?_
  refine x_callS0 (As := [_, _]) (d2 := d - 1) dX11_copy_2 rfl kX11_132 okX11_areSlots (by omega) rfl rfl (Nat.le_of_ble_eq_true rfl) (c_areSlots2 (by omega) (fun z => ?_) (fun t x ht hx et ex qt qx => ?_))
  · refine x_if_ne_f (tgt := 10) dX11_copy_5 rfl rfl nI_0 ?_
    refine x_iconst dX11_copy_8 rfl iC_0 ?_
    refine x_ireturn dX11_copy_9 rfl rfl ?_
    exact K _ _ _ (by rcases z with z | ⟨i, z0, z⟩; exact (by simp only [sp_copy, z] <;> rfl); exact (by simp only [sp_copy, z0, z] <;> rfl)) hR mF.rf
  subst et ex
  refine x_if_ne_t (tgt := 10) dX11_copy_5 rfl nb1 ?_
  have vt := hC.v (csV_slot ht)
  have vx := hC.v (csV_slot hx)
  have hsl := hR.sl hx
  refine x_aload_n (i := 0) dX11_copy_10 rfl rfl rfl ?_
  refine x_getC dX11_copy_11 rfl fX11_11 hC rfl F_0_0 ?_
  refine x_iload_n (i := 1) dX11_copy_14 rfl rfl rfl ?_
  refine x_aaldC (t := 0) dX11_copy_15 rfl hC rfl (by decide) rfl (by omega) (by decide) (csF_slot ht) ?_
  refine x_aload_n (i := 0) dX11_copy_16 rfl rfl rfl ?_
  refine x_getC dX11_copy_17 rfl fX11_11 hC rfl F_0_0 ?_
  refine x_iload_n (i := 2) dX11_copy_20 rfl rfl rfl ?_
  refine x_aaldC (t := 0) dX11_copy_21 rfl hC rfl (by decide) rfl (by omega) (by decide) (csF_slot hx) ?_
  refine x_callS0 (As := [_, _]) (d2 := d - 1) dX11_copy_22 rfl kX11_136 okX5_lay (by omega) rfl rfl (Nat.le_of_ble_eq_true rfl) (c_lay (by omega) vt vx ?_)
  refine x_iconst dX11_copy_25 rfl iC_1 ?_
  refine x_ireturn dX11_copy_26 rfl rfl ?_
  have sq : xSq (fun a => scP a ∨ a = 2 + t) h (hs h (2 + t) (0, 8, xI (iv h (2 + x)))) := xSm.hs1.sct (by intro q hq; simp only [List.mem_cons, List.not_mem_nil, or_false] at hq; unfold scP; omega)
  exact K _ _ _ (by simp only [sp_copy, qt, qx]; rfl) (hR.set ht (hC.setI vt (Or.inl rfl) (by omega)) sq (by rw [iv_hs, ← hsl.1, c8_c8]) (by rw [← hsl.1]; exact zBd_c8.mpr hsl.2)) (mF.sq sq (fun a => sct_lt ht))
theorem p_order {a1 : Int32} (hd : 10 ≤ d) (hR : RC b h S) (K : ∀ r S2 h2, sp_order S a1 = (r, S2) → RC b h2 S2 → mF h h2 → Q (some (.int r)) h2) : xCt G l mX11_order d [.ref 0, .int a1] h 0 0 Q := by
  have hC := hR.1
  have ho := hR.o.2
  refine xCt_of (by decide) (Nat.le_of_ble_eq_true rfl) ?_
  refine x_iload_n (i := 1) dX11_order_0 rfl rfl rfl ?_
  refine x_callS0 (As := [_]) (d2 := d - 1) dX11_order_1 rfl kX11_115 okX11_isEighth (by omega) rfl rfl (Nat.le_of_ble_eq_true rfl) (c_isEighth (fun z => ?_) (fun t ht et qt => ?_))
  · refine x_if_ne_f (tgt := 9) dX11_order_4 rfl rfl nI_0 ?_
    refine x_iconst dX11_order_7 rfl iC_m1 ?_
    refine x_ireturn dX11_order_8 rfl rfl ?_
    exact K _ _ _ (by simp only [sp_order, z] <;> rfl) hR mF.rf
  subst et
  refine x_if_ne_t (tgt := 9) dX11_order_4 rfl nb1 ?_
  refine x_aload_n (i := 0) dX11_order_9 rfl rfl rfl ?_
  refine x_getC dX11_order_10 rfl fX11_24 hC rfl F_0_2 ?_
  refine x_getM (a := 14) dX11_order_13 rfl fX11_140 hC rfl ho ?_
  refine x_istore_n (i := 2) dX11_order_16 rfl rfl (by decide) ?_
  refine x_aload_n (i := 0) dX11_order_17 rfl rfl rfl ?_
  refine x_getC dX11_order_18 rfl fX11_24 hC rfl F_0_2 ?_
  refine x_iload_n (i := 1) dX11_order_21 rfl rfl rfl ?_
  refine x_putC (a := 14) dX11_order_22 rfl fX11_140 (fun q hq => by cases hq; rfl) hC rfl ⟨rfl, rfl⟩ ?_
  refine x_iload_n (i := 2) dX11_order_25 rfl rfl rfl ?_
  refine x_ireturn dX11_order_26 rfl rfl ?_
  have hC2 := hC.setF (ci := 2) (a := 14) (kf := 0) (v := .int (nI t)) rfl NF_14_0 (by decide)
  have sq : xSq (fun a => a = 14) h (hs h 14 (102, 0, updV (h.1 14).2.2 0 (.int (nI t)))) := xSm.hs1.sq (by simp)
  obtain ⟨r1, ⟨⟨s1, s2⟩, s3, s4, s5⟩, r3⟩ := hR
  have k : ∀ a, a ≠ 14 → (hs h 14 (102, 0, updV (h.1 14).2.2 0 (.int (nI t)))).1 a = h.1 a := fun a ha => hs_n ha
  have kp : RS (hs h 14 (102, 0, updV (h.1 14).2.2 0 (.int (nI t)))) (sOrd S t) := by
    refine ⟨⟨ht, fv_eq⟩, fun j hj => ?_, ⟨s4.1, by unfold hTl; rw [k 56 (by decide)]; exact s4.2.1, by rw [iv_n (by decide)]; exact s4.2.2⟩, s5.1, by unfold hKp; rw [k 101 (by decide)]; exact s5.2.1, by rw [iv_n (by decide), iv_n (by decide)]; exact s5.2.2⟩
    rw [iv_n (by omega)]
    exact s3 j hj
  exact K _ _ _ (by simp only [sp_order, qt]) ⟨hC2, kp, r3.keep r1.1 (by rw [sq.1]; exact Nat.le_refl _) (fun a _ ha => k a (fun z => ha (by unfold riN; omega)))⟩ (mF.sq sq (fun a (z : a = 14) => by omega))
theorem RC.mul {b : Bool} {h : xH} {S : St} (hR : RC b h S) {x y : Nat} (hx : x < 8) (hy : y < 8) : oMul (iv h (2 + x)) (iv h (2 + y)) = oMul (S.1 x) (S.1 y) := by rw [← (hR.sl hx).1, ← (hR.sl hy).1, oMul_c]
theorem p_sum {a1 a2 a3 : Int32} (hd : 10 ≤ d) (hR : RC b h S) (K : ∀ r S2 h2, sp_sum 1 S a1 a2 a3 = (r, S2) → RC b h2 S2 → mF h h2 → Q (some (.int r)) h2) : xCt G l mX11_sum d [.ref 0, .int a1, .int a2, .int a3] h 0 0 Q := by
  have hC := hR.1
  refine xCt_of (by decide) (Nat.le_of_ble_eq_true rfl) ?_
  refine x_iload_n (i := 1) dX11_sum_0 rfl rfl rfl ?_
  refine x_iload_n (i := 2) dX11_sum_1 rfl rfl rfl ?_
  refine x_iload_n (i := 3) dX11_sum_2 rfl rfl rfl ?_
  refine x_callS0 (As := [_, _, _]) (d2 := d - 1) dX11_sum_3 rfl kX11_144 okX11_areSlots_ (by omega) rfl rfl (Nat.le_of_ble_eq_true rfl) (c_areSlots3 (by omega) (fun z => ?_) (fun t x y ht hx hy et ex ey qt qx qy => ?_))
  · refine x_if_ne_f (tgt := 11) dX11_sum_6 rfl rfl nI_0 ?_
    refine x_iconst dX11_sum_9 rfl iC_m1 ?_
    refine x_ireturn dX11_sum_10 rfl rfl ?_
    exact K _ _ _ (by rcases z with z | ⟨i, z0, z⟩ | ⟨i, i2, z0, z1, z⟩; exact (by simp only [sp_sum, z] <;> rfl); exact (by simp only [sp_sum, z0, z] <;> rfl); exact (by simp only [sp_sum, z0, z1, z] <;> rfl)) hR mF.rf
  subst et ex ey
  refine x_if_ne_t (tgt := 11) dX11_sum_6 rfl nb1 ?_
  have e := oAdd_c (iv h (2 + x)) (iv h (2 + y)) 1
  rw [(hR.sl hx).1, (hR.sl hy).1] at e
  refine x_aload_n (i := 0) dX11_sum_11 rfl rfl rfl ?_
  refine x_getC dX11_sum_12 rfl fX11_17 hC rfl F_0_1 ?_
  refine x_aload_n (i := 0) dX11_sum_15 rfl rfl rfl ?_
  refine x_getC dX11_sum_16 rfl fX11_11 hC rfl F_0_0 ?_
  refine x_iload_n (i := 1) dX11_sum_19 rfl rfl rfl ?_
  refine x_aaldC (t := 0) dX11_sum_20 rfl hC rfl (by decide) rfl (by omega) (by decide) (csF_slot ht) ?_
  refine x_aload_n (i := 0) dX11_sum_21 rfl rfl rfl ?_
  refine x_getC dX11_sum_22 rfl fX11_11 hC rfl F_0_0 ?_
  refine x_iload_n (i := 2) dX11_sum_25 rfl rfl rfl ?_
  refine x_aaldC (t := 0) dX11_sum_26 rfl hC rfl (by decide) rfl (by omega) (by decide) (csF_slot hx) ?_
  refine x_aload_n (i := 0) dX11_sum_27 rfl rfl rfl ?_
  refine x_getC dX11_sum_28 rfl fX11_11 hC rfl F_0_0 ?_
  refine x_iload_n (i := 3) dX11_sum_31 rfl rfl rfl ?_
  refine x_aaldC (t := 0) dX11_sum_32 rfl hC rfl (by decide) rfl (by omega) (by decide) (csF_slot hy) ?_
  refine x_iconst dX11_sum_33 rfl iC_1 ?_
  refine x_callV0 (ci := 7) (b := 10) (As := [_, _, _, _]) (d2 := d - 1) dX11_sum_34 rfl kX11_147 okX7_add (hC.o rfl) (fun q hq => by cases hq; rfl) (by omega) rfl rfl (Nat.le_of_ble_eq_true rfl) (c_sum (by omega) hC (csV_slot ht) (csV_slot hx) (csV_slot hy) (fun z hz h2 hC2 hS hv => ?_) (fun hz h2 hC2 hS => ?_))
  · refine x_callS0 (As := [_]) (d2 := d - 1) dX11_sum_37 rfl kX11_151 okX11_told (by omega) rfl rfl (Nat.le_of_ble_eq_true rfl) (c_told1 ?_)
    refine x_ireturn dX11_sum_40 rfl rfl ?_
    have sq := hS.sct (t := t) (by intro q hq; simp only [List.mem_cons, List.not_mem_nil, or_false] at hq; unfold scP; omega)
    exact K _ _ _ (by simp only [sp_sum, qt, qx, qy]; rw [sMay_map e]; exact sMay_some hz) (hR.set ht hC2 sq (by rw [hv]) (oAdd_bd hz)) (mF.sq sq (fun a => sct_lt ht))
  · refine x_callS0 (As := [_]) (d2 := d - 1) dX11_sum_37 rfl kX11_151 okX11_told (by omega) rfl rfl (Nat.le_of_ble_eq_true rfl) (c_told0 ?_)
    refine x_ireturn dX11_sum_40 rfl rfl ?_
    have sq := hS.sc (by intro q hq; simp only [List.mem_cons, List.not_mem_nil, or_false] at hq; unfold scP; omega)
    exact K _ _ _ (by simp only [sp_sum, qt, qx, qy]; rw [sMay_map e]; exact sMay_none hz) (hR.sc hC2 sq) (mF.sq sq (fun a => scP_lt))
theorem p_less {a1 a2 a3 : Int32} (hd : 10 ≤ d) (hR : RC b h S) (K : ∀ r S2 h2, sp_sum (-1) S a1 a2 a3 = (r, S2) → RC b h2 S2 → mF h h2 → Q (some (.int r)) h2) : xCt G l mX11_less d [.ref 0, .int a1, .int a2, .int a3] h 0 0 Q := by
  have hC := hR.1
  refine xCt_of (by decide) (Nat.le_of_ble_eq_true rfl) ?_
  refine x_iload_n (i := 1) dX11_less_0 rfl rfl rfl ?_
  refine x_iload_n (i := 2) dX11_less_1 rfl rfl rfl ?_
  refine x_iload_n (i := 3) dX11_less_2 rfl rfl rfl ?_
  refine x_callS0 (As := [_, _, _]) (d2 := d - 1) dX11_less_3 rfl kX11_144 okX11_areSlots_ (by omega) rfl rfl (Nat.le_of_ble_eq_true rfl) (c_areSlots3 (by omega) (fun z => ?_) (fun t x y ht hx hy et ex ey qt qx qy => ?_))
  · refine x_if_ne_f (tgt := 11) dX11_less_6 rfl rfl nI_0 ?_
    refine x_iconst dX11_less_9 rfl iC_m1 ?_
    refine x_ireturn dX11_less_10 rfl rfl ?_
    exact K _ _ _ (by rcases z with z | ⟨i, z0, z⟩ | ⟨i, i2, z0, z1, z⟩; exact (by simp only [sp_sum, z] <;> rfl); exact (by simp only [sp_sum, z0, z] <;> rfl); exact (by simp only [sp_sum, z0, z1, z] <;> rfl)) hR mF.rf
  subst et ex ey
  refine x_if_ne_t (tgt := 11) dX11_less_6 rfl nb1 ?_
  have e := oAdd_c (iv h (2 + x)) (iv h (2 + y)) (-1)
  rw [(hR.sl hx).1, (hR.sl hy).1] at e
  refine x_aload_n (i := 0) dX11_less_11 rfl rfl rfl ?_
  refine x_getC dX11_less_12 rfl fX11_17 hC rfl F_0_1 ?_
  refine x_aload_n (i := 0) dX11_less_15 rfl rfl rfl ?_
  refine x_getC dX11_less_16 rfl fX11_11 hC rfl F_0_0 ?_
  refine x_iload_n (i := 1) dX11_less_19 rfl rfl rfl ?_
  refine x_aaldC (t := 0) dX11_less_20 rfl hC rfl (by decide) rfl (by omega) (by decide) (csF_slot ht) ?_
  refine x_aload_n (i := 0) dX11_less_21 rfl rfl rfl ?_
  refine x_getC dX11_less_22 rfl fX11_11 hC rfl F_0_0 ?_
  refine x_iload_n (i := 2) dX11_less_25 rfl rfl rfl ?_
  refine x_aaldC (t := 0) dX11_less_26 rfl hC rfl (by decide) rfl (by omega) (by decide) (csF_slot hx) ?_
  refine x_aload_n (i := 0) dX11_less_27 rfl rfl rfl ?_
  refine x_getC dX11_less_28 rfl fX11_11 hC rfl F_0_0 ?_
  refine x_iload_n (i := 3) dX11_less_31 rfl rfl rfl ?_
  refine x_aaldC (t := 0) dX11_less_32 rfl hC rfl (by decide) rfl (by omega) (by decide) (csF_slot hy) ?_
  refine x_iconst dX11_less_33 rfl iC_m1 ?_
  refine x_callV0 (ci := 7) (b := 10) (As := [_, _, _, _]) (d2 := d - 1) dX11_less_34 rfl kX11_147 okX7_add (hC.o rfl) (fun q hq => by cases hq; rfl) (by omega) rfl rfl (Nat.le_of_ble_eq_true rfl) (c_sum (by omega) hC (csV_slot ht) (csV_slot hx) (csV_slot hy) (fun z hz h2 hC2 hS hv => ?_) (fun hz h2 hC2 hS => ?_))
  · refine x_callS0 (As := [_]) (d2 := d - 1) dX11_less_37 rfl kX11_151 okX11_told (by omega) rfl rfl (Nat.le_of_ble_eq_true rfl) (c_told1 ?_)
    refine x_ireturn dX11_less_40 rfl rfl ?_
    have sq := hS.sct (t := t) (by intro q hq; simp only [List.mem_cons, List.not_mem_nil, or_false] at hq; unfold scP; omega)
    exact K _ _ _ (by simp only [sp_sum, qt, qx, qy]; rw [sMay_map e]; exact sMay_some hz) (hR.set ht hC2 sq (by rw [hv]) (oAdd_bd hz)) (mF.sq sq (fun a => sct_lt ht))
  · refine x_callS0 (As := [_]) (d2 := d - 1) dX11_less_37 rfl kX11_151 okX11_told (by omega) rfl rfl (Nat.le_of_ble_eq_true rfl) (c_told0 ?_)
    refine x_ireturn dX11_less_40 rfl rfl ?_
    have sq := hS.sc (by intro q hq; simp only [List.mem_cons, List.not_mem_nil, or_false] at hq; unfold scP; omega)
    exact K _ _ _ (by simp only [sp_sum, qt, qx, qy]; rw [sMay_map e]; exact sMay_none hz) (hR.sc hC2 sq) (mF.sq sq (fun a => scP_lt))
theorem p_product {a1 a2 a3 : Int32} (hd : 10 ≤ d) (hR : RC b h S) (K : ∀ r S2 h2, sp_product S a1 a2 a3 = (r, S2) → RC b h2 S2 → mF h h2 → Q (some (.int r)) h2) : xCt G l mX11_product d [.ref 0, .int a1, .int a2, .int a3] h 0 0 Q := by
  have hC := hR.1
  refine xCt_of (by decide) (Nat.le_of_ble_eq_true rfl) ?_
  refine x_iload_n (i := 1) dX11_product_0 rfl rfl rfl ?_
  refine x_iload_n (i := 2) dX11_product_1 rfl rfl rfl ?_
  refine x_iload_n (i := 3) dX11_product_2 rfl rfl rfl ?_
  refine x_callS0 (As := [_, _, _]) (d2 := d - 1) dX11_product_3 rfl kX11_144 okX11_areSlots_ (by omega) rfl rfl (Nat.le_of_ble_eq_true rfl) (c_areSlots3 (by omega) (fun z => ?_) (fun t x y ht hx hy et ex ey qt qx qy => ?_))
  · refine x_if_ne_f (tgt := 11) dX11_product_6 rfl rfl nI_0 ?_
    refine x_iconst dX11_product_9 rfl iC_m1 ?_
    refine x_ireturn dX11_product_10 rfl rfl ?_
    exact K _ _ _ (by rcases z with z | ⟨i, z0, z⟩ | ⟨i, i2, z0, z1, z⟩; exact (by simp only [sp_product, z] <;> rfl); exact (by simp only [sp_product, z0, z] <;> rfl); exact (by simp only [sp_product, z0, z1, z] <;> rfl)) hR mF.rf
  subst et ex ey
  refine x_if_ne_t (tgt := 11) dX11_product_6 rfl nb1 ?_
  have e := hR.mul hx hy
  refine x_aload_n (i := 0) dX11_product_11 rfl rfl rfl ?_
  refine x_getC dX11_product_12 rfl fX11_17 hC rfl F_0_1 ?_
  refine x_aload_n (i := 0) dX11_product_15 rfl rfl rfl ?_
  refine x_getC dX11_product_16 rfl fX11_11 hC rfl F_0_0 ?_
  refine x_iload_n (i := 1) dX11_product_19 rfl rfl rfl ?_
  refine x_aaldC (t := 0) dX11_product_20 rfl hC rfl (by decide) rfl (by omega) (by decide) (csF_slot ht) ?_
  refine x_aload_n (i := 0) dX11_product_21 rfl rfl rfl ?_
  refine x_getC dX11_product_22 rfl fX11_11 hC rfl F_0_0 ?_
  refine x_iload_n (i := 2) dX11_product_25 rfl rfl rfl ?_
  refine x_aaldC (t := 0) dX11_product_26 rfl hC rfl (by decide) rfl (by omega) (by decide) (csF_slot hx) ?_
  refine x_aload_n (i := 0) dX11_product_27 rfl rfl rfl ?_
  refine x_getC dX11_product_28 rfl fX11_11 hC rfl F_0_0 ?_
  refine x_iload_n (i := 3) dX11_product_31 rfl rfl rfl ?_
  refine x_aaldC (t := 0) dX11_product_32 rfl hC rfl (by decide) rfl (by omega) (by decide) (csF_slot hy) ?_
  refine x_callV0 (ci := 7) (b := 10) (As := [_, _, _]) (d2 := d - 1) dX11_product_33 rfl kX11_155 okX7_multiply (hC.o rfl) (fun q hq => by cases hq; rfl) (by omega) rfl rfl (Nat.le_of_ble_eq_true rfl) (c_mul (by omega) hC (csV_slot ht) (csV_slot hx) (csV_slot hy) (fun z hz h2 hC2 hS hv => ?_) (fun hz h2 hC2 hS => ?_))
  · refine x_callS0 (As := [_]) (d2 := d - 1) dX11_product_36 rfl kX11_151 okX11_told (by omega) rfl rfl (Nat.le_of_ble_eq_true rfl) (c_told1 ?_)
    refine x_ireturn dX11_product_39 rfl rfl ?_
    have sq := hS.sct (t := t) (by intro q hq; simp only [List.mem_cons, List.not_mem_nil, or_false] at hq; unfold scP; omega)
    exact K _ _ _ (by simp only [sp_product, qt, qx, qy]; exact sMay_some (e ▸ hz)) (hR.set ht hC2 sq (by rw [hv]) (oMul_bd hz)) (mF.sq sq (fun a => sct_lt ht))
  · refine x_callS0 (As := [_]) (d2 := d - 1) dX11_product_36 rfl kX11_151 okX11_told (by omega) rfl rfl (Nat.le_of_ble_eq_true rfl) (c_told0 ?_)
    refine x_ireturn dX11_product_39 rfl rfl ?_
    have sq := hS.sc (by intro q hq; simp only [List.mem_cons, List.not_mem_nil, or_false] at hq; unfold scP; omega)
    exact K _ _ _ (by simp only [sp_product, qt, qx, qy]; exact sMay_none (e ▸ hz)) (hR.sc hC2 sq) (mF.sq sq (fun a => scP_lt))
theorem p_mirror {a1 a2 : Int32} (hd : 10 ≤ d) (hR : RC b h S) (K : ∀ r S2 h2, sp_mirror S a1 a2 = (r, S2) → RC b h2 S2 → mF h h2 → Q (some (.int r)) h2) : xCt G l mX11_mirror d [.ref 0, .int a1, .int a2] h 0 0 Q := by
  have hC := hR.1
  refine xCt_of (by decide) (Nat.le_of_ble_eq_true rfl) ?_
  refine x_iload_n (i := 1) dX11_mirror_0 rfl rfl rfl ?_
  refine x_iload_n (i := 2) dX11_mirror_1 rfl rfl rfl ?_
  refine x_callS0 (As := [_, _]) (d2 := d - 1) dX11_mirror_2 rfl kX11_132 okX11_areSlots (by omega) rfl rfl (Nat.le_of_ble_eq_true rfl) (c_areSlots2 (by omega) (fun z => ?_) (fun t x ht hx et ex qt qx => ?_))
  · refine x_if_ne_f (tgt := 10) dX11_mirror_5 rfl rfl nI_0 ?_
    refine x_iconst dX11_mirror_8 rfl iC_m1 ?_
    refine x_ireturn dX11_mirror_9 rfl rfl ?_
    exact K _ _ _ (by rcases z with z | ⟨i, z0, z⟩; exact (by simp only [sp_mirror, z] <;> rfl); exact (by simp only [sp_mirror, z0, z] <;> rfl)) hR mF.rf
  subst et ex
  refine x_if_ne_t (tgt := 10) dX11_mirror_5 rfl nb1 ?_
  have vt := hC.v (csV_slot ht)
  have vx := hC.v (csV_slot hx)
  have hsl := hR.sl hx
  refine x_aload_n (i := 0) dX11_mirror_10 rfl rfl rfl ?_
  refine x_getC dX11_mirror_11 rfl fX11_11 hC rfl F_0_0 ?_
  refine x_iload_n (i := 1) dX11_mirror_14 rfl rfl rfl ?_
  refine x_aaldC (t := 0) dX11_mirror_15 rfl hC rfl (by decide) rfl (by omega) (by decide) (csF_slot ht) ?_
  refine x_aload_n (i := 0) dX11_mirror_16 rfl rfl rfl ?_
  refine x_getC dX11_mirror_17 rfl fX11_11 hC rfl F_0_0 ?_
  refine x_iload_n (i := 2) dX11_mirror_20 rfl rfl rfl ?_
  refine x_aaldC (t := 0) dX11_mirror_21 rfl hC rfl (by decide) rfl (by omega) (by decide) (csF_slot hx) ?_
  refine x_callS0 (As := [_, _]) (d2 := d - 1) dX11_mirror_22 rfl kX11_159 okX5_layMirrored (by omega) rfl rfl (Nat.le_of_ble_eq_true rfl) (c_layMirrored vt vx ?_)
  refine x_iconst dX11_mirror_25 rfl iC_1 ?_
  refine x_ireturn dX11_mirror_26 rfl rfl ?_
  have sq : xSq (fun a => scP a ∨ a = 2 + t) h (hs h (2 + t) (0, 8, xI (zMir (iv h (2 + x))))) := xSm.hs1.sct (by intro q hq; simp only [List.mem_cons, List.not_mem_nil, or_false] at hq; unfold scP; omega)
  exact K _ _ _ (by simp only [sp_mirror, qt, qx]; rfl) (hR.set ht (hC.setI vt (Or.inl rfl) (by omega)) sq (by rw [iv_hs, ← hsl.1, zMir_c]) (zBd_mir (by rw [← hsl.1]; exact zBd_c8.mpr hsl.2))) (mF.sq sq (fun a => sct_lt ht))
theorem p_times {a1 a2 n : Int32} (hd : 10 ≤ d) (hR : RC b h S) (K : ∀ r S2 h2, sp_times S a1 a2 n = (r, S2) → RC b h2 S2 → mF h h2 → Q (some (.int r)) h2) : xCt G l mX11_times d [.ref 0, .int a1, .int a2, .int n] h 0 0 Q := by
  have hC := hR.1
  refine xCt_of (by decide) (Nat.le_of_ble_eq_true rfl) ?_
  refine x_iload_n (i := 1) dX11_times_0 rfl rfl rfl ?_
  refine x_iload_n (i := 2) dX11_times_1 rfl rfl rfl ?_
  refine x_callS0 (As := [_, _]) (d2 := d - 1) dX11_times_2 rfl kX11_132 okX11_areSlots (by omega) rfl rfl (Nat.le_of_ble_eq_true rfl) (c_areSlots2 (by omega) (fun z => ?_) (fun t x ht hx et ex qt qx => ?_))
  · refine x_if_eq_t (tgt := 22) dX11_times_5 rfl nI_0 ?_
    refine x_iconst dX11_times_22 rfl iC_m1 ?_
    refine x_ireturn dX11_times_23 rfl rfl ?_
    exact K _ _ _ (by rcases z with z | ⟨i, z0, z⟩; exact (by simp only [sp_times, z] <;> rfl); exact (by simp only [sp_times, z0, z] <;> rfl)) hR mF.rf
  subst et ex
  refine x_if_eq_f (tgt := 22) dX11_times_5 rfl rfl nb1 ?_
  refine x_iload_n (i := 3) dX11_times_8 rfl rfl rfl ?_
  refine x_sipush dX11_times_9 rfl sC_m1000 ?_
  refine x_ic_lt (tgt := 22) dX11_times_12 rfl rfl (fun c12 => ?_) (fun c12 => ?_)
  · refine x_iconst dX11_times_22 rfl iC_m1 ?_
    refine x_ireturn dX11_times_23 rfl rfl ?_
    exact K _ _ _ (by simp only [sp_times, qt, qx]; exact if_neg (fun z => Int32.not_le.mpr c12 z.1)) hR mF.rf
  refine x_iload_n (i := 3) dX11_times_15 rfl rfl rfl ?_
  refine x_sipush dX11_times_16 rfl sC_1000 ?_
  refine x_ic_le (tgt := 24) dX11_times_19 rfl rfl (fun c19 => ?_) (fun c19 => ?_)
  rotate_left
  · refine x_iconst dX11_times_22 rfl iC_m1 ?_
    refine x_ireturn dX11_times_23 rfl rfl ?_
    exact K _ _ _ (by simp only [sp_times, qt, qx]; exact if_neg (fun z => c19 z.2)) hR mF.rf
  have e := oScale_c n (iv h (2 + x))
  rw [(hR.sl hx).1] at e
  have en : sp_times S (nI t) (nI x) n = sMay S t (oScale n (S.1 x)) := by
    simp only [sp_times, qt, qx]
    exact if_pos ⟨Int32.not_lt.mp c12, c19⟩
  refine x_aload_n (i := 0) dX11_times_24 rfl rfl rfl ?_
  refine x_getC dX11_times_25 rfl fX11_17 hC rfl F_0_1 ?_
  refine x_aload_n (i := 0) dX11_times_28 rfl rfl rfl ?_
  refine x_getC dX11_times_29 rfl fX11_11 hC rfl F_0_0 ?_
  refine x_iload_n (i := 1) dX11_times_32 rfl rfl rfl ?_
  refine x_aaldC (t := 0) dX11_times_33 rfl hC rfl (by decide) rfl (by omega) (by decide) (csF_slot ht) ?_
  refine x_aload_n (i := 0) dX11_times_34 rfl rfl rfl ?_
  refine x_getC dX11_times_35 rfl fX11_11 hC rfl F_0_0 ?_
  refine x_iload_n (i := 2) dX11_times_38 rfl rfl rfl ?_
  refine x_aaldC (t := 0) dX11_times_39 rfl hC rfl (by decide) rfl (by omega) (by decide) (csF_slot hx) ?_
  refine x_iload_n (i := 3) dX11_times_40 rfl rfl rfl ?_
  refine x_callV0 (ci := 7) (b := 10) (As := [_, _, _]) (d2 := d - 1) dX11_times_41 rfl kX11_162 okX7_scale (hC.o rfl) (fun q hq => by cases hq; rfl) (by omega) rfl rfl (Nat.le_of_ble_eq_true rfl) (c_scl (by omega) hC (csV_slot ht) (csV_slot hx) (fun z hz h2 hC2 hS hv => ?_) (fun hz h2 hC2 hS => ?_))
  · refine x_callS0 (As := [_]) (d2 := d - 1) dX11_times_44 rfl kX11_151 okX11_told (by omega) rfl rfl (Nat.le_of_ble_eq_true rfl) (c_told1 ?_)
    refine x_ireturn dX11_times_47 rfl rfl ?_
    have sq := hS.sct (t := t) (by intro q hq; simp only [List.mem_cons, List.not_mem_nil, or_false] at hq; unfold scP; omega)
    exact K _ _ _ (by rw [en, sMay_map e]; exact sMay_some hz) (hR.set ht hC2 sq (by rw [hv]) (oScale_bd hz)) (mF.sq sq (fun a => sct_lt ht))
  · refine x_callS0 (As := [_]) (d2 := d - 1) dX11_times_44 rfl kX11_151 okX11_told (by omega) rfl rfl (Nat.le_of_ble_eq_true rfl) (c_told0 ?_)
    refine x_ireturn dX11_times_47 rfl rfl ?_
    have sq := hS.sc (by intro q hq; simp only [List.mem_cons, List.not_mem_nil, or_false] at hq; unfold scP; omega)
    exact K _ _ _ (by rw [en, sMay_map e]; exact sMay_none hz) (hR.sc hC2 sq) (mF.sq sq (fun a => scP_lt))
theorem RC.turn {b : Bool} {h : xH} {S : St} (hR : RC b h S) {x y how : Nat} (hx : x < 8) (hy : y < 8) : oTurn (iv h (2 + x)) (iv h (2 + y)) how = oTurn (S.1 x) (S.1 y) how := by rw [← (hR.sl hx).1, ← (hR.sl hy).1, oTurn_c]
theorem p_turn {a1 a2 a3 n : Int32} (hd : 10 ≤ d) (hR : RC b h S) (K : ∀ r S2 h2, sp_turn S a1 a2 a3 n = (r, S2) → RC b h2 S2 → mF h h2 → Q (some (.int r)) h2) : xCt G l mX11_turn d [.ref 0, .int a1, .int a2, .int a3, .int n] h 0 0 Q := by
  have hC := hR.1
  refine xCt_of (by decide) (Nat.le_of_ble_eq_true rfl) ?_
  refine x_iload_n (i := 1) dX11_turn_0 rfl rfl rfl ?_
  refine x_iload_n (i := 2) dX11_turn_1 rfl rfl rfl ?_
  refine x_iload_n (i := 3) dX11_turn_2 rfl rfl rfl ?_
  refine x_callS0 (As := [_, _, _]) (d2 := d - 1) dX11_turn_3 rfl kX11_144 okX11_areSlots_ (by omega) rfl rfl (Nat.le_of_ble_eq_true rfl) (c_areSlots3 (by omega) (fun z => ?_) (fun t x y ht hx hy et ex ey qt qx qy => ?_))
  · refine x_if_eq_t (tgt := 17) dX11_turn_6 rfl nI_0 ?_
    refine x_iconst dX11_turn_17 rfl iC_m1 ?_
    refine x_ireturn dX11_turn_18 rfl rfl ?_
    exact K _ _ _ (by rcases z with z | ⟨i, z0, z⟩ | ⟨i, i2, z0, z1, z⟩; exact (by simp only [sp_turn, z] <;> rfl); exact (by simp only [sp_turn, z0, z] <;> rfl); exact (by simp only [sp_turn, z0, z1, z] <;> rfl)) hR mF.rf
  subst et ex ey
  refine x_if_eq_f (tgt := 17) dX11_turn_6 rfl rfl nb1 ?_
  refine x_iload dX11_turn_9 rfl rfl ?_
  refine x_callS0 (As := [_]) (d2 := d - 1) dX11_turn_11 rfl kX11_166 okX11_isTurn (by omega) rfl rfl (Nat.le_of_ble_eq_true rfl) (c_isTurn (fun z => ?_) (fun w hw ew qw => ?_))
  · refine x_if_ne_f (tgt := 19) dX11_turn_14 rfl rfl nI_0 ?_
    refine x_iconst dX11_turn_17 rfl iC_m1 ?_
    refine x_ireturn dX11_turn_18 rfl rfl ?_
    exact K _ _ _ (by simp only [sp_turn, qt, qx, qy, z] <;> rfl) hR mF.rf
  subst ew
  refine x_if_ne_t (tgt := 19) dX11_turn_14 rfl nb1 ?_
  have e := hR.turn (how := w) hx hy
  refine x_aload_n (i := 0) dX11_turn_19 rfl rfl rfl ?_
  refine x_getC dX11_turn_20 rfl fX11_17 hC rfl F_0_1 ?_
  refine x_aload_n (i := 0) dX11_turn_23 rfl rfl rfl ?_
  refine x_getC dX11_turn_24 rfl fX11_11 hC rfl F_0_0 ?_
  refine x_iload_n (i := 1) dX11_turn_27 rfl rfl rfl ?_
  refine x_aaldC (t := 0) dX11_turn_28 rfl hC rfl (by decide) rfl (by omega) (by decide) (csF_slot ht) ?_
  refine x_aload_n (i := 0) dX11_turn_29 rfl rfl rfl ?_
  refine x_getC dX11_turn_30 rfl fX11_11 hC rfl F_0_0 ?_
  refine x_iload_n (i := 2) dX11_turn_33 rfl rfl rfl ?_
  refine x_aaldC (t := 0) dX11_turn_34 rfl hC rfl (by decide) rfl (by omega) (by decide) (csF_slot hx) ?_
  refine x_aload_n (i := 0) dX11_turn_35 rfl rfl rfl ?_
  refine x_getC dX11_turn_36 rfl fX11_11 hC rfl F_0_0 ?_
  refine x_iload_n (i := 3) dX11_turn_39 rfl rfl rfl ?_
  refine x_aaldC (t := 0) dX11_turn_40 rfl hC rfl (by decide) rfl (by omega) (by decide) (csF_slot hy) ?_
  refine x_iload dX11_turn_41 rfl rfl ?_
  refine x_callV0 (ci := 7) (b := 10) (As := [_, _, _, _]) (d2 := d - 1) dX11_turn_43 rfl kX11_169 okX7_turnBy (hC.o rfl) (fun q hq => by cases hq; rfl) (by omega) rfl rfl (Nat.le_of_ble_eq_true rfl) (c_turnBy (by omega) hC (csV_slot ht) (csV_slot hx) (csV_slot hy) hw ⟨by omega, by omega⟩ (by omega) (fun z hz h2 hC2 hS hv => ?_) (fun hz h2 hC2 hS => ?_))
  · refine x_callS0 (As := [_]) (d2 := d - 1) dX11_turn_46 rfl kX11_151 okX11_told (by omega) rfl rfl (Nat.le_of_ble_eq_true rfl) (c_told1 ?_)
    refine x_ireturn dX11_turn_49 rfl rfl ?_
    have sq := hS.sct (t := t) (by intro q hq; simp only [List.mem_cons, List.not_mem_nil, or_false] at hq; unfold scP; omega)
    exact K _ _ _ (by simp only [sp_turn, qt, qx, qy, qw]; exact sMay_some (e ▸ hz)) (hR.set ht hC2 sq (by rw [hv]) (oTurn_bd hz)) (mF.sq sq (fun a => sct_lt ht))
  · refine x_callS0 (As := [_]) (d2 := d - 1) dX11_turn_46 rfl kX11_151 okX11_told (by omega) rfl rfl (Nat.le_of_ble_eq_true rfl) (c_told0 ?_)
    refine x_ireturn dX11_turn_49 rfl rfl ?_
    have sq := hS.sc (by intro q hq; simp only [List.mem_cons, List.not_mem_nil, or_false] at hq; unfold scP; omega)
    exact K _ _ _ (by simp only [sp_turn, qt, qx, qy, qw]; exact sMay_none (e ▸ hz)) (hR.sc hC2 sq) (mF.sq sq (fun a => scP_lt))
end PUB

