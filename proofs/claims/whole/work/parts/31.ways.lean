/-! EightParts$Ways -/
/-- nothing but what P names has changed -/
def xSq (P : Nat → Prop) (h h2 : xH) : Prop := h2.2 = h.2 ∧ ∀ a, ¬ P a → h2.1 a = h.1 a
theorem xSq.rf {P : Nat → Prop} {h : xH} : xSq P h h := ⟨rfl, fun _ _ => rfl⟩
theorem xSq.tr {P : Nat → Prop} {h h2 h3 : xH} (a : xSq P h h2) (b : xSq P h2 h3) : xSq P h h3 := ⟨b.1.trans a.1, fun q hq => (b.2 q hq).trans (a.2 q hq)⟩
theorem xSq.iv {P : Nat → Prop} {h h2 : xH} (s : xSq P h h2) {a : Nat} (ha : ¬ P a) : _root_.Jvm.Pilot.@@N@@.iv h2 a = _root_.Jvm.Pilot.@@N@@.iv h a := by
  unfold _root_.Jvm.Pilot.@@N@@.iv
  rw [s.2 a ha]
theorem xSm.sq {S : List Nat} {P : Nat → Prop} {h h2 : xH} (s : xSm S h h2) (hp : ∀ a ∈ S, P a) : xSq P h h2 := ⟨s.1, fun a ha => s.2 a (fun z => ha (hp a z))⟩
theorem xSq.mn {P R : Nat → Prop} {h h2 : xH} (s : xSq P h h2) (hp : ∀ a, P a → R a) : xSq R h h2 := ⟨s.1, fun a ha => s.2 a (fun z => ha (hp a z))⟩
def xV8 (h : xH) (a : Nat) : Prop := h.1 a = (0, 8, xI (iv h a))
section WAYS
variable {G : xG} {l : Launch} {d : Nat} {h : xH} {Q : Option Value → xH → Prop}
theorem c_mulG {t a b : Nat} {fa fb : Nat → Int32} (hd : 1 ≤ d) (hC : Cs h) (vt : xV8 h t) (va : xV8 h a) (vb : xV8 h b) (t1 : t ≠ 111) (ea : iv h a = fa) (eb : iv h b = fb)
    (Kt : ∀ z, oMul fa fb = some z → ∀ h2, Cs h2 → xSm [11, t] h h2 → iv h2 t = z → xV8 h2 t → Q (some (.int (nI 1))) h2)
    (Kf : oMul fa fb = none → ∀ h2, Cs h2 → xSm [11] h h2 → Q (some (.int (nI 0))) h2) : xCt G l mX7_multiply d [.ref 10, .ref t, .ref a, .ref b] h 0 0 Q := by
  subst ea eb
  unfold xV8 at vt va vb
  have v11 := hC.j (a := 11) rfl
  have ta : t ≠ 11 := by
    intro e
    rw [e, v11] at vt
    exact absurd (congrArg (fun q => q.1) vt) (show (1 : Nat) ≠ 0 by decide)
  refine xCt_of (by decide) (Nat.le_of_ble_eq_true rfl) ?_
  refine x_aload_n (i := 0) dX7_multiply_0 rfl rfl rfl ?_
  refine x_getC dX7_multiply_1 rfl fX7_9 hC rfl F_10_0 ?_
  refine x_aload_n (i := 2) dX7_multiply_4 rfl rfl rfl ?_
  refine x_aload_n (i := 3) dX7_multiply_5 rfl rfl rfl ?_
  refine x_callS0 (As := [_, _, _]) (d2 := d - 1) dX7_multiply_6 rfl kX7_28 okX5_multiplyBy4 (by omega) rfl rfl (Nat.le_of_ble_eq_true rfl) (c_multiplyBy4 v11 va vb ?_)
  have hC1 := hC.setJ (f := zM4 (iv h a) (iv h b)) v11
  refine x_aload_n (i := 0) dX7_multiply_9 rfl rfl rfl ?_
  refine x_getC dX7_multiply_10 rfl fX7_9 hC1 rfl F_10_0 ?_
  refine x_callS0 (As := [_]) (d2 := d - 1) dX7_multiply_13 rfl kX7_32 okX5_halve (by omega) rfl rfl (Nat.le_of_ble_eq_true rfl) (c_halve hs_eq (fun z => ?_) (fun w z => ?_))
  · rw [hs_hs]
    have hC2 := hC.setJ (f := zHalf (zM4 (iv h a) (iv h b))) v11
    refine x_if_eq (tgt := 34) dX7_multiply_16 rfl rfl (fun c16 => ?_) (fun c16 => ?_)
    · exact absurd c16 (by decide)
    · refine x_aload_n (i := 1) dX7_multiply_19 rfl rfl rfl ?_
      refine x_aload_n (i := 0) dX7_multiply_20 rfl rfl rfl ?_
      refine x_getC dX7_multiply_21 rfl fX7_9 hC2 rfl F_10_0 ?_
      refine x_callS0 (As := [_, _]) (d2 := d - 1) dX7_multiply_24 rfl kX7_22 okX5_layIfWithin (by omega) rfl rfl (Nat.le_of_ble_eq_true rfl) (c_layIfWithin (hs_ne ta vt) hs_eq (fun z2 => ?_) (fun z2 => ?_))
      · refine x_if_eq (tgt := 34) dX7_multiply_27 rfl rfl (fun c27 => ?_) (fun c27 => ?_)
        · exact absurd c27 (by decide)
        · refine x_iconst dX7_multiply_30 rfl iC_1 ?_
          refine x_goto (tgt := 35) dX7_multiply_31 rfl ?_
          refine x_ireturn dX7_multiply_35 rfl rfl ?_
          refine Kt _ (zIf_t ⟨z, z2⟩) _ (hC2.setI (hs_ne ta vt) (Or.inl rfl) t1) xSm.hs2 iv_hs ?_
          unfold xV8
          rw [iv_hs, hs_eq]
      · refine x_if_eq (tgt := 34) dX7_multiply_27 rfl rfl (fun c27 => ?_) (fun c27 => ?_)
        · refine x_iconst dX7_multiply_34 rfl iC_0 ?_
          refine x_ireturn dX7_multiply_35 rfl rfl ?_
          exact Kf (zIf_f (fun q => z2 q.2)) _ hC2 xSm.hs1
        · exact absurd nI_0 c27
  · rw [hs_hs]
    refine x_if_eq (tgt := 34) dX7_multiply_16 rfl rfl (fun c16 => ?_) (fun c16 => ?_)
    · refine x_iconst dX7_multiply_34 rfl iC_0 ?_
      refine x_ireturn dX7_multiply_35 rfl rfl ?_
      exact Kf (zIf_f (fun q => z q.1)) _ (hC.setJ v11) xSm.hs1
    · exact absurd nI_0 c16
end WAYS
/-- the rows of Ways are laid, at p -/
def wyR (h : xH) (p : Nat) : Prop := (h.1 53).2.2 1 = .ref p ∧ 134 ≤ p ∧ p + 105 ≤ h.2 ∧ h.1 p = (4, 104, xP (fun i => p + 1 + i)) ∧ ∀ i, i < 104 → xV8 h (p + 1 + i)
/-- what they hold -/
def wyV (h : xH) (p : Nat) (V : Nat → zO) : Prop := ∀ i, i < 104 → (V i = some (iv h (p + 1 + i)) ∧ iv h 55 i = nI 1) ∨ (V i = none ∧ iv h 55 i = nI 0)
def wyP (p a : Nat) : Prop := a = 11 ∨ a = 55 ∨ (p < a ∧ a ≤ p + 104)
def vUpd (V : Nat → zO) (i : Nat) (x : zO) : Nat → zO := fun j => if j = i then x else V j
noncomputable def vMul (x y : zO) : zO := x.bind (fun f => y.bind (fun g => oMul f g))
theorem wyR.sq {h h2 : xH} {p : Nat} (r : wyR h p) (s : xSq (wyP p) h h2) (hr : ∀ i, i < 104 → xV8 h2 (p + 1 + i)) : wyR h2 p := by
  obtain ⟨r1, r2, r3, r4, r5⟩ := r
  refine ⟨?_, r2, by rw [s.1]; exact r3, ?_, hr⟩
  · rw [s.2 53 (by unfold wyP; omega)]
    exact r1
  · rw [s.2 p (by unfold wyP; omega)]
    exact r4
section WAYS
variable {G : xG} {l : Launch} {d : Nat} {h : xH} {Q : Option Value → xH → Prop}
theorem c_join {p i a b : Nat} {V : Nat → zO} (hd : 2 ≤ d) (hC : Cs h) (hR : wyR h p) (hV : wyV h p V) (hi : i < 104) (ha : a < 104) (hb : b < 104)
    (K : ∀ h2, Cs h2 → wyR h2 p → xSq (wyP p) h h2 → wyV h2 p (vUpd V i (vMul (V a) (V b))) → Q none h2) : xCt G l mX10_join d [.ref 53, .int (nI i), .int (nI a), .int (nI b)] h 0 0 Q := by
  have v55 := hC.z (a := 55) rfl
  obtain ⟨r1, r2, r3, r4, r5⟩ := hR
  have hR : wyR h p := ⟨r1, r2, r3, r4, r5⟩
  -- the end: can[i] is laid
  have fin0 : ∀ h2, Cs h2 → xSq (wyP p) h h2 → iv h2 55 = iv h 55 → (∀ j, j < 104 → xV8 h2 (p + 1 + j)) → (∀ j, j < 104 → iv h2 (p + 1 + j) = iv h (p + 1 + j)) → vMul (V a) (V b) = none → Q none (hs h2 55 (2, 104, xI (upd (iv h 55) i (nI 0)))) := by
    intro h2 hC2 s2 e55 x8 ev en
    have v55' := hC2.z (a := 55) rfl
    have s3 : xSq (wyP p) h (hs h2 55 (2, 104, xI (upd (iv h 55) i (nI 0)))) := s2.tr ((xSm.hs1).sq (by intro a ha; simp at ha; unfold wyP; omega))
    have x8' : ∀ j, j < 104 → xV8 (hs h2 55 (2, 104, xI (upd (iv h 55) i (nI 0)))) (p + 1 + j) := by
      intro j hj
      unfold xV8
      rw [hs_n (by omega), iv_n (by omega)]
      exact x8 j hj
    refine K _ (hC2.setI v55' (Or.inr (Or.inl rfl)) (by decide)) (hR.sq s3 x8') s3 (fun j hj => ?_)
    rw [iv_hs, iv_n (by omega), ev j hj]
    unfold vUpd upd
    by_cases e : j = i
    · subst e
      refine Or.inr ⟨by rw [if_pos rfl]; exact en, by simp⟩
    · simp only [e, if_false, beq_iff_eq]
      exact hV j hj
  refine xCt_of (by decide) (Nat.le_of_ble_eq_true rfl) ?_
  refine x_aload_n (i := 0) dX10_join_0 rfl rfl rfl ?_
  refine x_getC dX10_join_1 rfl fX10_16 hC rfl F_53_2 ?_
  refine x_iload_n (i := 1) dX10_join_4 rfl rfl rfl ?_
  refine x_aload_n (i := 0) dX10_join_5 rfl rfl rfl ?_
  refine x_getC dX10_join_6 rfl fX10_16 hC rfl F_53_2 ?_
  refine x_iload_n (i := 2) dX10_join_9 rfl rfl rfl ?_
  rcases hV a ha with ⟨va, ea⟩ | ⟨va, ea⟩
  · refine x_zald dX10_join_10 rfl (by first | assumption | exact hs_eq | exact hs_ne (by first | assumption | decide | omega) (by first | assumption | exact hs_eq | exact hs_ne (by first | assumption | decide | omega) (by first | assumption | exact hs_eq | exact hs_ne (by first | assumption | decide | omega) (by assumption)))) rfl (by omega) (by decide) ?_
    refine x_if_eq_f (tgt := 55) dX10_join_11 rfl rfl (by rw [ea]; exact nb1) ?_
    refine x_aload_n (i := 0) dX10_join_14 rfl rfl rfl ?_
    refine x_getC dX10_join_15 rfl fX10_16 hC rfl F_53_2 ?_
    refine x_iload_n (i := 3) dX10_join_18 rfl rfl rfl ?_
    rcases hV b hb with ⟨vb, eb⟩ | ⟨vb, eb⟩
    · refine x_zald dX10_join_19 rfl (by first | assumption | exact hs_eq | exact hs_ne (by first | assumption | decide | omega) (by first | assumption | exact hs_eq | exact hs_ne (by first | assumption | decide | omega) (by first | assumption | exact hs_eq | exact hs_ne (by first | assumption | decide | omega) (by assumption)))) rfl (by omega) (by decide) ?_
      refine x_if_eq_f (tgt := 55) dX10_join_20 rfl rfl (by rw [eb]; exact nb1) ?_
      refine x_aload_n (i := 0) dX10_join_23 rfl rfl rfl ?_
      refine x_getC dX10_join_24 rfl fX10_20 hC rfl F_53_0 ?_
      refine x_aload_n (i := 0) dX10_join_27 rfl rfl rfl ?_
      refine x_getM (a := 53) dX10_join_28 rfl fX10_11 hC rfl r1 ?_
      refine x_iload_n (i := 1) dX10_join_31 rfl rfl rfl ?_
      refine x_aald (t := 0)  dX10_join_32 rfl r4 (by decide) rfl (by omega) (by decide) ?_
      refine x_aload_n (i := 0) dX10_join_33 rfl rfl rfl ?_
      refine x_getM (a := 53) dX10_join_34 rfl fX10_11 hC rfl r1 ?_
      refine x_iload_n (i := 2) dX10_join_37 rfl rfl rfl ?_
      refine x_aald (t := 0)  dX10_join_38 rfl r4 (by decide) rfl (by omega) (by decide) ?_
      refine x_aload_n (i := 0) dX10_join_39 rfl rfl rfl ?_
      refine x_getM (a := 53) dX10_join_40 rfl fX10_11 hC rfl r1 ?_
      refine x_iload_n (i := 3) dX10_join_43 rfl rfl rfl ?_
      refine x_aald (t := 0)  dX10_join_44 rfl r4 (by decide) rfl (by omega) (by decide) ?_
      refine x_callV0 (ci := 7) (b := 10) (As := [_, _, _]) (d2 := d - 1) dX10_join_45 rfl kX10_60 okX7_multiply (hC.o rfl) (fun q hq => by cases hq; rfl) (by omega) rfl rfl (Nat.le_of_ble_eq_true rfl) (c_mulG (by omega) hC (r5 i hi) (r5 a ha) (r5 b hb) (by omega) rfl rfl (fun z hz h2 hC2 hS2 e2 x2 => ?_) (fun hz h2 hC2 hS2 => ?_))
      · have e55 : iv h2 55 = iv h 55 := hS2.iv (by simp; omega)
        have v55' := hC2.z (a := 55) rfl
        rw [e55] at v55'
        have s2 : xSq (wyP p) h h2 := hS2.sq (by intro a ha; simp at ha; unfold wyP; omega)
        refine x_if_eq_f (tgt := 55) dX10_join_48 rfl rfl nb1 ?_
        refine x_iconst dX10_join_51 rfl iC_1 ?_
        refine x_goto (tgt := 56) dX10_join_52 rfl ?_
        refine x_zast dX10_join_56 rfl v55' rfl (by omega) (by decide) (by decide) ?_
        refine x_return dX10_join_57 rfl ?_
        have s3 : xSq (wyP p) h (hs h2 55 (2, 104, xI (upd (iv h 55) i (nI 1)))) := s2.tr ((xSm.hs1).sq (by intro a ha; simp at ha; unfold wyP; omega))
        have x8' : ∀ j, j < 104 → xV8 (hs h2 55 (2, 104, xI (upd (iv h 55) i (nI 1)))) (p + 1 + j) := by
          intro j hj
          unfold xV8
          rw [hs_n (by omega), iv_n (by omega)]
          by_cases e : j = i
          · subst e
            exact x2
          · have := r5 j hj
            unfold xV8 at this
            rw [hS2.2 (p + 1 + j) (by simp; omega), hS2.iv (by simp; omega)]
            exact this
        refine K _ (hC2.setI v55' (Or.inr (Or.inl rfl)) (by decide)) (hR.sq s3 x8') s3 (fun j hj => ?_)
        rw [iv_hs, iv_n (by omega)]
        unfold vUpd upd
        by_cases e : j = i
        · subst e
          refine Or.inl ⟨?_, by simp⟩
          rw [if_pos rfl, va, vb, e2]
          exact hz
        · simp only [e, if_false, beq_iff_eq]
          rw [hS2.iv (by simp; omega)]
          exact hV j hj
      · have e55 : iv h2 55 = iv h 55 := hS2.iv (by simp)
        have v55' := hC2.z (a := 55) rfl
        rw [e55] at v55'
        refine x_if_eq_t (tgt := 55) dX10_join_48 rfl nI_0 ?_
        refine x_iconst dX10_join_55 rfl iC_0 ?_
        refine x_zast dX10_join_56 rfl v55' rfl (by omega) (by decide) (by decide) ?_
        refine x_return dX10_join_57 rfl ?_
        refine fin0 h2 hC2 (hS2.sq (by intro a ha; simp at ha; unfold wyP; omega)) e55 (fun j hj => ?_) (fun j hj => hS2.iv (by simp; omega)) ?_
        · have := r5 j hj
          unfold xV8 at this ⊢
          rw [hS2.2 (p + 1 + j) (by simp; omega), hS2.iv (by simp; omega)]
          exact this
        · rw [va, vb]
          exact hz
    · refine x_zald dX10_join_19 rfl (by first | assumption | exact hs_eq | exact hs_ne (by first | assumption | decide | omega) (by first | assumption | exact hs_eq | exact hs_ne (by first | assumption | decide | omega) (by first | assumption | exact hs_eq | exact hs_ne (by first | assumption | decide | omega) (by assumption)))) rfl (by omega) (by decide) ?_
      refine x_if_eq_t (tgt := 55) dX10_join_20 rfl (by rw [eb]; exact nI_0) ?_
      refine x_iconst dX10_join_55 rfl iC_0 ?_
      refine x_zast dX10_join_56 rfl (by first | assumption | exact hs_eq | exact hs_ne (by first | assumption | decide | omega) (by first | assumption | exact hs_eq | exact hs_ne (by first | assumption | decide | omega) (by first | assumption | exact hs_eq | exact hs_ne (by first | assumption | decide | omega) (by assumption)))) rfl (by omega) (by decide) (by decide) ?_
      refine x_return dX10_join_57 rfl ?_
      exact fin0 h hC xSq.rf rfl r5 (fun _ _ => rfl) (by rw [va, vb]; rfl)
  · refine x_zald dX10_join_10 rfl (by first | assumption | exact hs_eq | exact hs_ne (by first | assumption | decide | omega) (by first | assumption | exact hs_eq | exact hs_ne (by first | assumption | decide | omega) (by first | assumption | exact hs_eq | exact hs_ne (by first | assumption | decide | omega) (by assumption)))) rfl (by omega) (by decide) ?_
    refine x_if_eq_t (tgt := 55) dX10_join_11 rfl (by rw [ea]; exact nI_0) ?_
    refine x_iconst dX10_join_55 rfl iC_0 ?_
    refine x_zast dX10_join_56 rfl (by first | assumption | exact hs_eq | exact hs_ne (by first | assumption | decide | omega) (by first | assumption | exact hs_eq | exact hs_ne (by first | assumption | decide | omega) (by first | assumption | exact hs_eq | exact hs_ne (by first | assumption | decide | omega) (by assumption)))) rfl (by omega) (by decide) (by decide) ?_
    refine x_return dX10_join_57 rfl ?_
    exact fin0 h hC xSq.rf rfl r5 (fun _ _ => rfl) (by rw [va]; rfl)
end WAYS

