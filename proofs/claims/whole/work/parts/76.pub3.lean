/-! EightParts: the nearest, division, rests; laws; what a slot is -/
theorem zNb_c {o : Nat} {w v : Nat → Int64} {n : Int64} (h : ∀ j, j < 8 → w j = v j) : zNb o w n = zNb o v n := zBw_cong (fun p _ j hj => by rw [h j hj]) (fun p _ j hj => by rw [h j hj]) _
theorem zNst_c {o : Nat} {w v : Nat → Int64} {n : Int64} (h : ∀ j, j < 8 → w j = v j) : ∀ j, j < 8 → zNst o w n j = zNst o v n j := by
  intro j hj
  unfold zNst
  rw [zNb_c h, h j hj]
noncomputable def oNst (o : Nat) (w : Nat → Int64) (n : Int64) : zO := zIf (zIn (zNst o w n)) (zNar (zNst o w n))
theorem oNst_c {o : Nat} {w v : Nat → Int64} {n : Int64} (h : ∀ j, j < 8 → w j = v j) : (oNst o w n).map c8 = (oNst o v n).map c8 := by
  unfold oNst
  rw [show zIn (zNst o w n) = zIn (zNst o v n) from propext (zIn_c (zNst_c h))]
  exact zIf_map (fun _ => c8_eq.mpr (fun j hj => by unfold zNar; rw [zNst_c h j hj]))
theorem oNst_bd {o : Nat} {w : Nat → Int64} {n : Int64} {z : Nat → Int32} (h : oNst o w n = some z) : zBd z := by
  obtain ⟨h1, h2⟩ := zIf_some h
  rw [h2]
  exact zBd_nar h1
noncomputable def sp_nearest (S : St) (a b n : Int32) : Int32 × St := match sE a with
  | none => (-1, S)
  | some t => match sE b with
    | none => (-1, S)
    | some x => match eB 1 1000 n with
      | none => (-1, S)
      | some k => sMay S t (oNst S.2.1 (fun j => (S.1 x j).toInt64) (nI k).toInt64)
/-- the same parts -/
def q8 (p q : Option ((Nat → Int32) × (Nat → Int32))) : Prop := p.map (fun z => (c8 z.1, c8 z.2)) = q.map (fun z => (c8 z.1, c8 z.2))
theorem zM4_e {f f2 g g2 : Nat → Int32} (h1 : c8 f = c8 f2) (h2 : c8 g = c8 g2) : zM4 f g = zM4 f2 g2 := by rw [← zM4_c, h1, h2, zM4_c]
theorem zInn_e {f f2 g g2 : Nat → Int32} (h1 : c8 f = c8 f2) (h2 : c8 g = c8 g2) : zInn f g 8 = zInn f2 g2 8 := by rw [← zInn_c f g 8 (Nat.le_refl _), h1, h2, zInn_c f2 g2 8 (Nat.le_refl _)]
theorem zMir_e {f f2 : Nat → Int32} (h1 : c8 f = c8 f2) : c8 (zMir f) = c8 (zMir f2) := by rw [← zMir_c, h1, zMir_c]
theorem oAdd_e {f f2 g g2 : Nat → Int32} {s : Int32} (h1 : c8 f = c8 f2) (h2 : c8 g = c8 g2) : (oAdd f g s).map c8 = (oAdd f2 g2 s).map c8 := by rw [← oAdd_c, h1, h2, oAdd_c]
theorem q8_may {o : Nat} {z r1 : Nat → Int32} {f f2 : Nat → Int32} (h1 : c8 f = c8 f2) : q8 ((oAdd f r1 (-1)).map (fun r => (z, r))) ((oAdd f2 r1 (-1)).map (fun r => (z, r))) := by
  have e := oAdd_e (s := -1) (g := r1) h1 rfl
  unfold q8
  cases e1 : oAdd f r1 (-1) with
  | none => rw [e1] at e; cases e2 : oAdd f2 r1 (-1) with
    | none => rfl
    | some y => rw [e2] at e; cases e
  | some x => rw [e1] at e; cases e2 : oAdd f2 r1 (-1) with
    | none => rw [e2] at e; cases e
    | some y =>
      rw [e2] at e
      have e3 : c8 x = c8 y := Option.some.inj e
      show some (c8 z, c8 x) = some (c8 z, c8 y)
      rw [e3]
theorem q8_rf (p : Option ((Nat → Int32) × (Nat → Int32))) : q8 p p := Eq.refl _
theorem q8_bind {m m2 : zO} {k k2 : (Nat → Int32) → Option ((Nat → Int32) × (Nat → Int32))} (hm : m = m2) (hk : ∀ r, q8 (k r) (k2 r)) : q8 (m.bind k) (m2.bind k2) := by
  subst hm
  cases m with
  | none => exact q8_rf _
  | some r => exact hk r
theorem q8_ite {p p2 : Prop} {x y y2 : Option ((Nat → Int32) × (Nat → Int32))} (hp : p = p2) (hy : q8 y y2) : q8 (@ite _ p (Classical.propDecidable p) x y) (@ite _ p2 (Classical.propDecidable p2) x y2) := by
  subst hp
  by_cases c : p
  · rw [if_pos c, if_pos c]; exact q8_rf _
  · rw [if_neg c, if_neg c]; exact hy
theorem oSplit_e {o : Nat} {f f2 g g2 : Nat → Int32} (h1 : c8 f = c8 f2) (h2 : c8 g = c8 g2) : q8 (oSplit o f g) (oSplit o f2 g2) := by
  have e1 := zInn_e h2 h2
  have e2 := zM4_e h1 (zMir_e h2)
  unfold oSplit
  refine q8_ite (by rw [e1, e2]) ?_
  rw [e1, e2]
  exact q8_bind (oMul_e rfl h2) (fun r => q8_may (o := o) h1)
theorem q8_none {p q : Option ((Nat → Int32) × (Nat → Int32))} (h : q8 p q) (hp : p = none) : q = none := by
  subst hp
  cases q with
  | none => rfl
  | some y => cases h
theorem q8_some {p q : Option ((Nat → Int32) × (Nat → Int32))} {z : (Nat → Int32) × (Nat → Int32)} (h : q8 p q) (hp : p = some z) : ∃ y, q = some y ∧ c8 z.1 = c8 y.1 ∧ c8 z.2 = c8 y.2 := by
  subst hp
  cases q with
  | none => cases h
  | some y =>
    have := Option.some.inj h
    exact ⟨y, rfl, congrArg Prod.fst this, congrArg Prod.snd this⟩
noncomputable def sp_divide (S : St) (a b c n : Int32) : Int32 × St := match sE a with
  | none => (-1, S)
  | some q => match sE b with
    | none => (-1, S)
    | some r => match sE c with
      | none => (-1, S)
      | some x => match sE n with
        | none => (-1, S)
        | some y => match oSplit S.2.1 (S.1 x) (S.1 y) with
          | none => (-2, S)
          | some qr => (1, sSet (sSet S q qr.1) r qr.2)
theorem zShr_e {sh : Int64} {r r2 y y2 : Nat → Int32} (h1 : c8 r = c8 r2) (h2 : c8 y = c8 y2) : zShr sh r y = zShr sh r2 y2 := by unfold zShr; rw [zInn_e h1 h1, zInn_e h2 h2]
theorem zRun_e (o : Nat) : ∀ n s s2 k, c8 s.1 = c8 s2.1 → c8 s.2.1 = c8 s2.2.1 → s.2.2 = s2.2.2 → (zRun o n s k).2 = (zRun o n s2 k).2 ∧ c8 (zRun o n s k).1.1 = c8 (zRun o n s2 k).1.1 ∧ c8 (zRun o n s k).1.2.1 = c8 (zRun o n s2 k).1.2.1 ∧ (zRun o n s k).1.2.2 = (zRun o n s2 k).1.2.2 := by
  intro n
  induction n with
  | zero => exact fun s s2 k h1 h2 h3 => ⟨rfl, h1, h2, h3⟩
  | succ n ih =>
    intro s s2 k h1 h2 h3
    have e := oSplit_e (o := o) h1 h2
    rw [zRun, zRun]
    cases e1 : oSplit o s.1 s.2.1 with
    | none => rw [q8_none e e1]; exact ⟨rfl, h1, h2, h3⟩
    | some qr =>
      obtain ⟨y, e2, e3, e4⟩ := q8_some e e1
      rw [e2]
      exact ih _ _ _ h2 e4 (by show zShr _ _ _ = zShr _ _ _; rw [h3, zShr_e e4 h2])
noncomputable def wkR (S : St) (x y : Nat) : zW × Nat := zRun S.2.1 60 (S.1 x, S.1 y, 0) 0
def isZ (f : Nat → Int32) : Prop := ∀ j, j < 8 → f j = nI 0
theorem isZ_e {f g : Nat → Int32} (h : c8 f = c8 g) : isZ f ↔ isZ g := by
  have e := c8_eq.mp h
  constructor
  · intro z j hj; rw [← e j hj]; exact z j hj
  · intro z j hj; rw [e j hj]; exact z j hj
noncomputable def wkL (w : zW × Nat) : Nat → Int32 := @ite _ (isZ w.1.2.1) (Classical.propDecidable _) w.1.1 w.1.2.1
noncomputable def sp_last (S : St) (a b c : Int32) : Int32 × St := match sE a with
  | none => (-1, S)
  | some t => match sE b with
    | none => (-1, S)
    | some x => match sE c with
      | none => (-1, S)
      | some y => @ite _ (isZ (wkL (wkR S x y))) (Classical.propDecidable _) (-2, S) (1, sSet S t (wkL (wkR S x y)))
noncomputable def sp_rests (S : St) (a b n : Int32) : Int32 × St := match sE a with
  | none => (-1, S)
  | some x => match sE b with
    | none => (-1, S)
    | some y => match eB 0 2 n with
      | none => (-1, S)
      | some 0 => (nI (wkR S x y).2, S)
      | some 1 => (if (wkR S x y).2 = 0 then -1 else zCap (zInn (wkR S x y).1.2.1 (wkR S x y).1.2.1 8), S)
      | some _ => (zCap (wkR S x y).1.2.2, S)
theorem zRun_bd (o : Nat) : ∀ n s k, zBd s.1 → zBd s.2.1 → zBd (zRun o n s k).1.1 ∧ zBd (zRun o n s k).1.2.1 := by
  intro n
  induction n with
  | zero => exact fun s k h1 h2 => ⟨h1, h2⟩
  | succ n ih =>
    intro s k h1 h2
    rw [zRun]
    split
    · exact ⟨h1, h2⟩
    · next qr e => exact ih _ _ h2 (oSplit_bd (q := qr.1) (r := qr.2) e).2
theorem zRun_le (o : Nat) : ∀ n s k, (zRun o n s k).2 ≤ k + n := by
  intro n
  induction n with
  | zero => exact fun s k => Nat.le_refl _
  | succ n ih =>
    intro s k
    rw [zRun]
    split
    · show k ≤ k + (n + 1); omega
    · have := ih (s.2.1, (‹(Nat → Int32) × (Nat → Int32)›).2, zShr s.2.2 (‹(Nat → Int32) × (Nat → Int32)›).2 s.2.1) (k + 1)
      omega
section PUB
variable {G : xG} {l : Launch} {d : Nat} {h : xH} {Q : Option Value → xH → Prop} {b : Bool} {S : St}
theorem nI_1le {k : Nat} (h1 : 1 ≤ k) (h2 : k ≤ 1000) : (1 : Int64) ≤ (nI k).toInt64 ∧ ¬ 2 * (nI k).toInt64 = 0 := by
  have e : (nI k).toInt64.toInt = k := by rw [Int32.toInt_toInt64, nI_toInt (by omega)]
  constructor
  · rw [Int64.le_iff_toInt_le, e]
    have : (1 : Int64).toInt = 1 := rfl
    omega
  · intro z
    have z2 := congrArg Int64.toInt z
    have e2 : (2 : Int64).toInt = 2 := rfl
    have e0 : (0 : Int64).toInt = 0 := rfl
    rw [fb_mulL (by rw [e, e2]; omega) (by rw [e, e2]; omega), e, e2, e0] at z2
    omega
theorem p_nearest {a1 a2 n : Int32} (hd : 10 ≤ d) (hR : RC b h S) (K : ∀ r S2 h2, sp_nearest S a1 a2 n = (r, S2) → RC b h2 S2 → mF h h2 → Q (some (.int r)) h2) : xCt G l mX11_nearest d [.ref 0, .int a1, .int a2, .int n] h 0 0 Q := by
  have hC := hR.1
  refine xCt_of (by decide) (Nat.le_of_ble_eq_true rfl) ?_
  refine x_iload_n (i := 1) dX11_nearest_0 rfl rfl rfl ?_
  refine x_iload_n (i := 2) dX11_nearest_1 rfl rfl rfl ?_
  refine x_callS0 (As := [_, _]) (d2 := d - 1) dX11_nearest_2 rfl kX11_132 okX11_areSlots (by omega) rfl rfl (Nat.le_of_ble_eq_true rfl) (c_areSlots2 (by omega) (fun z => ?_) (fun t x ht hx et ex qt qx => ?_))
  · refine x_if_eq_t (tgt := 15) dX11_nearest_5 rfl nI_0 ?_
    refine x_iconst dX11_nearest_15 rfl iC_m1 ?_
    refine x_ireturn dX11_nearest_16 rfl rfl ?_
    exact K _ _ _ (by rcases z with z | ⟨i, z0, z⟩; exact (by simp only [sp_nearest, z] <;> rfl); exact (by simp only [sp_nearest, z0, z] <;> rfl)) hR mF.rf
  subst et ex
  refine x_if_eq_f (tgt := 15) dX11_nearest_5 rfl rfl nb1 ?_
  refine x_iload_n (i := 3) dX11_nearest_8 rfl rfl rfl ?_
  refine x_callS0 (As := [_]) (d2 := d - 1) dX11_nearest_9 rfl kX11_190 okX11_isDivisor (by omega) rfl rfl (Nat.le_of_ble_eq_true rfl) (c_isDivisor (fun z => ?_) (fun m hm em qm => ?_))
  · refine x_if_ne_f (tgt := 17) dX11_nearest_12 rfl rfl nI_0 ?_
    refine x_iconst dX11_nearest_15 rfl iC_m1 ?_
    refine x_ireturn dX11_nearest_16 rfl rfl ?_
    exact K _ _ _ (by simp only [sp_nearest, qt, qx, z] <;> rfl) hR mF.rf
  subst em
  refine x_if_ne_t (tgt := 17) dX11_nearest_12 rfl nb1 ?_
  have en : sp_nearest S (nI t) (nI x) (nI m) = sMay S t (oNst S.2.1 (fun j => (S.1 x j).toInt64) (nI m).toInt64) := by simp only [sp_nearest, qt, qx, qm]
  have v109 := hC.j (a := 109) rfl
  have vx := hC.v (csV_slot hx)
  refine x_iconst dX11_nearest_17 rfl iC_0 ?_
  refine x_istore dX11_nearest_18 rfl (by decide) ?_
  have key := xloop (P := fun i => xWP G l mX11_nearest d (zM G Q) 0 0 20 (xls [(0, .ref 0), (1, .int (nI t)), (2, .int (nI x)), (3, .int (nI m)), (4, .int (nI i))]) [] (hs h 109 (1, 8, xJ (xF (fun j => (iv h (2 + x) j).toInt64) (jv h 109) i)))) 8 (by
    intro i hi ih
    have hC1 := hC.setJ (f := xF (fun j => (iv h (2 + x) j).toInt64) (jv h 109) i) v109
    have hC := hC1
    refine x_iload dX11_nearest_20 rfl rfl ?_
    refine x_bipush dX11_nearest_22 rfl bC_8 ?_
    refine x_jc_ge (tgt := 50) dX11_nearest_24 rfl rfl (by omega) (by omega) (fun c24 => ?_) (fun c24 => ?_)
    · obtain rfl : i = 8 := by omega
      refine x_topJ (f2 := fun j => (iv h (2 + x) j).toInt64) (fun j hj => if_pos hj) (by decide) ?_
      have hC2 := hR.1.setJ (f := fun j => (iv h (2 + x) j).toInt64) v109
      have ho2 : hOrd (hs h 109 (1, 8, xJ (fun j => (iv h (2 + x) j).toInt64))) S.2.1 := by unfold hOrd; rw [fv_n (by decide)]; exact hR.o.2
      have hC := hC2
      refine x_aload_n (i := 0) dX11_nearest_50 rfl rfl rfl ?_
      refine x_getC dX11_nearest_51 rfl fX11_24 hC rfl F_0_2 ?_
      refine x_aload_n (i := 0) dX11_nearest_54 rfl rfl rfl ?_
      refine x_getC dX11_nearest_55 rfl fX11_11 hC rfl F_0_0 ?_
      refine x_iload_n (i := 1) dX11_nearest_58 rfl rfl rfl ?_
      refine x_aaldC (t := 0) dX11_nearest_59 rfl hC rfl (by decide) rfl (by omega) (by decide) (csF_slot ht) ?_
      refine x_aload_n (i := 0) dX11_nearest_60 rfl rfl rfl ?_
      refine x_getC dX11_nearest_61 rfl fX11_111 hC rfl F_0_15 ?_
      refine x_iload_n (i := 3) dX11_nearest_64 rfl rfl rfl ?_
      refine x_i2l dX11_nearest_65 rfl ?_
      obtain ⟨n1, n2⟩ := nI_1le hm.1 hm.2
      have e := oNst_c (o := S.2.1) (n := (nI m).toInt64) (w := fun j => (S.1 x j).toInt64) (v := fun j => (iv h (2 + x) j).toInt64) (fun j hj => by show (S.1 x j).toInt64 = _; rw [← (hR.sl hx).1, c8_lt hj])
      refine x_callV0 (ci := 2) (b := 14) (As := [_, _, _]) (d2 := d - 1) dX11_nearest_66 rfl kX11_193 okX2_layNearest (hC.o rfl) (fun q hq => by cases hq; rfl) (by omega) rfl rfl (Nat.le_of_ble_eq_true rfl) (c_layNearest (by omega) hC ho2 hR.o.1 (csV_slot ht) (a := 109) hs_eq (by decide) n1 n2 (fun z h2 hC2 hS hv => ?_) (fun z h2 hC2 hS => ?_))
      · have hz : oNst S.2.1 (fun j => (iv h (2 + x) j).toInt64) (nI m).toInt64 = some (zNar (zNst S.2.1 (fun j => (iv h (2 + x) j).toInt64) (nI m).toInt64)) := zIf_t z
        have sq : xSq (fun a => scP a ∨ a = 2 + t) h h2 := ((xSm.hs1.sc (by intro q hq; simp only [List.mem_cons, List.not_mem_nil, or_false] at hq; unfold scP; omega)).mn (fun a => Or.inl)).tr (hS.sct (by intro q hq; simp only [List.mem_cons, List.not_mem_nil, or_false] at hq; unfold scP; omega))
        refine x_callS0 (As := [_]) (d2 := d - 1) dX11_nearest_69 rfl kX11_151 okX11_told (by omega) rfl rfl (Nat.le_of_ble_eq_true rfl) (c_told1 ?_)
        refine x_ireturn dX11_nearest_72 rfl rfl ?_
        exact K _ _ _ (by rw [en, sMay_map e]; exact sMay_some hz) (hR.set ht hC2 sq (by rw [hv]) (oNst_bd hz)) (mF.sq sq (fun a => sct_lt ht))
      · have hz : oNst S.2.1 (fun j => (iv h (2 + x) j).toInt64) (nI m).toInt64 = none := zIf_f z
        have sq : xSq scP h h2 := (xSm.hs1.sc (by intro q hq; simp only [List.mem_cons, List.not_mem_nil, or_false] at hq; unfold scP; omega)).tr (hS.sc (by intro q hq; simp only [List.mem_cons, List.not_mem_nil, or_false] at hq; unfold scP; omega))
        refine x_callS0 (As := [_]) (d2 := d - 1) dX11_nearest_69 rfl kX11_151 okX11_told (by omega) rfl rfl (Nat.le_of_ble_eq_true rfl) (c_told0 ?_)
        refine x_ireturn dX11_nearest_72 rfl rfl ?_
        exact K _ _ _ (by rw [en, sMay_map e]; exact sMay_none hz) (hR.sc hC2 sq) (mF.sq sq (fun a => scP_lt))
    · have vx1 := hs_ne (c := (1, 8, xJ (xF (fun j => (iv h (2 + x) j).toInt64) (jv h 109) i))) (show 2 + x ≠ 109 by omega) vx
      refine x_aload_n (i := 0) dX11_nearest_27 rfl rfl rfl ?_
      refine x_getC dX11_nearest_28 rfl fX11_111 hC rfl F_0_15 ?_
      refine x_iload dX11_nearest_31 rfl rfl ?_
      refine x_aload_n (i := 0) dX11_nearest_33 rfl rfl rfl ?_
      refine x_getC dX11_nearest_34 rfl fX11_11 hC rfl F_0_0 ?_
      refine x_iload_n (i := 2) dX11_nearest_37 rfl rfl rfl ?_
      refine x_aaldC (t := 0) dX11_nearest_38 rfl hC rfl (by decide) rfl (by omega) (by decide) (csF_slot hx) ?_
      refine x_iload dX11_nearest_39 rfl rfl ?_
      refine x_iald dX11_nearest_41 rfl vx1 rfl (by omega) (by decide) ?_
      refine x_i2l dX11_nearest_42 rfl ?_
      refine x_lastT dX11_nearest_43 rfl rfl (by omega) (by decide) ?_
      rw [xF_updL (fun j => (iv h (2 + x) j).toInt64)]
      refine x_iinc dX11_nearest_44 rfl rfl (inc1 _) ?_
      refine x_goto (tgt := 20) dX11_nearest_47 rfl ?_
      exact x_to (ih c24) ⟨rfl, rfl, rfl, rfl, rfl, trivial⟩) 0 (Nat.zero_le _)
  rw [xF_0, hs_self v109] at key
  exact x_to key ⟨rfl, rfl, rfl, rfl, rfl, trivial⟩
theorem p_divide {a1 a2 a3 a4 : Int32} (hd : 10 ≤ d) (hR : RC b h S) (K : ∀ r S2 h2, sp_divide S a1 a2 a3 a4 = (r, S2) → RC b h2 S2 → mF h h2 → Q (some (.int r)) h2) : xCt G l mX11_divide d [.ref 0, .int a1, .int a2, .int a3, .int a4] h 0 0 Q := by
  have hC := hR.1
  refine xCt_of (by decide) (Nat.le_of_ble_eq_true rfl) ?_
  refine x_iload_n (i := 1) dX11_divide_0 rfl rfl rfl ?_
  refine x_iload_n (i := 2) dX11_divide_1 rfl rfl rfl ?_
  refine x_callS0 (As := [_, _]) (d2 := d - 1) dX11_divide_2 rfl kX11_132 okX11_areSlots (by omega) rfl rfl (Nat.le_of_ble_eq_true rfl) (c_areSlots2 (by omega) (fun z => ?_) (fun t u ht hu et eu qt qu => ?_))
  · refine x_if_eq_t (tgt := 17) dX11_divide_5 rfl nI_0 ?_
    refine x_iconst dX11_divide_17 rfl iC_m1 ?_
    refine x_ireturn dX11_divide_18 rfl rfl ?_
    exact K _ _ _ (by rcases z with z | ⟨i, z0, z⟩; exact (by simp only [sp_divide, z] <;> rfl); exact (by simp only [sp_divide, z0, z] <;> rfl)) hR mF.rf
  subst et eu
  refine x_if_eq_f (tgt := 17) dX11_divide_5 rfl rfl nb1 ?_
  refine x_iload_n (i := 3) dX11_divide_8 rfl rfl rfl ?_
  refine x_iload dX11_divide_9 rfl rfl ?_
  refine x_callS0 (As := [_, _]) (d2 := d - 1) dX11_divide_11 rfl kX11_132 okX11_areSlots (by omega) rfl rfl (Nat.le_of_ble_eq_true rfl) (c_areSlots2 (by omega) (fun z => ?_) (fun x y hx hy ex ey qx qy => ?_))
  · refine x_if_ne_f (tgt := 19) dX11_divide_14 rfl rfl nI_0 ?_
    refine x_iconst dX11_divide_17 rfl iC_m1 ?_
    refine x_ireturn dX11_divide_18 rfl rfl ?_
    exact K _ _ _ (by rcases z with z | ⟨i, z0, z⟩; exact (by simp only [sp_divide, qt, qu, z] <;> rfl); exact (by simp only [sp_divide, qt, qu, z0, z] <;> rfl)) hR mF.rf
  subst ex ey
  refine x_if_ne_t (tgt := 19) dX11_divide_14 rfl nb1 ?_
  have e := oSplit_e (o := S.2.1) (hR.c hx).symm (hR.c hy).symm
  refine x_aload_n (i := 0) dX11_divide_19 rfl rfl rfl ?_
  refine x_getC dX11_divide_20 rfl fX11_51 hC rfl F_0_5 ?_
  refine x_aload_n (i := 0) dX11_divide_23 rfl rfl rfl ?_
  refine x_getC dX11_divide_24 rfl fX11_11 hC rfl F_0_0 ?_
  refine x_iload_n (i := 3) dX11_divide_27 rfl rfl rfl ?_
  refine x_aaldC (t := 0) dX11_divide_28 rfl hC rfl (by decide) rfl (by omega) (by decide) (csF_slot hx) ?_
  refine x_aload_n (i := 0) dX11_divide_29 rfl rfl rfl ?_
  refine x_getC dX11_divide_30 rfl fX11_11 hC rfl F_0_0 ?_
  refine x_iload dX11_divide_33 rfl rfl ?_
  refine x_aaldC (t := 0) dX11_divide_35 rfl hC rfl (by decide) rfl (by omega) (by decide) (csF_slot hy) ?_
  refine x_callV0 (ci := 0) (b := 37) (As := [_, _]) (d2 := d - 1) dX11_divide_36 rfl kX11_197 okX0_split (hC.o rfl) (fun q hq => by cases hq; rfl) (by omega) rfl rfl (Nat.le_of_ble_eq_true rfl) (c_split (by omega) hC hR.o.2 hR.o.1 (csV_slot hx) (csV_slot hy) (by simp only [List.mem_cons, List.not_mem_nil, or_false, not_or]; omega) (by simp only [List.mem_cons, List.not_mem_nil, or_false, not_or]; omega) (hR.sl hy).2 (fun q r hq h2 hC2 hS q1 q2 => ?_) (fun hq h2 hC2 hS => ?_))
  rotate_left
  · refine x_if_ne_f (tgt := 45) dX11_divide_39 rfl rfl nI_0 ?_
    refine x_bipush dX11_divide_42 rfl bC_m2 ?_
    refine x_ireturn dX11_divide_44 rfl rfl ?_
    have sq := hS.sc (by intro q hq; simp only [List.mem_cons, List.not_mem_nil, or_false] at hq; unfold scP; omega)
    exact K _ _ _ (by simp only [sp_divide, qt, qu, qx, qy, q8_none e hq]) (hR.sc hC2 sq) (mF.sq sq (fun a => scP_lt))
  obtain ⟨yy, e1, e2, e3⟩ := q8_some e hq
  obtain ⟨bq, br⟩ := oSplit_bd hq
  have sq := hS.sc (by intro q hq; simp only [List.mem_cons, List.not_mem_nil, or_false] at hq; unfold scP; omega)
  have hC := hC2
  have vt := hC.v (csV_slot ht)
  have v38 := hC.v (a := 38) rfl
  refine x_if_ne_t (tgt := 45) dX11_divide_39 rfl nb1 ?_
  refine x_aload_n (i := 0) dX11_divide_45 rfl rfl rfl ?_
  refine x_getC dX11_divide_46 rfl fX11_11 hC rfl F_0_0 ?_
  refine x_iload_n (i := 1) dX11_divide_49 rfl rfl rfl ?_
  refine x_aaldC (t := 0) dX11_divide_50 rfl hC rfl (by decide) rfl (by omega) (by decide) (csF_slot ht) ?_
  refine x_aload_n (i := 0) dX11_divide_51 rfl rfl rfl ?_
  refine x_getC dX11_divide_52 rfl fX11_51 hC rfl F_0_5 ?_
  refine x_getC dX11_divide_55 rfl fX11_201 hC rfl F_37_2 ?_
  refine x_callS0 (As := [_, _]) (d2 := d - 1) dX11_divide_58 rfl kX11_136 okX5_lay (by omega) rfl rfl (Nat.le_of_ble_eq_true rfl) (c_lay (by omega) vt v38 ?_)
  have fin := hR.laySlot (a := 38) ht hC2 sq q1 bq
  have hC3 := hC.setI (f := iv h2 38) vt (Or.inl rfl) (by omega)
  have i39 : iv (hs h2 (2 + t) (0, 8, xI (iv h2 38))) 39 = r := by rw [iv_n (by omega)]; exact q2
  have hC := hC3
  have vu := hC.v (csV_slot hu)
  have v39 := hC.v (a := 39) rfl
  refine x_aload_n (i := 0) dX11_divide_61 rfl rfl rfl ?_
  refine x_getC dX11_divide_62 rfl fX11_11 hC rfl F_0_0 ?_
  refine x_iload_n (i := 2) dX11_divide_65 rfl rfl rfl ?_
  refine x_aaldC (t := 0) dX11_divide_66 rfl hC rfl (by decide) rfl (by omega) (by decide) (csF_slot hu) ?_
  refine x_aload_n (i := 0) dX11_divide_67 rfl rfl rfl ?_
  refine x_getC dX11_divide_68 rfl fX11_51 hC rfl F_0_5 ?_
  refine x_getC dX11_divide_71 rfl fX11_204 hC rfl F_37_3 ?_
  refine x_callS0 (As := [_, _]) (d2 := d - 1) dX11_divide_74 rfl kX11_136 okX5_lay (by omega) rfl rfl (Nat.le_of_ble_eq_true rfl) (c_lay (by omega) vu v39 ?_)
  refine x_iconst dX11_divide_77 rfl iC_1 ?_
  refine x_ireturn dX11_divide_78 rfl rfl ?_
  have fin2 := fin.1.laySlot (a := 39) hu hC3 xSq.rf i39 br
  refine K _ _ _ ?_ fin2.1 ⟨fun a a1 a2 => (fin2.2.1 a a1 a2).trans (fin.2.1 a a1 a2), fin.2.2.1, fin.2.2.2⟩
  simp only [sp_divide, qt, qu, qx, qy, e1]
  rw [sSet_c S t e2, sSet_c _ u e3]
  rfl
theorem q_walk {x y : Nat} (hd : 10 ≤ d) (hR : RC b h S) (hx : x < 8) (hy : y < 8)
    (K : ∀ h2, Cs h2 → xSq scP h h2 → c8 (iv h2 41) = c8 (wkR S x y).1.1 → c8 (iv h2 42) = c8 (wkR S x y).1.2.1 → zBd (iv h2 41) → zBd (iv h2 42) → hSt h2 (wkR S x y).2 → hSh h2 (wkR S x y).1.2.2 → Q none h2) : xCt G l mX0_walk d [.ref 37, .ref (2 + x), .ref (2 + y)] h 0 0 Q := by
  obtain ⟨e1, e2, e3, e4⟩ := zRun_e S.2.1 60 (iv h (2 + x), iv h (2 + y), 0) (S.1 x, S.1 y, 0) 0 (hR.c hx).symm (hR.c hy).symm rfl
  obtain ⟨b1, b2⟩ := zRun_bd S.2.1 60 (iv h (2 + x), iv h (2 + y), 0) 0 (hR.sl hx).2 (hR.sl hy).2
  refine c_walk (by omega) hR.1 hR.o.2 hR.o.1 (csV_slot hx) (csV_slot hy) (by simp only [List.mem_cons, List.not_mem_nil, or_false, not_or]; omega) (by simp only [List.mem_cons, List.not_mem_nil, or_false, not_or]; omega) (hR.sl hy).2 (fun h2 hC2 hS k1 k2 k3 k4 => K h2 hC2 (hS.sc (by intro q hq; simp only [List.mem_cons, List.not_mem_nil, or_false] at hq; unfold scP; omega)) (by rw [k1]; exact e2) (by rw [k2]; exact e3) (by rw [k1]; exact b1) (by rw [k2]; exact b2) (by unfold hSt at k3 ⊢; rw [k3, e1]; rfl) (by unfold hSh at k4 ⊢; rw [k4, e4]; rfl))
theorem p_last {a1 a2 a3 : Int32} (hd : 12 ≤ d) (hR : RC b h S) (K : ∀ r S2 h2, sp_last S a1 a2 a3 = (r, S2) → RC b h2 S2 → mF h h2 → Q (some (.int r)) h2) : xCt G l mX11_last d [.ref 0, .int a1, .int a2, .int a3] h 0 0 Q := by
  have hC := hR.1
  refine xCt_of (by decide) (Nat.le_of_ble_eq_true rfl) ?_
  refine x_iload_n (i := 1) dX11_last_0 rfl rfl rfl ?_
  refine x_iload_n (i := 2) dX11_last_1 rfl rfl rfl ?_
  refine x_iload_n (i := 3) dX11_last_2 rfl rfl rfl ?_
  refine x_callS0 (As := [_, _, _]) (d2 := d - 1) dX11_last_3 rfl kX11_144 okX11_areSlots_ (by omega) rfl rfl (Nat.le_of_ble_eq_true rfl) (c_areSlots3 (by omega) (fun z => ?_) (fun t x y ht hx hy et ex ey qt qx qy => ?_))
  · refine x_if_ne_f (tgt := 11) dX11_last_6 rfl rfl nI_0 ?_
    refine x_iconst dX11_last_9 rfl iC_m1 ?_
    refine x_ireturn dX11_last_10 rfl rfl ?_
    exact K _ _ _ (by rcases z with z | ⟨i, z0, z⟩ | ⟨i, i2, z0, z1, z⟩; exact (by simp only [sp_last, z] <;> rfl); exact (by simp only [sp_last, z0, z] <;> rfl); exact (by simp only [sp_last, z0, z1, z] <;> rfl)) hR mF.rf
  subst et ex ey
  refine x_if_ne_t (tgt := 11) dX11_last_6 rfl nb1 ?_
  have en : sp_last S (nI t) (nI x) (nI y) = @ite _ (isZ (wkL (wkR S x y))) (Classical.propDecidable _) (-2, S) (1, sSet S t (wkL (wkR S x y))) := by simp only [sp_last, qt, qx, qy]
  refine x_aload_n (i := 0) dX11_last_11 rfl rfl rfl ?_
  refine x_getC dX11_last_12 rfl fX11_51 hC rfl F_0_5 ?_
  refine x_aload_n (i := 0) dX11_last_15 rfl rfl rfl ?_
  refine x_getC dX11_last_16 rfl fX11_11 hC rfl F_0_0 ?_
  refine x_iload_n (i := 2) dX11_last_19 rfl rfl rfl ?_
  refine x_aaldC (t := 0) dX11_last_20 rfl hC rfl (by decide) rfl (by omega) (by decide) (csF_slot hx) ?_
  refine x_aload_n (i := 0) dX11_last_21 rfl rfl rfl ?_
  refine x_getC dX11_last_22 rfl fX11_11 hC rfl F_0_0 ?_
  refine x_iload_n (i := 3) dX11_last_25 rfl rfl rfl ?_
  refine x_aaldC (t := 0) dX11_last_26 rfl hC rfl (by decide) rfl (by omega) (by decide) (csF_slot hy) ?_
  refine x_callV0 (ci := 0) (b := 37) (As := [_, _]) (d2 := d - 1) dX11_last_27 rfl kX11_179 okX0_walk (hC.o rfl) (fun q hq => by cases hq; rfl) (by omega) rfl rfl (Nat.le_of_ble_eq_true rfl) (q_walk (by omega) hR hx hy (fun h2 hC2 sq k1 k2 b1 b2 k3 k4 => ?_))
  have hC := hC2
  have fin : ∀ a, (a = 41 ∨ a = 42) → c8 (iv h2 a) = c8 (wkL (wkR S x y)) → zBd (iv h2 a) → xWP G l mX11_last d (zM G Q) 0 0 37 (xls [(0, .ref 0), (1, .int (nI t))]) [.ref a] h2 := by
    intro a ha ea ba
    have va : h2.1 a = (0, 8, xI (iv h2 a)) := by rcases ha with rfl | rfl <;> exact hC.v rfl
    refine x_astore dX11_last_37 rfl (by decide) ?_
    refine x_aload dX11_last_39 rfl rfl ?_
    refine x_callS0 (As := [_]) (d2 := d - 1) dX11_last_41 rfl kX11_186 okX5_isZero (by omega) rfl rfl (Nat.le_of_ble_eq_true rfl) (c_isZero va (fun z => ?_) (fun z => ?_))
    · refine x_if_eq_f (tgt := 50) dX11_last_44 rfl rfl nb1 ?_
      refine x_bipush dX11_last_47 rfl bC_m2 ?_
      refine x_ireturn dX11_last_49 rfl rfl ?_
      exact K _ _ _ (by rw [en]; exact if_pos ((isZ_e ea).mp z)) (hR.sc hC2 sq) (mF.sq sq (fun a => scP_lt))
    · have vt := hC.v (csV_slot ht)
      refine x_if_eq_t (tgt := 50) dX11_last_44 rfl nI_0 ?_
      refine x_aload_n (i := 0) dX11_last_50 rfl rfl rfl ?_
      refine x_getC dX11_last_51 rfl fX11_11 hC rfl F_0_0 ?_
      refine x_iload_n (i := 1) dX11_last_54 rfl rfl rfl ?_
      refine x_aaldC (t := 0) dX11_last_55 rfl hC rfl (by decide) rfl (by omega) (by decide) (csF_slot ht) ?_
      refine x_aload dX11_last_56 rfl rfl ?_
      refine x_callS0 (As := [_, _]) (d2 := d - 1) dX11_last_58 rfl kX11_136 okX5_lay (by omega) rfl rfl (Nat.le_of_ble_eq_true rfl) (c_lay (by omega) vt va ?_)
      refine x_iconst dX11_last_61 rfl iC_1 ?_
      refine x_ireturn dX11_last_62 rfl rfl ?_
      have fin := hR.laySlot (a := a) ht hC2 sq rfl ba
      exact K _ _ _ (by rw [en, if_neg (fun q => z ((isZ_e ea).mpr q)), sSet_c S t ea.symm]; rfl) fin.1 fin.2
  refine x_aload_n (i := 0) dX11_last_30 rfl rfl rfl ?_
  refine x_getC dX11_last_31 rfl fX11_51 hC rfl F_0_5 ?_
  refine x_callV0 (ci := 0) (b := 37) (As := []) (d2 := d - 1) dX11_last_34 rfl kX11_182 okX0_lastOfWalk (hC.o rfl) (fun q hq => by cases hq; rfl) (by omega) rfl rfl (Nat.le_of_ble_eq_true rfl) (c_lastOfWalk (by omega) hC (fun z => ?_) (fun z => ?_))
  · exact x_to (fin 41 (Or.inl rfl) (by rw [k1, wkL, if_pos ((isZ_e k2).mp z)]) b1) ⟨rfl, rfl, trivial⟩
  · exact x_to (fin 42 (Or.inr rfl) (by rw [k2, wkL, if_neg (fun q => z ((isZ_e k2).mpr q))]) b2) ⟨rfl, rfl, trivial⟩
theorem p_rests {a1 a2 n : Int32} (hd : 12 ≤ d) (hR : RC b h S) (K : ∀ r S2 h2, sp_rests S a1 a2 n = (r, S2) → RC b h2 S2 → mF h h2 → Q (some (.int r)) h2) : xCt G l mX11_rests d [.ref 0, .int a1, .int a2, .int n] h 0 0 Q := by
  have hC := hR.1
  refine xCt_of (by decide) (Nat.le_of_ble_eq_true rfl) ?_
  refine x_iload_n (i := 1) dX11_rests_0 rfl rfl rfl ?_
  refine x_iload_n (i := 2) dX11_rests_1 rfl rfl rfl ?_
  refine x_callS0 (As := [_, _]) (d2 := d - 1) dX11_rests_2 rfl kX11_132 okX11_areSlots (by omega) rfl rfl (Nat.le_of_ble_eq_true rfl) (c_areSlots2 (by omega) (fun z => ?_) (fun x y hx hy ex ey qx qy => ?_))
  · refine x_if_eq_t (tgt := 17) dX11_rests_5 rfl nI_0 ?_
    refine x_iconst dX11_rests_17 rfl iC_m1 ?_
    refine x_ireturn dX11_rests_18 rfl rfl ?_
    exact K _ _ _ (by rcases z with z | ⟨i, z0, z⟩; exact (by simp only [sp_rests, z] <;> rfl); exact (by simp only [sp_rests, z0, z] <;> rfl)) hR mF.rf
  subst ex ey
  refine x_if_eq_f (tgt := 17) dX11_rests_5 rfl rfl nb1 ?_
  refine x_iload_n (i := 3) dX11_rests_8 rfl rfl rfl ?_
  refine x_if_lt (tgt := 17) dX11_rests_9 rfl rfl (fun c9 => ?_) (fun c9 => ?_)
  · refine x_iconst dX11_rests_17 rfl iC_m1 ?_
    refine x_ireturn dX11_rests_18 rfl rfl ?_
    exact K _ _ _ (by simp only [sp_rests, qx, qy, eB_lo (lo := 0) (hi := 2) (by decide) c9]) hR mF.rf
  refine x_iload_n (i := 3) dX11_rests_12 rfl rfl rfl ?_
  refine x_iconst dX11_rests_13 rfl iC_2 ?_
  refine x_ic_le (tgt := 19) dX11_rests_14 rfl rfl (fun c14 => ?_) (fun c14 => ?_)
  rotate_left
  · refine x_iconst dX11_rests_17 rfl iC_m1 ?_
    refine x_ireturn dX11_rests_18 rfl rfl ?_
    exact K _ _ _ (by simp only [sp_rests, qx, qy, eB_hi (lo := 0) (hi := 2) (by decide) (Int32.not_le.mp c14)]) hR mF.rf
  obtain ⟨m, -, hm, em, qm⟩ := eB_in (lo := 0) (hi := 2) (by decide) (by decide) c9 (Int32.not_lt.mpr c14)
  subst em
  refine x_aload_n (i := 0) dX11_rests_19 rfl rfl rfl ?_
  refine x_getC dX11_rests_20 rfl fX11_51 hC rfl F_0_5 ?_
  refine x_aload_n (i := 0) dX11_rests_23 rfl rfl rfl ?_
  refine x_getC dX11_rests_24 rfl fX11_11 hC rfl F_0_0 ?_
  refine x_iload_n (i := 1) dX11_rests_27 rfl rfl rfl ?_
  refine x_aaldC (t := 0) dX11_rests_28 rfl hC rfl (by decide) rfl (by omega) (by decide) (csF_slot hx) ?_
  refine x_aload_n (i := 0) dX11_rests_29 rfl rfl rfl ?_
  refine x_getC dX11_rests_30 rfl fX11_11 hC rfl F_0_0 ?_
  refine x_iload_n (i := 2) dX11_rests_33 rfl rfl rfl ?_
  refine x_aaldC (t := 0) dX11_rests_34 rfl hC rfl (by decide) rfl (by omega) (by decide) (csF_slot hy) ?_
  refine x_callV0 (ci := 0) (b := 37) (As := [_, _]) (d2 := d - 1) dX11_rests_35 rfl kX11_179 okX0_walk (hC.o rfl) (fun q hq => by cases hq; rfl) (by omega) rfl rfl (Nat.le_of_ble_eq_true rfl) (q_walk (by omega) hR hx hy (fun h2 hC2 sq k1 k2 b1 b2 k3 k4 => ?_))
  have hC := hC2
  have r60 : (wkR S x y).2 ≤ 60 := zRun_le _ _ _ _
  refine x_iload_n (i := 3) dX11_rests_38 rfl rfl rfl ?_
  rcases (show m = 0 ∨ m = 1 ∨ m = 2 by omega) with rfl | rfl | rfl
  · refine x_lookup (tgt := 64) (off := 25) dX11_rests_39 rfl rfl rfl ?_
    refine x_aload_n (i := 0) dX11_rests_64 rfl rfl rfl ?_
    refine x_getC dX11_rests_65 rfl fX11_51 hC rfl F_0_5 ?_
    refine x_getM (a := 37) dX11_rests_68 rfl fX11_338 hC rfl k3 ?_
    refine x_ireturn dX11_rests_71 rfl rfl ?_
    exact K _ _ _ (by simp only [sp_rests, qx, qy, qm]) (hR.sc hC2 sq) (mF.sq sq (fun a => scP_lt))
  · refine x_lookup (tgt := 72) (off := 33) dX11_rests_39 rfl rfl rfl ?_
    refine x_aload_n (i := 0) dX11_rests_72 rfl rfl rfl ?_
    refine x_getC dX11_rests_73 rfl fX11_51 hC rfl F_0_5 ?_
    refine x_getM (a := 37) dX11_rests_76 rfl fX11_338 hC rfl k3 ?_
    refine x_if_ne (tgt := 86) dX11_rests_79 rfl rfl (fun c79 => ?_) (fun c79 => ?_)
    · have ne : ¬ (wkR S x y).2 = 0 := fun e => c79 (by rw [e]; exact nI_0)
      refine x_aload_n (i := 0) dX11_rests_86 rfl rfl rfl ?_
      refine x_getC dX11_rests_87 rfl fX11_51 hC rfl F_0_5 ?_
      refine x_callV0 (ci := 0) (b := 37) (As := []) (d2 := d - 1) dX11_rests_90 rfl kX11_341 okX0_lastNormBy4 (hC.o rfl) (fun q hq => by cases hq; rfl) (by omega) rfl rfl (Nat.le_of_ble_eq_true rfl) (c_lastNorm (by omega) hC ?_)
      refine x_callS0 (As := [_]) (d2 := d - 1) dX11_rests_93 rfl kX11_240 okX11_capped (by omega) rfl rfl (Nat.le_of_ble_eq_true rfl) (c_capped (by omega) ?_)
      refine x_ireturn dX11_rests_96 rfl rfl ?_
      exact K _ _ _ (by simp only [sp_rests, qx, qy, qm, if_neg ne, zInn_e k2 k2]) (hR.sc hC2 sq) (mF.sq sq (fun a => scP_lt))
    · have ye : (wkR S x y).2 = 0 := (nI_eq (by omega) (by omega)).mp (c79.trans nI_0.symm)
      refine x_iconst dX11_rests_82 rfl iC_m1 ?_
      refine x_goto (tgt := 96) dX11_rests_83 rfl ?_
      refine x_ireturn dX11_rests_96 rfl rfl ?_
      exact K _ _ _ (by simp only [sp_rests, qx, qy, qm, if_pos ye]) (hR.sc hC2 sq) (mF.sq sq (fun a => scP_lt))
  · refine x_lookup (tgt := 97) (off := 58) dX11_rests_39 rfl rfl rfl ?_
    refine x_aload_n (i := 0) dX11_rests_97 rfl rfl rfl ?_
    refine x_getC dX11_rests_98 rfl fX11_51 hC rfl F_0_5 ?_
    refine x_getM (a := 37) dX11_rests_101 rfl fX11_345 hC rfl k4 ?_
    refine x_callS0 (As := [_]) (d2 := d - 1) dX11_rests_104 rfl kX11_240 okX11_capped (by omega) rfl rfl (Nat.le_of_ble_eq_true rfl) (c_capped (by omega) ?_)
    refine x_ireturn dX11_rests_107 rfl rfl ?_
    exact K _ _ _ (by simp only [sp_rests, qx, qy, qm]) (hR.sc hC2 sq) (mF.sq sq (fun a => scP_lt))
end PUB

