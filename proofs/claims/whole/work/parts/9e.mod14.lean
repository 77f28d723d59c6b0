/-! EightPartsModel: laws -/
def six (x y z : Nat → Int32) (w : Nat → Nat → Int32) : Prop := oMul x x = some (w 0) ∧ oMul x y = some (w 1) ∧ oMul y x = some (w 2) ∧ oMul y z = some (w 3) ∧ oMul z x = some (w 4) ∧ oMul z y = some (w 5)
theorem six_of {x y z : Nat → Int32} {w : Nat → Nat → Int32} (h : oPairs x y z = some w) : six x y z w := by
  unfold oPairs at h
  obtain ⟨w0, h0, h⟩ := Option.bind_eq_some_iff.mp h
  obtain ⟨w1, h1, h⟩ := Option.bind_eq_some_iff.mp h
  obtain ⟨w2, h2, h⟩ := Option.bind_eq_some_iff.mp h
  obtain ⟨w3, h3, h⟩ := Option.bind_eq_some_iff.mp h
  obtain ⟨w4, h4, h⟩ := Option.bind_eq_some_iff.mp h
  obtain ⟨w5, h5, h⟩ := Option.map_eq_some_iff.mp h
  subst h
  exact ⟨h0, h1, h2, h3, h4, h5⟩
theorem la_bad {x y z : Nat → Int32} (h : ∀ w, six x y z w → oHolds w x y z 8 = none) : zLaws x y z = -2 := by
  unfold zLaws
  cases e : oPairs x y z with
  | none => rfl
  | some w =>
    rw [Option.bind_some, h w (six_of e)]
    rfl
theorem la_k {x y z : Nat → Int32} (k : Nat) (hk : k < 8) (h : ∀ w, six x y z w → oLaw k w x y z = none) : zLaws x y z = -2 := by
  refine la_bad (fun w hw => oHolds_none (k := k + 1) ?_ 8 (by omega))
  rw [oHolds]
  unfold oHold
  rw [h w hw]
  cases oHolds w x y z k <;> rfl
theorem la_ok {x y z : Nat → Int32} {w : Nat → Nat → Int32} {s : Int32} (hw : six x y z w) (h : ∀ w, six x y z w → oHolds w x y z 8 = some s) : zLaws x y z = s := by
  unfold zLaws
  cases e : oPairs x y z with
  | none =>
    obtain ⟨h0, h1, h2, h3, h4, h5⟩ := hw
    simp [oPairs, h0, h1, h2, h3, h4, h5] at e
  | some w =>
    rw [Option.bind_some, h w (six_of e)]
    rfl
theorem la_s {x y z : Nat → Int32} {k : Nat} {s : Int32} {f g : Nat → Int32} (hk : k ≠ 6) (h : ∀ w, six x y z w → oHolds w x y z k = some s) (hl : ∀ w, six x y z w → oLaw k w x y z = some (f, g)) : ∀ w, six x y z w → oHolds w x y z (k + 1) = some (zBit (zSame f g) s (nI 1 <<< (nI k &&& 31))) := by
  intro w hw
  rw [oHolds, h w hw]
  unfold oHold
  rw [hl w hw, Option.bind_some, Option.map_some, Option.map_some, if_neg hk]
  rfl
theorem la_6 {x y z : Nat → Int32} {s : Int32} {f : Nat → Int32} (hf : oMul x y = some f) (h : ∀ w, six x y z w → oHolds w x y z 6 = some s) : ∀ w, six x y z w → oHolds w x y z 7 = some (zBit (4 * zInn f f 8 = zInn x x 8 * zInn y y 8) s (nI 1 <<< (nI 6 &&& 31))) := by
  intro w hw
  rw [oHolds, h w hw]
  unfold oHold
  have e : w 1 = f := Option.some.inj (hw.2.1.symm.trans hf)
  rw [← e]
  rfl
theorem zBit_t {p : Prop} {s b : Int32} (h : p) : zBit p s b = s ||| b := if_pos h
theorem zBit_f {p : Prop} {s b : Int32} (h : ¬ p) : zBit p s b = s := if_neg h
theorem o2_l {a b : zO} (h : a = none) : o2 a b = none := by rw [h]; rfl
theorem o2_r {a b : zO} (h : b = none) : o2 a b = none := by rw [h]; cases a <;> rfl
theorem o2_s {a b : zO} {f g : Nat → Int32} (h : a = some f) (h2 : b = some g) : o2 a b = some (f, g) := by rw [h, h2]; rfl
section MOD
variable {G : xG} {l : Launch} {d : Nat} {h : xH} {Q : Option Value → xH → Prop} {S : St}
theorem m_mulE {t x y : Nat} {fx fy : Nat → Int32} (hd : 2 ≤ d) (hC : Cs h) (hB : mB h) (ht : t < 155) (hx : x < 155) (hy : y < 155) (ex : pl h x = c8 fx) (ey : pl h y = c8 fy)
    (Kt : ∀ z, oMul fx fy = some z → ∀ h2, mV [t] [113] h h2 → pl h2 t = c8 z → Q (some (.int (nI 1))) h2)
    (Kf : oMul fx fy = none → ∀ h2, mV [] [113] h h2 → Q (some (.int (nI 0))) h2) : xCt G l mX12_multiplies d [.ref 110, .int (nI t), .int (nI x), .int (nI y)] h 0 0 Q := by
  have e : oMul (pl h x) (pl h y) = oMul fx fy := by rw [ex, ey, oMul_cl, oMul_cr]
  exact m_mul hd hC hB ht hx hy (fun z hz => Kt z (by rw [← e]; exact hz)) (fun hz => Kf (by rw [← e]; exact hz))
theorem m_both {x y u v : Nat} {fx fy fu fv : Nat → Int32} (hd : 3 ≤ d) (hC : Cs h) (hB : mB h) (hx : x < 155) (hy : y < 155) (hu : u < 155) (hv : v < 155) (u1 : u ≠ 14) (v1 : v ≠ 14) (ex : pl h x = c8 fx) (ey : pl h y = c8 fy) (eu : pl h u = c8 fu) (ev : pl h v = c8 fv)
    (Kt : ∀ f g, o2 (oMul fx fy) (oMul fu fv) = some (f, g) → ∀ h2, mV [14, 15] [113] h h2 → pl h2 14 = c8 f → pl h2 15 = c8 g → Q (some (.int (nI 1))) h2)
    (Kf : o2 (oMul fx fy) (oMul fu fv) = none → ∀ h2, mV [14, 15] [113] h h2 → Q (some (.int (nI 0))) h2) : xCt G l mX12_both d [.ref 110, .int (nI x), .int (nI y), .int (nI u), .int (nI v)] h 0 0 Q := by
  refine xCt_of (by decide) (Nat.le_of_ble_eq_true rfl) ?_
  refine x_aload_n (i := 0) dX12_both_0 rfl rfl rfl ?_
  refine x_bipush dX12_both_1 rfl bC_14 ?_
  refine x_iload_n (i := 1) dX12_both_3 rfl rfl rfl ?_
  refine x_iload_n (i := 2) dX12_both_4 rfl rfl rfl ?_
  refine x_callV0 (ci := 12) (b := 110) (As := [_, _, _]) (d2 := d - 1) dX12_both_5 rfl kX12_197 okX12_multiplies (hC.o rfl) (fun q hq => by cases hq; rfl) (by omega) rfl rfl (Nat.le_of_ble_eq_true rfl) (m_mulE (t := 14) (by omega) hC hB (by decide) hx hy ex ey (fun z1 g1 h1 k1 e1 => ?_) (fun g1 h1 k1 => ?_))
  · have hC := k1.1
    refine x_if_eq_f (tgt := 27) dX12_both_8 rfl rfl nb1 ?_
    refine x_aload_n (i := 0) dX12_both_11 rfl rfl rfl ?_
    refine x_bipush dX12_both_12 rfl bC_15 ?_
    refine x_iload_n (i := 3) dX12_both_14 rfl rfl rfl ?_
    refine x_iload dX12_both_15 rfl rfl ?_
    refine x_callV0 (ci := 12) (b := 110) (As := [_, _, _]) (d2 := d - 1) dX12_both_17 rfl kX12_197 okX12_multiplies (hC.o rfl) (fun q hq => by cases hq; rfl) (by omega) rfl rfl (Nat.le_of_ble_eq_true rfl) (m_mulE (t := 15) (by omega) hC (k1.2.2.2 hB) (by decide) hu hv (by rw [k1.pp hu (by simp; omega), eu]) (by rw [k1.pp hv (by simp; omega), ev]) (fun z2 g2 h2 k2 e2 => ?_) (fun g2 h2 k2 => ?_))
    · refine x_if_eq_f (tgt := 27) dX12_both_20 rfl rfl nb1 ?_
      refine x_iconst dX12_both_23 rfl iC_1 ?_
      refine x_goto (tgt := 28) dX12_both_24 rfl ?_
      refine x_ireturn dX12_both_28 rfl rfl ?_
      exact Kt z1 z2 (o2_s g1 g2) h2 ((k1.tr k2).sub (by simp) (by simp)) (by rw [k2.pp (by decide) (by decide), e1]) e2
    · refine x_if_eq_t (tgt := 27) dX12_both_20 rfl nI_0 ?_
      refine x_iconst dX12_both_27 rfl iC_0 ?_
      refine x_ireturn dX12_both_28 rfl rfl ?_
      exact Kf (o2_r g2) h2 ((k1.tr k2).sub (by simp) (by simp))
  · refine x_if_eq_t (tgt := 27) dX12_both_8 rfl nI_0 ?_
    refine x_iconst dX12_both_27 rfl iC_0 ?_
    refine x_ireturn dX12_both_28 rfl rfl ?_
    exact Kf (o2_l g1) h1 (k1.sub (by simp) (by simp))
theorem m_sameE {x y : Nat} {fx fy : Nat → Int32} (hC : Cs h) (hx : x < 155) (hy : y < 155) (ex : pl h x = c8 fx) (ey : pl h y = c8 fy) (Kt : zSame fx fy → Q (some (.int (nI 1))) h) (Kf : ¬ zSame fx fy → Q (some (.int (nI 0))) h) : xCt G l mX12_areSame d [.ref 110, .int (nI x), .int (nI y)] h 0 0 Q := by
  have e : zSame (pl h x) (pl h y) ↔ zSame fx fy := zSame_e (by rw [ex, c8_c8]) (by rw [ey, c8_c8])
  exact m_areSame hC hx hy (fun z => Kt (e.mp z)) (fun z => Kf (fun q => z (e.mpr q)))
theorem n_laws {a1 a2 a3 : Int32} (hd : 10 ≤ d) (hR : RM h S) (K : ∀ r S2 h2, sp_laws S a1 a2 a3 = (r, S2) → RM h2 S2 → cF h h2 → Q (some (.int r)) h2) : xCt G l mX12_laws d [.ref 110, .int a1, .int a2, .int a3] h 0 0 Q := by
  have hC := hR.1
  refine xCt_of (by decide) (Nat.le_of_ble_eq_true rfl) ?_
  refine x_iload_n (i := 1) dX12_laws_0 rfl rfl rfl ?_
  refine x_iload_n (i := 2) dX12_laws_1 rfl rfl rfl ?_
  refine x_iload_n (i := 3) dX12_laws_2 rfl rfl rfl ?_
  refine x_callS0 (As := [_, _, _]) (d2 := d - 1) dX12_laws_3 rfl kX12_189 okX12_areSlots (by omega) rfl rfl (Nat.le_of_ble_eq_true rfl) (m_areSlots (by omega) (fun z => ?_) (fun x y z hx hy hz ex ey ez qx qy qz => ?_))
  · refine x_if_ne_f (tgt := 11) dX12_laws_6 rfl rfl nI_0 ?_
    refine x_iconst dX12_laws_9 rfl iC_m1 ?_
    refine x_ireturn dX12_laws_10 rfl rfl ?_
    exact K _ _ _ (by rcases z with z | ⟨i, z0, z⟩ | ⟨i, i2, z0, z1, z⟩; exact (by simp only [sp_laws, z] <;> rfl); exact (by simp only [sp_laws, z0, z] <;> rfl); exact (by simp only [sp_laws, z0, z1, z] <;> rfl)) hR (cF.rf hC)
  subst ex ey ez
  refine x_if_ne_t (tgt := 11) dX12_laws_6 rfl nb1 ?_
  have en : sp_laws S (nI x) (nI y) (nI z) = (zLaws (S.1 x) (S.1 y) (S.1 z), S) := by simp only [sp_laws, qx, qy, qz]
  have cx : pl h x = c8 (S.1 x) := by rw [hR.p hx, hR.cc hx]
  have cy : pl h y = c8 (S.1 y) := by rw [hR.p hy, hR.cc hy]
  have cz : pl h z = c8 (S.1 z) := by rw [hR.p hz, hR.cc hz]
  generalize S.1 x = X at en cx
  generalize S.1 y = Y at en cy
  generalize S.1 z = Z at en cz
  have sl : ∀ h2, mV [9, 10, 11, 12, 13, 14, 15, 20] [113] h h2 → pl h2 x = c8 X ∧ pl h2 y = c8 Y ∧ pl h2 z = c8 Z := fun h2 hv => ⟨by rw [hv.pp (by omega) (by simp; omega), cx], by rw [hv.pp (by omega) (by simp; omega), cy], by rw [hv.pp (by omega) (by simp; omega), cz]⟩
  have fin : ∀ r h2, mV [9, 10, 11, 12, 13, 14, 15, 20] [113] h h2 → zLaws X Y Z = r → Q (some (.int r)) h2 := fun r h2 hv e => K r S h2 (by rw [en, e]) (hR.sc hv (by simp) (by simp [mN])) (hv.c (by simp))
  refine x_iconst dX12_laws_11 rfl iC_0 ?_
  refine x_istore dX12_laws_12 rfl (by decide) ?_
  refine x_aload_n (i := 0) dX12_laws_14 rfl rfl rfl ?_
  refine x_bipush dX12_laws_15 rfl bC_9 ?_
  refine x_iload_n (i := 1) dX12_laws_17 rfl rfl rfl ?_
  refine x_iload_n (i := 2) dX12_laws_18 rfl rfl rfl ?_
  refine x_callV0 (ci := 12) (b := 110) (As := [_, _, _]) (d2 := d - 1) dX12_laws_19 rfl kX12_197 okX12_multiplies (hC.o rfl) (fun q hq => by cases hq; rfl) (by omega) rfl rfl (Nat.le_of_ble_eq_true rfl) (m_mulE (t := 9) (by omega) hC hR.b (by decide) (by omega) (by omega) cx cy (fun z1 gz1 h1 v1 e1 => ?_) (fun gz1 h1 v1 => ?_))
  rotate_left
  · refine x_if_eq_t (tgt := 58) dX12_laws_22 rfl nI_0 ?_
    refine x_bipush dX12_laws_58 rfl bC_m2 ?_
    refine x_ireturn dX12_laws_60 rfl rfl ?_
    exact fin _ _ (v1.sub (by simp) (by simp)) (la_bad (fun w hw => by rw [hw.2.1] at gz1; cases gz1))
  have w1 := v1.sub (P2 := [9, 10, 11, 12, 13, 14, 15, 20]) (C2 := [113]) (by simp) (by simp)
  have hC := v1.1
  refine x_if_eq_f (tgt := 58) dX12_laws_22 rfl rfl nb1 ?_
  refine x_aload_n (i := 0) dX12_laws_25 rfl rfl rfl ?_
  refine x_bipush dX12_laws_26 rfl bC_10 ?_
  refine x_iload_n (i := 2) dX12_laws_28 rfl rfl rfl ?_
  refine x_iload_n (i := 3) dX12_laws_29 rfl rfl rfl ?_
  refine x_callV0 (ci := 12) (b := 110) (As := [_, _, _]) (d2 := d - 1) dX12_laws_30 rfl kX12_197 okX12_multiplies (hC.o rfl) (fun q hq => by cases hq; rfl) (by omega) rfl rfl (Nat.le_of_ble_eq_true rfl) (m_mulE (t := 10) (by omega) hC (w1.2.2.2 hR.b) (by decide) (by omega) (by omega) (sl _ w1).2.1 (sl _ w1).2.2 (fun z3 gz3 h2 v2 e2 => ?_) (fun gz3 h2 v2 => ?_))
  rotate_left
  · refine x_if_eq_t (tgt := 58) dX12_laws_33 rfl nI_0 ?_
    refine x_bipush dX12_laws_58 rfl bC_m2 ?_
    refine x_ireturn dX12_laws_60 rfl rfl ?_
    exact fin _ _ ((w1.tr v2).sub (by simp) (by simp)) (la_bad (fun w hw => by rw [hw.2.2.2.1] at gz3; cases gz3))
  have w2 := (w1.tr v2).sub (P2 := [9, 10, 11, 12, 13, 14, 15, 20]) (C2 := [113]) (by simp) (by simp)
  have hC := v2.1
  refine x_if_eq_f (tgt := 58) dX12_laws_33 rfl rfl nb1 ?_
  refine x_aload_n (i := 0) dX12_laws_36 rfl rfl rfl ?_
  refine x_bipush dX12_laws_37 rfl bC_11 ?_
  refine x_iload_n (i := 2) dX12_laws_39 rfl rfl rfl ?_
  refine x_iload_n (i := 1) dX12_laws_40 rfl rfl rfl ?_
  refine x_callV0 (ci := 12) (b := 110) (As := [_, _, _]) (d2 := d - 1) dX12_laws_41 rfl kX12_197 okX12_multiplies (hC.o rfl) (fun q hq => by cases hq; rfl) (by omega) rfl rfl (Nat.le_of_ble_eq_true rfl) (m_mulE (t := 11) (by omega) hC (w2.2.2.2 hR.b) (by decide) (by omega) (by omega) (sl _ w2).2.1 (sl _ w2).1 (fun z2 gz2 h3 v3 e3 => ?_) (fun gz2 h3 v3 => ?_))
  rotate_left
  · refine x_if_eq_t (tgt := 58) dX12_laws_44 rfl nI_0 ?_
    refine x_bipush dX12_laws_58 rfl bC_m2 ?_
    refine x_ireturn dX12_laws_60 rfl rfl ?_
    exact fin _ _ ((w2.tr v3).sub (by simp) (by simp)) (la_bad (fun w hw => by rw [hw.2.2.1] at gz2; cases gz2))
  have w3 := (w2.tr v3).sub (P2 := [9, 10, 11, 12, 13, 14, 15, 20]) (C2 := [113]) (by simp) (by simp)
  have hC := v3.1
  refine x_if_eq_f (tgt := 58) dX12_laws_44 rfl rfl nb1 ?_
  refine x_aload_n (i := 0) dX12_laws_47 rfl rfl rfl ?_
  refine x_bipush dX12_laws_48 rfl bC_12 ?_
  refine x_iload_n (i := 1) dX12_laws_50 rfl rfl rfl ?_
  refine x_iload_n (i := 1) dX12_laws_51 rfl rfl rfl ?_
  refine x_callV0 (ci := 12) (b := 110) (As := [_, _, _]) (d2 := d - 1) dX12_laws_52 rfl kX12_197 okX12_multiplies (hC.o rfl) (fun q hq => by cases hq; rfl) (by omega) rfl rfl (Nat.le_of_ble_eq_true rfl) (m_mulE (t := 12) (by omega) hC (w3.2.2.2 hR.b) (by decide) (by omega) (by omega) (sl _ w3).1 (sl _ w3).1 (fun z0 gz0 h4 v4 e4 => ?_) (fun gz0 h4 v4 => ?_))
  rotate_left
  · refine x_if_ne_f (tgt := 61) dX12_laws_55 rfl rfl nI_0 ?_
    refine x_bipush dX12_laws_58 rfl bC_m2 ?_
    refine x_ireturn dX12_laws_60 rfl rfl ?_
    exact fin _ _ ((w3.tr v4).sub (by simp) (by simp)) (la_bad (fun w hw => by rw [hw.1] at gz0; cases gz0))
  have w4 := (w3.tr v4).sub (P2 := [9, 10, 11, 12, 13, 14, 15, 20]) (C2 := [113]) (by simp) (by simp)
  have hC := v4.1
  have p9 : pl h4 9 = c8 z1 := by rw [v4.pp (by decide) (by decide), v3.pp (by decide) (by decide), v2.pp (by decide) (by decide), e1]
  have p10 : pl h4 10 = c8 z3 := by rw [v4.pp (by decide) (by decide), v3.pp (by decide) (by decide), e2]
  have p11 : pl h4 11 = c8 z2 := by rw [v4.pp (by decide) (by decide), e3]
  have p12 : pl h4 12 = c8 z0 := e4
  obtain ⟨I, hI⟩ : ∃ I : xH → Prop, I = fun h1 => mV [9, 10, 11, 12, 13, 14, 15, 20] [113] h h1 ∧ pl h1 9 = c8 z1 ∧ pl h1 10 = c8 z3 ∧ pl h1 11 = c8 z2 ∧ pl h1 12 = c8 z0 := ⟨_, rfl⟩
  have i4 : I h4 := by rw [hI]; exact ⟨w4, p9, p10, p11, p12⟩
  have iv : ∀ h1 h2 Pl, I h1 → mV Pl [113] h1 h2 → (∀ q ∈ Pl, q = 13 ∨ q = 14 ∨ q = 15 ∨ q = 20) → I h2 := by
    intro h1 h2 Pl i hv hp
    rw [hI] at i ⊢
    obtain ⟨i1, i2, i3, i4, i5⟩ := i
    have np : ∀ q, q < 13 → q ∉ Pl := fun q hq z => by have := hp q z; omega
    exact ⟨(i1.tr hv).sub (by intro q hq; rcases List.mem_append.mp hq with e | e; exact e; have := hp q e; simp; omega) (by simp), by rw [hv.pp (by decide) (np 9 (by decide)), i2], by rw [hv.pp (by decide) (np 10 (by decide)), i3], by rw [hv.pp (by decide) (np 11 (by decide)), i4], by rw [hv.pp (by decide) (np 12 (by decide)), i5]⟩
  have iw : ∀ h1, I h1 → mV [9, 10, 11, 12, 13, 14, 15, 20] [113] h h1 ∧ pl h1 9 = c8 z1 ∧ pl h1 10 = c8 z3 ∧ pl h1 11 = c8 z2 ∧ pl h1 12 = c8 z0 := fun h1 i => by rw [hI] at i; exact i
  have e0' : ∀ w, six X Y Z w → w 0 = z0 ∧ w 1 = z1 ∧ w 2 = z2 ∧ w 3 = z3 := fun w hw => ⟨Option.some.inj (hw.1.symm.trans gz0), Option.some.inj (hw.2.1.symm.trans gz1), Option.some.inj (hw.2.2.1.symm.trans gz2), Option.some.inj (hw.2.2.2.1.symm.trans gz3)⟩
  have st7 : ∀ h1 s z4, I h1 → oMul Z X = some z4 → pl h1 13 = c8 z4 → (∀ w, six X Y Z w → oHolds w X Y Z 7 = some s) → xWP G l mX12_laws d (zM G Q) 0 0 302 (xls [(0, .ref 110), (1, .int (nI x)), (2, .int (nI y)), (3, .int (nI z)), (4, .int s)]) [] h1 := by
    intro h1 s z4 i1 g4 q13 hs1
    have hv := (iw h1 i1).1
    have hC := hv.1
    have q9 := (iw h1 i1).2.1
    have q10 := (iw h1 i1).2.2.1
    have q11 := (iw h1 i1).2.2.2.1
    have q12 := (iw h1 i1).2.2.2.2
    obtain ⟨sx, sy, sz⟩ := sl h1 hv
    have e4' : ∀ w, six X Y Z w → w 4 = z4 := fun w hw => Option.some.inj (hw.2.2.2.2.1.symm.trans g4)
    refine x_aload_n (i := 0) dX12_laws_302 rfl rfl rfl ?_
    refine x_bipush dX12_laws_303 rfl bC_13 ?_
    refine x_bipush dX12_laws_305 rfl bC_13 ?_
    refine x_iload_n (i := 3) dX12_laws_307 rfl rfl rfl ?_
    refine x_callV0 (ci := 12) (b := 110) (As := [_, _, _]) (d2 := d - 1) dX12_laws_308 rfl kX12_197 okX12_multiplies (hC.o rfl) (fun q hq => by cases hq; rfl) (by omega) rfl rfl (Nat.le_of_ble_eq_true rfl) (m_mulE (t := 13) (x := 13) (by omega) hC (hv.2.2.2 hR.b) (by decide) (by decide) (by omega) q13 sz (fun m1 gm1 h2 k2 t2 => ?_) (fun gm1 h2 k2 => ?_))
    rotate_left
    · refine x_if_eq_t (tgt := 350) dX12_laws_311 rfl nI_0 ?_
      refine x_bipush dX12_laws_350 rfl bC_m2 ?_
      refine x_ireturn dX12_laws_352 rfl rfl ?_
      exact fin _ _ (iw h2 (iv h1 h2 [] i1 k2 (by simp))).1 (la_k 7 (by decide) (fun w hw => by show o2 ((oMul (w 4) Z).bind _) _ = none; rw [e4' w hw, gm1]; rfl))
    have i2 := iv h1 h2 [13] i1 k2 (by simp)
    have hC := k2.1
    obtain ⟨sx, sy, sz⟩ := sl h2 (iw h2 i2).1
    refine x_if_eq_f (tgt := 350) dX12_laws_311 rfl rfl nb1 ?_
    refine x_aload_n (i := 0) dX12_laws_314 rfl rfl rfl ?_
    refine x_bipush dX12_laws_315 rfl bC_20 ?_
    refine x_iload_n (i := 3) dX12_laws_317 rfl rfl rfl ?_
    refine x_iload_n (i := 2) dX12_laws_318 rfl rfl rfl ?_
    refine x_callV0 (ci := 12) (b := 110) (As := [_, _, _]) (d2 := d - 1) dX12_laws_319 rfl kX12_197 okX12_multiplies (hC.o rfl) (fun q hq => by cases hq; rfl) (by omega) rfl rfl (Nat.le_of_ble_eq_true rfl) (m_mulE (t := 20) (by omega) hC ((iw h2 i2).1.2.2.2 hR.b) (by decide) (by omega) (by omega) sz sy (fun z5 g5 h3 k3 t3 => ?_) (fun g5 h3 k3 => ?_))
    rotate_left
    · refine x_if_eq_t (tgt := 350) dX12_laws_322 rfl nI_0 ?_
      refine x_bipush dX12_laws_350 rfl bC_m2 ?_
      refine x_ireturn dX12_laws_352 rfl rfl ?_
      exact fin _ _ (iw h3 (iv h2 h3 [] i2 k3 (by simp))).1 (la_bad (fun w hw => by rw [hw.2.2.2.2.2] at g5; cases g5))
    have i3 := iv h2 h3 [20] i2 k3 (by simp)
    have hC := k3.1
    have e5' : ∀ w, six X Y Z w → w 5 = z5 := fun w hw => Option.some.inj (hw.2.2.2.2.2.symm.trans g5)
    obtain ⟨sx, sy, sz⟩ := sl h3 (iw h3 i3).1
    refine x_if_eq_f (tgt := 350) dX12_laws_322 rfl rfl nb1 ?_
    refine x_aload_n (i := 0) dX12_laws_325 rfl rfl rfl ?_
    refine x_bipush dX12_laws_326 rfl bC_20 ?_
    refine x_iload_n (i := 1) dX12_laws_328 rfl rfl rfl ?_
    refine x_bipush dX12_laws_329 rfl bC_20 ?_
    refine x_callV0 (ci := 12) (b := 110) (As := [_, _, _]) (d2 := d - 1) dX12_laws_331 rfl kX12_197 okX12_multiplies (hC.o rfl) (fun q hq => by cases hq; rfl) (by omega) rfl rfl (Nat.le_of_ble_eq_true rfl) (m_mulE (t := 20) (y := 20) (by omega) hC ((iw h3 i3).1.2.2.2 hR.b) (by decide) (by omega) (by decide) sx t3 (fun m2 gm2 h5 k5 t5 => ?_) (fun gm2 h5 k5 => ?_))
    rotate_left
    · refine x_if_eq_t (tgt := 350) dX12_laws_334 rfl nI_0 ?_
      refine x_bipush dX12_laws_350 rfl bC_m2 ?_
      refine x_ireturn dX12_laws_352 rfl rfl ?_
      exact fin _ _ (iw h5 (iv h3 h5 [] i3 k5 (by simp))).1 (la_k 7 (by decide) (fun w hw => by show o2 _ ((oMul X (w 5)).bind _) = none; rw [e5' w hw, gm2]; exact o2_r rfl))
    have i5 := iv h3 h5 [20] i3 k5 (by simp)
    have hC := k5.1
    have q13 : pl h5 13 = c8 m1 := by rw [k5.pp (by decide) (by decide), k3.pp (by decide) (by decide), t2]
    obtain ⟨sx, sy, sz⟩ := sl h5 (iw h5 i5).1
    have ol : ∀ w, six X Y Z w → oLaw 7 w X Y Z = o2 (oMul m1 Y) (oMul Z m2) := by
      intro w hw
      show o2 ((oMul (w 4) Z).bind (fun m => oMul m Y)) ((oMul X (w 5)).bind (fun m => oMul Z m)) = _
      rw [e4' w hw, e5' w hw, gm1, gm2]
      rfl
    refine x_if_eq_f (tgt := 350) dX12_laws_334 rfl rfl nb1 ?_
    refine x_aload_n (i := 0) dX12_laws_337 rfl rfl rfl ?_
    refine x_bipush dX12_laws_338 rfl bC_13 ?_
    refine x_iload_n (i := 2) dX12_laws_340 rfl rfl rfl ?_
    refine x_iload_n (i := 3) dX12_laws_341 rfl rfl rfl ?_
    refine x_bipush dX12_laws_342 rfl bC_20 ?_
    refine x_callV0 (ci := 12) (b := 110) (As := [_, _, _, _]) (d2 := d - 1) dX12_laws_344 rfl kX12_392 okX12_both (hC.o rfl) (fun q hq => by cases hq; rfl) (by omega) rfl rfl (Nat.le_of_ble_eq_true rfl) (m_both (x := 13) (v := 20) (by omega) hC ((iw h5 i5).1.2.2.2 hR.b) (by decide) (by omega) (by omega) (by decide) (by omega) (by omega) q13 sy sz t5 (fun F1 G1 gf h6 k6 f14 f15 => ?_) (fun gf h6 k6 => ?_))
    rotate_left
    · refine x_if_ne_f (tgt := 353) dX12_laws_347 rfl rfl nI_0 ?_
      refine x_bipush dX12_laws_350 rfl bC_m2 ?_
      refine x_ireturn dX12_laws_352 rfl rfl ?_
      exact fin _ _ (iw h6 (iv h5 h6 [14, 15] i5 k6 (by simp))).1 (la_k 7 (by decide) (fun w hw => by rw [ol w hw, gf]))
    have i6 := iv h5 h6 [14, 15] i5 k6 (by simp)
    have hC := k6.1
    have hn := la_s (k := 7) (by decide) hs1 (fun w hw => by rw [ol w hw, gf])
    have hsix : six X Y Z (zSix z0 z1 z2 z3 z4 z5) := ⟨gz0, gz1, gz2, gz3, g4, g5⟩
    refine x_if_ne_t (tgt := 353) dX12_laws_347 rfl nb1 ?_
    refine x_aload_n (i := 0) dX12_laws_353 rfl rfl rfl ?_
    refine x_bipush dX12_laws_354 rfl bC_14 ?_
    refine x_bipush dX12_laws_356 rfl bC_15 ?_
    refine x_callV0 (ci := 12) (b := 110) (As := [_, _]) (d2 := d - 1) dX12_laws_358 rfl kX12_280 okX12_areSame (hC.o rfl) (fun q hq => by cases hq; rfl) (by omega) rfl rfl (Nat.le_of_ble_eq_true rfl) (m_sameE (x := 14) (y := 15) hC (by decide) (by decide) f14 f15 (fun zz => ?_) (fun zz => ?_))
    · rw [zBit_t zz] at hn
      refine x_if_eq_f (tgt := 372) dX12_laws_361 rfl rfl nb1 ?_
      refine x_iload dX12_laws_364 rfl rfl ?_
      refine x_sipush dX12_laws_366 rfl sC_128 ?_
      refine x_ior dX12_laws_369 rfl ?_
      refine x_istore dX12_laws_370 rfl (by decide) ?_
      refine x_iload dX12_laws_372 rfl rfl ?_
      refine x_ireturn dX12_laws_374 rfl rfl ?_
      exact fin _ _ (iw h6 i6).1 (la_ok hsix hn)
    · rw [zBit_f zz] at hn
      refine x_if_eq_t (tgt := 372) dX12_laws_361 rfl nI_0 ?_
      refine x_iload dX12_laws_372 rfl rfl ?_
      refine x_ireturn dX12_laws_374 rfl rfl ?_
      exact fin _ _ (iw h6 i6).1 (la_ok hsix hn)
  have st6 : ∀ h1 s z4, I h1 → oMul Z X = some z4 → pl h1 13 = c8 z4 → (∀ w, six X Y Z w → oHolds w X Y Z 6 = some s) → xWP G l mX12_laws d (zM G Q) 0 0 270 (xls [(0, .ref 110), (1, .int (nI x)), (2, .int (nI y)), (3, .int (nI z)), (4, .int s)]) [] h1 := by
    intro h1 s z4 i1 g4 q13 hs1
    have hv := (iw h1 i1).1
    have hC := hv.1
    have q9 := (iw h1 i1).2.1
    have q10 := (iw h1 i1).2.2.1
    have q11 := (iw h1 i1).2.2.2.1
    have q12 := (iw h1 i1).2.2.2.2
    obtain ⟨sx, sy, sz⟩ := sl h1 hv
    have hn := la_6 gz1 hs1
    refine x_ldc2 dX12_laws_270 rfl cX12_141 ?_
    refine x_aload_n (i := 0) dX12_laws_273 rfl rfl rfl ?_
    refine x_bipush dX12_laws_274 rfl bC_9 ?_
    refine x_callV0 (ci := 12) (b := 110) (As := [_]) (d2 := d - 1) dX12_laws_276 rfl kX12_137 okX12_normOf (hC.o rfl) (fun q hq => by cases hq; rfl) (by omega) rfl rfl (Nat.le_of_ble_eq_true rfl) (m_normOf hC (x := 9) (by decide) ?_)
    refine x_lmul dX12_laws_279 rfl ?_
    refine x_aload_n (i := 0) dX12_laws_280 rfl rfl rfl ?_
    refine x_iload_n (i := 1) dX12_laws_281 rfl rfl rfl ?_
    refine x_callV0 (ci := 12) (b := 110) (As := [_]) (d2 := d - 1) dX12_laws_282 rfl kX12_137 okX12_normOf (hC.o rfl) (fun q hq => by cases hq; rfl) (by omega) rfl rfl (Nat.le_of_ble_eq_true rfl) (m_normOf hC (by omega) ?_)
    refine x_aload_n (i := 0) dX12_laws_285 rfl rfl rfl ?_
    refine x_iload_n (i := 2) dX12_laws_286 rfl rfl rfl ?_
    refine x_callV0 (ci := 12) (b := 110) (As := [_]) (d2 := d - 1) dX12_laws_287 rfl kX12_137 okX12_normOf (hC.o rfl) (fun q hq => by cases hq; rfl) (by omega) rfl rfl (Nat.le_of_ble_eq_true rfl) (m_normOf hC (by omega) ?_)
    rw [q9, sx, sy, zInn_c z1 z1 8 (Nat.le_refl _), zInn_c X X 8 (Nat.le_refl _), zInn_c Y Y 8 (Nat.le_refl _)]
    refine x_lmul dX12_laws_290 rfl ?_
    refine x_lcmp dX12_laws_291 rfl ?_
    refine x_if_ne (tgt := 302) dX12_laws_292 rfl rfl (fun c292 => ?_) (fun c292 => ?_)
    · have zz : ¬ 4 * zInn z1 z1 8 = zInn X X 8 * zInn Y Y 8 := by
        first
        | exact mt (lg_cmp_eq _ _).mpr c292
        | exact fun e => c292 ((lg_cmp_eq _ _).mpr e)
      rw [zBit_f zz] at hn
      exact x_to (st7 h1 s z4 i1 g4 q13 hn) ⟨rfl, rfl, rfl, rfl, rfl, trivial⟩
    · have zz : 4 * zInn z1 z1 8 = zInn X X 8 * zInn Y Y 8 := by
        first
        | exact (lg_cmp_eq _ _).mp c292
        | exact Classical.byContradiction (fun z => c292 (fun e => z ((lg_cmp_eq _ _).mp e)))
      rw [zBit_t zz] at hn
      refine x_iload dX12_laws_295 rfl rfl ?_
      refine x_bipush dX12_laws_297 rfl bC_64 ?_
      refine x_ior dX12_laws_299 rfl ?_
      refine x_istore dX12_laws_300 rfl (by decide) ?_
      exact x_to (st7 h1 _ z4 i1 g4 q13 hn) ⟨rfl, rfl, rfl, rfl, rfl, trivial⟩
  have st5 : ∀ h1 s, I h1 → (∀ w, six X Y Z w → oHolds w X Y Z 5 = some s) → xWP G l mX12_laws d (zM G Q) 0 0 212 (xls [(0, .ref 110), (1, .int (nI x)), (2, .int (nI y)), (3, .int (nI z)), (4, .int s)]) [] h1 := by
    intro h1 s i1 hs1
    have hv := (iw h1 i1).1
    have hC := hv.1
    have q9 := (iw h1 i1).2.1
    have q10 := (iw h1 i1).2.2.1
    have q11 := (iw h1 i1).2.2.2.1
    have q12 := (iw h1 i1).2.2.2.2
    obtain ⟨sx, sy, sz⟩ := sl h1 hv
    refine x_aload_n (i := 0) dX12_laws_212 rfl rfl rfl ?_
    refine x_bipush dX12_laws_213 rfl bC_13 ?_
    refine x_iload_n (i := 3) dX12_laws_215 rfl rfl rfl ?_
    refine x_iload_n (i := 1) dX12_laws_216 rfl rfl rfl ?_
    refine x_callV0 (ci := 12) (b := 110) (As := [_, _, _]) (d2 := d - 1) dX12_laws_217 rfl kX12_197 okX12_multiplies (hC.o rfl) (fun q hq => by cases hq; rfl) (by omega) rfl rfl (Nat.le_of_ble_eq_true rfl) (m_mulE (t := 13) (by omega) hC (hv.2.2.2 hR.b) (by decide) (by omega) (by omega) sz sx (fun z4 g4 h2 k2 t2 => ?_) (fun g4 h2 k2 => ?_))
    rotate_left
    · refine x_if_eq_t (tgt := 249) dX12_laws_220 rfl nI_0 ?_
      refine x_bipush dX12_laws_249 rfl bC_m2 ?_
      refine x_ireturn dX12_laws_251 rfl rfl ?_
      exact fin _ _ (iw h2 (iv h1 h2 [] i1 k2 (by simp))).1 (la_bad (fun w hw => by rw [hw.2.2.2.2.1] at g4; cases g4))
    have e4' : ∀ w, six X Y Z w → w 4 = z4 := fun w hw => Option.some.inj (hw.2.2.2.2.1.symm.trans g4)
    have i2 := iv h1 h2 [13] i1 k2 (by simp)
    have hC := k2.1
    obtain ⟨sx, sy, sz⟩ := sl h2 (iw h2 i2).1
    refine x_if_eq_f (tgt := 249) dX12_laws_220 rfl rfl nb1 ?_
    refine x_aload_n (i := 0) dX12_laws_223 rfl rfl rfl ?_
    refine x_bipush dX12_laws_224 rfl bC_20 ?_
    refine x_iload_n (i := 3) dX12_laws_226 rfl rfl rfl ?_
    refine x_bipush dX12_laws_227 rfl bC_9 ?_
    refine x_callV0 (ci := 12) (b := 110) (As := [_, _, _]) (d2 := d - 1) dX12_laws_229 rfl kX12_197 okX12_multiplies (hC.o rfl) (fun q hq => by cases hq; rfl) (by omega) rfl rfl (Nat.le_of_ble_eq_true rfl) (m_mulE (t := 20) (y := 9) (by omega) hC ((iw h2 i2).1.2.2.2 hR.b) (by decide) (by omega) (by decide) sz (iw h2 i2).2.1 (fun m1 gm1 h3 k3 t3 => ?_) (fun gm1 h3 k3 => ?_))
    rotate_left
    · refine x_if_eq_t (tgt := 249) dX12_laws_232 rfl nI_0 ?_
      refine x_bipush dX12_laws_249 rfl bC_m2 ?_
      refine x_ireturn dX12_laws_251 rfl rfl ?_
      exact fin _ _ (iw h3 (iv h2 h3 [] i2 k3 (by simp))).1 (la_k 5 (by decide) (fun w hw => by show o2 _ ((oMul Z (w 1)).bind _) = none; rw [(e0' w hw).2.1, gm1]; exact o2_r rfl))
    have i3 := iv h2 h3 [20] i2 k3 (by simp)
    have hC := k3.1
    obtain ⟨sx, sy, sz⟩ := sl h3 (iw h3 i3).1
    have q13 : pl h3 13 = c8 z4 := by rw [k3.pp (by decide) (by decide), t2]
    have ol : ∀ w, six X Y Z w → oLaw 5 w X Y Z = o2 (oMul z4 z3) (oMul m1 Z) := by
      intro w hw
      show o2 (oMul (w 4) (w 3)) ((oMul Z (w 1)).bind (fun m => oMul m Z)) = _
      rw [e4' w hw, (e0' w hw).2.1, (e0' w hw).2.2.2, gm1]
      rfl
    refine x_if_eq_f (tgt := 249) dX12_laws_232 rfl rfl nb1 ?_
    refine x_aload_n (i := 0) dX12_laws_235 rfl rfl rfl ?_
    refine x_bipush dX12_laws_236 rfl bC_13 ?_
    refine x_bipush dX12_laws_238 rfl bC_10 ?_
    refine x_bipush dX12_laws_240 rfl bC_20 ?_
    refine x_iload_n (i := 3) dX12_laws_242 rfl rfl rfl ?_
    refine x_callV0 (ci := 12) (b := 110) (As := [_, _, _, _]) (d2 := d - 1) dX12_laws_243 rfl kX12_392 okX12_both (hC.o rfl) (fun q hq => by cases hq; rfl) (by omega) rfl rfl (Nat.le_of_ble_eq_true rfl) (m_both (x := 13) (y := 10) (u := 20) (by omega) hC ((iw h3 i3).1.2.2.2 hR.b) (by decide) (by decide) (by decide) (by omega) (by decide) (by omega) q13 (iw h3 i3).2.2.1 t3 sz (fun F1 G1 gf h6 k6 f14 f15 => ?_) (fun gf h6 k6 => ?_))
    rotate_left
    · refine x_if_ne_f (tgt := 252) dX12_laws_246 rfl rfl nI_0 ?_
      refine x_bipush dX12_laws_249 rfl bC_m2 ?_
      refine x_ireturn dX12_laws_251 rfl rfl ?_
      exact fin _ _ (iw h6 (iv h3 h6 [14, 15] i3 k6 (by simp))).1 (la_k 5 (by decide) (fun w hw => by rw [ol w hw, gf]))
    have i6 := iv h3 h6 [14, 15] i3 k6 (by simp)
    have hC := k6.1
    have q13 : pl h6 13 = c8 z4 := by rw [k6.pp (by decide) (by decide), q13]
    have hn := la_s (k := 5) (by decide) hs1 (fun w hw => by rw [ol w hw, gf])
    refine x_if_ne_t (tgt := 252) dX12_laws_246 rfl nb1 ?_
    refine x_aload_n (i := 0) dX12_laws_252 rfl rfl rfl ?_
    refine x_bipush dX12_laws_253 rfl bC_14 ?_
    refine x_bipush dX12_laws_255 rfl bC_15 ?_
    refine x_callV0 (ci := 12) (b := 110) (As := [_, _]) (d2 := d - 1) dX12_laws_257 rfl kX12_280 okX12_areSame (hC.o rfl) (fun q hq => by cases hq; rfl) (by omega) rfl rfl (Nat.le_of_ble_eq_true rfl) (m_sameE (x := 14) (y := 15) hC (by decide) (by decide) f14 f15 (fun zz => ?_) (fun zz => ?_))
    · rw [zBit_t zz] at hn
      refine x_if_eq_f (tgt := 270) dX12_laws_260 rfl rfl nb1 ?_
      refine x_iload dX12_laws_263 rfl rfl ?_
      refine x_bipush dX12_laws_265 rfl bC_32 ?_
      refine x_ior dX12_laws_267 rfl ?_
      refine x_istore dX12_laws_268 rfl (by decide) ?_
      exact x_to (st6 h6 _ z4 i6 g4 q13 hn) ⟨rfl, rfl, rfl, rfl, rfl, trivial⟩
    · rw [zBit_f zz] at hn
      refine x_if_eq_t (tgt := 270) dX12_laws_260 rfl nI_0 ?_
      exact x_to (st6 h6 _ z4 i6 g4 q13 hn) ⟨rfl, rfl, rfl, rfl, rfl, trivial⟩
  have st4 : ∀ h1 s, I h1 → (∀ w, six X Y Z w → oHolds w X Y Z 4 = some s) → xWP G l mX12_laws d (zM G Q) 0 0 178 (xls [(0, .ref 110), (1, .int (nI x)), (2, .int (nI y)), (3, .int (nI z)), (4, .int s)]) [] h1 := by
    intro h1 s i1 hs1
    have hv := (iw h1 i1).1
    have hC := hv.1
    have q9 := (iw h1 i1).2.1
    have q10 := (iw h1 i1).2.2.1
    have q11 := (iw h1 i1).2.2.2.1
    have q12 := (iw h1 i1).2.2.2.2
    obtain ⟨sx, sy, sz⟩ := sl h1 hv
    have ol : ∀ w, six X Y Z w → oLaw 4 w X Y Z = o2 (oMul X z2) (oMul z1 X) := by
      intro w hw
      obtain ⟨u0, u1, u2, u3⟩ := e0' w hw
      subst u0 u1 u2 u3
      rfl
    refine x_aload_n (i := 0) dX12_laws_178 rfl rfl rfl ?_
    refine x_iload_n (i := 1) dX12_laws_179 rfl rfl rfl ?_
    refine x_bipush dX12_laws_180 rfl bC_11 ?_
    refine x_bipush dX12_laws_182 rfl bC_9 ?_
    refine x_iload_n (i := 1) dX12_laws_184 rfl rfl rfl ?_
    refine x_callV0 (ci := 12) (b := 110) (As := [_, _, _, _]) (d2 := d - 1) dX12_laws_185 rfl kX12_392 okX12_both (hC.o rfl) (fun q hq => by cases hq; rfl) (by omega) rfl rfl (Nat.le_of_ble_eq_true rfl) (m_both (y := 11) (u := 9) (by omega) hC (hv.2.2.2 hR.b) (by omega) (by decide) (by decide) (by omega) (by decide) (by omega) sx q11 q9 sx (fun F1 G1 gf h6 k6 f14 f15 => ?_) (fun gf h6 k6 => ?_))
    rotate_left
    · refine x_if_ne_f (tgt := 194) dX12_laws_188 rfl rfl nI_0 ?_
      refine x_bipush dX12_laws_191 rfl bC_m2 ?_
      refine x_ireturn dX12_laws_193 rfl rfl ?_
      exact fin _ _ (iw h6 (iv h1 h6 [14, 15] i1 k6 (by simp))).1 (la_k 4 (by decide) (fun w hw => by rw [ol w hw, gf]))
    have i6 := iv h1 h6 [14, 15] i1 k6 (by simp)
    have hC := k6.1
    have hn := la_s (k := 4) (by decide) hs1 (fun w hw => by rw [ol w hw, gf])
    refine x_if_ne_t (tgt := 194) dX12_laws_188 rfl nb1 ?_
    refine x_aload_n (i := 0) dX12_laws_194 rfl rfl rfl ?_
    refine x_bipush dX12_laws_195 rfl bC_14 ?_
    refine x_bipush dX12_laws_197 rfl bC_15 ?_
    refine x_callV0 (ci := 12) (b := 110) (As := [_, _]) (d2 := d - 1) dX12_laws_199 rfl kX12_280 okX12_areSame (hC.o rfl) (fun q hq => by cases hq; rfl) (by omega) rfl rfl (Nat.le_of_ble_eq_true rfl) (m_sameE (x := 14) (y := 15) hC (by decide) (by decide) f14 f15 (fun zz => ?_) (fun zz => ?_))
    · rw [zBit_t zz] at hn
      refine x_if_eq_f (tgt := 212) dX12_laws_202 rfl rfl nb1 ?_
      refine x_iload dX12_laws_205 rfl rfl ?_
      refine x_bipush dX12_laws_207 rfl bC_16 ?_
      refine x_ior dX12_laws_209 rfl ?_
      refine x_istore dX12_laws_210 rfl (by decide) ?_
      exact x_to (st5 h6 _ i6 hn) ⟨rfl, rfl, rfl, rfl, rfl, trivial⟩
    · rw [zBit_f zz] at hn
      refine x_if_eq_t (tgt := 212) dX12_laws_202 rfl nI_0 ?_
      exact x_to (st5 h6 _ i6 hn) ⟨rfl, rfl, rfl, rfl, rfl, trivial⟩
  have st3 : ∀ h1 s, I h1 → (∀ w, six X Y Z w → oHolds w X Y Z 3 = some s) → xWP G l mX12_laws d (zM G Q) 0 0 144 (xls [(0, .ref 110), (1, .int (nI x)), (2, .int (nI y)), (3, .int (nI z)), (4, .int s)]) [] h1 := by
    intro h1 s i1 hs1
    have hv := (iw h1 i1).1
    have hC := hv.1
    have q9 := (iw h1 i1).2.1
    have q10 := (iw h1 i1).2.2.1
    have q11 := (iw h1 i1).2.2.2.1
    have q12 := (iw h1 i1).2.2.2.2
    obtain ⟨sx, sy, sz⟩ := sl h1 hv
    have ol : ∀ w, six X Y Z w → oLaw 3 w X Y Z = o2 (oMul z2 X) (oMul Y z0) := by
      intro w hw
      obtain ⟨u0, u1, u2, u3⟩ := e0' w hw
      subst u0 u1 u2 u3
      rfl
    refine x_aload_n (i := 0) dX12_laws_144 rfl rfl rfl ?_
    refine x_bipush dX12_laws_145 rfl bC_11 ?_
    refine x_iload_n (i := 1) dX12_laws_147 rfl rfl rfl ?_
    refine x_iload_n (i := 2) dX12_laws_148 rfl rfl rfl ?_
    refine x_bipush dX12_laws_149 rfl bC_12 ?_
    refine x_callV0 (ci := 12) (b := 110) (As := [_, _, _, _]) (d2 := d - 1) dX12_laws_151 rfl kX12_392 okX12_both (hC.o rfl) (fun q hq => by cases hq; rfl) (by omega) rfl rfl (Nat.le_of_ble_eq_true rfl) (m_both (x := 11) (v := 12) (by omega) hC (hv.2.2.2 hR.b) (by decide) (by omega) (by omega) (by decide) (by omega) (by decide) q11 sx sy q12 (fun F1 G1 gf h6 k6 f14 f15 => ?_) (fun gf h6 k6 => ?_))
    rotate_left
    · refine x_if_ne_f (tgt := 160) dX12_laws_154 rfl rfl nI_0 ?_
      refine x_bipush dX12_laws_157 rfl bC_m2 ?_
      refine x_ireturn dX12_laws_159 rfl rfl ?_
      exact fin _ _ (iw h6 (iv h1 h6 [14, 15] i1 k6 (by simp))).1 (la_k 3 (by decide) (fun w hw => by rw [ol w hw, gf]))
    have i6 := iv h1 h6 [14, 15] i1 k6 (by simp)
    have hC := k6.1
    have hn := la_s (k := 3) (by decide) hs1 (fun w hw => by rw [ol w hw, gf])
    refine x_if_ne_t (tgt := 160) dX12_laws_154 rfl nb1 ?_
    refine x_aload_n (i := 0) dX12_laws_160 rfl rfl rfl ?_
    refine x_bipush dX12_laws_161 rfl bC_14 ?_
    refine x_bipush dX12_laws_163 rfl bC_15 ?_
    refine x_callV0 (ci := 12) (b := 110) (As := [_, _]) (d2 := d - 1) dX12_laws_165 rfl kX12_280 okX12_areSame (hC.o rfl) (fun q hq => by cases hq; rfl) (by omega) rfl rfl (Nat.le_of_ble_eq_true rfl) (m_sameE (x := 14) (y := 15) hC (by decide) (by decide) f14 f15 (fun zz => ?_) (fun zz => ?_))
    · rw [zBit_t zz] at hn
      refine x_if_eq_f (tgt := 178) dX12_laws_168 rfl rfl nb1 ?_
      refine x_iload dX12_laws_171 rfl rfl ?_
      refine x_bipush dX12_laws_173 rfl bC_8 ?_
      refine x_ior dX12_laws_175 rfl ?_
      refine x_istore dX12_laws_176 rfl (by decide) ?_
      exact x_to (st4 h6 _ i6 hn) ⟨rfl, rfl, rfl, rfl, rfl, trivial⟩
    · rw [zBit_f zz] at hn
      refine x_if_eq_t (tgt := 178) dX12_laws_168 rfl nI_0 ?_
      exact x_to (st4 h6 _ i6 hn) ⟨rfl, rfl, rfl, rfl, rfl, trivial⟩
  have st2 : ∀ h1 s, I h1 → (∀ w, six X Y Z w → oHolds w X Y Z 2 = some s) → xWP G l mX12_laws d (zM G Q) 0 0 111 (xls [(0, .ref 110), (1, .int (nI x)), (2, .int (nI y)), (3, .int (nI z)), (4, .int s)]) [] h1 := by
    intro h1 s i1 hs1
    have hv := (iw h1 i1).1
    have hC := hv.1
    have q9 := (iw h1 i1).2.1
    have q10 := (iw h1 i1).2.2.1
    have q11 := (iw h1 i1).2.2.2.1
    have q12 := (iw h1 i1).2.2.2.2
    obtain ⟨sx, sy, sz⟩ := sl h1 hv
    have ol : ∀ w, six X Y Z w → oLaw 2 w X Y Z = o2 (oMul X z1) (oMul z0 Y) := by
      intro w hw
      obtain ⟨u0, u1, u2, u3⟩ := e0' w hw
      subst u0 u1 u2 u3
      rfl
    refine x_aload_n (i := 0) dX12_laws_111 rfl rfl rfl ?_
    refine x_iload_n (i := 1) dX12_laws_112 rfl rfl rfl ?_
    refine x_bipush dX12_laws_113 rfl bC_9 ?_
    refine x_bipush dX12_laws_115 rfl bC_12 ?_
    refine x_iload_n (i := 2) dX12_laws_117 rfl rfl rfl ?_
    refine x_callV0 (ci := 12) (b := 110) (As := [_, _, _, _]) (d2 := d - 1) dX12_laws_118 rfl kX12_392 okX12_both (hC.o rfl) (fun q hq => by cases hq; rfl) (by omega) rfl rfl (Nat.le_of_ble_eq_true rfl) (m_both (y := 9) (u := 12) (by omega) hC (hv.2.2.2 hR.b) (by omega) (by decide) (by decide) (by omega) (by decide) (by omega) sx q9 q12 sy (fun F1 G1 gf h6 k6 f14 f15 => ?_) (fun gf h6 k6 => ?_))
    rotate_left
    · refine x_if_ne_f (tgt := 127) dX12_laws_121 rfl rfl nI_0 ?_
      refine x_bipush dX12_laws_124 rfl bC_m2 ?_
      refine x_ireturn dX12_laws_126 rfl rfl ?_
      exact fin _ _ (iw h6 (iv h1 h6 [14, 15] i1 k6 (by simp))).1 (la_k 2 (by decide) (fun w hw => by rw [ol w hw, gf]))
    have i6 := iv h1 h6 [14, 15] i1 k6 (by simp)
    have hC := k6.1
    have hn := la_s (k := 2) (by decide) hs1 (fun w hw => by rw [ol w hw, gf])
    refine x_if_ne_t (tgt := 127) dX12_laws_121 rfl nb1 ?_
    refine x_aload_n (i := 0) dX12_laws_127 rfl rfl rfl ?_
    refine x_bipush dX12_laws_128 rfl bC_14 ?_
    refine x_bipush dX12_laws_130 rfl bC_15 ?_
    refine x_callV0 (ci := 12) (b := 110) (As := [_, _]) (d2 := d - 1) dX12_laws_132 rfl kX12_280 okX12_areSame (hC.o rfl) (fun q hq => by cases hq; rfl) (by omega) rfl rfl (Nat.le_of_ble_eq_true rfl) (m_sameE (x := 14) (y := 15) hC (by decide) (by decide) f14 f15 (fun zz => ?_) (fun zz => ?_))
    · rw [zBit_t zz] at hn
      refine x_if_eq_f (tgt := 144) dX12_laws_135 rfl rfl nb1 ?_
      refine x_iload dX12_laws_138 rfl rfl ?_
      refine x_iconst dX12_laws_140 rfl iC_4 ?_
      refine x_ior dX12_laws_141 rfl ?_
      refine x_istore dX12_laws_142 rfl (by decide) ?_
      exact x_to (st3 h6 _ i6 hn) ⟨rfl, rfl, rfl, rfl, rfl, trivial⟩
    · rw [zBit_f zz] at hn
      refine x_if_eq_t (tgt := 144) dX12_laws_135 rfl nI_0 ?_
      exact x_to (st3 h6 _ i6 hn) ⟨rfl, rfl, rfl, rfl, rfl, trivial⟩
  have st1 : ∀ h1 s, I h1 → (∀ w, six X Y Z w → oHolds w X Y Z 1 = some s) → xWP G l mX12_laws d (zM G Q) 0 0 94 (xls [(0, .ref 110), (1, .int (nI x)), (2, .int (nI y)), (3, .int (nI z)), (4, .int s)]) [] h1 := by
    intro h1 s i1 hs1
    have hv := (iw h1 i1).1
    have hC := hv.1
    have q9 := (iw h1 i1).2.1
    have q10 := (iw h1 i1).2.2.1
    have q11 := (iw h1 i1).2.2.2.1
    have q12 := (iw h1 i1).2.2.2.2
    obtain ⟨sx, sy, sz⟩ := sl h1 hv
    have hn := la_s (k := 1) (f := z1) (g := z2) (by decide) hs1 (fun w hw => by show some (w 1, w 2) = _; rw [(e0' w hw).2.1, (e0' w hw).2.2.1])
    refine x_aload_n (i := 0) dX12_laws_94 rfl rfl rfl ?_
    refine x_bipush dX12_laws_95 rfl bC_9 ?_
    refine x_bipush dX12_laws_97 rfl bC_11 ?_
    refine x_callV0 (ci := 12) (b := 110) (As := [_, _]) (d2 := d - 1) dX12_laws_99 rfl kX12_280 okX12_areSame (hC.o rfl) (fun q hq => by cases hq; rfl) (by omega) rfl rfl (Nat.le_of_ble_eq_true rfl) (m_sameE (x := 9) (y := 11) hC (by decide) (by decide) q9 q11 (fun zz => ?_) (fun zz => ?_))
    · rw [zBit_t zz] at hn
      refine x_if_eq_f (tgt := 111) dX12_laws_102 rfl rfl nb1 ?_
      refine x_iload dX12_laws_105 rfl rfl ?_
      refine x_iconst dX12_laws_107 rfl iC_2 ?_
      refine x_ior dX12_laws_108 rfl ?_
      refine x_istore dX12_laws_109 rfl (by decide) ?_
      exact x_to (st2 h1 _ i1 hn) ⟨rfl, rfl, rfl, rfl, rfl, trivial⟩
    · rw [zBit_f zz] at hn
      refine x_if_eq_t (tgt := 111) dX12_laws_102 rfl nI_0 ?_
      exact x_to (st2 h1 _ i1 hn) ⟨rfl, rfl, rfl, rfl, rfl, trivial⟩
  have st0 : ∀ h1 s, I h1 → (∀ w, six X Y Z w → oHolds w X Y Z 0 = some s) → xWP G l mX12_laws d (zM G Q) 0 0 61 (xls [(0, .ref 110), (1, .int (nI x)), (2, .int (nI y)), (3, .int (nI z)), (4, .int s)]) [] h1 := by
    intro h1 s i1 hs1
    have hv := (iw h1 i1).1
    have hC := hv.1
    have q9 := (iw h1 i1).2.1
    have q10 := (iw h1 i1).2.2.1
    have q11 := (iw h1 i1).2.2.2.1
    have q12 := (iw h1 i1).2.2.2.2
    obtain ⟨sx, sy, sz⟩ := sl h1 hv
    have ol : ∀ w, six X Y Z w → oLaw 0 w X Y Z = o2 (oMul z1 Z) (oMul X z3) := by
      intro w hw
      obtain ⟨u0, u1, u2, u3⟩ := e0' w hw
      subst u0 u1 u2 u3
      rfl
    refine x_aload_n (i := 0) dX12_laws_61 rfl rfl rfl ?_
    refine x_bipush dX12_laws_62 rfl bC_9 ?_
    refine x_iload_n (i := 3) dX12_laws_64 rfl rfl rfl ?_
    refine x_iload_n (i := 1) dX12_laws_65 rfl rfl rfl ?_
    refine x_bipush dX12_laws_66 rfl bC_10 ?_
    refine x_callV0 (ci := 12) (b := 110) (As := [_, _, _, _]) (d2 := d - 1) dX12_laws_68 rfl kX12_392 okX12_both (hC.o rfl) (fun q hq => by cases hq; rfl) (by omega) rfl rfl (Nat.le_of_ble_eq_true rfl) (m_both (x := 9) (v := 10) (by omega) hC (hv.2.2.2 hR.b) (by decide) (by omega) (by omega) (by decide) (by omega) (by decide) q9 sz sx q10 (fun F1 G1 gf h6 k6 f14 f15 => ?_) (fun gf h6 k6 => ?_))
    rotate_left
    · refine x_if_ne_f (tgt := 77) dX12_laws_71 rfl rfl nI_0 ?_
      refine x_bipush dX12_laws_74 rfl bC_m2 ?_
      refine x_ireturn dX12_laws_76 rfl rfl ?_
      exact fin _ _ (iw h6 (iv h1 h6 [14, 15] i1 k6 (by simp))).1 (la_k 0 (by decide) (fun w hw => by rw [ol w hw, gf]))
    have i6 := iv h1 h6 [14, 15] i1 k6 (by simp)
    have hC := k6.1
    have hn := la_s (k := 0) (by decide) hs1 (fun w hw => by rw [ol w hw, gf])
    refine x_if_ne_t (tgt := 77) dX12_laws_71 rfl nb1 ?_
    refine x_aload_n (i := 0) dX12_laws_77 rfl rfl rfl ?_
    refine x_bipush dX12_laws_78 rfl bC_14 ?_
    refine x_bipush dX12_laws_80 rfl bC_15 ?_
    refine x_callV0 (ci := 12) (b := 110) (As := [_, _]) (d2 := d - 1) dX12_laws_82 rfl kX12_280 okX12_areSame (hC.o rfl) (fun q hq => by cases hq; rfl) (by omega) rfl rfl (Nat.le_of_ble_eq_true rfl) (m_sameE (x := 14) (y := 15) hC (by decide) (by decide) f14 f15 (fun zz => ?_) (fun zz => ?_))
    · rw [zBit_t zz] at hn
      refine x_if_eq_f (tgt := 94) dX12_laws_85 rfl rfl nb1 ?_
      refine x_iload dX12_laws_88 rfl rfl ?_
      refine x_iconst dX12_laws_90 rfl iC_1 ?_
      refine x_ior dX12_laws_91 rfl ?_
      refine x_istore dX12_laws_92 rfl (by decide) ?_
      exact x_to (st1 h6 _ i6 hn) ⟨rfl, rfl, rfl, rfl, rfl, trivial⟩
    · rw [zBit_f zz] at hn
      refine x_if_eq_t (tgt := 94) dX12_laws_85 rfl nI_0 ?_
      exact x_to (st1 h6 _ i6 hn) ⟨rfl, rfl, rfl, rfl, rfl, trivial⟩
  refine x_if_ne_t (tgt := 61) dX12_laws_55 rfl nb1 ?_
  exact x_to (st0 h4 _ i4 (fun w hw => rfl)) ⟨rfl, rfl, rfl, rfl, rfl, trivial⟩
end MOD

