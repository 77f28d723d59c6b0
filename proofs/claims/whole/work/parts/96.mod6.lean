/-! EightPartsModel: told -/
theorem ng_sub {a b : Int32} (ha : -20000 ≤ a.toInt ∧ a.toInt ≤ 20000) (hb : -20000 ≤ b.toInt ∧ b.toInt ≤ 20000) : (a - b).toInt64 = a.toInt64 - b.toInt64 := by
  apply Int64.toInt_inj.mp
  have ea : a.toInt64.toInt = a.toInt := Int32.toInt_toInt64 a
  have eb : b.toInt64.toInt = b.toInt := Int32.toInt_toInt64 b
  rw [Int32.toInt_toInt64, fb_subI (by omega) (by omega), fb_subL (by rw [ea, eb]; omega) (by rw [ea, eb]; omega), ea, eb]
theorem pL_rem (x : Int64) : ¬ x - x / 2 * 2 = 0 ↔ pL x = true := by
  unfold pL
  rw [lrem2]
  simp
section MOD
variable {G : xG} {l : Launch} {d : Nat} {h : xH} {Q : Option Value → xH → Prop} {S : St}
theorem n_associator {a1 a2 a3 n : Int32} (hd : 10 ≤ d) (hR : RM h S) (K : ∀ r S2 h2, sp_associator S a1 a2 a3 n = (r, S2) → RM h2 S2 → cF h h2 → Q (some (.int r)) h2) : xCt G l mX12_associator d [.ref 110, .int a1, .int a2, .int a3, .int n] h 0 0 Q := by
  have hC := hR.1
  refine xCt_of (by decide) (Nat.le_of_ble_eq_true rfl) ?_
  refine x_iload_n (i := 1) dX12_associator_0 rfl rfl rfl ?_
  refine x_iload_n (i := 2) dX12_associator_1 rfl rfl rfl ?_
  refine x_iload_n (i := 3) dX12_associator_2 rfl rfl rfl ?_
  refine x_callS0 (As := [_, _, _]) (d2 := d - 1) dX12_associator_3 rfl kX12_189 okX12_areSlots (by omega) rfl rfl (Nat.le_of_ble_eq_true rfl) (m_areSlots (by omega) (fun z => ?_) (fun t x y ht hx hy et ex ey qt qx qy => ?_))
  · refine x_if_eq_t (tgt := 17) dX12_associator_6 rfl nI_0 ?_
    refine x_iconst dX12_associator_17 rfl iC_m1 ?_
    refine x_ireturn dX12_associator_18 rfl rfl ?_
    exact K _ _ _ (by rcases z with z | ⟨i, z0, z⟩ | ⟨i, i2, z0, z1, z⟩; exact (by simp only [sp_associator, z] <;> rfl); exact (by simp only [sp_associator, z0, z] <;> rfl); exact (by simp only [sp_associator, z0, z1, z] <;> rfl)) hR (cF.rf hC)
  subst et ex ey
  refine x_if_eq_f (tgt := 17) dX12_associator_6 rfl rfl nb1 ?_
  refine x_iload dX12_associator_9 rfl rfl ?_
  refine x_callS0 (As := [_]) (d2 := d - 1) dX12_associator_11 rfl kX12_165 okX12_isSlot (by omega) rfl rfl (Nat.le_of_ble_eq_true rfl) (m_isSlot (by omega) (fun z => ?_) (fun w hw ew qw => ?_))
  · refine x_if_ne_f (tgt := 19) dX12_associator_14 rfl rfl nI_0 ?_
    refine x_iconst dX12_associator_17 rfl iC_m1 ?_
    refine x_ireturn dX12_associator_18 rfl rfl ?_
    exact K _ _ _ (by simp only [sp_associator, qt, qx, qy, z] <;> rfl) hR (cF.rf hC)
  subst ew
  refine x_if_ne_t (tgt := 19) dX12_associator_14 rfl nb1 ?_
  have en : sp_associator S (nI t) (nI x) (nI y) (nI w) = sMay S t (oAss (S.1 x) (S.1 y) (S.1 w)) := by simp only [sp_associator, qt, qx, qy, qw]
  unfold oAss at en
  have fl : ∀ h2 L, L 0 = some (.ref 110) → L 1 = some (.int (nI t)) → mV [9, 10] [113] h h2 → sp_associator S (nI t) (nI x) (nI y) (nI w) = (-2, S) → xWP G l mX12_associator d (zM G Q) 0 0 85 L [] h2 := by
    intro h2 L l0 l1 hv e
    have hC := hv.1
    refine x_to (r := [(0, .ref 110), (1, .int (nI t))]) ?_ ⟨l0, l1, trivial⟩
    refine x_iconst dX12_associator_85 rfl iC_0 ?_
    refine x_istore dX12_associator_86 rfl (by decide) ?_
    refine x_aload_n (i := 0) dX12_associator_88 rfl rfl rfl ?_
    refine x_iload dX12_associator_89 rfl rfl ?_
    refine x_iload_n (i := 1) dX12_associator_91 rfl rfl rfl ?_
    refine x_bipush dX12_associator_92 rfl bC_9 ?_
    refine x_callV0 (ci := 12) (b := 110) (As := [_, _, _]) (d2 := d - 1) dX12_associator_94 rfl kX12_213 okX12_ends (hC.o rfl) (fun q hq => by cases hq; rfl) (by omega) rfl rfl (Nat.le_of_ble_eq_true rfl) (m_ends0 (by omega) ?_)
    refine x_ireturn dX12_associator_97 rfl rfl ?_
    exact K _ _ _ e (hR.sc hv (by simp) (by simp [mN])) (hv.c (by simp))
  have sl : ∀ h2, mV [9, 10] [113] h h2 → ∀ j, j < 8 → pl h2 j = S.1 j := fun h2 hv j hj => (hv.2.2.1 j (by omega) (by simp; omega)).trans (hR.p hj)
  refine x_aload_n (i := 0) dX12_associator_19 rfl rfl rfl ?_
  refine x_bipush dX12_associator_20 rfl bC_9 ?_
  refine x_iload_n (i := 2) dX12_associator_22 rfl rfl rfl ?_
  refine x_iload_n (i := 3) dX12_associator_23 rfl rfl rfl ?_
  refine x_callV0 (ci := 12) (b := 110) (As := [_, _, _]) (d2 := d - 1) dX12_associator_24 rfl kX12_197 okX12_multiplies (hC.o rfl) (fun q hq => by cases hq; rfl) (by omega) rfl rfl (Nat.le_of_ble_eq_true rfl) (m_mul (by omega) hC hR.b (t := 9) (by decide) (by omega) (by omega) (fun z1 g1 h1 v1 e1 => ?_) (fun g1 h1 v1 => ?_))
  rotate_left
  · rw [hR.p hx, hR.p hy] at g1
    refine x_if_eq_t (tgt := 85) dX12_associator_27 rfl nI_0 ?_
    exact fl _ _ rfl rfl (v1.sub (by simp) (by simp)) (by rw [en, g1]; rfl)
  rw [hR.p hx, hR.p hy] at g1
  rw [g1, Option.bind_some] at en
  have w1 := v1.sub (P2 := [9, 10]) (C2 := [113]) (by simp) (by simp)
  have hC := v1.1
  refine x_if_eq_f (tgt := 85) dX12_associator_27 rfl rfl nb1 ?_
  refine x_aload_n (i := 0) dX12_associator_30 rfl rfl rfl ?_
  refine x_bipush dX12_associator_31 rfl bC_9 ?_
  refine x_bipush dX12_associator_33 rfl bC_9 ?_
  refine x_iload dX12_associator_35 rfl rfl ?_
  refine x_callV0 (ci := 12) (b := 110) (As := [_, _, _]) (d2 := d - 1) dX12_associator_37 rfl kX12_197 okX12_multiplies (hC.o rfl) (fun q hq => by cases hq; rfl) (by omega) rfl rfl (Nat.le_of_ble_eq_true rfl) (m_mul (by omega) hC (w1.2.2.2 hR.b) (t := 9) (x := 9) (by decide) (by decide) (by omega) (fun z2 g2 h2 v2 e2 => ?_) (fun g2 h2 v2 => ?_))
  rotate_left
  · rw [e1, oMul_cl, sl h1 w1 w hw] at g2
    refine x_if_eq_t (tgt := 85) dX12_associator_40 rfl nI_0 ?_
    exact fl _ _ rfl rfl ((w1.tr v2).sub (by simp) (by simp)) (by rw [en, g2]; rfl)
  rw [e1, oMul_cl, sl h1 w1 w hw] at g2
  rw [g2, Option.bind_some] at en
  have w2 := (w1.tr v2).sub (P2 := [9, 10]) (C2 := [113]) (by simp) (by simp)
  have hC := v2.1
  refine x_if_eq_f (tgt := 85) dX12_associator_40 rfl rfl nb1 ?_
  refine x_aload_n (i := 0) dX12_associator_43 rfl rfl rfl ?_
  refine x_bipush dX12_associator_44 rfl bC_10 ?_
  refine x_iload_n (i := 3) dX12_associator_46 rfl rfl rfl ?_
  refine x_iload dX12_associator_47 rfl rfl ?_
  refine x_callV0 (ci := 12) (b := 110) (As := [_, _, _]) (d2 := d - 1) dX12_associator_49 rfl kX12_197 okX12_multiplies (hC.o rfl) (fun q hq => by cases hq; rfl) (by omega) rfl rfl (Nat.le_of_ble_eq_true rfl) (m_mul (by omega) hC (w2.2.2.2 hR.b) (t := 10) (by decide) (by omega) (by omega) (fun z3 g3 h3 v3 e3 => ?_) (fun g3 h3 v3 => ?_))
  rotate_left
  · rw [sl h2 w2 y hy, sl h2 w2 w hw] at g3
    refine x_if_eq_t (tgt := 85) dX12_associator_52 rfl nI_0 ?_
    exact fl _ _ rfl rfl ((w2.tr v3).sub (by simp) (by simp)) (by rw [en, g3]; rfl)
  rw [sl h2 w2 y hy, sl h2 w2 w hw] at g3
  rw [g3, Option.bind_some] at en
  have w3 := (w2.tr v3).sub (P2 := [9, 10]) (C2 := [113]) (by simp) (by simp)
  have hC := v3.1
  refine x_if_eq_f (tgt := 85) dX12_associator_52 rfl rfl nb1 ?_
  refine x_aload_n (i := 0) dX12_associator_55 rfl rfl rfl ?_
  refine x_bipush dX12_associator_56 rfl bC_10 ?_
  refine x_iload_n (i := 2) dX12_associator_58 rfl rfl rfl ?_
  refine x_bipush dX12_associator_59 rfl bC_10 ?_
  refine x_callV0 (ci := 12) (b := 110) (As := [_, _, _]) (d2 := d - 1) dX12_associator_61 rfl kX12_197 okX12_multiplies (hC.o rfl) (fun q hq => by cases hq; rfl) (by omega) rfl rfl (Nat.le_of_ble_eq_true rfl) (m_mul (by omega) hC (w3.2.2.2 hR.b) (t := 10) (y := 10) (by decide) (by omega) (by decide) (fun z4 g4 h4 v4 e4 => ?_) (fun g4 h4 v4 => ?_))
  rotate_left
  · rw [e3, oMul_cr, sl h3 w3 x hx] at g4
    refine x_if_eq_t (tgt := 85) dX12_associator_64 rfl nI_0 ?_
    exact fl _ _ rfl rfl ((w3.tr v4).sub (by simp) (by simp)) (by rw [en, g4]; rfl)
  rw [e3, oMul_cr, sl h3 w3 x hx] at g4
  rw [g4, Option.bind_some] at en
  have w4 := (w3.tr v4).sub (P2 := [9, 10]) (C2 := [113]) (by simp) (by simp)
  have hC := v4.1
  have e9 : pl h4 9 = c8 z2 := by rw [v4.2.2.1 9 (by decide) (by decide), v3.2.2.1 9 (by decide) (by decide)]; exact e2
  refine x_if_eq_f (tgt := 85) dX12_associator_64 rfl rfl nb1 ?_
  refine x_aload_n (i := 0) dX12_associator_67 rfl rfl rfl ?_
  refine x_bipush dX12_associator_68 rfl bC_9 ?_
  refine x_bipush dX12_associator_70 rfl bC_9 ?_
  refine x_bipush dX12_associator_72 rfl bC_10 ?_
  refine x_iconst dX12_associator_74 rfl iC_m1 ?_
  refine x_callV0 (ci := 12) (b := 110) (As := [_, _, _, _]) (d2 := d - 1) dX12_associator_75 rfl kX12_193 okX12_adds (hC.o rfl) (fun q hq => by cases hq; rfl) (by omega) rfl rfl (Nat.le_of_ble_eq_true rfl) (m_adds (by omega) hC (w4.2.2.2 hR.b) (Or.inr rfl) (t := 9) (x := 9) (y := 10) (by decide) (by decide) (by decide) (fun z5 g5 h5 v5 e5 => ?_) (fun g5 h5 v5 => ?_))
  · have w5 := (w4.tr v5).sub (P2 := [9, 10]) (C2 := [113]) (by simp) (by simp)
    have em := oAdd_e (s := -1) (f := pl h4 9) (f2 := z2) (g := pl h4 10) (g2 := z4) (by rw [e9, c8_c8]) (by rw [e4, c8_c8])
    have hC := v5.1
    refine x_if_eq_f (tgt := 85) dX12_associator_78 rfl rfl nb1 ?_
    refine x_iconst dX12_associator_81 rfl iC_1 ?_
    refine x_goto (tgt := 86) dX12_associator_82 rfl ?_
    refine x_istore dX12_associator_86 rfl (by decide) ?_
    refine x_aload_n (i := 0) dX12_associator_88 rfl rfl rfl ?_
    refine x_iload dX12_associator_89 rfl rfl ?_
    refine x_iload_n (i := 1) dX12_associator_91 rfl rfl rfl ?_
    refine x_bipush dX12_associator_92 rfl bC_9 ?_
    refine x_callV0 (ci := 12) (b := 110) (As := [_, _, _]) (d2 := d - 1) dX12_associator_94 rfl kX12_213 okX12_ends (hC.o rfl) (fun q hq => by cases hq; rfl) (by omega) rfl rfl (Nat.le_of_ble_eq_true rfl) (m_ends1 (by omega) hC (by omega) (by decide) (fun h6 v6 e6 => ?_))
    refine x_ireturn dX12_associator_97 rfl rfl ?_
    have kk := (w5.tr v6).sub (P2 := [t, 9, 10]) (C2 := [113]) (by simp) (by simp)
    exact K _ _ _ (by rw [en, ← sMay_map em]; exact sMay_some g5) (hR.set ht kk (by simp) (by simp [mN]) (by rw [e6, e5])) (kk.c (by simp))
  · have w5 := (w4.tr v5).sub (P2 := [9, 10]) (C2 := [113]) (by simp) (by simp)
    have em := oAdd_e (s := -1) (f := pl h4 9) (f2 := z2) (g := pl h4 10) (g2 := z4) (by rw [e9, c8_c8]) (by rw [e4, c8_c8])
    refine x_if_eq_t (tgt := 85) dX12_associator_78 rfl nI_0 ?_
    exact fl _ _ rfl rfl w5 (by rw [en, ← sMay_map em]; exact sMay_none g5)
theorem n_commutator {a1 a2 a3 : Int32} (hd : 10 ≤ d) (hR : RM h S) (K : ∀ r S2 h2, sp_commutator S a1 a2 a3 = (r, S2) → RM h2 S2 → cF h h2 → Q (some (.int r)) h2) : xCt G l mX12_commutator d [.ref 110, .int a1, .int a2, .int a3] h 0 0 Q := by
  have hC := hR.1
  refine xCt_of (by decide) (Nat.le_of_ble_eq_true rfl) ?_
  refine x_iload_n (i := 1) dX12_commutator_0 rfl rfl rfl ?_
  refine x_iload_n (i := 2) dX12_commutator_1 rfl rfl rfl ?_
  refine x_iload_n (i := 3) dX12_commutator_2 rfl rfl rfl ?_
  refine x_callS0 (As := [_, _, _]) (d2 := d - 1) dX12_commutator_3 rfl kX12_189 okX12_areSlots (by omega) rfl rfl (Nat.le_of_ble_eq_true rfl) (m_areSlots (by omega) (fun z => ?_) (fun t x y ht hx hy et ex ey qt qx qy => ?_))
  · refine x_if_eq_t (tgt := 60) dX12_commutator_6 rfl nI_0 ?_
    refine x_iconst dX12_commutator_60 rfl iC_m1 ?_
    refine x_ireturn dX12_commutator_61 rfl rfl ?_
    exact K _ _ _ (by rcases z with z | ⟨i, z0, z⟩ | ⟨i, i2, z0, z1, z⟩; exact (by simp only [sp_commutator, z] <;> rfl); exact (by simp only [sp_commutator, z0, z] <;> rfl); exact (by simp only [sp_commutator, z0, z1, z] <;> rfl)) hR (cF.rf hC)
  subst et ex ey
  refine x_if_eq_f (tgt := 60) dX12_commutator_6 rfl rfl nb1 ?_
  have en : sp_commutator S (nI t) (nI x) (nI y) = sMay S t (oCom (S.1 x) (S.1 y)) := by simp only [sp_commutator, qt, qx, qy]
  unfold oCom at en
  have fl : ∀ h2 L, L 1 = some (.int (nI t)) → mV [9, 10] [113] h h2 → sp_commutator S (nI t) (nI x) (nI y) = (-2, S) → xWP G l mX12_commutator d (zM G Q) 0 0 50 L [.ref 110] h2 := by
    intro h2 L l1 hv e
    have hC := hv.1
    refine x_to (r := [(1, .int (nI t))]) ?_ ⟨l1, trivial⟩
    refine x_iconst dX12_commutator_50 rfl iC_0 ?_
    refine x_iload_n (i := 1) dX12_commutator_51 rfl rfl rfl ?_
    refine x_bipush dX12_commutator_52 rfl bC_9 ?_
    refine x_callV0 (ci := 12) (b := 110) (As := [_, _, _]) (d2 := d - 1) dX12_commutator_54 rfl kX12_213 okX12_ends (hC.o rfl) (fun q hq => by cases hq; rfl) (by omega) rfl rfl (Nat.le_of_ble_eq_true rfl) (m_ends0 (by omega) ?_)
    refine x_goto (tgt := 61) dX12_commutator_57 rfl ?_
    refine x_ireturn dX12_commutator_61 rfl rfl ?_
    exact K _ _ _ e (hR.sc hv (by simp) (by simp [mN])) (hv.c (by simp))
  have sl : ∀ h2, mV [9, 10] [113] h h2 → ∀ j, j < 8 → pl h2 j = S.1 j := fun h2 hv j hj => (hv.2.2.1 j (by omega) (by simp; omega)).trans (hR.p hj)
  refine x_aload_n (i := 0) dX12_commutator_9 rfl rfl rfl ?_
  refine x_aload_n (i := 0) dX12_commutator_10 rfl rfl rfl ?_
  refine x_bipush dX12_commutator_11 rfl bC_9 ?_
  refine x_iload_n (i := 2) dX12_commutator_13 rfl rfl rfl ?_
  refine x_iload_n (i := 3) dX12_commutator_14 rfl rfl rfl ?_
  refine x_callV0 (ci := 12) (b := 110) (As := [_, _, _]) (d2 := d - 1) dX12_commutator_15 rfl kX12_197 okX12_multiplies (hC.o rfl) (fun q hq => by cases hq; rfl) (by omega) rfl rfl (Nat.le_of_ble_eq_true rfl) (m_mul (by omega) hC hR.b (t := 9) (by decide) (by omega) (by omega) (fun z1 g1 h1 v1 e1 => ?_) (fun g1 h1 v1 => ?_))
  rotate_left
  · rw [hR.p hx, hR.p hy] at g1
    refine x_if_eq_t (tgt := 50) dX12_commutator_18 rfl nI_0 ?_
    exact fl _ _ rfl (v1.sub (by simp) (by simp)) (by rw [en, g1]; rfl)
  rw [hR.p hx, hR.p hy] at g1
  rw [g1, Option.bind_some] at en
  have w1 := v1.sub (P2 := [9, 10]) (C2 := [113]) (by simp) (by simp)
  have hC := v1.1
  refine x_if_eq_f (tgt := 50) dX12_commutator_18 rfl rfl nb1 ?_
  refine x_aload_n (i := 0) dX12_commutator_21 rfl rfl rfl ?_
  refine x_bipush dX12_commutator_22 rfl bC_10 ?_
  refine x_iload_n (i := 3) dX12_commutator_24 rfl rfl rfl ?_
  refine x_iload_n (i := 2) dX12_commutator_25 rfl rfl rfl ?_
  refine x_callV0 (ci := 12) (b := 110) (As := [_, _, _]) (d2 := d - 1) dX12_commutator_26 rfl kX12_197 okX12_multiplies (hC.o rfl) (fun q hq => by cases hq; rfl) (by omega) rfl rfl (Nat.le_of_ble_eq_true rfl) (m_mul (by omega) hC (w1.2.2.2 hR.b) (t := 10) (by decide) (by omega) (by omega) (fun z2 g2 h2 v2 e2 => ?_) (fun g2 h2 v2 => ?_))
  rotate_left
  · rw [sl h1 w1 y hy, sl h1 w1 x hx] at g2
    refine x_if_eq_t (tgt := 50) dX12_commutator_29 rfl nI_0 ?_
    exact fl _ _ rfl ((w1.tr v2).sub (by simp) (by simp)) (by rw [en, g2]; rfl)
  rw [sl h1 w1 y hy, sl h1 w1 x hx] at g2
  rw [g2, Option.bind_some] at en
  have w4 := (w1.tr v2).sub (P2 := [9, 10]) (C2 := [113]) (by simp) (by simp)
  have hC := v2.1
  have e9 : pl h2 9 = c8 z1 := by rw [v2.2.2.1 9 (by decide) (by decide)]; exact e1
  refine x_if_eq_f (tgt := 50) dX12_commutator_29 rfl rfl nb1 ?_
  refine x_aload_n (i := 0) dX12_commutator_32 rfl rfl rfl ?_
  refine x_bipush dX12_commutator_33 rfl bC_9 ?_
  refine x_bipush dX12_commutator_35 rfl bC_9 ?_
  refine x_bipush dX12_commutator_37 rfl bC_10 ?_
  refine x_iconst dX12_commutator_39 rfl iC_m1 ?_
  refine x_callV0 (ci := 12) (b := 110) (As := [_, _, _, _]) (d2 := d - 1) dX12_commutator_40 rfl kX12_193 okX12_adds (hC.o rfl) (fun q hq => by cases hq; rfl) (by omega) rfl rfl (Nat.le_of_ble_eq_true rfl) (m_adds (by omega) hC (w4.2.2.2 hR.b) (Or.inr rfl) (t := 9) (x := 9) (y := 10) (by decide) (by decide) (by decide) (fun z5 g5 h5 v5 e5 => ?_) (fun g5 h5 v5 => ?_))
  · have w5 := (w4.tr v5).sub (P2 := [9, 10]) (C2 := [113]) (by simp) (by simp)
    have em := oAdd_e (s := -1) (f := pl h2 9) (f2 := z1) (g := pl h2 10) (g2 := z2) (by rw [e9, c8_c8]) (by rw [e2, c8_c8])
    have hC := v5.1
    refine x_if_eq_f (tgt := 50) dX12_commutator_43 rfl rfl nb1 ?_
    refine x_iconst dX12_commutator_46 rfl iC_1 ?_
    refine x_goto (tgt := 51) dX12_commutator_47 rfl ?_
    refine x_iload_n (i := 1) dX12_commutator_51 rfl rfl rfl ?_
    refine x_bipush dX12_commutator_52 rfl bC_9 ?_
    refine x_callV0 (ci := 12) (b := 110) (As := [_, _, _]) (d2 := d - 1) dX12_commutator_54 rfl kX12_213 okX12_ends (hC.o rfl) (fun q hq => by cases hq; rfl) (by omega) rfl rfl (Nat.le_of_ble_eq_true rfl) (m_ends1 (by omega) hC (by omega) (by decide) (fun h6 v6 e6 => ?_))
    refine x_goto (tgt := 61) dX12_commutator_57 rfl ?_
    refine x_ireturn dX12_commutator_61 rfl rfl ?_
    have kk := (w5.tr v6).sub (P2 := [t, 9, 10]) (C2 := [113]) (by simp) (by simp)
    exact K _ _ _ (by rw [en, ← sMay_map em]; exact sMay_some g5) (hR.set ht kk (by simp) (by simp [mN]) (by rw [e6, e5])) (kk.c (by simp))
  · have w5 := (w4.tr v5).sub (P2 := [9, 10]) (C2 := [113]) (by simp) (by simp)
    have em := oAdd_e (s := -1) (f := pl h2 9) (f2 := z1) (g := pl h2 10) (g2 := z2) (by rw [e9, c8_c8]) (by rw [e2, c8_c8])
    refine x_if_eq_t (tgt := 50) dX12_commutator_43 rfl nI_0 ?_
    exact fl _ _ rfl w5 (by rw [en, ← sMay_map em]; exact sMay_none g5)
theorem n_part {a1 a2 : Int32} (hd : 10 ≤ d) (hR : RM h S) (K : ∀ r S2 h2, sp_part S a1 a2 = (r, S2) → RM h2 S2 → cF h h2 → Q (some (.int r)) h2) : xCt G l mX12_part d [.ref 110, .int a1, .int a2] h 0 0 Q := by
  have hC := hR.1
  have row := hC.v (a := 112) rfl
  refine xCt_of (by decide) (Nat.le_of_ble_eq_true rfl) ?_
  refine x_iload_n (i := 1) dX12_part_0 rfl rfl rfl ?_
  refine x_callS0 (As := [_]) (d2 := d - 1) dX12_part_1 rfl kX12_165 okX12_isSlot (by omega) rfl rfl (Nat.le_of_ble_eq_true rfl) (m_isSlot (by omega) (fun z => ?_) (fun x hx ex qx => ?_))
  · refine x_if_eq_t (tgt := 28) dX12_part_4 rfl nI_0 ?_
    refine x_sipush dX12_part_28 rfl sC_m30000 ?_
    refine x_ireturn dX12_part_31 rfl rfl ?_
    exact K _ _ _ (by simp only [sp_part, z] <;> rfl) hR (cF.rf hC)
  subst ex
  refine x_if_eq_f (tgt := 28) dX12_part_4 rfl rfl nb1 ?_
  refine x_iload_n (i := 2) dX12_part_7 rfl rfl rfl ?_
  refine x_callS0 (As := [_]) (d2 := d - 1) dX12_part_8 rfl kX12_168 okX12_isPart (by omega) rfl rfl (Nat.le_of_ble_eq_true rfl) (m_isPart (by omega) (fun z => ?_) (fun y hy ey qy => ?_))
  · refine x_if_eq_t (tgt := 28) dX12_part_11 rfl nI_0 ?_
    refine x_sipush dX12_part_28 rfl sC_m30000 ?_
    refine x_ireturn dX12_part_31 rfl rfl ?_
    exact K _ _ _ (by simp only [sp_part, qx, z] <;> rfl) hR (cF.rf hC)
  subst ey
  refine x_if_eq_f (tgt := 28) dX12_part_11 rfl rfl nb1 ?_
  refine x_aload_n (i := 0) dX12_part_14 rfl rfl rfl ?_
  refine x_getC dX12_part_15 rfl fX12_17 hC rfl F_110_2 ?_
  refine x_bipush dX12_part_18 rfl bC_8 ?_
  refine x_iload_n (i := 1) dX12_part_20 rfl rfl rfl ?_
  refine x_imul dX12_part_21 rfl ?_
  refine x_iload_n (i := 2) dX12_part_22 rfl rfl rfl ?_
  refine x_iadd dX12_part_23 rfl ?_
  rw [nI_8]
  refine x_iald dX12_part_24 rfl row rfl (by omega) (by decide) ?_
  refine x_goto (tgt := 31) dX12_part_25 rfl ?_
  refine x_ireturn dX12_part_31 rfl rfl ?_
  exact K _ _ _ (by simp only [sp_part, qx, qy]; rw [← hR.p hx, pl_lt hy]) hR (cF.rf hC)
theorem n_norm {a1 : Int32} (hd : 10 ≤ d) (hR : RM h S) (K : ∀ r S2 h2, sp_norm S a1 = (r, S2) → RM h2 S2 → cF h h2 → Q (some (.int r)) h2) : xCt G l mX12_norm d [.ref 110, .int a1] h 0 0 Q := by
  have hC := hR.1
  refine xCt_of (by decide) (Nat.le_of_ble_eq_true rfl) ?_
  refine x_iload_n (i := 1) dX12_norm_0 rfl rfl rfl ?_
  refine x_callS0 (As := [_]) (d2 := d - 1) dX12_norm_1 rfl kX12_165 okX12_isSlot (by omega) rfl rfl (Nat.le_of_ble_eq_true rfl) (m_isSlot (by omega) (fun z => ?_) (fun x hx ex qx => ?_))
  · refine x_if_eq_t (tgt := 18) dX12_norm_4 rfl nI_0 ?_
    refine x_iconst dX12_norm_18 rfl iC_m1 ?_
    refine x_ireturn dX12_norm_19 rfl rfl ?_
    exact K _ _ _ (by simp only [sp_norm, z] <;> rfl) hR (cF.rf hC)
  subst ex
  refine x_if_eq_f (tgt := 18) dX12_norm_4 rfl rfl nb1 ?_
  refine x_aload_n (i := 0) dX12_norm_7 rfl rfl rfl ?_
  refine x_iload_n (i := 1) dX12_norm_8 rfl rfl rfl ?_
  refine x_callV0 (ci := 12) (b := 110) (As := [_]) (d2 := d - 1) dX12_norm_9 rfl kX12_137 okX12_normOf (hC.o rfl) (fun q hq => by cases hq; rfl) (by omega) rfl rfl (Nat.le_of_ble_eq_true rfl) (m_normOf hC (by omega) ?_)
  refine x_callS0 (As := [_]) (d2 := d - 1) dX12_norm_12 rfl kX12_270 okX12_held (by omega) rfl rfl (Nat.le_of_ble_eq_true rfl) (m_held ?_)
  refine x_goto (tgt := 19) dX12_norm_15 rfl ?_
  refine x_ireturn dX12_norm_19 rfl rfl ?_
  exact K _ _ _ (by simp only [sp_norm, qx]; rw [hR.p hx]) hR (cF.rf hC)
theorem m_innerOf {x y : Nat} (hd : 1 ≤ d) (hC : Cs h) (hx : x < 155) (hy : y < 155) (K : Q (some (.int (zCap (zInn (pl h x) (pl h y) 8)))) h) : xCt G l mX12_innerOf d [.ref 110, .int (nI x), .int (nI y)] h 0 0 Q := by
  have v := hC.v (a := 112) rfl
  refine xCt_of (by decide) (Nat.le_of_ble_eq_true rfl) ?_
  refine x_lconst dX12_innerOf_0 rfl lC_0 ?_
  refine x_lstore_n (i := 3) dX12_innerOf_1 rfl rfl (by decide) ?_
  refine x_iconst dX12_innerOf_2 rfl iC_0 ?_
  refine x_istore dX12_innerOf_3 rfl (by decide) ?_
  have key := xloop (P := fun i => xWP G l mX12_innerOf d (zM G Q) 0 0 5 (xls [(0, .ref 110), (1, .int (nI x)), (2, .int (nI y)), (3, .long (zInn (pl h x) (pl h y) i)), (5, .int (nI i))]) [] h) 8 (by
    intro i hi ih
    refine x_iload dX12_innerOf_5 rfl rfl ?_
    refine x_bipush dX12_innerOf_7 rfl bC_8 ?_
    refine x_jc_ge (tgt := 48) dX12_innerOf_9 rfl rfl (by omega) (by omega) (fun c9 => ?_) (fun c9 => ?_)
    · obtain rfl : i = 8 := by omega
      refine x_lload_n (i := 3) dX12_innerOf_48 rfl rfl rfl ?_
      refine x_callS0 (As := [_]) (d2 := d - 1) dX12_innerOf_49 rfl kX12_270 okX12_held (by omega) rfl rfl (Nat.le_of_ble_eq_true rfl) (m_held ?_)
      refine x_ireturn dX12_innerOf_52 rfl rfl ?_
      exact K
    · refine x_lload_n (i := 3) dX12_innerOf_12 rfl rfl rfl ?_
      refine x_aload_n (i := 0) dX12_innerOf_13 rfl rfl rfl ?_
      refine x_getC dX12_innerOf_14 rfl fX12_17 hC rfl F_110_2 ?_
      refine x_bipush dX12_innerOf_17 rfl bC_8 ?_
      refine x_iload_n (i := 1) dX12_innerOf_19 rfl rfl rfl ?_
      refine x_imul dX12_innerOf_20 rfl ?_
      refine x_iload dX12_innerOf_21 rfl rfl ?_
      refine x_iadd dX12_innerOf_23 rfl ?_
      rw [nI_8]
      refine x_iald dX12_innerOf_24 rfl (by first | assumption | exact hs_eq | exact hs_ne (by first | assumption | decide | omega) (by first | assumption | exact hs_eq | exact hs_ne (by first | assumption | decide | omega) (by first | assumption | exact hs_eq | exact hs_ne (by first | assumption | decide | omega) (by assumption)))) rfl (by omega) (by decide) ?_
      refine x_i2l dX12_innerOf_25 rfl ?_
      refine x_aload_n (i := 0) dX12_innerOf_26 rfl rfl rfl ?_
      refine x_getC dX12_innerOf_27 rfl fX12_17 hC rfl F_110_2 ?_
      refine x_bipush dX12_innerOf_30 rfl bC_8 ?_
      refine x_iload_n (i := 2) dX12_innerOf_32 rfl rfl rfl ?_
      refine x_imul dX12_innerOf_33 rfl ?_
      refine x_iload dX12_innerOf_34 rfl rfl ?_
      refine x_iadd dX12_innerOf_36 rfl ?_
      rw [nI_8]
      refine x_iald dX12_innerOf_37 rfl (by first | assumption | exact hs_eq | exact hs_ne (by first | assumption | decide | omega) (by first | assumption | exact hs_eq | exact hs_ne (by first | assumption | decide | omega) (by first | assumption | exact hs_eq | exact hs_ne (by first | assumption | decide | omega) (by assumption)))) rfl (by omega) (by decide) ?_
      refine x_i2l dX12_innerOf_38 rfl ?_
      refine x_lmul dX12_innerOf_39 rfl ?_
      rw [← pl_lt c9, ← pl_lt c9]
      refine x_ladd dX12_innerOf_40 rfl ?_
      refine x_lstore_n (i := 3) dX12_innerOf_41 rfl rfl (by decide) ?_
      refine x_iinc dX12_innerOf_42 rfl rfl (inc1 _) ?_
      refine x_goto (tgt := 5) dX12_innerOf_45 rfl ?_
      exact x_to (ih c9) ⟨rfl, rfl, rfl, rfl, rfl, trivial⟩) 0 (Nat.zero_le _)
  exact x_to key ⟨rfl, rfl, rfl, rfl, rfl, trivial⟩
theorem n_inner {a1 a2 : Int32} (hd : 10 ≤ d) (hR : RM h S) (K : ∀ r S2 h2, sp_inner S a1 a2 = (r, S2) → RM h2 S2 → cF h h2 → Q (some (.int r)) h2) : xCt G l mX12_inner d [.ref 110, .int a1, .int a2] h 0 0 Q := by
  have hC := hR.1
  refine xCt_of (by decide) (Nat.le_of_ble_eq_true rfl) ?_
  refine x_iload_n (i := 1) dX12_inner_0 rfl rfl rfl ?_
  refine x_callS0 (As := [_]) (d2 := d - 1) dX12_inner_1 rfl kX12_165 okX12_isSlot (by omega) rfl rfl (Nat.le_of_ble_eq_true rfl) (m_isSlot (by omega) (fun z => ?_) (fun x hx ex qx => ?_))
  · refine x_if_eq_t (tgt := 23) dX12_inner_4 rfl nI_0 ?_
    refine x_iconst dX12_inner_23 rfl iC_m1 ?_
    refine x_ireturn dX12_inner_24 rfl rfl ?_
    exact K _ _ _ (by simp only [sp_inner, z] <;> rfl) hR (cF.rf hC)
  subst ex
  refine x_if_eq_f (tgt := 23) dX12_inner_4 rfl rfl nb1 ?_
  refine x_iload_n (i := 2) dX12_inner_7 rfl rfl rfl ?_
  refine x_callS0 (As := [_]) (d2 := d - 1) dX12_inner_8 rfl kX12_165 okX12_isSlot (by omega) rfl rfl (Nat.le_of_ble_eq_true rfl) (m_isSlot (by omega) (fun z => ?_) (fun y hy ey qy => ?_))
  · refine x_if_eq_t (tgt := 23) dX12_inner_11 rfl nI_0 ?_
    refine x_iconst dX12_inner_23 rfl iC_m1 ?_
    refine x_ireturn dX12_inner_24 rfl rfl ?_
    exact K _ _ _ (by simp only [sp_inner, qx, z] <;> rfl) hR (cF.rf hC)
  subst ey
  refine x_if_eq_f (tgt := 23) dX12_inner_11 rfl rfl nb1 ?_
  refine x_aload_n (i := 0) dX12_inner_14 rfl rfl rfl ?_
  refine x_iload_n (i := 1) dX12_inner_15 rfl rfl rfl ?_
  refine x_iload_n (i := 2) dX12_inner_16 rfl rfl rfl ?_
  refine x_callV0 (ci := 12) (b := 110) (As := [_, _]) (d2 := d - 1) dX12_inner_17 rfl kX12_352 okX12_innerOf (hC.o rfl) (fun q hq => by cases hq; rfl) (by omega) rfl rfl (Nat.le_of_ble_eq_true rfl) (m_innerOf (by omega) hC (by omega) (by omega) ?_)
  refine x_goto (tgt := 24) dX12_inner_20 rfl ?_
  refine x_ireturn dX12_inner_24 rfl rfl ?_
  exact K _ _ _ (by simp only [sp_inner, qx, qy]; rw [hR.p hx, hR.p hy]) hR (cF.rf hC)
theorem n_same {a1 a2 : Int32} (hd : 10 ≤ d) (hR : RM h S) (K : ∀ r S2 h2, sp_same S a1 a2 = (r, S2) → RM h2 S2 → cF h h2 → Q (some (.int r)) h2) : xCt G l mX12_same d [.ref 110, .int a1, .int a2] h 0 0 Q := by
  have hC := hR.1
  refine xCt_of (by decide) (Nat.le_of_ble_eq_true rfl) ?_
  refine x_iload_n (i := 1) dX12_same_0 rfl rfl rfl ?_
  refine x_callS0 (As := [_]) (d2 := d - 1) dX12_same_1 rfl kX12_165 okX12_isSlot (by omega) rfl rfl (Nat.le_of_ble_eq_true rfl) (m_isSlot (by omega) (fun z => ?_) (fun x hx ex qx => ?_))
  · refine x_if_eq_t (tgt := 31) dX12_same_4 rfl nI_0 ?_
    refine x_iconst dX12_same_31 rfl iC_m1 ?_
    refine x_ireturn dX12_same_32 rfl rfl ?_
    exact K _ _ _ (by simp only [sp_same, z] <;> rfl) hR (cF.rf hC)
  subst ex
  refine x_if_eq_f (tgt := 31) dX12_same_4 rfl rfl nb1 ?_
  refine x_iload_n (i := 2) dX12_same_7 rfl rfl rfl ?_
  refine x_callS0 (As := [_]) (d2 := d - 1) dX12_same_8 rfl kX12_165 okX12_isSlot (by omega) rfl rfl (Nat.le_of_ble_eq_true rfl) (m_isSlot (by omega) (fun z => ?_) (fun y hy ey qy => ?_))
  · refine x_if_eq_t (tgt := 31) dX12_same_11 rfl nI_0 ?_
    refine x_iconst dX12_same_31 rfl iC_m1 ?_
    refine x_ireturn dX12_same_32 rfl rfl ?_
    exact K _ _ _ (by simp only [sp_same, qx, z] <;> rfl) hR (cF.rf hC)
  subst ey
  refine x_if_eq_f (tgt := 31) dX12_same_11 rfl rfl nb1 ?_
  refine x_aload_n (i := 0) dX12_same_14 rfl rfl rfl ?_
  refine x_iload_n (i := 1) dX12_same_15 rfl rfl rfl ?_
  refine x_iload_n (i := 2) dX12_same_16 rfl rfl rfl ?_
  refine x_callV0 (ci := 12) (b := 110) (As := [_, _]) (d2 := d - 1) dX12_same_17 rfl kX12_280 okX12_areSame (hC.o rfl) (fun q hq => by cases hq; rfl) (by omega) rfl rfl (Nat.le_of_ble_eq_true rfl) (m_areSame hC (by omega) (by omega) (fun z => ?_) (fun z => ?_))
  · rw [hR.p hx, hR.p hy] at z
    refine x_if_eq_f (tgt := 27) dX12_same_20 rfl rfl nb1 ?_
    refine x_iconst dX12_same_23 rfl iC_1 ?_
    refine x_goto (tgt := 32) dX12_same_24 rfl ?_
    refine x_ireturn dX12_same_32 rfl rfl ?_
    exact K _ _ _ (by simp only [sp_same, qx, qy]; rw [bI_t z]; rfl) hR (cF.rf hC)
  · rw [hR.p hx, hR.p hy] at z
    refine x_if_eq_t (tgt := 27) dX12_same_20 rfl nI_0 ?_
    refine x_iconst dX12_same_27 rfl iC_0 ?_
    refine x_goto (tgt := 32) dX12_same_28 rfl ?_
    refine x_ireturn dX12_same_32 rfl rfl ?_
    exact K _ _ _ (by simp only [sp_same, qx, qy]; rw [bI_f z]; rfl) hR (cF.rf hC)
theorem n_odd {a1 : Int32} (hd : 10 ≤ d) (hR : RM h S) (K : ∀ r S2 h2, sp_odd S a1 = (r, S2) → RM h2 S2 → cF h h2 → Q (some (.int r)) h2) : xCt G l mX12_odd d [.ref 110, .int a1] h 0 0 Q := by
  have hC := hR.1
  refine xCt_of (by decide) (Nat.le_of_ble_eq_true rfl) ?_
  refine x_iload_n (i := 1) dX12_odd_0 rfl rfl rfl ?_
  refine x_callS0 (As := [_]) (d2 := d - 1) dX12_odd_1 rfl kX12_165 okX12_isSlot (by omega) rfl rfl (Nat.le_of_ble_eq_true rfl) (m_isSlot (by omega) (fun z => ?_) (fun x hx ex qx => ?_))
  · refine x_if_eq_t (tgt := 15) dX12_odd_4 rfl nI_0 ?_
    refine x_iconst dX12_odd_15 rfl iC_m1 ?_
    refine x_ireturn dX12_odd_16 rfl rfl ?_
    exact K _ _ _ (by simp only [sp_odd, z] <;> rfl) hR (cF.rf hC)
  subst ex
  refine x_if_eq_f (tgt := 15) dX12_odd_4 rfl rfl nb1 ?_
  refine x_aload_n (i := 0) dX12_odd_7 rfl rfl rfl ?_
  refine x_iload_n (i := 1) dX12_odd_8 rfl rfl rfl ?_
  refine x_callV0 (ci := 12) (b := 110) (As := [_]) (d2 := d - 1) dX12_odd_9 rfl kX12_128 okX12_oddOf (hC.o rfl) (fun q hq => by cases hq; rfl) (by omega) rfl rfl (Nat.le_of_ble_eq_true rfl) (m_oddOf hC (by omega) ?_)
  refine x_goto (tgt := 16) dX12_odd_12 rfl ?_
  refine x_ireturn dX12_odd_16 rfl rfl ?_
  exact K _ _ _ (by simp only [sp_odd, qx]; rw [hR.p hx]) hR (cF.rf hC)
theorem n_whole {a1 : Int32} (hd : 10 ≤ d) (hR : RM h S) (K : ∀ r S2 h2, sp_whole S a1 = (r, S2) → RM h2 S2 → cF h h2 → Q (some (.int r)) h2) : xCt G l mX12_whole d [.ref 110, .int a1] h 0 0 Q := by
  have hC := hR.1
  refine xCt_of (by decide) (Nat.le_of_ble_eq_true rfl) ?_
  refine x_iload_n (i := 1) dX12_whole_0 rfl rfl rfl ?_
  refine x_callS0 (As := [_]) (d2 := d - 1) dX12_whole_1 rfl kX12_165 okX12_isSlot (by omega) rfl rfl (Nat.le_of_ble_eq_true rfl) (m_isSlot (by omega) (fun z => ?_) (fun x hx ex qx => ?_))
  · refine x_if_eq_t (tgt := 23) dX12_whole_4 rfl nI_0 ?_
    refine x_iconst dX12_whole_23 rfl iC_m1 ?_
    refine x_ireturn dX12_whole_24 rfl rfl ?_
    exact K _ _ _ (by simp only [sp_whole, z] <;> rfl) hR (cF.rf hC)
  subst ex
  refine x_if_eq_f (tgt := 23) dX12_whole_4 rfl rfl nb1 ?_
  refine x_aload_n (i := 0) dX12_whole_7 rfl rfl rfl ?_
  refine x_iload_n (i := 1) dX12_whole_8 rfl rfl rfl ?_
  refine x_callV0 (ci := 12) (b := 110) (As := [_]) (d2 := d - 1) dX12_whole_9 rfl kX12_134 okX12_isWhole (hC.o rfl) (fun q hq => by cases hq; rfl) (by omega) rfl rfl (Nat.le_of_ble_eq_true rfl) (m_isWhole (by omega) hC hR.2.1.2 hR.2.1.1 (by omega) (fun z => ?_) (fun z => ?_))
  · rw [hR.p hx] at z
    refine x_if_eq_f (tgt := 19) dX12_whole_12 rfl rfl nb1 ?_
    refine x_iconst dX12_whole_15 rfl iC_1 ?_
    refine x_goto (tgt := 24) dX12_whole_16 rfl ?_
    refine x_ireturn dX12_whole_24 rfl rfl ?_
    exact K _ _ _ (by simp only [sp_whole, qx]; rw [bI_t z]; rfl) hR (cF.rf hC)
  · rw [hR.p hx] at z
    refine x_if_eq_t (tgt := 19) dX12_whole_12 rfl nI_0 ?_
    refine x_iconst dX12_whole_19 rfl iC_0 ?_
    refine x_goto (tgt := 24) dX12_whole_20 rfl ?_
    refine x_ireturn dX12_whole_24 rfl rfl ?_
    exact K _ _ _ (by simp only [sp_whole, qx]; rw [bI_f (by rw [z]; decide)]; rfl) hR (cF.rf hC)
theorem n_orders {a1 : Int32} (hd : 10 ≤ d) (hR : RM h S) (K : ∀ r S2 h2, sp_orders S a1 = (r, S2) → RM h2 S2 → cF h h2 → Q (some (.int r)) h2) : xCt G l mX12_orders d [.ref 110, .int a1] h 0 0 Q := by
  have hC := hR.1
  refine xCt_of (by decide) (Nat.le_of_ble_eq_true rfl) ?_
  refine x_iload_n (i := 1) dX12_orders_0 rfl rfl rfl ?_
  refine x_callS0 (As := [_]) (d2 := d - 1) dX12_orders_1 rfl kX12_165 okX12_isSlot (by omega) rfl rfl (Nat.le_of_ble_eq_true rfl) (m_isSlot (by omega) (fun z => ?_) (fun x hx ex qx => ?_))
  · refine x_if_ne_f (tgt := 9) dX12_orders_4 rfl rfl nI_0 ?_
    refine x_iconst dX12_orders_7 rfl iC_m1 ?_
    refine x_ireturn dX12_orders_8 rfl rfl ?_
    exact K _ _ _ (by simp only [sp_orders, z] <;> rfl) hR (cF.rf hC)
  subst ex
  refine x_if_ne_t (tgt := 9) dX12_orders_4 rfl nb1 ?_
  refine x_iconst dX12_orders_9 rfl iC_0 ?_
  refine x_istore_n (i := 2) dX12_orders_10 rfl rfl (by decide) ?_
  refine x_iconst dX12_orders_11 rfl iC_0 ?_
  refine x_istore_n (i := 3) dX12_orders_12 rfl rfl (by decide) ?_
  have key := xloop (P := fun i => xWP G l mX12_orders d (zM G Q) 0 0 13 (xls [(0, .ref 110), (1, .int (nI x)), (2, .int (nI (zSet (fun o => ofO o (oddN (S.1 x))) i))), (3, .int (nI i))]) [] h) 8 (by
    intro i hi ih
    refine x_iload_n (i := 3) dX12_orders_13 rfl rfl rfl ?_
    refine x_bipush dX12_orders_14 rfl bC_8 ?_
    refine x_jc_ge (tgt := 43) dX12_orders_16 rfl rfl (by omega) (by omega) (fun c16 => ?_) (fun c16 => ?_)
    · obtain rfl : i = 8 := by omega
      refine x_iload_n (i := 2) dX12_orders_43 rfl rfl rfl ?_
      refine x_ireturn dX12_orders_44 rfl rfl ?_
      exact K _ _ _ (by simp only [sp_orders, qx]) hR (cF.rf hC)
    · refine x_iload_n (i := 3) dX12_orders_19 rfl rfl rfl ?_
      refine x_aload_n (i := 0) dX12_orders_20 rfl rfl rfl ?_
      refine x_iload_n (i := 1) dX12_orders_21 rfl rfl rfl ?_
      refine x_callV0 (ci := 12) (b := 110) (As := [_]) (d2 := d - 1) dX12_orders_22 rfl kX12_128 okX12_oddOf (hC.o rfl) (fun q hq => by cases hq; rfl) (by omega) rfl rfl (Nat.le_of_ble_eq_true rfl) (m_oddOf hC (by omega) ?_)
      rw [hR.p hx]
      refine x_callS0 (As := [_, _]) (d2 := d - 1) dX12_orders_25 rfl kX12_131 okX12_isOf (by omega) rfl rfl (Nat.le_of_ble_eq_true rfl) (m_isOf (by omega) c16 (oddN_lt _) (fun z => ?_) (fun z => ?_))
      · refine x_if_eq_f (tgt := 37) dX12_orders_28 rfl rfl nb1 ?_
        refine x_iload_n (i := 2) dX12_orders_31 rfl rfl rfl ?_
        refine x_iconst dX12_orders_32 rfl iC_1 ?_
        refine x_iload_n (i := 3) dX12_orders_33 rfl rfl rfl ?_
        refine x_ishl dX12_orders_34 rfl ?_
        refine x_ior dX12_orders_35 rfl ?_
        rw [(or_bit8 (p := fun o => ofO o (oddN (S.1 x))) c16).1 z]
        refine x_istore_n (i := 2) dX12_orders_36 rfl rfl (by decide) ?_
        refine x_iinc dX12_orders_37 rfl rfl (inc1 _) ?_
        refine x_goto (tgt := 13) dX12_orders_40 rfl ?_
        exact x_to (ih c16) ⟨rfl, rfl, rfl, rfl, trivial⟩
      · refine x_if_eq_t (tgt := 37) dX12_orders_28 rfl nI_0 ?_
        refine x_iinc dX12_orders_37 rfl rfl (inc1 _) ?_
        refine x_goto (tgt := 13) dX12_orders_40 rfl ?_
        exact x_to (ih c16) ⟨rfl, rfl, by rw [(or_bit8 (p := fun o => ofO o (oddN (S.1 x))) c16).2 z]; rfl, rfl, trivial⟩) 0 (Nat.zero_le _)
  exact x_to key ⟨rfl, rfl, rfl, rfl, trivial⟩
theorem m_cycleOf {x : Nat} (hd : 4 ≤ d) (hC : Cs h) (hB : mB h) (h8 : pl h 8 = c8 (zOne 0)) (hx : x < 155) (hx10 : x ≠ 10) (K : ∀ h2, mV [10] [113] h h2 → Q (some (.int (zCy (pl h x) 60 1))) h2) : xCt G l mX12_cycleOf d [.ref 110, .int (nI x)] h 0 0 Q := by
  generalize hz0 : zCy (pl h x) 60 1 = RR at K
  refine xCt_of (by decide) (Nat.le_of_ble_eq_true rfl) ?_
  refine x_aload_n (i := 0) dX12_cycleOf_0 rfl rfl rfl ?_
  refine x_bipush dX12_cycleOf_1 rfl bC_10 ?_
  refine x_iload_n (i := 1) dX12_cycleOf_3 rfl rfl rfl ?_
  refine x_callV0 (ci := 12) (b := 110) (As := [_, _]) (d2 := d - 1) dX12_cycleOf_4 rfl kX12_182 okX12_becomes (hC.o rfl) (fun q hq => by cases hq; rfl) (by omega) rfl rfl (Nat.le_of_ble_eq_true rfl) (m_becomes hC (t := 10) (by decide) hx (fun h1 hv1 e1 => ?_))
  refine x_iconst dX12_cycleOf_7 rfl iC_1 ?_
  refine x_istore_n (i := 2) dX12_cycleOf_8 rfl rfl (by decide) ?_
  have key := xloop (P := fun k => 1 ≤ k → ∀ h2 f, mV [10] [113] h h2 → oPow (pl h x) k = some f → pl h2 10 = c8 f → RR = zCy (pl h x) (61 - k) k → xWP G l mX12_cycleOf d (zM G Q) 0 0 9 (xls [(0, .ref 110), (1, .int (nI x)), (2, .int (nI k))]) [] h2) 61 (by
    intro k hk ih k1 h2 f hv ef e2 ez
    have hC := hv.1
    have hB2 := hv.2.2.2 hB
    refine x_iload_n (i := 2) dX12_cycleOf_9 rfl rfl rfl ?_
    refine x_bipush dX12_cycleOf_10 rfl bC_60 ?_
    refine x_jc_gt (tgt := 49) dX12_cycleOf_12 rfl rfl (by omega) (by omega) (fun c12 => ?_) (fun c12 => ?_)
    · obtain rfl : k = 61 := by omega
      refine x_bipush dX12_cycleOf_49 rfl bC_m2 ?_
      refine x_ireturn dX12_cycleOf_51 rfl rfl ?_
      have kk := K h2 hv
      rw [ez] at kk
      exact kk
    · obtain ⟨m, hm⟩ : ∃ m, 61 - k = m + 1 := ⟨60 - k, by omega⟩
      rw [hm, zCy, ef] at ez
      have es : zSame (pl h2 10) (pl h2 8) ↔ isO f := by
        rw [isO_iff (oPow_bd _ _ ef), e2, hv.2.2.1 8 (by decide) (by decide), h8]
        exact zSame_e (c8_c8 _) (c8_c8 _)
      refine x_aload_n (i := 0) dX12_cycleOf_15 rfl rfl rfl ?_
      refine x_bipush dX12_cycleOf_16 rfl bC_10 ?_
      refine x_bipush dX12_cycleOf_18 rfl bC_8 ?_
      refine x_callV0 (ci := 12) (b := 110) (As := [_, _]) (d2 := d - 1) dX12_cycleOf_20 rfl kX12_280 okX12_areSame (hC.o rfl) (fun q hq => by cases hq; rfl) (by omega) rfl rfl (Nat.le_of_ble_eq_true rfl) (m_areSame hC (x := 10) (y := 8) (by decide) (by decide) (fun z => ?_) (fun z => ?_))
      · refine x_if_eq_f (tgt := 28) dX12_cycleOf_23 rfl rfl nb1 ?_
        refine x_iload_n (i := 2) dX12_cycleOf_26 rfl rfl rfl ?_
        refine x_ireturn dX12_cycleOf_27 rfl rfl ?_
        have kk := K h2 hv
        rw [ez] at kk
        have kk2 : Q (some (.int (@ite _ (isO f) (Classical.propDecidable _) (nI k) (zCy (pl h x) m (k + 1))))) h2 := kk
        rw [if_pos (es.mp z)] at kk2
        exact kk2
      · have ez2 : RR = @ite _ (isO f) (Classical.propDecidable _) (nI k) (zCy (pl h x) m (k + 1)) := ez
        rw [if_neg (fun q => z (es.mpr q))] at ez2
        have e4 : oMul (pl h2 10) (pl h2 x) = oPow (pl h x) (k + 1) := by
          rw [oPow, ef, Option.bind_some, e2, oMul_cl, hv.2.2.1 x hx (by simp; exact hx10)]
        refine x_if_eq_t (tgt := 28) dX12_cycleOf_23 rfl nI_0 ?_
        refine x_aload_n (i := 0) dX12_cycleOf_28 rfl rfl rfl ?_
        refine x_bipush dX12_cycleOf_29 rfl bC_10 ?_
        refine x_bipush dX12_cycleOf_31 rfl bC_10 ?_
        refine x_iload_n (i := 1) dX12_cycleOf_33 rfl rfl rfl ?_
        refine x_callV0 (ci := 12) (b := 110) (As := [_, _, _]) (d2 := d - 1) dX12_cycleOf_34 rfl kX12_197 okX12_multiplies (hC.o rfl) (fun q hq => by cases hq; rfl) (by omega) rfl rfl (Nat.le_of_ble_eq_true rfl) (m_mul (by omega) hC hB2 (t := 10) (x := 10) (by decide) (by decide) hx (fun z3 g3 h3 v3 e3 => ?_) (fun g3 h3 v3 => ?_))
        · rw [e4] at g3
          refine x_if_ne_t (tgt := 43) dX12_cycleOf_37 rfl nb1 ?_
          refine x_iinc dX12_cycleOf_43 rfl rfl (inc1 _) ?_
          refine x_goto (tgt := 9) dX12_cycleOf_46 rfl ?_
          exact x_to (ih (by omega) (by omega) h3 z3 ((hv.tr v3).sub (by simp) (by simp)) g3 e3 (by rw [ez2, show 61 - (k + 1) = m by omega])) ⟨rfl, rfl, rfl, trivial⟩
        · rw [e4] at g3
          have e5 : RR = -2 := by
            rw [ez2]
            cases m with
            | zero => rfl
            | succ m => rw [zCy, g3]
          refine x_if_ne_f (tgt := 43) dX12_cycleOf_37 rfl rfl nI_0 ?_
          refine x_bipush dX12_cycleOf_40 rfl bC_m2 ?_
          refine x_ireturn dX12_cycleOf_42 rfl rfl ?_
          have kk := K h3 ((hv.tr v3).sub (by simp) (by simp))
          rw [e5] at kk
          exact kk) 1 (by decide) (Nat.le_refl _)
  obtain ⟨z, z1, z2⟩ := oMul_1 (hB x hx)
  exact x_to (key h1 z (hv1.sub (by simp) (by simp)) z1 (by rw [e1, z2, pl_c8]) hz0.symm) ⟨rfl, rfl, rfl, trivial⟩
theorem n_cycle {a1 : Int32} (hd : 10 ≤ d) (hR : RM h S) (K : ∀ r S2 h2, sp_cycle S a1 = (r, S2) → RM h2 S2 → cF h h2 → Q (some (.int r)) h2) : xCt G l mX12_cycle d [.ref 110, .int a1] h 0 0 Q := by
  have hC := hR.1
  refine xCt_of (by decide) (Nat.le_of_ble_eq_true rfl) ?_
  refine x_iload_n (i := 1) dX12_cycle_0 rfl rfl rfl ?_
  refine x_callS0 (As := [_]) (d2 := d - 1) dX12_cycle_1 rfl kX12_165 okX12_isSlot (by omega) rfl rfl (Nat.le_of_ble_eq_true rfl) (m_isSlot (by omega) (fun z => ?_) (fun x hx ex qx => ?_))
  · refine x_if_eq_t (tgt := 15) dX12_cycle_4 rfl nI_0 ?_
    refine x_iconst dX12_cycle_15 rfl iC_m1 ?_
    refine x_ireturn dX12_cycle_16 rfl rfl ?_
    exact K _ _ _ (by simp only [sp_cycle, z] <;> rfl) hR (cF.rf hC)
  subst ex
  refine x_if_eq_f (tgt := 15) dX12_cycle_4 rfl rfl nb1 ?_
  refine x_aload_n (i := 0) dX12_cycle_7 rfl rfl rfl ?_
  refine x_iload_n (i := 1) dX12_cycle_8 rfl rfl rfl ?_
  refine x_callV0 (ci := 12) (b := 110) (As := [_]) (d2 := d - 1) dX12_cycle_9 rfl kX12_361 okX12_cycleOf (hC.o rfl) (fun q hq => by cases hq; rfl) (by omega) rfl rfl (Nat.le_of_ble_eq_true rfl) (m_cycleOf (by omega) hC hR.b hR.2.2.2.1.2 (by omega) (by omega) (fun h2 hv => ?_))
  refine x_goto (tgt := 16) dX12_cycle_12 rfl ?_
  refine x_ireturn dX12_cycle_16 rfl rfl ?_
  exact K _ _ _ (by simp only [sp_cycle, qx]; rw [hR.p hx]) (hR.sc hv (by simp) (by simp [mN])) (hv.c (by simp))
theorem n_turnCycle {a1 a2 n : Int32} (hd : 10 ≤ d) (hR : RM h S) (K : ∀ r S2 h2, sp_turnCycle S a1 a2 n = (r, S2) → RM h2 S2 → cF h h2 → Q (some (.int r)) h2) : xCt G l mX12_turnCycle d [.ref 110, .int a1, .int a2, .int n] h 0 0 Q := by
  have hC := hR.1
  refine xCt_of (by decide) (Nat.le_of_ble_eq_true rfl) ?_
  refine x_iload_n (i := 1) dX12_turnCycle_0 rfl rfl rfl ?_
  refine x_callS0 (As := [_]) (d2 := d - 1) dX12_turnCycle_1 rfl kX12_165 okX12_isSlot (by omega) rfl rfl (Nat.le_of_ble_eq_true rfl) (m_isSlot (by omega) (fun z => ?_) (fun x hx ex qx => ?_))
  · refine x_if_eq_t (tgt := 21) dX12_turnCycle_4 rfl nI_0 ?_
    refine x_iconst dX12_turnCycle_21 rfl iC_m1 ?_
    refine x_ireturn dX12_turnCycle_22 rfl rfl ?_
    exact K _ _ _ (by simp only [sp_turnCycle, z] <;> rfl) hR (cF.rf hC)
  subst ex
  refine x_if_eq_f (tgt := 21) dX12_turnCycle_4 rfl rfl nb1 ?_
  refine x_iload_n (i := 2) dX12_turnCycle_7 rfl rfl rfl ?_
  refine x_callS0 (As := [_]) (d2 := d - 1) dX12_turnCycle_8 rfl kX12_165 okX12_isSlot (by omega) rfl rfl (Nat.le_of_ble_eq_true rfl) (m_isSlot (by omega) (fun z => ?_) (fun u hu eu qu => ?_))
  · refine x_if_eq_t (tgt := 21) dX12_turnCycle_11 rfl nI_0 ?_
    refine x_iconst dX12_turnCycle_21 rfl iC_m1 ?_
    refine x_ireturn dX12_turnCycle_22 rfl rfl ?_
    exact K _ _ _ (by simp only [sp_turnCycle, qx, z] <;> rfl) hR (cF.rf hC)
  subst eu
  refine x_if_eq_f (tgt := 21) dX12_turnCycle_11 rfl rfl nb1 ?_
  refine x_iload_n (i := 3) dX12_turnCycle_14 rfl rfl rfl ?_
  refine x_callS0 (As := [_]) (d2 := d - 1) dX12_turnCycle_15 rfl kX12_207 okX12_isTurn (by omega) rfl rfl (Nat.le_of_ble_eq_true rfl) (m_isTurn (by omega) (fun z => ?_) (fun w hw ew qw => ?_))
  · refine x_if_ne_f (tgt := 23) dX12_turnCycle_18 rfl rfl nI_0 ?_
    refine x_iconst dX12_turnCycle_21 rfl iC_m1 ?_
    refine x_ireturn dX12_turnCycle_22 rfl rfl ?_
    exact K _ _ _ (by simp only [sp_turnCycle, qx, qu, z] <;> rfl) hR (cF.rf hC)
  subst ew
  refine x_if_ne_t (tgt := 23) dX12_turnCycle_18 rfl nb1 ?_
  have en : sp_turnCycle S (nI x) (nI u) (nI w) = (zTc (S.1 x) (S.1 u) w 60 1 (S.1 x), S) := by simp only [sp_turnCycle, qx, qu, qw]
  generalize hz0 : zTc (S.1 x) (S.1 u) w 60 1 (S.1 x) = RR at en
  refine x_aload_n (i := 0) dX12_turnCycle_23 rfl rfl rfl ?_
  refine x_bipush dX12_turnCycle_24 rfl bC_10 ?_
  refine x_iload_n (i := 1) dX12_turnCycle_26 rfl rfl rfl ?_
  refine x_callV0 (ci := 12) (b := 110) (As := [_, _]) (d2 := d - 1) dX12_turnCycle_27 rfl kX12_182 okX12_becomes (hC.o rfl) (fun q hq => by cases hq; rfl) (by omega) rfl rfl (Nat.le_of_ble_eq_true rfl) (m_becomes hC (t := 10) (by decide) (by omega) (fun h1 hv1 e1 => ?_))
  refine x_iconst dX12_turnCycle_30 rfl iC_1 ?_
  refine x_istore dX12_turnCycle_31 rfl (by decide) ?_
  have key := xloop (P := fun k => 1 ≤ k → ∀ h2 f, mV [9, 10, 21] [113] h h2 → pl h2 10 = c8 f → RR = zTc (S.1 x) (S.1 u) w (61 - k) k f → xWP G l mX12_turnCycle d (zM G Q) 0 0 33 (xls [(0, .ref 110), (1, .int (nI x)), (2, .int (nI u)), (3, .int (nI w)), (4, .int (nI k))]) [] h2) 61 (by
    intro k hk ih k1 h2 f hv e2 ez
    have hC := hv.1
    have r2 := hR.sc hv (by simp) (by simp [mN])
    refine x_iload dX12_turnCycle_33 rfl rfl ?_
    refine x_bipush dX12_turnCycle_35 rfl bC_60 ?_
    refine x_jc_gt (tgt := 83) dX12_turnCycle_37 rfl rfl (by omega) (by omega) (fun c37 => ?_) (fun c37 => ?_)
    · obtain rfl : k = 61 := by omega
      refine x_bipush dX12_turnCycle_83 rfl bC_m2 ?_
      refine x_ireturn dX12_turnCycle_85 rfl rfl ?_
      exact K _ _ _ (by rw [en, ez]; rfl) r2 (hv.c (by simp))
    · obtain ⟨m, hm⟩ : ∃ m, 61 - k = m + 1 := ⟨60 - k, by omega⟩
      rw [hm, zTc] at ez
      have e4 : oTurn (pl h2 10) (pl h2 u) w = oTurn f (S.1 u) w := oTurn_e (by rw [e2, c8_c8]) (by rw [r2.p hu])
      refine x_aload_n (i := 0) dX12_turnCycle_40 rfl rfl rfl ?_
      refine x_bipush dX12_turnCycle_41 rfl bC_9 ?_
      refine x_bipush dX12_turnCycle_43 rfl bC_10 ?_
      refine x_iload_n (i := 2) dX12_turnCycle_45 rfl rfl rfl ?_
      refine x_iload_n (i := 3) dX12_turnCycle_46 rfl rfl rfl ?_
      refine x_callV0 (ci := 12) (b := 110) (As := [_, _, _, _]) (d2 := d - 1) dX12_turnCycle_47 rfl kX12_210 okX12_turns (hC.o rfl) (fun q hq => by cases hq; rfl) (by omega) rfl rfl (Nat.le_of_ble_eq_true rfl) (m_turns (t := 9) (x := 10) (by omega) hC r2.b (by decide) (by decide) (by omega) hw (by omega) (by decide) (by omega) (fun z hz h3 hv3 e3 => ?_) (fun hz h3 hv3 => ?_))
      · rw [e4] at hz
        rw [hz] at ez
        have kk := (hv.tr hv3).sub (P2 := [9, 10, 21]) (C2 := [113]) (by simp) (by simp)
        have r3 := hR.sc kk (by simp) (by simp [mN])
        have hC := hv3.1
        have es : zSame (pl h3 9) (pl h3 x) ↔ zSame z (S.1 x) := by
          rw [e3, r3.p hx]
          exact zSame_e (c8_c8 _) rfl
        refine x_if_ne_t (tgt := 56) dX12_turnCycle_50 rfl nb1 ?_
        refine x_aload_n (i := 0) dX12_turnCycle_56 rfl rfl rfl ?_
        refine x_bipush dX12_turnCycle_57 rfl bC_9 ?_
        refine x_iload_n (i := 1) dX12_turnCycle_59 rfl rfl rfl ?_
        refine x_callV0 (ci := 12) (b := 110) (As := [_, _]) (d2 := d - 1) dX12_turnCycle_60 rfl kX12_280 okX12_areSame (hC.o rfl) (fun q hq => by cases hq; rfl) (by omega) rfl rfl (Nat.le_of_ble_eq_true rfl) (m_areSame hC (x := 9) (by decide) (by omega) (fun y => ?_) (fun y => ?_))
        · refine x_if_eq_f (tgt := 69) dX12_turnCycle_63 rfl rfl nb1 ?_
          refine x_iload dX12_turnCycle_66 rfl rfl ?_
          refine x_ireturn dX12_turnCycle_68 rfl rfl ?_
          exact K _ _ _ (by rw [en, ez]; exact congrArg (fun q => (q, S)) (if_pos (es.mp y))) r3 (kk.c (by simp))
        · refine x_if_eq_t (tgt := 69) dX12_turnCycle_63 rfl nI_0 ?_
          refine x_aload_n (i := 0) dX12_turnCycle_69 rfl rfl rfl ?_
          refine x_bipush dX12_turnCycle_70 rfl bC_10 ?_
          refine x_bipush dX12_turnCycle_72 rfl bC_9 ?_
          refine x_callV0 (ci := 12) (b := 110) (As := [_, _]) (d2 := d - 1) dX12_turnCycle_74 rfl kX12_182 okX12_becomes (hC.o rfl) (fun q hq => by cases hq; rfl) (by omega) rfl rfl (Nat.le_of_ble_eq_true rfl) (m_becomes hC (t := 10) (x := 9) (by decide) (by decide) (fun h5 hv5 e5 => ?_))
          refine x_iinc dX12_turnCycle_77 rfl rfl (inc1 _) ?_
          refine x_goto (tgt := 33) dX12_turnCycle_80 rfl ?_
          refine x_to (ih (by omega) (by omega) h5 z ((kk.tr hv5).sub (by simp) (by simp)) (by rw [e5, e3]) ?_) ⟨rfl, rfl, rfl, rfl, rfl, trivial⟩
          rw [ez, show 61 - (k + 1) = m by omega]
          exact if_neg (fun q => y (es.mpr q))
      · rw [e4] at hz
        rw [hz] at ez
        have kk := (hv.tr hv3).sub (P2 := [9, 10, 21]) (C2 := [113]) (by simp) (by simp)
        refine x_if_ne_f (tgt := 56) dX12_turnCycle_50 rfl rfl nI_0 ?_
        refine x_bipush dX12_turnCycle_53 rfl bC_m2 ?_
        refine x_ireturn dX12_turnCycle_55 rfl rfl ?_
        exact K _ _ _ (by rw [en, ez]) (hR.sc kk (by simp) (by simp [mN])) (kk.c (by simp))) 1 (by decide) (Nat.le_refl _)
  exact x_to (key h1 (S.1 x) (hv1.sub (by simp) (by simp)) (by rw [e1, hR.p hx, hR.cc hx]) hz0.symm) ⟨rfl, rfl, rfl, rfl, rfl, trivial⟩
end MOD

