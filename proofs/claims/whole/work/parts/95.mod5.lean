/-! EightPartsModel: reckoned, told -/
theorem one_M4 (g : Nat → Int32) : ∀ p, p < 8 → zM4 (zOne 0) g p = 2 * (g p).toInt64 := by
  have e2 : (nI 2).toInt64 = 2 := by decide
  have e0 : (nI 0).toInt64 = 0 := by decide
  intro p hp
  rcases (show p = 0 ∨ p = 1 ∨ p = 2 ∨ p = 3 ∨ p = 4 ∨ p = 5 ∨ p = 6 ∨ p = 7 by omega) with rfl | rfl | rfl | rfl | rfl | rfl | rfl | rfl <;> simp [zM4, zOne, e2, e0]
theorem oMul_1 {g : Nat → Int32} (hg : zBd g) : ∃ z, oMul (zOne 0) g = some z ∧ c8 z = c8 g := by
  have e2 : (2 : Int64).toInt = 2 := rfl
  have et : ∀ p, p < 8 → (2 * (g p).toInt64).toInt = 2 * (g p).toInt := by
    intro p hp
    have := hg p hp
    have eg : (g p).toInt64.toInt = (g p).toInt := Int32.toInt_toInt64 _
    rw [fb_mulL (by rw [e2, eg]; omega) (by rw [e2, eg]; omega), e2, eg]
  have eh : ∀ p, p < 8 → zHalf (zM4 (zOne 0) g) p = (g p).toInt64 := by
    intro p hp
    have := hg p hp
    have eg : (g p).toInt64.toInt = (g p).toInt := Int32.toInt_toInt64 _
    unfold zHalf
    rw [one_M4 g p hp]
    apply Int64.toInt_inj.mp
    rw [Int64.toInt_div, et p hp, e2, eg]
    have : (2 * (g p).toInt).tdiv 2 = (g p).toInt := Int.mul_tdiv_cancel_left _ (by decide)
    rw [this, fb_bmodL (by omega) (by omega)]
  refine ⟨zMul (zOne 0) g, zIf_t ⟨fun p hp => ?_, fun p hp => ?_⟩, c8_eq.mpr (fun p hp => ?_)⟩
  · rw [one_M4 g p hp, and1v, et p hp]
    omega
  · rw [eh p hp]
    have := hg p hp
    have eg : (g p).toInt64.toInt = (g p).toInt := Int32.toInt_toInt64 _
    rw [Int64.lt_iff_toInt_lt, Int64.le_iff_toInt_le, eg]
    have a1 : (-20000 : Int64).toInt = -20000 := by decide
    have a2 : (20000 : Int64).toInt = 20000 := by decide
    omega
  · unfold zMul zNar
    rw [eh p hp]
    apply Int32.toInt_inj.mp
    have := hg p hp
    rw [Int64.toInt_toInt32, Int32.toInt_toInt64, fb_bmod (by omega) (by omega)]
theorem nrm_split (f : Nat → Int32) : ∀ n, 1 ≤ n → (f 0).toInt.natAbs * (f 0).toInt.natAbs ≤ nrmN f n ∧ (nrmN f n = (f 0).toInt.natAbs * (f 0).toInt.natAbs → ∀ j, 1 ≤ j → j < n → (f j).toInt = 0)
  | 0, h => absurd h (by decide)
  | 1, _ => ⟨by rw [nrmN, nrmN, Nat.zero_add]; exact Nat.le_refl _, fun _ j h1 h2 => by omega⟩
  | n + 2, _ => by
    obtain ⟨a, b⟩ := nrm_split f (n + 1) (by omega)
    have e : nrmN f (n + 2) = nrmN f (n + 1) + (f (n + 1)).toInt.natAbs * (f (n + 1)).toInt.natAbs := rfl
    refine ⟨by omega, fun q j h1 h2 => ?_⟩
    by_cases z : j = n + 1
    · subst z
      have : (f (n + 1)).toInt.natAbs * (f (n + 1)).toInt.natAbs = 0 := by omega
      rcases Nat.mul_eq_zero.mp this with y | y <;> omega
    · exact b (by omega) j h1 (by omega)
theorem isO_iff {f : Nat → Int32} (hf : zBd f) : isO f ↔ zSame f (zOne 0) := by
  obtain ⟨e1, hb⟩ := nrm8 hf
  have l4 : (4 : Int64) = lN 4 := rfl
  unfold isO zSame
  rw [e1, l4]
  constructor
  · rintro ⟨a, b⟩
    have b2 := (pk_lEQ (by omega) (by omega)).mp b
    have f0 : (f 0).toInt = 2 := by rw [a]; rfl
    have q := (nrm_split f 8 (by decide)).2 (by rw [f0]; exact b2)
    intro j hj
    unfold zOne
    by_cases e : j = 0
    · rw [if_pos e, e]; exact a
    · rw [if_neg e]
      apply Int32.toInt_inj.mp
      rw [q j (by omega) hj]
      rfl
  · intro z
    refine ⟨z 0 (by decide), ?_⟩
    have : ∀ n, n ≤ 8 → 1 ≤ n → nrmN f n = 4 := by
      intro n
      induction n with
      | zero => intro _ h; omega
      | succ n ih =>
        intro h8 _
        rw [nrmN]
        by_cases e : n = 0
        · subst e
          rw [z 0 (by decide)]
          rfl
        · rw [ih (by omega) (by omega), z n (by omega)]
          unfold zOne
          rw [if_neg e]
          rfl
    rw [this 8 (by decide) (by decide)]
section MOD
variable {G : xG} {l : Launch} {d : Nat} {h : xH} {Q : Option Value → xH → Prop} {S : St}
theorem n_times {a1 a2 n : Int32} (hd : 10 ≤ d) (hR : RM h S) (K : ∀ r S2 h2, sp_times S a1 a2 n = (r, S2) → RM h2 S2 → cF h h2 → Q (some (.int r)) h2) : xCt G l mX12_times d [.ref 110, .int a1, .int a2, .int n] h 0 0 Q := by
  have hC := hR.1
  refine xCt_of (by decide) (Nat.le_of_ble_eq_true rfl) ?_
  refine x_iload_n (i := 1) dX12_times_0 rfl rfl rfl ?_
  refine x_callS0 (As := [_]) (d2 := d - 1) dX12_times_1 rfl kX12_165 okX12_isSlot (by omega) rfl rfl (Nat.le_of_ble_eq_true rfl) (m_isSlot (by omega) (fun z => ?_) (fun t ht et qt => ?_))
  · refine x_if_eq_t (tgt := 28) dX12_times_4 rfl nI_0 ?_
    refine x_iconst dX12_times_28 rfl iC_m1 ?_
    refine x_ireturn dX12_times_29 rfl rfl ?_
    exact K _ _ _ (by simp only [sp_times, z] <;> rfl) hR (cF.rf hC)
  subst et
  refine x_if_eq_f (tgt := 28) dX12_times_4 rfl rfl nb1 ?_
  refine x_iload_n (i := 2) dX12_times_7 rfl rfl rfl ?_
  refine x_callS0 (As := [_]) (d2 := d - 1) dX12_times_8 rfl kX12_165 okX12_isSlot (by omega) rfl rfl (Nat.le_of_ble_eq_true rfl) (m_isSlot (by omega) (fun z => ?_) (fun x hx ex qx => ?_))
  · refine x_if_eq_t (tgt := 28) dX12_times_11 rfl nI_0 ?_
    refine x_iconst dX12_times_28 rfl iC_m1 ?_
    refine x_ireturn dX12_times_29 rfl rfl ?_
    exact K _ _ _ (by simp only [sp_times, qt, z] <;> rfl) hR (cF.rf hC)
  subst ex
  refine x_if_eq_f (tgt := 28) dX12_times_11 rfl rfl nb1 ?_
  have en : sp_times S (nI t) (nI x) n = if -1000 ≤ n ∧ n ≤ 1000 then sMay S t (oScale n (S.1 x)) else (-1, S) := by simp only [sp_times, qt, qx]
  have e64 : n.toInt64.toInt = n.toInt := Int32.toInt_toInt64 n
  have eq : ((-1000 : Int64) ≤ n.toInt64 ∧ n.toInt64 ≤ 1000) ↔ (-1000 ≤ n ∧ n ≤ 1000) := by
    rw [Int64.le_iff_toInt_le, Int64.le_iff_toInt_le, Int32.le_iff_toInt_le, Int32.le_iff_toInt_le, e64]
    have e1 : (-1000 : Int64).toInt = -1000 := by decide
    have e2 : (1000 : Int64).toInt = 1000 := by decide
    have e3 : (-1000 : Int32).toInt = -1000 := by decide
    have e4 : (1000 : Int32).toInt = 1000 := by decide
    omega
  refine x_iload_n (i := 3) dX12_times_14 rfl rfl rfl ?_
  refine x_i2l dX12_times_15 rfl ?_
  refine x_ldc2 dX12_times_16 rfl cX12_203 ?_
  refine x_ldc2 dX12_times_19 rfl cX12_205 ?_
  refine x_callS0 (As := [_, _, _]) (d2 := d - 1) dX12_times_22 rfl kX12_95 okX12_in (by omega) rfl rfl (Nat.le_of_ble_eq_true rfl) (m_inL (fun z => ?_) (fun z => ?_))
  · refine x_if_ne_f (tgt := 30) dX12_times_25 rfl rfl nI_0 ?_
    refine x_iconst dX12_times_28 rfl iC_m1 ?_
    refine x_ireturn dX12_times_29 rfl rfl ?_
    exact K _ _ _ (by rw [en]; exact if_neg (fun q => z (eq.mpr q))) hR (cF.rf hC)
  rw [if_pos (eq.mp z)] at en
  have v := hC.v (a := 112) rfl
  have v3 := hC.j (a := 113) rfl
  have hC0 := hC
  refine x_if_ne_t (tgt := 30) dX12_times_25 rfl nb1 ?_
  refine x_iconst dX12_times_30 rfl iC_0 ?_
  refine x_istore dX12_times_31 rfl (by decide) ?_
  have key := xloop (P := fun i => xWP G l mX12_times d (zM G Q) 0 0 33 (xls [(0, .ref 110), (1, .int (nI t)), (2, .int (nI x)), (3, .int n), (4, .int (nI i))]) [] (hs h 113 (1, 8, xJ (xF (zScale n (pl h x)) (jv h 113) i)))) 8 (by
    intro i hi ih
    have hC := hC0.setJ (f := xF (zScale n (pl h x)) (jv h 113) i) v3
    refine x_iload dX12_times_33 rfl rfl ?_
    refine x_bipush dX12_times_35 rfl bC_8 ?_
    refine x_jc_ge (tgt := 69) dX12_times_37 rfl rfl (by omega) (by omega) (fun c37 => ?_) (fun c37 => ?_)
    · obtain rfl : i = 8 := by omega
      refine x_topJ (f2 := zScale n (pl h x)) (fun j hj => if_pos hj) (by decide) ?_
      have hC2 := hC0.setJ (f := zScale n (pl h x)) v3
      have hv : mV [] [113] h (hs h 113 (1, 8, xJ (zScale n (pl h x)))) := mV_o hC2 xSm.hs1 (by decide)
      have hC := hC2
      refine x_aload_n (i := 0) dX12_times_69 rfl rfl rfl ?_
      refine x_iload_n (i := 1) dX12_times_70 rfl rfl rfl ?_
      refine x_callV0 (ci := 12) (b := 110) (As := [_]) (d2 := d - 1) dX12_times_71 rfl kX12_109 okX12_comes (hC.o rfl) (fun q hq => by cases hq; rfl) (by omega) rfl rfl (Nat.le_of_ble_eq_true rfl) (m_comes (by omega) hC (by omega) hs_eq (fun z2 h3 hv3 e3 => ?_) (fun z2 => ?_))
      · have hz : oScale n (S.1 x) = some (zNar (zScale n (pl h x))) := by rw [← hR.p hx]; exact zIf_t z2
        have kk := (hv.tr hv3).sub (P2 := [t]) (C2 := [113]) (by simp) (by simp)
        refine x_callS0 (As := [_]) (d2 := d - 1) dX12_times_74 rfl kX12_185 okX12_can (by omega) rfl rfl (Nat.le_of_ble_eq_true rfl) (m_can1 ?_)
        refine x_ireturn dX12_times_77 rfl rfl ?_
        exact K _ _ _ (by rw [en]; exact sMay_some hz) (hR.set ht kk (by simp) (by simp [mN]) e3) (kk.c (by simp))
      · have hz : oScale n (S.1 x) = none := by rw [← hR.p hx]; exact zIf_f z2
        refine x_callS0 (As := [_]) (d2 := d - 1) dX12_times_74 rfl kX12_185 okX12_can (by omega) rfl rfl (Nat.le_of_ble_eq_true rfl) (m_can0 ?_)
        refine x_ireturn dX12_times_77 rfl rfl ?_
        exact K _ _ _ (by rw [en]; exact sMay_none hz) (hR.sc hv (by simp) (by simp [mN])) (hv.c (by simp))
    · have w2 := hs_ne (c := (1, 8, xJ (xF (zScale n (pl h x)) (jv h 113) i))) (show 112 ≠ 113 by decide) v
      refine x_aload_n (i := 0) dX12_times_40 rfl rfl rfl ?_
      refine x_getC dX12_times_41 rfl fX12_20 hC rfl F_110_3 ?_
      refine x_iload dX12_times_44 rfl rfl ?_
      refine x_iload_n (i := 3) dX12_times_46 rfl rfl rfl ?_
      refine x_i2l dX12_times_47 rfl ?_
      refine x_aload_n (i := 0) dX12_times_48 rfl rfl rfl ?_
      refine x_getC dX12_times_49 rfl fX12_17 hC rfl F_110_2 ?_
      refine x_bipush dX12_times_52 rfl bC_8 ?_
      refine x_iload_n (i := 2) dX12_times_54 rfl rfl rfl ?_
      refine x_imul dX12_times_55 rfl ?_
      refine x_iload dX12_times_56 rfl rfl ?_
      refine x_iadd dX12_times_58 rfl ?_
      rw [nI_8]
      refine x_iald dX12_times_59 rfl w2 rfl (by omega) (by decide) ?_
      refine x_i2l dX12_times_60 rfl ?_
      refine x_lmul dX12_times_61 rfl ?_
      rw [← pl_lt c37]
      refine x_lastT dX12_times_62 rfl rfl (by omega) (by decide) ?_
      rw [show vp_updL (xF (zScale n (pl h x)) (jv h 113) i) i (n.toInt64 * (pl h x i).toInt64) = xF (zScale n (pl h x)) (jv h 113) (i + 1) from xF_updL (zScale n (pl h x)) _ i]
      refine x_iinc dX12_times_63 rfl rfl (inc1 _) ?_
      refine x_goto (tgt := 33) dX12_times_66 rfl ?_
      exact x_to (ih c37) ⟨rfl, rfl, rfl, rfl, rfl, trivial⟩) 0 (Nat.zero_le _)
  rw [xF_0, hs_self v3] at key
  exact x_to key ⟨rfl, rfl, rfl, rfl, rfl, trivial⟩
theorem n_chain {a1 a2 a3 row n : Int32} (hd : 10 ≤ d) (hR : RM h S) (K : ∀ r S2 h2, sp_chain S a1 a2 a3 row n = (r, S2) → RM h2 S2 → cF h h2 → Q (some (.int r)) h2) : xCt G l mX12_chain d [.ref 110, .int a1, .int a2, .int a3, .int row, .int n] h 0 0 Q := by
  have hC := hR.1
  refine xCt_of (by decide) (Nat.le_of_ble_eq_true rfl) ?_
  refine x_iload_n (i := 1) dX12_chain_0 rfl rfl rfl ?_
  refine x_callS0 (As := [_]) (d2 := d - 1) dX12_chain_1 rfl kX12_165 okX12_isSlot (by omega) rfl rfl (Nat.le_of_ble_eq_true rfl) (m_isSlot (by omega) (fun z => ?_) (fun t ht et qt => ?_))
  · refine x_if_eq_t (tgt := 32) dX12_chain_4 rfl nI_0 ?_
    refine x_iconst dX12_chain_32 rfl iC_m1 ?_
    refine x_ireturn dX12_chain_33 rfl rfl ?_
    exact K _ _ _ (by simp only [sp_chain, z] <;> rfl) hR (cF.rf hC)
  subst et
  refine x_if_eq_f (tgt := 32) dX12_chain_4 rfl rfl nb1 ?_
  refine x_iload_n (i := 2) dX12_chain_7 rfl rfl rfl ?_
  refine x_callS0 (As := [_]) (d2 := d - 1) dX12_chain_8 rfl kX12_165 okX12_isSlot (by omega) rfl rfl (Nat.le_of_ble_eq_true rfl) (m_isSlot (by omega) (fun z => ?_) (fun x hx ex qx => ?_))
  · refine x_if_eq_t (tgt := 32) dX12_chain_11 rfl nI_0 ?_
    refine x_iconst dX12_chain_32 rfl iC_m1 ?_
    refine x_ireturn dX12_chain_33 rfl rfl ?_
    exact K _ _ _ (by simp only [sp_chain, qt, z] <;> rfl) hR (cF.rf hC)
  subst ex
  refine x_if_eq_f (tgt := 32) dX12_chain_11 rfl rfl nb1 ?_
  refine x_iload_n (i := 3) dX12_chain_14 rfl rfl rfl ?_
  refine x_iload dX12_chain_15 rfl rfl ?_
  refine x_iconst dX12_chain_17 rfl iC_1 ?_
  refine x_callS0 (As := [_, _, _]) (d2 := d - 1) dX12_chain_18 rfl kX12_219 okX12_isRow (by omega) rfl rfl (Nat.le_of_ble_eq_true rfl) (m_isRow (by omega) (by decide) (fun z => ?_) (fun m lm hm em qm qo => ?_))
  · refine x_if_eq_t (tgt := 32) dX12_chain_21 rfl nI_0 ?_
    refine x_iconst dX12_chain_32 rfl iC_m1 ?_
    refine x_ireturn dX12_chain_33 rfl rfl ?_
    exact K _ _ _ (by rcases z with z | ⟨i, z0, z⟩; exact (by simp only [sp_chain, qt, qx, z] <;> rfl); exact (by simp only [sp_chain, qt, qx, z0, if_neg z] <;> rfl)) hR (cF.rf hC)
  subst em
  refine x_if_eq_f (tgt := 32) dX12_chain_21 rfl rfl nb1 ?_
  refine x_iload dX12_chain_24 rfl rfl ?_
  refine x_callS0 (As := [_]) (d2 := d - 1) dX12_chain_26 rfl kX12_207 okX12_isTurn (by omega) rfl rfl (Nat.le_of_ble_eq_true rfl) (m_isTurn (by omega) (fun z => ?_) (fun w hw ew qw => ?_))
  · refine x_if_ne_f (tgt := 34) dX12_chain_29 rfl rfl nI_0 ?_
    refine x_iconst dX12_chain_32 rfl iC_m1 ?_
    refine x_ireturn dX12_chain_33 rfl rfl ?_
    exact K _ _ _ (by simp only [sp_chain, qt, qx, qm, if_pos qo, z] <;> rfl) hR (cF.rf hC)
  subst ew
  refine x_if_ne_t (tgt := 34) dX12_chain_29 rfl nb1 ?_
  have en : sp_chain S (nI t) (nI x) (nI m) row (nI w) = sMay S t (oChain S.1 (S.1 x) row w m) := by simp only [sp_chain, qt, qx, qm, if_pos qo, qw]
  refine x_aload_n (i := 0) dX12_chain_34 rfl rfl rfl ?_
  refine x_bipush dX12_chain_35 rfl bC_10 ?_
  refine x_iload_n (i := 2) dX12_chain_37 rfl rfl rfl ?_
  refine x_callV0 (ci := 12) (b := 110) (As := [_, _]) (d2 := d - 1) dX12_chain_38 rfl kX12_182 okX12_becomes (hC.o rfl) (fun q hq => by cases hq; rfl) (by omega) rfl rfl (Nat.le_of_ble_eq_true rfl) (m_becomes hC (t := 10) (by decide) (by omega) (fun h1 hv1 e1 => ?_))
  refine x_iconst dX12_chain_41 rfl iC_1 ?_
  refine x_istore dX12_chain_42 rfl (by decide) ?_
  refine x_iconst dX12_chain_44 rfl iC_0 ?_
  refine x_istore dX12_chain_45 rfl (by decide) ?_
  have fl : ∀ h2 i, RM h2 S → cF h h2 → oChain S.1 (S.1 x) row w m = none → xWP G l mX12_chain d (zM G Q) 0 0 96 (xls [(0, .ref 110), (1, .int (nI t)), (6, .int (nI 0)), (7, .int (nI i))]) [] h2 := by
    intro h2 i r2 c2 e
    have hC := r2.1
    refine x_aload_n (i := 0) dX12_chain_96 rfl rfl rfl ?_
    refine x_iload dX12_chain_97 rfl rfl ?_
    refine x_iload_n (i := 1) dX12_chain_99 rfl rfl rfl ?_
    refine x_bipush dX12_chain_100 rfl bC_10 ?_
    refine x_callV0 (ci := 12) (b := 110) (As := [_, _, _]) (d2 := d - 1) dX12_chain_102 rfl kX12_213 okX12_ends (hC.o rfl) (fun q hq => by cases hq; rfl) (by omega) rfl rfl (Nat.le_of_ble_eq_true rfl) (m_ends0 (by omega) ?_)
    refine x_ireturn dX12_chain_105 rfl rfl ?_
    exact K _ _ _ (by rw [en]; exact sMay_none e) r2 c2
  have key := xloop (P := fun k => ∀ h2 f, RM h2 S → cF h h2 → oChain S.1 (S.1 x) row w k = some f → pl h2 10 = c8 f → xWP G l mX12_chain d (zM G Q) 0 0 47 (xls [(0, .ref 110), (1, .int (nI t)), (3, .int (nI m)), (4, .int row), (5, .int (nI w)), (6, .int (nI 1)), (7, .int (nI k))]) [] h2) m (by
    intro k hk ih h2 f r2 c2 ef e2
    have hC := r2.1
    refine x_iload dX12_chain_47 rfl rfl ?_
    refine x_iload_n (i := 3) dX12_chain_49 rfl rfl rfl ?_
    refine x_jc_ge (tgt := 96) dX12_chain_50 rfl rfl (by omega) (by omega) (fun c50 => ?_) (fun c50 => ?_)
    · obtain rfl : k = m := by omega
      refine x_aload_n (i := 0) dX12_chain_96 rfl rfl rfl ?_
      refine x_iload dX12_chain_97 rfl rfl ?_
      refine x_iload_n (i := 1) dX12_chain_99 rfl rfl rfl ?_
      refine x_bipush dX12_chain_100 rfl bC_10 ?_
      refine x_callV0 (ci := 12) (b := 110) (As := [_, _, _]) (d2 := d - 1) dX12_chain_102 rfl kX12_213 okX12_ends (hC.o rfl) (fun q hq => by cases hq; rfl) (by omega) rfl rfl (Nat.le_of_ble_eq_true rfl) (m_ends1 (by omega) hC (by omega) (by decide) (fun h3 hv3 e3 => ?_))
      refine x_ireturn dX12_chain_105 rfl rfl ?_
      exact K _ _ _ (by rw [en]; exact sMay_some ef) (r2.set ht hv3 (by simp) (by simp) (by rw [e3, e2])) ⟨hv3.1, hv3.2.1.1.trans c2.2.1, fun a ha => ((hv3.c (by simp)).2.2 a ha).trans (c2.2.2 a ha)⟩
    · have sk := slR_lt row k
      refine x_iload dX12_chain_53 rfl rfl ?_
      refine x_if_eq_f (tgt := 96) dX12_chain_55 rfl rfl nb1 ?_
      refine x_aload_n (i := 0) dX12_chain_58 rfl rfl rfl ?_
      refine x_bipush dX12_chain_59 rfl bC_9 ?_
      refine x_bipush dX12_chain_61 rfl bC_10 ?_
      refine x_iload dX12_chain_63 rfl rfl ?_
      refine x_iload dX12_chain_65 rfl rfl ?_
      refine x_callS0 (As := [_, _]) (d2 := d - 1) dX12_chain_67 rfl kX12_222 okX12_slotIn (by omega) rfl rfl (Nat.le_of_ble_eq_true rfl) (m_slotIn ?_)
      refine x_iload dX12_chain_70 rfl rfl ?_
      have e4 : oTurn (pl h2 10) (pl h2 (slR row k)) w = oChain S.1 (S.1 x) row w (k + 1) := by
        rw [oChain, ef, Option.bind_some]
        exact oTurn_e (by rw [e2, c8_c8]) (by rw [r2.p sk])
      refine x_callV0 (ci := 12) (b := 110) (As := [_, _, _, _]) (d2 := d - 1) dX12_chain_72 rfl kX12_210 okX12_turns (hC.o rfl) (fun q hq => by cases hq; rfl) (by omega) rfl rfl (Nat.le_of_ble_eq_true rfl) (m_turns (t := 9) (x := 10) (by omega) hC r2.b (by decide) (by decide) (by omega) hw (by omega) (by decide) (by omega) (fun z hz h3 hv3 e3 => ?_) (fun hz h3 hv3 => ?_))
      · have hC := hv3.1
        refine x_istore dX12_chain_75 rfl (by decide) ?_
        refine x_iload dX12_chain_77 rfl rfl ?_
        refine x_if_eq_f (tgt := 90) dX12_chain_79 rfl rfl nb1 ?_
        refine x_aload_n (i := 0) dX12_chain_82 rfl rfl rfl ?_
        refine x_bipush dX12_chain_83 rfl bC_10 ?_
        refine x_bipush dX12_chain_85 rfl bC_9 ?_
        refine x_callV0 (ci := 12) (b := 110) (As := [_, _]) (d2 := d - 1) dX12_chain_87 rfl kX12_182 okX12_becomes (hC.o rfl) (fun q hq => by cases hq; rfl) (by omega) rfl rfl (Nat.le_of_ble_eq_true rfl) (m_becomes hC (t := 10) (x := 9) (by decide) (by decide) (fun h4 hv4 e5 => ?_))
        refine x_iinc dX12_chain_90 rfl rfl (inc1 _) ?_
        refine x_goto (tgt := 47) dX12_chain_93 rfl ?_
        have kk := (hv3.tr hv4).sub (P2 := [9, 21, 10]) (C2 := [113]) (by simp) (by simp)
        have ck := kk.c (by simp)
        exact x_to (ih c50 h4 z (r2.sc kk (by simp) (by simp [mN])) ⟨ck.1, ck.2.1.trans c2.2.1, fun a ha => (ck.2.2 a ha).trans (c2.2.2 a ha)⟩ (by rw [← e4]; exact hz) (by rw [e5, e3])) ⟨rfl, rfl, rfl, rfl, rfl, rfl, rfl, trivial⟩
      · have hC := hv3.1
        have ck := hv3.c (by simp)
        have none_ := oChain_none (k := k + 1) (by rw [← e4]; exact hz) m (by omega)
        refine x_istore dX12_chain_75 rfl (by decide) ?_
        refine x_iload dX12_chain_77 rfl rfl ?_
        refine x_if_eq_t (tgt := 90) dX12_chain_79 rfl nI_0 ?_
        refine x_iinc dX12_chain_90 rfl rfl (inc1 _) ?_
        refine x_goto (tgt := 47) dX12_chain_93 rfl ?_
        refine x_iload dX12_chain_47 rfl rfl ?_
        refine x_iload_n (i := 3) dX12_chain_49 rfl rfl rfl ?_
        have ff := fl h3 (k + 1) (r2.sc hv3 (by simp) (by simp [mN])) ⟨ck.1, ck.2.1.trans c2.2.1, fun a ha => (ck.2.2 a ha).trans (c2.2.2 a ha)⟩ none_
        refine x_jc_ge (tgt := 96) dX12_chain_50 rfl rfl (by omega) (by omega) (fun c50 => ?_) (fun c50 => ?_)
        · exact x_to ff ⟨rfl, rfl, rfl, rfl, trivial⟩
        · refine x_iload dX12_chain_53 rfl rfl ?_
          refine x_if_eq_t (tgt := 96) dX12_chain_55 rfl nI_0 ?_
          exact x_to ff ⟨rfl, rfl, rfl, rfl, trivial⟩) 0 (Nat.zero_le _)
  exact x_to (key h1 (S.1 x) (hR.sc hv1 (by simp) (by simp)) (hv1.c (by simp)) rfl (by rw [e1, hR.p hx, hR.cc hx])) ⟨rfl, rfl, rfl, rfl, rfl, rfl, rfl, trivial⟩
theorem cF.tr {h h2 h3 : xH} (a : cF h h2) (b : cF h2 h3) : cF h h3 := ⟨b.1, b.2.1.trans a.2.1, fun x hx => (b.2.2 x hx).trans (a.2.2 x hx)⟩
theorem n_power {a1 a2 n : Int32} (hd : 10 ≤ d) (hR : RM h S) (K : ∀ r S2 h2, sp_power S a1 a2 n = (r, S2) → RM h2 S2 → cF h h2 → Q (some (.int r)) h2) : xCt G l mX12_power d [.ref 110, .int a1, .int a2, .int n] h 0 0 Q := by
  have hC := hR.1
  refine xCt_of (by decide) (Nat.le_of_ble_eq_true rfl) ?_
  refine x_iload_n (i := 1) dX12_power_0 rfl rfl rfl ?_
  refine x_callS0 (As := [_]) (d2 := d - 1) dX12_power_1 rfl kX12_165 okX12_isSlot (by omega) rfl rfl (Nat.le_of_ble_eq_true rfl) (m_isSlot (by omega) (fun z => ?_) (fun t ht et qt => ?_))
  · refine x_if_eq_t (tgt := 44) dX12_power_4 rfl nI_0 ?_
    refine x_iconst dX12_power_44 rfl iC_m1 ?_
    refine x_ireturn dX12_power_45 rfl rfl ?_
    exact K _ _ _ (by simp only [sp_power, z] <;> rfl) hR (cF.rf hC)
  subst et
  refine x_if_eq_f (tgt := 44) dX12_power_4 rfl rfl nb1 ?_
  refine x_iload_n (i := 2) dX12_power_7 rfl rfl rfl ?_
  refine x_callS0 (As := [_]) (d2 := d - 1) dX12_power_8 rfl kX12_165 okX12_isSlot (by omega) rfl rfl (Nat.le_of_ble_eq_true rfl) (m_isSlot (by omega) (fun z => ?_) (fun x hx ex qx => ?_))
  · refine x_if_eq_t (tgt := 44) dX12_power_11 rfl nI_0 ?_
    refine x_iconst dX12_power_44 rfl iC_m1 ?_
    refine x_ireturn dX12_power_45 rfl rfl ?_
    exact K _ _ _ (by simp only [sp_power, qt, z] <;> rfl) hR (cF.rf hC)
  subst ex
  refine x_if_eq_f (tgt := 44) dX12_power_11 rfl rfl nb1 ?_
  refine x_iload_n (i := 3) dX12_power_14 rfl rfl rfl ?_
  refine x_i2l dX12_power_15 rfl ?_
  refine x_lconst dX12_power_16 rfl lC_0 ?_
  refine x_ldc2 dX12_power_17 rfl cX12_226 ?_
  refine x_callS0 (As := [_, _, _]) (d2 := d - 1) dX12_power_20 rfl kX12_95 okX12_in (by omega) rfl rfl (Nat.le_of_ble_eq_true rfl) (m_in (lo := 0) (hi := 60) (by decide) (by decide) (by decide) (fun z => ?_) (fun m lm hm em qm => ?_))
  · refine x_if_eq_t (tgt := 44) dX12_power_23 rfl nI_0 ?_
    refine x_iconst dX12_power_44 rfl iC_m1 ?_
    refine x_ireturn dX12_power_45 rfl rfl ?_
    exact K _ _ _ (by simp only [sp_power, qt, qx, z] <;> rfl) hR (cF.rf hC)
  subst em
  refine x_if_eq_f (tgt := 44) dX12_power_23 rfl rfl nb1 ?_
  have en : sp_power S (nI t) (nI x) (nI m) = sMay S t (oPow (S.1 x) m) := by simp only [sp_power, qt, qx, qm]
  have pw : ∀ Q2 : Option Value → xH → Prop, (∀ z, oPow (S.1 x) m = some z → ∀ h2, mV [9] [113] h h2 → pl h2 9 = c8 z → Q2 (some (.int (nI 1))) h2) → (oPow (S.1 x) m = none → ∀ h2, mV [9] [113] h h2 → Q2 (some (.int (nI 0))) h2) → xCt G l mX12_powers (d - 1) [.ref 110, .int (nI 9), .int (nI x), .int (nI m)] h 0 0 Q2 := by
    intro Q2 K1 K0
    generalize hd2 : d - 1 = d2
    have hd3 : 5 ≤ d2 := by omega
    refine xCt_of (by decide) (Nat.le_of_ble_eq_true rfl) ?_
    have go : ∀ y, y < 155 → (m = 0 → pl h y = c8 (zOne 0)) → (¬ m = 0 → y = x) → xWP G l mX12_powers d2 (zM G Q2) 0 0 12 (xls [(0, .ref 110), (1, .int (nI 9)), (2, .int (nI x)), (3, .int (nI m))]) [.int (nI y), .int (nI 9), .ref 110] h := by
      intro y hy y0 y1
      refine x_callV0 (ci := 12) (b := 110) (As := [_, _]) (d2 := d2 - 1) dX12_powers_12 rfl kX12_182 okX12_becomes (hC.o rfl) (fun q hq => by cases hq; rfl) (by omega) rfl rfl (Nat.le_of_ble_eq_true rfl) (m_becomes hC (t := 9) (by decide) hy (fun h1 hv1 e1 => ?_))
      refine x_iconst dX12_powers_15 rfl iC_1 ?_
      refine x_istore dX12_powers_16 rfl (by decide) ?_
      have key := xloop (P := fun k => 1 ≤ k → ∀ h2 f, mV [9] [113] h h2 → (¬ m = 0 → oPow (S.1 x) k = some f ∧ pl h2 9 = c8 f) → (m = 0 → pl h2 9 = c8 (zOne 0)) → xWP G l mX12_powers d2 (zM G Q2) 0 0 18 (xls [(0, .ref 110), (1, .int (nI 9)), (2, .int (nI x)), (3, .int (nI m)), (4, .int (nI k))]) [] h2) (max m 1) (by
        intro k hk ih k1 h2 f hv2 e2 e3
        have hC := hv2.1
        refine x_iload dX12_powers_18 rfl rfl ?_
        refine x_iload_n (i := 3) dX12_powers_20 rfl rfl rfl ?_
        refine x_jc_ge (tgt := 42) dX12_powers_21 rfl rfl (by omega) (by omega) (fun c21 => ?_) (fun c21 => ?_)
        · refine x_iconst dX12_powers_42 rfl iC_1 ?_
          refine x_ireturn dX12_powers_43 rfl rfl ?_
          by_cases m0 : m = 0
          · exact K1 (zOne 0) (by rw [m0]; rfl) h2 hv2 (e3 m0)
          · obtain rfl : k = m := by omega
            exact K1 f (e2 m0).1 h2 hv2 (e2 m0).2
        · have m0 : ¬ m = 0 := by omega
          obtain ⟨f1, f2⟩ := e2 m0
          have e4 : oMul (pl h2 9) (pl h2 x) = oPow (S.1 x) (k + 1) := by
            rw [oPow, f1, Option.bind_some, f2, oMul_cl, hv2.2.2.1 x (by omega) (by simp; omega), hR.p hx]
          refine x_aload_n (i := 0) dX12_powers_24 rfl rfl rfl ?_
          refine x_iload_n (i := 1) dX12_powers_25 rfl rfl rfl ?_
          refine x_iload_n (i := 1) dX12_powers_26 rfl rfl rfl ?_
          refine x_iload_n (i := 2) dX12_powers_27 rfl rfl rfl ?_
          refine x_callV0 (ci := 12) (b := 110) (As := [_, _, _]) (d2 := d2 - 1) dX12_powers_28 rfl kX12_197 okX12_multiplies (hC.o rfl) (fun q hq => by cases hq; rfl) (by omega) rfl rfl (Nat.le_of_ble_eq_true rfl) (m_mul (by omega) hC (hv2.2.2.2 hR.b) (t := 9) (x := 9) (by decide) (by decide) (by omega) (fun z hz h3 hv3 e3 => ?_) (fun hz h3 hv3 => ?_))
          · rw [e4] at hz
            refine x_if_ne_t (tgt := 36) dX12_powers_31 rfl nb1 ?_
            refine x_iinc dX12_powers_36 rfl rfl (inc1 _) ?_
            refine x_goto (tgt := 18) dX12_powers_39 rfl ?_
            exact x_to (ih (by omega) (by omega) h3 z ((hv2.tr hv3).sub (by simp) (by simp)) (fun _ => ⟨hz, e3⟩) (fun q => absurd q m0)) ⟨rfl, rfl, rfl, rfl, rfl, trivial⟩
          · rw [e4] at hz
            refine x_if_ne_f (tgt := 36) dX12_powers_31 rfl rfl nI_0 ?_
            refine x_iconst dX12_powers_34 rfl iC_0 ?_
            refine x_ireturn dX12_powers_35 rfl rfl ?_
            exact K0 (oPow_none hz m (by omega)) h3 ((hv2.tr hv3).sub (by simp) (by simp))) 1 (by omega) (Nat.le_refl _)
      by_cases m0 : m = 0
      · exact x_to (key h1 (zOne 0) (hv1.sub (by simp) (by simp)) (fun q => absurd m0 q) (fun _ => e1.trans (y0 m0))) ⟨rfl, rfl, rfl, rfl, rfl, trivial⟩
      · obtain ⟨z, z1, z2⟩ := oMul_1 (g := S.1 x) (by rw [← hR.p hx]; exact hR.b x (by omega))
        obtain rfl := y1 m0
        exact x_to (key h1 z (hv1.sub (by simp) (by simp)) (fun _ => ⟨z1, by rw [e1, hR.p hx, z2, hR.cc hx]⟩) (fun q => absurd q m0)) ⟨rfl, rfl, rfl, rfl, rfl, trivial⟩
    refine x_aload_n (i := 0) dX12_powers_0 rfl rfl rfl ?_
    refine x_iload_n (i := 1) dX12_powers_1 rfl rfl rfl ?_
    refine x_iload_n (i := 3) dX12_powers_2 rfl rfl rfl ?_
    refine x_if_ne (tgt := 11) dX12_powers_3 rfl rfl (fun c3 => ?_) (fun c3 => ?_)
    · have m0 : ¬ m = 0 := fun e => c3 (by rw [e]; exact nI_0)
      refine x_iload_n (i := 2) dX12_powers_11 rfl rfl rfl ?_
      exact x_to (go x (by omega) (fun q => absurd q m0) (fun _ => rfl)) ⟨rfl, rfl, rfl, rfl, trivial⟩
    · have m0 : m = 0 := (nI_eq (by omega) (by omega)).mp (c3.trans nI_0.symm)
      refine x_bipush dX12_powers_6 rfl bC_8 ?_
      refine x_goto (tgt := 12) dX12_powers_8 rfl ?_
      exact x_to (go 8 (by decide) (fun _ => hR.2.2.2.1.2) (fun q => absurd m0 q)) ⟨rfl, rfl, rfl, rfl, trivial⟩
  refine x_aload_n (i := 0) dX12_power_26 rfl rfl rfl ?_
  refine x_aload_n (i := 0) dX12_power_27 rfl rfl rfl ?_
  refine x_bipush dX12_power_28 rfl bC_9 ?_
  refine x_iload_n (i := 2) dX12_power_30 rfl rfl rfl ?_
  refine x_iload_n (i := 3) dX12_power_31 rfl rfl rfl ?_
  refine x_callV0 (ci := 12) (b := 110) (As := [_, _, _]) (d2 := d - 1) dX12_power_32 rfl kX12_228 okX12_powers (hC.o rfl) (fun q hq => by cases hq; rfl) (by omega) rfl rfl (Nat.le_of_ble_eq_true rfl) (pw _ (fun z hz h2 hv e => ?_) (fun hz h2 hv => ?_))
  · have hC := hv.1
    refine x_iload_n (i := 1) dX12_power_35 rfl rfl rfl ?_
    refine x_bipush dX12_power_36 rfl bC_9 ?_
    refine x_callV0 (ci := 12) (b := 110) (As := [_, _, _]) (d2 := d - 1) dX12_power_38 rfl kX12_213 okX12_ends (hC.o rfl) (fun q hq => by cases hq; rfl) (by omega) rfl rfl (Nat.le_of_ble_eq_true rfl) (m_ends1 (by omega) hC (by omega) (by decide) (fun h3 hv3 e3 => ?_))
    refine x_goto (tgt := 45) dX12_power_41 rfl ?_
    refine x_ireturn dX12_power_45 rfl rfl ?_
    have kk := (hv.tr hv3).sub (P2 := [t, 9]) (C2 := [113]) (by simp) (by simp)
    exact K _ _ _ (by rw [en]; exact sMay_some hz) (hR.set ht kk (by simp) (by simp [mN]) (by rw [e3, e])) (kk.c (by simp))
  · have hC := hv.1
    refine x_iload_n (i := 1) dX12_power_35 rfl rfl rfl ?_
    refine x_bipush dX12_power_36 rfl bC_9 ?_
    refine x_callV0 (ci := 12) (b := 110) (As := [_, _, _]) (d2 := d - 1) dX12_power_38 rfl kX12_213 okX12_ends (hC.o rfl) (fun q hq => by cases hq; rfl) (by omega) rfl rfl (Nat.le_of_ble_eq_true rfl) (m_ends0 (by omega) ?_)
    refine x_goto (tgt := 45) dX12_power_41 rfl ?_
    refine x_ireturn dX12_power_45 rfl rfl ?_
    exact K _ _ _ (by rw [en]; exact sMay_none hz) (hR.sc hv (by simp) (by simp [mN])) (hv.c (by simp))
end MOD

