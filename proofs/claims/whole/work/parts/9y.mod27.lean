/-! EightPartsModel: divisors, divisor, sides, nucleus -/
theorem l0 (x : Int64) : x = 0 ↔ x.toInt = 0 := ⟨fun z => by rw [z]; rfl, fun z => Int64.toInt_inj.mp (by rw [z]; rfl)⟩
theorem td_ng {a b : Int} (h : a ≤ 0) : a.tmod b ≤ 0 := by
  have := Int.tmod_nonneg b (show 0 ≤ -a by omega)
  rw [Int.neg_tmod] at this
  omega
theorem dvh {a : Int64} (ha : -4000000000000000000 ≤ a.toInt ∧ a.toInt ≤ 4000000000000000000) {m : Nat} (hm : 1 ≤ m ∧ m ≤ 3) : (a - a / (2 * (nI m).toInt64) * (2 * (nI m).toInt64) = 0 ↔ a &&& 1 = 0 ∧ a / 2 - a / 2 / (nI m).toInt64 * (nI m).toInt64 = 0) ∧ a / (2 * (nI m).toInt64) = a / 2 / (nI m).toInt64 := by
  have e2 : (2 : Int64).toInt = 2 := rfl
  obtain ⟨f1, -, f3⟩ := dv_t (b := 2) ha (by rw [e2]; omega)
  obtain ⟨t1, t2, t3, t4, t5, t6⟩ := td_fl (a := a.toInt) (b := 2) (by decide)
  have u1 := Int.natAbs_tdiv_le_natAbs a.toInt 2
  have v1 : a.toInt ≤ 0 → a.toInt.tmod 2 ≤ 0 := td_ng
  rw [e2] at f1 f3
  have ha2 : -4000000000000000000 ≤ (a / 2).toInt ∧ (a / 2).toInt ≤ 4000000000000000000 := by rw [f1]; omega
  rw [and1v, l0, l0]
  have hq : ∀ x y : Int64, x = y ↔ x.toInt = y.toInt := fun x y => Int64.toInt_inj.symm
  rw [hq]
  rcases (show m = 1 ∨ m = 2 ∨ m = 3 by omega) with rfl | rfl | rfl
  · have q1 : (2 * (nI 1).toInt64).toInt = 2 := by decide
    have q2 : ((nI 1).toInt64).toInt = 1 := by decide
    obtain ⟨g1, -, g3⟩ := dv_t (b := 2 * (nI 1).toInt64) ha (by rw [q1]; omega)
    obtain ⟨k1, -, k3⟩ := dv_t (b := (nI 1).toInt64) ha2 (by rw [q2]; omega)
    rw [q1] at g1 g3
    rw [q2, f1] at k1 k3
    obtain ⟨s1, s2, s3, s4, s5, s6⟩ := td_fl (a := a.toInt.tdiv 2) (b := 1) (by decide)
    rw [g1, g3, k1, k3]
    omega
  · have q1 : (2 * (nI 2).toInt64).toInt = 4 := by decide
    have q2 : ((nI 2).toInt64).toInt = 2 := by decide
    obtain ⟨g1, -, g3⟩ := dv_t (b := 2 * (nI 2).toInt64) ha (by rw [q1]; omega)
    obtain ⟨k1, -, k3⟩ := dv_t (b := (nI 2).toInt64) ha2 (by rw [q2]; omega)
    rw [q1] at g1 g3
    rw [q2, f1] at k1 k3
    obtain ⟨r1, r2, r3, r4, r5, r6⟩ := td_fl (a := a.toInt) (b := 4) (by decide)
    have v2 : a.toInt ≤ 0 → a.toInt.tmod 4 ≤ 0 := td_ng
    have v3 : a.toInt.tdiv 2 ≤ 0 → (a.toInt.tdiv 2).tmod 2 ≤ 0 := td_ng
    obtain ⟨s1, s2, s3, s4, s5, s6⟩ := td_fl (a := a.toInt.tdiv 2) (b := 2) (by decide)
    rw [g1, g3, k1, k3]
    omega
  · have q1 : (2 * (nI 3).toInt64).toInt = 6 := by decide
    have q2 : ((nI 3).toInt64).toInt = 3 := by decide
    obtain ⟨g1, -, g3⟩ := dv_t (b := 2 * (nI 3).toInt64) ha (by rw [q1]; omega)
    obtain ⟨k1, -, k3⟩ := dv_t (b := (nI 3).toInt64) ha2 (by rw [q2]; omega)
    rw [q1] at g1 g3
    rw [q2, f1] at k1 k3
    obtain ⟨r1, r2, r3, r4, r5, r6⟩ := td_fl (a := a.toInt) (b := 6) (by decide)
    have v2 : a.toInt ≤ 0 → a.toInt.tmod 6 ≤ 0 := td_ng
    have v3 : a.toInt.tdiv 2 ≤ 0 → (a.toInt.tdiv 2).tmod 3 ≤ 0 := td_ng
    obtain ⟨s1, s2, s3, s4, s5, s6⟩ := td_fl (a := a.toInt.tdiv 2) (b := 3) (by decide)
    rw [g1, g3, k1, k3]
    omega
theorem zWB_h {o m : Nat} {M : Nat → Int64} (hM : ∀ p, p < 8 → -3200000000 ≤ (M p).toInt ∧ (M p).toInt ≤ 3200000000) (hm : 1 ≤ m ∧ m ≤ 3) : zWB o M (2 * (nI m).toInt64) ↔ zEven M ∧ zWB o (zHalf M) (nI m).toInt64 := by
  have k := fun p hp => dvh (a := M p) ⟨by have := (hM p hp).1; omega, by have := (hM p hp).2; omega⟩ hm
  have e : zSet (fun j => pL (M j / (2 * (nI m).toInt64))) 8 = zSet (fun j => pL (zHalf M j / (nI m).toInt64)) 8 := zSet_cong (fun j hj => by rw [(k j hj).2]; rfl)
  unfold zWB zEven
  rw [e]
  constructor
  · rintro ⟨a, b⟩
    exact ⟨fun j hj => ((k j hj).1.mp (a j hj)).1, fun j hj => ((k j hj).1.mp (a j hj)).2, b⟩
  · rintro ⟨a, b, c⟩
    exact ⟨fun j hj => (k j hj).1.mpr ⟨a j hj, b j hj⟩, c⟩
section MOD
variable {G : xG} {l : Launch} {d : Nat} {h : xH} {Q : Option Value → xH → Prop} {S : St}
theorem m_isDivisor {x y m o right : Nat} (hd : 4 ≤ d) (hC : Cs h) (ho : mRul h o) (ho8 : o < 8) (hB : mB h) (hx : x < 155) (hy : y < 155) (hm : 1 ≤ m ∧ m ≤ 3) (hr : right < 2)
    (Kt : zDv o (pl h y) m (pl h x) right → ∀ h2, mV [] [113] h h2 → Q (some (.int (nI 1))) h2) (Kf : ¬ zDv o (pl h y) m (pl h x) right → ∀ h2, mV [] [113] h h2 → Q (some (.int (nI 0))) h2) : xCt G l mX12_isDivisor d [.ref 110, .int (nI x), .int (nI y), .int (nI m), .int (nI right)] h 0 0 Q := by
  refine xCt_of (by decide) (Nat.le_of_ble_eq_true rfl) ?_
  have hn : ¬ (nI m).toInt64 = 0 := by
    rcases (show m = 1 ∨ m = 2 ∨ m = 3 by omega) with rfl | rfl | rfl <;> decide
  obtain ⟨M, hM⟩ : ∃ M, M = (if right = 0 then zM4 (zMir (pl h y)) (pl h x) else zM4 (pl h x) (zMir (pl h y))) := ⟨_, rfl⟩
  have bM : ∀ p, p < 8 → -3200000000 ≤ (M p).toInt ∧ (M p).toInt ≤ 3200000000 := by
    intro p hp
    rw [hM]
    split
    · exact zM4_bd (zBd_mir (hB y hy)) (hB x hx) hp
    · exact zM4_bd (hB x hx) (zBd_mir (hB y hy)) hp
  have ez : zDv o (pl h y) m (pl h x) right ↔ zEven M ∧ zWB o (zHalf M) (nI m).toInt64 := by
    unfold zDv
    rw [← hM]
    exact zWB_h bM hm
  rw [ez] at Kt Kf
  have go1 : zEven M → ∀ h2 w, mV [] [113] h h2 → h2.1 113 = (1, 8, xJ w) → (∀ p, p < 8 → w p = zHalf M p) → xWP G l mX12_isDivisor d (zM G Q) 0 0 24 (xls [(0, .ref 110), (3, .int (nI m))]) [.int (nI 1)] h2 := by
    intro z1 h2 w hv hw ew
    have hC := hv.1
    have ho2 : mRul h2 o := by unfold mRul; rw [hv.2.1.2 110 (by simp)]; exact ho
    refine x_istore dX12_isDivisor_24 rfl (by decide) ?_
    refine x_iload dX12_isDivisor_26 rfl rfl ?_
    refine x_if_eq_f (tgt := 44) dX12_isDivisor_28 rfl rfl nb1 ?_
    refine x_aload_n (i := 0) dX12_isDivisor_31 rfl rfl rfl ?_
    refine x_iload_n (i := 3) dX12_isDivisor_32 rfl rfl rfl ?_
    refine x_i2l dX12_isDivisor_33 rfl ?_
    refine x_callV0 (ci := 12) (b := 110) (As := [_]) (d2 := d - 1) dX12_isDivisor_34 rfl kX12_340 okX12_isWholeBy (hC.o rfl) (fun q hq => by cases hq; rfl) (by omega) rfl rfl (Nat.le_of_ble_eq_true rfl) (m_isWholeBy (by omega) hC ho2 ho8 hw hn (fun z => ?_) (fun z => ?_))
    · refine x_if_eq_f (tgt := 44) dX12_isDivisor_37 rfl rfl nb1 ?_
      refine x_iconst dX12_isDivisor_40 rfl iC_1 ?_
      refine x_goto (tgt := 45) dX12_isDivisor_41 rfl ?_
      refine x_ireturn dX12_isDivisor_45 rfl rfl ?_
      exact Kt ⟨z1, (zWB_e ew).mp z⟩ h2 hv
    · refine x_if_eq_t (tgt := 44) dX12_isDivisor_37 rfl nI_0 ?_
      refine x_iconst dX12_isDivisor_44 rfl iC_0 ?_
      refine x_ireturn dX12_isDivisor_45 rfl rfl ?_
      exact Kf (fun q => z ((zWB_e ew).mpr q.2)) h2 hv
  have go0 : ¬ zEven M → ∀ h2, mV [] [113] h h2 → xWP G l mX12_isDivisor d (zM G Q) 0 0 24 (xls [(0, .ref 110), (3, .int (nI m))]) [.int (nI 0)] h2 := by
    intro z1 h2 hv
    refine x_istore dX12_isDivisor_24 rfl (by decide) ?_
    refine x_iload dX12_isDivisor_26 rfl rfl ?_
    refine x_if_eq_t (tgt := 44) dX12_isDivisor_28 rfl nI_0 ?_
    refine x_iconst dX12_isDivisor_44 rfl iC_0 ?_
    refine x_ireturn dX12_isDivisor_45 rfl rfl ?_
    exact Kf (fun q => z1 q.1) h2 hv
  refine x_iload dX12_isDivisor_0 rfl rfl ?_
  refine x_if_eq (tgt := 16) dX12_isDivisor_2 rfl rfl (fun c2 => ?_) (fun c2 => ?_)
  · have r0 : right = 0 := (nI_eq (by omega) (by omega)).mp (c2.trans nI_0.symm)
    have eM : zM4 (zFm 1 (pl h y)) (zFm 0 (pl h x)) = M := by rw [hM, if_pos r0, zFm_0]; rfl
    refine x_aload_n (i := 0) dX12_isDivisor_16 rfl rfl rfl ?_
    refine x_iload_n (i := 2) dX12_isDivisor_17 rfl rfl rfl ?_
    refine x_iload_n (i := 1) dX12_isDivisor_18 rfl rfl rfl ?_
    refine x_iconst dX12_isDivisor_19 rfl iC_1 ?_
    refine x_iconst dX12_isDivisor_20 rfl iC_0 ?_
    refine x_callV0 (ci := 12) (b := 110) (As := [_, _, _, _]) (d2 := d - 1) dX12_isDivisor_21 rfl kX12_105 okX12_isProduct (hC.o rfl) (fun q hq => by cases hq; rfl) (by omega) rfl rfl (Nat.le_of_ble_eq_true rfl) (m_isProduct (mx := 1) (my := 0) hC hy hx (by decide) (by decide) (hB y hy) (hB x hx) (fun z h2 w hv hw ew => ?_) (fun z h2 hv => ?_))
    · rw [eM] at z ew
      exact x_to (go1 z h2 w hv hw ew) ⟨rfl, rfl, trivial⟩
    · rw [eM] at z
      exact x_to (go0 z h2 hv) ⟨rfl, rfl, trivial⟩
  · have r0 : ¬ right = 0 := fun e => c2 (by rw [e]; exact nI_0)
    have eM : zM4 (zFm 0 (pl h x)) (zFm 1 (pl h y)) = M := by rw [hM, if_neg r0, zFm_0]; rfl
    refine x_aload_n (i := 0) dX12_isDivisor_5 rfl rfl rfl ?_
    refine x_iload_n (i := 1) dX12_isDivisor_6 rfl rfl rfl ?_
    refine x_iload_n (i := 2) dX12_isDivisor_7 rfl rfl rfl ?_
    refine x_iconst dX12_isDivisor_8 rfl iC_0 ?_
    refine x_iconst dX12_isDivisor_9 rfl iC_1 ?_
    refine x_callV0 (ci := 12) (b := 110) (As := [_, _, _, _]) (d2 := d - 1) dX12_isDivisor_10 rfl kX12_105 okX12_isProduct (hC.o rfl) (fun q hq => by cases hq; rfl) (by omega) rfl rfl (Nat.le_of_ble_eq_true rfl) (m_isProduct (mx := 0) (my := 1) hC hx hy (by decide) (by decide) (hB x hx) (hB y hy) (fun z h2 w hv hw ew => ?_) (fun z h2 hv => ?_))
    · rw [eM] at z ew
      refine x_goto (tgt := 24) dX12_isDivisor_13 rfl ?_
      exact x_to (go1 z h2 w hv hw ew) ⟨rfl, rfl, trivial⟩
    · rw [eM] at z
      refine x_goto (tgt := 24) dX12_isDivisor_13 rfl ?_
      exact x_to (go0 z h2 hv) ⟨rfl, rfl, trivial⟩
theorem m_divisorsOf {x norm right : Nat} {k : Int32} (hd : 8 ≤ d) (hR : RM h S) (hx : x < 8) (hnm : 1 ≤ norm ∧ norm ≤ 3) (hr : right < 2)
    (K : ∀ h2, RM h2 S → cF h h2 → Q (some (.int (if k = -1 then nI (cN (fun k => zDv S.2.1 (zEl S.2.1 norm k) norm (S.1 x) right) (zLst S.2.1 norm).1) else zKth (fun k => zDv S.2.1 (zEl S.2.1 norm k) norm (S.1 x) right) k (zLst S.2.1 norm).1 0))) h2) : xCt G l mX12_divisorsOf d [.ref 110, .int (nI x), .int (nI norm), .int (nI right), .int k] h 0 0 Q := by
  have hC := hR.1
  have hn : norm < 4 := by omega
  obtain ⟨z1, z2, z3⟩ := zLst_1 hR.2.1.1 hn
  refine xCt_of (by decide) (Nat.le_of_ble_eq_true rfl) ?_
  refine x_aload_n (i := 0) dX12_divisorsOf_0 rfl rfl rfl ?_
  refine x_iload_n (i := 2) dX12_divisorsOf_1 rfl rfl rfl ?_
  refine x_callV0 (ci := 12) (b := 110) (As := [_]) (d2 := d - 1) dX12_divisorsOf_2 rfl kX12_158 okX12_listSize (hC.o rfl) (fun q hq => by cases hq; rfl) (by omega) rfl rfl (Nat.le_of_ble_eq_true rfl) (m_listSize (by omega) hR hn (fun h2 r2 c2 s2 e6 e4 => ?_))
  have hC := r2.1
  obtain ⟨p, hp⟩ : ∃ p : Nat → Prop, p = fun k => zDv S.2.1 (zEl S.2.1 norm k) norm (S.1 x) right := ⟨_, rfl⟩
  rw [← hp] at K
  generalize hN : (zLst S.2.1 norm).1 = N at *
  have cb : ∀ i, i ≤ N → ¬ nI (cN p i) = -1 := by
    intro i hi z
    have := congrArg Int32.toInt z
    have b := cN_le p i
    rw [nI_toInt (by omega)] at this
    have e1 : (-1 : Int32).toInt = -1 := by decide
    omega
  refine x_istore dX12_divisorsOf_5 rfl (by decide) ?_
  refine x_iconst dX12_divisorsOf_7 rfl iC_0 ?_
  refine x_istore dX12_divisorsOf_8 rfl (by decide) ?_
  refine x_iconst dX12_divisorsOf_10 rfl iC_0 ?_
  refine x_istore dX12_divisorsOf_11 rfl (by decide) ?_
  have key := xloop (P := fun i => ∀ h1, mV [9] [113] h2 h1 → zKth p k N 0 = zKth p k (N - i) i → xWP G l mX12_divisorsOf d (zM G Q) 0 0 13 (xls [(0, .ref 110), (1, .int (nI x)), (2, .int (nI norm)), (3, .int (nI right)), (4, .int k), (5, .int (nI N)), (6, .int (nI (cN p i))), (7, .int (nI i))]) [] h1) N (by
    intro i hi ih h1 m1 ek
    have hC := m1.1
    refine x_iload dX12_divisorsOf_13 rfl rfl ?_
    refine x_iload dX12_divisorsOf_15 rfl rfl ?_
    refine x_jc_ge (tgt := 63) dX12_divisorsOf_17 rfl rfl (by omega) (by omega) (fun c17 => ?_) (fun c17 => ?_)
    · obtain rfl : i = N := by omega
      have fin := K h1 (r2.sc m1 (by simp) (by simp [mN])) (c2.tr (m1.c (by simp)))
      refine x_iload dX12_divisorsOf_63 rfl rfl ?_
      refine x_iconst dX12_divisorsOf_65 rfl iC_m1 ?_
      refine x_ic_ne (tgt := 74) dX12_divisorsOf_66 rfl rfl (fun c66 => ?_) (fun c66 => ?_)
      · rw [if_neg c66, ek, Nat.sub_self] at fin
        refine x_bipush dX12_divisorsOf_74 rfl bC_m2 ?_
        refine x_ireturn dX12_divisorsOf_76 rfl rfl ?_
        exact fin
      · have c66' : k = -1 := by
          first
          | exact c66
          | exact Classical.byContradiction (fun z => c66 z)
        rw [if_pos c66'] at fin
        refine x_iload dX12_divisorsOf_69 rfl rfl ?_
        refine x_goto (tgt := 76) dX12_divisorsOf_71 rfl ?_
        refine x_ireturn dX12_divisorsOf_76 rfl rfl ?_
        exact fin
    · have hi2 : i < N := by omega
      have i4 : iv h1 114 = iv h2 114 := m1.2.1.iv (by decide)
      have es : zKth p k (N - i) i = zKth p k (N - (i + 1) + 1) i := by congr 1; omega
      refine x_aload_n (i := 0) dX12_divisorsOf_20 rfl rfl rfl ?_
      refine x_bipush dX12_divisorsOf_21 rfl bC_9 ?_
      refine x_iload_n (i := 2) dX12_divisorsOf_23 rfl rfl rfl ?_
      refine x_iload dX12_divisorsOf_24 rfl rfl ?_
      refine x_callV0 (ci := 12) (b := 110) (As := [_, _, _]) (d2 := d - 1) dX12_divisorsOf_26 rfl kX12_178 okX12_brings (hC.o rfl) (fun q hq => by cases hq; rfl) (by omega) rfl rfl (Nat.le_of_ble_eq_true rfl) (m_brings (t := 9) (by omega) hC (by decide) hn (by omega) (zBd_up _) (fun q hq => by rw [i4]; exact e4 i hi2 q hq) (fun h3 k3 e3 => ?_))
      have hC := k3.1
      have e3 : pl h3 9 = c8 (zEl S.2.1 norm i) := e3
      have m3 := (m1.tr k3).sub (P2 := [9]) (C2 := [113]) (by simp) (by simp)
      have r3 : RM h3 S := r2.sc m3 (by simp) (by simp [mN])
      have ex : pl h3 x = S.1 x := r3.p hx
      have ee : zDv S.2.1 (pl h3 9) norm (pl h3 x) right ↔ p i := by
        rw [hp, ex, e3]
        have : c8 (zMir (c8 (zEl S.2.1 norm i))) = c8 (zMir (zEl S.2.1 norm i)) := zMir_c _
        unfold zDv
        rw [zM4_e this rfl, zM4_e (g := zMir (c8 (zEl S.2.1 norm i))) rfl this]
      refine x_aload_n (i := 0) dX12_divisorsOf_29 rfl rfl rfl ?_
      refine x_iload_n (i := 1) dX12_divisorsOf_30 rfl rfl rfl ?_
      refine x_bipush dX12_divisorsOf_31 rfl bC_9 ?_
      refine x_iload_n (i := 2) dX12_divisorsOf_33 rfl rfl rfl ?_
      refine x_iload_n (i := 3) dX12_divisorsOf_34 rfl rfl rfl ?_
      refine x_callV0 (ci := 12) (b := 110) (As := [_, _, _, _]) (d2 := d - 1) dX12_divisorsOf_35 rfl kX12_344 okX12_isDivisor (hC.o rfl) (fun q hq => by cases hq; rfl) (by omega) rfl rfl (Nat.le_of_ble_eq_true rfl) (m_isDivisor (y := 9) (by omega) hC r3.2.1.2 r3.2.1.1 r3.b (by omega) (by decide) hnm hr (fun z h4 k4 => ?_) (fun z h4 k4 => ?_))
      · have hC := k4.1
        have pi := ee.mp z
        have m4 := (m3.tr k4).sub (P2 := [9]) (C2 := [113]) (by simp) (by simp)
        have en : zKth p k (N - (i + 1) + 1) i = if nI (cN p i) = k then nI i else zKth p k (N - (i + 1)) (i + 1) := if_pos pi
        refine x_if_ne_t (tgt := 44) dX12_divisorsOf_38 rfl nb1 ?_
        refine x_iload dX12_divisorsOf_44 rfl rfl ?_
        refine x_iload dX12_divisorsOf_46 rfl rfl ?_
        refine x_ic_ne (tgt := 54) dX12_divisorsOf_48 rfl rfl (fun c48 => ?_) (fun c48 => ?_)
        · refine x_iinc dX12_divisorsOf_54 rfl rfl (inc1 _) ?_
          refine x_iinc dX12_divisorsOf_57 rfl rfl (inc1 _) ?_
          refine x_goto (tgt := 13) dX12_divisorsOf_60 rfl ?_
          exact x_to (ih hi2 h4 m4 (by rw [ek, es, en, if_neg c48])) ⟨rfl, rfl, rfl, rfl, rfl, rfl, by rw [cN_t (n := i) pi]; rfl, rfl, trivial⟩
        · have c48' : nI (cN p i) = k := by
            first
            | exact c48
            | exact Classical.byContradiction (fun z => c48 z)
          have fin := K h4 (r2.sc m4 (by simp) (by simp [mN])) (c2.tr (m4.c (by simp)))
          rw [if_neg (fun z => cb i (by omega) (by rw [c48', z])), ek, es, en, if_pos c48'] at fin
          refine x_iload dX12_divisorsOf_51 rfl rfl ?_
          refine x_ireturn dX12_divisorsOf_53 rfl rfl ?_
          exact fin
      · have hC := k4.1
        have pi : ¬ p i := fun y => z (ee.mpr y)
        have m4 := (m3.tr k4).sub (P2 := [9]) (C2 := [113]) (by simp) (by simp)
        have en : zKth p k (N - (i + 1) + 1) i = zKth p k (N - (i + 1)) (i + 1) := if_neg pi
        refine x_if_ne_f (tgt := 44) dX12_divisorsOf_38 rfl rfl nI_0 ?_
        refine x_goto (tgt := 57) dX12_divisorsOf_41 rfl ?_
        refine x_iinc dX12_divisorsOf_57 rfl rfl (inc1 _) ?_
        refine x_goto (tgt := 13) dX12_divisorsOf_60 rfl ?_
        exact x_to (ih hi2 h4 m4 (by rw [ek, es, en])) ⟨rfl, rfl, rfl, rfl, rfl, rfl, by rw [cN_f (n := i) pi]; rfl, rfl, trivial⟩) 0 (Nat.zero_le _) h2 ((mV.rf hC).sub (P := []) (C := []) (by simp) (by simp)) rfl
  exact x_to key ⟨rfl, rfl, rfl, rfl, rfl, rfl, rfl, rfl, trivial⟩
theorem n_divisors {a n : Int32} {right : Nat} (hr : right < 2) (hd : 10 ≤ d) (hR : RM h S) (K : ∀ r S2 h2, sp_divisors S a n right = (r, S2) → RM h2 S2 → cF h h2 → Q (some (.int r)) h2) : xCt G l mX12_divisors d [.ref 110, .int a, .int n, .int (nI right)] h 0 0 Q := by
  have hC := hR.1
  refine xCt_of (by decide) (Nat.le_of_ble_eq_true rfl) ?_
  refine x_iload_n (i := 1) dX12_divisors_0 rfl rfl rfl ?_
  refine x_callS0 (As := [_]) (d2 := d - 1) dX12_divisors_1 rfl kX12_165 okX12_isSlot (by omega) rfl rfl (Nat.le_of_ble_eq_true rfl) (m_isSlot (by omega) (fun z => ?_) (fun x hx ex qx => ?_))
  · refine x_if_eq_t (tgt := 30) dX12_divisors_4 rfl nI_0 ?_
    refine x_iconst dX12_divisors_30 rfl iC_m1 ?_
    refine x_ireturn dX12_divisors_31 rfl rfl ?_
    exact K _ _ _ (by simp only [sp_divisors, z]) hR (cF.rf hC)
  subst ex
  refine x_if_eq_f (tgt := 30) dX12_divisors_4 rfl rfl nb1 ?_
  refine x_iload_n (i := 2) dX12_divisors_7 rfl rfl rfl ?_
  refine x_i2l dX12_divisors_8 rfl ?_
  refine x_lconst dX12_divisors_9 rfl lC_1 ?_
  refine x_ldc2 dX12_divisors_10 rfl cX12_150 ?_
  refine x_callS0 (As := [_, _, _]) (d2 := d - 1) dX12_divisors_13 rfl kX12_95 okX12_in (by omega) rfl rfl (Nat.le_of_ble_eq_true rfl) (m_in (lo := 1) (hi := 3) (by decide) (by decide) (by decide) (fun z => ?_) (fun w w1 w2 ew qw => ?_))
  · refine x_if_eq_t (tgt := 30) dX12_divisors_16 rfl nI_0 ?_
    refine x_iconst dX12_divisors_30 rfl iC_m1 ?_
    refine x_ireturn dX12_divisors_31 rfl rfl ?_
    exact K _ _ _ (by simp only [sp_divisors, qx, z]) hR (cF.rf hC)
  subst ew
  refine x_if_eq_f (tgt := 30) dX12_divisors_16 rfl rfl nb1 ?_
  refine x_aload_n (i := 0) dX12_divisors_19 rfl rfl rfl ?_
  refine x_iload_n (i := 1) dX12_divisors_20 rfl rfl rfl ?_
  refine x_iload_n (i := 2) dX12_divisors_21 rfl rfl rfl ?_
  refine x_iload_n (i := 3) dX12_divisors_22 rfl rfl rfl ?_
  refine x_iconst dX12_divisors_23 rfl iC_m1 ?_
  refine x_callV0 (ci := 12) (b := 110) (As := [_, _, _, _]) (d2 := d - 1) dX12_divisors_24 rfl kX12_348 okX12_divisorsOf (hC.o rfl) (fun q hq => by cases hq; rfl) (by omega) rfl rfl (Nat.le_of_ble_eq_true rfl) (m_divisorsOf (by omega) hR hx ⟨w1, w2⟩ hr (fun h2 r2 c2 => ?_))
  refine x_goto (tgt := 31) dX12_divisors_27 rfl ?_
  refine x_ireturn dX12_divisors_31 rfl rfl ?_
  exact K _ _ _ (by simp only [sp_divisors, qx, qw]; rfl) r2 c2
theorem n_divisor {a n k : Int32} {right : Nat} (hr : right < 2) (hd : 10 ≤ d) (hR : RM h S) (K : ∀ r S2 h2, sp_divisor S a n right k = (r, S2) → RM h2 S2 → cF h h2 → Q (some (.int r)) h2) : xCt G l mX12_divisor d [.ref 110, .int a, .int n, .int (nI right), .int k] h 0 0 Q := by
  have hC := hR.1
  refine xCt_of (by decide) (Nat.le_of_ble_eq_true rfl) ?_
  refine x_iload_n (i := 1) dX12_divisor_0 rfl rfl rfl ?_
  refine x_callS0 (As := [_]) (d2 := d - 1) dX12_divisor_1 rfl kX12_165 okX12_isSlot (by omega) rfl rfl (Nat.le_of_ble_eq_true rfl) (m_isSlot (by omega) (fun z => ?_) (fun x hx ex qx => ?_))
  · refine x_if_eq_t (tgt := 36) dX12_divisor_4 rfl nI_0 ?_
    refine x_iconst dX12_divisor_36 rfl iC_m1 ?_
    refine x_ireturn dX12_divisor_37 rfl rfl ?_
    exact K _ _ _ (by simp only [sp_divisor, z]) hR (cF.rf hC)
  subst ex
  refine x_if_eq_f (tgt := 36) dX12_divisor_4 rfl rfl nb1 ?_
  refine x_iload_n (i := 2) dX12_divisor_7 rfl rfl rfl ?_
  refine x_i2l dX12_divisor_8 rfl ?_
  refine x_lconst dX12_divisor_9 rfl lC_1 ?_
  refine x_ldc2 dX12_divisor_10 rfl cX12_150 ?_
  refine x_callS0 (As := [_, _, _]) (d2 := d - 1) dX12_divisor_13 rfl kX12_95 okX12_in (by omega) rfl rfl (Nat.le_of_ble_eq_true rfl) (m_in (lo := 1) (hi := 3) (by decide) (by decide) (by decide) (fun z => ?_) (fun w w1 w2 ew qw => ?_))
  · refine x_if_eq_t (tgt := 36) dX12_divisor_16 rfl nI_0 ?_
    refine x_iconst dX12_divisor_36 rfl iC_m1 ?_
    refine x_ireturn dX12_divisor_37 rfl rfl ?_
    exact K _ _ _ (by simp only [sp_divisor, qx, z]) hR (cF.rf hC)
  subst ew
  refine x_if_eq_f (tgt := 36) dX12_divisor_16 rfl rfl nb1 ?_
  refine x_iload dX12_divisor_19 rfl rfl ?_
  refine x_if_lt (tgt := 36) dX12_divisor_21 rfl rfl (fun c21 => ?_) (fun c21 => ?_)
  · refine x_iconst dX12_divisor_36 rfl iC_m1 ?_
    refine x_ireturn dX12_divisor_37 rfl rfl ?_
    exact K _ _ _ (by simp only [sp_divisor, qx, qw]; exact if_neg (Int32.not_le.mpr c21)) hR (cF.rf hC)
  have kp : (0 : Int32) ≤ k := Int32.not_lt.mp c21
  have k1 : ¬ k = -1 := fun z => by rw [z] at kp; exact absurd kp (by decide)
  refine x_aload_n (i := 0) dX12_divisor_24 rfl rfl rfl ?_
  refine x_iload_n (i := 1) dX12_divisor_25 rfl rfl rfl ?_
  refine x_iload_n (i := 2) dX12_divisor_26 rfl rfl rfl ?_
  refine x_iload_n (i := 3) dX12_divisor_27 rfl rfl rfl ?_
  refine x_iload dX12_divisor_28 rfl rfl ?_
  refine x_callV0 (ci := 12) (b := 110) (As := [_, _, _, _]) (d2 := d - 1) dX12_divisor_30 rfl kX12_348 okX12_divisorsOf (hC.o rfl) (fun q hq => by cases hq; rfl) (by omega) rfl rfl (Nat.le_of_ble_eq_true rfl) (m_divisorsOf (by omega) hR hx ⟨w1, w2⟩ hr (fun h2 r2 c2 => ?_))
  rw [if_neg k1]
  refine x_goto (tgt := 37) dX12_divisor_33 rfl ?_
  refine x_ireturn dX12_divisor_37 rfl rfl ?_
  exact K _ _ _ (by simp only [sp_divisor, qx, qw]; exact if_pos kp) r2 c2
theorem n_sides {a n : Int32} {right : Nat} (hr : right < 2) (hd : 10 ≤ d) (hR : RM h S) (K : ∀ r S2 h2, sp_sides S a n right = (r, S2) → RM h2 S2 → cF h h2 → Q (some (.int r)) h2) : xCt G l mX12_sides d [.ref 110, .int a, .int n, .int (nI right)] h 0 0 Q := by
  have hC := hR.1
  refine xCt_of (by decide) (Nat.le_of_ble_eq_true rfl) ?_
  refine x_iload_n (i := 1) dX12_sides_0 rfl rfl rfl ?_
  refine x_callS0 (As := [_]) (d2 := d - 1) dX12_sides_1 rfl kX12_165 okX12_isSlot (by omega) rfl rfl (Nat.le_of_ble_eq_true rfl) (m_isSlot (by omega) (fun z => ?_) (fun x hx ex qx => ?_))
  · refine x_if_eq_t (tgt := 14) dX12_sides_4 rfl nI_0 ?_
    refine x_iconst dX12_sides_14 rfl iC_m1 ?_
    refine x_ireturn dX12_sides_15 rfl rfl ?_
    exact K _ _ _ (by simp only [sp_sides, z]) hR (cF.rf hC)
  subst ex
  refine x_if_eq_f (tgt := 14) dX12_sides_4 rfl rfl nb1 ?_
  refine x_iload_n (i := 2) dX12_sides_7 rfl rfl rfl ?_
  refine x_callS0 (As := [_]) (d2 := d - 1) dX12_sides_8 rfl kX12_165 okX12_isSlot (by omega) rfl rfl (Nat.le_of_ble_eq_true rfl) (m_isSlot (by omega) (fun z => ?_) (fun y hy ey qy => ?_))
  · refine x_if_ne_f (tgt := 16) dX12_sides_11 rfl rfl nI_0 ?_
    refine x_iconst dX12_sides_14 rfl iC_m1 ?_
    refine x_ireturn dX12_sides_15 rfl rfl ?_
    exact K _ _ _ (by simp only [sp_sides, qx, z]) hR (cF.rf hC)
  subst ey
  obtain ⟨z1, z2, z3⟩ := zLst_1 hR.2.1.1 (norm := 1) (by decide)
  refine x_if_ne_t (tgt := 16) dX12_sides_11 rfl nb1 ?_
  refine x_aload_n (i := 0) dX12_sides_16 rfl rfl rfl ?_
  refine x_iconst dX12_sides_17 rfl iC_1 ?_
  refine x_callV0 (ci := 12) (b := 110) (As := [_]) (d2 := d - 1) dX12_sides_18 rfl kX12_158 okX12_listSize (hC.o rfl) (fun q hq => by cases hq; rfl) (by omega) rfl rfl (Nat.le_of_ble_eq_true rfl) (m_listSize (norm := 1) (by omega) hR (by decide) (fun h2 r2 c2 s2 e6 e4 => ?_))
  have hC := r2.1
  obtain ⟨p, hp⟩ : ∃ p : Nat → Prop, p = fun k => ∃ f, oTurn (S.1 x) (zEl S.2.1 1 k) right = some f ∧ zSame f (S.1 y) := ⟨_, rfl⟩
  have en : sp_sides S (nI x) (nI y) right = (nI (cN p (zLst S.2.1 1).1), S) := by simp only [sp_sides, qx, qy, hp]
  generalize hN : (zLst S.2.1 1).1 = N at *
  refine x_istore dX12_sides_21 rfl (by decide) ?_
  refine x_iconst dX12_sides_23 rfl iC_0 ?_
  refine x_istore dX12_sides_24 rfl (by decide) ?_
  refine x_iconst dX12_sides_26 rfl iC_0 ?_
  refine x_istore dX12_sides_27 rfl (by decide) ?_
  have key := xloop (P := fun i => ∀ h1, mV [9, 10] [113] h2 h1 → xWP G l mX12_sides d (zM G Q) 0 0 29 (xls [(0, .ref 110), (1, .int (nI x)), (2, .int (nI y)), (3, .int (nI right)), (4, .int (nI N)), (5, .int (nI (cN p i))), (6, .int (nI i))]) [] h1) N (by
    intro i hi ih h1 m1
    have hC := m1.1
    refine x_iload dX12_sides_29 rfl rfl ?_
    refine x_iload dX12_sides_31 rfl rfl ?_
    refine x_jc_ge (tgt := 96) dX12_sides_33 rfl rfl (by omega) (by omega) (fun c33 => ?_) (fun c33 => ?_)
    · obtain rfl : i = N := by omega
      refine x_iload dX12_sides_96 rfl rfl ?_
      refine x_ireturn dX12_sides_98 rfl rfl ?_
      exact K _ _ _ en (r2.sc m1 (by simp) (by simp [mN])) (c2.tr (m1.c (by simp)))
    · have hi2 : i < N := by omega
      have i4 : iv h1 114 = iv h2 114 := m1.2.1.iv (by decide)
      refine x_aload_n (i := 0) dX12_sides_36 rfl rfl rfl ?_
      refine x_bipush dX12_sides_37 rfl bC_9 ?_
      refine x_iconst dX12_sides_39 rfl iC_1 ?_
      refine x_iload dX12_sides_40 rfl rfl ?_
      refine x_callV0 (ci := 12) (b := 110) (As := [_, _, _]) (d2 := d - 1) dX12_sides_42 rfl kX12_178 okX12_brings (hC.o rfl) (fun q hq => by cases hq; rfl) (by omega) rfl rfl (Nat.le_of_ble_eq_true rfl) (m_brings (t := 9) (norm := 1) (by omega) hC (by decide) (by decide) (by omega) (zBd_up _) (fun q hq => by rw [i4]; exact e4 i hi2 q hq) (fun h3 k3 e3 => ?_))
      have hC := k3.1
      have e3 : pl h3 9 = c8 (zEl S.2.1 1 i) := e3
      have m3 := (m1.tr k3).sub (P2 := [9, 10]) (C2 := [113]) (by simp) (by simp)
      have r3 : RM h3 S := r2.sc m3 (by simp) (by simp [mN])
      have ex : pl h3 x = c8 (S.1 x) := by rw [r3.p hx, r3.cc hx]
      have go1 : ∀ f, oTurn (S.1 x) (zEl S.2.1 1 i) right = some f → ∀ h4, mV [10] [113] h3 h4 → pl h4 10 = c8 f → xWP G l mX12_sides d (zM G Q) 0 0 70 (xls [(0, .ref 110), (1, .int (nI x)), (2, .int (nI y)), (3, .int (nI right)), (4, .int (nI N)), (5, .int (nI (cN p i))), (6, .int (nI i))]) [.int (nI 1)] h4 := by
        intro f ef h4 k4 e5
        have hC := k4.1
        have m4 := (m3.tr k4).sub (P2 := [9, 10]) (C2 := [113]) (by simp) (by simp)
        have r4 : RM h4 S := r2.sc m4 (by simp) (by simp [mN])
        refine x_istore dX12_sides_70 rfl (by decide) ?_
        refine x_iload dX12_sides_72 rfl rfl ?_
        refine x_if_eq_f (tgt := 90) dX12_sides_74 rfl rfl nb1 ?_
        refine x_aload_n (i := 0) dX12_sides_77 rfl rfl rfl ?_
        refine x_bipush dX12_sides_78 rfl bC_10 ?_
        refine x_iload_n (i := 2) dX12_sides_80 rfl rfl rfl ?_
        refine x_callV0 (ci := 12) (b := 110) (As := [_, _]) (d2 := d - 1) dX12_sides_81 rfl kX12_280 okX12_areSame (hC.o rfl) (fun q hq => by cases hq; rfl) (by omega) rfl rfl (Nat.le_of_ble_eq_true rfl) (m_sameE (x := 10) (y := y) hC (by decide) (by omega) e5 (by rw [r4.p hy, r4.cc hy]) (fun z => ?_) (fun z => ?_))
        · have pi : p i := by rw [hp]; exact ⟨f, ef, z⟩
          refine x_if_eq_f (tgt := 90) dX12_sides_84 rfl rfl nb1 ?_
          refine x_iinc dX12_sides_87 rfl rfl (inc1 _) ?_
          refine x_iinc dX12_sides_90 rfl rfl (inc1 _) ?_
          refine x_goto (tgt := 29) dX12_sides_93 rfl ?_
          exact x_to (ih hi2 h4 m4) ⟨rfl, rfl, rfl, rfl, rfl, by rw [cN_t (n := i) pi]; rfl, rfl, trivial⟩
        · have pi : ¬ p i := by
            rw [hp]
            rintro ⟨f2, q1, q2⟩
            rw [ef] at q1
            cases q1
            exact z q2
          refine x_if_eq_t (tgt := 90) dX12_sides_84 rfl nI_0 ?_
          refine x_iinc dX12_sides_90 rfl rfl (inc1 _) ?_
          refine x_goto (tgt := 29) dX12_sides_93 rfl ?_
          exact x_to (ih hi2 h4 m4) ⟨rfl, rfl, rfl, rfl, rfl, by rw [cN_f (n := i) pi]; rfl, rfl, trivial⟩
      have go0 : oTurn (S.1 x) (zEl S.2.1 1 i) right = none → ∀ h4, mV [] [113] h3 h4 → xWP G l mX12_sides d (zM G Q) 0 0 70 (xls [(0, .ref 110), (1, .int (nI x)), (2, .int (nI y)), (3, .int (nI right)), (4, .int (nI N)), (5, .int (nI (cN p i))), (6, .int (nI i))]) [.int (nI 0)] h4 := by
        intro ef h4 k4
        have hC := k4.1
        have m4 := (m3.tr k4).sub (P2 := [9, 10]) (C2 := [113]) (by simp) (by simp)
        have pi : ¬ p i := by
          rw [hp]
          rintro ⟨f2, q1, q2⟩
          rw [ef] at q1
          cases q1
        refine x_istore dX12_sides_70 rfl (by decide) ?_
        refine x_iload dX12_sides_72 rfl rfl ?_
        refine x_if_eq_t (tgt := 90) dX12_sides_74 rfl nI_0 ?_
        refine x_iinc dX12_sides_90 rfl rfl (inc1 _) ?_
        refine x_goto (tgt := 29) dX12_sides_93 rfl ?_
        exact x_to (ih hi2 h4 m4) ⟨rfl, rfl, rfl, rfl, rfl, by rw [cN_f (n := i) pi]; rfl, rfl, trivial⟩
      refine x_iload_n (i := 3) dX12_sides_45 rfl rfl rfl ?_
      refine x_if_eq (tgt := 61) dX12_sides_46 rfl rfl (fun c46 => ?_) (fun c46 => ?_)
      · have r0 : right = 0 := (nI_eq (by omega) (by omega)).mp (c46.trans nI_0.symm)
        subst r0
        refine x_aload_n (i := 0) dX12_sides_61 rfl rfl rfl ?_
        refine x_bipush dX12_sides_62 rfl bC_10 ?_
        refine x_bipush dX12_sides_64 rfl bC_9 ?_
        refine x_iload_n (i := 1) dX12_sides_66 rfl rfl rfl ?_
        refine x_callV0 (ci := 12) (b := 110) (As := [_, _, _]) (d2 := d - 1) dX12_sides_67 rfl kX12_197 okX12_multiplies (hC.o rfl) (fun q hq => by cases hq; rfl) (by omega) rfl rfl (Nat.le_of_ble_eq_true rfl) (m_mulE (t := 10) (x := 9) (by omega) hC r3.b (by decide) (by decide) (by omega) e3 ex (fun f g1 h4 k4 e5 => ?_) (fun g1 h4 k4 => ?_))
        · exact x_to (go1 f g1 h4 k4 e5) ⟨rfl, rfl, rfl, rfl, rfl, rfl, rfl, trivial⟩
        · exact x_to (go0 g1 h4 k4) ⟨rfl, rfl, rfl, rfl, rfl, rfl, rfl, trivial⟩
      · have r0 : right = 1 := by
          have : ¬ right = 0 := fun e => c46 (by rw [e]; exact nI_0)
          omega
        subst r0
        refine x_aload_n (i := 0) dX12_sides_49 rfl rfl rfl ?_
        refine x_bipush dX12_sides_50 rfl bC_10 ?_
        refine x_iload_n (i := 1) dX12_sides_52 rfl rfl rfl ?_
        refine x_bipush dX12_sides_53 rfl bC_9 ?_
        refine x_callV0 (ci := 12) (b := 110) (As := [_, _, _]) (d2 := d - 1) dX12_sides_55 rfl kX12_197 okX12_multiplies (hC.o rfl) (fun q hq => by cases hq; rfl) (by omega) rfl rfl (Nat.le_of_ble_eq_true rfl) (m_mulE (t := 10) (y := 9) (by omega) hC r3.b (by decide) (by omega) (by decide) ex e3 (fun f g1 h4 k4 e5 => ?_) (fun g1 h4 k4 => ?_))
        · refine x_goto (tgt := 70) dX12_sides_58 rfl ?_
          exact x_to (go1 f g1 h4 k4 e5) ⟨rfl, rfl, rfl, rfl, rfl, rfl, rfl, trivial⟩
        · refine x_goto (tgt := 70) dX12_sides_58 rfl ?_
          exact x_to (go0 g1 h4 k4) ⟨rfl, rfl, rfl, rfl, rfl, rfl, rfl, trivial⟩) 0 (Nat.zero_le _) h2 ((mV.rf hC).sub (P := []) (C := []) (by simp) (by simp))
  exact x_to key ⟨rfl, rfl, rfl, rfl, rfl, rfl, rfl, trivial⟩
theorem n_nucleus {a n : Int32} (hd : 10 ≤ d) (hR : RM h S) (K : ∀ r S2 h2, sp_nucleus S a n = (r, S2) → RM h2 S2 → cF h h2 → Q (some (.int r)) h2) : xCt G l mX12_nucleus d [.ref 110, .int a, .int n] h 0 0 Q := by
  have hC := hR.1
  refine xCt_of (by decide) (Nat.le_of_ble_eq_true rfl) ?_
  refine x_iload_n (i := 1) dX12_nucleus_0 rfl rfl rfl ?_
  refine x_callS0 (As := [_]) (d2 := d - 1) dX12_nucleus_1 rfl kX12_165 okX12_isSlot (by omega) rfl rfl (Nat.le_of_ble_eq_true rfl) (m_isSlot (by omega) (fun z => ?_) (fun x hx ex qx => ?_))
  · refine x_if_eq_t (tgt := 14) dX12_nucleus_4 rfl nI_0 ?_
    refine x_iconst dX12_nucleus_14 rfl iC_m1 ?_
    refine x_ireturn dX12_nucleus_15 rfl rfl ?_
    exact K _ _ _ (by simp only [sp_nucleus, z]) hR (cF.rf hC)
  subst ex
  refine x_if_eq_f (tgt := 14) dX12_nucleus_4 rfl rfl nb1 ?_
  refine x_iload_n (i := 2) dX12_nucleus_7 rfl rfl rfl ?_
  refine x_callS0 (As := [_]) (d2 := d - 1) dX12_nucleus_8 rfl kX12_165 okX12_isSlot (by omega) rfl rfl (Nat.le_of_ble_eq_true rfl) (m_isSlot (by omega) (fun z => ?_) (fun y hy ey qy => ?_))
  · refine x_if_ne_f (tgt := 16) dX12_nucleus_11 rfl rfl nI_0 ?_
    refine x_iconst dX12_nucleus_14 rfl iC_m1 ?_
    refine x_ireturn dX12_nucleus_15 rfl rfl ?_
    exact K _ _ _ (by simp only [sp_nucleus, qx, z]) hR (cF.rf hC)
  subst ey
  obtain ⟨z1, z2, z3⟩ := zLst_1 hR.2.1.1 (norm := 1) (by decide)
  refine x_if_ne_t (tgt := 16) dX12_nucleus_11 rfl nb1 ?_
  refine x_aload_n (i := 0) dX12_nucleus_16 rfl rfl rfl ?_
  refine x_iconst dX12_nucleus_17 rfl iC_1 ?_
  refine x_callV0 (ci := 12) (b := 110) (As := [_]) (d2 := d - 1) dX12_nucleus_18 rfl kX12_158 okX12_listSize (hC.o rfl) (fun q hq => by cases hq; rfl) (by omega) rfl rfl (Nat.le_of_ble_eq_true rfl) (m_listSize (norm := 1) (by omega) hR (by decide) (fun h2 r2 c2 s2 e6 e4 => ?_))
  have hC := r2.1
  obtain ⟨p, hp⟩ : ∃ p : Nat → Prop, p = fun k => zAss (zEl S.2.1 1 k) (S.1 x) (S.1 y) := ⟨_, rfl⟩
  have en : sp_nucleus S (nI x) (nI y) = (nI (cN p (zLst S.2.1 1).1), S) := by simp only [sp_nucleus, qx, qy, hp]
  generalize hN : (zLst S.2.1 1).1 = N at *
  refine x_istore_n (i := 3) dX12_nucleus_21 rfl rfl (by decide) ?_
  refine x_iconst dX12_nucleus_22 rfl iC_0 ?_
  refine x_istore dX12_nucleus_23 rfl (by decide) ?_
  refine x_iconst dX12_nucleus_25 rfl iC_0 ?_
  refine x_istore dX12_nucleus_26 rfl (by decide) ?_
  have key := xloop (P := fun i => ∀ h1, mV [9, 10, 11] [113] h2 h1 → xWP G l mX12_nucleus d (zM G Q) 0 0 28 (xls [(0, .ref 110), (1, .int (nI x)), (2, .int (nI y)), (3, .int (nI N)), (4, .int (nI (cN p i))), (5, .int (nI i))]) [] h1) N (by
    intro i hi ih h1 m1
    have hC := m1.1
    refine x_iload dX12_nucleus_28 rfl rfl ?_
    refine x_iload_n (i := 3) dX12_nucleus_30 rfl rfl rfl ?_
    refine x_jc_ge (tgt := 123) dX12_nucleus_31 rfl rfl (by omega) (by omega) (fun c31 => ?_) (fun c31 => ?_)
    · obtain rfl : i = N := by omega
      refine x_iload dX12_nucleus_123 rfl rfl ?_
      refine x_ireturn dX12_nucleus_125 rfl rfl ?_
      exact K _ _ _ en (r2.sc m1 (by simp) (by simp [mN])) (c2.tr (m1.c (by simp)))
    · have hi2 : i < N := by omega
      have i4 : iv h1 114 = iv h2 114 := m1.2.1.iv (by decide)
      have no : ¬ p i → ∀ h4, mV [9, 10, 11] [113] h2 h4 → xWP G l mX12_nucleus d (zM G Q) 0 0 95 (xls [(0, .ref 110), (1, .int (nI x)), (2, .int (nI y)), (3, .int (nI N)), (4, .int (nI (cN p i))), (5, .int (nI i))]) [] h4 := by
        intro pi h4 m4
        have hC := m4.1
        refine x_iconst dX12_nucleus_95 rfl iC_0 ?_
        refine x_istore dX12_nucleus_96 rfl (by decide) ?_
        refine x_iload dX12_nucleus_98 rfl rfl ?_
        refine x_if_eq_t (tgt := 117) dX12_nucleus_100 rfl nI_0 ?_
        refine x_iinc dX12_nucleus_117 rfl rfl (inc1 _) ?_
        refine x_goto (tgt := 28) dX12_nucleus_120 rfl ?_
        exact x_to (ih hi2 h4 m4) ⟨rfl, rfl, rfl, rfl, by rw [cN_f (n := i) pi]; rfl, rfl, trivial⟩
      refine x_aload_n (i := 0) dX12_nucleus_34 rfl rfl rfl ?_
      refine x_bipush dX12_nucleus_35 rfl bC_9 ?_
      refine x_iconst dX12_nucleus_37 rfl iC_1 ?_
      refine x_iload dX12_nucleus_38 rfl rfl ?_
      refine x_callV0 (ci := 12) (b := 110) (As := [_, _, _]) (d2 := d - 1) dX12_nucleus_40 rfl kX12_178 okX12_brings (hC.o rfl) (fun q hq => by cases hq; rfl) (by omega) rfl rfl (Nat.le_of_ble_eq_true rfl) (m_brings (t := 9) (norm := 1) (by omega) hC (by decide) (by decide) (by omega) (zBd_up _) (fun q hq => by rw [i4]; exact e4 i hi2 q hq) (fun h3 k3 e3 => ?_))
      have hC := k3.1
      have e3 : pl h3 9 = c8 (zEl S.2.1 1 i) := e3
      have m3 := (m1.tr k3).sub (P2 := [9, 10, 11]) (C2 := [113]) (by simp) (by simp)
      have r3 : RM h3 S := r2.sc m3 (by simp) (by simp [mN])
      have ex : pl h3 x = c8 (S.1 x) := by rw [r3.p hx, r3.cc hx]
      refine x_aload_n (i := 0) dX12_nucleus_43 rfl rfl rfl ?_
      refine x_bipush dX12_nucleus_44 rfl bC_10 ?_
      refine x_bipush dX12_nucleus_46 rfl bC_9 ?_
      refine x_iload_n (i := 1) dX12_nucleus_48 rfl rfl rfl ?_
      refine x_callV0 (ci := 12) (b := 110) (As := [_, _, _]) (d2 := d - 1) dX12_nucleus_49 rfl kX12_197 okX12_multiplies (hC.o rfl) (fun q hq => by cases hq; rfl) (by omega) rfl rfl (Nat.le_of_ble_eq_true rfl) (m_mulE (t := 10) (x := 9) (by omega) hC r3.b (by decide) (by decide) (by omega) e3 ex (fun f g1 h4 k4 e5 => ?_) (fun g1 h4 k4 => ?_))
      rotate_left
      · refine x_if_eq_t (tgt := 95) dX12_nucleus_52 rfl nI_0 ?_
        refine x_to (no ?_ h4 ((m3.tr k4).sub (by simp) (by simp))) ⟨rfl, rfl, rfl, rfl, rfl, rfl, trivial⟩
        rw [hp]
        rintro ⟨f, f2, g, g2, q1, q2, q3, q4, q5⟩
        rw [g1] at q1
        cases q1
      have hC := k4.1
      have m4 := (m3.tr k4).sub (P2 := [9, 10, 11]) (C2 := [113]) (by simp) (by simp)
      have r4 : RM h4 S := r2.sc m4 (by simp) (by simp [mN])
      have ey : pl h4 y = c8 (S.1 y) := by rw [r4.p hy, r4.cc hy]
      refine x_if_eq_f (tgt := 95) dX12_nucleus_52 rfl rfl nb1 ?_
      refine x_aload_n (i := 0) dX12_nucleus_55 rfl rfl rfl ?_
      refine x_bipush dX12_nucleus_56 rfl bC_10 ?_
      refine x_bipush dX12_nucleus_58 rfl bC_10 ?_
      refine x_iload_n (i := 2) dX12_nucleus_60 rfl rfl rfl ?_
      refine x_callV0 (ci := 12) (b := 110) (As := [_, _, _]) (d2 := d - 1) dX12_nucleus_61 rfl kX12_197 okX12_multiplies (hC.o rfl) (fun q hq => by cases hq; rfl) (by omega) rfl rfl (Nat.le_of_ble_eq_true rfl) (m_mulE (t := 10) (x := 10) (by omega) hC r4.b (by decide) (by decide) (by omega) e5 ey (fun f2 g2 h5 k5 e6 => ?_) (fun g2 h5 k5 => ?_))
      rotate_left
      · refine x_if_eq_t (tgt := 95) dX12_nucleus_64 rfl nI_0 ?_
        refine x_to (no ?_ h5 ((m4.tr k5).sub (by simp) (by simp))) ⟨rfl, rfl, rfl, rfl, rfl, rfl, trivial⟩
        rw [hp]
        rintro ⟨f, f2, g, g2', q1, q2, q3, q4, q5⟩
        rw [g1] at q1
        cases q1
        rw [g2] at q2
        cases q2
      have hC := k5.1
      have m5 := (m4.tr k5).sub (P2 := [9, 10, 11]) (C2 := [113]) (by simp) (by simp)
      have r5 : RM h5 S := r2.sc m5 (by simp) (by simp [mN])
      have ex5 : pl h5 x = c8 (S.1 x) := by rw [r5.p hx, r5.cc hx]
      have ey5 : pl h5 y = c8 (S.1 y) := by rw [r5.p hy, r5.cc hy]
      refine x_if_eq_f (tgt := 95) dX12_nucleus_64 rfl rfl nb1 ?_
      refine x_aload_n (i := 0) dX12_nucleus_67 rfl rfl rfl ?_
      refine x_bipush dX12_nucleus_68 rfl bC_11 ?_
      refine x_iload_n (i := 1) dX12_nucleus_70 rfl rfl rfl ?_
      refine x_iload_n (i := 2) dX12_nucleus_71 rfl rfl rfl ?_
      refine x_callV0 (ci := 12) (b := 110) (As := [_, _, _]) (d2 := d - 1) dX12_nucleus_72 rfl kX12_197 okX12_multiplies (hC.o rfl) (fun q hq => by cases hq; rfl) (by omega) rfl rfl (Nat.le_of_ble_eq_true rfl) (m_mulE (t := 11) (by omega) hC r5.b (by decide) (by omega) (by omega) ex5 ey5 (fun g g3 h6 k6 e7 => ?_) (fun g3 h6 k6 => ?_))
      rotate_left
      · refine x_if_eq_t (tgt := 95) dX12_nucleus_75 rfl nI_0 ?_
        refine x_to (no ?_ h6 ((m5.tr k6).sub (by simp) (by simp))) ⟨rfl, rfl, rfl, rfl, rfl, rfl, trivial⟩
        rw [hp]
        rintro ⟨f, f2, g, g2', q1, q2, q3, q4, q5⟩
        rw [g3] at q3
        cases q3
      have hC := k6.1
      have m6 := (m5.tr k6).sub (P2 := [9, 10, 11]) (C2 := [113]) (by simp) (by simp)
      have r6 : RM h6 S := r2.sc m6 (by simp) (by simp [mN])
      have ea6 : pl h6 9 = c8 (zEl S.2.1 1 i) := by rw [k6.pp (by decide) (by decide), k5.pp (by decide) (by decide), k4.pp (by decide) (by decide)]; exact e3
      refine x_if_eq_f (tgt := 95) dX12_nucleus_75 rfl rfl nb1 ?_
      refine x_aload_n (i := 0) dX12_nucleus_78 rfl rfl rfl ?_
      refine x_bipush dX12_nucleus_79 rfl bC_11 ?_
      refine x_bipush dX12_nucleus_81 rfl bC_9 ?_
      refine x_bipush dX12_nucleus_83 rfl bC_11 ?_
      refine x_callV0 (ci := 12) (b := 110) (As := [_, _, _]) (d2 := d - 1) dX12_nucleus_85 rfl kX12_197 okX12_multiplies (hC.o rfl) (fun q hq => by cases hq; rfl) (by omega) rfl rfl (Nat.le_of_ble_eq_true rfl) (m_mulE (t := 11) (x := 9) (y := 11) (by omega) hC r6.b (by decide) (by decide) (by decide) ea6 e7 (fun g2' g4 h7 k7 e8 => ?_) (fun g4 h7 k7 => ?_))
      rotate_left
      · refine x_if_eq_t (tgt := 95) dX12_nucleus_88 rfl nI_0 ?_
        refine x_to (no ?_ h7 ((m6.tr k7).sub (by simp) (by simp))) ⟨rfl, rfl, rfl, rfl, rfl, rfl, trivial⟩
        rw [hp]
        rintro ⟨f, f2, g, g2', q1, q2, q3, q4, q5⟩
        rw [g3] at q3
        cases q3
        rw [g4] at q4
        cases q4
      have hC := k7.1
      have m7 := (m6.tr k7).sub (P2 := [9, 10, 11]) (C2 := [113]) (by simp) (by simp)
      have eb7 : pl h7 10 = c8 f2 := by rw [k7.pp (by decide) (by decide), k6.pp (by decide) (by decide)]; exact e6
      refine x_if_eq_f (tgt := 95) dX12_nucleus_88 rfl rfl nb1 ?_
      refine x_iconst dX12_nucleus_91 rfl iC_1 ?_
      refine x_goto (tgt := 96) dX12_nucleus_92 rfl ?_
      refine x_istore dX12_nucleus_96 rfl (by decide) ?_
      refine x_iload dX12_nucleus_98 rfl rfl ?_
      refine x_if_eq_f (tgt := 117) dX12_nucleus_100 rfl rfl nb1 ?_
      refine x_aload_n (i := 0) dX12_nucleus_103 rfl rfl rfl ?_
      refine x_bipush dX12_nucleus_104 rfl bC_10 ?_
      refine x_bipush dX12_nucleus_106 rfl bC_11 ?_
      refine x_callV0 (ci := 12) (b := 110) (As := [_, _]) (d2 := d - 1) dX12_nucleus_108 rfl kX12_280 okX12_areSame (hC.o rfl) (fun q hq => by cases hq; rfl) (by omega) rfl rfl (Nat.le_of_ble_eq_true rfl) (m_sameE (x := 10) (y := 11) hC (by decide) (by decide) eb7 e8 (fun z => ?_) (fun z => ?_))
      · have pi : p i := by rw [hp]; exact ⟨f, f2, g, g2', g1, g2, g3, g4, z⟩
        refine x_if_eq_f (tgt := 117) dX12_nucleus_111 rfl rfl nb1 ?_
        refine x_iinc dX12_nucleus_114 rfl rfl (inc1 _) ?_
        refine x_iinc dX12_nucleus_117 rfl rfl (inc1 _) ?_
        refine x_goto (tgt := 28) dX12_nucleus_120 rfl ?_
        exact x_to (ih hi2 h7 m7) ⟨rfl, rfl, rfl, rfl, by rw [cN_t (n := i) pi]; rfl, rfl, trivial⟩
      · have pi : ¬ p i := by
          rw [hp]
          rintro ⟨f', f2', g', g2'', q1, q2, q3, q4, q5⟩
          rw [g1] at q1
          cases q1
          rw [g2] at q2
          cases q2
          rw [g3] at q3
          cases q3
          rw [g4] at q4
          cases q4
          exact z q5
        refine x_if_eq_t (tgt := 117) dX12_nucleus_111 rfl nI_0 ?_
        refine x_iinc dX12_nucleus_117 rfl rfl (inc1 _) ?_
        refine x_goto (tgt := 28) dX12_nucleus_120 rfl ?_
        exact x_to (ih hi2 h7 m7) ⟨rfl, rfl, rfl, rfl, by rw [cN_f (n := i) pi]; rfl, rfl, trivial⟩) 0 (Nat.zero_le _) h2 ((mV.rf hC).sub (P := []) (C := []) (by simp) (by simp))
  exact x_to key ⟨rfl, rfl, rfl, rfl, rfl, rfl, trivial⟩
end MOD

