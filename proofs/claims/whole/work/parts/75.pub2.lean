/-! EightParts: rows of products -/
noncomputable def oAss (x y z : Nat → Int32) : zO := (oMul x y).bind (fun l => (oMul l z).bind (fun l2 => (oMul y z).bind (fun r => (oMul x r).bind (fun r2 => oAdd l2 r2 (-1)))))
noncomputable def oCom (x y : Nat → Int32) : zO := (oMul x y).bind (fun l => (oMul y x).bind (fun r => oAdd l r (-1)))
noncomputable def sp_associator (S : St) (a b c n : Int32) : Int32 × St := match sE a with
  | none => (-1, S)
  | some t => match sE b with
    | none => (-1, S)
    | some x => match sE c with
      | none => (-1, S)
      | some y => match sE n with
        | none => (-1, S)
        | some z => sMay S t (oAss (S.1 x) (S.1 y) (S.1 z))
noncomputable def sp_commutator (S : St) (a b c : Int32) : Int32 × St := match sE a with
  | none => (-1, S)
  | some t => match sE b with
    | none => (-1, S)
    | some x => match sE c with
      | none => (-1, S)
      | some y => sMay S t (oCom (S.1 x) (S.1 y))
noncomputable def oChain (sl : Nat → Nat → Int32) (x : Nat → Int32) (row : Int32) (how : Nat) : Nat → zO
  | 0 => some x
  | k + 1 => (oChain sl x row how k).bind (fun f => oTurn f (sl (slR row k)) how)
noncomputable def sp_chain (S : St) (a b c row n : Int32) : Int32 × St := match sE a with
  | none => (-1, S)
  | some t => match sE b with
    | none => (-1, S)
    | some x => match eB 1 6 c with
      | none => (-1, S)
      | some many => if (0 : Int32) ≤ row then (match eB 0 3 n with
        | none => (-1, S)
        | some how => sMay S t (oChain S.1 (S.1 x) row how many)) else (-1, S)
noncomputable def oPow (x : Nat → Int32) : Nat → zO
  | 0 => some (zOne 0)
  | k + 1 => (oPow x k).bind (fun f => oMul f x)
noncomputable def sp_power (S : St) (a b n : Int32) : Int32 × St := match sE a with
  | none => (-1, S)
  | some t => match sE b with
    | none => (-1, S)
    | some x => match eB 0 60 n with
      | none => (-1, S)
      | some k => sMay S t (oPow (S.1 x) k)
theorem oMul_e {f f2 g g2 : Nat → Int32} (h1 : c8 f = c8 f2) (h2 : c8 g = c8 g2) : oMul f g = oMul f2 g2 := by rw [← oMul_c, h1, h2, oMul_c]
theorem oTurn_e {f f2 g g2 : Nat → Int32} {how : Nat} (h1 : c8 f = c8 f2) (h2 : c8 g = c8 g2) : oTurn f g how = oTurn f2 g2 how := by rw [← oTurn_c, h1, h2, oTurn_c]
section PUB
variable {G : xG} {l : Launch} {d : Nat} {h : xH} {Q : Option Value → xH → Prop} {b : Bool} {S : St}
theorem RC.c {b : Bool} {h : xH} {S : St} (hR : RC b h S) {x : Nat} (hx : x < 8) : c8 (S.1 x) = c8 (iv h (2 + x)) := by rw [← (hR.sl hx).1, c8_c8]
theorem p_associator {a1 a2 a3 n : Int32} (hd : 10 ≤ d) (hR : RC b h S) (K : ∀ r S2 h2, sp_associator S a1 a2 a3 n = (r, S2) → RC b h2 S2 → mF h h2 → Q (some (.int r)) h2) : xCt G l mX11_associator d [.ref 0, .int a1, .int a2, .int a3, .int n] h 0 0 Q := by
  have hC := hR.1
  refine xCt_of (by decide) (Nat.le_of_ble_eq_true rfl) ?_
  refine x_iload_n (i := 1) dX11_associator_0 rfl rfl rfl ?_
  refine x_iload_n (i := 2) dX11_associator_1 rfl rfl rfl ?_
  refine x_iload_n (i := 3) dX11_associator_2 rfl rfl rfl ?_
  refine x_callS0 (As := [_, _, _]) (d2 := d - 1) dX11_associator_3 rfl kX11_144 okX11_areSlots_ (by omega) rfl rfl (Nat.le_of_ble_eq_true rfl) (c_areSlots3 (by omega) (fun z => ?_) (fun t x y ht hx hy et ex ey qt qx qy => ?_))
  · refine x_if_eq_t (tgt := 17) dX11_associator_6 rfl nI_0 ?_
    refine x_iconst dX11_associator_17 rfl iC_m1 ?_
    refine x_ireturn dX11_associator_18 rfl rfl ?_
    exact K _ _ _ (by rcases z with z | ⟨i, z0, z⟩ | ⟨i, i2, z0, z1, z⟩; exact (by simp only [sp_associator, z] <;> rfl); exact (by simp only [sp_associator, z0, z] <;> rfl); exact (by simp only [sp_associator, z0, z1, z] <;> rfl)) hR mF.rf
  subst et ex ey
  refine x_if_eq_f (tgt := 17) dX11_associator_6 rfl rfl nb1 ?_
  refine x_iload dX11_associator_9 rfl rfl ?_
  refine x_callS0 (As := [_]) (d2 := d - 1) dX11_associator_11 rfl kX11_115 okX11_isEighth (by omega) rfl rfl (Nat.le_of_ble_eq_true rfl) (c_isEighth (fun z => ?_) (fun w hw ew qw => ?_))
  · refine x_if_ne_f (tgt := 19) dX11_associator_14 rfl rfl nI_0 ?_
    refine x_iconst dX11_associator_17 rfl iC_m1 ?_
    refine x_ireturn dX11_associator_18 rfl rfl ?_
    exact K _ _ _ (by simp only [sp_associator, qt, qx, qy, z] <;> rfl) hR mF.rf
  subst ew
  refine x_if_ne_t (tgt := 19) dX11_associator_14 rfl nb1 ?_
  have en : sp_associator S (nI t) (nI x) (nI y) (nI w) = sMay S t (oAss (S.1 x) (S.1 y) (S.1 w)) := by simp only [sp_associator, qt, qx, qy, qw]
  unfold oAss at en
  have fl : ∀ h2 L, Cs h2 → xSq scP h h2 → sp_associator S (nI t) (nI x) (nI y) (nI w) = (-2, S) → xWP G l mX11_associator d (zM G Q) 0 0 150 L [] h2 := by
    intro h2 L hC2 sq e
    refine x_iconst dX11_associator_150 rfl iC_0 ?_
    refine x_istore dX11_associator_151 rfl (by decide) ?_
    refine x_iload dX11_associator_153 rfl rfl ?_
    refine x_callS0 (As := [_]) (d2 := d - 1) dX11_associator_155 rfl kX11_151 okX11_told (by omega) rfl rfl (Nat.le_of_ble_eq_true rfl) (c_told0 ?_)
    refine x_ireturn dX11_associator_158 rfl rfl ?_
    exact K _ _ _ e (hR.sc hC2 sq) (mF.sq sq (fun a => scP_lt))
  have sl : ∀ h2, xSq scP h h2 → ∀ j, j < 8 → iv h2 (2 + j) = iv h (2 + j) := fun h2 sq j hj => sq.iv (by unfold scP; omega)
  rw [← oMul_e (hR.c hx).symm (hR.c hy).symm] at en
  refine x_aload_n (i := 0) dX11_associator_19 rfl rfl rfl ?_
  refine x_getC dX11_associator_20 rfl fX11_17 hC rfl F_0_1 ?_
  refine x_aload_n (i := 0) dX11_associator_23 rfl rfl rfl ?_
  refine x_getC dX11_associator_24 rfl fX11_105 hC rfl F_0_13 ?_
  refine x_aload_n (i := 0) dX11_associator_27 rfl rfl rfl ?_
  refine x_getC dX11_associator_28 rfl fX11_11 hC rfl F_0_0 ?_
  refine x_iload_n (i := 2) dX11_associator_31 rfl rfl rfl ?_
  refine x_aaldC (t := 0) dX11_associator_32 rfl hC rfl (by decide) rfl (by omega) (by decide) (csF_slot hx) ?_
  refine x_aload_n (i := 0) dX11_associator_33 rfl rfl rfl ?_
  refine x_getC dX11_associator_34 rfl fX11_11 hC rfl F_0_0 ?_
  refine x_iload_n (i := 3) dX11_associator_37 rfl rfl rfl ?_
  refine x_aaldC (t := 0) dX11_associator_38 rfl hC rfl (by decide) rfl (by omega) (by decide) (csF_slot hy) ?_
  refine x_callV0 (ci := 7) (b := 10) (As := [_, _, _]) (d2 := d - 1) dX11_associator_39 rfl kX11_155 okX7_multiply (hC.o rfl) (fun q hq => by cases hq; rfl) (by omega) rfl rfl (Nat.le_of_ble_eq_true rfl) (c_mul (by omega) hC (t := 107) rfl (csV_slot hx) (csV_slot hy) (fun z1 g1 h1 hC1 hS1 v1 => ?_) (fun g1 h1 hC1 hS1 => ?_))
  rotate_left
  · refine x_if_eq_t (tgt := 150) dX11_associator_42 rfl nI_0 ?_
    exact fl _ _ hC1 (hS1.sc (by intro q hq; simp only [List.mem_cons, List.not_mem_nil, or_false] at hq; unfold scP; omega)) (by rw [en, g1]; rfl)
  rw [g1, Option.bind_some] at en
  have hC := hC1
  have q1 := hS1.sc (by intro q hq; simp only [List.mem_cons, List.not_mem_nil, or_false] at hq; unfold scP; omega)
  refine x_if_eq_f (tgt := 150) dX11_associator_42 rfl rfl nb1 ?_
  refine x_aload_n (i := 0) dX11_associator_45 rfl rfl rfl ?_
  refine x_getC dX11_associator_46 rfl fX11_17 hC rfl F_0_1 ?_
  refine x_aload_n (i := 0) dX11_associator_49 rfl rfl rfl ?_
  refine x_getC dX11_associator_50 rfl fX11_105 hC rfl F_0_13 ?_
  refine x_aload_n (i := 0) dX11_associator_53 rfl rfl rfl ?_
  refine x_getC dX11_associator_54 rfl fX11_105 hC rfl F_0_13 ?_
  refine x_aload_n (i := 0) dX11_associator_57 rfl rfl rfl ?_
  refine x_getC dX11_associator_58 rfl fX11_11 hC rfl F_0_0 ?_
  refine x_iload dX11_associator_61 rfl rfl ?_
  refine x_aaldC (t := 0) dX11_associator_63 rfl hC rfl (by decide) rfl (by omega) (by decide) (csF_slot hw) ?_
  rw [← oMul_e rfl (show c8 (iv h1 (2 + w)) = _ by rw [sl h1 q1 w hw]; exact (hR.c hw).symm)] at en
  refine x_callV0 (ci := 7) (b := 10) (As := [_, _, _]) (d2 := d - 1) dX11_associator_64 rfl kX11_155 okX7_multiply (hC.o rfl) (fun q hq => by cases hq; rfl) (by omega) rfl rfl (Nat.le_of_ble_eq_true rfl) (c_mul (by omega) hC (t := 107) rfl (a := 107) rfl (csV_slot hw) (fun z2 g2 h2 hC2 hS2 v2 => ?_) (fun g2 h2 hC2 hS2 => ?_))
  rotate_left
  · refine x_if_eq_t (tgt := 150) dX11_associator_67 rfl nI_0 ?_
    exact fl _ _ hC2 (q1.tr (hS2.sc (by intro q hq; simp only [List.mem_cons, List.not_mem_nil, or_false] at hq; unfold scP; omega))) (by rw [en, ← v1, g2]; rfl)
  rw [← v1, g2, Option.bind_some] at en
  have hC := hC2
  have q2 := q1.tr (hS2.sc (by intro q hq; simp only [List.mem_cons, List.not_mem_nil, or_false] at hq; unfold scP; omega))
  refine x_if_eq_f (tgt := 150) dX11_associator_67 rfl rfl nb1 ?_
  refine x_aload_n (i := 0) dX11_associator_70 rfl rfl rfl ?_
  refine x_getC dX11_associator_71 rfl fX11_17 hC rfl F_0_1 ?_
  refine x_aload_n (i := 0) dX11_associator_74 rfl rfl rfl ?_
  refine x_getC dX11_associator_75 rfl fX11_108 hC rfl F_0_14 ?_
  refine x_aload_n (i := 0) dX11_associator_78 rfl rfl rfl ?_
  refine x_getC dX11_associator_79 rfl fX11_11 hC rfl F_0_0 ?_
  refine x_iload_n (i := 3) dX11_associator_82 rfl rfl rfl ?_
  refine x_aaldC (t := 0) dX11_associator_83 rfl hC rfl (by decide) rfl (by omega) (by decide) (csF_slot hy) ?_
  refine x_aload_n (i := 0) dX11_associator_84 rfl rfl rfl ?_
  refine x_getC dX11_associator_85 rfl fX11_11 hC rfl F_0_0 ?_
  refine x_iload dX11_associator_88 rfl rfl ?_
  refine x_aaldC (t := 0) dX11_associator_90 rfl hC rfl (by decide) rfl (by omega) (by decide) (csF_slot hw) ?_
  rw [← oMul_e (show c8 (iv h2 (2 + y)) = _ by rw [sl h2 q2 y hy]; exact (hR.c hy).symm) (show c8 (iv h2 (2 + w)) = _ by rw [sl h2 q2 w hw]; exact (hR.c hw).symm)] at en
  refine x_callV0 (ci := 7) (b := 10) (As := [_, _, _]) (d2 := d - 1) dX11_associator_91 rfl kX11_155 okX7_multiply (hC.o rfl) (fun q hq => by cases hq; rfl) (by omega) rfl rfl (Nat.le_of_ble_eq_true rfl) (c_mul (by omega) hC (t := 108) rfl (csV_slot hy) (csV_slot hw) (fun z3 g3 h3 hC3 hS3 v3 => ?_) (fun g3 h3 hC3 hS3 => ?_))
  rotate_left
  · refine x_if_eq_t (tgt := 150) dX11_associator_94 rfl nI_0 ?_
    exact fl _ _ hC3 (q2.tr (hS3.sc (by intro q hq; simp only [List.mem_cons, List.not_mem_nil, or_false] at hq; unfold scP; omega))) (by rw [en, g3]; rfl)
  rw [g3, Option.bind_some] at en
  have hC := hC3
  have q3 := q2.tr (hS3.sc (by intro q hq; simp only [List.mem_cons, List.not_mem_nil, or_false] at hq; unfold scP; omega))
  refine x_if_eq_f (tgt := 150) dX11_associator_94 rfl rfl nb1 ?_
  refine x_aload_n (i := 0) dX11_associator_97 rfl rfl rfl ?_
  refine x_getC dX11_associator_98 rfl fX11_17 hC rfl F_0_1 ?_
  refine x_aload_n (i := 0) dX11_associator_101 rfl rfl rfl ?_
  refine x_getC dX11_associator_102 rfl fX11_108 hC rfl F_0_14 ?_
  refine x_aload_n (i := 0) dX11_associator_105 rfl rfl rfl ?_
  refine x_getC dX11_associator_106 rfl fX11_11 hC rfl F_0_0 ?_
  refine x_iload_n (i := 2) dX11_associator_109 rfl rfl rfl ?_
  refine x_aaldC (t := 0) dX11_associator_110 rfl hC rfl (by decide) rfl (by omega) (by decide) (csF_slot hx) ?_
  refine x_aload_n (i := 0) dX11_associator_111 rfl rfl rfl ?_
  refine x_getC dX11_associator_112 rfl fX11_108 hC rfl F_0_14 ?_
  rw [← oMul_e (show c8 (iv h3 (2 + x)) = _ by rw [sl h3 q3 x hx]; exact (hR.c hx).symm) rfl] at en
  refine x_callV0 (ci := 7) (b := 10) (As := [_, _, _]) (d2 := d - 1) dX11_associator_115 rfl kX11_155 okX7_multiply (hC.o rfl) (fun q hq => by cases hq; rfl) (by omega) rfl rfl (Nat.le_of_ble_eq_true rfl) (c_mul (by omega) hC (t := 108) rfl (csV_slot hx) (b := 108) rfl (fun z4 g4 h4 hC4 hS4 v4 => ?_) (fun g4 h4 hC4 hS4 => ?_))
  rotate_left
  · refine x_if_eq_t (tgt := 150) dX11_associator_118 rfl nI_0 ?_
    exact fl _ _ hC4 (q3.tr (hS4.sc (by intro q hq; simp only [List.mem_cons, List.not_mem_nil, or_false] at hq; unfold scP; omega))) (by rw [en, ← v3, g4]; rfl)
  rw [← v3, g4, Option.bind_some] at en
  have hC := hC4
  have q4 := q3.tr (hS4.sc (by intro q hq; simp only [List.mem_cons, List.not_mem_nil, or_false] at hq; unfold scP; omega))
  have e107 : iv h4 107 = z2 := by rw [hS4.iv (by decide), hS3.iv (by decide)]; exact v2
  refine x_if_eq_f (tgt := 150) dX11_associator_118 rfl rfl nb1 ?_
  refine x_aload_n (i := 0) dX11_associator_121 rfl rfl rfl ?_
  refine x_getC dX11_associator_122 rfl fX11_17 hC rfl F_0_1 ?_
  refine x_aload_n (i := 0) dX11_associator_125 rfl rfl rfl ?_
  refine x_getC dX11_associator_126 rfl fX11_11 hC rfl F_0_0 ?_
  refine x_iload_n (i := 1) dX11_associator_129 rfl rfl rfl ?_
  refine x_aaldC (t := 0) dX11_associator_130 rfl hC rfl (by decide) rfl (by omega) (by decide) (csF_slot ht) ?_
  refine x_aload_n (i := 0) dX11_associator_131 rfl rfl rfl ?_
  refine x_getC dX11_associator_132 rfl fX11_105 hC rfl F_0_13 ?_
  refine x_aload_n (i := 0) dX11_associator_135 rfl rfl rfl ?_
  refine x_getC dX11_associator_136 rfl fX11_108 hC rfl F_0_14 ?_
  refine x_iconst dX11_associator_139 rfl iC_m1 ?_
  refine x_callV0 (ci := 7) (b := 10) (As := [_, _, _, _]) (d2 := d - 1) dX11_associator_140 rfl kX11_147 okX7_add (hC.o rfl) (fun q hq => by cases hq; rfl) (by omega) rfl rfl (Nat.le_of_ble_eq_true rfl) (c_sum (by omega) hC (csV_slot ht) (a := 107) rfl (b := 108) rfl (fun z5 g5 h5 hC5 hS5 v5 => ?_) (fun g5 h5 hC5 hS5 => ?_))
  · rw [e107, v4] at g5
    have sq : xSq (fun a => scP a ∨ a = 2 + t) h h5 := (q4.mn (fun a => Or.inl)).tr (hS5.sct (by intro q hq; simp only [List.mem_cons, List.not_mem_nil, or_false] at hq; unfold scP; omega))
    refine x_if_eq_f (tgt := 150) dX11_associator_143 rfl rfl nb1 ?_
    refine x_iconst dX11_associator_146 rfl iC_1 ?_
    refine x_goto (tgt := 151) dX11_associator_147 rfl ?_
    refine x_istore dX11_associator_151 rfl (by decide) ?_
    refine x_iload dX11_associator_153 rfl rfl ?_
    refine x_callS0 (As := [_]) (d2 := d - 1) dX11_associator_155 rfl kX11_151 okX11_told (by omega) rfl rfl (Nat.le_of_ble_eq_true rfl) (c_told1 ?_)
    refine x_ireturn dX11_associator_158 rfl rfl ?_
    exact K _ _ _ (by rw [en]; exact sMay_some g5) (hR.set ht hC5 sq (by rw [v5]) (oAdd_bd g5)) (mF.sq sq (fun a => sct_lt ht))
  · rw [e107, v4] at g5
    refine x_if_eq_t (tgt := 150) dX11_associator_143 rfl nI_0 ?_
    exact fl _ _ hC5 (q4.tr (hS5.sc (by intro q hq; simp only [List.mem_cons, List.not_mem_nil, or_false] at hq; unfold scP; omega))) (by rw [en]; exact sMay_none g5)
theorem p_commutator {a1 a2 a3 : Int32} (hd : 10 ≤ d) (hR : RC b h S) (K : ∀ r S2 h2, sp_commutator S a1 a2 a3 = (r, S2) → RC b h2 S2 → mF h h2 → Q (some (.int r)) h2) : xCt G l mX11_commutator d [.ref 0, .int a1, .int a2, .int a3] h 0 0 Q := by
  have hC := hR.1
  refine xCt_of (by decide) (Nat.le_of_ble_eq_true rfl) ?_
  refine x_iload_n (i := 1) dX11_commutator_0 rfl rfl rfl ?_
  refine x_iload_n (i := 2) dX11_commutator_1 rfl rfl rfl ?_
  refine x_iload_n (i := 3) dX11_commutator_2 rfl rfl rfl ?_
  refine x_callS0 (As := [_, _, _]) (d2 := d - 1) dX11_commutator_3 rfl kX11_144 okX11_areSlots_ (by omega) rfl rfl (Nat.le_of_ble_eq_true rfl) (c_areSlots3 (by omega) (fun z => ?_) (fun t x y ht hx hy et ex ey qt qx qy => ?_))
  · refine x_if_ne_f (tgt := 11) dX11_commutator_6 rfl rfl nI_0 ?_
    refine x_iconst dX11_commutator_9 rfl iC_m1 ?_
    refine x_ireturn dX11_commutator_10 rfl rfl ?_
    exact K _ _ _ (by rcases z with z | ⟨i, z0, z⟩ | ⟨i, i2, z0, z1, z⟩; exact (by simp only [sp_commutator, z] <;> rfl); exact (by simp only [sp_commutator, z0, z] <;> rfl); exact (by simp only [sp_commutator, z0, z1, z] <;> rfl)) hR mF.rf
  subst et ex ey
  refine x_if_ne_t (tgt := 11) dX11_commutator_6 rfl nb1 ?_
  have en : sp_commutator S (nI t) (nI x) (nI y) = sMay S t (oCom (S.1 x) (S.1 y)) := by simp only [sp_commutator, qt, qx, qy]
  unfold oCom at en
  have fl : ∀ h2 L, Cs h2 → xSq scP h h2 → sp_commutator S (nI t) (nI x) (nI y) = (-2, S) → xWP G l mX11_commutator d (zM G Q) 0 0 92 L [] h2 := by
    intro h2 L hC2 sq e
    refine x_iconst dX11_commutator_92 rfl iC_0 ?_
    refine x_istore dX11_commutator_93 rfl (by decide) ?_
    refine x_iload dX11_commutator_95 rfl rfl ?_
    refine x_callS0 (As := [_]) (d2 := d - 1) dX11_commutator_97 rfl kX11_151 okX11_told (by omega) rfl rfl (Nat.le_of_ble_eq_true rfl) (c_told0 ?_)
    refine x_ireturn dX11_commutator_100 rfl rfl ?_
    exact K _ _ _ e (hR.sc hC2 sq) (mF.sq sq (fun a => scP_lt))
  have sl : ∀ h2, xSq scP h h2 → ∀ j, j < 8 → iv h2 (2 + j) = iv h (2 + j) := fun h2 sq j hj => sq.iv (by unfold scP; omega)
  rw [← oMul_e (hR.c hx).symm (hR.c hy).symm] at en
  refine x_aload_n (i := 0) dX11_commutator_11 rfl rfl rfl ?_
  refine x_getC dX11_commutator_12 rfl fX11_17 hC rfl F_0_1 ?_
  refine x_aload_n (i := 0) dX11_commutator_15 rfl rfl rfl ?_
  refine x_getC dX11_commutator_16 rfl fX11_105 hC rfl F_0_13 ?_
  refine x_aload_n (i := 0) dX11_commutator_19 rfl rfl rfl ?_
  refine x_getC dX11_commutator_20 rfl fX11_11 hC rfl F_0_0 ?_
  refine x_iload_n (i := 2) dX11_commutator_23 rfl rfl rfl ?_
  refine x_aaldC (t := 0) dX11_commutator_24 rfl hC rfl (by decide) rfl (by omega) (by decide) (csF_slot hx) ?_
  refine x_aload_n (i := 0) dX11_commutator_25 rfl rfl rfl ?_
  refine x_getC dX11_commutator_26 rfl fX11_11 hC rfl F_0_0 ?_
  refine x_iload_n (i := 3) dX11_commutator_29 rfl rfl rfl ?_
  refine x_aaldC (t := 0) dX11_commutator_30 rfl hC rfl (by decide) rfl (by omega) (by decide) (csF_slot hy) ?_
  refine x_callV0 (ci := 7) (b := 10) (As := [_, _, _]) (d2 := d - 1) dX11_commutator_31 rfl kX11_155 okX7_multiply (hC.o rfl) (fun q hq => by cases hq; rfl) (by omega) rfl rfl (Nat.le_of_ble_eq_true rfl) (c_mul (by omega) hC (t := 107) rfl (csV_slot hx) (csV_slot hy) (fun z1 g1 h1 hC1 hS1 v1 => ?_) (fun g1 h1 hC1 hS1 => ?_))
  rotate_left
  · refine x_if_eq_t (tgt := 92) dX11_commutator_34 rfl nI_0 ?_
    exact fl _ _ hC1 (hS1.sc (by intro q hq; simp only [List.mem_cons, List.not_mem_nil, or_false] at hq; unfold scP; omega)) (by rw [en, g1]; rfl)
  rw [g1, Option.bind_some] at en
  have hC := hC1
  have q1 := hS1.sc (by intro q hq; simp only [List.mem_cons, List.not_mem_nil, or_false] at hq; unfold scP; omega)
  refine x_if_eq_f (tgt := 92) dX11_commutator_34 rfl rfl nb1 ?_
  refine x_aload_n (i := 0) dX11_commutator_37 rfl rfl rfl ?_
  refine x_getC dX11_commutator_38 rfl fX11_17 hC rfl F_0_1 ?_
  refine x_aload_n (i := 0) dX11_commutator_41 rfl rfl rfl ?_
  refine x_getC dX11_commutator_42 rfl fX11_108 hC rfl F_0_14 ?_
  refine x_aload_n (i := 0) dX11_commutator_45 rfl rfl rfl ?_
  refine x_getC dX11_commutator_46 rfl fX11_11 hC rfl F_0_0 ?_
  refine x_iload_n (i := 3) dX11_commutator_49 rfl rfl rfl ?_
  refine x_aaldC (t := 0) dX11_commutator_50 rfl hC rfl (by decide) rfl (by omega) (by decide) (csF_slot hy) ?_
  refine x_aload_n (i := 0) dX11_commutator_51 rfl rfl rfl ?_
  refine x_getC dX11_commutator_52 rfl fX11_11 hC rfl F_0_0 ?_
  refine x_iload_n (i := 2) dX11_commutator_55 rfl rfl rfl ?_
  refine x_aaldC (t := 0) dX11_commutator_56 rfl hC rfl (by decide) rfl (by omega) (by decide) (csF_slot hx) ?_
  rw [← oMul_e (show c8 (iv h1 (2 + y)) = _ by rw [sl h1 q1 y hy]; exact (hR.c hy).symm) (show c8 (iv h1 (2 + x)) = _ by rw [sl h1 q1 x hx]; exact (hR.c hx).symm)] at en
  refine x_callV0 (ci := 7) (b := 10) (As := [_, _, _]) (d2 := d - 1) dX11_commutator_57 rfl kX11_155 okX7_multiply (hC.o rfl) (fun q hq => by cases hq; rfl) (by omega) rfl rfl (Nat.le_of_ble_eq_true rfl) (c_mul (by omega) hC (t := 108) rfl (csV_slot hy) (csV_slot hx) (fun z2 g2 h2 hC2 hS2 v2 => ?_) (fun g2 h2 hC2 hS2 => ?_))
  rotate_left
  · refine x_if_eq_t (tgt := 92) dX11_commutator_60 rfl nI_0 ?_
    exact fl _ _ hC2 (q1.tr (hS2.sc (by intro q hq; simp only [List.mem_cons, List.not_mem_nil, or_false] at hq; unfold scP; omega))) (by rw [en, g2]; rfl)
  rw [g2, Option.bind_some] at en
  have hC := hC2
  have q2 := q1.tr (hS2.sc (by intro q hq; simp only [List.mem_cons, List.not_mem_nil, or_false] at hq; unfold scP; omega))
  have e107 : iv h2 107 = z1 := by rw [hS2.iv (by decide)]; exact v1
  refine x_if_eq_f (tgt := 92) dX11_commutator_60 rfl rfl nb1 ?_
  refine x_aload_n (i := 0) dX11_commutator_63 rfl rfl rfl ?_
  refine x_getC dX11_commutator_64 rfl fX11_17 hC rfl F_0_1 ?_
  refine x_aload_n (i := 0) dX11_commutator_67 rfl rfl rfl ?_
  refine x_getC dX11_commutator_68 rfl fX11_11 hC rfl F_0_0 ?_
  refine x_iload_n (i := 1) dX11_commutator_71 rfl rfl rfl ?_
  refine x_aaldC (t := 0) dX11_commutator_72 rfl hC rfl (by decide) rfl (by omega) (by decide) (csF_slot ht) ?_
  refine x_aload_n (i := 0) dX11_commutator_73 rfl rfl rfl ?_
  refine x_getC dX11_commutator_74 rfl fX11_105 hC rfl F_0_13 ?_
  refine x_aload_n (i := 0) dX11_commutator_77 rfl rfl rfl ?_
  refine x_getC dX11_commutator_78 rfl fX11_108 hC rfl F_0_14 ?_
  refine x_iconst dX11_commutator_81 rfl iC_m1 ?_
  refine x_callV0 (ci := 7) (b := 10) (As := [_, _, _, _]) (d2 := d - 1) dX11_commutator_82 rfl kX11_147 okX7_add (hC.o rfl) (fun q hq => by cases hq; rfl) (by omega) rfl rfl (Nat.le_of_ble_eq_true rfl) (c_sum (by omega) hC (csV_slot ht) (a := 107) rfl (b := 108) rfl (fun z5 g5 h5 hC5 hS5 v5 => ?_) (fun g5 h5 hC5 hS5 => ?_))
  · rw [e107, v2] at g5
    have sq : xSq (fun a => scP a ∨ a = 2 + t) h h5 := (q2.mn (fun a => Or.inl)).tr (hS5.sct (by intro q hq; simp only [List.mem_cons, List.not_mem_nil, or_false] at hq; unfold scP; omega))
    refine x_if_eq_f (tgt := 92) dX11_commutator_85 rfl rfl nb1 ?_
    refine x_iconst dX11_commutator_88 rfl iC_1 ?_
    refine x_goto (tgt := 93) dX11_commutator_89 rfl ?_
    refine x_istore dX11_commutator_93 rfl (by decide) ?_
    refine x_iload dX11_commutator_95 rfl rfl ?_
    refine x_callS0 (As := [_]) (d2 := d - 1) dX11_commutator_97 rfl kX11_151 okX11_told (by omega) rfl rfl (Nat.le_of_ble_eq_true rfl) (c_told1 ?_)
    refine x_ireturn dX11_commutator_100 rfl rfl ?_
    exact K _ _ _ (by rw [en]; exact sMay_some g5) (hR.set ht hC5 sq (by rw [v5]) (oAdd_bd g5)) (mF.sq sq (fun a => sct_lt ht))
  · rw [e107, v2] at g5
    refine x_if_eq_t (tgt := 92) dX11_commutator_85 rfl nI_0 ?_
    exact fl _ _ hC5 (q2.tr (hS5.sc (by intro q hq; simp only [List.mem_cons, List.not_mem_nil, or_false] at hq; unfold scP; omega))) (by rw [en]; exact sMay_none g5)
theorem RC.laySlot {b : Bool} {h h1 : xH} {S : St} {t a : Nat} {z : Nat → Int32} (hR : RC b h S) (ht : t < 8) (hC1 : Cs h1) (q : xSq scP h h1) (ez : iv h1 a = z) (hz : zBd z) : RC b (hs h1 (2 + t) (0, 8, xI (iv h1 a))) (sSet S t z) ∧ mF h (hs h1 (2 + t) (0, 8, xI (iv h1 a))) := by
  have sq : xSq (fun a => scP a ∨ a = 2 + t) h (hs h1 (2 + t) (0, 8, xI (iv h1 a))) := (q.mn (fun a => Or.inl)).tr (xSm.hs1.sct (by intro q hq; simp only [List.mem_cons, List.not_mem_nil, or_false] at hq; unfold scP; omega))
  exact ⟨hR.set ht (hC1.setI (hC1.v (csV_slot ht)) (Or.inl rfl) (by omega)) sq (by rw [iv_hs, ez]) hz, mF.sq sq (fun a => sct_lt ht)⟩
theorem oChain_bd {sl : Nat → Nat → Int32} {x : Nat → Int32} {row : Int32} {how : Nat} (hx : zBd x) : ∀ k z, oChain sl x row how k = some z → zBd z
  | 0, z, h => by cases h; exact hx
  | k + 1, z, h => by
    obtain ⟨f, -, h2⟩ := Option.bind_eq_some_iff.mp h
    exact oTurn_bd h2
theorem oChain_none {sl : Nat → Nat → Int32} {x : Nat → Int32} {row : Int32} {how k : Nat} (h : oChain sl x row how k = none) : ∀ m, k ≤ m → oChain sl x row how m = none := by
  intro m hm
  induction m with
  | zero =>
    obtain rfl : k = 0 := by omega
    exact h
  | succ m ih =>
    by_cases e : k = m + 1
    · rw [← e]; exact h
    · rw [oChain, ih (by omega)]; rfl
theorem p_chain {a1 a2 a3 row n : Int32} (hd : 10 ≤ d) (hR : RC b h S) (K : ∀ r S2 h2, sp_chain S a1 a2 a3 row n = (r, S2) → RC b h2 S2 → mF h h2 → Q (some (.int r)) h2) : xCt G l mX11_chain d [.ref 0, .int a1, .int a2, .int a3, .int row, .int n] h 0 0 Q := by
  have hC := hR.1
  refine xCt_of (by decide) (Nat.le_of_ble_eq_true rfl) ?_
  refine x_iload_n (i := 1) dX11_chain_0 rfl rfl rfl ?_
  refine x_iload_n (i := 2) dX11_chain_1 rfl rfl rfl ?_
  refine x_callS0 (As := [_, _]) (d2 := d - 1) dX11_chain_2 rfl kX11_132 okX11_areSlots (by omega) rfl rfl (Nat.le_of_ble_eq_true rfl) (c_areSlots2 (by omega) (fun z => ?_) (fun t x ht hx et ex qt qx => ?_))
  · refine x_if_eq_t (tgt := 26) dX11_chain_5 rfl nI_0 ?_
    refine x_iconst dX11_chain_26 rfl iC_m1 ?_
    refine x_ireturn dX11_chain_27 rfl rfl ?_
    exact K _ _ _ (by rcases z with z | ⟨i, z0, z⟩; exact (by simp only [sp_chain, z] <;> rfl); exact (by simp only [sp_chain, z0, z] <;> rfl)) hR mF.rf
  subst et ex
  refine x_if_eq_f (tgt := 26) dX11_chain_5 rfl rfl nb1 ?_
  refine x_iconst dX11_chain_8 rfl iC_1 ?_
  refine x_iload_n (i := 3) dX11_chain_9 rfl rfl rfl ?_
  refine x_iload dX11_chain_10 rfl rfl ?_
  refine x_callS0 (As := [_, _, _]) (d2 := d - 1) dX11_chain_12 rfl kX11_172 okX11_isRow (by omega) rfl rfl (Nat.le_of_ble_eq_true rfl) (c_isRow (by decide) (fun z => ?_) (fun m lm hm em qm qo => ?_))
  · refine x_if_eq_t (tgt := 26) dX11_chain_15 rfl nI_0 ?_
    refine x_iconst dX11_chain_26 rfl iC_m1 ?_
    refine x_ireturn dX11_chain_27 rfl rfl ?_
    exact K _ _ _ (by rcases z with z | ⟨i, z0, z⟩; exact (by simp only [sp_chain, qt, qx, z] <;> rfl); exact (by simp only [sp_chain, qt, qx, z0, if_neg z] <;> rfl)) hR mF.rf
  subst em
  refine x_if_eq_f (tgt := 26) dX11_chain_15 rfl rfl nb1 ?_
  refine x_iload dX11_chain_18 rfl rfl ?_
  refine x_callS0 (As := [_]) (d2 := d - 1) dX11_chain_20 rfl kX11_166 okX11_isTurn (by omega) rfl rfl (Nat.le_of_ble_eq_true rfl) (c_isTurn (fun z => ?_) (fun w hw ew qw => ?_))
  · refine x_if_ne_f (tgt := 28) dX11_chain_23 rfl rfl nI_0 ?_
    refine x_iconst dX11_chain_26 rfl iC_m1 ?_
    refine x_ireturn dX11_chain_27 rfl rfl ?_
    exact K _ _ _ (by simp only [sp_chain, qt, qx, qm, if_pos qo, z] <;> rfl) hR mF.rf
  subst ew
  refine x_if_ne_t (tgt := 28) dX11_chain_23 rfl nb1 ?_
  have en : sp_chain S (nI t) (nI x) (nI m) row (nI w) = sMay S t (oChain S.1 (S.1 x) row w m) := by simp only [sp_chain, qt, qx, qm, if_pos qo, qw]
  have vx := hC.v (csV_slot hx)
  have v106 := hC.v (a := 106) rfl
  refine x_aload_n (i := 0) dX11_chain_28 rfl rfl rfl ?_
  refine x_getC dX11_chain_29 rfl fX11_101 hC rfl F_0_12 ?_
  refine x_aload_n (i := 0) dX11_chain_32 rfl rfl rfl ?_
  refine x_getC dX11_chain_33 rfl fX11_11 hC rfl F_0_0 ?_
  refine x_iload_n (i := 2) dX11_chain_36 rfl rfl rfl ?_
  refine x_aaldC (t := 0) dX11_chain_37 rfl hC rfl (by decide) rfl (by omega) (by decide) (csF_slot hx) ?_
  refine x_callS0 (As := [_, _]) (d2 := d - 1) dX11_chain_38 rfl kX11_136 okX5_lay (by omega) rfl rfl (Nat.le_of_ble_eq_true rfl) (c_lay (by omega) v106 vx ?_)
  refine x_iconst dX11_chain_41 rfl iC_0 ?_
  refine x_istore dX11_chain_42 rfl (by decide) ?_
  have key := xloop (P := fun k => ∀ h1 f, Cs h1 → xSq scP h h1 → oChain S.1 (S.1 x) row w k = some f → c8 (iv h1 106) = c8 f → xWP G l mX11_chain d (zM G Q) 0 0 44 (xls [(0, .ref 0), (1, .int (nI t)), (3, .int (nI m)), (4, .int row), (5, .int (nI w)), (6, .int (nI k))]) [] h1) m (by
    intro k hk ih h1 f hC1 q1 ef e1
    have hC := hC1
    refine x_iload dX11_chain_44 rfl rfl ?_
    refine x_iload_n (i := 3) dX11_chain_46 rfl rfl rfl ?_
    refine x_jc_ge (tgt := 91) dX11_chain_47 rfl rfl (by omega) (by omega) (fun c47 => ?_) (fun c47 => ?_)
    · obtain rfl : k = m := by omega
      have vt := hC.v (csV_slot ht)
      have v106 := hC.v (a := 106) rfl
      refine x_aload_n (i := 0) dX11_chain_91 rfl rfl rfl ?_
      refine x_getC dX11_chain_92 rfl fX11_11 hC rfl F_0_0 ?_
      refine x_iload_n (i := 1) dX11_chain_95 rfl rfl rfl ?_
      refine x_aaldC (t := 0) dX11_chain_96 rfl hC rfl (by decide) rfl (by omega) (by decide) (csF_slot ht) ?_
      refine x_aload_n (i := 0) dX11_chain_97 rfl rfl rfl ?_
      refine x_getC dX11_chain_98 rfl fX11_101 hC rfl F_0_12 ?_
      refine x_callS0 (As := [_, _]) (d2 := d - 1) dX11_chain_101 rfl kX11_136 okX5_lay (by omega) rfl rfl (Nat.le_of_ble_eq_true rfl) (c_lay (by omega) vt v106 ?_)
      refine x_iconst dX11_chain_104 rfl iC_1 ?_
      refine x_ireturn dX11_chain_105 rfl rfl ?_
      have fin := hR.laySlot (a := 106) ht hC1 q1 rfl (zBd_c8.mp (by rw [e1]; exact zBd_c8.mpr (oChain_bd (hR.2.1.2.1 x hx).2 _ _ ef)))
      exact K _ _ _ (by rw [en, sMay_some ef, sSet_c S t e1.symm]; rfl) fin.1 fin.2
    · have sk := slR_lt row k
      refine x_aload_n (i := 0) dX11_chain_50 rfl rfl rfl ?_
      refine x_getC dX11_chain_51 rfl fX11_17 hC rfl F_0_1 ?_
      refine x_aload_n (i := 0) dX11_chain_54 rfl rfl rfl ?_
      refine x_getC dX11_chain_55 rfl fX11_101 hC rfl F_0_12 ?_
      refine x_aload_n (i := 0) dX11_chain_58 rfl rfl rfl ?_
      refine x_getC dX11_chain_59 rfl fX11_101 hC rfl F_0_12 ?_
      refine x_aload_n (i := 0) dX11_chain_62 rfl rfl rfl ?_
      refine x_getC dX11_chain_63 rfl fX11_11 hC rfl F_0_0 ?_
      refine x_iload dX11_chain_66 rfl rfl ?_
      refine x_iload dX11_chain_68 rfl rfl ?_
      refine x_callS0 (As := [_, _]) (d2 := d - 1) dX11_chain_70 rfl kX11_175 okX11_slotOfRow (by omega) rfl rfl (Nat.le_of_ble_eq_true rfl) (c_slotOfRow ?_)
      refine x_aaldC (t := 0) dX11_chain_73 rfl hC rfl (by decide) rfl (by omega) (by decide) (csF_slot sk) ?_
      refine x_iload dX11_chain_74 rfl rfl ?_
      have e2 : oTurn (iv h1 106) (iv h1 (2 + slR row k)) w = oChain S.1 (S.1 x) row w (k + 1) := by
        rw [oChain, ef, Option.bind_some]
        exact oTurn_e e1 (by rw [q1.iv (by unfold scP; omega)]; exact (hR.c sk).symm)
      refine x_callV0 (ci := 7) (b := 10) (As := [_, _, _, _]) (d2 := d - 1) dX11_chain_76 rfl kX11_169 okX7_turnBy (hC.o rfl) (fun q hq => by cases hq; rfl) (by omega) rfl rfl (Nat.le_of_ble_eq_true rfl) (c_turnBy (by omega) hC (t := 106) rfl (a := 106) rfl (csV_slot sk) hw ⟨by omega, by omega⟩ (by decide) (fun z hz h2 hC2 hS hv => ?_) (fun hz h2 hC2 hS => ?_))
      · refine x_if_ne_t (tgt := 85) dX11_chain_79 rfl nb1 ?_
        refine x_iinc dX11_chain_85 rfl rfl (inc1 _) ?_
        refine x_goto (tgt := 44) dX11_chain_88 rfl ?_
        exact x_to (ih c47 h2 z hC2 (q1.tr (hS.sc (by intro q hq; simp only [List.mem_cons, List.not_mem_nil, or_false] at hq; unfold scP; omega))) (by rw [← e2]; exact hz) (by rw [hv])) ⟨rfl, rfl, rfl, rfl, rfl, rfl, trivial⟩
      · refine x_if_ne_f (tgt := 85) dX11_chain_79 rfl rfl nI_0 ?_
        refine x_bipush dX11_chain_82 rfl bC_m2 ?_
        refine x_ireturn dX11_chain_84 rfl rfl ?_
        have sq := q1.tr (hS.sc (by intro q hq; simp only [List.mem_cons, List.not_mem_nil, or_false] at hq; unfold scP; omega))
        exact K _ _ _ (by rw [en]; exact sMay_none (oChain_none (by rw [← e2]; exact hz) m c47)) (hR.sc hC2 sq) (mF.sq sq (fun a => scP_lt))) 0 (Nat.zero_le _)
  exact x_to (key _ (S.1 x) (hC.setI v106 (Or.inl rfl) (by decide)) (xSm.hs1.sc (by intro q hq; simp only [List.mem_cons, List.not_mem_nil, or_false] at hq; unfold scP; omega)) rfl (by rw [iv_hs]; exact (hR.c hx).symm)) ⟨rfl, rfl, rfl, rfl, rfl, rfl, trivial⟩
theorem oPow_bd {x : Nat → Int32} : ∀ k z, oPow x k = some z → zBd z
  | 0, z, h => by cases h; exact zBd_one 0
  | k + 1, z, h => by
    obtain ⟨f, -, h2⟩ := Option.bind_eq_some_iff.mp h
    exact oMul_bd h2
theorem oPow_none {x : Nat → Int32} {k : Nat} (h : oPow x k = none) : ∀ m, k ≤ m → oPow x m = none := by
  intro m hm
  induction m with
  | zero =>
    obtain rfl : k = 0 := by omega
    exact h
  | succ m ih =>
    by_cases e : k = m + 1
    · rw [← e]; exact h
    · rw [oPow, ih (by omega)]; rfl
theorem p_power {a1 a2 n : Int32} (hd : 10 ≤ d) (hR : RC b h S) (K : ∀ r S2 h2, sp_power S a1 a2 n = (r, S2) → RC b h2 S2 → mF h h2 → Q (some (.int r)) h2) : xCt G l mX11_power d [.ref 0, .int a1, .int a2, .int n] h 0 0 Q := by
  have hC := hR.1
  refine xCt_of (by decide) (Nat.le_of_ble_eq_true rfl) ?_
  refine x_iload_n (i := 1) dX11_power_0 rfl rfl rfl ?_
  refine x_iload_n (i := 2) dX11_power_1 rfl rfl rfl ?_
  refine x_callS0 (As := [_, _]) (d2 := d - 1) dX11_power_2 rfl kX11_132 okX11_areSlots (by omega) rfl rfl (Nat.le_of_ble_eq_true rfl) (c_areSlots2 (by omega) (fun z => ?_) (fun t x ht hx et ex qt qx => ?_))
  · refine x_if_eq_t (tgt := 18) dX11_power_5 rfl nI_0 ?_
    refine x_iconst dX11_power_18 rfl iC_m1 ?_
    refine x_ireturn dX11_power_19 rfl rfl ?_
    exact K _ _ _ (by rcases z with z | ⟨i, z0, z⟩; exact (by simp only [sp_power, z] <;> rfl); exact (by simp only [sp_power, z0, z] <;> rfl)) hR mF.rf
  subst et ex
  refine x_if_eq_f (tgt := 18) dX11_power_5 rfl rfl nb1 ?_
  refine x_iload_n (i := 3) dX11_power_8 rfl rfl rfl ?_
  refine x_if_lt (tgt := 18) dX11_power_9 rfl rfl (fun c9 => ?_) (fun c9 => ?_)
  · refine x_iconst dX11_power_18 rfl iC_m1 ?_
    refine x_ireturn dX11_power_19 rfl rfl ?_
    exact K _ _ _ (by simp only [sp_power, qt, qx, eB_lo (lo := 0) (hi := 60) (by decide) c9]) hR mF.rf
  refine x_iload_n (i := 3) dX11_power_12 rfl rfl rfl ?_
  refine x_bipush dX11_power_13 rfl bC_60 ?_
  refine x_ic_le (tgt := 20) dX11_power_15 rfl rfl (fun c15 => ?_) (fun c15 => ?_)
  rotate_left
  · refine x_iconst dX11_power_18 rfl iC_m1 ?_
    refine x_ireturn dX11_power_19 rfl rfl ?_
    exact K _ _ _ (by simp only [sp_power, qt, qx, eB_hi (lo := 0) (hi := 60) (by decide) (Int32.not_le.mp c15)]) hR mF.rf
  obtain ⟨m, -, hm, em, qm⟩ := eB_in (lo := 0) (hi := 60) (by decide) (by decide) c9 (Int32.not_lt.mpr c15)
  subst em
  have en : sp_power S (nI t) (nI x) (nI m) = sMay S t (oPow (S.1 x) m) := by simp only [sp_power, qt, qx, qm]
  have v106 := hC.v (a := 106) rfl
  refine x_aload_n (i := 0) dX11_power_20 rfl rfl rfl ?_
  refine x_getC dX11_power_21 rfl fX11_101 hC rfl F_0_12 ?_
  refine x_iconst dX11_power_24 rfl iC_0 ?_
  refine x_callS0 (As := [_, _]) (d2 := d - 1) dX11_power_25 rfl kX11_119 okX5_layOne (by omega) rfl rfl (Nat.le_of_ble_eq_true rfl) (c_layOne (by omega) (i := 0) (by decide) v106 ?_)
  refine x_iconst dX11_power_28 rfl iC_0 ?_
  refine x_istore dX11_power_29 rfl (by decide) ?_
  have key := xloop (P := fun k => ∀ h1 f, Cs h1 → xSq scP h h1 → oPow (S.1 x) k = some f → iv h1 106 = f → xWP G l mX11_power d (zM G Q) 0 0 31 (xls [(0, .ref 0), (1, .int (nI t)), (2, .int (nI x)), (3, .int (nI m)), (4, .int (nI k))]) [] h1) m (by
    intro k hk ih h1 f hC1 q1 ef e1
    have hC := hC1
    refine x_iload dX11_power_31 rfl rfl ?_
    refine x_iload_n (i := 3) dX11_power_33 rfl rfl rfl ?_
    refine x_jc_ge (tgt := 70) dX11_power_34 rfl rfl (by omega) (by omega) (fun c34 => ?_) (fun c34 => ?_)
    · obtain rfl : k = m := by omega
      have vt := hC.v (csV_slot ht)
      have v106 := hC.v (a := 106) rfl
      refine x_aload_n (i := 0) dX11_power_70 rfl rfl rfl ?_
      refine x_getC dX11_power_71 rfl fX11_11 hC rfl F_0_0 ?_
      refine x_iload_n (i := 1) dX11_power_74 rfl rfl rfl ?_
      refine x_aaldC (t := 0) dX11_power_75 rfl hC rfl (by decide) rfl (by omega) (by decide) (csF_slot ht) ?_
      refine x_aload_n (i := 0) dX11_power_76 rfl rfl rfl ?_
      refine x_getC dX11_power_77 rfl fX11_101 hC rfl F_0_12 ?_
      refine x_callS0 (As := [_, _]) (d2 := d - 1) dX11_power_80 rfl kX11_136 okX5_lay (by omega) rfl rfl (Nat.le_of_ble_eq_true rfl) (c_lay (by omega) vt v106 ?_)
      refine x_iconst dX11_power_83 rfl iC_1 ?_
      refine x_ireturn dX11_power_84 rfl rfl ?_
      have fin := hR.laySlot (a := 106) ht hC1 q1 e1 (oPow_bd _ _ ef)
      exact K _ _ _ (by rw [en, sMay_some ef]; rfl) fin.1 fin.2
    · refine x_aload_n (i := 0) dX11_power_37 rfl rfl rfl ?_
      refine x_getC dX11_power_38 rfl fX11_17 hC rfl F_0_1 ?_
      refine x_aload_n (i := 0) dX11_power_41 rfl rfl rfl ?_
      refine x_getC dX11_power_42 rfl fX11_101 hC rfl F_0_12 ?_
      refine x_aload_n (i := 0) dX11_power_45 rfl rfl rfl ?_
      refine x_getC dX11_power_46 rfl fX11_101 hC rfl F_0_12 ?_
      refine x_aload_n (i := 0) dX11_power_49 rfl rfl rfl ?_
      refine x_getC dX11_power_50 rfl fX11_11 hC rfl F_0_0 ?_
      refine x_iload_n (i := 2) dX11_power_53 rfl rfl rfl ?_
      refine x_aaldC (t := 0) dX11_power_54 rfl hC rfl (by decide) rfl (by omega) (by decide) (csF_slot hx) ?_
      have e2 : oMul (iv h1 106) (iv h1 (2 + x)) = oPow (S.1 x) (k + 1) := by
        rw [oPow, ef, Option.bind_some, e1]
        exact oMul_e rfl (by rw [q1.iv (by unfold scP; omega)]; exact (hR.c hx).symm)
      refine x_callV0 (ci := 7) (b := 10) (As := [_, _, _]) (d2 := d - 1) dX11_power_55 rfl kX11_155 okX7_multiply (hC.o rfl) (fun q hq => by cases hq; rfl) (by omega) rfl rfl (Nat.le_of_ble_eq_true rfl) (c_mul (by omega) hC (t := 106) rfl (a := 106) rfl (csV_slot hx) (fun z hz h2 hC2 hS hv => ?_) (fun hz h2 hC2 hS => ?_))
      · refine x_if_ne_t (tgt := 64) dX11_power_58 rfl nb1 ?_
        refine x_iinc dX11_power_64 rfl rfl (inc1 _) ?_
        refine x_goto (tgt := 31) dX11_power_67 rfl ?_
        exact x_to (ih c34 h2 z hC2 (q1.tr (hS.sc (by intro q hq; simp only [List.mem_cons, List.not_mem_nil, or_false] at hq; unfold scP; omega))) (by rw [← e2]; exact hz) hv) ⟨rfl, rfl, rfl, rfl, rfl, trivial⟩
      · refine x_if_ne_f (tgt := 64) dX11_power_58 rfl rfl nI_0 ?_
        refine x_bipush dX11_power_61 rfl bC_m2 ?_
        refine x_ireturn dX11_power_63 rfl rfl ?_
        have sq := q1.tr (hS.sc (by intro q hq; simp only [List.mem_cons, List.not_mem_nil, or_false] at hq; unfold scP; omega))
        exact K _ _ _ (by rw [en]; exact sMay_none (oPow_none (by rw [← e2]; exact hz) m c34)) (hR.sc hC2 sq) (mF.sq sq (fun a => scP_lt))) 0 (Nat.zero_le _)
  exact x_to (key _ (zOne 0) (hC.setI v106 (Or.inl rfl) (by decide)) (xSm.hs1.sc (by intro q hq; simp only [List.mem_cons, List.not_mem_nil, or_false] at hq; unfold scP; omega)) rfl iv_hs) ⟨rfl, rfl, rfl, rfl, rfl, trivial⟩
end PUB

