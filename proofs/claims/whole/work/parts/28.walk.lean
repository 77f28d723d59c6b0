/-! EightParts$Divider: rests again and again; what divides -/
theorem zIf_some {p : Prop} {z y : Nat → Int32} (h : zIf p z = some y) : p ∧ y = z := by
  by_cases hp : p
  · rw [zIf_t hp] at h
    exact ⟨hp, (Option.some.inj h).symm⟩
  · rw [zIf_f hp] at h
    cases h
theorem oAdd_bd {f g : Nat → Int32} {s : Int32} {z : Nat → Int32} (h : oAdd f g s = some z) : zBd z := by
  obtain ⟨h1, rfl⟩ := zIf_some h
  exact zBd_nar h1
theorem oMul_bd {f g z : Nat → Int32} (h : oMul f g = some z) : zBd z := by
  obtain ⟨h1, rfl⟩ := zIf_some h
  exact zBd_nar h1.2
theorem oScale_bd {f : Nat → Int32} {s : Int32} {z : Nat → Int32} (h : oScale s f = some z) : zBd z := by
  obtain ⟨h1, rfl⟩ := zIf_some h
  exact zBd_nar h1
theorem oTurn_bd {f u : Nat → Int32} {how : Nat} {z : Nat → Int32} (h : oTurn f u how = some z) : zBd z := by
  unfold oTurn at h
  split at h
  · exact oMul_bd h
  · exact oMul_bd h
  · obtain ⟨m, -, h2⟩ := Option.bind_eq_some_iff.mp h
    exact oMul_bd h2
  · obtain ⟨m, -, h2⟩ := Option.bind_eq_some_iff.mp h
    exact oMul_bd h2
theorem oSplit_bd {o : Nat} {f g q r : Nat → Int32} (h : oSplit o f g = some (q, r)) : zBd q ∧ zBd r := by
  unfold oSplit at h
  split at h
  · cases h
  · next hc =>
    obtain ⟨r1, -, h2⟩ := Option.bind_eq_some_iff.mp h
    obtain ⟨r2, h3, h4⟩ := Option.map_eq_some_iff.mp h2
    cases h4
    refine ⟨zBd_nar (Classical.byContradiction fun z => hc (Or.inr (Or.inr (Or.inr z)))), oAdd_bd h3⟩
noncomputable def zMaxL (a b : Int64) : Int64 := @ite _ (a < b) (Classical.propDecidable _) b a
noncomputable def zMinL (a b : Int64) : Int64 := @ite _ (b < a) (Classical.propDecidable _) b a
/-- the greatest share so far, with that of another rest -/
noncomputable def zShr (sh : Int64) (r y : Nat → Int32) : Int64 := @ite _ (zInn y y 8 ≤ 0) (Classical.propDecidable _) sh (zMaxL sh (100 * zInn r r 8 / zInn y y 8))
abbrev zW : Type := (Nat → Int32) × (Nat → Int32) × Int64
noncomputable def zRun (o : Nat) : Nat → zW → Nat → zW × Nat
  | 0, s, k => (s, k)
  | n + 1, s, k => match oSplit o s.1 s.2.1 with
    | none => (s, k)
    | some qr => zRun o n (s.2.1, qr.2, zShr s.2.2 qr.2 s.2.1) (k + 1)
abbrev wS : List Nat := [11, 16, 17, 19, 20, 21, 37, 38, 39, 40, 41, 42, 43]
section WALK
variable {G : xG} {l : Launch} {d : Nat} {h : xH} {Q : Option Value → xH → Prop}
theorem c_maxL {a b : Int64} (K : Q (some (.long (zMaxL a b))) h) : xCt G l mJ9_max_f86c9 d [.long a, .long b] h 0 0 Q := by
  refine xCt_ofF pf_maxL (Nat.le_of_ble_eq_true rfl) ?_
  refine x_lload_n (i := 0) dJ9_max_f86c9_0 rfl rfl rfl ?_
  refine x_lload_n (i := 2) dJ9_max_f86c9_1 rfl rfl rfl ?_
  refine x_lcmp dJ9_max_f86c9_2 rfl ?_
  refine x_if_lt (tgt := 10) dJ9_max_f86c9_3 rfl rfl (fun c3 => ?_) (fun c3 => ?_)
  · refine x_lload_n (i := 2) dJ9_max_f86c9_10 rfl rfl rfl ?_
    refine x_lreturn dJ9_max_f86c9_11 rfl ?_
    rw [zMaxL, if_pos ((lg_cmp_lt _ _).mp c3)] at K
    exact K
  · refine x_lload_n (i := 0) dJ9_max_f86c9_6 rfl rfl rfl ?_
    refine x_goto (tgt := 11) dJ9_max_f86c9_7 rfl ?_
    refine x_lreturn dJ9_max_f86c9_11 rfl ?_
    rw [zMaxL, if_neg (fun z => c3 ((lg_cmp_lt _ _).mpr z))] at K
    exact K
theorem c_minL {a b : Int64} (K : Q (some (.long (zMinL a b))) h) : xCt G l mJ9_min_f86c9 d [.long a, .long b] h 0 0 Q := by
  refine xCt_ofF pf_minL (Nat.le_of_ble_eq_true rfl) ?_
  refine x_lload_n (i := 0) dJ9_min_f86c9_0 rfl rfl rfl ?_
  refine x_lload_n (i := 2) dJ9_min_f86c9_1 rfl rfl rfl ?_
  refine x_lcmp dJ9_min_f86c9_2 rfl ?_
  refine x_if_gt (tgt := 10) dJ9_min_f86c9_3 rfl rfl (fun c3 => ?_) (fun c3 => ?_)
  · refine x_lload_n (i := 2) dJ9_min_f86c9_10 rfl rfl rfl ?_
    refine x_lreturn dJ9_min_f86c9_11 rfl ?_
    rw [zMinL, if_pos ((lg_cmp_gt _ _).mp c3)] at K
    exact K
  · refine x_lload_n (i := 0) dJ9_min_f86c9_6 rfl rfl rfl ?_
    refine x_goto (tgt := 11) dJ9_min_f86c9_7 rfl ?_
    refine x_lreturn dJ9_min_f86c9_11 rfl ?_
    rw [zMinL, if_neg (fun z => c3 ((lg_cmp_gt _ _).mpr z))] at K
    exact K
def hSt (h : xH) (k : Nat) : Prop := (h.1 37).2.2 8 = .int (nI k)
def hSh (h : xH) (s : Int64) : Prop := (h.1 37).2.2 9 = .long s
theorem c_noteShare {s : Int64} (hd : 2 ≤ d) (hC : Cs h) (hs9 : hSh h s) (K : ∀ h2, Cs h2 → xSm [37] h h2 → (∀ k, k ≠ 9 → (h2.1 37).2.2 k = (h.1 37).2.2 k) → hSh h2 (zShr s (iv h 39) (iv h 42)) → Q none h2) : xCt G l mX0_noteShare d [.ref 37] h 0 0 Q := by
  refine xCt_of (by decide) (Nat.le_of_ble_eq_true rfl) ?_
  refine x_aload_n (i := 0) dX0_noteShare_0 rfl rfl rfl ?_
  refine x_getC dX0_noteShare_1 rfl fX0_24 hC rfl F_37_6 ?_
  refine x_callS0 (As := [_]) (d2 := d - 1) dX0_noteShare_4 rfl kX0_47 okX5_normBy4 (by omega) rfl rfl (Nat.le_of_ble_eq_true rfl) (c_normBy4 (by omega) (hC.v rfl) ?_)
  refine x_lstore_n (i := 1) dX0_noteShare_7 rfl rfl (by decide) ?_
  refine x_lload_n (i := 1) dX0_noteShare_8 rfl rfl rfl ?_
  refine x_lconst dX0_noteShare_9 rfl lC_0 ?_
  refine x_lcmp dX0_noteShare_10 rfl ?_
  refine x_if_le (tgt := 38) dX0_noteShare_11 rfl rfl (fun c11 => ?_) (fun c11 => ?_)
  · refine x_return dX0_noteShare_38 rfl ?_
    refine K h hC (xSm.rf.sub (by simp)) (fun _ _ => rfl) ?_
    rw [zShr, if_pos ((lg_cmp_le _ _).mp c11)]
    exact hs9
  · have hne : ¬ zInn (iv h 42) (iv h 42) 8 = 0 := fun e => c11 ((lg_cmp_le _ _).mpr (by rw [e]; decide))
    refine x_aload_n (i := 0) dX0_noteShare_14 rfl rfl rfl ?_
    refine x_aload_n (i := 0) dX0_noteShare_15 rfl rfl rfl ?_
    refine x_getM (a := 37) dX0_noteShare_16 rfl fX0_35 hC rfl hs9 ?_
    refine x_ldc2 dX0_noteShare_19 rfl cX0_103 ?_
    refine x_aload_n (i := 0) dX0_noteShare_22 rfl rfl rfl ?_
    refine x_getC dX0_noteShare_23 rfl fX0_15 hC rfl F_37_3 ?_
    refine x_callS0 (As := [_]) (d2 := d - 1) dX0_noteShare_26 rfl kX0_47 okX5_normBy4 (by omega) rfl rfl (Nat.le_of_ble_eq_true rfl) (c_normBy4 (by omega) (hC.v rfl) ?_)
    refine x_lmul dX0_noteShare_29 rfl ?_
    refine x_lload_n (i := 1) dX0_noteShare_30 rfl rfl rfl ?_
    refine x_ldiv dX0_noteShare_31 rfl hne ?_
    refine x_callS0 (As := [_, _]) (d2 := d - 1) dX0_noteShare_32 rfl kX0_105 okJ9_max_f86c9 (by omega) rfl rfl (Nat.le_of_ble_eq_true rfl) (c_maxL ?_)
    refine x_putC (a := 37) dX0_noteShare_35 rfl fX0_35 (fun q hq => by cases hq; rfl) hC rfl ⟨rfl, rfl⟩ ?_
    refine x_return dX0_noteShare_38 rfl ?_
    refine K _ (hC.setF rfl NF_37_9 (by decide)) xSm.hs1 (fun k hk => fv_ne hk) ?_
    rw [zShr, if_neg (fun z => c11 ((lg_cmp_le _ _).mpr z))]
    exact fv_eq
theorem c_walk {a b o : Nat} (hd : 5 ≤ d) (hC : Cs h) (ho : hOrd h o) (ho8 : o < 8) (ha : csV a) (hb : csV b) (han : a ∉ wS) (hbn : b ∉ wS) (hbd : zBd (iv h b))
    (K : ∀ h2, Cs h2 → xSm wS h h2 → iv h2 41 = (zRun o 60 (iv h a, iv h b, 0) 0).1.1 → iv h2 42 = (zRun o 60 (iv h a, iv h b, 0) 0).1.2.1 → hSt h2 (zRun o 60 (iv h a, iv h b, 0) 0).2 → hSh h2 (zRun o 60 (iv h a, iv h b, 0) 0).1.2.2 → Q none h2) : xCt G l mX0_walk d [.ref 37, .ref a, .ref b] h 0 0 Q := by
  have va := hC.v ha
  have vb := hC.v hb
  have v41 := hC.v (a := 41) rfl
  have v42 := hC.v (a := 42) rfl
  have an : a ≠ 41 ∧ a ≠ 42 := by simp at han; omega
  have bn : b ≠ 41 ∧ b ≠ 42 := by simp at hbn; omega
  refine xCt_of (by decide) (Nat.le_of_ble_eq_true rfl) ?_
  refine x_aload_n (i := 0) dX0_walk_0 rfl rfl rfl ?_
  refine x_getC dX0_walk_1 rfl fX0_21 hC rfl F_37_5 ?_
  refine x_aload_n (i := 1) dX0_walk_4 rfl rfl rfl ?_
  refine x_callS0 (As := [_, _]) (d2 := d - 1) dX0_walk_5 rfl kX0_83 okX5_lay (by omega) rfl rfl (Nat.le_of_ble_eq_true rfl) (c_lay (by omega) v41 va ?_)
  have hC1 := hC.setI (f := iv h a) v41 (Or.inl rfl) (by decide)
  refine x_aload_n (i := 0) dX0_walk_8 rfl rfl rfl ?_
  refine x_getC dX0_walk_9 rfl fX0_24 hC1 rfl F_37_6 ?_
  refine x_aload_n (i := 2) dX0_walk_12 rfl rfl rfl ?_
  refine x_callS0 (As := [_, _]) (d2 := d - 1) dX0_walk_13 rfl kX0_83 okX5_lay (by omega) rfl rfl (Nat.le_of_ble_eq_true rfl) (c_lay (by omega) (hs_ne (by decide) v42) (hs_ne bn.1 vb) ?_)
  have hC2 := hC1.setI (f := iv h b) (hs_ne (by decide) v42) (Or.inl rfl) (by decide)
  have hS2 : xSm [41, 42] h (hs (hs h 41 (0, 8, xI (iv h a))) 42 (0, 8, xI (iv h b))) := xSm.hs2
  have e41 : iv (hs (hs h 41 (0, 8, xI (iv h a))) 42 (0, 8, xI (iv h b))) 41 = iv h a := by rw [iv_n (by decide), iv_hs]
  have e42 : iv (hs (hs h 41 (0, 8, xI (iv h a))) 42 (0, 8, xI (iv h b))) 42 = iv h b := iv_hs
  show xWP G l mX0_walk d (zM G Q) 0 0 16 _ (xpush none []) (hs (hs h 41 (0, 8, xI (iv h a))) 42 (0, 8, xI (iv h b)))
  generalize hs (hs h 41 (0, 8, xI (iv h a))) 42 (0, 8, xI (iv h b)) = h1 at hC2 hS2 e41 e42 ⊢
  have hC3 := hC2.setF (a := 37) (ci := 0) (kf := 8) (v := .int (nI 0)) rfl NF_37_8 (by decide)
  refine x_aload_n (i := 0) dX0_walk_16 rfl rfl rfl ?_
  refine x_iconst dX0_walk_17 rfl iC_0 ?_
  refine x_putC (a := 37) dX0_walk_18 rfl fX0_31 (fun q hq => by cases hq; rfl) hC2 rfl ⟨rfl, rfl⟩ ?_
  refine x_aload_n (i := 0) dX0_walk_21 rfl rfl rfl ?_
  refine x_lconst dX0_walk_22 rfl lC_0 ?_
  refine x_putC (a := 37) dX0_walk_23 rfl fX0_35 (fun q hq => by cases hq; rfl) hC3 rfl ⟨rfl, rfl⟩ ?_
  have hC4 := hC3.setF (a := 37) (ci := 0) (kf := 9) (v := .long 0) rfl NF_37_9 (by decide)
  have key := xloop (P := fun k => ∀ h1 s, Cs h1 → xSm wS h h1 → iv h1 41 = s.1 → iv h1 42 = s.2.1 → hSt h1 k → hSh h1 s.2.2 → zBd s.2.1 → zRun o 60 (iv h a, iv h b, 0) 0 = zRun o (60 - k) s k → xWP G l mX0_walk d (zM G Q) 0 0 26 (xls [(0, .ref 37)]) [] h1) 60 (by
    intro k hk ih h1 s hC hS e1 e2 e3 e4 hbd er
    refine x_aload_n (i := 0) dX0_walk_26 rfl rfl rfl ?_
    refine x_getM (a := 37) dX0_walk_27 rfl fX0_31 hC rfl e3 ?_
    refine x_bipush dX0_walk_30 rfl bC_60 ?_
    refine x_jc_ge (tgt := 89) dX0_walk_32 rfl rfl (by omega) (by omega) (fun c32 => ?_) (fun c32 => ?_)
    · obtain rfl : k = 60 := by omega
      refine x_return dX0_walk_89 rfl ?_
      rw [er] at K
      exact K h1 hC hS e1 e2 e3 e4
    · have ho1 : hOrd h1 o := by unfold hOrd; rw [hS.2 14 (by decide)]; exact ho
      obtain ⟨m, em⟩ : ∃ m, 60 - k = m + 1 := ⟨60 - k - 1, by omega⟩
      rw [em] at er
      refine x_aload_n (i := 0) dX0_walk_35 rfl rfl rfl ?_
      refine x_aload_n (i := 0) dX0_walk_36 rfl rfl rfl ?_
      refine x_getC dX0_walk_37 rfl fX0_21 hC rfl F_37_5 ?_
      refine x_aload_n (i := 0) dX0_walk_40 rfl rfl rfl ?_
      refine x_getC dX0_walk_41 rfl fX0_24 hC rfl F_37_6 ?_
      refine x_callV0 (ci := 0) (b := 37) (As := [_, _]) (d2 := d - 1) dX0_walk_44 rfl kX0_86 okX0_split (hC.o rfl) (fun q hq => by cases hq; rfl) (by omega) rfl rfl (Nat.le_of_ble_eq_true rfl) (c_split (by omega) hC ho1 ho8 (a := 41) rfl (b := 42) rfl (by decide) (by decide) (by rw [e2]; exact hbd) (fun q r hq h2 hC2 hS2 q1 q2 => ?_) (fun hq h2 hC2 hS2 => ?_))
      · rw [e1, e2] at hq
        have hC := hC2
        have hSw := (hS.tr hS2).sub (T := wS) (by simp)
        have e42' : iv h2 42 = s.2.1 := (hS2.iv (by decide)).trans e2
        have e9 : hSh h2 s.2.2 := by unfold hSh; rw [hS2.2 37 (by decide)]; exact e4
        have e8 : hSt h2 k := by unfold hSt; rw [hS2.2 37 (by decide)]; exact e3
        refine x_if_eq_f (tgt := 89) dX0_walk_47 rfl rfl nb1 ?_
        refine x_aload_n (i := 0) dX0_walk_50 rfl rfl rfl ?_
        refine x_callV0 (ci := 0) (b := 37) (As := []) (d2 := d - 1) dX0_walk_51 rfl kX0_90 okX0_noteShare (hC.o rfl) (fun q hq => by cases hq; rfl) (by omega) rfl rfl (Nat.le_of_ble_eq_true rfl) (c_noteShare (by omega) hC e9 (fun h3 hC3 hS3 f3 e93 => ?_))
        have hC := hC3
        have v41 := hC.v (a := 41) rfl
        have v42 := hC.v (a := 42) rfl
        have v39 := hC.v (a := 39) rfl
        have i42 : iv h3 42 = s.2.1 := (hS3.iv (by decide)).trans e42'
        have i39 : iv h3 39 = r := (hS3.iv (by decide)).trans q2
        rw [q2, e42'] at e93
        have e83 : hSt h3 k := (f3 8 (by decide)).trans e8
        rw [i42] at v42
        rw [i39] at v39
        refine x_aload_n (i := 0) dX0_walk_54 rfl rfl rfl ?_
        refine x_getC dX0_walk_55 rfl fX0_21 hC rfl F_37_5 ?_
        refine x_aload_n (i := 0) dX0_walk_58 rfl rfl rfl ?_
        refine x_getC dX0_walk_59 rfl fX0_24 hC rfl F_37_6 ?_
        refine x_callS0 (As := [_, _]) (d2 := d - 1) dX0_walk_62 rfl kX0_83 okX5_lay (by omega) rfl rfl (Nat.le_of_ble_eq_true rfl) (c_lay (by omega) v41 v42 ?_)
        have hC4 := hC.setI (f := s.2.1) v41 (Or.inl rfl) (by decide)
        refine x_aload_n (i := 0) dX0_walk_65 rfl rfl rfl ?_
        refine x_getC dX0_walk_66 rfl fX0_24 hC4 rfl F_37_6 ?_
        refine x_aload_n (i := 0) dX0_walk_69 rfl rfl rfl ?_
        refine x_getC dX0_walk_70 rfl fX0_15 hC4 rfl F_37_3 ?_
        refine x_callS0 (As := [_, _]) (d2 := d - 1) dX0_walk_73 rfl kX0_83 okX5_lay (by omega) rfl rfl (Nat.le_of_ble_eq_true rfl) (c_lay (by omega) (hs_ne (by decide) v42) (hs_ne (by decide) v39) ?_)
        have hC5 := hC4.setI (f := r) (hs_ne (by decide) v42) (Or.inl rfl) (by decide)
        have hS5 : xSm [41, 42] h3 (hs (hs h3 41 (0, 8, xI s.2.1)) 42 (0, 8, xI r)) := xSm.hs2
        have j41 : iv (hs (hs h3 41 (0, 8, xI s.2.1)) 42 (0, 8, xI r)) 41 = s.2.1 := by rw [iv_n (by decide), iv_hs]
        have j42 : iv (hs (hs h3 41 (0, 8, xI s.2.1)) 42 (0, 8, xI r)) 42 = r := iv_hs
        show xWP G l mX0_walk d (zM G Q) 0 0 76 _ (xpush none []) (hs (hs h3 41 (0, 8, xI s.2.1)) 42 (0, 8, xI r))
        generalize hs (hs h3 41 (0, 8, xI s.2.1)) 42 (0, 8, xI r) = h5 at hC5 hS5 j41 j42 ⊢
        have e85 : hSt h5 k := by unfold hSt; rw [hS5.2 37 (by decide)]; exact e83
        have e95 : hSh h5 (zShr s.2.2 r s.2.1) := by unfold hSh; rw [hS5.2 37 (by decide)]; exact e93
        have hC := hC5
        refine x_aload_n (i := 0) dX0_walk_76 rfl rfl rfl ?_
        refine x_dup dX0_walk_77 rfl rfl ?_
        refine x_getM (a := 37) dX0_walk_78 rfl fX0_31 hC rfl e85 ?_
        refine x_iconst dX0_walk_81 rfl iC_1 ?_
        refine x_iadd dX0_walk_82 rfl ?_
        rw [show nI k + nI 1 = nI (k + 1) from nI_add k 1]
        refine x_putC (a := 37) dX0_walk_83 rfl fX0_31 (fun q hq => by cases hq; rfl) hC rfl ⟨rfl, rfl⟩ ?_
        refine x_goto (tgt := 26) dX0_walk_86 rfl ?_
        have hC6 := hC.setF (a := 37) (ci := 0) (kf := 8) (v := .int (nI (k + 1))) rfl NF_37_8 (by decide)
        refine x_to (ih c32 _ (s.2.1, r, zShr s.2.2 r s.2.1) hC6 (((hSw.tr hS3).tr (hS5.tr xSm.hs1)).sub (by simp)) ?_ ?_ fv_eq ?_ (oSplit_bd hq).2 ?_) ⟨rfl, trivial⟩
        · rw [iv_n (by decide)]
          exact j41
        · rw [iv_n (by decide)]
          exact j42
        · exact (fv_ne (by decide)).trans e95
        · rw [er, zRun, hq, show 60 - (k + 1) = m by omega]
      · rw [e1, e2] at hq
        refine x_if_eq_t (tgt := 89) dX0_walk_47 rfl nI_0 ?_
        refine x_return dX0_walk_89 rfl ?_
        rw [er, zRun, hq] at K
        refine K h2 hC2 ((hS.tr hS2).sub (by simp)) ((hS2.iv (by decide)).trans e1) ((hS2.iv (by decide)).trans e2) ?_ ?_
        · unfold hSt
          rw [hS2.2 37 (by decide)]
          exact e3
        · unfold hSh
          rw [hS2.2 37 (by decide)]
          exact e4) 0 (Nat.zero_le _)
  refine x_to (key _ (iv h a, iv h b, 0) hC4 ((hS2.tr (xSm.hs1.tr xSm.hs1)).sub (by simp)) ?_ ?_ ?_ fv_eq hbd rfl) ⟨rfl, trivial⟩
  · rw [iv_n (by decide), iv_n (by decide)]
    exact e41
  · rw [iv_n (by decide), iv_n (by decide)]
    exact e42
  · exact (fv_ne (by decide)).trans fv_eq
theorem c_lastOfWalk (hd : 1 ≤ d) (hC : Cs h) (Kt : (∀ j, j < 8 → iv h 42 j = nI 0) → Q (some (.ref 41)) h) (Kf : ¬ (∀ j, j < 8 → iv h 42 j = nI 0) → Q (some (.ref 42)) h) : xCt G l mX0_lastOfWalk d [.ref 37] h 0 0 Q := by
  refine xCt_of (by decide) (Nat.le_of_ble_eq_true rfl) ?_
  refine x_aload_n (i := 0) dX0_lastOfWalk_0 rfl rfl rfl ?_
  refine x_getC dX0_lastOfWalk_1 rfl fX0_24 hC rfl F_37_6 ?_
  refine x_callS0 (As := [_]) (d2 := d - 1) dX0_lastOfWalk_4 rfl kX0_93 okX5_isZero (by omega) rfl rfl (Nat.le_of_ble_eq_true rfl) (c_isZero (hC.v rfl) (fun z => ?_) (fun z => ?_))
  · refine x_if_eq_f (tgt := 17) dX0_lastOfWalk_7 rfl rfl nb1 ?_
    refine x_aload_n (i := 0) dX0_lastOfWalk_10 rfl rfl rfl ?_
    refine x_getC dX0_lastOfWalk_11 rfl fX0_21 hC rfl F_37_5 ?_
    refine x_goto (tgt := 21) dX0_lastOfWalk_14 rfl ?_
    refine x_areturn dX0_lastOfWalk_21 rfl (Or.inr ⟨_, rfl⟩) ?_
    exact Kt z
  · refine x_if_eq_t (tgt := 17) dX0_lastOfWalk_7 rfl nI_0 ?_
    refine x_aload_n (i := 0) dX0_lastOfWalk_17 rfl rfl rfl ?_
    refine x_getC dX0_lastOfWalk_18 rfl fX0_24 hC rfl F_37_6 ?_
    refine x_areturn dX0_lastOfWalk_21 rfl (Or.inr ⟨_, rfl⟩) ?_
    exact Kf z
theorem c_lastNorm (hd : 2 ≤ d) (hC : Cs h) (K : Q (some (.long (zInn (iv h 42) (iv h 42) 8))) h) : xCt G l mX0_lastNormBy4 d [.ref 37] h 0 0 Q := by
  refine xCt_of (by decide) (Nat.le_of_ble_eq_true rfl) ?_
  refine x_aload_n (i := 0) dX0_lastNormBy4_0 rfl rfl rfl ?_
  refine x_getC dX0_lastNormBy4_1 rfl fX0_24 hC rfl F_37_6 ?_
  refine x_callS0 (As := [_]) (d2 := d - 1) dX0_lastNormBy4_4 rfl kX0_47 okX5_normBy4 (by omega) rfl rfl (Nat.le_of_ble_eq_true rfl) (c_normBy4 (by omega) (hC.v rfl) ?_)
  refine x_lreturn dX0_lastNormBy4_7 rfl ?_
  exact K
/-- y divides x, on a side -/
def zDv (o : Nat) (y : Nat → Int32) (m : Nat) (x : Nat → Int32) (right : Nat) : Prop := zWB o (if right = 0 then zM4 (zMir y) x else zM4 x (zMir y)) (2 * (nI m).toInt64)
theorem c_divides {y x m o right : Nat} (hd : 3 ≤ d) (hC : Cs h) (ho : hOrd h o) (ho8 : o < 8) (hy : csV y) (hx : csV x) (hx4 : x ≠ 40) (hm : 1 ≤ m ∧ m ≤ 3) (hr : right < 2)
    (Kt : zDv o (iv h y) m (iv h x) right → ∀ h2, Cs h2 → xSm [40, 43] h h2 → Q (some (.int (nI 1))) h2)
    (Kf : ¬ zDv o (iv h y) m (iv h x) right → ∀ h2, Cs h2 → xSm [40, 43] h h2 → Q (some (.int (nI 0))) h2) : xCt G l mX0_divides d [.ref 37, .ref y, .int (nI m), .ref x, .int (nI right)] h 0 0 Q := by
  have vx := hC.v hx
  have vy := hC.v hy
  have v40 := hC.v (a := 40) rfl
  have v43 := hC.j (a := 43) rfl
  have hn1 : (1 : Int64) ≤ 2 * (nI m).toInt64 := by
    rcases (show m = 1 ∨ m = 2 ∨ m = 3 by omega) with rfl | rfl | rfl <;> decide
  refine xCt_of (by decide) (Nat.le_of_ble_eq_true rfl) ?_
  refine x_aload_n (i := 0) dX0_divides_0 rfl rfl rfl ?_
  refine x_getC dX0_divides_1 rfl fX0_18 hC rfl F_37_4 ?_
  refine x_aload_n (i := 1) dX0_divides_4 rfl rfl rfl ?_
  refine x_callS0 (As := [_, _]) (d2 := d - 1) dX0_divides_5 rfl kX0_55 okX5_layMirrored (by omega) rfl rfl (Nat.le_of_ble_eq_true rfl) (c_layMirrored v40 vy ?_)
  have hC1 := hC.setI (f := zMir (iv h y)) v40 (Or.inl rfl) (by decide)
  have vx1 := hs_ne (c := (0, 8, xI (zMir (iv h y)))) hx4 vx
  have v43' := hs_ne (c := (0, 8, xI (zMir (iv h y)))) (show 43 ≠ 40 by decide) v43
  have fin : ∀ w, w = (if right = 0 then zM4 (zMir (iv h y)) (iv h x) else zM4 (iv h x) (zMir (iv h y))) → xWP G l mX0_divides d (zM G Q) 0 0 40 (xls [(0, .ref 37), (2, .int (nI m))]) [] (hs (hs h 40 (0, 8, xI (zMir (iv h y)))) 43 (1, 8, xJ w)) := by
    intro w hw
    have hC2 := hC1.setJ (f := w) v43'
    have ho2 : hOrd (hs (hs h 40 (0, 8, xI (zMir (iv h y)))) 43 (1, 8, xJ w)) o := by
      unfold hOrd
      rw [fv_n (by decide), fv_n (by decide)]
      exact ho
    have hC := hC2
    refine x_aload_n (i := 0) dX0_divides_40 rfl rfl rfl ?_
    refine x_getC dX0_divides_41 rfl fX0_39 hC rfl F_37_0 ?_
    refine x_aload_n (i := 0) dX0_divides_44 rfl rfl rfl ?_
    refine x_getC dX0_divides_45 rfl fX0_27 hC rfl F_37_7 ?_
    refine x_ldc2 dX0_divides_48 rfl cX0_97 ?_
    refine x_iload_n (i := 2) dX0_divides_51 rfl rfl rfl ?_
    refine x_i2l dX0_divides_52 rfl ?_
    refine x_lmul dX0_divides_53 rfl ?_
    refine x_callV0 (ci := 2) (b := 14) (As := [_, _]) (d2 := d - 1) dX0_divides_54 rfl kX0_99 okX2_isWholeBy (hC.o rfl) (fun q hq => by cases hq; rfl) (by omega) rfl rfl (Nat.le_of_ble_eq_true rfl) (c_isWholeBy (by omega) hC ho2 ho8 hs_eq hn1 (fun z => ?_) (fun z => ?_))
    · refine x_ireturn dX0_divides_57 rfl rfl ?_
      exact Kt (by unfold zDv; rw [← hw]; exact z) _ hC2 xSm.hs2
    · refine x_ireturn dX0_divides_57 rfl rfl ?_
      exact Kf (by unfold zDv; rw [← hw]; exact z) _ hC2 xSm.hs2
  refine x_iload dX0_divides_8 rfl rfl ?_
  refine x_if_eq (tgt := 28) dX0_divides_10 rfl rfl (fun c10 => ?_) (fun c10 => ?_)
  · have hr0 : right = 0 := (nI_eq (by omega) (by omega)).mp (c10.trans nI_0.symm)
    refine x_aload_n (i := 0) dX0_divides_28 rfl rfl rfl ?_
    refine x_getC dX0_divides_29 rfl fX0_27 hC1 rfl F_37_7 ?_
    refine x_aload_n (i := 0) dX0_divides_32 rfl rfl rfl ?_
    refine x_getC dX0_divides_33 rfl fX0_18 hC1 rfl F_37_4 ?_
    refine x_aload_n (i := 3) dX0_divides_36 rfl rfl rfl ?_
    refine x_callS0 (As := [_, _, _]) (d2 := d - 1) dX0_divides_37 rfl kX0_59 okX5_multiplyBy4 (by omega) rfl rfl (Nat.le_of_ble_eq_true rfl) (c_multiplyBy4 v43' hs_eq vx1 ?_)
    exact x_to (fin _ (by rw [if_pos hr0])) ⟨rfl, rfl, trivial⟩
  · have hr1 : ¬ right = 0 := fun e => c10 (by rw [e]; exact nI_0)
    refine x_aload_n (i := 0) dX0_divides_13 rfl rfl rfl ?_
    refine x_getC dX0_divides_14 rfl fX0_27 hC1 rfl F_37_7 ?_
    refine x_aload_n (i := 3) dX0_divides_17 rfl rfl rfl ?_
    refine x_aload_n (i := 0) dX0_divides_18 rfl rfl rfl ?_
    refine x_getC dX0_divides_19 rfl fX0_18 hC1 rfl F_37_4 ?_
    refine x_callS0 (As := [_, _, _]) (d2 := d - 1) dX0_divides_22 rfl kX0_59 okX5_multiplyBy4 (by omega) rfl rfl (Nat.le_of_ble_eq_true rfl) (c_multiplyBy4 v43' vx1 hs_eq ?_)
    refine x_goto (tgt := 40) dX0_divides_25 rfl ?_
    exact x_to (fin _ (by rw [if_neg hr1])) ⟨rfl, rfl, trivial⟩
end WALK

