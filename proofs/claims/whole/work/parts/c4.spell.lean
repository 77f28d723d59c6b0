/-! EightParts: spellPart, spell -/
theorem phN_3 (N : Nat) : phN N ≤ 3 := by
  unfold phN
  repeat' split
  all_goals decide
theorem RX.sb {b : Bool} {h h2 : xH} {S : St} {rw0 : Nat → Nat} {mk : Nat → Option Nat} {r p v N c v2 N2 : Nat} {g : Nat → Int32} {T2 : List Nat} (hC : Cs h) (hS : RS h S) (hX : RX b h rw0 mk r p v N c g) (B2 : bB h2 v2 N2 T2) (F : bF h v N h2 v2 N2) : RC b h2 S ∧ mF h h2 := by
  obtain ⟨i1, i2, ⟨s, i3⟩, i4, i5⟩ := hX
  obtain ⟨j1, j2, j3, j4, j5, j6, j7⟩ := i5
  obtain ⟨a1, a2, a3, a4⟩ := F
  have h134 := hC.1
  have p3 := phN_3 N
  have st : ∀ a, a < 134 → a ≠ 104 → a ≠ 105 → h2.1 a = h.1 a := fun a q1 q2 q3 => a2 a (by omega) q2 (by omega)
  have big : ∀ a, a < h.2 → 134 ≤ a → (h.1 a).1 ≠ 3 → h2.1 a = h.1 a := fun a q1 q2 q3 => a2 a q1 (by omega) (fun e => q3 (by rw [e, j6]))
  have n31 := st 31 (by decide) (by decide) (by decide)
  have n53 := st 53 (by decide) (by decide) (by decide)
  refine ⟨⟨B2.1, hS.keep (st 14 (by decide) (by decide) (by decide)) (fun j hj => st _ (by omega) (by omega) (by omega)) (st 56 (by decide) (by decide) (by decide)) (st 57 (by decide) (by decide) (by decide)) (st 101 (by decide) (by decide) (by decide)) (st 102 (by decide) (by decide) (by decide)) (st 103 (by decide) (by decide) (by decide)), ?_⟩, ⟨fun a q1 q2 => st a (by omega) (by omega) (by omega), a1, by omega⟩⟩
  obtain ⟨hC2, ⟨f0, f1, f3⟩, ⟨v1, v2l⟩, ⟨g9, g1, g2, g3⟩, ⟨n1, n2, n3⟩, t1, r1⟩ := B2
  refine ⟨rw0, mk, r, p, v2, N2, T2.length, g9, ?_, ?_, ⟨s, ?_⟩, ?_, ⟨f0, f1, f3, v1, v2l, g1, n1, n2, n3, g2⟩⟩
  · refine i1.keep h134 a1 (st 23 (by decide) (by decide) (by decide)) (st 28 (by decide) (by decide) (by decide)) (st 29 (by decide) (by decide) (by decide)) (fun m hm q1 q2 => big _ q2 q1 ?_)
    rcases (i1.2 m hm).1 with ⟨w1, w2, w3⟩ | ⟨w1, w2, g, o, w3, w4, w5⟩
    · exfalso
      omega
    · rw [w4]
      exact (by decide : (0 : Nat) ≠ 3)
  · refine i2.keep a1 (by rw [n31]) (by rw [n31]) (fun hb q1 q2 => big _ q2 q1 ?_)
    subst hb
    obtain ⟨w1, w2, w3, pf, g, w4, w5, w6⟩ := i2
    rw [w5]
    exact (by decide : (0 : Nat) ≠ 3)
  · exact i3.keep (by rw [n31]) (by unfold iv; rw [st 35 (by decide) (by decide) (by decide)]) (by unfold iv; rw [st 36 (by decide) (by decide) (by decide)])
  · have n55 : iv h2 55 = iv h 55 := by unfold iv; rw [st 55 (by decide) (by decide) (by decide)]
    rcases i4 with ⟨q1, q2, q3⟩ | ⟨⟨q1, q2, q3, q4, q5⟩, q6⟩
    · exact Or.inl ⟨q1, by rw [n53]; exact q2, fun i hi => by rw [n55]; exact q3 i hi⟩
    · refine Or.inr ⟨⟨by rw [n53]; exact q1, q2, by omega, (big p (by omega) q2 (by rw [q4]; exact (by decide : (4 : Nat) ≠ 3))).trans q4, fun i hi => ?_⟩, fun i hi => by rw [n55]; exact q6 i hi⟩
      have w := q5 i hi
      have e := big (p + 1 + i) (by omega) (by omega) (by unfold xV8 at w; rw [w]; exact (by decide : (0 : Nat) ≠ 3))
      unfold xV8 at w ⊢
      unfold iv at w ⊢
      rw [e]
      exact w
section SPL
variable {G : xG} {l : Launch} {d : Nat} {h : xH} {Q : Option Value → xH → Prop} {v N : Nat} {T : List Nat} {b : Bool} {S : St}
theorem c_spP {w : Int32} {p : Nat} (hd : 9 ≤ d) (hB : bB h v N T) (hw : -20000 ≤ w.toInt ∧ w.toInt ≤ 20000) (hp : p < 8) (hl : T.length ≤ 70) (K : ∀ h2 v2 N2, bB h2 v2 N2 (txP T p w) → bF h v N h2 v2 N2 → Q none h2) : xCt G l mX11_spellPart d [.ref 0, .int w, .int (nI p)] h 3 480 Q := by
  have p3 := phN_3 N
  obtain ⟨ab1, ab2, ab3, ab4⟩ := abs_p hw
  have hC := hB.1
  have nB := hB.2.2.2.2.1
  refine xCt_of (by decide) (Nat.le_of_ble_eq_true rfl) ?_
  refine x_less (k2 := phN N) (n2 := 160 * phN N) p3 (by omega) ?_
  refine x_iload_n (i := 1) dX11_spellPart_0 rfl rfl rfl ?_
  refine x_if_ne (tgt := 5) dX11_spellPart_1 rfl rfl (fun c1 => ?_) (fun c1 => ?_)
  rotate_left
  · have vz : w = 0 := by
      first
      | exact c1
      | exact Classical.byContradiction (fun z => c1 z)
    refine x_return dX11_spellPart_4 rfl ?_
    exact K h v N (by rw [show txP T p w = T from if_pos vz]; exact hB) bF.rf
  have vz : ¬ w = 0 := c1
  have e1 : txP T p w = txN (txS T w) w.toInt.natAbs ++ [101] ++ [48 + p] := if_neg vz
  have dp : dcs p = [48 + p] := if_pos (by omega)
  rw [e1] at K
  have beh : ∀ h3 v3 N3, bB h3 v3 N3 (txS T w) → bF h v N h3 v3 N3 → (txS T w).length ≤ 71 → xWP G l mX11_spellPart d (zM G Q) (phN N3) (160 * phN N3) 42 (xls [(0, .ref 0), (1, .int w), (2, .int (nI p))]) [] h3 := by
    intro h3 v3 N3 B3 F3 l3
    have hC := B3.1
    generalize txS T w = M at *
    have fin : ∀ h4 v4 N4, bB h4 v4 N4 (txN M w.toInt.natAbs) → bF h v N h4 v4 N4 → (txN M w.toInt.natAbs).length ≤ 78 → xWP G l mX11_spellPart d (zM G Q) (phN N4) (160 * phN N4) 82 (xls [(0, .ref 0), (2, .int (nI p))]) [] h4 := by
      intro h4 v4 N4 B4 F4 l4
      have hC := B4.1
      generalize txN M w.toInt.natAbs = M2 at *
      have n4 := B4.2.2.2.2.1
      have pay := g_pay (N := N4) (m := M2.length + 1) n4.1 (by omega)
      refine x_aload_n (i := 0) dX11_spellPart_82 rfl rfl rfl ?_
      refine x_getC dX11_spellPart_83 rfl fX11_97 hC rfl F_0_11 ?_
      refine x_bipush dX11_spellPart_86 rfl bC_101 ?_
      refine x_callV (ci := 13) (b := 104) (As := [_]) (d2 := d - 1) (mc2 := gC N4 (M2.length + 1)) (ms2 := gZ N4 (M2.length + 1)) (k2 := phN (gN N4 (M2.length + 1))) (n2 := 160 * phN (gN N4 (M2.length + 1))) dX11_spellPart_88 rfl kX11_253 okJ4_append_cf468 (hC.o rfl) (fun q hq => by cases hq; rfl) (by omega) rfl rfl (Nat.le_of_ble_eq_true rfl) (by omega) (by omega) (c_apC (c := 101) (by omega) B4 (by decide) (by omega) (fun h5 v5 B5 F5 => ?_))
      have hC := B5.1
      generalize gN N4 (M2.length + 1) = N5 at *
      have n5 := B5.2.2.2.2.1
      have l5 : (M2 ++ [101]).length = M2.length + 1 := List.length_append
      have ld : (dcs p).length = 1 := by rw [dp]; rfl
      generalize hM3 : M2 ++ [101] = M3 at *
      have pay5 := g_pay (N := N5) (m := M3.length + (dcs p).length) n5.1 (by omega)
      refine x_iload_n (i := 2) dX11_spellPart_91 rfl rfl rfl ?_
      refine x_callV (ci := 13) (b := 104) (As := [_]) (d2 := d - 1) (mc2 := gC N5 (M3.length + (dcs p).length)) (ms2 := gZ N5 (M3.length + (dcs p).length)) (k2 := 0) (n2 := 0) dX11_spellPart_92 rfl kX11_381 okJ4_append_bf812 (hC.o rfl) (fun q hq => by cases hq; rfl) (by omega) rfl rfl (Nat.le_of_ble_eq_true rfl) (by omega) (by omega) (c_apI (s := p) (by omega) B5 (by omega) (by omega) (fun h6 v6 B6 F6 => ?_))
      refine x_pop dX11_spellPart_95 rfl rfl ?_
      refine x_return dX11_spellPart_96 rfl ?_
      rw [dp] at B6 F6
      exact K h6 v6 _ B6 (F4.tr (F5.tr F6))
    refine x_iload_n (i := 1) dX11_spellPart_42 rfl rfl rfl ?_
    refine x_callS0 (As := [_]) (d2 := d - 1) dX11_spellPart_43 rfl kX11_378 okJ9_abs_0f7a4 (by omega) rfl rfl (Nat.le_of_ble_eq_true rfl) (c_absI hw ?_)
    generalize w.toInt.natAbs = s at *
    refine x_istore_n (i := 3) dX11_spellPart_46 rfl rfl (by decide) ?_
    refine x_iload_n (i := 3) dX11_spellPart_47 rfl rfl rfl ?_
    refine x_iconst dX11_spellPart_48 rfl iC_2 ?_
    refine x_irem dX11_spellPart_49 rfl (by decide) ?_
    rw [remN (by decide) (by omega) (by decide)]
    by_cases ev : s % 2 = 0
    · have en : txN M s = M ++ dcs (s / 2) := if_pos ev
      have dl := dcs_len (s / 2)
      have n3 := B3.2.2.2.2.1
      have pay := g_pay (N := N3) (m := M.length + (dcs (s / 2)).length) n3.1 (by omega)
      rw [ev]
      refine x_if_ne_f (tgt := 67) dX11_spellPart_50 rfl rfl nI_0 ?_
      refine x_aload_n (i := 0) dX11_spellPart_53 rfl rfl rfl ?_
      refine x_getC dX11_spellPart_54 rfl fX11_97 hC rfl F_0_11 ?_
      refine x_iload_n (i := 3) dX11_spellPart_57 rfl rfl rfl ?_
      refine x_iconst dX11_spellPart_58 rfl iC_2 ?_
      refine x_idiv dX11_spellPart_59 rfl (by decide) ?_
      rw [show nI s / nI 2 = nI (s / 2) from pk_div (by omega) (by omega) (by omega)]
      refine x_callV (ci := 13) (b := 104) (As := [_]) (d2 := d - 1) (mc2 := gC N3 (M.length + (dcs (s / 2)).length)) (ms2 := gZ N3 (M.length + (dcs (s / 2)).length)) (k2 := phN (gN N3 (M.length + (dcs (s / 2)).length))) (n2 := 160 * phN (gN N3 (M.length + (dcs (s / 2)).length))) dX11_spellPart_60 rfl kX11_381 okJ4_append_bf812 (hC.o rfl) (fun q hq => by cases hq; rfl) (by omega) rfl rfl (Nat.le_of_ble_eq_true rfl) (by omega) (by omega) (c_apI (s := s / 2) (by omega) B3 (by omega) (by omega) (fun h4 v4 B4 F4 => ?_))
      refine x_pop dX11_spellPart_63 rfl rfl ?_
      refine x_goto (tgt := 82) dX11_spellPart_64 rfl ?_
      exact x_to (fin h4 v4 _ (by rw [en]; exact B4) (F3.tr F4) (by rw [en, List.length_append]; omega)) ⟨rfl, rfl, trivial⟩
    · have od : s % 2 = 1 := by omega
      have en : txN M s = M ++ dcs s ++ [47, 50] := if_neg ev
      have dl := dcs_len s
      have n3 := B3.2.2.2.2.1
      have pay := g_pay (N := N3) (m := M.length + (dcs s).length) n3.1 (by omega)
      rw [od]
      refine x_if_ne_t (tgt := 67) dX11_spellPart_50 rfl nb1 ?_
      refine x_aload_n (i := 0) dX11_spellPart_67 rfl rfl rfl ?_
      refine x_getC dX11_spellPart_68 rfl fX11_97 hC rfl F_0_11 ?_
      refine x_iload_n (i := 3) dX11_spellPart_71 rfl rfl rfl ?_
      refine x_callV (ci := 13) (b := 104) (As := [_]) (d2 := d - 1) (mc2 := gC N3 (M.length + (dcs s).length)) (ms2 := gZ N3 (M.length + (dcs s).length)) (k2 := phN (gN N3 (M.length + (dcs s).length))) (n2 := 160 * phN (gN N3 (M.length + (dcs s).length))) dX11_spellPart_72 rfl kX11_381 okJ4_append_bf812 (hC.o rfl) (fun q hq => by cases hq; rfl) (by omega) rfl rfl (Nat.le_of_ble_eq_true rfl) (by omega) (by omega) (c_apI (s := s) (by omega) B3 (by omega) (by omega) (fun h4 v4 B4 F4 => ?_))
      have hC := B4.1
      have l4 : (M ++ dcs s).length = M.length + (dcs s).length := List.length_append
      generalize gN N3 (M.length + (dcs s).length) = N4 at *
      have n4 := B4.2.2.2.2.1
      have pay4 := g_pay (N := N4) (m := (M ++ dcs s).length + 2) n4.1 (by omega)
      refine x_ldcT dX11_spellPart_75 rfl rfl rfl ?_
      refine x_callV (ci := 13) (b := 104) (As := [_]) (d2 := d - 1) (mc2 := gC N4 ((M ++ dcs s).length + 2)) (ms2 := gZ N4 ((M ++ dcs s).length + 2)) (k2 := phN (gN N4 ((M ++ dcs s).length + 2))) (n2 := 160 * phN (gN N4 ((M ++ dcs s).length + 2))) dX11_spellPart_78 rfl kX11_386 okJ4_append_15ec4 (hC.o rfl) (fun q hq => by cases hq; rfl) (by omega) rfl rfl (Nat.le_of_ble_eq_true rfl) (by omega) (by omega) (c_apS (by omega) B4 (by omega) (fun h5 v5 B5 F5 => ?_))
      refine x_pop dX11_spellPart_81 rfl rfl ?_
      exact x_to (fin h5 v5 _ (by rw [en]; exact B5) (F3.tr (F4.tr F5)) (by rw [en, List.length_append, l4]; show _ + 2 ≤ 78; omega)) ⟨rfl, rfl, trivial⟩
  have pay := g_pay (N := N) (m := T.length + 1) nB.1 (by omega)
  refine x_iload_n (i := 1) dX11_spellPart_5 rfl rfl rfl ?_
  refine x_if_ge (tgt := 22) dX11_spellPart_6 rfl rfl (fun c6 => ?_) (fun c6 => ?_)
  · have nn : ¬ w < 0 := Int32.not_lt.mpr c6
    refine x_aload_n (i := 0) dX11_spellPart_22 rfl rfl rfl ?_
    refine x_getC dX11_spellPart_23 rfl fX11_97 hC rfl F_0_11 ?_
    refine x_callV0 (ci := 13) (b := 104) (As := []) (d2 := d - 1) dX11_spellPart_26 rfl kX11_251 okJ4_length_8abf5 (hC.o rfl) (fun q hq => by cases hq; rfl) (by omega) rfl rfl (Nat.le_of_ble_eq_true rfl) (c_len (by omega) hB ?_)
    by_cases z : T.length = 0
    · have e2 : txS T w = T := by unfold txS; rw [if_neg nn, if_pos z]
      rw [z]
      refine x_if_le_t (tgt := 42) dX11_spellPart_29 rfl (by decide) ?_
      exact x_to (beh h v N (by rw [e2]; exact hB) bF.rf (by rw [e2]; omega)) ⟨rfl, rfl, rfl, trivial⟩
    · have e2 : txS T w = T ++ [43] := by unfold txS; rw [if_neg nn, if_neg z]
      have pos : ¬ nI T.length ≤ 0 := by
        intro q
        have := (nI_leI (a := T.length) (b := 0) (by omega) (by decide)).mp (by rw [nI_0]; exact q)
        omega
      refine x_if_le_f (tgt := 42) dX11_spellPart_29 rfl rfl pos ?_
      refine x_aload_n (i := 0) dX11_spellPart_32 rfl rfl rfl ?_
      refine x_getC dX11_spellPart_33 rfl fX11_97 hC rfl F_0_11 ?_
      refine x_bipush dX11_spellPart_36 rfl bC_43 ?_
      refine x_callV (ci := 13) (b := 104) (As := [_]) (d2 := d - 1) (mc2 := gC N (T.length + 1)) (ms2 := gZ N (T.length + 1)) (k2 := phN (gN N (T.length + 1))) (n2 := 160 * phN (gN N (T.length + 1))) dX11_spellPart_38 rfl kX11_253 okJ4_append_cf468 (hC.o rfl) (fun q hq => by cases hq; rfl) (by omega) rfl rfl (Nat.le_of_ble_eq_true rfl) (by omega) (by omega) (c_apC (c := 43) (by omega) hB (by decide) (by omega) (fun h3 v3 B3 F3 => ?_))
      refine x_pop dX11_spellPart_41 rfl rfl ?_
      exact x_to (beh h3 v3 _ (by rw [e2]; exact B3) F3 (by rw [e2, List.length_append]; show _ + 1 ≤ 71; omega)) ⟨rfl, rfl, rfl, trivial⟩
  · have nn : w < 0 := Int32.not_le.mp c6
    have e2 : txS T w = T ++ [45] := if_pos nn
    refine x_aload_n (i := 0) dX11_spellPart_9 rfl rfl rfl ?_
    refine x_getC dX11_spellPart_10 rfl fX11_97 hC rfl F_0_11 ?_
    refine x_bipush dX11_spellPart_13 rfl bC_45 ?_
    refine x_callV (ci := 13) (b := 104) (As := [_]) (d2 := d - 1) (mc2 := gC N (T.length + 1)) (ms2 := gZ N (T.length + 1)) (k2 := phN (gN N (T.length + 1))) (n2 := 160 * phN (gN N (T.length + 1))) dX11_spellPart_15 rfl kX11_253 okJ4_append_cf468 (hC.o rfl) (fun q hq => by cases hq; rfl) (by omega) rfl rfl (Nat.le_of_ble_eq_true rfl) (by omega) (by omega) (c_apC (c := 45) (by omega) hB (by decide) (by omega) (fun h3 v3 B3 F3 => ?_))
    refine x_pop dX11_spellPart_18 rfl rfl ?_
    refine x_goto (tgt := 42) dX11_spellPart_19 rfl ?_
    exact x_to (beh h3 v3 _ (by rw [e2]; exact B3) F3 (by rw [e2, List.length_append]; show _ + 1 ≤ 71; omega)) ⟨rfl, rfl, rfl, trivial⟩
theorem p_spell {a i : Int32} (hd : 12 ≤ d) (hR : RC b h S) (hh : h.2 < 800000) (K : ∀ r S2 h2, sp_spell S a i = (r, S2) → RC b h2 S2 → mF h h2 → Q (some (.int r)) h2) : xCt G l mX11_spell d [.ref 0, .int a, .int i] h 27 4320 Q := by
  have hR0 := hR
  obtain ⟨hC, hS, rw0, mk, r, p0, v, N, c, g, hX⟩ := hR
  have hC0 := hC
  have p3 := phN_3 N
  refine xCt_of (by decide) (Nat.le_of_ble_eq_true rfl) ?_
  refine x_iload_n (i := 1) dX11_spell_0 rfl rfl rfl ?_
  refine x_callS0 (As := [_]) (d2 := d - 1) dX11_spell_1 rfl kX11_115 okX11_isEighth (by omega) rfl rfl (Nat.le_of_ble_eq_true rfl) (c_isEighth (fun z => ?_) (fun x hx ex qx => ?_))
  · refine x_if_eq_t (tgt := 12) dX11_spell_4 rfl nI_0 ?_
    refine x_iconst dX11_spell_12 rfl iC_m1 ?_
    refine x_ireturn dX11_spell_13 rfl rfl ?_
    exact K _ _ _ (by simp only [sp_spell, z]) hR0 mF.rf
  subst ex
  refine x_if_eq_f (tgt := 12) dX11_spell_4 rfl rfl nb1 ?_
  refine x_iload_n (i := 2) dX11_spell_7 rfl rfl rfl ?_
  refine x_iconst dX11_spell_8 rfl iC_m1 ?_
  refine x_ic_ge (tgt := 14) dX11_spell_9 rfl rfl (fun c9 => ?_) (fun c9 => ?_)
  rotate_left
  · refine x_iconst dX11_spell_12 rfl iC_m1 ?_
    refine x_ireturn dX11_spell_13 rfl rfl ?_
    exact K _ _ _ (by simp only [sp_spell, qx]; exact if_pos (Int32.not_le.mp c9)) hR0 mF.rf
  have i1 : ¬ i < -1 := Int32.not_lt.mpr c9
  have en : sp_spell S (nI x) i = if i = -1 then (nI (tx (S.1 x)).length, S) else if i < nI (tx (S.1 x)).length then (nI ((tx (S.1 x)).getD i.toInt.toNat 0), S) else (-1, S) := by simp only [sp_spell, qx]; exact if_neg i1
  have tl := tx_len (S.1 x)
  have sl := hR0.sl hx
  refine x_aload_n (i := 0) dX11_spell_14 rfl rfl rfl ?_
  refine x_getC dX11_spell_15 rfl fX11_97 hC rfl F_0_11 ?_
  refine x_iconst dX11_spell_18 rfl iC_0 ?_
  refine x_callV0 (ci := 13) (b := 104) (As := [_]) (d2 := d - 1) dX11_spell_19 rfl kX11_244 okJ4_setLength_d00df (hC.o rfl) (fun q hq => by cases hq; rfl) (by omega) rfl rfl (Nat.le_of_ble_eq_true rfl) (c_slz (by omega) hC hX.2.2.2.2 (by omega) (fun h1 B1 F1 => ?_))
  have aft : ∀ h3 v3 N3, bB h3 v3 N3 (tx (S.1 x)) → bF h v N h3 v3 N3 → xWP G l mX11_spell d (zM G Q) 0 0 69 (xls [(0, .ref 0), (2, .int i)]) [] h3 := by
    intro h3 v3 N3 B3 F3
    obtain ⟨R3, M3⟩ := RX.sb hC hS hX B3 F3
    have hC := B3.1
    generalize tx (S.1 x) = T at *
    refine x_iload_n (i := 2) dX11_spell_69 rfl rfl rfl ?_
    refine x_iconst dX11_spell_70 rfl iC_m1 ?_
    refine x_ic_ne (tgt := 82) dX11_spell_71 rfl rfl (fun c71 => ?_) (fun c71 => ?_)
    rotate_left
    · have e1 : i = -1 := by
        first
        | exact c71
        | exact Classical.byContradiction (fun z => c71 z)
      refine x_aload_n (i := 0) dX11_spell_74 rfl rfl rfl ?_
      refine x_getC dX11_spell_75 rfl fX11_97 hC rfl F_0_11 ?_
      refine x_callV0 (ci := 13) (b := 104) (As := []) (d2 := d - 1) dX11_spell_78 rfl kX11_251 okJ4_length_8abf5 (hC.o rfl) (fun q hq => by cases hq; rfl) (by omega) rfl rfl (Nat.le_of_ble_eq_true rfl) (c_len (by omega) B3 ?_)
      refine x_ireturn dX11_spell_81 rfl rfl ?_
      exact K _ _ _ (by rw [en, if_pos e1]) R3 M3
    have ne1 : ¬ i = -1 := c71
    refine x_iload_n (i := 2) dX11_spell_82 rfl rfl rfl ?_
    refine x_aload_n (i := 0) dX11_spell_83 rfl rfl rfl ?_
    refine x_getC dX11_spell_84 rfl fX11_97 hC rfl F_0_11 ?_
    refine x_callV0 (ci := 13) (b := 104) (As := []) (d2 := d - 1) dX11_spell_87 rfl kX11_251 okJ4_length_8abf5 (hC.o rfl) (fun q hq => by cases hq; rfl) (by omega) rfl rfl (Nat.le_of_ble_eq_true rfl) (c_len (by omega) B3 ?_)
    refine x_ic_ge (tgt := 104) dX11_spell_90 rfl rfl (fun c90 => ?_) (fun c90 => ?_)
    · refine x_iconst dX11_spell_104 rfl iC_m1 ?_
      refine x_ireturn dX11_spell_105 rfl rfl ?_
      exact K _ _ _ (by rw [en, if_neg ne1, if_neg (Int32.not_lt.mpr c90)]) R3 M3
    · have lt : i < nI T.length := Int32.not_le.mp c90
      have q1 := Int32.lt_iff_toInt_lt.mp lt
      rw [nI_toInt (by omega)] at q1
      have q2 := Int32.le_iff_toInt_le.mp (Int32.not_lt.mp i1)
      have em : (-1 : Int32).toInt = -1 := rfl
      have q3 : i.toInt ≠ -1 := fun z => ne1 (Int32.toInt_inj.mp (by rw [z, em]))
      obtain ⟨k, hk⟩ : ∃ k : Nat, i.toInt = k := ⟨i.toInt.toNat, by omega⟩
      have ei : i = nI k := Int32.toInt_inj.mp (by rw [nI_toInt (by omega)]; exact hk)
      have ek : i.toInt.toNat = k := by omega
      rw [ek] at en
      rw [ei] at en ne1 lt ⊢
      refine x_aload_n (i := 0) dX11_spell_93 rfl rfl rfl ?_
      refine x_getC dX11_spell_94 rfl fX11_97 hC rfl F_0_11 ?_
      refine x_iload_n (i := 2) dX11_spell_97 rfl rfl rfl ?_
      refine x_callV0 (ci := 13) (b := 104) (As := [_]) (d2 := d - 1) dX11_spell_98 rfl kX11_256 okJ4_charAt_5068e (hC.o rfl) (fun q hq => by cases hq; rfl) (by omega) rfl rfl (Nat.le_of_ble_eq_true rfl) (c_cat (i := k) (by omega) B3 (by omega) ?_)
      refine x_goto (tgt := 105) dX11_spell_101 rfl ?_
      refine x_ireturn dX11_spell_105 rfl rfl ?_
      exact K _ _ _ (by rw [ei]; rw [en, if_neg ne1, if_pos lt]) R3 M3
  refine x_iconst dX11_spell_22 rfl iC_0 ?_
  refine x_istore_n (i := 3) dX11_spell_23 rfl rfl (by decide) ?_
  have key := xloop (P := fun p => ∀ h2 v2 N2, bB h2 v2 N2 (txA (S.1 x) p) → bF h v N h2 v2 N2 → xWP G l mX11_spell d (zM G Q) (3 * (8 - p) + 3) (480 * (8 - p) + 480) 24 (xls [(0, .ref 0), (1, .int (nI x)), (2, .int i), (3, .int (nI p))]) [] h2) 8 (by
    intro p hp ih h2 v2 N2 B2 F2
    have hC2 := B2.1
    have ln := txA_len (S.1 x) p
    have hC := hC2
    refine x_iload_n (i := 3) dX11_spell_24 rfl rfl rfl ?_
    refine x_bipush dX11_spell_25 rfl bC_8 ?_
    refine x_jc_ge (tgt := 49) dX11_spell_27 rfl rfl (by omega) (by omega) (fun c27 => ?_) (fun c27 => ?_)
    · obtain rfl : p = 8 := by omega
      refine x_less (k2 := 3) (n2 := 480) (by omega) (by omega) ?_
      refine x_aload_n (i := 0) dX11_spell_49 rfl rfl rfl ?_
      refine x_getC dX11_spell_50 rfl fX11_97 hC rfl F_0_11 ?_
      refine x_callV0 (ci := 13) (b := 104) (As := []) (d2 := d - 1) dX11_spell_53 rfl kX11_251 okJ4_length_8abf5 (hC.o rfl) (fun q hq => by cases hq; rfl) (by omega) rfl rfl (Nat.le_of_ble_eq_true rfl) (c_len (by omega) B2 ?_)
      by_cases z : (txA (S.1 x) 8).length = 0
      · have et : tx (S.1 x) = [48] := if_pos z
        have en2 : txA (S.1 x) 8 = [] := List.eq_nil_of_length_eq_zero z
        rw [z]
        rw [en2] at B2
        have n2 := B2.2.2.2.2.1
        have e0 : gC N2 (([] : List Nat).length + 1) = 0 := if_pos (by show 0 + 1 ≤ N2; omega)
        have e00 : gZ N2 (([] : List Nat).length + 1) = 0 := if_pos (by show 0 + 1 ≤ N2; omega)
        refine x_if_ne_f (tgt := 69) dX11_spell_56 rfl rfl nI_0 ?_
        refine x_aload_n (i := 0) dX11_spell_59 rfl rfl rfl ?_
        refine x_getC dX11_spell_60 rfl fX11_97 hC rfl F_0_11 ?_
        refine x_bipush dX11_spell_63 rfl bC_48 ?_
        refine x_callV (ci := 13) (b := 104) (As := [_]) (d2 := d - 1) (mc2 := gC N2 (([] : List Nat).length + 1)) (ms2 := gZ N2 (([] : List Nat).length + 1)) (k2 := 0) (n2 := 0) dX11_spell_65 rfl kX11_253 okJ4_append_cf468 (hC.o rfl) (fun q hq => by cases hq; rfl) (by omega) rfl rfl (Nat.le_of_ble_eq_true rfl) (by omega) (by omega) (c_apC (c := 48) (by omega) B2 (by decide) (by decide) (fun h3 v3 B3 F3 => ?_))
        refine x_pop dX11_spell_68 rfl rfl ?_
        exact x_to (aft h3 v3 _ (by rw [et]; exact B3) (F2.tr F3)) ⟨rfl, rfl, trivial⟩
      · have et : tx (S.1 x) = txA (S.1 x) 8 := if_neg z
        have nz : ¬ nI (txA (S.1 x) 8).length = 0 := fun q => by
          have := (nI_eq (b := 0) (by omega) (by decide)).mp (q.trans nI_0.symm)
          exact z this
        refine x_if_ne_t (tgt := 69) dX11_spell_56 rfl nz ?_
        exact x_less (k2 := 0) (n2 := 0) (by omega) (by omega) (x_to (aft h2 v2 N2 (by rw [et]; exact B2) F2) ⟨rfl, rfl, trivial⟩)
    · have vr := hC.v (csV_slot hx)
      have e9 : h2.1 (2 + x) = h.1 (2 + x) := F2.2.1 (2 + x) (by have := hC0.1; omega) (by omega) (by have := hX.2.2.2.2.2.2.2.1; omega)
      have e8 : iv h2 (2 + x) p = S.1 x p := by
        have : iv h2 (2 + x) = iv h (2 + x) := by unfold iv; rw [e9]
        rw [this, ← sl.1, c8_lt c27]
      have bd : -20000 ≤ (S.1 x p).toInt ∧ (S.1 x p).toInt ≤ 20000 := (hS.2.1 x hx).2 p c27
      refine x_aload_n (i := 0) dX11_spell_30 rfl rfl rfl ?_
      refine x_aload_n (i := 0) dX11_spell_31 rfl rfl rfl ?_
      refine x_getC dX11_spell_32 rfl fX11_11 hC rfl F_0_0 ?_
      refine x_iload_n (i := 1) dX11_spell_35 rfl rfl rfl ?_
      refine x_aaldC (t := 0) dX11_spell_36 rfl hC rfl (by decide) rfl (by omega) (by decide) (csF_slot hx) ?_
      refine x_iload_n (i := 3) dX11_spell_37 rfl rfl rfl ?_
      refine x_iald dX11_spell_38 rfl vr rfl (by omega) (by decide) ?_
      rw [e8]
      refine x_iload_n (i := 3) dX11_spell_39 rfl rfl rfl ?_
      refine x_callV (ci := 11) (b := 0) (As := [_, _]) (d2 := d - 1) (mc2 := 3) (ms2 := 480) (k2 := 3 * (8 - (p + 1)) + 3) (n2 := 480 * (8 - (p + 1)) + 480) dX11_spell_40 rfl kX11_247 okX11_spellPart (hC.o rfl) (fun q hq => by cases hq; rfl) (by omega) rfl rfl (Nat.le_of_ble_eq_true rfl) (by omega) (by omega) (c_spP (by omega) B2 bd c27 (by omega) (fun h3 v3 N3 B3 F3 => ?_))
      refine x_iinc dX11_spell_43 rfl rfl (inc1 _) ?_
      refine x_goto (tgt := 24) dX11_spell_46 rfl ?_
      exact x_to (ih c27 h3 v3 N3 B3 (F2.tr F3)) ⟨rfl, rfl, rfl, rfl, trivial⟩) 0 (Nat.zero_le _) h1 v N B1 F1
  exact x_less (k2 := 3 * (8 - 0) + 3) (n2 := 480 * (8 - 0) + 480) (by omega) (by omega) (x_to key ⟨rfl, rfl, rfl, rfl, trivial⟩)
end SPL

