/-! EightParts$Reader: factors by depth; the whole of the tape -/
section READ
variable {G : xG} {l : Launch} {d : Nat} {h : xH} {Q : Option Value → xH → Prop}
theorem c_factorS {h0 : xH} {n dp : Nat} {nx : Option rdF} (hd : 8 ≤ d) (hn : hTl h0 n) (hn2 : n ≤ 200) (hdp : dp < 13) (hnx : nx = none → dp = 12) (hsx : ∀ f, nx = some f → dp < 12 ∧ rdOk n f ∧ ∀ d2, d - 4 ≤ d2 → ctFac G l d2 h0 n (dp + 1) f) : ctFac G l d h0 n dp (zFacS n (tpB h0) (fun k => iv h0 (2 + k)) dp nx) := by
  intro h s Q hr ha K
  refine xCt_of (by decide) (Nat.le_of_ble_eq_true rfl) ?_
  have hC := hr.1
  unfold zFacS at K
  refine x_aload_n (i := 0) dX6_readFactor_0 rfl rfl rfl ?_
  refine x_callV0 (ci := 6) (b := 58) (As := []) (d2 := d - 1) dX6_readFactor_1 rfl kX6_48 okX6_ahead (hC.o rfl) (fun q hq => by cases hq; rfl) (by omega) rfl rfl (Nat.le_of_ble_eq_true rfl) (c_ahead (by omega) hr hn hn2 ha (fun h1 hr1 => ?_))
  have ha1 := zAhd_le (tb := tpB h0) ha
  have hby : ∀ c, zBy n (tpB h0) (zAhd n (tpB h0) s.1) = c → c ≠ -1 → zAhd n (tpB h0) s.1 < n := fun c e hc => zBy_lt e hc
  generalize zBy n (tpB h0) (zAhd n (tpB h0) s.1) = c at K hby ⊢
  generalize zAhd n (tpB h0) s.1 = a at K hr1 ha1 hby
  have hC := hr1.1
  have hat : (h1.1 58).2.2 6 = .int (nI a) := hr1.2.2.1
  have ft : ¬ (nI 97 ≤ c ∧ c ≤ nI 104) → ¬ zDig c → (¬ (c = nI 126 ∨ c = nI 40) ∨ nx = none) → xWP G l mX6_readFactor d (zM G Q) 0 0 102 (xls [(0, .ref 58), (1, .int (nI dp)), (2, .int c)]) [] h1 := by
    intro q1 q2 q3
    rw [if_neg q1, if_neg q2] at K
    refine x_aload_n (i := 0) dX6_readFactor_102 rfl rfl rfl ?_
    refine x_aload_n (i := 0) dX6_readFactor_103 rfl rfl rfl ?_
    refine x_getM (a := 58) dX6_readFactor_104 rfl fX6_22 hC rfl hat ?_
    refine x_putC (a := 58) dX6_readFactor_107 rfl fX6_26 (fun q hq => by cases hq; rfl) hC rfl ⟨rfl, rfl⟩ ?_
    refine x_return dX6_readFactor_110 rfl ?_
    rcases q3 with q3 | q3
    · rw [if_neg q3] at K
      exact K _ (hr1.fault _)
    · subst q3
      refine K _ ?_
      split
      · exact hr1.fault _
      · exact hr1.fault _
  have k75 : ¬ (nI 97 ≤ c ∧ c ≤ nI 104) → ¬ zDig c → (c = nI 126 ∨ c = nI 40) → xWP G l mX6_readFactor d (zM G Q) 0 0 75 (xls [(0, .ref 58), (1, .int (nI dp)), (2, .int c)]) [] h1 := by
    intro q1 q2 q3
    refine x_iload_n (i := 1) dX6_readFactor_75 rfl rfl rfl ?_
    refine x_bipush dX6_readFactor_76 rfl bC_12 ?_
    refine x_jc_ge (tgt := 102) dX6_readFactor_78 rfl rfl (by omega) (by omega) (fun c78 => ?_) (fun c78 => ?_)
    · refine x_to (ft q1 q2 (Or.inr ?_)) ⟨rfl, rfl, rfl, trivial⟩
      cases nx with
      | none => rfl
      | some f => exact absurd (hsx f rfl).1 (by omega)
    · cases nx with
      | none => exact absurd (hnx rfl) (by omega)
      | some fac =>
        obtain ⟨x1, x2, x3⟩ := hsx fac rfl
        rw [if_neg q1, if_neg q2, if_pos q3] at K
        have hl : a < n := hby c rfl (by rintro rfl; rcases q3 with q | q <;> exact absurd q (by decide))
        refine x_aload_n (i := 0) dX6_readFactor_81 rfl rfl rfl ?_
        refine x_dup dX6_readFactor_82 rfl rfl ?_
        refine x_getM (a := 58) dX6_readFactor_83 rfl fX6_22 hC rfl hat ?_
        refine x_iconst dX6_readFactor_86 rfl iC_1 ?_
        refine x_iadd dX6_readFactor_87 rfl ?_
        rw [show nI a + nI 1 = nI (a + 1) from nI_add _ 1]
        refine x_putC (a := 58) dX6_readFactor_88 rfl fX6_22 (fun q hq => by cases hq; rfl) hC rfl ⟨rfl, rfl⟩ ?_
        have hr2 := hr1.at (a + 1)
        have hC := hr2.1
        refine x_aload_n (i := 0) dX6_readFactor_91 rfl rfl rfl ?_
        refine x_iload_n (i := 1) dX6_readFactor_92 rfl rfl rfl ?_
        refine x_iconst dX6_readFactor_93 rfl iC_1 ?_
        refine x_iadd dX6_readFactor_94 rfl ?_
        refine x_iload_n (i := 2) dX6_readFactor_95 rfl rfl rfl ?_
        rw [show nI dp + nI 1 = nI (dp + 1) from nI_add _ 1]
        refine x_callV0 (ci := 6) (b := 58) (As := [_, _]) (d2 := d - 1) dX6_readFactor_96 rfl kX6_94 okX6_readNested (hC.o rfl) (fun q hq => by cases hq; rfl) (by omega) rfl rfl (Nat.le_of_ble_eq_true rfl) (c_readNested (s := rAt s (a + 1)) (by omega) hr2 hn hn2 (by show a + 1 ≤ n; omega) x1 x2 (fun d2 h2 => x3 d2 (by omega)) (fun h3 hr3 => ?_))
        refine x_goto (tgt := 110) dX6_readFactor_99 rfl ?_
        refine x_return dX6_readFactor_110 rfl ?_
        exact K h3 hr3
  have k48 : ¬ (nI 97 ≤ c ∧ c ≤ nI 104) → xWP G l mX6_readFactor d (zM G Q) 0 0 48 (xls [(0, .ref 58), (1, .int (nI dp)), (2, .int c)]) [] h1 := by
    intro q1
    refine x_iload_n (i := 2) dX6_readFactor_48 rfl rfl rfl ?_
    refine x_callS0 (As := [_]) (d2 := d - 1) dX6_readFactor_49 rfl kX6_87 okX6_isDigit (by omega) rfl rfl (Nat.le_of_ble_eq_true rfl) (c_isDigit (fun z => ?_) (fun z => ?_))
    · rw [if_neg q1, if_pos z] at K
      refine x_if_eq_f (tgt := 63) dX6_readFactor_52 rfl rfl nb1 ?_
      refine x_aload_n (i := 0) dX6_readFactor_55 rfl rfl rfl ?_
      refine x_iload_n (i := 1) dX6_readFactor_56 rfl rfl rfl ?_
      refine x_callV0 (ci := 6) (b := 58) (As := [_]) (d2 := d - 1) dX6_readFactor_57 rfl kX6_91 okX6_readInt (hC.o rfl) (fun q hq => by cases hq; rfl) (by omega) rfl rfl (Nat.le_of_ble_eq_true rfl) (c_readInt (s := rAt s a) (by omega) hr1 hn hn2 ha1 hdp (fun h3 hr3 => ?_))
      refine x_goto (tgt := 110) dX6_readFactor_60 rfl ?_
      refine x_return dX6_readFactor_110 rfl ?_
      exact K h3 hr3
    · refine x_if_eq_t (tgt := 63) dX6_readFactor_52 rfl nI_0 ?_
      refine x_iload_n (i := 2) dX6_readFactor_63 rfl rfl rfl ?_
      refine x_bipush dX6_readFactor_64 rfl bC_126 ?_
      refine x_ic_eq (tgt := 75) dX6_readFactor_66 rfl rfl (fun c66 => ?_) (fun c66 => ?_)
      · exact x_to (k75 q1 z (Or.inl c66)) ⟨rfl, rfl, rfl, trivial⟩
      · refine x_iload_n (i := 2) dX6_readFactor_69 rfl rfl rfl ?_
        refine x_bipush dX6_readFactor_70 rfl bC_40 ?_
        refine x_ic_ne (tgt := 102) dX6_readFactor_72 rfl rfl (fun c72 => ?_) (fun c72 => ?_)
        · exact x_to (ft q1 z (Or.inl (by rintro (y | y); exact c66 y; exact c72 y))) ⟨rfl, rfl, rfl, trivial⟩
        · exact x_to (k75 q1 z (Or.inr c72)) ⟨rfl, rfl, rfl, trivial⟩
  refine x_istore_n (i := 2) dX6_readFactor_4 rfl rfl (by decide) ?_
  refine x_iload_n (i := 2) dX6_readFactor_5 rfl rfl rfl ?_
  refine x_bipush dX6_readFactor_6 rfl bC_97 ?_
  refine x_ic_lt (tgt := 48) dX6_readFactor_8 rfl rfl (fun c8 => ?_) (fun c8 => ?_)
  · exact x_to (k48 (fun q => Int32.not_lt.mpr q.1 c8)) ⟨rfl, rfl, rfl, trivial⟩
  · refine x_iload_n (i := 2) dX6_readFactor_11 rfl rfl rfl ?_
    refine x_bipush dX6_readFactor_12 rfl bC_104 ?_
    refine x_ic_gt (tgt := 48) dX6_readFactor_14 rfl rfl (fun c14 => ?_) (fun c14 => ?_)
    · exact x_to (k48 (fun q => Int32.not_lt.mpr q.2 c14)) ⟨rfl, rfl, rfl, trivial⟩
    · have q : nI 97 ≤ c ∧ c ≤ nI 104 := ⟨Int32.not_lt.mp c8, Int32.not_lt.mp c14⟩
      rw [if_pos q] at K
      obtain ⟨l8, lc⟩ := lt_eq q.1 q.2
      have hl : a < n := hby c rfl (by rintro rfl; exact absurd q.1 (by decide))
      have vt := hC.v (csV_rd (88 + dp) (by omega) (by omega) (by omega) (by omega))
      have vs := hC.v (csV_slot l8)
      have es : iv h1 (2 + ltN c) = iv h0 (2 + ltN c) := hr1.2.1.iv (by unfold rdP; omega)
      rw [es] at vs
      refine x_aload_n (i := 0) dX6_readFactor_17 rfl rfl rfl ?_
      refine x_getC dX6_readFactor_18 rfl fX6_19 hC rfl F_58_5 ?_
      refine x_iload_n (i := 1) dX6_readFactor_21 rfl rfl rfl ?_
      refine x_aaldC (t := 0) dX6_readFactor_22 rfl hC rfl (by decide) rfl (by omega) (by decide) (csF_fac hdp) ?_
      refine x_aload_n (i := 0) dX6_readFactor_23 rfl rfl rfl ?_
      refine x_getC dX6_readFactor_24 rfl fX6_37 hC rfl F_58_1 ?_
      refine x_iload_n (i := 2) dX6_readFactor_27 rfl rfl rfl ?_
      refine x_bipush dX6_readFactor_28 rfl bC_97 ?_
      refine x_isub dX6_readFactor_30 rfl ?_
      have ec : c - nI 97 = nI (ltN c) := by
        conv => lhs; rw [lc]
        rw [pk_sub (by omega)]
        congr 1
        omega
      rw [ec]
      refine x_aaldC (t := 0) dX6_readFactor_31 rfl hC rfl (by decide) rfl (by omega) (by decide) (csF_slot l8) ?_
      refine x_callS0 (As := [_, _]) (d2 := d - 1) dX6_readFactor_32 rfl kX6_52 okX5_lay (by omega) rfl rfl (Nat.le_of_ble_eq_true rfl) (c_lay (by omega) vt vs ?_)
      have hr2 : rdH h0 (hs h1 (88 + dp) (0, 8, xI (iv h0 (2 + ltN c)))) (rRow (rAt s a) (88 + dp) (iv h0 (2 + ltN c))) := hr1.row (hC.setI vt (Or.inl rfl) (by omega)) (xSm.hs1.sub (by simp)) iv_hs (by omega) (by omega) (by omega) (by omega)
      show xWP G l mX6_readFactor d (zM G Q) 0 0 35 _ (xpush none []) (hs h1 (88 + dp) (0, 8, xI (iv h0 (2 + ltN c))))
      generalize hs h1 (88 + dp) (0, 8, xI (iv h0 (2 + ltN c))) = h2 at hr2 ⊢
      have hC := hr2.1
      have hat2 : (h2.1 58).2.2 6 = .int (nI a) := hr2.2.2.1
      refine x_aload_n (i := 0) dX6_readFactor_35 rfl rfl rfl ?_
      refine x_dup dX6_readFactor_36 rfl rfl ?_
      refine x_getM (a := 58) dX6_readFactor_37 rfl fX6_22 hC rfl hat2 ?_
      refine x_iconst dX6_readFactor_40 rfl iC_1 ?_
      refine x_iadd dX6_readFactor_41 rfl ?_
      rw [show nI a + nI 1 = nI (a + 1) from nI_add _ 1]
      refine x_putC (a := 58) dX6_readFactor_42 rfl fX6_22 (fun q hq => by cases hq; rfl) hC rfl ⟨rfl, rfl⟩ ?_
      refine x_goto (tgt := 110) dX6_readFactor_45 rfl ?_
      refine x_return dX6_readFactor_110 rfl ?_
      exact K _ (hr2.at (a + 1))
theorem c_readFactor {h0 : xH} {n : Nat} (hn : hTl h0 n) (hn2 : n ≤ 200) : ∀ f, f ≤ 12 → ∀ d, 4 * f + 8 ≤ d → ctFac G l d h0 n (12 - f) (zFac n (tpB h0) (fun k => iv h0 (2 + k)) f) := by
  intro f
  induction f with
  | zero =>
    intro hf d hd
    exact c_factorS (by omega) hn hn2 (by omega) (fun _ => rfl) (fun f e => by cases e)
  | succ f ih =>
    intro hf d hd
    rw [show 12 - (f + 1) = 11 - f by omega]
    refine c_factorS (by omega) hn hn2 (by omega) (fun e => by cases e) (fun g e => ?_)
    cases e
    refine ⟨by omega, zFac_ok f, fun d2 h2 => ?_⟩
    rw [show 11 - f + 1 = 12 - f by omega]
    exact ih (by omega) d2 (by omega)
end READ
/-- the tape is read: fault and what came -/
noncomputable def zRead (n : Nat) (tb : Nat → Int32) (sl : Nat → Nat → Int32) (R : Nat → Nat → Int32) : zRd := zSum n tb 0 (zFac n tb sl 12) (0, -1, nI 1, R)
noncomputable def zReadF (n : Nat) (tb : Nat → Int32) (s : zRd) : Int32 := if s.2.1 = -1 then (if zBy n tb (zAhd n tb s.1) = -1 then -1 else nI (zAhd n tb s.1)) else s.2.1
section READ
variable {G : xG} {l : Launch} {d : Nat} {h : xH} {Q : Option Value → xH → Prop}
theorem c_read {n : Nat} (hd : 62 ≤ d) (hC : Cs h) (hn : hTl h n) (hn2 : n ≤ 200)
    (K : ∀ h2 s2, rdH h h2 s2 → s2.2.2 = (zRead n (tpB h) (fun k => iv h (2 + k)) (fun a => iv h a)).2.2 → Q (some (.int (zReadF n (tpB h) (zRead n (tpB h) (fun k => iv h (2 + k)) (fun a => iv h a))))) h2) : xCt G l mX6_read d [.ref 58] h 0 0 Q := by
  refine xCt_of (by decide) (Nat.le_of_ble_eq_true rfl) ?_
  have hC1 := hC.setF (ci := 6) (a := 58) (kf := 6) (v := .int (nI 0)) rfl NF_58_6 (by decide)
  have hC2 := hC1.setF (ci := 6) (a := 58) (kf := 7) (v := .int (-1)) rfl NF_58_7 (by decide)
  have hC3 := hC2.setF (ci := 6) (a := 58) (kf := 8) (v := .int (nI 1)) rfl NF_58_8 (by decide)
  refine x_aload_n (i := 0) dX6_read_0 rfl rfl rfl ?_
  refine x_iconst dX6_read_1 rfl iC_0 ?_
  refine x_putC (a := 58) dX6_read_2 rfl fX6_22 (fun q hq => by cases hq; rfl) hC rfl ⟨rfl, rfl⟩ ?_
  refine x_aload_n (i := 0) dX6_read_5 rfl rfl rfl ?_
  refine x_iconst dX6_read_6 rfl iC_m1 ?_
  refine x_putC (a := 58) dX6_read_7 rfl fX6_26 (fun q hq => by cases hq; rfl) hC1 rfl ⟨rfl, rfl⟩ ?_
  refine x_aload_n (i := 0) dX6_read_10 rfl rfl rfl ?_
  refine x_iconst dX6_read_11 rfl iC_1 ?_
  refine x_putC (a := 58) dX6_read_12 rfl fX6_29 (fun q hq => by cases hq; rfl) hC2 rfl ⟨rfl, rfl⟩ ?_
  have hr : rdH h (hs (hs (hs h 58 (106, 0, updV (h.1 58).2.2 6 (.int (nI 0)))) 58 (106, 0, updV ((hs h 58 (106, 0, updV (h.1 58).2.2 6 (.int (nI 0)))).1 58).2.2 7 (.int (-1)))) 58 (106, 0, updV ((hs (hs h 58 (106, 0, updV (h.1 58).2.2 6 (.int (nI 0)))) 58 (106, 0, updV ((hs h 58 (106, 0, updV (h.1 58).2.2 6 (.int (nI 0)))).1 58).2.2 7 (.int (-1)))).1 58).2.2 8 (.int (nI 1)))) (0, -1, nI 1, fun a => iv h a) := by
    refine ⟨hC3, ((xSm.hs2.tr xSm.hs1)).sq (by intro b hb; simp at hb; unfold rdP; omega), ?_, ?_, fv_eq, fun b b1 b2 b3 b4 => ?_⟩
    · rw [fv_ne (by decide), fv_ne (by decide), fv_eq]
    · rw [fv_ne (by decide), fv_eq]
    · rw [iv_n (by omega), iv_n (by omega), iv_n (by omega)]
  show xWP G l mX6_read d (zM G Q) 0 0 15 _ [] (hs (hs (hs h 58 (106, 0, updV (h.1 58).2.2 6 (.int (nI 0)))) 58 (106, 0, updV ((hs h 58 (106, 0, updV (h.1 58).2.2 6 (.int (nI 0)))).1 58).2.2 7 (.int (-1)))) 58 (106, 0, updV ((hs (hs h 58 (106, 0, updV (h.1 58).2.2 6 (.int (nI 0)))) 58 (106, 0, updV ((hs h 58 (106, 0, updV (h.1 58).2.2 6 (.int (nI 0)))).1 58).2.2 7 (.int (-1)))).1 58).2.2 8 (.int (nI 1))))
  generalize hs (hs (hs h 58 (106, 0, updV (h.1 58).2.2 6 (.int (nI 0)))) 58 (106, 0, updV ((hs h 58 (106, 0, updV (h.1 58).2.2 6 (.int (nI 0)))).1 58).2.2 7 (.int (-1)))) 58 (106, 0, updV ((hs (hs h 58 (106, 0, updV (h.1 58).2.2 6 (.int (nI 0)))) 58 (106, 0, updV ((hs h 58 (106, 0, updV (h.1 58).2.2 6 (.int (nI 0)))).1 58).2.2 7 (.int (-1)))).1 58).2.2 8 (.int (nI 1))) = h1 at hr ⊢
  clear hC1 hC2 hC3
  have hC := hr.1
  have hok := zFac_ok (n := n) (tb := tpB h) (sl := fun k => iv h (2 + k)) 12
  refine x_aload_n (i := 0) dX6_read_15 rfl rfl rfl ?_
  refine x_iconst dX6_read_16 rfl iC_0 ?_
  refine x_callV0 (ci := 6) (b := 58) (As := [_]) (d2 := d - 1) dX6_read_17 rfl kX6_44 okX6_readSum (hC.o rfl) (fun q hq => by cases hq; rfl) (by omega) rfl rfl (Nat.le_of_ble_eq_true rfl) (c_readSum (dp := 0) (by omega) hr hn hn2 (Nat.zero_le _) (by decide) hok (c_readFactor hn hn2 12 (by decide) _ (by omega)) (fun h2 hr2 => ?_))
  have ok2 := zSum_ok (tb := tpB h) (dp := 0) hok (0, -1, nI 1, fun a => iv h a) (Nat.zero_le _)
  change rdH h h2 (zRead n (tpB h) (fun k => iv h (2 + k)) (fun a => iv h a)) at hr2
  change (zRead n (tpB h) (fun k => iv h (2 + k)) (fun a => iv h a)).1 ≤ n at ok2
  generalize zRead n (tpB h) (fun k => iv h (2 + k)) (fun a => iv h a) = s2 at K hr2 ok2
  have hC := hr2.1
  have hfa : (h2.1 58).2.2 7 = .int s2.2.1 := hr2.2.2.2.1
  unfold zReadF at K
  refine x_aload_n (i := 0) dX6_read_20 rfl rfl rfl ?_
  refine x_getM (a := 58) dX6_read_21 rfl fX6_26 hC rfl hfa ?_
  refine x_iconst dX6_read_24 rfl iC_m1 ?_
  refine x_ic_ne (tgt := 44) dX6_read_25 rfl rfl (fun c25 => ?_) (fun c25 => ?_)
  · rw [if_neg c25] at K
    refine x_aload_n (i := 0) dX6_read_44 rfl rfl rfl ?_
    refine x_getM (a := 58) dX6_read_45 rfl fX6_26 hC rfl hfa ?_
    refine x_ireturn dX6_read_48 rfl rfl ?_
    exact K h2 s2 hr2 rfl
  · rw [if_pos c25] at K
    refine x_aload_n (i := 0) dX6_read_28 rfl rfl rfl ?_
    refine x_callV0 (ci := 6) (b := 58) (As := []) (d2 := d - 1) dX6_read_29 rfl kX6_48 okX6_ahead (hC.o rfl) (fun q hq => by cases hq; rfl) (by omega) rfl rfl (Nat.le_of_ble_eq_true rfl) (c_ahead (by omega) hr2 hn hn2 ok2 (fun h3 hr3 => ?_))
    have hC := hr3.1
    have hat : (h3.1 58).2.2 6 = .int (nI (zAhd n (tpB h) s2.1)) := hr3.2.2.1
    have hfa3 : (h3.1 58).2.2 7 = .int s2.2.1 := hr3.2.2.2.1
    refine x_iconst dX6_read_32 rfl iC_m1 ?_
    refine x_ic_eq (tgt := 44) dX6_read_33 rfl rfl (fun c33 => ?_) (fun c33 => ?_)
    · rw [if_pos c33] at K
      refine x_aload_n (i := 0) dX6_read_44 rfl rfl rfl ?_
      refine x_getM (a := 58) dX6_read_45 rfl fX6_26 hC rfl hfa3 ?_
      rw [c25]
      refine x_ireturn dX6_read_48 rfl rfl ?_
      exact K h3 _ hr3 rfl
    · rw [if_neg c33] at K
      have hr4 := hr3.fault (nI (zAhd n (tpB h) s2.1))
      have hC4 := hr4.1
      refine x_aload_n (i := 0) dX6_read_36 rfl rfl rfl ?_
      refine x_aload_n (i := 0) dX6_read_37 rfl rfl rfl ?_
      refine x_getM (a := 58) dX6_read_38 rfl fX6_22 hC rfl hat ?_
      refine x_putC (a := 58) dX6_read_41 rfl fX6_26 (fun q hq => by cases hq; rfl) hC rfl ⟨rfl, rfl⟩ ?_
      refine x_aload_n (i := 0) dX6_read_44 rfl rfl rfl ?_
      refine x_getM (a := 58) dX6_read_45 rfl fX6_26 hC4 rfl hr4.2.2.2.1 ?_
      refine x_ireturn dX6_read_48 rfl rfl ?_
      exact K _ _ hr4 rfl
theorem c_layResult {h0 : xH} {s : zRd} {t : Nat} (hd : 2 ≤ d) (hr : rdH h0 h s) (ht : csV t) (ht1 : t ≠ 111)
    (Kt : s.2.2.1 ≠ 0 → ∀ h2, Cs h2 → xSm [t] h h2 → iv h2 t = s.2.2.2 60 → Q (some (.int s.2.2.1)) h2) (Kf : s.2.2.1 = 0 → Q (some (.int (nI 0))) h) (hcan : s.2.2.1 &&& 1 = s.2.2.1) : xCt G l mX6_layResult d [.ref 58, .ref t] h 0 0 Q := by
  refine xCt_of (by decide) (Nat.le_of_ble_eq_true rfl) ?_
  have hC := hr.1
  have vt := hC.v ht
  have vs := hC.v (csV_rd 60 (by omega) (by omega) (by omega) (by omega))
  rw [hr.2.2.2.2.2 60 (by omega) (by omega) (by omega) (by omega)] at vs
  have hca := hr.2.2.2.2.1
  have t58 : t ≠ 58 := by rintro rfl; cases ht
  refine x_aload_n (i := 0) dX6_layResult_0 rfl rfl rfl ?_
  refine x_getM (a := 58) dX6_layResult_1 rfl fX6_29 hC rfl hca ?_
  refine x_if_eq (tgt := 17) dX6_layResult_4 rfl rfl (fun c4 => ?_) (fun c4 => ?_)
  · refine x_aload_n (i := 0) dX6_layResult_17 rfl rfl rfl ?_
    refine x_getM (a := 58) dX6_layResult_18 rfl fX6_29 hC rfl hca ?_
    rw [c4]
    refine x_ireturn dX6_layResult_21 rfl rfl ?_
    exact Kf c4
  · refine x_aload_n (i := 1) dX6_layResult_7 rfl rfl rfl ?_
    refine x_aload_n (i := 0) dX6_layResult_8 rfl rfl rfl ?_
    refine x_getC dX6_layResult_9 rfl fX6_13 hC rfl F_58_3 ?_
    refine x_iconst dX6_layResult_12 rfl iC_0 ?_
    refine x_aaldC (t := 0) dX6_layResult_13 rfl hC rfl (by decide) rfl (by decide) (by decide) (csF_sum (j := 0) (by decide)) ?_
    refine x_callS0 (As := [_, _]) (d2 := d - 1) dX6_layResult_14 rfl kX6_52 okX5_lay (by omega) rfl rfl (Nat.le_of_ble_eq_true rfl) (c_lay (by omega) vt vs ?_)
    have hC1 := hC.setI (f := s.2.2.2 60) vt (Or.inl rfl) ht1
    have hca1 : ((hs h t (0, 8, xI (s.2.2.2 60))).1 58).2.2 8 = .int s.2.2.1 := (fv_n (Ne.symm t58)).trans hca
    refine x_aload_n (i := 0) dX6_layResult_17 rfl rfl rfl ?_
    refine x_getM (a := 58) dX6_layResult_18 rfl fX6_29 hC1 rfl hca1 ?_
    refine x_ireturn dX6_layResult_21 rfl (by show Value.int (s.2.2.1 &&& 1) = _; rw [hcan]) ?_
    exact Kt c4 _ hC1 xSm.hs1 iv_hs
end READ

