/-! EightParts$Reader: factors, what is nested, the whole -/
/-- what is nested at depth m + 1, read for depth m -/
noncomputable def zNest (n : Nat) (tb : Nat → Int32) (m : Nat) (fac : rdF) (c : Int32) (s : zRd) : zRd :=
  if c = nI 126 then rRow (fac s) (88 + m) (zMir ((fac s).2.2.2 (88 + (m + 1))))
  else if (zSum n tb (m + 1) fac s).2.1 = -1 then
    (if zBy n tb (zAhd n tb (zSum n tb (m + 1) fac s).1) = nI 41 then rAt (rRow (zSum n tb (m + 1) fac s) (88 + m) ((zSum n tb (m + 1) fac s).2.2.2 (60 + (m + 1)))) (zAhd n tb (zSum n tb (m + 1) fac s).1 + 1)
     else rFa (rAt (rRow (zSum n tb (m + 1) fac s) (88 + m) ((zSum n tb (m + 1) fac s).2.2.2 (60 + (m + 1)))) (zAhd n tb (zSum n tb (m + 1) fac s).1)) (nI (zAhd n tb (zSum n tb (m + 1) fac s).1)))
  else rRow (zSum n tb (m + 1) fac s) (88 + m) ((zSum n tb (m + 1) fac s).2.2.2 (60 + (m + 1)))
def ltN (c : Int32) : Nat := (c - nI 97).toInt.toNat
theorem lt_eq {c : Int32} (h1 : nI 97 ≤ c) (h2 : c ≤ nI 104) : ltN c < 8 ∧ c = nI (97 + ltN c) := by
  have q1 := Int32.le_iff_toInt_le.mp h1
  have q2 := Int32.le_iff_toInt_le.mp h2
  rw [nI_toInt (by decide)] at q1 q2
  obtain ⟨k, hk⟩ : ∃ k : Nat, c.toInt = k := ⟨c.toInt.toNat, by omega⟩
  have en : c = nI k := by
    apply Int32.toInt_inj.mp
    rw [hk, nI_toInt (by omega)]
  subst en
  have e : ltN (nI k) = k - 97 := by
    unfold ltN
    rw [pk_sub (by omega), nI_toInt (by omega)]
    omega
  rw [e]
  refine ⟨by omega, ?_⟩
  congr 1
  omega
noncomputable def zFacS (n : Nat) (tb : Nat → Int32) (sl : Nat → Nat → Int32) (dp : Nat) (nx : Option rdF) (s : zRd) : zRd :=
  if nI 97 ≤ zBy n tb (zAhd n tb s.1) ∧ zBy n tb (zAhd n tb s.1) ≤ nI 104 then rAt (rRow (rAt s (zAhd n tb s.1)) (88 + dp) (sl (ltN (zBy n tb (zAhd n tb s.1))))) (zAhd n tb s.1 + 1)
  else if zDig (zBy n tb (zAhd n tb s.1)) then zInt n tb dp (rAt s (zAhd n tb s.1))
  else if zBy n tb (zAhd n tb s.1) = nI 126 ∨ zBy n tb (zAhd n tb s.1) = nI 40 then
    (match nx with
     | some fac => zNest n tb dp fac (zBy n tb (zAhd n tb s.1)) (rAt s (zAhd n tb s.1 + 1))
     | none => rFa (rAt s (zAhd n tb s.1)) (nI (zAhd n tb s.1)))
  else rFa (rAt s (zAhd n tb s.1)) (nI (zAhd n tb s.1))
noncomputable def zFac (n : Nat) (tb : Nat → Int32) (sl : Nat → Nat → Int32) : Nat → rdF
  | 0 => zFacS n tb sl 12 none
  | f + 1 => zFacS n tb sl (11 - f) (some (zFac n tb sl f))
theorem zNest_ok {n : Nat} {tb : Nat → Int32} {m : Nat} {fac : rdF} {c : Int32} (hf : rdOk n fac) : rdOk n (zNest n tb m fac c) := by
  intro s hs
  unfold zNest
  split
  · exact hf s hs
  · have h1 := zSum_ok (tb := tb) (dp := m + 1) hf s hs
    split
    · split
      · next q =>
        have := zBy_lt q (by decide)
        show zAhd n tb _ + 1 ≤ n
        omega
      · exact zAhd_le h1
    · exact h1
theorem zFacS_ok {n : Nat} {tb : Nat → Int32} {sl : Nat → Nat → Int32} {dp : Nat} {nx : Option rdF} (hx : ∀ f, nx = some f → rdOk n f) : rdOk n (zFacS n tb sl dp nx) := by
  intro s hs
  have ha := zAhd_le (tb := tb) hs
  unfold zFacS
  split
  · next q =>
    have : zAhd n tb s.1 < n := by
      refine zBy_lt (c := zBy n tb (zAhd n tb s.1)) rfl (fun e => ?_)
      rw [e] at q
      exact absurd q.1 (by decide)
    show zAhd n tb s.1 + 1 ≤ n
    omega
  · split
    · unfold zInt
      have := zNum_le n tb (n - zAhd n tb s.1) (zAhd n tb s.1) 0 ha (by omega)
      split
      · exact this.2.1
      · exact this.2.1
    · split
      · next q =>
        have hl : zAhd n tb s.1 < n := by
          rcases q with q | q
          · exact zBy_lt q (by decide)
          · exact zBy_lt q (by decide)
        split
        · next fac =>
          exact zNest_ok (hx fac rfl) _ (by show zAhd n tb s.1 + 1 ≤ n; omega)
        · exact ha
      · exact ha
theorem zFac_ok {n : Nat} {tb : Nat → Int32} {sl : Nat → Nat → Int32} : ∀ f, rdOk n (zFac n tb sl f) := by
  intro f
  induction f with
  | zero => exact zFacS_ok (fun f e => by cases e)
  | succ f ih => exact zFacS_ok (fun g e => by cases e; exact ih)
section READ
variable {G : xG} {l : Launch} {d : Nat} {h : xH} {Q : Option Value → xH → Prop}
theorem c_readNested {h0 : xH} {s : zRd} {n m : Nat} {fac : rdF} {c : Int32} (hd : 6 ≤ d) (hr : rdH h0 h s) (hn : hTl h0 n) (hn2 : n ≤ 200) (ha : s.1 ≤ n) (hm : m < 12) (hok : rdOk n fac) (hf : ∀ d2, d - 3 ≤ d2 → ctFac G l d2 h0 n (m + 1) fac)
    (K : ∀ h2, rdH h0 h2 (zNest n (tpB h0) m fac c s) → Q none h2) : xCt G l mX6_readNested d [.ref 58, .int (nI (m + 1)), .int c] h 0 0 Q := by
  refine xCt_of (by decide) (Nat.le_of_ble_eq_true rfl) ?_
  have hC := hr.1
  have hm1 : m + 1 < 13 := by omega
  have hm0 : m < 13 := by omega
  unfold zNest at K
  refine x_iload_n (i := 2) dX6_readNested_0 rfl rfl rfl ?_
  refine x_bipush dX6_readNested_1 rfl bC_126 ?_
  refine x_ic_ne (tgt := 29) dX6_readNested_3 rfl rfl (fun c3 => ?_) (fun c3 => ?_)
  · rw [if_neg c3] at K
    refine x_aload_n (i := 0) dX6_readNested_29 rfl rfl rfl ?_
    refine x_iload_n (i := 1) dX6_readNested_30 rfl rfl rfl ?_
    refine x_callV0 (ci := 6) (b := 58) (As := [_]) (d2 := d - 1) dX6_readNested_31 rfl kX6_44 okX6_readSum (hC.o rfl) (fun q hq => by cases hq; rfl) (by omega) rfl rfl (Nat.le_of_ble_eq_true rfl) (c_readSum (by omega) hr hn hn2 ha hm1 hok (hf _ (by omega)) (fun h1 hr1 => ?_))
    have ok1 := zSum_ok (tb := tpB h0) (dp := m + 1) hok s ha
    generalize zSum n (tpB h0) (m + 1) fac s = s1 at K hr1 ok1
    have hC := hr1.1
    have vt := hC.v (csV_rd (88 + m) (by omega) (by omega) (by omega) (by omega))
    have vf := hC.v (csV_rd (60 + (m + 1)) (by omega) (by omega) (by omega) (by omega))
    rw [hr1.2.2.2.2.2 (60 + (m + 1)) (by omega) (by omega) (by omega) (by omega)] at vf
    refine x_aload_n (i := 0) dX6_readNested_34 rfl rfl rfl ?_
    refine x_getC dX6_readNested_35 rfl fX6_19 hC rfl F_58_5 ?_
    refine x_iload_n (i := 1) dX6_readNested_38 rfl rfl rfl ?_
    refine x_iconst dX6_readNested_39 rfl iC_1 ?_
    refine x_isub dX6_readNested_40 rfl ?_
    rw [show nI (m + 1) - nI 1 = nI m from nI_pred m]
    refine x_aaldC (t := 0) dX6_readNested_41 rfl hC rfl (by decide) rfl (by omega) (by decide) (csF_fac hm0) ?_
    refine x_aload_n (i := 0) dX6_readNested_42 rfl rfl rfl ?_
    refine x_getC dX6_readNested_43 rfl fX6_13 hC rfl F_58_3 ?_
    refine x_iload_n (i := 1) dX6_readNested_46 rfl rfl rfl ?_
    refine x_aaldC (t := 0) dX6_readNested_47 rfl hC rfl (by decide) rfl (by omega) (by decide) (csF_sum hm1) ?_
    refine x_callS0 (As := [_, _]) (d2 := d - 1) dX6_readNested_48 rfl kX6_52 okX5_lay (by omega) rfl rfl (Nat.le_of_ble_eq_true rfl) (c_lay (by omega) vt vf ?_)
    have hr2 : rdH h0 (hs h1 (88 + m) (0, 8, xI (s1.2.2.2 (60 + (m + 1))))) (rRow s1 (88 + m) (s1.2.2.2 (60 + (m + 1)))) := hr1.row (hC.setI vt (Or.inl rfl) (by omega)) (xSm.hs1.sub (by simp)) iv_hs (by omega) (by omega) (by omega) (by omega)
    show xWP G l mX6_readNested d (zM G Q) 0 0 51 _ (xpush none []) (hs h1 (88 + m) (0, 8, xI (s1.2.2.2 (60 + (m + 1)))))
    generalize hs h1 (88 + m) (0, 8, xI (s1.2.2.2 (60 + (m + 1)))) = h2 at hr2 ⊢
    have hC := hr2.1
    have hfa : (h2.1 58).2.2 7 = .int s1.2.1 := hr2.2.2.2.1
    refine x_aload_n (i := 0) dX6_readNested_51 rfl rfl rfl ?_
    refine x_getM (a := 58) dX6_readNested_52 rfl fX6_26 hC rfl hfa ?_
    refine x_iconst dX6_readNested_55 rfl iC_m1 ?_
    refine x_ic_eq (tgt := 60) dX6_readNested_56 rfl rfl (fun c56 => ?_) (fun c56 => ?_)
    · rw [if_pos c56] at K
      refine x_aload_n (i := 0) dX6_readNested_60 rfl rfl rfl ?_
      refine x_callV0 (ci := 6) (b := 58) (As := []) (d2 := d - 1) dX6_readNested_61 rfl kX6_48 okX6_ahead (hC.o rfl) (fun q hq => by cases hq; rfl) (by omega) rfl rfl (Nat.le_of_ble_eq_true rfl) (c_ahead (by omega) hr2 hn hn2 ok1 (fun h3 hr3 => ?_))
      have hC := hr3.1
      have hat : (h3.1 58).2.2 6 = .int (nI (zAhd n (tpB h0) s1.1)) := hr3.2.2.1
      refine x_bipush dX6_readNested_64 rfl bC_41 ?_
      refine x_ic_eq (tgt := 78) dX6_readNested_66 rfl rfl (fun c66 => ?_) (fun c66 => ?_)
      · rw [if_pos (show zBy n (tpB h0) (zAhd n (tpB h0) s1.1) = nI 41 from c66)] at K
        refine x_aload_n (i := 0) dX6_readNested_78 rfl rfl rfl ?_
        refine x_dup dX6_readNested_79 rfl rfl ?_
        refine x_getM (a := 58) dX6_readNested_80 rfl fX6_22 hC rfl hat ?_
        refine x_iconst dX6_readNested_83 rfl iC_1 ?_
        refine x_iadd dX6_readNested_84 rfl ?_
        rw [show nI (zAhd n (tpB h0) s1.1) + nI 1 = nI (zAhd n (tpB h0) s1.1 + 1) from nI_add _ 1]
        refine x_putC (a := 58) dX6_readNested_85 rfl fX6_22 (fun q hq => by cases hq; rfl) hC rfl ⟨rfl, rfl⟩ ?_
        refine x_return dX6_readNested_88 rfl ?_
        exact K _ (hr3.at _)
      · rw [if_neg (show ¬ zBy n (tpB h0) (zAhd n (tpB h0) s1.1) = nI 41 from c66)] at K
        refine x_aload_n (i := 0) dX6_readNested_69 rfl rfl rfl ?_
        refine x_aload_n (i := 0) dX6_readNested_70 rfl rfl rfl ?_
        refine x_getM (a := 58) dX6_readNested_71 rfl fX6_22 hC rfl hat ?_
        refine x_putC (a := 58) dX6_readNested_74 rfl fX6_26 (fun q hq => by cases hq; rfl) hC rfl ⟨rfl, rfl⟩ ?_
        refine x_return dX6_readNested_77 rfl ?_
        exact K _ (hr3.fault _)
    · rw [if_neg c56] at K
      refine x_return dX6_readNested_59 rfl ?_
      exact K h2 hr2
  · rw [if_pos c3] at K
    refine x_aload_n (i := 0) dX6_readNested_6 rfl rfl rfl ?_
    refine x_iload_n (i := 1) dX6_readNested_7 rfl rfl rfl ?_
    refine x_callV0 (ci := 6) (b := 58) (As := [_]) (d2 := d - 1) dX6_readNested_8 rfl kX6_80 okX6_readFactor (hC.o rfl) (fun q hq => by cases hq; rfl) (by omega) rfl rfl (Nat.le_of_ble_eq_true rfl) (hf (d - 1) (by omega) _ s _ hr ha (fun h1 hr1 => ?_))
    generalize fac s = s1 at K hr1
    have hC := hr1.1
    have vt := hC.v (csV_rd (88 + m) (by omega) (by omega) (by omega) (by omega))
    have vf := hC.v (csV_rd (88 + (m + 1)) (by omega) (by omega) (by omega) (by omega))
    rw [hr1.2.2.2.2.2 (88 + (m + 1)) (by omega) (by omega) (by omega) (by omega)] at vf
    refine x_aload_n (i := 0) dX6_readNested_11 rfl rfl rfl ?_
    refine x_getC dX6_readNested_12 rfl fX6_19 hC rfl F_58_5 ?_
    refine x_iload_n (i := 1) dX6_readNested_15 rfl rfl rfl ?_
    refine x_iconst dX6_readNested_16 rfl iC_1 ?_
    refine x_isub dX6_readNested_17 rfl ?_
    rw [show nI (m + 1) - nI 1 = nI m from nI_pred m]
    refine x_aaldC (t := 0) dX6_readNested_18 rfl hC rfl (by decide) rfl (by omega) (by decide) (csF_fac hm0) ?_
    refine x_aload_n (i := 0) dX6_readNested_19 rfl rfl rfl ?_
    refine x_getC dX6_readNested_20 rfl fX6_19 hC rfl F_58_5 ?_
    refine x_iload_n (i := 1) dX6_readNested_23 rfl rfl rfl ?_
    refine x_aaldC (t := 0) dX6_readNested_24 rfl hC rfl (by decide) rfl (by omega) (by decide) (csF_fac hm1) ?_
    refine x_callS0 (As := [_, _]) (d2 := d - 1) dX6_readNested_25 rfl kX6_98 okX5_layMirrored (by omega) rfl rfl (Nat.le_of_ble_eq_true rfl) (c_layMirrored vt vf ?_)
    refine x_return dX6_readNested_28 rfl ?_
    exact K _ (hr1.row (hC.setI vt (Or.inl rfl) (by omega)) (xSm.hs1.sub (by simp)) iv_hs (by omega) (by omega) (by omega) (by omega))
end READ

