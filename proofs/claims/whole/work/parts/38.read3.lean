/-! EightParts$Reader: terms and sums, with factors given -/
abbrev rdF : Type := zRd → zRd
/-- where it is moves on; a fault there; a row laid -/
def rAt (s : zRd) (a : Nat) : zRd := (a, s.2)
def rFa (s : zRd) (f : Int32) : zRd := (s.1, f, s.2.2)
def rRow (s : zRd) (a : Nat) (f : Nat → Int32) : zRd := (s.1, s.2.1, s.2.2.1, rUpd s.2.2.2 a f)
/-- a product, a sum into a row: noted if it can't be -/
noncomputable def rMay (s : zRd) (a : Nat) (o : zO) : zRd := match o with
  | some f => (s.1, s.2.1, zAnd s.2.2.1 (nI 1), rUpd s.2.2.2 a f)
  | none => (s.1, s.2.1, zAnd s.2.2.1 (nI 0), s.2.2.2)
noncomputable def zTerms (n : Nat) (tb : Nat → Int32) (dp : Nat) (fac : rdF) : Nat → zRd → zRd
  | 0, s => s
  | k + 1, s => if s.2.1 = -1 then
      (if zBy n tb (zAhd n tb s.1) = nI 42 then
        zTerms n tb dp fac k (rMay (fac (rAt s (zAhd n tb s.1 + 1))) (74 + dp) (oMul ((fac (rAt s (zAhd n tb s.1 + 1))).2.2.2 (74 + dp)) ((fac (rAt s (zAhd n tb s.1 + 1))).2.2.2 (88 + dp))))
      else rAt s (zAhd n tb s.1))
    else s
noncomputable def zTerm (n : Nat) (tb : Nat → Int32) (dp : Nat) (fac : rdF) (s : zRd) : zRd := zTerms n tb dp fac n (rRow (fac s) (74 + dp) ((fac s).2.2.2 (88 + dp)))
noncomputable def zSums (n : Nat) (tb : Nat → Int32) (dp : Nat) (fac : rdF) : Nat → zRd → zRd
  | 0, s => s
  | k + 1, s => if s.2.1 = -1 then
      (if zBy n tb (zAhd n tb s.1) = nI 43 ∨ zBy n tb (zAhd n tb s.1) = nI 45 then
        zSums n tb dp fac k (rMay (zTerm n tb dp fac (rAt s (zAhd n tb s.1 + 1))) (60 + dp) (oAdd ((zTerm n tb dp fac (rAt s (zAhd n tb s.1 + 1))).2.2.2 (60 + dp)) ((zTerm n tb dp fac (rAt s (zAhd n tb s.1 + 1))).2.2.2 (74 + dp)) (if zBy n tb (zAhd n tb s.1) = nI 43 then nI 1 else -1)))
      else rAt s (zAhd n tb s.1))
    else s
noncomputable def zSum (n : Nat) (tb : Nat → Int32) (dp : Nat) (fac : rdF) (s : zRd) : zRd := zSums n tb dp fac n (rRow (zTerm n tb dp fac s) (60 + dp) ((zTerm n tb dp fac s).2.2.2 (74 + dp)))
/-- a reader of factors stays on the tape -/
def rdOk (n : Nat) (f : rdF) : Prop := ∀ s : zRd, s.1 ≤ n → (f s).1 ≤ n
theorem zAhd_le {n : Nat} {tb : Nat → Int32} {a : Nat} (ha : a ≤ n) : zAhd n tb a ≤ n := (zSk_le n tb _ a ha).2
theorem zBy_lt {n : Nat} {tb : Nat → Int32} {a : Nat} {c : Int32} (h : zBy n tb a = c) (hc : c ≠ -1) : a < n := by
  unfold zBy at h
  split at h
  · assumption
  · exact absurd h.symm hc
theorem rMay_1 {s : zRd} {a : Nat} {o : zO} : (rMay s a o).1 = s.1 := by
  unfold rMay
  split <;> rfl
theorem zTerms_ok {n : Nat} {tb : Nat → Int32} {dp : Nat} {fac : rdF} (hf : rdOk n fac) : ∀ k, rdOk n (zTerms n tb dp fac k) := by
  intro k
  induction k with
  | zero => exact fun s hs => hs
  | succ k ih =>
    intro s hs
    rw [zTerms]
    split
    · split
      · next q =>
        refine ih _ ?_
        rw [rMay_1]
        exact hf _ (by have := zBy_lt q (by decide); show zAhd n tb s.1 + 1 ≤ n; omega)
      · exact zAhd_le hs
    · exact hs
theorem zTerm_ok {n : Nat} {tb : Nat → Int32} {dp : Nat} {fac : rdF} (hf : rdOk n fac) : rdOk n (zTerm n tb dp fac) := fun s hs => zTerms_ok hf n _ (hf s hs)
section READ
variable {G : xG} {l : Launch} {d : Nat} {h : xH} {Q : Option Value → xH → Prop}
/-- the contract of a reader of factors -/
def ctFac (G : xG) (l : Launch) (d : Nat) (h0 : xH) (n dp : Nat) (fac : rdF) : Prop := ∀ (h : xH) (s : zRd) (Q : Option Value → xH → Prop), rdH h0 h s → s.1 ≤ n → (∀ h2, rdH h0 h2 (fac s) → Q none h2) → xCt G l mX6_readFactor d [.ref 58, .int (nI dp)] h 0 0 Q
theorem c_readTerm {h0 : xH} {s : zRd} {n dp : Nat} {fac : rdF} (hd : 3 ≤ d) (hr : rdH h0 h s) (hn : hTl h0 n) (hn2 : n ≤ 200) (ha : s.1 ≤ n) (hdp : dp < 13) (hok : rdOk n fac) (hf : ctFac G l (d - 1) h0 n dp fac)
    (K : ∀ h2, rdH h0 h2 (zTerm n (tpB h0) dp fac s) → Q none h2) : xCt G l mX6_readTerm d [.ref 58, .int (nI dp)] h 0 0 Q := by
  refine xCt_of (by decide) (Nat.le_of_ble_eq_true rfl) ?_
  have hC := hr.1
  refine x_aload_n (i := 0) dX6_readTerm_0 rfl rfl rfl ?_
  refine x_iload_n (i := 1) dX6_readTerm_1 rfl rfl rfl ?_
  refine x_callV0 (ci := 6) (b := 58) (As := [_]) (d2 := d - 1) dX6_readTerm_2 rfl kX6_80 okX6_readFactor (hC.o rfl) (fun q hq => by cases hq; rfl) (by omega) rfl rfl (Nat.le_of_ble_eq_true rfl) (hf _ s _ hr ha (fun h1 hr1 => ?_))
  have hC := hr1.1
  have vt := hC.v (csV_rd (74 + dp) (by omega) (by omega) (by omega) (by omega))
  have vf := hC.v (csV_rd (88 + dp) (by omega) (by omega) (by omega) (by omega))
  rw [hr1.2.2.2.2.2 (88 + dp) (by omega) (by omega) (by omega) (by omega)] at vf
  refine x_aload_n (i := 0) dX6_readTerm_5 rfl rfl rfl ?_
  refine x_getC dX6_readTerm_6 rfl fX6_16 hC rfl F_58_4 ?_
  refine x_iload_n (i := 1) dX6_readTerm_9 rfl rfl rfl ?_
  refine x_aaldC (t := 0) dX6_readTerm_10 rfl hC rfl (by decide) rfl (by omega) (by decide) (csF_ter hdp) ?_
  refine x_aload_n (i := 0) dX6_readTerm_11 rfl rfl rfl ?_
  refine x_getC dX6_readTerm_12 rfl fX6_19 hC rfl F_58_5 ?_
  refine x_iload_n (i := 1) dX6_readTerm_15 rfl rfl rfl ?_
  refine x_aaldC (t := 0) dX6_readTerm_16 rfl hC rfl (by decide) rfl (by omega) (by decide) (csF_fac hdp) ?_
  refine x_callS0 (As := [_, _]) (d2 := d - 1) dX6_readTerm_17 rfl kX6_52 okX5_lay (by omega) rfl rfl (Nat.le_of_ble_eq_true rfl) (c_lay (by omega) vt vf ?_)
  have hr2 : rdH h0 (hs h1 (74 + dp) (0, 8, xI ((fac s).2.2.2 (88 + dp)))) (rRow (fac s) (74 + dp) ((fac s).2.2.2 (88 + dp))) := hr1.row (hC.setI vt (Or.inl rfl) (by omega)) (xSm.hs1.sub (by simp)) iv_hs (by omega) (by omega) (by omega) (by omega)
  have key := xloop (P := fun i => ∀ h1 s1, rdH h0 h1 s1 → s1.1 ≤ n → zTerm n (tpB h0) dp fac s = zTerms n (tpB h0) dp fac (n - i) s1 → xWP G l mX6_readTerm d (zM G Q) 0 0 22 (xls [(0, .ref 58), (1, .int (nI dp)), (2, .int (nI i))]) [] h1) n (by
    intro i hi ih h1 s1 hr1 hs1 e
    have hC := hr1.1
    have hfa : (h1.1 58).2.2 7 = .int s1.2.1 := hr1.2.2.2.1
    have e56 : h1.1 56 = h0.1 56 := hr1.2.1.2 56 (by unfold rdP; omega)
    have hn1 : hTl h1 n := by unfold hTl; rw [e56]; exact hn
    refine x_iload_n (i := 2) dX6_readTerm_22 rfl rfl rfl ?_
    refine x_aload_n (i := 0) dX6_readTerm_23 rfl rfl rfl ?_
    refine x_getC dX6_readTerm_24 rfl fX6_33 hC rfl F_58_0 ?_
    refine x_getM (a := 56) dX6_readTerm_27 rfl fX6_58 hC rfl hn1 ?_
    refine x_jc_ge (tgt := 101) dX6_readTerm_30 rfl rfl (by omega) (by omega) (fun c30 => ?_) (fun c30 => ?_)
    · rw [show n - i = 0 by omega] at e
      refine x_return dX6_readTerm_101 rfl ?_
      rw [e] at K
      exact K h1 hr1
    · obtain ⟨f, hf1⟩ : ∃ f, n - i = f + 1 := ⟨n - i - 1, by omega⟩
      rw [hf1, zTerms] at e
      refine x_aload_n (i := 0) dX6_readTerm_33 rfl rfl rfl ?_
      refine x_getM (a := 58) dX6_readTerm_34 rfl fX6_26 hC rfl hfa ?_
      refine x_iconst dX6_readTerm_37 rfl iC_m1 ?_
      refine x_ic_ne (tgt := 101) dX6_readTerm_38 rfl rfl (fun c38 => ?_) (fun c38 => ?_)
      · rw [if_neg c38] at e
        refine x_return dX6_readTerm_101 rfl ?_
        rw [e] at K
        exact K h1 hr1
      · rw [if_pos c38] at e
        refine x_aload_n (i := 0) dX6_readTerm_41 rfl rfl rfl ?_
        refine x_callV0 (ci := 6) (b := 58) (As := []) (d2 := d - 1) dX6_readTerm_42 rfl kX6_48 okX6_ahead (hC.o rfl) (fun q hq => by cases hq; rfl) (by omega) rfl rfl (Nat.le_of_ble_eq_true rfl) (c_ahead (by omega) hr1 hn hn2 hs1 (fun h2 hr2 => ?_))
        have hC := hr2.1
        refine x_bipush dX6_readTerm_45 rfl bC_42 ?_
        refine x_ic_eq (tgt := 51) dX6_readTerm_47 rfl rfl (fun c47 => ?_) (fun c47 => ?_)
        · rw [if_pos c47] at e
          have hlt := zBy_lt c47 (by decide)
          have hat2 : (h2.1 58).2.2 6 = .int (nI (zAhd n (tpB h0) s1.1)) := hr2.2.2.1
          refine x_aload_n (i := 0) dX6_readTerm_51 rfl rfl rfl ?_
          refine x_dup dX6_readTerm_52 rfl rfl ?_
          refine x_getM (a := 58) dX6_readTerm_53 rfl fX6_22 hC rfl hat2 ?_
          refine x_iconst dX6_readTerm_56 rfl iC_1 ?_
          refine x_iadd dX6_readTerm_57 rfl ?_
          rw [show nI (zAhd n (tpB h0) s1.1) + nI 1 = nI (zAhd n (tpB h0) s1.1 + 1) from nI_add _ 1]
          refine x_putC (a := 58) dX6_readTerm_58 rfl fX6_22 (fun q hq => by cases hq; rfl) hC rfl ⟨rfl, rfl⟩ ?_
          have hr3 := hr2.at (zAhd n (tpB h0) s1.1 + 1)
          have hC := hr3.1
          refine x_aload_n (i := 0) dX6_readTerm_61 rfl rfl rfl ?_
          refine x_iload_n (i := 1) dX6_readTerm_62 rfl rfl rfl ?_
          refine x_callV0 (ci := 6) (b := 58) (As := [_]) (d2 := d - 1) dX6_readTerm_63 rfl kX6_80 okX6_readFactor (hC.o rfl) (fun q hq => by cases hq; rfl) (by omega) rfl rfl (Nat.le_of_ble_eq_true rfl) (hf _ (rAt s1 (zAhd n (tpB h0) s1.1 + 1)) _ hr3 (by show zAhd n (tpB h0) s1.1 + 1 ≤ n; omega) (fun h4 hr4 => ?_))
          have hC := hr4.1
          have e4 := hr4.2.2.2.2.2
          have hok4 := hok (rAt s1 (zAhd n (tpB h0) s1.1 + 1)) (by show zAhd n (tpB h0) s1.1 + 1 ≤ n; omega)
          generalize fac (rAt s1 (zAhd n (tpB h0) s1.1 + 1)) = s4 at hr4 e e4 hok4
          refine x_aload_n (i := 0) dX6_readTerm_66 rfl rfl rfl ?_
          refine x_aload_n (i := 0) dX6_readTerm_67 rfl rfl rfl ?_
          refine x_getC dX6_readTerm_68 rfl fX6_40 hC rfl F_58_2 ?_
          refine x_aload_n (i := 0) dX6_readTerm_71 rfl rfl rfl ?_
          refine x_getC dX6_readTerm_72 rfl fX6_16 hC rfl F_58_4 ?_
          refine x_iload_n (i := 1) dX6_readTerm_75 rfl rfl rfl ?_
          refine x_aaldC (t := 0) dX6_readTerm_76 rfl hC rfl (by decide) rfl (by omega) (by decide) (csF_ter hdp) ?_
          refine x_aload_n (i := 0) dX6_readTerm_77 rfl rfl rfl ?_
          refine x_getC dX6_readTerm_78 rfl fX6_16 hC rfl F_58_4 ?_
          refine x_iload_n (i := 1) dX6_readTerm_81 rfl rfl rfl ?_
          refine x_aaldC (t := 0) dX6_readTerm_82 rfl hC rfl (by decide) rfl (by omega) (by decide) (csF_ter hdp) ?_
          refine x_aload_n (i := 0) dX6_readTerm_83 rfl rfl rfl ?_
          refine x_getC dX6_readTerm_84 rfl fX6_19 hC rfl F_58_5 ?_
          refine x_iload_n (i := 1) dX6_readTerm_87 rfl rfl rfl ?_
          refine x_aaldC (t := 0) dX6_readTerm_88 rfl hC rfl (by decide) rfl (by omega) (by decide) (csF_fac hdp) ?_
          refine x_callV0 (ci := 7) (b := 10) (As := [_, _, _]) (d2 := d - 1) dX6_readTerm_89 rfl kX6_83 okX7_multiply (hC.o rfl) (fun q hq => by cases hq; rfl) (by omega) rfl rfl (Nat.le_of_ble_eq_true rfl) (c_mulE (by omega) hC (csV_rd (74 + dp) (by omega) (by omega) (by omega) (by omega)) (csV_rd (74 + dp) (by omega) (by omega) (by omega) (by omega)) (csV_rd (88 + dp) (by omega) (by omega) (by omega) (by omega)) (e4 _ (by omega) (by omega) (by omega) (by omega)) (e4 _ (by omega) (by omega) (by omega) (by omega)) (fun z hz h5 hC5 hS5 v5 => ?_) (fun hz h5 hC5 hS5 => ?_))
          · have hr5 := hr4.row hC5 hS5 v5 (by omega) (by omega) (by omega) (by omega)
            have hC := hC5
            refine x_callV0 (ci := 6) (b := 58) (As := [_]) (d2 := d - 1) dX6_readTerm_92 rfl kX6_76 okX6_note (hC.o rfl) (fun q hq => by cases hq; rfl) (by omega) rfl rfl (Nat.le_of_ble_eq_true rfl) (c_note hr5 (fun h6 hr6 => ?_))
            refine x_iinc dX6_readTerm_95 rfl rfl (inc1 _) ?_
            refine x_goto (tgt := 22) dX6_readTerm_98 rfl ?_
            rw [hz] at e
            refine x_to (ih c30 h6 _ hr6 (by exact hok4) ?_) ⟨rfl, rfl, rfl, trivial⟩
            rw [e, show n - (i + 1) = f by omega]
            rfl
          · have hr5 : rdH h0 h5 s4 := by
              obtain ⟨r1, r2, r3, r4, r5, r6⟩ := hr4
              have e58 : h5.1 58 = h4.1 58 := hS5.2 58 (by simp)
              exact ⟨hC5, r2.tr (hS5.sq (by intro b hb; simp at hb; unfold rdP; omega)), by rw [e58]; exact r3, by rw [e58]; exact r4, by rw [e58]; exact r5, fun b b1 b2 b3 b4 => (hS5.iv (by simp; omega)).trans (r6 b b1 b2 b3 b4)⟩
            have hC := hC5
            refine x_callV0 (ci := 6) (b := 58) (As := [_]) (d2 := d - 1) dX6_readTerm_92 rfl kX6_76 okX6_note (hC.o rfl) (fun q hq => by cases hq; rfl) (by omega) rfl rfl (Nat.le_of_ble_eq_true rfl) (c_note hr5 (fun h6 hr6 => ?_))
            refine x_iinc dX6_readTerm_95 rfl rfl (inc1 _) ?_
            refine x_goto (tgt := 22) dX6_readTerm_98 rfl ?_
            rw [hz] at e
            refine x_to (ih c30 h6 _ hr6 (by exact hok4) ?_) ⟨rfl, rfl, rfl, trivial⟩
            rw [e, show n - (i + 1) = f by omega]
            rfl
        · rw [if_neg c47] at e
          refine x_return dX6_readTerm_50 rfl ?_
          rw [e] at K
          exact K h2 hr2) 0 (Nat.zero_le _)
  refine x_iconst dX6_readTerm_20 rfl iC_0 ?_
  refine x_istore_n (i := 2) dX6_readTerm_21 rfl rfl (by decide) ?_
  exact x_to (key _ _ hr2 (hok s ha) rfl) ⟨rfl, rfl, rfl, trivial⟩
end READ

