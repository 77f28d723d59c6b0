/-! EightParts$Laws -/
section LAWS
variable {G : xG} {l : Launch} {d : Nat} {h : xH} {Q : Option Value → xH → Prop}
theorem c_mulE {t a b : Nat} {fa fb : Nat → Int32} (hd : 1 ≤ d) (hC : Cs h) (ht : csV t) (ha : csV a) (hb : csV b) (ea : iv h a = fa) (eb : iv h b = fb)
    (Kt : ∀ z, oMul fa fb = some z → ∀ h2, Cs h2 → xSm [11, t] h h2 → iv h2 t = z → Q (some (.int (nI 1))) h2)
    (Kf : oMul fa fb = none → ∀ h2, Cs h2 → xSm [11] h h2 → Q (some (.int (nI 0))) h2) : xCt G l mX7_multiply d [.ref 10, .ref t, .ref a, .ref b] h 0 0 Q := by
  subst ea eb
  exact c_mul hd hC ht ha hb Kt Kf
end LAWS
/-- two numbers, if both can be -/
noncomputable def o2 (a b : zO) : Option ((Nat → Int32) × (Nat → Int32)) := a.bind (fun f => b.map (fun g => (f, g)))
/-- both sides of a law; w k: the six products of pairs xx xy yx yz zx zy -/
noncomputable def oLaw (k : Nat) (w : Nat → Nat → Int32) (x y z : Nat → Int32) : Option ((Nat → Int32) × (Nat → Int32)) := match k with
  | 0 => o2 (oMul (w 1) z) (oMul x (w 3))
  | 1 => some (w 1, w 2)
  | 2 => o2 (oMul x (w 1)) (oMul (w 0) y)
  | 3 => o2 (oMul (w 2) x) (oMul y (w 0))
  | 4 => o2 (oMul x (w 2)) (oMul (w 1) x)
  | 5 => o2 (oMul (w 4) (w 3)) ((oMul z (w 1)).bind (fun m => oMul m z))
  | 6 => some (x, x)
  | _ => o2 ((oMul (w 4) z).bind (fun m => oMul m y)) ((oMul x (w 5)).bind (fun m => oMul z m))
/-- the six products -/
def zSix (w0 w1 w2 w3 w4 w5 : Nat → Int32) : Nat → Nat → Int32 := fun k => match k with
  | 0 => w0
  | 1 => w1
  | 2 => w2
  | 3 => w3
  | 4 => w4
  | _ => w5
noncomputable def oPairs (x y z : Nat → Int32) : Option (Nat → Nat → Int32) := (oMul x x).bind (fun w0 => (oMul x y).bind (fun w1 => (oMul y x).bind (fun w2 => (oMul y z).bind (fun w3 => (oMul z x).bind (fun w4 => (oMul z y).map (fun w5 => zSix w0 w1 w2 w3 w4 w5))))))
abbrev lwS : List Nat := [11, 45, 46, 47, 48, 49, 50, 51, 52]
section LAWS
variable {G : xG} {l : Launch} {d : Nat} {h : xH} {Q : Option Value → xH → Prop}
theorem c_pairs {x y z : Nat} (hd : 2 ≤ d) (hC : Cs h) (hx : csV x) (hy : csV y) (hz : csV z) (nx : x ∉ lwS) (ny : y ∉ lwS) (nz : z ∉ lwS)
    (Kt : ∀ w, oPairs (iv h x) (iv h y) (iv h z) = some w → ∀ h2, Cs h2 → xSm lwS h h2 → (∀ k, k < 6 → iv h2 (45 + k) = w k) → Q (some (.int (nI 1))) h2)
    (Kf : oPairs (iv h x) (iv h y) (iv h z) = none → ∀ h2, Cs h2 → xSm lwS h h2 → Q (some (.int (nI 0))) h2) : xCt G l mX3_multiplyPairs d [.ref 44, .ref x, .ref y, .ref z] h 0 0 Q := by
  refine xCt_of (by decide) (Nat.le_of_ble_eq_true rfl) ?_
  refine x_aload_n (i := 0) dX3_multiplyPairs_0 rfl rfl rfl ?_
  refine x_getC dX3_multiplyPairs_1 rfl fX3_36 hC rfl F_44_0 ?_
  refine x_aload_n (i := 0) dX3_multiplyPairs_4 rfl rfl rfl ?_
  refine x_getC dX3_multiplyPairs_5 rfl fX3_9 hC rfl F_44_1 ?_
  refine x_aload_n (i := 1) dX3_multiplyPairs_8 rfl rfl rfl ?_
  refine x_aload_n (i := 1) dX3_multiplyPairs_9 rfl rfl rfl ?_
  refine x_callV0 (ci := 7) (b := 10) (As := [_, _, _]) (d2 := d - 1) dX3_multiplyPairs_10 rfl kX3_57 okX7_multiply (hC.o rfl) (fun q hq => by cases hq; rfl) (by omega) rfl rfl (Nat.le_of_ble_eq_true rfl) (c_mulE (by omega) hC (t := 45) rfl (a := x) hx (b := x) hx rfl rfl (fun z1 q1 h1 hC1 s1 v1 => ?_) (fun q1 h1 hC1 s1 => ?_))
  · have hC := hC1
    refine x_if_eq_f (tgt := 100) dX3_multiplyPairs_13 rfl rfl nb1 ?_
    refine x_aload_n (i := 0) dX3_multiplyPairs_16 rfl rfl rfl ?_
    refine x_getC dX3_multiplyPairs_17 rfl fX3_36 hC rfl F_44_0 ?_
    refine x_aload_n (i := 0) dX3_multiplyPairs_20 rfl rfl rfl ?_
    refine x_getC dX3_multiplyPairs_21 rfl fX3_15 hC rfl F_44_2 ?_
    refine x_aload_n (i := 1) dX3_multiplyPairs_24 rfl rfl rfl ?_
    refine x_aload_n (i := 2) dX3_multiplyPairs_25 rfl rfl rfl ?_
    refine x_callV0 (ci := 7) (b := 10) (As := [_, _, _]) (d2 := d - 1) dX3_multiplyPairs_26 rfl kX3_57 okX7_multiply (hC.o rfl) (fun q hq => by cases hq; rfl) (by omega) rfl rfl (Nat.le_of_ble_eq_true rfl) (c_mulE (by omega) hC (t := 46) rfl (a := x) hx (b := y) hy ((s1.iv (by simp at nx ⊢; omega))) ((s1.iv (by simp at ny ⊢; omega))) (fun z2 q2 h2 hC2 s2 v2 => ?_) (fun q2 h2 hC2 s2 => ?_))
    · have hC := hC2
      refine x_if_eq_f (tgt := 100) dX3_multiplyPairs_29 rfl rfl nb1 ?_
      refine x_aload_n (i := 0) dX3_multiplyPairs_32 rfl rfl rfl ?_
      refine x_getC dX3_multiplyPairs_33 rfl fX3_36 hC rfl F_44_0 ?_
      refine x_aload_n (i := 0) dX3_multiplyPairs_36 rfl rfl rfl ?_
      refine x_getC dX3_multiplyPairs_37 rfl fX3_18 hC rfl F_44_3 ?_
      refine x_aload_n (i := 2) dX3_multiplyPairs_40 rfl rfl rfl ?_
      refine x_aload_n (i := 1) dX3_multiplyPairs_41 rfl rfl rfl ?_
      refine x_callV0 (ci := 7) (b := 10) (As := [_, _, _]) (d2 := d - 1) dX3_multiplyPairs_42 rfl kX3_57 okX7_multiply (hC.o rfl) (fun q hq => by cases hq; rfl) (by omega) rfl rfl (Nat.le_of_ble_eq_true rfl) (c_mulE (by omega) hC (t := 47) rfl (a := y) hy (b := x) hx ((s2.iv (by simp at ny ⊢; omega)).trans ((s1.iv (by simp at ny ⊢; omega)))) ((s2.iv (by simp at nx ⊢; omega)).trans ((s1.iv (by simp at nx ⊢; omega)))) (fun z3 q3 h3 hC3 s3 v3 => ?_) (fun q3 h3 hC3 s3 => ?_))
      · have hC := hC3
        refine x_if_eq_f (tgt := 100) dX3_multiplyPairs_45 rfl rfl nb1 ?_
        refine x_aload_n (i := 0) dX3_multiplyPairs_48 rfl rfl rfl ?_
        refine x_getC dX3_multiplyPairs_49 rfl fX3_36 hC rfl F_44_0 ?_
        refine x_aload_n (i := 0) dX3_multiplyPairs_52 rfl rfl rfl ?_
        refine x_getC dX3_multiplyPairs_53 rfl fX3_21 hC rfl F_44_4 ?_
        refine x_aload_n (i := 2) dX3_multiplyPairs_56 rfl rfl rfl ?_
        refine x_aload_n (i := 3) dX3_multiplyPairs_57 rfl rfl rfl ?_
        refine x_callV0 (ci := 7) (b := 10) (As := [_, _, _]) (d2 := d - 1) dX3_multiplyPairs_58 rfl kX3_57 okX7_multiply (hC.o rfl) (fun q hq => by cases hq; rfl) (by omega) rfl rfl (Nat.le_of_ble_eq_true rfl) (c_mulE (by omega) hC (t := 48) rfl (a := y) hy (b := z) hz ((s3.iv (by simp at ny ⊢; omega)).trans ((s2.iv (by simp at ny ⊢; omega)).trans ((s1.iv (by simp at ny ⊢; omega))))) ((s3.iv (by simp at nz ⊢; omega)).trans ((s2.iv (by simp at nz ⊢; omega)).trans ((s1.iv (by simp at nz ⊢; omega))))) (fun z4 q4 h4 hC4 s4 v4 => ?_) (fun q4 h4 hC4 s4 => ?_))
        · have hC := hC4
          refine x_if_eq_f (tgt := 100) dX3_multiplyPairs_61 rfl rfl nb1 ?_
          refine x_aload_n (i := 0) dX3_multiplyPairs_64 rfl rfl rfl ?_
          refine x_getC dX3_multiplyPairs_65 rfl fX3_36 hC rfl F_44_0 ?_
          refine x_aload_n (i := 0) dX3_multiplyPairs_68 rfl rfl rfl ?_
          refine x_getC dX3_multiplyPairs_69 rfl fX3_24 hC rfl F_44_5 ?_
          refine x_aload_n (i := 3) dX3_multiplyPairs_72 rfl rfl rfl ?_
          refine x_aload_n (i := 1) dX3_multiplyPairs_73 rfl rfl rfl ?_
          refine x_callV0 (ci := 7) (b := 10) (As := [_, _, _]) (d2 := d - 1) dX3_multiplyPairs_74 rfl kX3_57 okX7_multiply (hC.o rfl) (fun q hq => by cases hq; rfl) (by omega) rfl rfl (Nat.le_of_ble_eq_true rfl) (c_mulE (by omega) hC (t := 49) rfl (a := z) hz (b := x) hx ((s4.iv (by simp at nz ⊢; omega)).trans ((s3.iv (by simp at nz ⊢; omega)).trans ((s2.iv (by simp at nz ⊢; omega)).trans ((s1.iv (by simp at nz ⊢; omega)))))) ((s4.iv (by simp at nx ⊢; omega)).trans ((s3.iv (by simp at nx ⊢; omega)).trans ((s2.iv (by simp at nx ⊢; omega)).trans ((s1.iv (by simp at nx ⊢; omega)))))) (fun z5 q5 h5 hC5 s5 v5 => ?_) (fun q5 h5 hC5 s5 => ?_))
          · have hC := hC5
            refine x_if_eq_f (tgt := 100) dX3_multiplyPairs_77 rfl rfl nb1 ?_
            refine x_aload_n (i := 0) dX3_multiplyPairs_80 rfl rfl rfl ?_
            refine x_getC dX3_multiplyPairs_81 rfl fX3_36 hC rfl F_44_0 ?_
            refine x_aload_n (i := 0) dX3_multiplyPairs_84 rfl rfl rfl ?_
            refine x_getC dX3_multiplyPairs_85 rfl fX3_27 hC rfl F_44_6 ?_
            refine x_aload_n (i := 3) dX3_multiplyPairs_88 rfl rfl rfl ?_
            refine x_aload_n (i := 2) dX3_multiplyPairs_89 rfl rfl rfl ?_
            refine x_callV0 (ci := 7) (b := 10) (As := [_, _, _]) (d2 := d - 1) dX3_multiplyPairs_90 rfl kX3_57 okX7_multiply (hC.o rfl) (fun q hq => by cases hq; rfl) (by omega) rfl rfl (Nat.le_of_ble_eq_true rfl) (c_mulE (by omega) hC (t := 50) rfl (a := z) hz (b := y) hy ((s5.iv (by simp at nz ⊢; omega)).trans ((s4.iv (by simp at nz ⊢; omega)).trans ((s3.iv (by simp at nz ⊢; omega)).trans ((s2.iv (by simp at nz ⊢; omega)).trans ((s1.iv (by simp at nz ⊢; omega))))))) ((s5.iv (by simp at ny ⊢; omega)).trans ((s4.iv (by simp at ny ⊢; omega)).trans ((s3.iv (by simp at ny ⊢; omega)).trans ((s2.iv (by simp at ny ⊢; omega)).trans ((s1.iv (by simp at ny ⊢; omega))))))) (fun z6 q6 h6 hC6 s6 v6 => ?_) (fun q6 h6 hC6 s6 => ?_))
            · refine x_if_eq_f (tgt := 100) dX3_multiplyPairs_93 rfl rfl nb1 ?_
              refine x_iconst dX3_multiplyPairs_96 rfl iC_1 ?_
              refine x_goto (tgt := 101) dX3_multiplyPairs_97 rfl ?_
              refine x_ireturn dX3_multiplyPairs_101 rfl rfl ?_
              exact Kt (zSix z1 z2 z3 z4 z5 z6) (by simp [oPairs, q1, q2, q3, q4, q5, q6]) h6 hC6 ((((((s1.tr s2).tr s3).tr s4).tr s5).tr s6).sub (by simp)) (fun k hk => by rcases (show k = 0 ∨ k = 1 ∨ k = 2 ∨ k = 3 ∨ k = 4 ∨ k = 5 by omega) with rfl | rfl | rfl | rfl | rfl | rfl; exact ((s6.iv (by decide)).trans ((s5.iv (by decide)).trans ((s4.iv (by decide)).trans ((s3.iv (by decide)).trans ((s2.iv (by decide)).trans v1))))); exact ((s6.iv (by decide)).trans ((s5.iv (by decide)).trans ((s4.iv (by decide)).trans ((s3.iv (by decide)).trans v2)))); exact ((s6.iv (by decide)).trans ((s5.iv (by decide)).trans ((s4.iv (by decide)).trans v3))); exact ((s6.iv (by decide)).trans ((s5.iv (by decide)).trans v4)); exact ((s6.iv (by decide)).trans v5); exact v6)
            · refine x_if_eq_t (tgt := 100) dX3_multiplyPairs_93 rfl nI_0 ?_
              refine x_iconst dX3_multiplyPairs_100 rfl iC_0 ?_
              refine x_ireturn dX3_multiplyPairs_101 rfl rfl ?_
              exact Kf (by simp [oPairs, q1, q2, q3, q4, q5, q6]) h6 hC6 ((((((s1.tr s2).tr s3).tr s4).tr s5).tr s6).sub (by simp))
          · refine x_if_eq_t (tgt := 100) dX3_multiplyPairs_77 rfl nI_0 ?_
            refine x_iconst dX3_multiplyPairs_100 rfl iC_0 ?_
            refine x_ireturn dX3_multiplyPairs_101 rfl rfl ?_
            exact Kf (by simp [oPairs, q1, q2, q3, q4, q5]) h5 hC5 (((((s1.tr s2).tr s3).tr s4).tr s5).sub (by simp))
        · refine x_if_eq_t (tgt := 100) dX3_multiplyPairs_61 rfl nI_0 ?_
          refine x_iconst dX3_multiplyPairs_100 rfl iC_0 ?_
          refine x_ireturn dX3_multiplyPairs_101 rfl rfl ?_
          exact Kf (by simp [oPairs, q1, q2, q3, q4]) h4 hC4 ((((s1.tr s2).tr s3).tr s4).sub (by simp))
      · refine x_if_eq_t (tgt := 100) dX3_multiplyPairs_45 rfl nI_0 ?_
        refine x_iconst dX3_multiplyPairs_100 rfl iC_0 ?_
        refine x_ireturn dX3_multiplyPairs_101 rfl rfl ?_
        exact Kf (by simp [oPairs, q1, q2, q3]) h3 hC3 (((s1.tr s2).tr s3).sub (by simp))
    · refine x_if_eq_t (tgt := 100) dX3_multiplyPairs_29 rfl nI_0 ?_
      refine x_iconst dX3_multiplyPairs_100 rfl iC_0 ?_
      refine x_ireturn dX3_multiplyPairs_101 rfl rfl ?_
      exact Kf (by simp [oPairs, q1, q2]) h2 hC2 ((s1.tr s2).sub (by simp))
  · refine x_if_eq_t (tgt := 100) dX3_multiplyPairs_13 rfl nI_0 ?_
    refine x_iconst dX3_multiplyPairs_100 rfl iC_0 ?_
    refine x_ireturn dX3_multiplyPairs_101 rfl rfl ?_
    exact Kf (by simp [oPairs, q1]) h1 hC1 (s1.sub (by simp))
theorem c_bothSides {k : Nat} (hk : k < 8) {x y z : Nat} (hd : 2 ≤ d) (hC : Cs h) (hx : csV x) (hy : csV y) (hz : csV z) (nx : x ∉ lwS) (ny : y ∉ lwS) (nz : z ∉ lwS)
    (Kt : ∀ q, oLaw k (fun k => iv h (45 + k)) (iv h x) (iv h y) (iv h z) = some q → ∀ h2, Cs h2 → xSm [11, 51, 52] h h2 → (k ≠ 6 → iv h2 51 = q.1 ∧ iv h2 52 = q.2) → Q (some (.int (nI 1))) h2)
    (Kf : oLaw k (fun k => iv h (45 + k)) (iv h x) (iv h y) (iv h z) = none → ∀ h2, Cs h2 → xSm [11, 51, 52] h h2 → Q (some (.int (nI 0))) h2) : xCt G l mX3_layBothSides d [.ref 44, .int (nI k), .ref x, .ref y, .ref z] h 0 0 Q := by
  refine xCt_of (by decide) (Nat.le_of_ble_eq_true rfl) ?_
  refine x_iload_n (i := 1) dX3_layBothSides_0 rfl rfl rfl ?_
  rcases (show k = 0 ∨ k = 1 ∨ k = 2 ∨ k = 3 ∨ k = 4 ∨ k = 5 ∨ k = 6 ∨ k = 7 by omega) with rfl | rfl | rfl | rfl | rfl | rfl | rfl | rfl
  · refine x_tabIn (tgt := 44) dX3_layBothSides_1 (by decide) (by decide) (off := 43) rfl rfl ?_
    refine x_aload_n (i := 0) dX3_layBothSides_44 rfl rfl rfl ?_
    refine x_getC dX3_layBothSides_45 rfl fX3_36 hC rfl F_44_0 ?_
    refine x_aload_n (i := 0) dX3_layBothSides_48 rfl rfl rfl ?_
    refine x_getC dX3_layBothSides_49 rfl fX3_30 hC rfl F_44_7 ?_
    refine x_aload_n (i := 0) dX3_layBothSides_52 rfl rfl rfl ?_
    refine x_getC dX3_layBothSides_53 rfl fX3_15 hC rfl F_44_2 ?_
    refine x_aload dX3_layBothSides_56 rfl rfl ?_
    refine x_callV0 (ci := 7) (b := 10) (As := [_, _, _]) (d2 := d - 1) dX3_layBothSides_58 rfl kX3_57 okX7_multiply (hC.o rfl) (fun q hq => by cases hq; rfl) (by omega) rfl rfl (Nat.le_of_ble_eq_true rfl) (c_mulE (by omega) hC (t := 51) rfl (a := 46) rfl (b := z) hz rfl rfl (fun z1 q1 h1 hC1 s1 v1 => ?_) (fun q1 h1 hC1 s1 => ?_))
    · have hC := hC1
      refine x_if_eq_f (tgt := 87) dX3_layBothSides_61 rfl rfl nb1 ?_
      refine x_aload_n (i := 0) dX3_layBothSides_64 rfl rfl rfl ?_
      refine x_getC dX3_layBothSides_65 rfl fX3_36 hC rfl F_44_0 ?_
      refine x_aload_n (i := 0) dX3_layBothSides_68 rfl rfl rfl ?_
      refine x_getC dX3_layBothSides_69 rfl fX3_33 hC rfl F_44_8 ?_
      refine x_aload_n (i := 2) dX3_layBothSides_72 rfl rfl rfl ?_
      refine x_aload_n (i := 0) dX3_layBothSides_73 rfl rfl rfl ?_
      refine x_getC dX3_layBothSides_74 rfl fX3_21 hC rfl F_44_4 ?_
      refine x_callV0 (ci := 7) (b := 10) (As := [_, _, _]) (d2 := d - 1) dX3_layBothSides_77 rfl kX3_57 okX7_multiply (hC.o rfl) (fun q hq => by cases hq; rfl) (by omega) rfl rfl (Nat.le_of_ble_eq_true rfl) (c_mulE (by omega) hC (t := 52) rfl (a := x) hx (b := 48) rfl ((s1.iv (by simp at nx ⊢; omega))) ((s1.iv (by decide))) (fun z2 q2 h2 hC2 s2 v2 => ?_) (fun q2 h2 hC2 s2 => ?_))
      · refine x_if_eq_f (tgt := 87) dX3_layBothSides_80 rfl rfl nb1 ?_
        refine x_iconst dX3_layBothSides_83 rfl iC_1 ?_
        refine x_goto (tgt := 88) dX3_layBothSides_84 rfl ?_
        refine x_ireturn dX3_layBothSides_88 rfl rfl ?_
        exact Kt (_, _) (by simp [oLaw, o2, q1, q2]) h2 hC2 ((s1.tr s2).sub (by simp)) (fun _ => ⟨((s2.iv (by decide)).trans v1), v2⟩)
      · refine x_if_eq_t (tgt := 87) dX3_layBothSides_80 rfl nI_0 ?_
        refine x_iconst dX3_layBothSides_87 rfl iC_0 ?_
        refine x_ireturn dX3_layBothSides_88 rfl rfl ?_
        exact Kf (by simp [oLaw, o2, q1, q2]) h2 hC2 ((s1.tr s2).sub (by simp))
    · refine x_if_eq_t (tgt := 87) dX3_layBothSides_61 rfl nI_0 ?_
      refine x_iconst dX3_layBothSides_87 rfl iC_0 ?_
      refine x_ireturn dX3_layBothSides_88 rfl rfl ?_
      exact Kf (by simp [oLaw, o2, q1]) h1 hC1 (s1.sub (by simp))
  · refine x_tabIn (tgt := 89) dX3_layBothSides_1 (by decide) (by decide) (off := 88) rfl rfl ?_
    have v51 := hC.v (a := 51) rfl
    have v52 := hC.v (a := 52) rfl
    have v46 := hC.v (a := 46) rfl
    have v47 := hC.v (a := 47) rfl
    refine x_aload_n (i := 0) dX3_layBothSides_89 rfl rfl rfl ?_
    refine x_getC dX3_layBothSides_90 rfl fX3_30 hC rfl F_44_7 ?_
    refine x_aload_n (i := 0) dX3_layBothSides_93 rfl rfl rfl ?_
    refine x_getC dX3_layBothSides_94 rfl fX3_15 hC rfl F_44_2 ?_
    refine x_callS0 (As := [_, _]) (d2 := d - 1) dX3_layBothSides_97 rfl kX3_62 okX5_lay (by omega) rfl rfl (Nat.le_of_ble_eq_true rfl) (c_lay (by omega) v51 v46 ?_)
    have hC1 := hC.setI (f := iv h 46) v51 (Or.inl rfl) (by decide)
    refine x_aload_n (i := 0) dX3_layBothSides_100 rfl rfl rfl ?_
    refine x_getC dX3_layBothSides_101 rfl fX3_33 hC1 rfl F_44_8 ?_
    refine x_aload_n (i := 0) dX3_layBothSides_104 rfl rfl rfl ?_
    refine x_getC dX3_layBothSides_105 rfl fX3_18 hC1 rfl F_44_3 ?_
    refine x_callS0 (As := [_, _]) (d2 := d - 1) dX3_layBothSides_108 rfl kX3_62 okX5_lay (by omega) rfl rfl (Nat.le_of_ble_eq_true rfl) (c_lay (by omega) (hs_ne (by decide) v52) (hs_ne (by decide) v47) ?_)
    refine x_iconst dX3_layBothSides_111 rfl iC_1 ?_
    refine x_ireturn dX3_layBothSides_112 rfl rfl ?_
    exact Kt _ rfl _ (hC1.setI (f := iv h 47) (hs_ne (by decide) v52) (Or.inl rfl) (by decide)) (xSm.hs2.sub (by simp)) (fun _ => ⟨by rw [iv_n (by decide), iv_hs], iv_hs⟩)
  · refine x_tabIn (tgt := 113) dX3_layBothSides_1 (by decide) (by decide) (off := 112) rfl rfl ?_
    refine x_aload_n (i := 0) dX3_layBothSides_113 rfl rfl rfl ?_
    refine x_getC dX3_layBothSides_114 rfl fX3_36 hC rfl F_44_0 ?_
    refine x_aload_n (i := 0) dX3_layBothSides_117 rfl rfl rfl ?_
    refine x_getC dX3_layBothSides_118 rfl fX3_30 hC rfl F_44_7 ?_
    refine x_aload_n (i := 2) dX3_layBothSides_121 rfl rfl rfl ?_
    refine x_aload_n (i := 0) dX3_layBothSides_122 rfl rfl rfl ?_
    refine x_getC dX3_layBothSides_123 rfl fX3_15 hC rfl F_44_2 ?_
    refine x_callV0 (ci := 7) (b := 10) (As := [_, _, _]) (d2 := d - 1) dX3_layBothSides_126 rfl kX3_57 okX7_multiply (hC.o rfl) (fun q hq => by cases hq; rfl) (by omega) rfl rfl (Nat.le_of_ble_eq_true rfl) (c_mulE (by omega) hC (t := 51) rfl (a := x) hx (b := 46) rfl rfl rfl (fun z1 q1 h1 hC1 s1 v1 => ?_) (fun q1 h1 hC1 s1 => ?_))
    · have hC := hC1
      refine x_if_eq_f (tgt := 155) dX3_layBothSides_129 rfl rfl nb1 ?_
      refine x_aload_n (i := 0) dX3_layBothSides_132 rfl rfl rfl ?_
      refine x_getC dX3_layBothSides_133 rfl fX3_36 hC rfl F_44_0 ?_
      refine x_aload_n (i := 0) dX3_layBothSides_136 rfl rfl rfl ?_
      refine x_getC dX3_layBothSides_137 rfl fX3_33 hC rfl F_44_8 ?_
      refine x_aload_n (i := 0) dX3_layBothSides_140 rfl rfl rfl ?_
      refine x_getC dX3_layBothSides_141 rfl fX3_9 hC rfl F_44_1 ?_
      refine x_aload_n (i := 3) dX3_layBothSides_144 rfl rfl rfl ?_
      refine x_callV0 (ci := 7) (b := 10) (As := [_, _, _]) (d2 := d - 1) dX3_layBothSides_145 rfl kX3_57 okX7_multiply (hC.o rfl) (fun q hq => by cases hq; rfl) (by omega) rfl rfl (Nat.le_of_ble_eq_true rfl) (c_mulE (by omega) hC (t := 52) rfl (a := 45) rfl (b := y) hy ((s1.iv (by decide))) ((s1.iv (by simp at ny ⊢; omega))) (fun z2 q2 h2 hC2 s2 v2 => ?_) (fun q2 h2 hC2 s2 => ?_))
      · refine x_if_eq_f (tgt := 155) dX3_layBothSides_148 rfl rfl nb1 ?_
        refine x_iconst dX3_layBothSides_151 rfl iC_1 ?_
        refine x_goto (tgt := 156) dX3_layBothSides_152 rfl ?_
        refine x_ireturn dX3_layBothSides_156 rfl rfl ?_
        exact Kt (_, _) (by simp [oLaw, o2, q1, q2]) h2 hC2 ((s1.tr s2).sub (by simp)) (fun _ => ⟨((s2.iv (by decide)).trans v1), v2⟩)
      · refine x_if_eq_t (tgt := 155) dX3_layBothSides_148 rfl nI_0 ?_
        refine x_iconst dX3_layBothSides_155 rfl iC_0 ?_
        refine x_ireturn dX3_layBothSides_156 rfl rfl ?_
        exact Kf (by simp [oLaw, o2, q1, q2]) h2 hC2 ((s1.tr s2).sub (by simp))
    · refine x_if_eq_t (tgt := 155) dX3_layBothSides_129 rfl nI_0 ?_
      refine x_iconst dX3_layBothSides_155 rfl iC_0 ?_
      refine x_ireturn dX3_layBothSides_156 rfl rfl ?_
      exact Kf (by simp [oLaw, o2, q1]) h1 hC1 (s1.sub (by simp))
  · refine x_tabIn (tgt := 157) dX3_layBothSides_1 (by decide) (by decide) (off := 156) rfl rfl ?_
    refine x_aload_n (i := 0) dX3_layBothSides_157 rfl rfl rfl ?_
    refine x_getC dX3_layBothSides_158 rfl fX3_36 hC rfl F_44_0 ?_
    refine x_aload_n (i := 0) dX3_layBothSides_161 rfl rfl rfl ?_
    refine x_getC dX3_layBothSides_162 rfl fX3_30 hC rfl F_44_7 ?_
    refine x_aload_n (i := 0) dX3_layBothSides_165 rfl rfl rfl ?_
    refine x_getC dX3_layBothSides_166 rfl fX3_18 hC rfl F_44_3 ?_
    refine x_aload_n (i := 2) dX3_layBothSides_169 rfl rfl rfl ?_
    refine x_callV0 (ci := 7) (b := 10) (As := [_, _, _]) (d2 := d - 1) dX3_layBothSides_170 rfl kX3_57 okX7_multiply (hC.o rfl) (fun q hq => by cases hq; rfl) (by omega) rfl rfl (Nat.le_of_ble_eq_true rfl) (c_mulE (by omega) hC (t := 51) rfl (a := 47) rfl (b := x) hx rfl rfl (fun z1 q1 h1 hC1 s1 v1 => ?_) (fun q1 h1 hC1 s1 => ?_))
    · have hC := hC1
      refine x_if_eq_f (tgt := 199) dX3_layBothSides_173 rfl rfl nb1 ?_
      refine x_aload_n (i := 0) dX3_layBothSides_176 rfl rfl rfl ?_
      refine x_getC dX3_layBothSides_177 rfl fX3_36 hC rfl F_44_0 ?_
      refine x_aload_n (i := 0) dX3_layBothSides_180 rfl rfl rfl ?_
      refine x_getC dX3_layBothSides_181 rfl fX3_33 hC rfl F_44_8 ?_
      refine x_aload_n (i := 3) dX3_layBothSides_184 rfl rfl rfl ?_
      refine x_aload_n (i := 0) dX3_layBothSides_185 rfl rfl rfl ?_
      refine x_getC dX3_layBothSides_186 rfl fX3_9 hC rfl F_44_1 ?_
      refine x_callV0 (ci := 7) (b := 10) (As := [_, _, _]) (d2 := d - 1) dX3_layBothSides_189 rfl kX3_57 okX7_multiply (hC.o rfl) (fun q hq => by cases hq; rfl) (by omega) rfl rfl (Nat.le_of_ble_eq_true rfl) (c_mulE (by omega) hC (t := 52) rfl (a := y) hy (b := 45) rfl ((s1.iv (by simp at ny ⊢; omega))) ((s1.iv (by decide))) (fun z2 q2 h2 hC2 s2 v2 => ?_) (fun q2 h2 hC2 s2 => ?_))
      · refine x_if_eq_f (tgt := 199) dX3_layBothSides_192 rfl rfl nb1 ?_
        refine x_iconst dX3_layBothSides_195 rfl iC_1 ?_
        refine x_goto (tgt := 200) dX3_layBothSides_196 rfl ?_
        refine x_ireturn dX3_layBothSides_200 rfl rfl ?_
        exact Kt (_, _) (by simp [oLaw, o2, q1, q2]) h2 hC2 ((s1.tr s2).sub (by simp)) (fun _ => ⟨((s2.iv (by decide)).trans v1), v2⟩)
      · refine x_if_eq_t (tgt := 199) dX3_layBothSides_192 rfl nI_0 ?_
        refine x_iconst dX3_layBothSides_199 rfl iC_0 ?_
        refine x_ireturn dX3_layBothSides_200 rfl rfl ?_
        exact Kf (by simp [oLaw, o2, q1, q2]) h2 hC2 ((s1.tr s2).sub (by simp))
    · refine x_if_eq_t (tgt := 199) dX3_layBothSides_173 rfl nI_0 ?_
      refine x_iconst dX3_layBothSides_199 rfl iC_0 ?_
      refine x_ireturn dX3_layBothSides_200 rfl rfl ?_
      exact Kf (by simp [oLaw, o2, q1]) h1 hC1 (s1.sub (by simp))
  · refine x_tabIn (tgt := 201) dX3_layBothSides_1 (by decide) (by decide) (off := 200) rfl rfl ?_
    refine x_aload_n (i := 0) dX3_layBothSides_201 rfl rfl rfl ?_
    refine x_getC dX3_layBothSides_202 rfl fX3_36 hC rfl F_44_0 ?_
    refine x_aload_n (i := 0) dX3_layBothSides_205 rfl rfl rfl ?_
    refine x_getC dX3_layBothSides_206 rfl fX3_30 hC rfl F_44_7 ?_
    refine x_aload_n (i := 2) dX3_layBothSides_209 rfl rfl rfl ?_
    refine x_aload_n (i := 0) dX3_layBothSides_210 rfl rfl rfl ?_
    refine x_getC dX3_layBothSides_211 rfl fX3_18 hC rfl F_44_3 ?_
    refine x_callV0 (ci := 7) (b := 10) (As := [_, _, _]) (d2 := d - 1) dX3_layBothSides_214 rfl kX3_57 okX7_multiply (hC.o rfl) (fun q hq => by cases hq; rfl) (by omega) rfl rfl (Nat.le_of_ble_eq_true rfl) (c_mulE (by omega) hC (t := 51) rfl (a := x) hx (b := 47) rfl rfl rfl (fun z1 q1 h1 hC1 s1 v1 => ?_) (fun q1 h1 hC1 s1 => ?_))
    · have hC := hC1
      refine x_if_eq_f (tgt := 243) dX3_layBothSides_217 rfl rfl nb1 ?_
      refine x_aload_n (i := 0) dX3_layBothSides_220 rfl rfl rfl ?_
      refine x_getC dX3_layBothSides_221 rfl fX3_36 hC rfl F_44_0 ?_
      refine x_aload_n (i := 0) dX3_layBothSides_224 rfl rfl rfl ?_
      refine x_getC dX3_layBothSides_225 rfl fX3_33 hC rfl F_44_8 ?_
      refine x_aload_n (i := 0) dX3_layBothSides_228 rfl rfl rfl ?_
      refine x_getC dX3_layBothSides_229 rfl fX3_15 hC rfl F_44_2 ?_
      refine x_aload_n (i := 2) dX3_layBothSides_232 rfl rfl rfl ?_
      refine x_callV0 (ci := 7) (b := 10) (As := [_, _, _]) (d2 := d - 1) dX3_layBothSides_233 rfl kX3_57 okX7_multiply (hC.o rfl) (fun q hq => by cases hq; rfl) (by omega) rfl rfl (Nat.le_of_ble_eq_true rfl) (c_mulE (by omega) hC (t := 52) rfl (a := 46) rfl (b := x) hx ((s1.iv (by decide))) ((s1.iv (by simp at nx ⊢; omega))) (fun z2 q2 h2 hC2 s2 v2 => ?_) (fun q2 h2 hC2 s2 => ?_))
      · refine x_if_eq_f (tgt := 243) dX3_layBothSides_236 rfl rfl nb1 ?_
        refine x_iconst dX3_layBothSides_239 rfl iC_1 ?_
        refine x_goto (tgt := 244) dX3_layBothSides_240 rfl ?_
        refine x_ireturn dX3_layBothSides_244 rfl rfl ?_
        exact Kt (_, _) (by simp [oLaw, o2, q1, q2]) h2 hC2 ((s1.tr s2).sub (by simp)) (fun _ => ⟨((s2.iv (by decide)).trans v1), v2⟩)
      · refine x_if_eq_t (tgt := 243) dX3_layBothSides_236 rfl nI_0 ?_
        refine x_iconst dX3_layBothSides_243 rfl iC_0 ?_
        refine x_ireturn dX3_layBothSides_244 rfl rfl ?_
        exact Kf (by simp [oLaw, o2, q1, q2]) h2 hC2 ((s1.tr s2).sub (by simp))
    · refine x_if_eq_t (tgt := 243) dX3_layBothSides_217 rfl nI_0 ?_
      refine x_iconst dX3_layBothSides_243 rfl iC_0 ?_
      refine x_ireturn dX3_layBothSides_244 rfl rfl ?_
      exact Kf (by simp [oLaw, o2, q1]) h1 hC1 (s1.sub (by simp))
  · refine x_tabIn (tgt := 245) dX3_layBothSides_1 (by decide) (by decide) (off := 244) rfl rfl ?_
    refine x_aload_n (i := 0) dX3_layBothSides_245 rfl rfl rfl ?_
    refine x_getC dX3_layBothSides_246 rfl fX3_36 hC rfl F_44_0 ?_
    refine x_aload_n (i := 0) dX3_layBothSides_249 rfl rfl rfl ?_
    refine x_getC dX3_layBothSides_250 rfl fX3_30 hC rfl F_44_7 ?_
    refine x_aload_n (i := 0) dX3_layBothSides_253 rfl rfl rfl ?_
    refine x_getC dX3_layBothSides_254 rfl fX3_24 hC rfl F_44_5 ?_
    refine x_aload_n (i := 0) dX3_layBothSides_257 rfl rfl rfl ?_
    refine x_getC dX3_layBothSides_258 rfl fX3_21 hC rfl F_44_4 ?_
    refine x_callV0 (ci := 7) (b := 10) (As := [_, _, _]) (d2 := d - 1) dX3_layBothSides_261 rfl kX3_57 okX7_multiply (hC.o rfl) (fun q hq => by cases hq; rfl) (by omega) rfl rfl (Nat.le_of_ble_eq_true rfl) (c_mulE (by omega) hC (t := 51) rfl (a := 49) rfl (b := 48) rfl rfl rfl (fun z1 q1 h1 hC1 s1 v1 => ?_) (fun q1 h1 hC1 s1 => ?_))
    · have hC := hC1
      refine x_if_eq_f (tgt := 311) dX3_layBothSides_264 rfl rfl nb1 ?_
      refine x_aload_n (i := 0) dX3_layBothSides_267 rfl rfl rfl ?_
      refine x_getC dX3_layBothSides_268 rfl fX3_36 hC rfl F_44_0 ?_
      refine x_aload_n (i := 0) dX3_layBothSides_271 rfl rfl rfl ?_
      refine x_getC dX3_layBothSides_272 rfl fX3_33 hC rfl F_44_8 ?_
      refine x_aload dX3_layBothSides_275 rfl rfl ?_
      refine x_aload_n (i := 0) dX3_layBothSides_277 rfl rfl rfl ?_
      refine x_getC dX3_layBothSides_278 rfl fX3_15 hC rfl F_44_2 ?_
      refine x_callV0 (ci := 7) (b := 10) (As := [_, _, _]) (d2 := d - 1) dX3_layBothSides_281 rfl kX3_57 okX7_multiply (hC.o rfl) (fun q hq => by cases hq; rfl) (by omega) rfl rfl (Nat.le_of_ble_eq_true rfl) (c_mulE (by omega) hC (t := 52) rfl (a := z) hz (b := 46) rfl ((s1.iv (by simp at nz ⊢; omega))) ((s1.iv (by decide))) (fun z2 q2 h2 hC2 s2 v2 => ?_) (fun q2 h2 hC2 s2 => ?_))
      · have hC := hC2
        refine x_if_eq_f (tgt := 311) dX3_layBothSides_284 rfl rfl nb1 ?_
        refine x_aload_n (i := 0) dX3_layBothSides_287 rfl rfl rfl ?_
        refine x_getC dX3_layBothSides_288 rfl fX3_36 hC rfl F_44_0 ?_
        refine x_aload_n (i := 0) dX3_layBothSides_291 rfl rfl rfl ?_
        refine x_getC dX3_layBothSides_292 rfl fX3_33 hC rfl F_44_8 ?_
        refine x_aload_n (i := 0) dX3_layBothSides_295 rfl rfl rfl ?_
        refine x_getC dX3_layBothSides_296 rfl fX3_33 hC rfl F_44_8 ?_
        refine x_aload dX3_layBothSides_299 rfl rfl ?_
        refine x_callV0 (ci := 7) (b := 10) (As := [_, _, _]) (d2 := d - 1) dX3_layBothSides_301 rfl kX3_57 okX7_multiply (hC.o rfl) (fun q hq => by cases hq; rfl) (by omega) rfl rfl (Nat.le_of_ble_eq_true rfl) (c_mulE (by omega) hC (t := 52) rfl (a := 52) rfl (b := z) hz v2 ((s2.iv (by simp at nz ⊢; omega)).trans ((s1.iv (by simp at nz ⊢; omega)))) (fun z3 q3 h3 hC3 s3 v3 => ?_) (fun q3 h3 hC3 s3 => ?_))
        · refine x_if_eq_f (tgt := 311) dX3_layBothSides_304 rfl rfl nb1 ?_
          refine x_iconst dX3_layBothSides_307 rfl iC_1 ?_
          refine x_goto (tgt := 312) dX3_layBothSides_308 rfl ?_
          refine x_ireturn dX3_layBothSides_312 rfl rfl ?_
          exact Kt (_, _) (by simp [oLaw, o2, q1, q2, q3]) h3 hC3 (((s1.tr s2).tr s3).sub (by simp)) (fun _ => ⟨((s3.iv (by decide)).trans ((s2.iv (by decide)).trans v1)), v3⟩)
        · refine x_if_eq_t (tgt := 311) dX3_layBothSides_304 rfl nI_0 ?_
          refine x_iconst dX3_layBothSides_311 rfl iC_0 ?_
          refine x_ireturn dX3_layBothSides_312 rfl rfl ?_
          exact Kf (by simp [oLaw, o2, q1, q2, q3]) h3 hC3 (((s1.tr s2).tr s3).sub (by simp))
      · refine x_if_eq_t (tgt := 311) dX3_layBothSides_284 rfl nI_0 ?_
        refine x_iconst dX3_layBothSides_311 rfl iC_0 ?_
        refine x_ireturn dX3_layBothSides_312 rfl rfl ?_
        exact Kf (by simp [oLaw, o2, q1, q2]) h2 hC2 ((s1.tr s2).sub (by simp))
    · refine x_if_eq_t (tgt := 311) dX3_layBothSides_264 rfl nI_0 ?_
      refine x_iconst dX3_layBothSides_311 rfl iC_0 ?_
      refine x_ireturn dX3_layBothSides_312 rfl rfl ?_
      exact Kf (by simp [oLaw, o2, q1]) h1 hC1 (s1.sub (by simp))
  · refine x_tabIn (tgt := 313) dX3_layBothSides_1 (by decide) (by decide) (off := 312) rfl rfl ?_
    refine x_iconst dX3_layBothSides_313 rfl iC_1 ?_
    refine x_ireturn dX3_layBothSides_314 rfl rfl ?_
    exact Kt _ rfl h hC (xSm.rf.sub (by simp)) (fun e => absurd rfl e)
  · refine x_tabOut (tgt := 315) dX3_layBothSides_1 (Or.inr (by decide)) rfl ?_
    refine x_aload_n (i := 0) dX3_layBothSides_315 rfl rfl rfl ?_
    refine x_getC dX3_layBothSides_316 rfl fX3_36 hC rfl F_44_0 ?_
    refine x_aload_n (i := 0) dX3_layBothSides_319 rfl rfl rfl ?_
    refine x_getC dX3_layBothSides_320 rfl fX3_30 hC rfl F_44_7 ?_
    refine x_aload_n (i := 0) dX3_layBothSides_323 rfl rfl rfl ?_
    refine x_getC dX3_layBothSides_324 rfl fX3_24 hC rfl F_44_5 ?_
    refine x_aload dX3_layBothSides_327 rfl rfl ?_
    refine x_callV0 (ci := 7) (b := 10) (As := [_, _, _]) (d2 := d - 1) dX3_layBothSides_329 rfl kX3_57 okX7_multiply (hC.o rfl) (fun q hq => by cases hq; rfl) (by omega) rfl rfl (Nat.le_of_ble_eq_true rfl) (c_mulE (by omega) hC (t := 51) rfl (a := 49) rfl (b := z) hz rfl rfl (fun z1 q1 h1 hC1 s1 v1 => ?_) (fun q1 h1 hC1 s1 => ?_))
    · have hC := hC1
      refine x_if_eq_f (tgt := 397) dX3_layBothSides_332 rfl rfl nb1 ?_
      refine x_aload_n (i := 0) dX3_layBothSides_335 rfl rfl rfl ?_
      refine x_getC dX3_layBothSides_336 rfl fX3_36 hC rfl F_44_0 ?_
      refine x_aload_n (i := 0) dX3_layBothSides_339 rfl rfl rfl ?_
      refine x_getC dX3_layBothSides_340 rfl fX3_30 hC rfl F_44_7 ?_
      refine x_aload_n (i := 0) dX3_layBothSides_343 rfl rfl rfl ?_
      refine x_getC dX3_layBothSides_344 rfl fX3_30 hC rfl F_44_7 ?_
      refine x_aload_n (i := 3) dX3_layBothSides_347 rfl rfl rfl ?_
      refine x_callV0 (ci := 7) (b := 10) (As := [_, _, _]) (d2 := d - 1) dX3_layBothSides_348 rfl kX3_57 okX7_multiply (hC.o rfl) (fun q hq => by cases hq; rfl) (by omega) rfl rfl (Nat.le_of_ble_eq_true rfl) (c_mulE (by omega) hC (t := 51) rfl (a := 51) rfl (b := y) hy v1 ((s1.iv (by simp at ny ⊢; omega))) (fun z2 q2 h2 hC2 s2 v2 => ?_) (fun q2 h2 hC2 s2 => ?_))
      · have hC := hC2
        refine x_if_eq_f (tgt := 397) dX3_layBothSides_351 rfl rfl nb1 ?_
        refine x_aload_n (i := 0) dX3_layBothSides_354 rfl rfl rfl ?_
        refine x_getC dX3_layBothSides_355 rfl fX3_36 hC rfl F_44_0 ?_
        refine x_aload_n (i := 0) dX3_layBothSides_358 rfl rfl rfl ?_
        refine x_getC dX3_layBothSides_359 rfl fX3_33 hC rfl F_44_8 ?_
        refine x_aload_n (i := 2) dX3_layBothSides_362 rfl rfl rfl ?_
        refine x_aload_n (i := 0) dX3_layBothSides_363 rfl rfl rfl ?_
        refine x_getC dX3_layBothSides_364 rfl fX3_27 hC rfl F_44_6 ?_
        refine x_callV0 (ci := 7) (b := 10) (As := [_, _, _]) (d2 := d - 1) dX3_layBothSides_367 rfl kX3_57 okX7_multiply (hC.o rfl) (fun q hq => by cases hq; rfl) (by omega) rfl rfl (Nat.le_of_ble_eq_true rfl) (c_mulE (by omega) hC (t := 52) rfl (a := x) hx (b := 50) rfl ((s2.iv (by simp at nx ⊢; omega)).trans ((s1.iv (by simp at nx ⊢; omega)))) ((s2.iv (by decide)).trans ((s1.iv (by decide)))) (fun z3 q3 h3 hC3 s3 v3 => ?_) (fun q3 h3 hC3 s3 => ?_))
        · have hC := hC3
          refine x_if_eq_f (tgt := 397) dX3_layBothSides_370 rfl rfl nb1 ?_
          refine x_aload_n (i := 0) dX3_layBothSides_373 rfl rfl rfl ?_
          refine x_getC dX3_layBothSides_374 rfl fX3_36 hC rfl F_44_0 ?_
          refine x_aload_n (i := 0) dX3_layBothSides_377 rfl rfl rfl ?_
          refine x_getC dX3_layBothSides_378 rfl fX3_33 hC rfl F_44_8 ?_
          refine x_aload dX3_layBothSides_381 rfl rfl ?_
          refine x_aload_n (i := 0) dX3_layBothSides_383 rfl rfl rfl ?_
          refine x_getC dX3_layBothSides_384 rfl fX3_33 hC rfl F_44_8 ?_
          refine x_callV0 (ci := 7) (b := 10) (As := [_, _, _]) (d2 := d - 1) dX3_layBothSides_387 rfl kX3_57 okX7_multiply (hC.o rfl) (fun q hq => by cases hq; rfl) (by omega) rfl rfl (Nat.le_of_ble_eq_true rfl) (c_mulE (by omega) hC (t := 52) rfl (a := z) hz (b := 52) rfl ((s3.iv (by simp at nz ⊢; omega)).trans ((s2.iv (by simp at nz ⊢; omega)).trans ((s1.iv (by simp at nz ⊢; omega))))) v3 (fun z4 q4 h4 hC4 s4 v4 => ?_) (fun q4 h4 hC4 s4 => ?_))
          · refine x_if_eq_f (tgt := 397) dX3_layBothSides_390 rfl rfl nb1 ?_
            refine x_iconst dX3_layBothSides_393 rfl iC_1 ?_
            refine x_goto (tgt := 398) dX3_layBothSides_394 rfl ?_
            refine x_ireturn dX3_layBothSides_398 rfl rfl ?_
            exact Kt (_, _) (by simp [oLaw, o2, q1, q2, q3, q4]) h4 hC4 ((((s1.tr s2).tr s3).tr s4).sub (by simp)) (fun _ => ⟨((s4.iv (by decide)).trans ((s3.iv (by decide)).trans v2)), v4⟩)
          · refine x_if_eq_t (tgt := 397) dX3_layBothSides_390 rfl nI_0 ?_
            refine x_iconst dX3_layBothSides_397 rfl iC_0 ?_
            refine x_ireturn dX3_layBothSides_398 rfl rfl ?_
            exact Kf (by simp [oLaw, o2, q1, q2, q3, q4]) h4 hC4 ((((s1.tr s2).tr s3).tr s4).sub (by simp))
        · refine x_if_eq_t (tgt := 397) dX3_layBothSides_370 rfl nI_0 ?_
          refine x_iconst dX3_layBothSides_397 rfl iC_0 ?_
          refine x_ireturn dX3_layBothSides_398 rfl rfl ?_
          exact Kf (by simp [oLaw, o2, q1, q2, q3]) h3 hC3 (((s1.tr s2).tr s3).sub (by simp))
      · refine x_if_eq_t (tgt := 397) dX3_layBothSides_351 rfl nI_0 ?_
        refine x_iconst dX3_layBothSides_397 rfl iC_0 ?_
        refine x_ireturn dX3_layBothSides_398 rfl rfl ?_
        exact Kf (by simp [oLaw, o2, q1, q2]) h2 hC2 ((s1.tr s2).sub (by simp))
    · refine x_if_eq_t (tgt := 397) dX3_layBothSides_332 rfl nI_0 ?_
      refine x_iconst dX3_layBothSides_397 rfl iC_0 ?_
      refine x_ireturn dX3_layBothSides_398 rfl rfl ?_
      exact Kf (by simp [oLaw, o2, q1]) h1 hC1 (s1.sub (by simp))
theorem c_norms {x y : Nat} (hd : 2 ≤ d) (hC : Cs h) (hx : csV x) (hy : csV y)
    (Kt : 4 * zInn (iv h 46) (iv h 46) 8 = zInn (iv h x) (iv h x) 8 * zInn (iv h y) (iv h y) 8 → Q (some (.int (nI 1))) h)
    (Kf : ¬ 4 * zInn (iv h 46) (iv h 46) 8 = zInn (iv h x) (iv h x) 8 * zInn (iv h y) (iv h y) 8 → Q (some (.int (nI 0))) h) : xCt G l mX3_doNormsMultiply d [.ref 44, .ref x, .ref y] h 0 0 Q := by
  refine xCt_of (by decide) (Nat.le_of_ble_eq_true rfl) ?_
  refine x_ldc2 dX3_doNormsMultiply_0 rfl cX3_66 ?_
  refine x_aload_n (i := 0) dX3_doNormsMultiply_3 rfl rfl rfl ?_
  refine x_getC dX3_doNormsMultiply_4 rfl fX3_15 hC rfl F_44_2 ?_
  refine x_callS0 (As := [_]) (d2 := d - 1) dX3_doNormsMultiply_7 rfl kX3_68 okX5_normBy4 (by omega) rfl rfl (Nat.le_of_ble_eq_true rfl) (c_normBy4 (by omega) (hC.v rfl) ?_)
  refine x_lmul dX3_doNormsMultiply_10 rfl ?_
  refine x_aload_n (i := 1) dX3_doNormsMultiply_11 rfl rfl rfl ?_
  refine x_callS0 (As := [_]) (d2 := d - 1) dX3_doNormsMultiply_12 rfl kX3_68 okX5_normBy4 (by omega) rfl rfl (Nat.le_of_ble_eq_true rfl) (c_normBy4 (by omega) (hC.v hx) ?_)
  refine x_aload_n (i := 2) dX3_doNormsMultiply_15 rfl rfl rfl ?_
  refine x_callS0 (As := [_]) (d2 := d - 1) dX3_doNormsMultiply_16 rfl kX3_68 okX5_normBy4 (by omega) rfl rfl (Nat.le_of_ble_eq_true rfl) (c_normBy4 (by omega) (hC.v hy) ?_)
  refine x_lmul dX3_doNormsMultiply_19 rfl ?_
  refine x_lcmp dX3_doNormsMultiply_20 rfl ?_
  refine x_if_ne (tgt := 28) dX3_doNormsMultiply_21 rfl rfl (fun c21 => ?_) (fun c21 => ?_)
  · refine x_iconst dX3_doNormsMultiply_28 rfl iC_0 ?_
    refine x_ireturn dX3_doNormsMultiply_29 rfl rfl ?_
    exact Kf (fun e => c21 ((lg_cmp_eq _ _).mpr e))
  · refine x_iconst dX3_doNormsMultiply_24 rfl iC_1 ?_
    refine x_goto (tgt := 29) dX3_doNormsMultiply_25 rfl ?_
    refine x_ireturn dX3_doNormsMultiply_29 rfl rfl ?_
    exact Kt ((lg_cmp_eq _ _).mp c21)
end LAWS
/-- whether a law holds, if its sides can be -/
noncomputable def oHold (k : Nat) (w : Nat → Nat → Int32) (x y z : Nat → Int32) : Option Prop := (oLaw k w x y z).map (fun q => if k = 6 then 4 * zInn (w 1) (w 1) 8 = zInn x x 8 * zInn y y 8 else ∀ j, j < 8 → q.1 j = q.2 j)
noncomputable def zBit (p : Prop) (s b : Int32) : Int32 := @ite _ p (Classical.propDecidable _) (s ||| b) s
noncomputable def oHolds (w : Nat → Nat → Int32) (x y z : Nat → Int32) : Nat → Option Int32
  | 0 => some (nI 0)
  | k + 1 => (oHolds w x y z k).bind (fun s => (oHold k w x y z).map (fun p => zBit p s (nI 1 <<< (nI k &&& 31))))
noncomputable def zLaws (x y z : Nat → Int32) : Int32 := ((oPairs x y z).bind (fun w => oHolds w x y z 8)).getD (-2)
theorem oHolds_none {w : Nat → Nat → Int32} {x y z : Nat → Int32} {k : Nat} (hn : oHolds w x y z k = none) : ∀ m, k ≤ m → oHolds w x y z m = none := by
  intro m hm
  induction m with
  | zero => rwa [Nat.le_zero.mp hm] at hn
  | succ m ih =>
    rcases Nat.lt_or_ge k (m + 1) with q | q
    · rw [oHolds, ih (by omega)]
      rfl
    · rwa [show k = m + 1 by omega] at hn
section LAWS
variable {G : xG} {l : Launch} {d : Nat} {h : xH} {Q : Option Value → xH → Prop}
theorem c_whichHold {x y z : Nat} (hd : 3 ≤ d) (hC : Cs h) (hx : csV x) (hy : csV y) (hz : csV z) (nx : x ∉ lwS) (ny : y ∉ lwS) (nz : z ∉ lwS)
    (K : ∀ h2, Cs h2 → xSm lwS h h2 → Q (some (.int (zLaws (iv h x) (iv h y) (iv h z)))) h2) : xCt G l mX3_whichHold d [.ref 44, .ref x, .ref y, .ref z] h 0 0 Q := by
  refine xCt_of (by decide) (Nat.le_of_ble_eq_true rfl) ?_
  refine x_aload_n (i := 0) dX3_whichHold_0 rfl rfl rfl ?_
  refine x_aload_n (i := 1) dX3_whichHold_1 rfl rfl rfl ?_
  refine x_aload_n (i := 2) dX3_whichHold_2 rfl rfl rfl ?_
  refine x_aload_n (i := 3) dX3_whichHold_3 rfl rfl rfl ?_
  refine x_callV0 (ci := 3) (b := 44) (As := [_, _, _]) (d2 := d - 1) dX3_whichHold_4 rfl kX3_40 okX3_multiplyPairs (hC.o rfl) (fun q hq => by cases hq; rfl) (by omega) rfl rfl (Nat.le_of_ble_eq_true rfl) (c_pairs (by omega) hC hx hy hz nx ny nz (fun w hw h2 hC2 hS2 e2 => ?_) (fun hw h2 hC2 hS2 => ?_))
  · have el : zLaws (iv h x) (iv h y) (iv h z) = (oHolds w (iv h x) (iv h y) (iv h z) 8).getD (-2) := by unfold zLaws; rw [hw]; rfl
    rw [el] at K
    refine x_if_ne_t (tgt := 13) dX3_whichHold_7 rfl nb1 ?_
    refine x_iconst dX3_whichHold_13 rfl iC_0 ?_
    refine x_istore dX3_whichHold_14 rfl (by decide) ?_
    refine x_iconst dX3_whichHold_16 rfl iC_0 ?_
    refine x_istore dX3_whichHold_17 rfl (by decide) ?_
    have key := xloop (P := fun k => ∀ h2 s, Cs h2 → xSm lwS h h2 → (∀ k, k < 6 → iv h2 (45 + k) = w k) → oHolds w (iv h x) (iv h y) (iv h z) k = some s → xWP G l mX3_whichHold d (zM G Q) 0 0 19 (xls [(0, .ref 44), (1, .ref x), (2, .ref y), (3, .ref z), (4, .int s), (5, .int (nI k))]) [] h2) 8 (by
      intro k hk ih h2 s hC2 hS2 e2 es
      refine x_iload dX3_whichHold_19 rfl rfl ?_
      refine x_bipush dX3_whichHold_21 rfl bC_8 ?_
      refine x_jc_ge (tgt := 89) dX3_whichHold_23 rfl rfl (by omega) (by omega) (fun c23 => ?_) (fun c23 => ?_)
      · obtain rfl : k = 8 := by omega
        refine x_iload dX3_whichHold_89 rfl rfl ?_
        refine x_ireturn dX3_whichHold_91 rfl rfl ?_
        rw [es] at K
        exact K h2 hC2 hS2
      · have hC := hC2
        have ex : iv h2 x = iv h x := hS2.iv nx
        have ey : iv h2 y = iv h y := hS2.iv ny
        have ez : iv h2 z = iv h z := hS2.iv nz
        have ew : oLaw k (fun k => iv h2 (45 + k)) (iv h2 x) (iv h2 y) (iv h2 z) = oLaw k w (iv h x) (iv h y) (iv h z) := by
          rw [ex, ey, ez]
          unfold oLaw
          simp only [e2 0 (by decide), e2 1 (by decide), e2 2 (by decide), e2 3 (by decide), e2 4 (by decide), e2 5 (by decide)]
        refine x_aload_n (i := 0) dX3_whichHold_26 rfl rfl rfl ?_
        refine x_iload dX3_whichHold_27 rfl rfl ?_
        refine x_aload_n (i := 1) dX3_whichHold_29 rfl rfl rfl ?_
        refine x_aload_n (i := 2) dX3_whichHold_30 rfl rfl rfl ?_
        refine x_aload_n (i := 3) dX3_whichHold_31 rfl rfl rfl ?_
        refine x_callV0 (ci := 3) (b := 44) (As := [_, _, _, _]) (d2 := d - 1) dX3_whichHold_32 rfl kX3_44 okX3_layBothSides (hC.o rfl) (fun q hq => by cases hq; rfl) (by omega) rfl rfl (Nat.le_of_ble_eq_true rfl) (c_bothSides c23 (by omega) hC hx hy hz nx ny nz (fun q hq h3 hC3 hS3 e3 => ?_) (fun hq h3 hC3 hS3 => ?_))
        · rw [ew] at hq
          have hS := (hS2.tr hS3).sub (T := lwS) (by simp)
          have e23 : ∀ k, k < 6 → iv h3 (45 + k) = w k := fun j hj => (hS3.iv (by simp; omega)).trans (e2 j hj)
          have go : ∀ p : Prop, oHold k w (iv h x) (iv h y) (iv h z) = some p → oHolds w (iv h x) (iv h y) (iv h z) (k + 1) = some (zBit p s (nI 1 <<< (nI k &&& 31))) := by
            intro p hp
            rw [oHolds, es]
            show (oHold _ _ _ _ _).map _ = _
            rw [hp]
            rfl
          have hC := hC3
          have hy1 : ∀ p : Prop, p → oHold k w (iv h x) (iv h y) (iv h z) = some p → xWP G l mX3_whichHold d (zM G Q) 0 0 74 (xls [(0, .ref 44), (1, .ref x), (2, .ref y), (3, .ref z), (4, .int s), (5, .int (nI k))]) [] h3 := by
            intro p tp hp
            have gp := go p hp
            rw [zBit, if_pos tp] at gp
            refine x_iload dX3_whichHold_74 rfl rfl ?_
            refine x_iconst dX3_whichHold_76 rfl iC_1 ?_
            refine x_iload dX3_whichHold_77 rfl rfl ?_
            refine x_ishl dX3_whichHold_79 rfl ?_
            refine x_ior dX3_whichHold_80 rfl ?_
            refine x_istore dX3_whichHold_81 rfl (by decide) ?_
            refine x_iinc dX3_whichHold_83 rfl rfl (inc1 _) ?_
            refine x_goto (tgt := 19) dX3_whichHold_86 rfl ?_
            exact x_to (ih c23 h3 _ hC3 hS e23 gp) ⟨rfl, rfl, rfl, rfl, rfl, rfl, trivial⟩
          have hn1 : ∀ p : Prop, ¬ p → oHold k w (iv h x) (iv h y) (iv h z) = some p → xWP G l mX3_whichHold d (zM G Q) 0 0 83 (xls [(0, .ref 44), (1, .ref x), (2, .ref y), (3, .ref z), (4, .int s), (5, .int (nI k))]) [] h3 := by
            intro p tp hp
            have gp := go p hp
            rw [zBit, if_neg tp] at gp
            refine x_iinc dX3_whichHold_83 rfl rfl (inc1 _) ?_
            refine x_goto (tgt := 19) dX3_whichHold_86 rfl ?_
            exact x_to (ih c23 h3 _ hC3 hS e23 gp) ⟨rfl, rfl, rfl, rfl, rfl, rfl, trivial⟩
          refine x_if_ne_t (tgt := 41) dX3_whichHold_35 rfl nb1 ?_
          refine x_iload dX3_whichHold_41 rfl rfl ?_
          refine x_bipush dX3_whichHold_43 rfl bC_6 ?_
          refine x_jc_ne (tgt := 60) dX3_whichHold_45 rfl rfl (by omega) (by omega) (fun c45 => ?_) (fun c45 => ?_)
          · have oh : oHold k w (iv h x) (iv h y) (iv h z) = some (∀ j, j < 8 → q.1 j = q.2 j) := by
              unfold oHold
              rw [hq]
              show some (if k = 6 then _ else _) = _
              rw [if_neg c45]
            obtain ⟨e51, e52⟩ := e3 c45
            refine x_aload_n (i := 0) dX3_whichHold_60 rfl rfl rfl ?_
            refine x_getC dX3_whichHold_61 rfl fX3_30 hC rfl F_44_7 ?_
            refine x_aload_n (i := 0) dX3_whichHold_64 rfl rfl rfl ?_
            refine x_getC dX3_whichHold_65 rfl fX3_33 hC rfl F_44_8 ?_
            refine x_callS0 (As := [_, _]) (d2 := d - 1) dX3_whichHold_68 rfl kX3_52 okX5_areEqual (by omega) rfl rfl (Nat.le_of_ble_eq_true rfl) (c_areEqual (hC.v (a := 51) rfl) (hC.v (a := 52) rfl) (fun z => ?_) (fun z => ?_))
            · rw [e51, e52] at z
              refine x_if_eq_f (tgt := 83) dX3_whichHold_71 rfl rfl nb1 ?_
              exact x_to (hy1 _ z oh) ⟨rfl, rfl, rfl, rfl, rfl, rfl, trivial⟩
            · rw [e51, e52] at z
              refine x_if_eq_t (tgt := 83) dX3_whichHold_71 rfl nI_0 ?_
              exact x_to (hn1 _ z oh) ⟨rfl, rfl, rfl, rfl, rfl, rfl, trivial⟩
          · have oh : oHold k w (iv h x) (iv h y) (iv h z) = some (4 * zInn (w 1) (w 1) 8 = zInn (iv h x) (iv h x) 8 * zInn (iv h y) (iv h y) 8) := by
              unfold oHold
              rw [hq]
              show some (if k = 6 then _ else _) = _
              rw [if_pos c45]
            have f46 : iv h3 46 = w 1 := e23 1 (by decide)
            have fx : iv h3 x = iv h x := hS.iv nx
            have fy : iv h3 y = iv h y := hS.iv ny
            refine x_aload_n (i := 0) dX3_whichHold_48 rfl rfl rfl ?_
            refine x_aload_n (i := 1) dX3_whichHold_49 rfl rfl rfl ?_
            refine x_aload_n (i := 2) dX3_whichHold_50 rfl rfl rfl ?_
            refine x_callV0 (ci := 3) (b := 44) (As := [_, _]) (d2 := d - 1) dX3_whichHold_51 rfl kX3_48 okX3_doNormsMultiply (hC.o rfl) (fun q hq => by cases hq; rfl) (by omega) rfl rfl (Nat.le_of_ble_eq_true rfl) (c_norms (by omega) hC hx hy (fun z => ?_) (fun z => ?_))
            · rw [f46, fx, fy] at z
              refine x_if_eq_f (tgt := 83) dX3_whichHold_54 rfl rfl nb1 ?_
              refine x_goto (tgt := 74) dX3_whichHold_57 rfl ?_
              exact x_to (hy1 _ z oh) ⟨rfl, rfl, rfl, rfl, rfl, rfl, trivial⟩
            · rw [f46, fx, fy] at z
              refine x_if_eq_t (tgt := 83) dX3_whichHold_54 rfl nI_0 ?_
              exact x_to (hn1 _ z oh) ⟨rfl, rfl, rfl, rfl, rfl, rfl, trivial⟩
        · rw [ew] at hq
          refine x_if_ne_f (tgt := 41) dX3_whichHold_35 rfl rfl nI_0 ?_
          refine x_bipush dX3_whichHold_38 rfl bC_m2 ?_
          refine x_ireturn dX3_whichHold_40 rfl rfl ?_
          have nn : oHolds w (iv h x) (iv h y) (iv h z) (k + 1) = none := by
            rw [oHolds, es]
            show (oHold _ _ _ _ _).map _ = _
            unfold oHold
            rw [hq]
            rfl
          rw [oHolds_none nn 8 (by omega)] at K
          exact K h3 hC3 ((hS2.tr hS3).sub (by simp))) 0 (Nat.zero_le _)
    exact x_to (key h2 _ hC2 hS2 e2 rfl) ⟨rfl, rfl, rfl, rfl, rfl, rfl, trivial⟩
  · refine x_if_ne_f (tgt := 13) dX3_whichHold_7 rfl rfl nI_0 ?_
    refine x_bipush dX3_whichHold_10 rfl bC_m2 ?_
    refine x_ireturn dX3_whichHold_12 rfl rfl ?_
    have el : zLaws (iv h x) (iv h y) (iv h z) = -2 := by unfold zLaws; rw [hw]; rfl
    rw [el] at K
    exact K h2 hC2 hS2
end LAWS

