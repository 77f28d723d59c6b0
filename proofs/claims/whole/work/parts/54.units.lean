/-! EightParts$Units: members -/
def hGa (h : xH) (c : Nat) : Prop := (h.1 31).2.2 8 = .int (nI c)
section UNITS
variable {G : xG} {l : Launch} {d : Nat} {h : xH} {Q : Option Value → xH → Prop}
theorem c_admit {c u : Nat} (hC : Cs h) (hc : hGa h c) (hc2 : c ≤ 240) (hu : u < 240)
    (Kt : c < 240 → iv h 36 u = 0 → ∀ h2, Cs h2 → xSm [36, 35, 31] h h2 → hGa h2 (c + 1) → (∀ k, k ≠ 8 → (h2.1 31).2.2 k = (h.1 31).2.2 k) → iv h2 36 = upd (iv h 36) u (nI 1) → iv h2 35 = upd (iv h 35) c (nI u) → Q none h2)
    (Kf : (c = 240 ∨ ¬ iv h 36 u = 0) → Q none h) : xCt G l mX9_admit d [.ref 31, .int (nI u)] h 0 0 Q := by
  have v36 := hC.z (a := 36) rfl
  have v35 := hC.v (a := 35) rfl
  refine xCt_of (by decide) (Nat.le_of_ble_eq_true rfl) ?_
  refine x_iload_n (i := 1) dX9_admit_0 rfl rfl rfl ?_
  refine x_if_lt_f (tgt := 57) dX9_admit_1 rfl rfl (nI_pos (by omega)) ?_
  refine x_iload_n (i := 1) dX9_admit_4 rfl rfl rfl ?_
  refine x_sipush dX9_admit_5 rfl sC_240 ?_
  refine x_jc_ge (tgt := 57) dX9_admit_8 rfl rfl (by omega) (by omega) (fun c8 => ?_) (fun c8 => ?_)
  · omega
  refine x_aload_n (i := 0) dX9_admit_11 rfl rfl rfl ?_
  refine x_getM (a := 31) dX9_admit_12 rfl fX9_32 hC rfl hc ?_
  refine x_sipush dX9_admit_15 rfl sC_240 ?_
  refine x_jc_ge (tgt := 57) dX9_admit_18 rfl rfl (by omega) (by omega) (fun c18 => ?_) (fun c18 => ?_)
  · refine x_return dX9_admit_57 rfl ?_
    exact Kf (Or.inl (by omega))
  · refine x_aload_n (i := 0) dX9_admit_21 rfl rfl rfl ?_
    refine x_getC dX9_admit_22 rfl fX9_28 hC rfl F_31_7 ?_
    refine x_iload_n (i := 1) dX9_admit_25 rfl rfl rfl ?_
    refine x_zald dX9_admit_26 rfl (by first | assumption | exact hs_eq | exact hs_ne (by first | assumption | decide | omega) (by first | assumption | exact hs_eq | exact hs_ne (by first | assumption | decide | omega) (by first | assumption | exact hs_eq | exact hs_ne (by first | assumption | decide | omega) (by assumption)))) rfl (by omega) (by decide) ?_
    refine x_if_ne (tgt := 57) dX9_admit_27 rfl rfl (fun c27 => ?_) (fun c27 => ?_)
    · refine x_return dX9_admit_57 rfl ?_
      exact Kf (Or.inr c27)
    · have hC1 := hC.setI (f := upd (iv h 36) u (nI 1)) v36 (Or.inr (Or.inl rfl)) (by decide)
      have hC2 := hC1.setI (f := upd (iv h 35) c (nI u)) (hs_ne (by decide) v35) (Or.inl rfl) (by decide)
      have g1 : hGa (hs h 36 (2, 240, xI (upd (iv h 36) u (nI 1)))) c := (fv_n (by decide)).trans hc
      have g2 : hGa (hs (hs h 36 (2, 240, xI (upd (iv h 36) u (nI 1)))) 35 (0, 240, xI (upd (iv h 35) c (nI u)))) c := (fv_n (by decide)).trans g1
      refine x_aload_n (i := 0) dX9_admit_30 rfl rfl rfl ?_
      refine x_getC dX9_admit_31 rfl fX9_28 hC rfl F_31_7 ?_
      refine x_iload_n (i := 1) dX9_admit_34 rfl rfl rfl ?_
      refine x_iconst dX9_admit_35 rfl iC_1 ?_
      refine x_zast dX9_admit_36 rfl (by first | assumption | exact hs_eq | exact hs_ne (by first | assumption | decide | omega) (by first | assumption | exact hs_eq | exact hs_ne (by first | assumption | decide | omega) (by first | assumption | exact hs_eq | exact hs_ne (by first | assumption | decide | omega) (by assumption)))) rfl (by omega) (by decide) (by decide) ?_
      refine x_aload_n (i := 0) dX9_admit_37 rfl rfl rfl ?_
      refine x_getC dX9_admit_38 rfl fX9_25 hC1 rfl F_31_6 ?_
      refine x_aload_n (i := 0) dX9_admit_41 rfl rfl rfl ?_
      refine x_getM (a := 31) dX9_admit_42 rfl fX9_32 hC1 rfl g1 ?_
      refine x_iload_n (i := 1) dX9_admit_45 rfl rfl rfl ?_
      refine x_iast dX9_admit_46 rfl (hs_ne (by decide) v35) rfl (by omega) (by decide) ?_
      refine x_aload_n (i := 0) dX9_admit_47 rfl rfl rfl ?_
      refine x_dup dX9_admit_48 rfl rfl ?_
      refine x_getM (a := 31) dX9_admit_49 rfl fX9_32 hC2 rfl g2 ?_
      refine x_iconst dX9_admit_52 rfl iC_1 ?_
      refine x_iadd dX9_admit_53 rfl ?_
      rw [show nI c + nI 1 = nI (c + 1) from nI_add _ 1]
      refine x_putC (a := 31) dX9_admit_54 rfl fX9_32 (fun q hq => by cases hq; rfl) hC2 rfl ⟨rfl, rfl⟩ ?_
      refine x_return dX9_admit_57 rfl ?_
      refine Kt c18 c27 _ (hC2.setF (ci := 9) rfl NF_31_8 (by decide)) (xSm.hs2.tr xSm.hs1) fv_eq (fun k hk => ?_) ?_ ?_
      · rw [fv_ne hk, fv_n (by decide), fv_n (by decide)]
      · rw [iv_n (by decide), iv_n (by decide), iv_hs]
      · rw [iv_n (by decide), iv_hs]
end UNITS

