/-! EightParts$Units: its row of products, when it is made -/
section UNITS
variable {G : xG} {l : Launch} {d : Nat} {h : xH} {Q : Option Value → xH → Prop}
theorem c_room1 {r o : Nat} {pf : Int32} {g : Nat → Int32} (hd : 1 ≤ d) (hC : Cs h) (ho : hOrd h o) (hr : 134 ≤ r) (h4 : (h.1 31).2.2 4 = .ref r) (h5 : (h.1 31).2.2 5 = .int pf) (hrow : h.1 r = (0, 14400, xI g))
    (K1 : pf = nI o → Q none h)
    (K2 : ¬ pf = nI o → ∀ h2, Cs h2 → xSm [r, 31] h h2 → (h2.1 31).2.2 5 = .int (nI o) → (∀ k, k ≠ 5 → (h2.1 31).2.2 k = (h.1 31).2.2 k) → h2.1 r = (0, 14400, xI (fun _ => nI 0)) → Q none h2) : xCt G l mX9_makeRoom d [.ref 31] h 0 0 Q := by
  refine xCt_of (by decide) (Nat.le_of_ble_eq_true rfl) ?_
  refine x_aload_n (i := 0) dX9_makeRoom_0 rfl rfl rfl ?_
  refine x_getM (a := 31) dX9_makeRoom_1 rfl fX9_18 hC rfl h4 ?_
  refine x_alen dX9_makeRoom_4 rfl hrow (by decide) rfl ?_
  refine x_if_ne_t (tgt := 17) dX9_makeRoom_5 rfl (by decide) ?_
  refine x_aload_n (i := 0) dX9_makeRoom_17 rfl rfl rfl ?_
  refine x_getM (a := 31) dX9_makeRoom_18 rfl fX9_21 hC rfl h5 ?_
  refine x_aload_n (i := 0) dX9_makeRoom_21 rfl rfl rfl ?_
  refine x_getC dX9_makeRoom_22 rfl fX9_35 hC rfl F_31_0 ?_
  refine x_getC dX9_makeRoom_25 rfl fX9_110 hC rfl F_22_0 ?_
  refine x_getM (a := 14) dX9_makeRoom_28 rfl fX9_114 hC rfl ho ?_
  refine x_ic_eq (tgt := 56) dX9_makeRoom_31 rfl rfl (fun c31 => ?_) (fun c31 => ?_)
  · refine x_return dX9_makeRoom_56 rfl ?_
    exact K1 c31
  · refine x_aload_n (i := 0) dX9_makeRoom_34 rfl rfl rfl ?_
    refine x_getM (a := 31) dX9_makeRoom_35 rfl fX9_18 hC rfl h4 ?_
    refine x_iconst dX9_makeRoom_38 rfl iC_0 ?_
    refine x_callS0 (As := [_, _]) (d2 := d - 1) dX9_makeRoom_39 rfl kX9_119 okJ7_fill_53178 (by omega) rfl rfl (Nat.le_of_ble_eq_true rfl) (c_fill hrow (by decide) ?_)
    have hC1 := hC.setI (f := fun _ => nI 0) hrow (Or.inl rfl) (by omega)
    have o1 : hOrd (hs h r (0, 14400, xI (fun _ => nI 0))) o := by unfold hOrd; rw [hs_n (by omega)]; exact ho
    refine x_aload_n (i := 0) dX9_makeRoom_42 rfl rfl rfl ?_
    refine x_aload_n (i := 0) dX9_makeRoom_43 rfl rfl rfl ?_
    refine x_getC dX9_makeRoom_44 rfl fX9_35 hC1 rfl F_31_0 ?_
    refine x_getC dX9_makeRoom_47 rfl fX9_110 hC1 rfl F_22_0 ?_
    refine x_getM (a := 14) dX9_makeRoom_50 rfl fX9_114 hC1 rfl o1 ?_
    refine x_putC (a := 31) dX9_makeRoom_53 rfl fX9_21 (fun q hq => by cases hq; rfl) hC1 rfl ⟨rfl, rfl⟩ ?_
    refine x_return dX9_makeRoom_56 rfl ?_
    refine K2 c31 _ (hC1.setF (ci := 9) rfl NF_31_5 (by decide)) xSm.hs2 fv_eq (fun k hk => ?_) ?_
    · rw [fv_ne hk, fv_n (by omega)]
    · rw [hs_n (by omega), hs_eq]
end UNITS

