/-! EightParts$Units: its row of products is made -/
section UNITS
variable {G : xG} {l : Launch} {d : Nat} {h : xH} {Q : Option Value → xH → Prop}
theorem c_room0 {o : Nat} (hd : 1 ≤ d) (hC : Cs h) (hm0 : h.2 < 900000) (ho : hOrd h o) (ho8 : o < 8) (h4 : (h.1 31).2.2 4 = .ref 34) (h5 : (h.1 31).2.2 5 = .int (-1))
    (K : ∀ h2, Cs h2 → h2.2 = h.2 + 1 → (∀ a, a < h.2 → a ≠ 31 → h2.1 a = h.1 a) → (h2.1 31).2.2 4 = .ref h.2 → (h2.1 31).2.2 5 = .int (nI o) → (∀ k, k ≠ 4 → k ≠ 5 → (h2.1 31).2.2 k = (h.1 31).2.2 k) → h2.1 h.2 = (0, 14400, xI (fun _ => nI 0)) → Q none h2) : xCt G l mX9_makeRoom d [.ref 31] h 1 14400 Q := by
  have v34 := hC.v (a := 34) rfl
  have h134 := hC.1
  have hne : ¬ (-1 : Int32) = nI o := by
    have q : ∀ o, o < 8 → ¬ (-1 : Int32) = nI o := by decide
    exact q o ho8
  refine xCt_of (by decide) (Nat.le_of_ble_eq_true rfl) ?_
  refine x_aload_n (i := 0) dX9_makeRoom_0 rfl rfl rfl ?_
  refine x_getM (a := 31) dX9_makeRoom_1 rfl fX9_18 hC rfl h4 ?_
  refine x_alen dX9_makeRoom_4 rfl v34 (by decide) rfl ?_
  refine x_if_ne_f (tgt := 17) dX9_makeRoom_5 rfl rfl nI_0 ?_
  refine x_aload_n (i := 0) dX9_makeRoom_8 rfl rfl rfl ?_
  refine x_sipush dX9_makeRoom_9 rfl sC_14400 ?_
  show xWP G l mX9_makeRoom d (zM G Q) (1 + 0) (14400 + 0) 12 _ _ h
  refine x_newarr (t := 0) (N := 14400) dX9_makeRoom_12 rfl (by decide) ac_int rfl (by omega) (by omega) ?_
  have n0 : ∀ a, a < h.2 → (hn h (0, 14400, fun _ => defaultValue (xty 0))).1 a = h.1 a := fun a ha => by
    show (if a = h.2 then _ else h.1 a) = h.1 a
    rw [if_neg (by omega)]
  have n1 : (hn h (0, 14400, fun _ => defaultValue (xty 0))).1 h.2 = (0, 14400, xI (fun _ => 0)) := by
    show (if h.2 = h.2 then _ else _) = _
    rw [if_pos rfl]
    rfl
  have n2 : (hn h (0, 14400, fun _ => defaultValue (xty 0))).2 = h.2 + 1 := rfl
  have hC1 : Cs (hn h (0, 14400, fun _ => defaultValue (xty 0))) := by
    refine hC.gr (by rw [n2]; omega) n0 (fun a ha => ?_)
    show xTyp (if a = h.2 then _ else h.1 a)
    split
    · exact ⟨fun _ => 0, rfl⟩
    · exact hC.2.2.1 a
  generalize hn h (0, 14400, fun _ => defaultValue (xty 0)) = h1 at n0 n1 n2 hC1 ⊢
  have hC2 := hC1.setF (ci := 9) (a := 31) (kf := 4) (v := .ref h.2) rfl NF_31_4 (by decide)
  have e31 : (h1.1 31).2.2 = (h.1 31).2.2 := by rw [n0 31 (by omega)]
  have f5 : ((hs h1 31 (109, 0, updV (h1.1 31).2.2 4 (.ref h.2))).1 31).2.2 5 = .int (-1) := by rw [fv_ne (by decide), e31]; exact h5
  have f4 : ((hs h1 31 (109, 0, updV (h1.1 31).2.2 4 (.ref h.2))).1 31).2.2 4 = .ref h.2 := fv_eq
  have o2 : hOrd (hs h1 31 (109, 0, updV (h1.1 31).2.2 4 (.ref h.2))) o := by unfold hOrd; rw [hs_n (by decide), n0 14 (by omega)]; exact ho
  have row2 : (hs h1 31 (109, 0, updV (h1.1 31).2.2 4 (.ref h.2))).1 h.2 = (0, 14400, xI (fun _ => 0)) := by rw [hs_n (by omega)]; exact n1
  have fo2 : ∀ k, k ≠ 4 → ((hs h1 31 (109, 0, updV (h1.1 31).2.2 4 (.ref h.2))).1 31).2.2 k = (h.1 31).2.2 k := fun k hk => by rw [fv_ne hk, e31]
  have fr2 : ∀ a, a < h.2 → a ≠ 31 → (hs h1 31 (109, 0, updV (h1.1 31).2.2 4 (.ref h.2))).1 a = h.1 a := fun a ha hb => by rw [hs_n hb, n0 a ha]
  have c2 : (hs h1 31 (109, 0, updV (h1.1 31).2.2 4 (.ref h.2))).2 = h.2 + 1 := n2
  refine x_putC (a := 31) dX9_makeRoom_14 rfl fX9_18 (fun q hq => by cases hq; rfl) hC1 rfl ⟨rfl, rfl⟩ ?_
  show xWP G l mX9_makeRoom d (zM G Q) 0 0 17 _ _ (hs h1 31 (109, 0, updV (h1.1 31).2.2 4 (.ref h.2)))
  generalize hs h1 31 (109, 0, updV (h1.1 31).2.2 4 (.ref h.2)) = h3 at hC2 f5 f4 o2 row2 fo2 fr2 c2 ⊢
  have hC := hC2
  refine x_aload_n (i := 0) dX9_makeRoom_17 rfl rfl rfl ?_
  refine x_getM (a := 31) dX9_makeRoom_18 rfl fX9_21 hC rfl f5 ?_
  refine x_aload_n (i := 0) dX9_makeRoom_21 rfl rfl rfl ?_
  refine x_getC dX9_makeRoom_22 rfl fX9_35 hC rfl F_31_0 ?_
  refine x_getC dX9_makeRoom_25 rfl fX9_110 hC rfl F_22_0 ?_
  refine x_getM (a := 14) dX9_makeRoom_28 rfl fX9_114 hC rfl o2 ?_
  refine x_ic_eq_f (tgt := 56) dX9_makeRoom_31 rfl rfl hne ?_
  refine x_aload_n (i := 0) dX9_makeRoom_34 rfl rfl rfl ?_
  refine x_getM (a := 31) dX9_makeRoom_35 rfl fX9_18 hC rfl f4 ?_
  refine x_iconst dX9_makeRoom_38 rfl iC_0 ?_
  refine x_callS0 (As := [_, _]) (d2 := d - 1) dX9_makeRoom_39 rfl kX9_119 okJ7_fill_53178 (by omega) rfl rfl (Nat.le_of_ble_eq_true rfl) (c_fill row2 (by decide) ?_)
  have hC4 := hC.setI (f := fun _ => nI 0) row2 (Or.inl rfl) (by omega)
  have o4 : hOrd (hs h3 h.2 (0, 14400, xI (fun _ => nI 0))) o := by unfold hOrd; rw [hs_n (by omega)]; exact o2
  refine x_aload_n (i := 0) dX9_makeRoom_42 rfl rfl rfl ?_
  refine x_aload_n (i := 0) dX9_makeRoom_43 rfl rfl rfl ?_
  refine x_getC dX9_makeRoom_44 rfl fX9_35 hC4 rfl F_31_0 ?_
  refine x_getC dX9_makeRoom_47 rfl fX9_110 hC4 rfl F_22_0 ?_
  refine x_getM (a := 14) dX9_makeRoom_50 rfl fX9_114 hC4 rfl o4 ?_
  refine x_putC (a := 31) dX9_makeRoom_53 rfl fX9_21 (fun q hq => by cases hq; rfl) hC4 rfl ⟨rfl, rfl⟩ ?_
  refine x_return dX9_makeRoom_56 rfl ?_
  refine K _ (hC4.setF (ci := 9) rfl NF_31_5 (by decide)) c2 (fun a ha hb => ?_) ?_ fv_eq (fun k k4 k5 => ?_) ?_
  · rw [hs_n hb, hs_n (by omega)]
    exact fr2 a ha hb
  · rw [fv_ne (by decide), fv_n (by omega)]
    exact f4
  · rw [fv_ne k5, fv_n (by omega)]
    exact fo2 k k4
  · rw [hs_n (by omega), hs_eq]
end UNITS

