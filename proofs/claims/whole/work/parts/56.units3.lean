/-! EightParts$Units: members are forgotten -/
section UNITS
variable {G : xG} {l : Launch} {d : Nat} {h : xH} {Q : Option Value → xH → Prop}
theorem c_forget {c : Nat} {mN : Nat → Nat} (hC : Cs h) (hc : hGa h c) (hc2 : c ≤ 240) (hm : ∀ j, j < c → mN j < 240 ∧ iv h 35 j = nI (mN j)) (hi0 : ∀ u, u < 240 → (∀ j, j < c → mN j ≠ u) → iv h 36 u = nI 0)
    (K : ∀ h2, Cs h2 → xSm [36, 31] h h2 → hGa h2 0 → (∀ k, k ≠ 8 → (h2.1 31).2.2 k = (h.1 31).2.2 k) → (∀ u, u < 240 → iv h2 36 u = nI 0) → Q none h2) : xCt G l mX9_forgetMembers d [.ref 31] h 0 0 Q := by
  refine xCt_of (by decide) (Nat.le_of_ble_eq_true rfl) ?_
  refine x_iconst dX9_forgetMembers_0 rfl iC_0 ?_
  refine x_istore_n (i := 1) dX9_forgetMembers_1 rfl rfl (by decide) ?_
  have key := xloop (P := fun i => ∀ h1, Cs h1 → xSm [36] h h1 → (∀ j, j < i → iv h1 36 (mN j) = nI 0) → (∀ u, iv h1 36 u = nI 0 ∨ iv h1 36 u = iv h 36 u) → xWP G l mX9_forgetMembers d (zM G Q) 0 0 2 (xls [(0, .ref 31), (1, .int (nI i))]) [] h1) c (by
    intro i hi ih h1 hC1 hS1 e1 e2
    have hC := hC1
    have g1 : hGa h1 c := by unfold hGa; rw [hS1.2 31 (by decide)]; exact hc
    have v36 := hC.z (a := 36) rfl
    have v35 := hC.v (a := 35) rfl
    refine x_iload_n (i := 1) dX9_forgetMembers_2 rfl rfl rfl ?_
    refine x_aload_n (i := 0) dX9_forgetMembers_3 rfl rfl rfl ?_
    refine x_getM (a := 31) dX9_forgetMembers_4 rfl fX9_32 hC rfl g1 ?_
    refine x_jc_ge (tgt := 28) dX9_forgetMembers_7 rfl rfl (by omega) (by omega) (fun c7 => ?_) (fun c7 => ?_)
    · obtain rfl : i = c := by omega
      refine x_aload_n (i := 0) dX9_forgetMembers_28 rfl rfl rfl ?_
      refine x_iconst dX9_forgetMembers_29 rfl iC_0 ?_
      refine x_putC (a := 31) dX9_forgetMembers_30 rfl fX9_32 (fun q hq => by cases hq; rfl) hC rfl ⟨rfl, rfl⟩ ?_
      refine x_return dX9_forgetMembers_33 rfl ?_
      refine K _ (hC.setF (ci := 9) rfl NF_31_8 (by decide)) ((hS1.tr xSm.hs1).sub (by simp)) fv_eq (fun k hk => ?_) (fun u hu => ?_)
      · rw [fv_ne hk, hS1.2 31 (by decide)]
      · rw [iv_n (by decide)]
        by_cases q : ∃ j, j < i ∧ mN j = u
        · obtain ⟨j, q1, q2⟩ := q
          rw [← q2]
          exact e1 j q1
        · rcases e2 u with z | z
          · exact z
          · rw [z]
            exact hi0 u hu (fun j hj z2 => q ⟨j, hj, z2⟩)
    · obtain ⟨m1, m2⟩ := hm i c7
      have e35 : iv h1 35 i = nI (mN i) := by rw [hS1.iv (by decide)]; exact m2
      refine x_aload_n (i := 0) dX9_forgetMembers_10 rfl rfl rfl ?_
      refine x_getC dX9_forgetMembers_11 rfl fX9_28 hC rfl F_31_7 ?_
      refine x_aload_n (i := 0) dX9_forgetMembers_14 rfl rfl rfl ?_
      refine x_getC dX9_forgetMembers_15 rfl fX9_25 hC rfl F_31_6 ?_
      refine x_iload_n (i := 1) dX9_forgetMembers_18 rfl rfl rfl ?_
      refine x_iald dX9_forgetMembers_19 rfl (by first | assumption | exact hs_eq | exact hs_ne (by first | assumption | decide | omega) (by first | assumption | exact hs_eq | exact hs_ne (by first | assumption | decide | omega) (by first | assumption | exact hs_eq | exact hs_ne (by first | assumption | decide | omega) (by assumption)))) rfl (by omega) (by decide) ?_
      rw [e35]
      refine x_iconst dX9_forgetMembers_20 rfl iC_0 ?_
      refine x_zast dX9_forgetMembers_21 rfl (by first | assumption | exact hs_eq | exact hs_ne (by first | assumption | decide | omega) (by first | assumption | exact hs_eq | exact hs_ne (by first | assumption | decide | omega) (by first | assumption | exact hs_eq | exact hs_ne (by first | assumption | decide | omega) (by assumption)))) rfl (by omega) (by decide) (by decide) ?_
      refine x_iinc dX9_forgetMembers_22 rfl rfl (inc1 _) ?_
      refine x_goto (tgt := 2) dX9_forgetMembers_25 rfl ?_
      refine x_to (ih c7 _ (hC.setI v36 (Or.inr (Or.inl rfl)) (by decide)) ((hS1.tr xSm.hs1).sub (by simp)) (fun j hj => ?_) (fun u => ?_)) ⟨rfl, rfl, trivial⟩
      · rw [iv_hs]
        unfold upd
        split
        · rfl
        · next z =>
          by_cases e : j = i
          · exact absurd (by rw [e]) z
          · exact e1 j (by omega)
      · rw [iv_hs]
        unfold upd
        split
        · exact Or.inl rfl
        · exact e2 u) 0 (Nat.zero_le _)
  exact x_to (key h hC (xSm.rf.sub (by simp)) (fun j hj => absurd hj (Nat.not_lt_zero j)) (fun u => Or.inr rfl)) ⟨rfl, rfl, trivial⟩
end UNITS

