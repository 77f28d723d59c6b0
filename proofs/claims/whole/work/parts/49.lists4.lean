/-! EightParts$Lists: how many there are, when the row is made -/
def mkU (mk : Nat → Option Nat) (norm o : Nat) : Nat → Option Nat := fun j => if j = norm then some o else mk j
theorem lsC.step {h h2 : xH} {rw0 : Nat → Nat} {mk : Nat → Option Nat} {norm r o : Nat} {g : Nat → Int32} (hL : lsC h rw0 mk) (hnm : norm < 4) (ho : o < 8) (hrw : rw0 norm = r) (hr : 134 ≤ r) (hr2 : r < h.2) (k2 : xSm [28, 29, 30, r] h h2) (k3 : iv h2 28 norm = nI (zList o norm g).1) (k4 : ∀ j, j ≠ norm → iv h2 28 j = iv h 28 j) (k5 : iv h2 29 = upd (iv h 29) norm (nI o)) (k6 : h2.1 r = (0, zRoom norm, xI (zList o norm g).2)) : lsC h2 rw0 (mkU mk norm o) := by
  obtain ⟨l1, l2⟩ := hL
  refine ⟨(k2.2 23 (by simp; omega)).trans l1, fun m hm => ⟨?_, (l2 m hm).2⟩⟩
  obtain ⟨z1, z2⟩ := zList_eq o norm g
  by_cases e : m = norm
  · subst e
    refine Or.inr ⟨by omega, by rw [k2.1]; omega, (zList o m g).2, o, ho, by rw [hrw]; exact k6, if_pos rfl, ?_, by rw [k3, z1], fun j hj => z2 j (by rw [z1]; exact hj)⟩
    rw [k5]
    unfold upd
    rw [if_pos rfl]
  · have e29 : iv h2 29 m = iv h 29 m := by rw [k5]; unfold upd; rw [if_neg e]
    have em : mkU mk norm o m = mk m := if_neg e
    rcases (l2 m hm).1 with ⟨a1, a2, a3⟩ | ⟨a1, a2, g', o', a3, a4, a5, a6, a7, a8⟩
    · exact Or.inl ⟨a1, by rw [em]; exact a2, by rw [e29]; exact a3⟩
    · have nr : rw0 m ≠ r := fun z => e ((l2 norm hnm).2 m hm (z.trans hrw.symm))
      exact Or.inr ⟨a1, by rw [k2.1]; exact a2, g', o', a3, by rw [k2.2 (rw0 m) (by simp; omega)]; exact a4, by rw [em]; exact a5, by rw [e29]; exact a6, by rw [k4 m e]; exact a7, a8⟩
section LISTS
variable {G : xG} {l : Launch} {d : Nat} {h : xH} {Q : Option Value → xH → Prop}
theorem c_lmanyOf1 {norm o o1 : Nat} {rw0 : Nat → Nat} {mk : Nat → Option Nat} (hd : 10 ≤ d) (hC : Cs h) (ho : hOrd h o) (ho8 : o < 8) (hnm : norm < 4) (hL : lsC h rw0 mk) (hmk : mk norm = some o1)
    (K : ∀ h2, Cs h2 → lsC h2 rw0 (mkU mk norm o) → xSm [28, 29, 30, rw0 norm] h h2 → Q (some (.int (nI (zLst o norm).1))) h2) : xCt G l mX4_manyOf d [.ref 22, .int (nI norm)] h 0 0 Q := by
  have v29 := hC.v (a := 29) rfl
  have v28 := hC.v (a := 28) rfl
  have hL0 := hL
  obtain ⟨l1, l2⟩ := hL
  rcases (l2 norm hnm).1 with ⟨a1, a2, a3⟩ | ⟨a1, a2, g, o', a3, a4, a5, a6, a7, a8⟩
  · rw [a2] at hmk
    cases hmk
  · refine xCt_of (by decide) (Nat.le_of_ble_eq_true rfl) ?_
    refine x_iload_n (i := 1) dX4_manyOf_0 rfl rfl rfl ?_
    refine x_if_lt_f (tgt := 9) dX4_manyOf_1 rfl rfl (nI_pos (by omega)) ?_
    refine x_iload_n (i := 1) dX4_manyOf_4 rfl rfl rfl ?_
    refine x_iconst dX4_manyOf_5 rfl iC_3 ?_
    refine x_jc_le (tgt := 11) dX4_manyOf_6 rfl rfl (by omega) (by omega) (fun c6 => ?_) (fun c6 => ?_)
    · refine x_aload_n (i := 0) dX4_manyOf_11 rfl rfl rfl ?_
      refine x_getC dX4_manyOf_12 rfl fX4_20 hC rfl F_22_3 ?_
      refine x_iload_n (i := 1) dX4_manyOf_15 rfl rfl rfl ?_
      refine x_iald dX4_manyOf_16 rfl v29 rfl (by omega) (by decide) ?_
      rw [a6]
      refine x_aload_n (i := 0) dX4_manyOf_17 rfl rfl rfl ?_
      refine x_getC dX4_manyOf_18 rfl fX4_26 hC rfl F_22_0 ?_
      refine x_getM (a := 14) dX4_manyOf_21 rfl fX4_30 hC rfl ho ?_
      refine x_jc_eq (tgt := 32) dX4_manyOf_24 rfl rfl (by omega) (by omega) (fun c24 => ?_) (fun c24 => ?_)
      · subst c24
        refine x_aload_n (i := 0) dX4_manyOf_32 rfl rfl rfl ?_
        refine x_getC dX4_manyOf_33 rfl fX4_16 hC rfl F_22_2 ?_
        refine x_iload_n (i := 1) dX4_manyOf_36 rfl rfl rfl ?_
        refine x_iald dX4_manyOf_37 rfl v28 rfl (by omega) (by decide) ?_
        rw [a7]
        refine x_ireturn dX4_manyOf_38 rfl rfl ?_
        refine K h hC ?_ (xSm.rf.sub (by simp))
        have em : mkU mk norm o' = mk := by
          funext j
          unfold mkU
          split
          · next z => rw [z, a5]
          · rfl
        rw [em]
        exact hL0
      · refine x_aload_n (i := 0) dX4_manyOf_27 rfl rfl rfl ?_
        refine x_iload_n (i := 1) dX4_manyOf_28 rfl rfl rfl ?_
        refine x_callV0 (ci := 4) (b := 22) (As := [_]) (d2 := d - 1) dX4_manyOf_29 rfl kX4_36 okX4_fill (hC.o rfl) (fun q hq => by cases hq; rfl) (by omega) rfl rfl (Nat.le_of_ble_eq_true rfl) (c_lfill1 (by omega) hC ho ho8 hnm a1 l1 rfl a4 (fun h2 k1 k2 k3 k4 k5 k6 => ?_))
        have hC := k1
        have v28' := hC.v (a := 28) rfl
        refine x_aload_n (i := 0) dX4_manyOf_32 rfl rfl rfl ?_
        refine x_getC dX4_manyOf_33 rfl fX4_16 hC rfl F_22_2 ?_
        refine x_iload_n (i := 1) dX4_manyOf_36 rfl rfl rfl ?_
        refine x_iald dX4_manyOf_37 rfl v28' rfl (by omega) (by decide) ?_
        rw [k3, (zList_eq o norm g).1]
        refine x_ireturn dX4_manyOf_38 rfl rfl ?_
        exact K h2 k1 (hL0.step hnm ho8 rfl a1 a2 k2 k3 k4 k5 k6) k2
    · omega
end LISTS

