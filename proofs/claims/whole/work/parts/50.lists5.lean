/-! EightParts$Lists: how many there are, when the row isn't made yet -/
theorem lsC.step0 {h h2 : xH} {rw0 : Nat → Nat} {mk : Nat → Option Nat} {norm o : Nat} (hL : lsC h rw0 mk) (h134 : 134 ≤ h.2) (hnm : norm < 4) (ho : o < 8) (k2 : h2.2 = h.2 + 1) (kk : ∀ a, a < h.2 → a ∉ [23, 28, 29, 30] → h2.1 a = h.1 a) (k23 : h2.1 23 = (4, 4, xP (fun j => if j = norm then h.2 else rw0 j))) (k3 : iv h2 28 norm = nI (zList o norm (fun _ => 0)).1) (k4 : ∀ j, j ≠ norm → iv h2 28 j = iv h 28 j) (k5 : iv h2 29 = upd (iv h 29) norm (nI o)) (k6 : h2.1 h.2 = (0, zRoom norm, xI (zList o norm (fun _ => 0)).2)) : lsC h2 (fun j => if j = norm then h.2 else rw0 j) (mkU mk norm o) := by
  obtain ⟨l1, l2⟩ := hL
  have lt : ∀ m, m < 4 → rw0 m < h.2 := by
    intro m hm
    rcases (l2 m hm).1 with ⟨a1, -⟩ | ⟨-, a2, -⟩
    · omega
    · exact a2
  refine ⟨k23, fun m hm => ⟨?_, fun m2 hm2 e2 => ?_⟩⟩
  · by_cases e : m = norm
    · subst e
      refine Or.inr ⟨by show 134 ≤ if m = m then h.2 else rw0 m; rw [if_pos rfl]; exact h134, by show (if m = m then h.2 else rw0 m) < h2.2; rw [if_pos rfl, k2]; omega, (zList o m (fun _ => 0)).2, o, ho, by show h2.1 (if m = m then h.2 else rw0 m) = _; rw [if_pos rfl]; exact k6, if_pos rfl, ?_, k3, fun j _ => rfl⟩
      rw [k5]
      unfold upd
      rw [if_pos rfl]
    · have e29 : iv h2 29 m = iv h 29 m := by rw [k5]; unfold upd; rw [if_neg e]
      have em : mkU mk norm o m = mk m := if_neg e
      have er : (if m = norm then h.2 else rw0 m) = rw0 m := if_neg e
      rcases (l2 m hm).1 with ⟨a1, a2, a3⟩ | ⟨a1, a2, g', o', a3, a4, a5, a6, a7, a8⟩
      · exact Or.inl ⟨er.trans a1, by rw [em]; exact a2, by rw [e29]; exact a3⟩
      · exact Or.inr ⟨by show 134 ≤ if m = norm then h.2 else rw0 m; rw [er]; exact a1, by show (if m = norm then h.2 else rw0 m) < h2.2; rw [er, k2]; omega, g', o', a3, by show h2.1 (if m = norm then h.2 else rw0 m) = _; rw [er, kk (rw0 m) a2 (by simp; omega)]; exact a4, by rw [em]; exact a5, by rw [e29]; exact a6, by rw [k4 m e]; exact a7, a8⟩
  · have e2' : (if m2 = norm then h.2 else rw0 m2) = (if m = norm then h.2 else rw0 m) := e2
    have q1 := lt m hm
    have q2 := lt m2 hm2
    by_cases z1 : m2 = norm
    · by_cases z2 : m = norm
      · omega
      · rw [if_pos z1, if_neg z2] at e2'
        omega
    · by_cases z2 : m = norm
      · rw [if_neg z1, if_pos z2] at e2'
        omega
      · rw [if_neg z1, if_neg z2] at e2'
        exact (l2 m hm).2 m2 hm2 e2'
section LISTS
variable {G : xG} {l : Launch} {d : Nat} {h : xH} {Q : Option Value → xH → Prop}
theorem c_lmanyOf0 {norm o : Nat} {rw0 : Nat → Nat} {mk : Nat → Option Nat} {F0 : Nat → Value} (hd : 10 ≤ d) (hC : Cs h) (hm0 : h.2 < 900000) (ho : hOrd h o) (ho8 : o < 8) (hnm : norm < 4) (hL : lsC h rw0 mk) (hmk : mk norm = none) (hrow : h.1 (24 + norm) = (0, 0, F0))
    (K : ∀ h2, Cs h2 → lsC h2 (fun j => if j = norm then h.2 else rw0 j) (mkU mk norm o) → h2.2 = h.2 + 1 → (∀ a, a < h.2 → a ∉ [23, 28, 29, 30] → h2.1 a = h.1 a) → Q (some (.int (nI (zLst o norm).1))) h2) : xCt G l mX4_manyOf d [.ref 22, .int (nI norm)] h 1 (zRoom norm) Q := by
  have v29 := hC.v (a := 29) rfl
  have hL0 := hL
  obtain ⟨l1, l2⟩ := hL
  rcases (l2 norm hnm).1 with ⟨a1, a2, a3⟩ | ⟨a1, a2, g, o', a3, a4, a5, a6, a7, a8⟩
  · refine xCt_of (by decide) (Nat.le_of_ble_eq_true rfl) ?_
    have hne : ¬ (-1 : Int32) = nI o := by
      have q : ∀ o, o < 8 → ¬ (-1 : Int32) = nI o := by decide
      exact q o ho8
    refine x_iload_n (i := 1) dX4_manyOf_0 rfl rfl rfl ?_
    refine x_if_lt_f (tgt := 9) dX4_manyOf_1 rfl rfl (nI_pos (by omega)) ?_
    refine x_iload_n (i := 1) dX4_manyOf_4 rfl rfl rfl ?_
    refine x_iconst dX4_manyOf_5 rfl iC_3 ?_
    refine x_jc_le (tgt := 11) dX4_manyOf_6 rfl rfl (by omega) (by omega) (fun c6 => ?_) (fun c6 => ?_)
    · refine x_aload_n (i := 0) dX4_manyOf_11 rfl rfl rfl ?_
      refine x_getC dX4_manyOf_12 rfl fX4_20 hC rfl F_22_3 ?_
      refine x_iload_n (i := 1) dX4_manyOf_15 rfl rfl rfl ?_
      refine x_iald dX4_manyOf_16 rfl v29 rfl (by omega) (by decide) ?_
      rw [a3]
      refine x_aload_n (i := 0) dX4_manyOf_17 rfl rfl rfl ?_
      refine x_getC dX4_manyOf_18 rfl fX4_26 hC rfl F_22_0 ?_
      refine x_getM (a := 14) dX4_manyOf_21 rfl fX4_30 hC rfl ho ?_
      refine x_ic_eq_f (tgt := 32) dX4_manyOf_24 rfl rfl hne ?_
      refine x_aload_n (i := 0) dX4_manyOf_27 rfl rfl rfl ?_
      refine x_iload_n (i := 1) dX4_manyOf_28 rfl rfl rfl ?_
      refine x_callV (ci := 4) (b := 22) (As := [_]) (d2 := d - 1) (mc2 := 1) (ms2 := zRoom norm) (k2 := 0) (n2 := 0) dX4_manyOf_29 rfl kX4_36 okX4_fill (hC.o rfl) (fun q hq => by cases hq; rfl) (by omega) rfl rfl (Nat.le_of_ble_eq_true rfl) (by omega) (by omega) (c_lfill0 (by omega) hC hm0 ho ho8 hnm l1 (by rw [a1]; exact hrow) (fun h2 k1 k2 kk k23 k3 k4 k5 k6 => ?_))
      have hC2 := k1
      have v28' := hC2.v (a := 28) rfl
      refine x_aload_n (i := 0) dX4_manyOf_32 rfl rfl rfl ?_
      refine x_getC dX4_manyOf_33 rfl fX4_16 hC2 rfl F_22_2 ?_
      refine x_iload_n (i := 1) dX4_manyOf_36 rfl rfl rfl ?_
      refine x_iald dX4_manyOf_37 rfl v28' rfl (by omega) (by decide) ?_
      rw [k3]
      refine x_ireturn dX4_manyOf_38 rfl rfl ?_
      exact K h2 k1 (hL0.step0 hC.1 hnm ho8 k2 kk k23 k3 k4 k5 k6) k2 kk
    · omega
  · rw [a5] at hmk
    cases hmk
end LISTS

