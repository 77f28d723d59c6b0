/-! EightParts$Lists: what a row held before doesn't matter -/
def gEq (s t : gst) : Prop := s.1 = t.1 ∧ ∀ j, j < s.1 → s.2 j = t.2 j
theorem zGr_eq {N : Nat} {ow : Nat → Int32} : ∀ k rest w p (s t : gst), gEq s t → gEq (zGr N ow k rest w p s) (zGr N ow k rest w p t) := by
  intro k
  induction k with
  | zero =>
    intro rest w p s t hst
    obtain ⟨e1, e2⟩ := hst
    rw [zGr, zGr]
    by_cases q : rest = 0 ∧ s.1 < N
    · rw [if_pos q, if_pos ⟨q.1, by rw [← e1]; exact q.2⟩]
      refine ⟨by show s.1 + 1 = t.1 + 1; rw [e1], fun j hj => ?_⟩
      show upd s.2 s.1 p j = upd t.2 t.1 p j
      unfold upd
      rw [← e1]
      split
      · rfl
      · next z =>
        have hj' : j < s.1 + 1 := hj
        exact e2 j (by omega)
    · rw [if_neg q, if_neg (fun z => q ⟨z.1, by rw [e1]; exact z.2⟩)]
      exact ⟨e1, e2⟩
  | succ k ih =>
    intro rest w p s t hst
    have : ∀ n, gEq (zGp N ow k rest w p s n) (zGp N ow k rest w p t n) := by
      intro n
      induction n with
      | zero => exact hst
      | succ n ihn =>
        rw [zGp_s, zGp_s]
        split
        · exact ih _ _ _ _ _ ihn
        · exact ihn
    exact this 7
/-- the list itself -/
def zLst (o norm : Nat) : gst := zList o norm (fun _ => 0)
theorem zList_eq (o norm : Nat) (g : Nat → Int32) : gEq (zList o norm g) (zLst o norm) := zGr_eq _ _ _ _ _ _ ⟨rfl, fun j hj => absurd hj (Nat.not_lt_zero j)⟩
theorem zLst_le (o norm : Nat) : (zLst o norm).1 ≤ zRoom norm := zGr_le _ _ _ _ _ (Nat.zero_le _)
/-- the lists as they are kept: rows at rw0, each not made yet, or made, of the order that mk tells, if any -/
def lsC (h : xH) (rw0 : Nat → Nat) (mk : Nat → Option Nat) : Prop := h.1 23 = (4, 4, xP rw0) ∧ ∀ norm, norm < 4 →
  ((rw0 norm = 24 + norm ∧ mk norm = none ∧ iv h 29 norm = -1) ∨
   (134 ≤ rw0 norm ∧ rw0 norm < h.2 ∧ ∃ g o, o < 8 ∧ h.1 (rw0 norm) = (0, zRoom norm, xI g) ∧ mk norm = some o ∧ iv h 29 norm = nI o ∧ iv h 28 norm = nI (zLst o norm).1 ∧ ∀ j, j < (zLst o norm).1 → g j = (zLst o norm).2 j)) ∧ (∀ m, m < 4 → rw0 m = rw0 norm → m = norm)
section LISTS
variable {G : xG} {l : Launch} {d : Nat} {h : xH} {Q : Option Value → xH → Prop}
theorem c_takeUnit {a r o N : Nat} {k : Int32} {g v : Nat → Int32} {rw0 : Nat → Nat} (hd : 1 ≤ d) (hC : Cs h) (h23 : h.1 23 = (4, 4, xP rw0)) (hrw : rw0 1 = r) (hrow : h.1 r = (0, N, xI g)) (hN : N ≤ 10000) (hsz : iv h 28 1 = nI (zLst o 1).1) (hsN : (zLst o 1).1 ≤ N) (hg : ∀ j, j < (zLst o 1).1 → g j = (zLst o 1).2 j) (ha : h.1 a = (0, 8, xI v))
    (Kt : ∀ j, k = nI j → j < (zLst o 1).1 → Q (some (.int (nI 1))) (hs h a (0, 8, xI (zUp ((zLst o 1).2 j))))) (Kf : (k < 0 ∨ nI (zLst o 1).1 ≤ k) → Q (some (.int (nI 0))) h) : xCt G l mX4_takeUnit d [.ref 22, .ref a, .int k] h 0 0 Q := by
  have v28 := hC.v (a := 28) rfl
  have hrow' : h.1 (rw0 1) = (0, N, xI g) := by rw [hrw]; exact hrow
  refine xCt_of (by decide) (Nat.le_of_ble_eq_true rfl) ?_
  refine x_iload_n (i := 2) dX4_takeUnit_0 rfl rfl rfl ?_
  refine x_if_lt (tgt := 14) dX4_takeUnit_1 rfl rfl (fun c1 => ?_) (fun c1 => ?_)
  · refine x_iconst dX4_takeUnit_14 rfl iC_0 ?_
    refine x_ireturn dX4_takeUnit_15 rfl rfl ?_
    exact Kf (Or.inl c1)
  · refine x_iload_n (i := 2) dX4_takeUnit_4 rfl rfl rfl ?_
    refine x_aload_n (i := 0) dX4_takeUnit_5 rfl rfl rfl ?_
    refine x_getC dX4_takeUnit_6 rfl fX4_16 hC rfl F_22_2 ?_
    refine x_iconst dX4_takeUnit_9 rfl iC_1 ?_
    refine x_iald dX4_takeUnit_10 rfl v28 rfl (by decide) (by decide) ?_
    rw [hsz]
    refine x_ic_lt (tgt := 16) dX4_takeUnit_11 rfl rfl (fun c11 => ?_) (fun c11 => ?_)
    · have p0 : 0 ≤ k.toInt := by
        have := Int32.le_iff_toInt_le.mp (Int32.not_lt.mp c1)
        simpa using this
      have p1 : k.toInt < (zLst o 1).1 := by
        have := Int32.lt_iff_toInt_lt.mp c11
        rwa [nI_toInt (by omega)] at this
      obtain ⟨j, hj⟩ : ∃ j : Nat, k.toInt = j := ⟨k.toInt.toNat, by omega⟩
      have en : k = nI j := by
        apply Int32.toInt_inj.mp
        rw [hj, nI_toInt (by omega)]
      subst en
      have hjl : j < (zLst o 1).1 := by omega
      refine x_aload_n (i := 1) dX4_takeUnit_16 rfl rfl rfl ?_
      refine x_aload_n (i := 0) dX4_takeUnit_17 rfl rfl rfl ?_
      refine x_getC dX4_takeUnit_18 rfl fX4_11 hC rfl F_22_1 ?_
      refine x_iconst dX4_takeUnit_21 rfl iC_1 ?_
      refine x_aald (t := 0)  dX4_takeUnit_22 rfl h23 (by decide) rfl (by decide) (by decide) ?_
      refine x_iload_n (i := 2) dX4_takeUnit_23 rfl rfl rfl ?_
      refine x_iald dX4_takeUnit_24 rfl hrow' rfl (by omega) (by omega) ?_
      rw [hg j hjl]
      refine x_callS0 (As := [_, _]) (d2 := d - 1) dX4_takeUnit_25 rfl kX4_44 okX4_unpack (by omega) rfl rfl (Nat.le_of_ble_eq_true rfl) (c_unpack ha ?_)
      refine x_iconst dX4_takeUnit_28 rfl iC_1 ?_
      refine x_ireturn dX4_takeUnit_29 rfl rfl ?_
      exact Kt j rfl hjl
    · refine x_iconst dX4_takeUnit_14 rfl iC_0 ?_
      refine x_ireturn dX4_takeUnit_15 rfl rfl ?_
      exact Kf (Or.inr (Int32.not_lt.mp c11))
end LISTS

