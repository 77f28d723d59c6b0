/-! EightParts$Units: all made, as one word -/
def uG (h : xH) (o r : Nat) (rw0 : Nat → Nat) (mk : Nat → Option Nat) : Prop := Cs h ∧ hOrd h o ∧ o < 8 ∧ lsC h rw0 mk ∧ mk 1 = some o ∧ 134 ≤ r ∧ (∀ m, m < 4 → rw0 m ≠ r) ∧ (h.1 31).2.2 4 = .ref r ∧ ∃ pf g, (h.1 31).2.2 5 = .int pf ∧ h.1 r = (0, 14400, xI g) ∧ (∀ o2, o2 < 8 → pf = nI o2 → ucV o2 g) ∧ r < h.2
theorem lsC.keep {h h2 : xH} {rw0 : Nat → Nat} {mk : Nat → Option Nat} (hL : lsC h rw0 mk) (h134 : 134 ≤ h.2) (hn : h.2 ≤ h2.2) (e23 : h2.1 23 = h.1 23) (e28 : h2.1 28 = h.1 28) (e29 : h2.1 29 = h.1 29) (er : ∀ m, m < 4 → 134 ≤ rw0 m → rw0 m < h.2 → h2.1 (rw0 m) = h.1 (rw0 m)) : lsC h2 rw0 mk := by
  obtain ⟨l1, l2⟩ := hL
  have i28 : iv h2 28 = iv h 28 := by unfold iv; rw [e28]
  have i29 : iv h2 29 = iv h 29 := by unfold iv; rw [e29]
  refine ⟨e23.trans l1, fun m hm => ⟨?_, (l2 m hm).2⟩⟩
  rcases (l2 m hm).1 with ⟨a1, a2, a3⟩ | ⟨a1, a2, g, o, a3, a4, a5, a6, a7, a8⟩
  · exact Or.inl ⟨a1, a2, by rw [i29]; exact a3⟩
  · exact Or.inr ⟨a1, by omega, g, o, a3, (er m hm a1 a2).trans a4, a5, by rw [i29]; exact a6, by rw [i28]; exact a7, a8⟩
section UNITS
variable {G : xG} {l : Launch} {d : Nat} {h : xH} {Q : Option Value → xH → Prop}
theorem c_mulAt {r o i k : Nat} {rw0 : Nat → Nat} {mk : Nat → Option Nat} (hd : 5 ≤ d) (hU : uG h o r rw0 mk) (hi : i < (zLst o 1).1) (hk : k < (zLst o 1).1)
    (K : ∀ h2, uG h2 o r rw0 mk → xSm [11, 31, 32, 33, r] h h2 → (∀ q, q ≠ 5 → (h2.1 31).2.2 q = (h.1 31).2.2 q) → Q (some (.int (zMA o i k))) h2) : xCt G l mX9_multiplyAt d [.ref 31, .int (nI i), .int (nI k)] h 0 0 Q := by
  obtain ⟨hC, ho, ho8, hL, hmk, hr, hne, h4, pf, g, h5, hrow, hV, hrl⟩ := hU
  rcases (hL.2 1 (by decide)).1 with ⟨a1, a2, a3⟩ | ⟨a1, a2, gl, o', a3, a4, a5, a6, a7, a8⟩
  · rw [a2] at hmk
    cases hmk
  · obtain rfl : o' = o := Option.some.inj (a5.symm.trans hmk)
    refine c_mulAt1 hd hC ho ho8 hL hmk hr h4 h5 hrow a1 (hne 1 (by decide)) a4 a7 a8 (hV o' ho8) hi hk (fun h2 g2 k1 k2 k3 k4 k5 k6 => K h2 ⟨k1, ?_, ho8, ?_, hmk, hr, hne, (k4 4 (by decide)).trans h4, _, g2, k3, k5, fun o2 h8 e => ?_, by rw [k2.1]; exact hrl⟩ k2 k4)
    · unfold hOrd
      rw [k2.2 14 (by simp; omega)]
      exact ho
    · exact hL.keep hC.1 (by rw [k2.1]; exact Nat.le_refl _) (k2.2 23 (by simp; omega)) (k2.2 28 (by simp; omega)) (k2.2 29 (by simp; omega)) (fun m hm q1 q2 => k2.2 (rw0 m) (by have := hne m hm; simp; omega))
    · obtain rfl : o' = o2 := (nI_eq (by omega) (by omega)).mp e
      exact k6
end UNITS

