/-! EightParts$Lists: what search sees -/
theorem zSr_eq {g g2 : Nat → Int32} {w : Int32} {sz : Nat} (hg : ∀ j, j < sz → g j = g2 j) : ∀ k lo hi, lo < sz → hi < sz → zSr g w k lo hi = zSr g2 w k lo hi ∧ (zSr g w k lo hi).1 < sz := by
  intro k
  induction k with
  | zero => exact fun lo hi h1 h2 => ⟨rfl, h1⟩
  | succ k ih =>
    intro lo hi h1 h2
    rw [zSr, zSr]
    by_cases q : lo < hi
    · rw [if_pos q, if_pos q, ← hg _ (show (lo + hi) / 2 < sz by omega)]
      by_cases q2 : g ((lo + hi) / 2) < w
      · rw [if_pos q2, if_pos q2]
        exact ih _ _ (by omega) h2
      · rw [if_neg q2, if_neg q2]
        exact ih _ _ h1 (by omega)
    · rw [if_neg q, if_neg q]
      exact ⟨rfl, h1⟩
theorem zFind_eq {g g2 : Nat → Int32} {w : Int32} {sz : Nat} (hs : 1 ≤ sz) (hg : ∀ j, j < sz → g j = g2 j) : zFind g sz w = zFind g2 sz w := by
  obtain ⟨e1, e2⟩ := zSr_eq (w := w) hg 16 0 (sz - 1) (by omega) (by omega)
  unfold zFind
  rw [hg _ e2, e1]

