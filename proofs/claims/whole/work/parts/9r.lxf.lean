/-! what is searched is found -/
theorem zSr_s {P : Nat → Nat} {g : Nat → Int32} {W N : Nat} (hg : ∀ k, k < N → g k = nI (P k) ∧ P k < 2 ^ 31) (hP : ∀ k j, k < j → j < N → P k < P j) (hW : W < 2 ^ 31) : ∀ k lo hi, lo ≤ hi → hi < N → hi - lo < 2 ^ k → ∃ r, zSr g (nI W) k lo hi = (r, r) ∧ lo ≤ r ∧ r ≤ hi ∧ (∀ j, lo ≤ j → j < r → P j < W) ∧ (r < hi → ¬ P r < W) := by
  intro k
  induction k with
  | zero =>
    intro lo hi h1 h2 h3
    obtain rfl : lo = hi := by omega
    exact ⟨lo, rfl, Nat.le_refl _, Nat.le_refl _, fun j a b => by omega, fun z => by omega⟩
  | succ k ih =>
    intro lo hi h1 h2 h3
    rw [Nat.pow_succ] at h3
    rw [zSr]
    by_cases e : lo < hi
    · rw [if_pos e]
      obtain ⟨g1, g2⟩ := hg ((lo + hi) / 2) (by omega)
      rw [g1]
      by_cases q : P ((lo + hi) / 2) < W
      · rw [if_pos ((nI_ltI g2 hW).mpr q)]
        obtain ⟨r, r1, r2, r3, r4, r5⟩ := ih ((lo + hi) / 2 + 1) hi (by omega) h2 (by omega)
        refine ⟨r, r1, by omega, r3, fun j a b => ?_, r5⟩
        by_cases c : (lo + hi) / 2 + 1 ≤ j
        · exact r4 j c b
        · by_cases c2 : j = (lo + hi) / 2
          · rw [c2]; exact q
          · have := hP j ((lo + hi) / 2) (by omega) (by omega)
            omega
      · rw [if_neg (fun z => q ((nI_ltI g2 hW).mp z))]
        obtain ⟨r, r1, r2, r3, r4, r5⟩ := ih lo ((lo + hi) / 2) (by omega) (by omega) (by omega)
        refine ⟨r, r1, r2, by omega, r4, fun _ => ?_⟩
        by_cases c : r < (lo + hi) / 2
        · exact r5 c
        · rw [show r = (lo + hi) / 2 by omega]; exact q
    · rw [if_neg e]
      obtain rfl : lo = hi := by omega
      exact ⟨lo, rfl, Nat.le_refl _, Nat.le_refl _, fun j a b => by omega, fun z => by omega⟩
theorem zFind_t {P : Nat → Nat} {g : Nat → Int32} {N k : Nat} (hg : ∀ k, k < N → g k = nI (P k) ∧ P k < 2 ^ 31) (hP : ∀ k j, k < j → j < N → P k < P j) (hN : N ≤ 65536) (hk : k < N) : zFind g N (nI (P k)) = nI k := by
  obtain ⟨r, r1, r2, r3, r4, r5⟩ := zSr_s hg hP (hg k hk).2 16 0 (N - 1) (by omega) (by omega) (by omega)
  have e : r = k := by
    rcases Nat.lt_trichotomy r k with q | q | q
    · have := hP r k q hk
      exact absurd this (r5 (by omega))
    · exact q
    · have := r4 k (by omega) q
      omega
  unfold zFind
  rw [r1, e, if_pos ⟨rfl, (hg k hk).1⟩]
theorem zFind_f {P : Nat → Nat} {g : Nat → Int32} {N W : Nat} (hg : ∀ k, k < N → g k = nI (P k) ∧ P k < 2 ^ 31) (hP : ∀ k j, k < j → j < N → P k < P j) (h1 : 1 ≤ N) (hN : N ≤ 65536) (hW : W < 2 ^ 31) (hn : ∀ k, k < N → P k ≠ W) : zFind g N (nI W) = -1 := by
  obtain ⟨r, r1, r2, r3, r4, r5⟩ := zSr_s hg hP hW 16 0 (N - 1) (by omega) (by omega) (by omega)
  unfold zFind
  rw [r1]
  refine if_neg (fun z => ?_)
  have z2 : g r = nI W := z.2
  obtain ⟨g1, g2⟩ := hg r (by omega)
  rw [g1] at z2
  exact hn r (by omega) ((nI_eq g2 hW).mp z2)

