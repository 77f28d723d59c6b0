/-! EightParts$Units: what some units make -/
abbrev mS : Type := Nat × (Nat → Nat)
def mIn (s : mS) (u : Nat) : Prop := ∃ j, j < s.1 ∧ s.2 j = u
noncomputable def mAdd (s : mS) (u : Nat) : mS := @ite _ (s.1 = 240 ∨ mIn s u) (Classical.propDecidable _) s (s.1 + 1, fun j => if j = s.1 then u else s.2 j)
theorem mAdd_n {s : mS} {u : Nat} (h : s.1 = 240 ∨ mIn s u) : mAdd s u = s := if_pos h
theorem mAdd_y {s : mS} {u : Nat} (h : ¬ (s.1 = 240 ∨ mIn s u)) : mAdd s u = (s.1 + 1, fun j => if j = s.1 then u else s.2 j) := if_neg h
theorem mAdd_le {s : mS} {u : Nat} (h : s.1 ≤ 240) : (mAdd s u).1 ≤ 240 := by
  by_cases e : s.1 = 240 ∨ mIn s u
  · rw [mAdd_n e]; exact h
  · rw [mAdd_y e]; show s.1 + 1 ≤ 240; omega
theorem mAdd_ge {s : mS} {u : Nat} : s.1 ≤ (mAdd s u).1 := by
  by_cases e : s.1 = 240 ∨ mIn s u
  · rw [mAdd_n e]; exact Nat.le_refl _
  · rw [mAdd_y e]; show s.1 ≤ s.1 + 1; omega
theorem mAdd_at {s : mS} {u j : Nat} (h : j < s.1) : (mAdd s u).2 j = s.2 j := by
  by_cases e : s.1 = 240 ∨ mIn s u
  · rw [mAdd_n e]
  · rw [mAdd_y e]; exact if_neg (by omega)
theorem mAdd_lt {s : mS} {u z : Nat} (hu : u < z) (h : ∀ j, j < s.1 → s.2 j < z) : ∀ j, j < (mAdd s u).1 → (mAdd s u).2 j < z := by
  intro j hj
  by_cases e : s.1 = 240 ∨ mIn s u
  · rw [mAdd_n e] at hj ⊢; exact h j hj
  · rw [mAdd_y e] at hj ⊢
    show (if j = s.1 then u else s.2 j) < z
    split
    · exact hu
    · have hj' : j < s.1 + 1 := hj
      exact h j (by omega)
theorem mAdd_in {s : mS} {u v : Nat} (h : ¬ (s.1 = 240 ∨ mIn s u)) : mIn (mAdd s u) v ↔ mIn s v ∨ v = u := by
  rw [mAdd_y h]
  constructor
  · rintro ⟨j, hj, e⟩
    have e' : (if j = s.1 then u else s.2 j) = v := e
    have hj' : j < s.1 + 1 := hj
    split at e'
    · exact Or.inr e'.symm
    · exact Or.inl ⟨j, by omega, e'⟩
  · rintro (⟨j, hj, e⟩ | e)
    · exact ⟨j, by show j < s.1 + 1; omega, by show (if j = s.1 then u else s.2 j) = v; rw [if_neg (by omega)]; exact e⟩
    · exact ⟨s.1, by show s.1 < s.1 + 1; omega, by show (if s.1 = s.1 then u else s.2 s.1) = v; rw [if_pos rfl]; exact e.symm⟩
/-- k steps of the row of i -/
noncomputable def clI (T : Nat → Nat → Nat) (i : Nat) : Nat → mS → mS
  | 0, s => s
  | k + 1, s => mAdd (mAdd (clI T i k s) (T (s.2 i) (s.2 k))) (T (s.2 k) (s.2 i))
noncomputable def clO (T : Nat → Nat → Nat) (all : Nat) : Nat → Nat → mS → mS
  | 0, _, s => s
  | f + 1, i, s => if i < s.1 ∧ s.1 < all then clO T all f (i + 1) (clI T i (i + 1) s) else s
/-- members, and which units are -/
def uI (h : xH) (s : mS) : Prop := hGa h s.1 ∧ s.1 ≤ 240 ∧ (∀ j, j < s.1 → s.2 j < 240 ∧ iv h 35 j = nI (s.2 j)) ∧ (∀ u, u < 240 → (iv h 36 u = nI 1 ∧ mIn s u) ∨ (iv h 36 u = nI 0 ∧ ¬ mIn s u))
theorem clI_ge (T : Nat → Nat → Nat) (i : Nat) (s : mS) : ∀ k, s.1 ≤ (clI T i k s).1 := by
  intro k
  induction k with
  | zero => exact Nat.le_refl _
  | succ k ih =>
    rw [clI]
    exact Nat.le_trans ih (Nat.le_trans mAdd_ge mAdd_ge)
theorem clI_at (T : Nat → Nat → Nat) (i : Nat) (s : mS) {j : Nat} (hj : j < s.1) : ∀ k, (clI T i k s).2 j = s.2 j := by
  intro k
  induction k with
  | zero => rfl
  | succ k ih =>
    have := clI_ge T i s k
    rw [clI, mAdd_at (Nat.lt_of_lt_of_le hj (Nat.le_trans this mAdd_ge)), mAdd_at (by omega), ih]
section UNITS
variable {G : xG} {l : Launch} {d : Nat} {h : xH} {Q : Option Value → xH → Prop} {r o : Nat} {rw0 : Nat → Nat} {mk : Nat → Option Nat} {T : Nat → Nat → Nat}
theorem c_admitS {u : Nat} {s : mS} (hC : Cs h) (hI : uI h s) (hu : u < 240) (K : ∀ h2, Cs h2 → uI h2 (mAdd s u) → xSm [36, 35, 31] h h2 → (∀ q, q ≠ 8 → (h2.1 31).2.2 q = (h.1 31).2.2 q) → Q none h2) : xCt G l mX9_admit d [.ref 31, .int (nI u)] h 0 0 Q := by
  obtain ⟨i1, i2, i3, i4⟩ := hI
  refine c_admit hC i1 i2 hu (fun c1 c2 h2 k1 k2 k3 k4 k5 k6 => ?_) (fun z => ?_)
  · have hn : ¬ (s.1 = 240 ∨ mIn s u) := by
      rintro (z | z)
      · omega
      · rcases i4 u hu with ⟨q1, q2⟩ | ⟨q1, q2⟩
        · rw [q1] at c2; exact absurd c2 (by decide)
        · exact q2 z
    refine K h2 k1 ⟨?_, mAdd_le i2, fun j hj => ⟨mAdd_lt hu (fun j hj => (i3 j hj).1) j hj, ?_⟩, fun v hv => ?_⟩ k2 k4
    · rw [mAdd_y hn]; exact k3
    · rw [mAdd_y hn] at hj ⊢
      have hj' : j < s.1 + 1 := hj
      rw [k6]
      show upd (iv h 35) s.1 (nI u) j = nI (if j = s.1 then u else s.2 j)
      unfold upd
      split
      · rfl
      · exact (i3 j (by omega)).2
    · rw [k5]
      unfold upd
      split
      · next e => exact Or.inl ⟨rfl, (mAdd_in hn).mpr (Or.inr e)⟩
      · next e =>
        rcases i4 v hv with ⟨q1, q2⟩ | ⟨q1, q2⟩
        · exact Or.inl ⟨q1, (mAdd_in hn).mpr (Or.inl q2)⟩
        · exact Or.inr ⟨q1, fun z => by rcases (mAdd_in hn).mp z with y | y; exact q2 y; exact e y⟩
  · have hy : s.1 = 240 ∨ mIn s u := by
      rcases z with z | z
      · exact Or.inl z
      · rcases i4 u hu with ⟨q1, q2⟩ | ⟨q1, q2⟩
        · exact Or.inr q2
        · exact absurd (q1.trans nI_0) z
    have e := mAdd_n hy
    exact K h hC (by rw [e]; exact ⟨i1, i2, i3, i4⟩) (xSm.rf.sub (by simp)) (fun _ _ => rfl)
theorem uI.keep {h h2 : xH} {s : mS} (hI : uI h s) (e8 : (h2.1 31).2.2 8 = (h.1 31).2.2 8) (e35 : iv h2 35 = iv h 35) (e36 : iv h2 36 = iv h 36) : uI h2 s := by
  obtain ⟨i1, i2, i3, i4⟩ := hI
  exact ⟨e8.trans i1, i2, fun j hj => ⟨(i3 j hj).1, by rw [e35]; exact (i3 j hj).2⟩, fun u hu => by rw [e36]; exact i4 u hu⟩
theorem uGb.keepU {b : Bool} {h h2 : xH} (hU : uGb b h o r rw0 mk) (hC : Cs h2) (hS : xSm [36, 35, 31] h h2) (f : ∀ q, q ≠ 8 → (h2.1 31).2.2 q = (h.1 31).2.2 q) : uGb b h2 o r rw0 mk := by
  have h134 : 134 ≤ h.2 := hU.C.1.1
  have hL := hU.C.2.2.2.1
  have l2 : lsC h2 rw0 mk := hL.keep h134 (by rw [hS.1]; exact Nat.le_refl _) (hS.2 23 (by decide)) (hS.2 28 (by decide)) (hS.2 29 (by decide)) (fun m hm q1 q2 => hS.2 (rw0 m) (by simp; omega))
  have o2 : hOrd h2 o := by unfold hOrd; rw [hS.2 14 (by decide)]; exact hU.C.2.1
  cases b with
  | true =>
    obtain ⟨a1, a2, a3, a4, a5, a6, a7, a8, pf, g, a9, a10, a11, a12⟩ := hU
    exact ⟨hC, o2, a3, l2, a5, a6, a7, (f 4 (by decide)).trans a8, pf, g, (f 5 (by decide)).trans a9, (hS.2 r (by simp; omega)).trans a10, a11, by rw [hS.1]; exact a12⟩
  | false =>
    obtain ⟨a1, a2, a3, a4, a5, a6, a7, a8, a9⟩ := hU
    exact ⟨hC, o2, a3, l2, a5, by rw [hS.1]; exact a6, (f 4 (by decide)).trans a7, (f 5 (by decide)).trans a8, by rw [hS.1]; exact a9⟩
end UNITS

