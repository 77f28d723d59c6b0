/-! EightParts: spellPart, spell -/
theorem phN_3 (N : Nat) : phN N ≤ 3 := by
  unfold phN
  repeat' split
  all_goals decide
theorem RX.sb {b : Bool} {h h2 : xH} {S : St} {rw0 : Nat → Nat} {mk : Nat → Option Nat} {r p v N c v2 N2 : Nat} {g : Nat → Int32} {T2 : List Nat} (hC : Cs h) (hS : RS h S) (hX : RX b h rw0 mk r p v N c g) (B2 : bB h2 v2 N2 T2) (F : bF h v N h2 v2 N2) : RC b h2 S ∧ mF h h2 := by
  obtain ⟨i1, i2, ⟨s, i3⟩, i4, i5⟩ := hX
  obtain ⟨j1, j2, j3, j4, j5, j6, j7⟩ := i5
  obtain ⟨a1, a2, a3, a4⟩ := F
  have h134 := hC.1
  have p3 := phN_3 N
  have st : ∀ a, a < 134 → a ≠ 104 → a ≠ 105 → h2.1 a = h.1 a := fun a q1 q2 q3 => a2 a (by omega) q2 (by omega)
  have big : ∀ a, a < h.2 → 134 ≤ a → (h.1 a).1 ≠ 3 → h2.1 a = h.1 a := fun a q1 q2 q3 => a2 a q1 (by omega) (fun e => q3 (by rw [e, j6]))
  have n31 := st 31 (by decide) (by decide) (by decide)
  refine ⟨⟨B2.1, hS.keep (st 14 (by decide) (by decide) (by decide)) (fun j hj => st _ (by omega) (by omega) (by omega)) (st 56 (by decide) (by decide) (by decide)) (st 57 (by decide) (by decide) (by decide)) (st 101 (by decide) (by decide) (by decide)) (st 102 (by decide) (by decide) (by decide)) (st 103 (by decide) (by decide) (by decide)), ?_⟩, ⟨fun a q1 q2 => st' a q1 q2, a1, by omega⟩⟩
  case refine_2 => exact trivial

