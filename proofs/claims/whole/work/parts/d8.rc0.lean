/-! THE LAW: both sides stand for the same start -/
def S0 : St := (fun _ _ => 0, 1, (0, fun _ => 0), (0, fun _ => (fun _ _ => 0, 0)))
theorem c8_0 : c8 (fun _ => (0 : Int32)) = fun _ => 0 := by
  funext p
  unfold c8
  split <;> rfl
theorem zBd_0 : zBd (fun _ => (0 : Int32)) := fun j _ => (by decide : -20000 ≤ (0 : Int32).toInt ∧ (0 : Int32).toInt ≤ 20000)
theorem hZ_iv : ∀ j, j < 8 → iv hZ (2 + j) = fun _ => 0 := by
  intro j hj
  match j, hj with
  | 0, _ | 1, _ | 2, _ | 3, _ | 4, _ | 5, _ | 6, _ | 7, _ => rfl
theorem hZ_RS : RS hZ S0 := by
  refine ⟨⟨by decide, rfl⟩, fun j hj => ⟨?_, zBd_0⟩, ⟨Nat.zero_le _, rfl, fun j hj => absurd hj (Nat.not_lt_zero j)⟩, ⟨Nat.zero_le _, rfl, fun j hj => absurd hj (Nat.not_lt_zero j)⟩⟩
  rw [hZ_iv j hj]
  exact c8_0
theorem hZ_RI : RI false hZ := by
  refine ⟨fun q => 22 + 1 + 1 + q, fun _ => none, 0, 54, 105, 16, 0, fun _ => 0, ⟨rfl, fun norm hn => ⟨Or.inl ⟨(by show 22 + 1 + 1 + norm = 24 + norm; omega), rfl, ?_⟩, fun m _ e => by have e : 22 + 1 + 1 + m = 22 + 1 + 1 + norm := e; omega⟩⟩, ⟨rfl, rfl⟩, ⟨(0, fun _ => 0), rfl, Nat.zero_le _, fun j hj => absurd hj (Nat.not_lt_zero j), fun u _ => Or.inr ⟨rfl, fun ⟨j, hj, _⟩ => absurd hj (Nat.not_lt_zero j)⟩⟩, Or.inl ⟨rfl, rfl, fun i _ => rfl⟩, ⟨rfl, rfl, rfl, Or.inl rfl, by rw [hZ_2]; decide, rfl, by decide, by decide, by decide, fun j _ => (by decide : fits .byte (.int 0) = true)⟩⟩
  match norm, hn with
  | 0, _ | 1, _ | 2, _ | 3, _ => rfl
theorem hZ_RC : RC false hZ S0 := ⟨hZ_Cs, hZ_RS, hZ_RI⟩

