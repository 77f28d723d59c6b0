/-! THE LAW: the model's side at the start -/
theorem hZ_112 : hZ.1 112 = (0, 1240, xI (upd (fun _ => 0) 64 (nI 2))) := rfl
theorem hZ_i112 : iv hZ 112 = upd (fun _ => 0) 64 (nI 2) := by
  unfold iv
  rw [hZ_112]
  rfl
theorem hZ_pl (y : Nat) : ∀ p, pl hZ y p = if p < 8 then (if 8 * y + p = 64 then nI 2 else 0) else 0 := by
  intro p
  unfold pl
  rw [hZ_i112]
  rfl
theorem hZ_RM : RM hZ S0 := by
  refine ⟨hZ_Cs, ⟨by decide, rfl⟩, fun j hj => ?_, ⟨fun y hy q hq => ?_, ?_⟩, fun norm hn => Or.inl ?_, Or.inl rfl, ⟨Nat.zero_le _, rfl, fun j hj => absurd hj (Nat.not_lt_zero j)⟩, ⟨Nat.zero_le _, rfl, fun j hj => absurd hj (Nat.not_lt_zero j)⟩⟩
  · funext p
    rw [hZ_pl]
    show _ = (0 : Int32)
    split
    · rw [if_neg (by omega)]
    · rfl
  · rw [hZ_pl, if_pos hq]
    split
    · decide
    · decide
  · funext p
    rw [hZ_pl]
    unfold c8 zOne
    by_cases c : p < 8
    · rw [if_pos c, if_pos c]
      by_cases e : p = 0
      · subst e
        rfl
      · rw [if_neg (by omega)]
        match p, c, e with
        | 1, _, _ | 2, _, _ | 3, _, _ | 4, _, _ | 5, _, _ | 6, _, _ | 7, _, _ => rfl
    · rw [if_neg c, if_neg c]
  · match norm, hn with
    | 0, _ | 1, _ | 2, _ | 3, _ => rfl

