/-! THE LAW: kinds of the start heap's cells -/
theorem lh_out {cs : List xC} {a : Nat} (h : cs.length ≤ a) : (lh cs).1 a = lhD := by
  show cs.getD a lhD = lhD
  rw [List.getD_eq_getElem?_getD, List.getElem?_eq_none h]
  rfl
theorem ktX12 (n : Nat) (f r : Nat → Int32) : ∀ c ∈ kX12s n f r, xTyp c := by
  unfold kX12s
  repeat (first | exact fun _ h => absurd h List.not_mem_nil | refine List.forall_mem_cons.mpr ⟨(by first | exact trivial | exact ⟨_, rfl⟩ | exact ⟨fun _ => 0, rfl⟩), ?_⟩)

