/-! THE LAW: Cs of the start heap -/
theorem ktX7 (n : Nat) : ∀ c ∈ kX7 n, xTyp c := by
  unfold kX7
  repeat (first | exact fun _ h => absurd h List.not_mem_nil | refine List.forall_mem_cons.mpr ⟨(by first | exact trivial | exact ⟨_, rfl⟩ | exact ⟨fun _ => 0, rfl⟩), ?_⟩)
theorem ktX2 (n : Nat) : ∀ c ∈ kX2 n, xTyp c := by
  unfold kX2
  repeat (first | exact fun _ h => absurd h List.not_mem_nil | refine List.forall_mem_cons.mpr ⟨(by first | exact trivial | exact ⟨_, rfl⟩ | exact ⟨fun _ => 0, rfl⟩), ?_⟩)
theorem ktX4 (n a1 : Nat) : ∀ c ∈ kX4 n a1, xTyp c := by
  unfold kX4
  repeat (first | exact fun _ h => absurd h List.not_mem_nil | refine List.forall_mem_cons.mpr ⟨(by first | exact trivial | exact ⟨_, rfl⟩ | exact ⟨fun _ => 0, rfl⟩), ?_⟩)
theorem ktX9 (n a1 a2 : Nat) : ∀ c ∈ kX9 n a1 a2, xTyp c := by
  unfold kX9
  repeat (first | exact fun _ h => absurd h List.not_mem_nil | refine List.forall_mem_cons.mpr ⟨(by first | exact trivial | exact ⟨_, rfl⟩ | exact ⟨fun _ => 0, rfl⟩), ?_⟩)
theorem ktX0 (n a1 a2 : Nat) : ∀ c ∈ kX0 n a1 a2, xTyp c := by
  unfold kX0
  repeat (first | exact fun _ h => absurd h List.not_mem_nil | refine List.forall_mem_cons.mpr ⟨(by first | exact trivial | exact ⟨_, rfl⟩ | exact ⟨fun _ => 0, rfl⟩), ?_⟩)
theorem ktX3 (n a1 : Nat) : ∀ c ∈ kX3 n a1, xTyp c := by
  unfold kX3
  repeat (first | exact fun _ h => absurd h List.not_mem_nil | refine List.forall_mem_cons.mpr ⟨(by first | exact trivial | exact ⟨_, rfl⟩ | exact ⟨fun _ => 0, rfl⟩), ?_⟩)
theorem ktX10 (n a1 : Nat) : ∀ c ∈ kX10 n a1, xTyp c := by
  unfold kX10
  repeat (first | exact fun _ h => absurd h List.not_mem_nil | refine List.forall_mem_cons.mpr ⟨(by first | exact trivial | exact ⟨_, rfl⟩ | exact ⟨fun _ => 0, rfl⟩), ?_⟩)
theorem ktX8 (n : Nat) : ∀ c ∈ kX8 n, xTyp c := by
  unfold kX8
  repeat (first | exact fun _ h => absurd h List.not_mem_nil | refine List.forall_mem_cons.mpr ⟨(by first | exact trivial | exact ⟨_, rfl⟩ | exact ⟨fun _ => 0, rfl⟩), ?_⟩)
theorem ktX6 (n a1 a2 a3 : Nat) : ∀ c ∈ kX6 n a1 a2 a3, xTyp c := by
  unfold kX6
  repeat (first | exact fun _ h => absurd h List.not_mem_nil | refine List.forall_mem_cons.mpr ⟨(by first | exact trivial | exact ⟨_, rfl⟩ | exact ⟨fun _ => 0, rfl⟩), ?_⟩)
theorem ktX1 (n : Nat) : ∀ c ∈ kX1 n, xTyp c := by
  unfold kX1
  repeat (first | exact fun _ h => absurd h List.not_mem_nil | refine List.forall_mem_cons.mpr ⟨(by first | exact trivial | exact ⟨_, rfl⟩ | exact ⟨fun _ => 0, rfl⟩), ?_⟩)
theorem ktJ4 (n : Nat) : ∀ c ∈ kJ4 n, xTyp c := by
  unfold kJ4
  repeat (first | exact fun _ h => absurd h List.not_mem_nil | refine List.forall_mem_cons.mpr ⟨(by first | exact trivial | exact ⟨_, rfl⟩ | exact ⟨fun _ => 0, rfl⟩), ?_⟩)
theorem rt_0 : ∀ c ∈ rX11_0, xTyp c := fun _ h => absurd h List.not_mem_nil
theorem rt_1 : ∀ c ∈ rX11_1, xTyp c := List.forall_mem_append.mpr ⟨rt_0, List.forall_mem_cons.mpr ⟨trivial, fun c hc => by rw [List.eq_of_mem_replicate hc]; exact ⟨fun _ => 0, rfl⟩⟩⟩
theorem rt_2 : ∀ c ∈ rX11_2, xTyp c := List.forall_mem_append.mpr ⟨rt_1, ktX7 10⟩
theorem rt_3 : ∀ c ∈ rX11_3, xTyp c := List.forall_mem_append.mpr ⟨rt_2, ktX2 14⟩
theorem rt_4 : ∀ c ∈ rX11_4, xTyp c := List.forall_mem_append.mpr ⟨rt_3, ktX4 22 14⟩
theorem rt_5 : ∀ c ∈ rX11_5, xTyp c := List.forall_mem_append.mpr ⟨rt_4, ktX9 31 22 10⟩
theorem rt_6 : ∀ c ∈ rX11_6, xTyp c := List.forall_mem_append.mpr ⟨rt_5, ktX0 37 14 10⟩
theorem rt_7 : ∀ c ∈ rX11_7, xTyp c := List.forall_mem_append.mpr ⟨rt_6, ktX3 44 10⟩
theorem rt_8 : ∀ c ∈ rX11_8, xTyp c := List.forall_mem_append.mpr ⟨rt_7, ktX10 53 10⟩
theorem rt_9 : ∀ c ∈ rX11_9, xTyp c := List.forall_mem_append.mpr ⟨rt_8, ktX8 56⟩
theorem rt_10 : ∀ c ∈ rX11_10, xTyp c := List.forall_mem_append.mpr ⟨rt_9, ktX6 58 56 1 10⟩
theorem rt_11 : ∀ c ∈ rX11_11, xTyp c := List.forall_mem_append.mpr ⟨rt_10, ktX1 101⟩
theorem rt_12 : ∀ c ∈ rX11_12, xTyp c := List.forall_mem_append.mpr ⟨rt_11, ktJ4 104⟩
theorem rt_13 : ∀ c ∈ rX11_13, xTyp c := List.forall_mem_append.mpr ⟨rt_12, List.forall_mem_cons.mpr ⟨⟨fun _ => 0, rfl⟩, fun _ h => absurd h List.not_mem_nil⟩⟩
theorem rt_14 : ∀ c ∈ rX11_14, xTyp c := List.forall_mem_append.mpr ⟨rt_13, List.forall_mem_cons.mpr ⟨⟨fun _ => 0, rfl⟩, fun _ h => absurd h List.not_mem_nil⟩⟩
theorem rt_15 : ∀ c ∈ rX11_15, xTyp c := List.forall_mem_append.mpr ⟨rt_14, List.forall_mem_cons.mpr ⟨⟨fun _ => 0, rfl⟩, fun _ h => absurd h List.not_mem_nil⟩⟩
theorem rt_16 : ∀ c ∈ rX11_16, xTyp c := List.forall_mem_append.mpr ⟨rt_15, List.forall_mem_cons.mpr ⟨⟨fun _ => 0, rfl⟩, fun _ h => absurd h List.not_mem_nil⟩⟩
theorem ktX11 : ∀ c ∈ kX11, xTyp c := List.forall_mem_cons.mpr ⟨trivial, rt_16⟩
theorem hZ_typ (a : Nat) : xTyp (hZ.1 a) := by
  rcases Nat.lt_or_ge a (kX11 ++ kX12 110).length with z | z
  · show xTyp ((kX11 ++ kX12 110).getD a lhD)
    rw [List.getD_eq_getElem?_getD, List.getElem?_eq_getElem z]
    exact List.forall_mem_append.mpr ⟨ktX11, ktX12 _ _ _⟩ _ (List.getElem_mem z)
  · show xTyp ((lh (kX11 ++ kX12 110)).1 a)
    rw [lh_out z]
    exact trivial
theorem hZ_Cs : Cs hZ := by
  refine ⟨by rw [hZ_2]; exact Nat.le_refl _, fun a q hq => ?_, hZ_typ, fun q hq => of_decide_eq_true (List.all_eq_true.mp hZ_F q hq), fun j hj => ?_⟩
  · have h1 := of_decide_eq_true (List.all_eq_true.mp hZ_T a (List.mem_range.mpr (csT_lt hq)))
    rw [hq] at h1
    have h2 := Option.some.inj h1
    exact ⟨congrArg Prod.fst h2, congrArg Prod.snd h2⟩
  · have h1 : hZ.1 111 = (0, 64, xI sgF) := rfl
    rw [h1]
    exact congrArg Value.int (sgF_eq hj)

