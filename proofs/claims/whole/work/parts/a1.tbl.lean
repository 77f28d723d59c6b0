/-! the table of the units -/
theorem mI_nl {x x2 y : Nat → Int} (h : ∀ i, i < 8 → x2 i = -x i) {p : Nat} (hp : p < 8) : mI x2 y p = -mI x y p := by
  rcases lt8 hp with rfl | rfl | rfl | rfl | rfl | rfl | rfl | rfl
  all_goals
    simp only [mI, h 0 (by decide), h 1 (by decide), h 2 (by decide), h 3 (by decide), h 4 (by decide), h 5 (by decide), h 6 (by decide), h 7 (by decide), Int.neg_mul]
    omega
theorem mI_nr {x y y2 : Nat → Int} (h : ∀ i, i < 8 → y2 i = -y i) {p : Nat} (hp : p < 8) : mI x y2 p = -mI x y p := by
  rcases lt8 hp with rfl | rfl | rfl | rfl | rfl | rfl | rfl | rfl
  all_goals
    simp only [mI, h 0 (by decide), h 1 (by decide), h 2 (by decide), h 3 (by decide), h 4 (by decide), h 5 (by decide), h 6 (by decide), h 7 (by decide), Int.mul_neg]
    omega
/-- a unit, by its number -/
abbrev eI (o k : Nat) : Nat → Int := tI (zEl o 1 k)
theorem eI_ng {o k : Nat} (ho : o < 8) (hk : k < lnN o 1) : ∀ p, p < 8 → eI o (lnN o 1 - 1 - k) p = -eI o k p := fun p hp => by
  show (zEl o 1 (lnN o 1 - 1 - k) p).toInt = _
  rw [el_ng ho k hk p hp]
  exact ng_I (by have := el_b ho hk hp; omega)
theorem eI_in {o j k : Nat} (ho : o < 8) (hj : j < lnN o 1) (hk : k < lnN o 1) (e : ∀ p, p < 8 → eI o j p = eI o k p) : j = k := el_in ho hj hk (fun p hp => Int32.toInt_inj.mp (e p hp))
/-- the number of a product -/
theorem pr_ex {o i k : Nat} (ho : o < 8) (hi : i < lnN o 1) (hk : k < lnN o 1) : ∃ t z, t < lnN o 1 ∧ oMul (zEl o 1 i) (zEl o 1 k) = some z ∧ zFindL o 1 z = nI t ∧ nrmN z 8 = 4 ∧ (∀ p, p < 8 → zEl o 1 t p = z p) ∧ ∀ p, p < 8 → 2 * eI o t p = mI (eI o i) (eI o k) p := by
  obtain ⟨a1, a2, -⟩ := el_u ho hi
  obtain ⟨b1, b2, -⟩ := el_u ho hk
  obtain ⟨z, z1, z2, z3, z4⟩ := unit_mul ho a1 b1 a2 b2
  obtain ⟨t, t1, t2, t3⟩ := un_ix ho z2 z3
  exact ⟨t, z, t1, z1, t2, z3, t3, fun p hp => by show 2 * (zEl o 1 t p).toInt = _; rw [t3 p hp]; exact z4 p hp⟩
theorem zMN_t {o i k t : Nat} {z : Nat → Int32} (ho : o < 8) (hi : i < lnN o 1) (hk : k < lnN o 1) (hz : oMul (zEl o 1 i) (zEl o 1 k) = some z) (ht : zFindL o 1 z = nI t) : zMN o i k = nI t := by
  have e := (zLst_n ho (show 1 < 4 by decide)).1
  have n16 := ln_16 o ho
  unfold zFindL at ht
  rw [if_neg (by omega)] at ht
  unfold zEl at hz
  unfold zMN
  rw [if_pos ⟨by omega, by omega⟩, hz]
  exact ht
theorem tb_ex {o i k : Nat} (ho : o < 8) (hi : i < lnN o 1) (hk : k < lnN o 1) : ∃ t z, t < lnN o 1 ∧ oMul (zEl o 1 i) (zEl o 1 k) = some z ∧ zFindL o 1 z = nI t ∧ nrmN z 8 = 4 ∧ (∀ p, p < 8 → zEl o 1 t p = z p) ∧ (∀ p, p < 8 → 2 * eI o t p = mI (eI o i) (eI o k) p) ∧ zMA o i k = nI t := by
  have e := (zLst_n ho (show 1 < 4 by decide)).1
  have n16 := ln_16 o ho
  have n240 := ln_room o ho 1 (by decide)
  have r1 : zRoom 1 = 240 := rfl
  obtain ⟨t, z, t1, t2, t3, t4, t5, t6⟩ := pr_ex ho hi hk
  refine ⟨t, z, t1, t2, t3, t4, t5, t6, ?_⟩
  have fi : min i (lnN o 1 - 1 - i) < lnN o 1 := by omega
  have fk : min k (lnN o 1 - 1 - k) < lnN o 1 := by omega
  obtain ⟨s, y, s1, s2, s3, s4, s5, s6⟩ := pr_ex ho fi fk
  have em := zMN_t ho fi fk s2 s3
  unfold zMA
  rw [e, em]
  have n1 : ¬ nI s = -1 := by
    intro z
    have := congrArg Int32.toInt z
    rw [nI_toInt (by omega)] at this
    have e1 : (-1 : Int32).toInt = -1 := by decide
    omega
  by_cases c1 : min i (lnN o 1 - 1 - i) = i
  · by_cases c2 : min k (lnN o 1 - 1 - k) = k
    · rw [if_pos (Or.inl ⟨fun _ => c2, fun _ => c1⟩)]
      rw [c1, c2] at s6
      rw [eI_in ho s1 t1 (fun p hp => by have := s6 p hp; have := t6 p hp; omega)]
    · have c2' : min k (lnN o 1 - 1 - k) = lnN o 1 - 1 - k := by omega
      rw [if_neg (by rintro (q | q); exact c2 (q.mp c1); exact n1 q)]
      rw [c1, c2'] at s6
      have : lnN o 1 - 1 - s = t := eI_in ho (by omega) t1 (fun p hp => by
        have a := s6 p hp
        have b := t6 p hp
        rw [mI_nr (eI_ng ho hk) hp] at a
        rw [eI_ng ho s1 p hp]
        omega)
      rw [← this]
      exact pk_sub (by omega)
  · have c1' : min i (lnN o 1 - 1 - i) = lnN o 1 - 1 - i := by omega
    by_cases c2 : min k (lnN o 1 - 1 - k) = k
    · rw [if_neg (by rintro (q | q); exact c1 (q.mpr c2); exact n1 q)]
      rw [c1', c2] at s6
      have : lnN o 1 - 1 - s = t := eI_in ho (by omega) t1 (fun p hp => by
        have a := s6 p hp
        have b := t6 p hp
        rw [mI_nl (eI_ng ho hi) hp] at a
        rw [eI_ng ho s1 p hp]
        omega)
      rw [← this]
      exact pk_sub (by omega)
    · have c2' : min k (lnN o 1 - 1 - k) = lnN o 1 - 1 - k := by omega
      rw [if_pos (Or.inl ⟨fun q => absurd q c1, fun q => absurd q c2⟩)]
      rw [c1', c2'] at s6
      rw [eI_in ho s1 t1 (fun p hp => by
        have a := s6 p hp
        have b := t6 p hp
        rw [mI_nl (eI_ng ho hi) hp, mI_nr (eI_ng ho hk) hp] at a
        omega)]
/-- T0 is the table -/
theorem T0_t {o i k : Nat} (ho : o < 8) (hi : i < lnN o 1) (hk : k < lnN o 1) : T0 o i k < lnN o 1 ∧ zMA o i k = nI (T0 o i k) ∧ (∀ p, p < 8 → 2 * eI o (T0 o i k) p = mI (eI o i) (eI o k) p) ∧ ∃ z, oMul (zEl o 1 i) (zEl o 1 k) = some z ∧ zFindL o 1 z = nI (T0 o i k) ∧ nrmN z 8 = 4 ∧ ∀ p, p < 8 → zEl o 1 (T0 o i k) p = z p := by
  have n240 := ln_room o ho 1 (by decide)
  have r1 : zRoom 1 = 240 := rfl
  obtain ⟨t, z, t1, t2, t3, t4, t5, t6, t7⟩ := tb_ex ho hi hk
  have e : T0 o i k = t := by
    unfold T0
    rw [t7, nI_toInt (by omega)]
    rfl
  rw [e]
  exact ⟨t1, t7, t6, z, t2, t3, t4, t5⟩
theorem T0_tbl {o : Nat} (ho : o < 8) : tblO o (T0 o) := by
  intro i k hi hk
  have e := (zLst_n ho (show 1 < 4 by decide)).1
  rw [e] at hi hk ⊢
  obtain ⟨a, b, -⟩ := T0_t ho hi hk
  exact ⟨a, b⟩
theorem T0_of {o i k t : Nat} (ho : o < 8) (hi : i < lnN o 1) (hk : k < lnN o 1) (ht : t < lnN o 1) (h : ∀ p, p < 8 → 2 * eI o t p = mI (eI o i) (eI o k) p) : T0 o i k = t := by
  obtain ⟨a, -, c, -⟩ := T0_t ho hi hk
  exact eI_in ho a ht (fun p hp => by have := c p hp; have := h p hp; omega)
theorem one_I : ∀ p, p < 8 → (zOne 0 p).toInt = if p = 0 then 2 else 0 := by decide +kernel
theorem eI_1 {o : Nat} (ho : o < 8) : ∀ p, p < 8 → eI o (lnN o 1 - 1) p = if p = 0 then 2 else 0 := fun p hp => by
  show (zEl o 1 (lnN o 1 - 1) p).toInt = _
  rw [el_1 ho p hp]
  exact one_I p hp
theorem mI_1l {x y : Nat → Int} (h : ∀ i, i < 8 → x i = if i = 0 then 2 else 0) {p : Nat} (hp : p < 8) : mI x y p = 2 * y p := by
  have h0 : x 0 = 2 := h 0 (by decide)
  have h1 : x 1 = 0 := h 1 (by decide)
  have h2 : x 2 = 0 := h 2 (by decide)
  have h3 : x 3 = 0 := h 3 (by decide)
  have h4 : x 4 = 0 := h 4 (by decide)
  have h5 : x 5 = 0 := h 5 (by decide)
  have h6 : x 6 = 0 := h 6 (by decide)
  have h7 : x 7 = 0 := h 7 (by decide)
  rcases lt8 hp with rfl | rfl | rfl | rfl | rfl | rfl | rfl | rfl
  all_goals
    simp only [mI, h0, h1, h2, h3, h4, h5, h6, h7, Int.zero_mul]
    omega
theorem mI_1r {x y : Nat → Int} (h : ∀ i, i < 8 → y i = if i = 0 then 2 else 0) {p : Nat} (hp : p < 8) : mI x y p = 2 * x p := by
  have h0 : y 0 = 2 := h 0 (by decide)
  have h1 : y 1 = 0 := h 1 (by decide)
  have h2 : y 2 = 0 := h 2 (by decide)
  have h3 : y 3 = 0 := h 3 (by decide)
  have h4 : y 4 = 0 := h 4 (by decide)
  have h5 : y 5 = 0 := h 5 (by decide)
  have h6 : y 6 = 0 := h 6 (by decide)
  have h7 : y 7 = 0 := h 7 (by decide)
  rcases lt8 hp with rfl | rfl | rfl | rfl | rfl | rfl | rfl | rfl
  all_goals
    simp only [mI, h0, h1, h2, h3, h4, h5, h6, h7, Int.mul_zero]
    omega
theorem T0_1l {o k : Nat} (ho : o < 8) (hk : k < lnN o 1) : T0 o (lnN o 1 - 1) k = k := T0_of ho (by omega) hk hk (fun p hp => (mI_1l (eI_1 ho) hp).symm)
theorem T0_1r {o k : Nat} (ho : o < 8) (hk : k < lnN o 1) : T0 o k (lnN o 1 - 1) = k := T0_of ho hk (by omega) hk (fun p hp => (mI_1r (eI_1 ho) hp).symm)
theorem T0_nl {o i k : Nat} (ho : o < 8) (hi : i < lnN o 1) (hk : k < lnN o 1) : T0 o (lnN o 1 - 1 - i) k = lnN o 1 - 1 - T0 o i k := by
  obtain ⟨a, -, c, -⟩ := T0_t ho hi hk
  refine T0_of ho (by omega) hk (by omega) (fun p hp => ?_)
  rw [mI_nl (eI_ng ho hi) hp, eI_ng ho a p hp]
  have := c p hp
  omega
theorem T0_nr {o i k : Nat} (ho : o < 8) (hi : i < lnN o 1) (hk : k < lnN o 1) : T0 o i (lnN o 1 - 1 - k) = lnN o 1 - 1 - T0 o i k := by
  obtain ⟨a, -, c, -⟩ := T0_t ho hi hk
  refine T0_of ho hi (by omega) (by omega) (fun p hp => ?_)
  rw [mI_nr (eI_ng ho hk) hp, eI_ng ho a p hp]
  have := c p hp
  omega
/-- 1 and -1 associate with all -/
theorem T0_re {o u i k : Nat} (ho : o < 8) (hu : u = 0 ∨ u = lnN o 1 - 1) (hi : i < lnN o 1) (hk : k < lnN o 1) : T0 o (T0 o u i) k = T0 o u (T0 o i k) := by
  have n16 := ln_16 o ho
  have t1 := (T0_t ho hi hk).1
  rcases hu with rfl | rfl
  · have z : ∀ j, j < lnN o 1 → T0 o 0 j = lnN o 1 - 1 - j := by
      intro j hj
      have := T0_nl ho (show lnN o 1 - 1 < lnN o 1 by omega) hj
      rw [T0_1l ho hj, show lnN o 1 - 1 - (lnN o 1 - 1) = 0 by omega] at this
      exact this
    rw [z i hi, z _ t1, T0_nl ho hi hk]
  · rw [T0_1l ho hi, T0_1l ho t1]

