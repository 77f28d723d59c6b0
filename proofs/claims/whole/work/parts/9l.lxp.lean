/-! packed rows of digits -/
def pkN (a : Nat) : List Nat → Nat
  | [] => a
  | i :: ds => pkN (16 * a + (i + 1)) ds
theorem pkN_b : ∀ ds a, (∀ i ∈ ds, i < 7) → a * 16 ^ ds.length ≤ pkN a ds ∧ pkN a ds < (a + 1) * 16 ^ ds.length
  | [], a, _ => by show a * 1 ≤ a ∧ a < (a + 1) * 1; omega
  | i :: ds, a, h => by
    have hi := h i (List.mem_cons_self ..)
    obtain ⟨h1, h2⟩ := pkN_b ds (16 * a + (i + 1)) (fun j hj => h j (List.mem_cons_of_mem _ hj))
    rw [pkN, List.length_cons, Nat.pow_succ]
    have e1 : a * (16 ^ ds.length * 16) ≤ (16 * a + (i + 1)) * 16 ^ ds.length := by
      rw [show a * (16 ^ ds.length * 16) = (16 * a) * 16 ^ ds.length by rw [Nat.mul_comm 16 a, Nat.mul_assoc a 16, Nat.mul_comm 16]]
      exact Nat.mul_le_mul_right _ (by omega)
    have e2 : (16 * a + (i + 1) + 1) * 16 ^ ds.length ≤ (a + 1) * (16 ^ ds.length * 16) := by
      rw [show (a + 1) * (16 ^ ds.length * 16) = (16 * (a + 1)) * 16 ^ ds.length by rw [Nat.mul_comm 16 (a + 1), Nat.mul_assoc (a + 1) 16, Nat.mul_comm 16]]
      exact Nat.mul_le_mul_right _ (by omega)
    omega
theorem pkN_d (ds : List Nat) (a : Nat) (h : ∀ i ∈ ds, i < 7) : pkN a ds / 16 ^ ds.length = a := by
  obtain ⟨h1, h2⟩ := pkN_b ds a h
  exact Nat.div_eq_of_lt_le h1 h2
theorem pkN_at : ∀ ds a j, (∀ i ∈ ds, i < 7) → j < ds.length → pkN a ds / 16 ^ (ds.length - 1 - j) % 16 = ds.getD j 0 + 1
  | [], a, j, _, hj => absurd hj (Nat.not_lt_zero j)
  | i :: ds, a, j, h, hj => by
    have hi := h i (List.mem_cons_self ..)
    have hd := fun j hj => h j (List.mem_cons_of_mem i hj)
    rw [pkN, List.length_cons]
    cases j with
    | zero =>
      rw [show ds.length + 1 - 1 - 0 = ds.length by omega, pkN_d ds _ hd]
      show (16 * a + (i + 1)) % 16 = i + 1
      omega
    | succ j =>
      rw [List.length_cons] at hj
      rw [show ds.length + 1 - 1 - (j + 1) = ds.length - 1 - j by omega, pkN_at ds _ j hd (by omega)]
      rfl
theorem or16 {a d : Nat} (hd : d < 16) (h : 16 * a + d < 2 ^ 32) : nI (a * 2 ^ 4) ||| nI d = nI (16 * a + d) := by
  apply Int32.toBitVec_inj.mp
  apply BitVec.eq_of_toNat_eq
  rw [Int32.toBitVec_or, BitVec.toNat_or, pk_tn (by omega), pk_tn (by omega), pk_tn h, Nat.mul_comm a]
  have := Nat.two_pow_add_eq_or_of_lt (i := 4) (b := d) hd a
  omega
theorem vv_4 : ∀ i, i < 7 → vv i + nI 4 = nI (i + 1) ∧ vv i = nI (i + 1) - nI 4 := by decide +kernel
theorem pkl_N : ∀ ds a, (∀ i ∈ ds, i < 7) → (a + 1) * 16 ^ ds.length ≤ 2 ^ 32 → pkl (nI a) ds = nI (pkN a ds)
  | [], a, _, _ => rfl
  | i :: ds, a, h, hb => by
    have hi := h i (List.mem_cons_self ..)
    rw [List.length_cons, Nat.pow_succ] at hb
    have p1 : 1 ≤ 16 ^ ds.length := Nat.pow_pos (by decide)
    have e2 : (16 * a + (i + 1) + 1) * 16 ^ ds.length ≤ (a + 1) * (16 ^ ds.length * 16) := by
      rw [show (a + 1) * (16 ^ ds.length * 16) = (16 * (a + 1)) * 16 ^ ds.length by rw [Nat.mul_comm 16 (a + 1), Nat.mul_assoc (a + 1) 16, Nat.mul_comm 16]]
      exact Nat.mul_le_mul_right _ (by omega)
    have e3 : (16 * a + (i + 1) + 1) * 1 ≤ (16 * a + (i + 1) + 1) * 16 ^ ds.length := Nat.mul_le_mul_left _ p1
    rw [pkl, (vv_4 i hi).1, pk_shlN (nI 4 &&& 31) 4 (by decide) (by omega), or16 (by omega) (by omega), pkN]
    exact pkl_N ds _ (fun j hj => h j (List.mem_cons_of_mem _ hj)) (by omega)
theorem zUp_N {P j : Nat} (hP : P < 2 ^ 31) (hj : j < 8) : zUp (nI P) j = nI (P / 16 ^ (7 - j) % 16) - nI 4 := by
  unfold zUp
  have hs : ∀ j, j < 8 → ((((nI 28 - nI 4 * nI j) &&& 31) : Int32).toBitVec.smod 32).toNat = 28 - 4 * j := by decide +kernel
  have e : 2 ^ (28 - 4 * j) = 16 ^ (7 - j) := by
    rw [show 28 - 4 * j = 4 * (7 - j) by omega, Nat.pow_mul]
  rw [pk_shrN hP _ _ (hs j hj), pk_andN (Nat.lt_of_le_of_lt (Nat.div_le_self _ _) (by omega)) 4 rfl, e]
theorem zUp_l {ds : List Nat} {p : Nat} (hl : ds.length = 8) (h : ∀ i ∈ ds, i < 7) (hp : p < 8) : zUp (pkl (nI 0) ds) p = vv (ds.getD p 0) := by
  have h7 : ds.getD p 0 < 7 := by
    rw [List.getD_eq_getElem?_getD, List.getElem?_eq_getElem (by omega)]
    exact h _ (List.getElem_mem _)
  obtain ⟨b1, b2⟩ := pkN_b ds 0 h
  have b3 : pkN 0 ds < 2 ^ 31 := by
    match ds, hl, h with
    | i :: ds, hl, h =>
      have hi := h i (List.mem_cons_self ..)
      obtain ⟨-, c2⟩ := pkN_b ds (16 * 0 + (i + 1)) (fun j hj => h j (List.mem_cons_of_mem _ hj))
      rw [List.length_cons] at hl
      rw [show ds.length = 7 by omega] at c2
      rw [pkN]
      omega
  rw [pkl_N ds 0 h (by rw [hl]; decide), zUp_N b3 hp, (vv_4 _ h7).2]
  have := pkN_at ds 0 p h (by omega)
  rw [hl] at this
  rw [show 8 - 1 - p = 7 - p by omega] at this
  rw [this]
theorem lsD_m {o norm k : Nat} (hk : k < lnN o norm) : (lsD o norm).getD k [] ∈ lx 8 (4 * norm) ∧ ofO o (odL ((lsD o norm).getD k [])) = true := by
  have hl := lsD_len (o := o) (norm := norm)
  have : (lsD o norm).getD k [] ∈ lsD o norm := by
    rw [List.getD_eq_getElem?_getD, List.getElem?_eq_getElem (by omega)]
    exact List.getElem_mem _
  exact List.mem_filter.mp this
theorem zEl_l {o norm k p : Nat} (ho : o < 8) (hn : norm < 4) (hk : k < lnN o norm) (hp : p < 8) : zEl o norm k p = vv (((lsD o norm).getD k []).getD p 0) := by
  unfold zEl
  rw [(zLst_n ho hn).2 k hk]
  obtain ⟨h1, h2⟩ := lx_len _ _ _ (lsD_m hk).1
  exact zUp_l h1 h2 hp

