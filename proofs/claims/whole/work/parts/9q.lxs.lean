/-! the lists rise -/
theorem lx_sort : ∀ k rest a, (lx k rest).Pairwise (fun x y => pkN a x < pkN a y) := by
  intro k
  induction k with
  | zero =>
    intro rest a
    rw [lx]
    split
    · exact List.pairwise_singleton _ _
    · exact List.Pairwise.nil
  | succ k ih =>
    intro rest a
    rw [lx, List.pairwise_flatMap]
    constructor
    · intro i hi
      split
      · rw [List.pairwise_map]
        exact ih _ (16 * a + (i + 1))
      · exact List.Pairwise.nil
    · refine List.Pairwise.imp_of_mem ?_ (List.pairwise_lt_range (n := 7))
      intro i j hi hj hij x hx y hy
      split at hx
      · split at hy
        · obtain ⟨es, he, rfl⟩ := List.mem_map.mp hx
          obtain ⟨fs, hf, rfl⟩ := List.mem_map.mp hy
          obtain ⟨e1, e2⟩ := lx_len _ _ _ he
          obtain ⟨f1, f2⟩ := lx_len _ _ _ hf
          have b1 := (pkN_b es (16 * a + (i + 1)) e2).2
          have b2 := (pkN_b fs (16 * a + (j + 1)) f2).1
          rw [e1] at b1
          rw [f1] at b2
          have b3 : (16 * a + (i + 1) + 1) * 16 ^ k ≤ (16 * a + (j + 1)) * 16 ^ k := Nat.mul_le_mul_right _ (by omega)
          show pkN (16 * a + (i + 1)) es < pkN (16 * a + (j + 1)) fs
          omega
        · cases hy
      · cases hx
theorem lsD_sort (o norm : Nat) : (lsD o norm).Pairwise (fun x y => pkN 0 x < pkN 0 y) := (lx_sort 8 (4 * norm) 0).filter _
/-- the k-th packed -/
def lsP (o norm k : Nat) : Nat := pkN 0 ((lsD o norm).getD k [])
theorem lsP_lt {o norm k j : Nat} (hk : k < j) (hj : j < lnN o norm) : lsP o norm k < lsP o norm j := by
  have hl := lsD_len (o := o) (norm := norm)
  have := List.pairwise_iff_getElem.mp (lsD_sort o norm) k j (by omega) (by omega) hk
  unfold lsP
  rw [List.getD_eq_getElem?_getD, List.getElem?_eq_getElem (by omega), List.getD_eq_getElem?_getD, List.getElem?_eq_getElem (by omega)]
  exact this
theorem pk_31 {ds : List Nat} (hl : ds.length = 8) (h : ∀ i ∈ ds, i < 7) : pkN 0 ds < 2 ^ 31 := by
  match ds, hl, h with
  | i :: ds, hl, h =>
    have hi := h i (List.mem_cons_self ..)
    obtain ⟨-, c2⟩ := pkN_b ds (16 * 0 + (i + 1)) (fun j hj => h j (List.mem_cons_of_mem _ hj))
    rw [List.length_cons] at hl
    rw [show ds.length = 7 by omega] at c2
    rw [pkN]
    omega
theorem zLst_P {o norm k : Nat} (ho : o < 8) (hn : norm < 4) (hk : k < lnN o norm) : (zLst o norm).2 k = nI (lsP o norm k) ∧ lsP o norm k < 2 ^ 31 := by
  obtain ⟨h1, h2⟩ := lx_len _ _ _ (lsD_m hk).1
  exact ⟨by rw [(zLst_n ho hn).2 k hk, pkl_N _ 0 h2 (by rw [h1]; decide)]; rfl, pk_31 h1 h2⟩

