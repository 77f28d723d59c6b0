/-! what is in a list -/
def sqS : List Nat → Nat
  | [] => 0
  | i :: ds => sqN i + sqS ds
theorem lx_sum : ∀ k rest ds, ds ∈ lx k rest → sqS ds = rest := by
  intro k
  induction k with
  | zero =>
    intro rest ds h
    rw [lx] at h
    split at h
    · next e => rw [List.mem_singleton.mp h, e]; rfl
    · cases h
  | succ k ih =>
    intro rest ds h
    rw [lx, List.mem_flatMap] at h
    obtain ⟨i, hi, h⟩ := h
    split at h
    · next c =>
      obtain ⟨es, he, rfl⟩ := List.mem_map.mp h
      rw [sqS, ih _ _ he]
      omega
    · cases h
theorem lx_mem : ∀ ds, (∀ i ∈ ds, i < 7) → ds ∈ lx ds.length (sqS ds)
  | [], _ => by rw [sqS]; exact List.mem_singleton.mpr rfl
  | i :: ds, h => by
    have hi := h i (List.mem_cons_self ..)
    rw [List.length_cons, lx, List.mem_flatMap, sqS]
    refine ⟨i, List.mem_range.mpr hi, ?_⟩
    rw [if_pos (by omega), List.mem_map]
    refine ⟨ds, ?_, rfl⟩
    rw [Nat.add_sub_cancel_left]
    exact lx_mem ds (fun j hj => h j (List.mem_cons_of_mem _ hj))
/-- a row of digits that fits is listed -/
theorem lsD_in {o norm : Nat} {ds : List Nat} (hl : ds.length = 8) (h7 : ∀ i ∈ ds, i < 7) (hs : sqS ds = 4 * norm) (ho : ofO o (odL ds) = true) : ∃ k, k < lnN o norm ∧ (lsD o norm).getD k [] = ds := by
  have m : ds ∈ lsD o norm := by
    unfold lsD
    rw [List.mem_filter]
    have := lx_mem ds h7
    rw [hl, hs] at this
    exact ⟨this, ho⟩
  obtain ⟨k, hk, e⟩ := List.getElem_of_mem m
  refine ⟨k, by rw [← lsD_len]; exact hk, ?_⟩
  rw [List.getD_eq_getElem?_getD, List.getElem?_eq_getElem hk]
  exact e
theorem pkN_inj : ∀ ds es a b, ds.length = es.length → (∀ i ∈ ds, i < 7) → (∀ i ∈ es, i < 7) → pkN a ds = pkN b es → a = b ∧ ds = es
  | [], [], a, b, _, _, _, h => ⟨h, rfl⟩
  | [], _ :: _, _, _, h, _, _, _ => by cases h
  | _ :: _, [], _, _, h, _, _, _ => by cases h
  | i :: ds, j :: es, a, b, hl, h1, h2, h => by
    have hi := h1 i (List.mem_cons_self ..)
    have hj := h2 j (List.mem_cons_self ..)
    obtain ⟨e1, e2⟩ := pkN_inj ds es _ _ (Nat.succ.inj hl) (fun x hx => h1 x (List.mem_cons_of_mem _ hx)) (fun x hx => h2 x (List.mem_cons_of_mem _ hx)) (show pkN (16 * a + (i + 1)) ds = pkN (16 * b + (j + 1)) es from h)
    exact ⟨by omega, by rw [e2, show i = j by omega]⟩
/-- the number of a row of digits in its list -/
theorem zFindL_t {o norm : Nat} {ds : List Nat} {f : Nat → Int32} (ho8 : o < 8) (hn : norm < 4) (hf : zPk f 8 = nI (pkN 0 ds)) (hl : ds.length = 8) (h7 : ∀ i ∈ ds, i < 7) (hs : sqS ds = 4 * norm) (ho : ofO o (odL ds) = true) : ∃ k, k < lnN o norm ∧ (lsD o norm).getD k [] = ds ∧ zFindL o norm f = nI k := by
  obtain ⟨k, hk, e⟩ := lsD_in hl h7 hs ho
  have h1 := ln_0 o ho8 norm hn
  have hr := ln_room o ho8 norm hn
  have hr2 := zRoom_le norm hn
  refine ⟨k, hk, e, ?_⟩
  unfold zFindL
  rw [(zLst_n ho8 hn).1, if_neg (by omega), hf, show pkN 0 ds = lsP o norm k by unfold lsP; rw [e]]
  exact zFind_t (P := lsP o norm) (fun j hj => zLst_P ho8 hn hj) (fun a b h1 h2 => lsP_lt h1 h2) (by omega) hk
theorem zFindL_f {o norm : Nat} {ds : List Nat} {f : Nat → Int32} (ho8 : o < 8) (hn : norm < 4) (hf : zPk f 8 = nI (pkN 0 ds)) (hl : ds.length = 8) (h7 : ∀ i ∈ ds, i < 7) (ho : ¬ ofO o (odL ds) = true) : zFindL o norm f = -1 := by
  have h1 := ln_0 o ho8 norm hn
  have hr := ln_room o ho8 norm hn
  have hr2 := zRoom_le norm hn
  unfold zFindL
  rw [(zLst_n ho8 hn).1, if_neg (by omega), hf]
  refine zFind_f (P := lsP o norm) (fun j hj => zLst_P ho8 hn hj) (fun a b h1 h2 => lsP_lt h1 h2) h1 (by omega) (pk_31 hl h7) (fun k hk z => ho ?_)
  obtain ⟨m1, m2⟩ := lsD_m hk
  obtain ⟨l1, l2⟩ := lx_len _ _ _ m1
  have := (pkN_inj _ _ _ _ (l1.trans hl.symm) l2 h7 z).2
  rw [← this]
  exact m2

