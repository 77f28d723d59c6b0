/-! how long the lists are -/
def cqN : Nat → Nat → Nat → Nat
  | 0, _, rest => if rest = 0 then 1 else 0
  | k + 1, v, rest => if v % 2 = 1 then (if 9 ≤ rest then 2 * cqN k (v / 2) (rest - 9) else 0) + (if 1 ≤ rest then 2 * cqN k (v / 2) (rest - 1) else 0) else (if 4 ≤ rest then 2 * cqN k (v / 2) (rest - 4) else 0) + cqN k (v / 2) rest
theorem cqN_eq : ∀ k v rest, v < 2 ^ k → ((lx k rest).countP (fun ds => odL ds == v)) = cqN k v rest := by
  intro k
  induction k with
  | zero =>
    intro v rest hv
    obtain rfl : v = 0 := by omega
    rw [lx, cqN]
    split <;> rfl
  | succ k ih =>
    intro v rest hv
    have hv2 : v / 2 < 2 ^ k := by rw [Nat.pow_succ] at hv; omega
    have one : ∀ i, ((if sqN i ≤ rest then (lx k (rest - sqN i)).map (fun ds => i :: ds) else []).countP (fun ds => odL ds == v)) = if sqN i ≤ rest ∧ (i % 2 = 0 ↔ v % 2 = 1) then cqN k (v / 2) (rest - sqN i) else 0 := by
      intro i
      by_cases c : sqN i ≤ rest
      · rw [if_pos c, List.countP_map]
        by_cases q : i % 2 = 0 ↔ v % 2 = 1
        · rw [if_pos ⟨c, q⟩, ← ih _ _ hv2]
          refine List.countP_congr (fun ds _ => ?_)
          show (odL (i :: ds) == v) = true ↔ (odL ds == v / 2) = true
          rw [beq_iff_eq, beq_iff_eq, odL]
          by_cases e : i % 2 = 0
          · rw [if_pos e]; have := q.mp e; omega
          · rw [if_neg e]; have : ¬ v % 2 = 1 := fun z => e (q.mpr z); omega
        · rw [if_neg (fun z => q z.2), List.countP_eq_zero]
          intro ds _
          show ¬ (odL (i :: ds) == v) = true
          rw [beq_iff_eq, odL]
          by_cases e : i % 2 = 0
          · rw [if_pos e]; have : ¬ v % 2 = 1 := fun z => q ⟨fun _ => z, fun _ => e⟩; omega
          · rw [if_neg e]; have : v % 2 = 1 := Classical.byContradiction (fun z => q ⟨fun w => absurd w e, fun w => absurd w z⟩); omega
      · rw [if_neg c, if_neg (fun z => c z.1)]
        rfl
    rw [lx, List.countP_flatMap]
    show (List.map (fun i => _) [0, 1, 2, 3, 4, 5, 6]).sum = _
    simp only [List.map_cons, List.map_nil, List.sum_cons, List.sum_nil, Function.comp, one, cqN]
    have s0 : sqN 0 = 9 := rfl
    have s1 : sqN 1 = 4 := rfl
    have s2 : sqN 2 = 1 := rfl
    have s3 : sqN 3 = 0 := rfl
    have s4 : sqN 4 = 1 := rfl
    have s5 : sqN 5 = 4 := rfl
    have s6 : sqN 6 = 9 := rfl
    rw [s0, s1, s2, s3, s4, s5, s6]
    by_cases p : v % 2 = 1
    · simp only [p, if_true, iff_true, Nat.zero_mod, Nat.reduceMod, Nat.reduceEqDiff, and_true, and_false, if_false]
      by_cases a : 9 ≤ rest <;> by_cases b : 1 ≤ rest <;> simp only [a, b, if_true, if_false] <;> omega
    · simp only [p, if_false, iff_false, Nat.zero_mod, Nat.reduceMod, Nat.reduceEqDiff, and_true, and_false, not_true_eq_false, not_false_eq_true, if_true]
      by_cases a : 4 ≤ rest <;> simp only [a, if_true, if_false, Nat.zero_le, Nat.sub_zero] <;> omega
def sumR (f : Nat → Nat) : Nat → Nat
  | 0 => 0
  | n + 1 => sumR f n + f n
theorem sumR_add (f g : Nat → Nat) : ∀ n, sumR (fun i => f i + g i) n = sumR f n + sumR g n
  | 0 => rfl
  | n + 1 => by rw [sumR, sumR, sumR, sumR_add f g n]; omega
theorem sumR_one (p : Nat → Bool) (m : Nat) : ∀ n, sumR (fun v => if p v = true then (if (m == v) = true then 1 else 0) else 0) n = if m < n ∧ p m = true then 1 else 0
  | 0 => by rw [if_neg (by omega)]; rfl
  | n + 1 => by
    rw [sumR, sumR_one p m n]
    by_cases e : m = n
    · subst e
      rw [if_neg (by omega)]
      by_cases q : p m = true
      · rw [if_pos q, if_pos (show (m == m) = true from beq_self_eq_true m), if_pos (show m < m + 1 ∧ p m = true from ⟨by omega, q⟩)]
      · rw [if_neg q, if_neg (fun z => q z.2)]
    · have : (if p n = true then (if (m == n) = true then 1 else 0) else 0) = 0 := by
        by_cases q : p n = true
        · rw [if_pos q, if_neg (by simpa using e)]
        · rw [if_neg q]
      rw [this]
      by_cases q : m < n ∧ p m = true
      · rw [if_pos q, if_pos ⟨by omega, q.2⟩]
      · rw [if_neg q, if_neg (fun z => q ⟨by omega, z.2⟩)]
theorem cnt_sum (p : Nat → Bool) : ∀ (l : List (List Nat)), (∀ ds ∈ l, odL ds < 256) → l.countP (fun ds => p (odL ds)) = sumR (fun v => if p v = true then l.countP (fun ds => odL ds == v) else 0) 256
  | [], _ => by
    have : ∀ n, sumR (fun v => if p v = true then ([] : List (List Nat)).countP (fun ds => odL ds == v) else 0) n = 0 := by
      intro n
      induction n with
      | zero => rfl
      | succ n ih => rw [sumR, ih]; simp
    rw [this]
    rfl
  | ds :: l, h => by
    rw [List.countP_cons, cnt_sum p l (fun d hd => h d (List.mem_cons_of_mem _ hd))]
    have e : (fun v => if p v = true then (ds :: l).countP (fun ds => odL ds == v) else 0) = fun v => (if p v = true then l.countP (fun ds => odL ds == v) else 0) + (if p v = true then (if (odL ds == v) = true then 1 else 0) else 0) := by
      funext v
      rw [List.countP_cons]
      by_cases q : p v = true
      · rw [if_pos q, if_pos q, if_pos q]
      · rw [if_neg q, if_neg q, if_neg q]
    rw [e, sumR_add, sumR_one]
    have := h ds (List.mem_cons_self ..)
    by_cases q : p (odL ds) = true
    · rw [if_pos q, if_pos ⟨this, q⟩]
    · rw [if_neg q, if_neg (fun z => q z.2)]
theorem sumR_c {f g : Nat → Nat} : ∀ {n : Nat}, (∀ i, i < n → f i = g i) → sumR f n = sumR g n
  | 0, _ => rfl
  | n + 1, h => by rw [sumR, sumR, sumR_c (fun i hi => h i (by omega)), h n (by omega)]
def lnN (o norm : Nat) : Nat := sumR (fun v => if ofO o v = true then cqN 8 v (4 * norm) else 0) 256
theorem lsD_len {o norm : Nat} : (lsD o norm).length = lnN o norm := by
  unfold lsD lnN
  rw [← List.countP_eq_length_filter, cnt_sum (ofO o) _ (fun ds hds => by have := odL_lt ds; rw [(lx_len _ _ _ hds).1] at this; exact this)]
  refine sumR_c (fun v hv => ?_)
  rw [cqN_eq 8 v _ hv]
theorem ln_room : ∀ o, o < 8 → ∀ norm, norm < 4 → lnN o norm ≤ zRoom norm := by decide +kernel
theorem ln_16 : ∀ o, o < 8 → 16 ≤ lnN o 1 := by decide +kernel
theorem ln_0 : ∀ o, o < 8 → ∀ norm, norm < 4 → 1 ≤ lnN o norm := by decide +kernel
theorem zLst_n {o norm : Nat} (ho : o < 8) (hn : norm < 4) : (zLst o norm).1 = lnN o norm ∧ ∀ k, k < lnN o norm → (zLst o norm).2 k = pkl (nI 0) ((lsD o norm).getD k []) := by
  have hl := lsD_len (o := o) (norm := norm)
  have hr := ln_room o ho norm hn
  obtain ⟨h1, -, h3⟩ := app_full (N := zRoom norm) ((lsD o norm).map (pkl (nI 0))) (0, fun _ => 0) (by rw [List.length_map, hl]; show 0 + _ ≤ _; omega)
  rw [List.length_map, hl] at h1 h3
  rw [zLst_app ho]
  refine ⟨h1.trans (Nat.zero_add _), fun k hk => ?_⟩
  have := h3 k hk
  rw [show ((0, fun _ => 0) : gst).1 + k = k from Nat.zero_add k] at this
  rw [this, List.getD_eq_getElem?_getD, List.getElem?_map, List.getD_eq_getElem?_getD, List.getElem?_eq_getElem (by rw [hl]; exact hk)]
  rfl

