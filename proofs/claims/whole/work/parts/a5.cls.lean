/-! what some units make, in pure words -/
theorem cN_0 {p : Nat → Prop} : ∀ {n : Nat}, (∀ j, j < n → ¬ p j) → cN p n = 0
  | 0, _ => rfl
  | n + 1, h => by rw [cN_f (h n (by omega)), cN_0 (fun j hj => h j (by omega))]
theorem cN_all {p : Nat → Prop} : ∀ {n : Nat}, (∀ j, j < n → p j) → cN p n = n
  | 0, _ => rfl
  | n + 1, h => by rw [cN_t (h n (by omega)), cN_all (fun j hj => h j (by omega))]
theorem cN_full {p : Nat → Prop} : ∀ {n : Nat}, cN p n = n → ∀ j, j < n → p j
  | 0, _, j, hj => absurd hj (Nat.not_lt_zero j)
  | n + 1, h, j, hj => by
    have b := cN_le p n
    by_cases q : p n
    · rw [cN_t q] at h
      by_cases e : j = n
      · rw [e]; exact q
      · exact cN_full (n := n) (by omega) j (by omega)
    · rw [cN_f q] at h
      omega
theorem cN_ins {p q : Nat → Prop} {u : Nat} (hn : ¬ p u) (hq : ∀ v, q v ↔ p v ∨ v = u) : ∀ n, cN q n = cN p n + (if u < n then 1 else 0)
  | 0 => by rw [if_neg (by omega)]; rfl
  | n + 1 => by
    have ih := cN_ins hn hq n
    by_cases e : u = n
    · subst e
      rw [cN_t ((hq u).mpr (Or.inr rfl)), cN_f hn, ih, if_neg (by omega), if_pos (by omega)]
    · have h1 : (if u < n + 1 then 1 else 0) = if u < n then 1 else 0 := by
        by_cases c : u < n
        · rw [if_pos c, if_pos (by omega)]
        · rw [if_neg c, if_neg (by omega)]
      rw [h1]
      by_cases c : p n
      · rw [cN_t c, cN_t ((hq n).mpr (Or.inl c)), ih]; omega
      · rw [cN_f c, cN_f (fun z => by rcases (hq n).mp z with y | y; exact c y; exact e y.symm), ih]
/-- members below M, each once -/
def gS (M : Nat) (s : mS) : Prop := (∀ j, j < s.1 → s.2 j < M) ∧ ∀ P : Nat → Prop, cN (fun i => P (s.2 i)) s.1 = cN (fun v => mIn s v ∧ P v) M
theorem gS_0 (M : Nat) : gS M (0, fun _ => 0) := ⟨fun j hj => absurd hj (Nat.not_lt_zero j), fun P => (cN_0 (fun j _ z => by obtain ⟨⟨i, hi, -⟩, -⟩ := z; exact absurd hi (Nat.not_lt_zero i))).symm⟩
theorem gS_add {M u : Nat} {s : mS} (hg : gS M s) (hu : u < M) : gS M (mAdd s u) := by
  by_cases c : s.1 = 240 ∨ mIn s u
  · rw [mAdd_n c]
    exact hg
  · refine ⟨mAdd_lt hu hg.1, fun P => ?_⟩
    have e1 : (mAdd s u).1 = s.1 + 1 := by rw [mAdd_y c]
    have e2 : (mAdd s u).2 s.1 = u := by rw [mAdd_y c]; exact if_pos rfl
    have e3 : cN (fun i => P ((mAdd s u).2 i)) s.1 = cN (fun i => P (s.2 i)) s.1 := cN_cong (fun j hj => by rw [mAdd_at hj])
    have nu : ¬ mIn s u := fun z => c (Or.inr z)
    rw [e1]
    by_cases q : P u
    · rw [cN_t (p := fun i => P ((mAdd s u).2 i)) (n := s.1) (by show P ((mAdd s u).2 s.1); rw [e2]; exact q), e3, hg.2 P]
      have := cN_ins (p := fun v => mIn s v ∧ P v) (q := fun v => mIn (mAdd s u) v ∧ P v) (u := u) (fun z => nu z.1) (fun v => by
        rw [mAdd_in c]
        constructor
        · rintro ⟨y | y, z⟩
          · exact Or.inl ⟨y, z⟩
          · exact Or.inr y
        · rintro (⟨y, z⟩ | y)
          · exact ⟨Or.inl y, z⟩
          · exact ⟨Or.inr y, by rw [y]; exact q⟩) M
      rw [if_pos hu] at this
      rw [this]
    · rw [cN_f (p := fun i => P ((mAdd s u).2 i)) (n := s.1) (by show ¬ P ((mAdd s u).2 s.1); rw [e2]; exact q), e3, hg.2 P]
      refine cN_cong (fun v _ => ?_)
      rw [mAdd_in c]
      constructor
      · rintro ⟨y, z⟩
        exact ⟨Or.inl y, z⟩
      · rintro ⟨y | y, z⟩
        · exact ⟨y, z⟩
        · rw [y] at z; exact absurd z q
theorem gS_n {M : Nat} {s : mS} (hg : gS M s) : cN (mIn s) M = s.1 := by
  have := hg.2 (fun _ => True)
  rw [cN_all (fun _ _ => trivial)] at this
  rw [this]
  exact cN_cong (fun v _ => ⟨fun z => ⟨z, trivial⟩, fun z => z.1⟩)
theorem gS_le {M : Nat} {s : mS} (hg : gS M s) : s.1 ≤ M := by rw [← gS_n hg]; exact cN_le _ _
theorem gS_fu {M u : Nat} {s : mS} (hg : gS M s) (h : s.1 = M) (hu : u < M) : mIn s u := cN_full (by rw [gS_n hg]; exact h) u hu
theorem gS_in {M u : Nat} {s : mS} (hg : gS M s) (h : mIn s u) : u < M := by
  obtain ⟨j, hj, e⟩ := h
  rw [← e]
  exact hg.1 j hj
theorem gS_clI {M i : Nat} {s : mS} {T : Nat → Nat → Nat} (hT : ∀ a b, a < M → b < M → T a b < M) (hg : gS M s) (hi : i < s.1) : ∀ k, k ≤ i + 1 → gS M (clI T i k s)
  | 0, _ => hg
  | k + 1, hk => by
    have ih := gS_clI hT hg hi k (by omega)
    rw [clI]
    exact gS_add (gS_add ih (hT _ _ (hg.1 i hi) (hg.1 k (by omega)))) (hT _ _ (hg.1 k (by omega)) (hg.1 i hi))
theorem clI_fu {M i : Nat} {s : mS} {T : Nat → Nat → Nat} (hT : ∀ a b, a < M → b < M → T a b < M) (hg : gS M s) (hi : i < s.1) (hM : s.1 = M) : ∀ k, k ≤ i + 1 → clI T i k s = s
  | 0, _ => rfl
  | k + 1, hk => by
    have h1 := hT _ _ (hg.1 i hi) (hg.1 k (by omega))
    have h2 := hT _ _ (hg.1 k (by omega)) (hg.1 i hi)
    rw [clI, clI_fu hT hg hi hM k (by omega), mAdd_n (s := s) (Or.inr (gS_fu hg hM h1)), mAdd_n (s := s) (Or.inr (gS_fu hg hM h2))]
theorem clO_fu {M : Nat} {s : mS} {T : Nat → Nat → Nat} (hM : s.1 = M) : ∀ f i, clO T M f i s = s
  | 0, _ => rfl
  | f + 1, i => by rw [clO, if_neg (by omega)]
theorem clO_st {M i : Nat} {s : mS} {T : Nat → Nat → Nat} (hT : ∀ a b, a < M → b < M → T a b < M) (hg : gS M s) (hi : i < s.1) (f : Nat) : clO T M f (i + 1) (clI T i (i + 1) s) = clO T M (f + 1) i s := by
  by_cases c : s.1 < M
  · rw [clO, if_pos ⟨hi, c⟩]
  · have hM : s.1 = M := by have := gS_le hg; omega
    rw [clI_fu hT hg hi hM (i + 1) (Nat.le_refl _), clO_fu hM, clO_fu hM]
theorem clO_en {M i : Nat} {s : mS} {T : Nat → Nat → Nat} (hi : ¬ i < s.1) : ∀ f, clO T M f i s = s
  | 0 => rfl
  | f + 1 => by rw [clO, if_neg (fun z => hi z.1)]
theorem gS_clO {M : Nat} {T : Nat → Nat → Nat} (hT : ∀ a b, a < M → b < M → T a b < M) : ∀ f i (s : mS), gS M s → gS M (clO T M f i s)
  | 0, _, _, hg => hg
  | f + 1, i, s, hg => by
    rw [clO]
    by_cases c : i < s.1 ∧ s.1 < M
    · rw [if_pos c]
      exact gS_clO hT f (i + 1) _ (gS_clI hT hg c.1 (i + 1) (Nat.le_refl _))
    · rw [if_neg c]
      exact hg
theorem gS_ga {M : Nat} {bit : Nat → Prop} {fu : Nat → Nat} : ∀ n, (∀ j, j < n → bit j → fu j < M) → gS M (gaS bit fu n)
  | 0, _ => gS_0 M
  | n + 1, h => by
    have ih := gS_ga (M := M) (bit := bit) (fu := fu) n (fun j hj => h j (by omega))
    rw [gaS]
    by_cases c : bit n
    · rw [if_pos c]
      exact gS_add ih (h n (by omega) c)
    · rw [if_neg c]
      exact ih
/-- counted as they rise, or as they came -/
theorem cN_rise {p P : Nat → Prop} {srt : Nat → Nat} : ∀ n, (∀ v, v < n → p v → srt (cN p v) = v) → cN (fun j => P (srt j)) (cN p n) = cN (fun v => p v ∧ P v) n
  | 0, _ => rfl
  | n + 1, h => by
    have ih := cN_rise (P := P) n (fun v hv => h v (by omega))
    by_cases c : p n
    · have e := h n (by omega) c
      rw [cN_t c]
      by_cases q : P n
      · rw [cN_t (p := fun j => P (srt j)) (n := cN p n) (by show P (srt (cN p n)); rw [e]; exact q), cN_t (p := fun v => p v ∧ P v) ⟨c, q⟩, ih]
      · rw [cN_f (p := fun j => P (srt j)) (n := cN p n) (by show ¬ P (srt (cN p n)); rw [e]; exact q), cN_f (p := fun v => p v ∧ P v) (fun z => q z.2), ih]
    · rw [cN_f c, cN_f (p := fun v => p v ∧ P v) (fun z => c z.1), ih]
theorem cN_at {p : Nat → Prop} : ∀ n j, j < cN p n → ∃ v, v < n ∧ p v ∧ cN p v = j
  | 0, j, h => absurd h (Nat.not_lt_zero j)
  | n + 1, j, h => by
    by_cases c : p n
    · rw [cN_t c] at h
      by_cases e : j = cN p n
      · exact ⟨n, by omega, c, e.symm⟩
      · obtain ⟨v, v1, v2, v3⟩ := cN_at (p := p) n j (by omega)
        exact ⟨v, by omega, v2, v3⟩
    · rw [cN_f c] at h
      obtain ⟨v, v1, v2, v3⟩ := cN_at n j h
      exact ⟨v, by omega, v2, v3⟩
theorem cN_mo {p : Nat → Prop} {m : Nat} : ∀ n, m ≤ n → cN p m ≤ cN p n
  | 0, h => by rw [show m = 0 by omega]; exact Nat.le_refl _
  | n + 1, h => by
    by_cases e : m = n + 1
    · rw [e]; exact Nat.le_refl _
    · have := cN_mo (p := p) n (by omega : m ≤ n)
      by_cases c : p n
      · rw [cN_t c]; omega
      · rw [cN_f c]; exact this
theorem bit_m : ∀ m, m < 256 → ∀ j, j < 8 → ((¬ (nI m >>> (nI j &&& 31)) &&& nI 1 = 0) ↔ m / 2 ^ j % 2 = 1) := by decide +kernel
/-- a slot that is asked for holds a unit -/
theorem md_1 {o : Nat} {f : Nat → Int32} (ho : o < 8) (hb : zBd f) : (zInn f f 8 = 4 ∧ ¬ zFindL o 1 f = -1) ↔ (ofO o (oddN f) = true ∧ zInn f f 8 = 4) := by
  have n240 := ln_room o ho 1 (by decide)
  have r1 : zRoom 1 = 240 := rfl
  obtain ⟨n1, n2⟩ := nrm8 hb
  have e4 : zInn f f 8 = 4 → nrmN f 8 = 4 := by
    intro z
    rw [n1] at z
    have a : nrmN f 8 ≤ 4 := (pk_lLE (b := 4) (by omega) (by omega)).mp (by rw [z]; exact Int64.le_refl _)
    have b : 4 ≤ nrmN f 8 := (pk_lLE (a := 4) (by omega) (by omega)).mp (by rw [z]; exact Int64.le_refl _)
    omega
  constructor
  · rintro ⟨a, b⟩
    refine ⟨Classical.byContradiction (fun z => b ?_), a⟩
    obtain ⟨a1, a2, a3, a4, a5, a6⟩ := dg_all (f := f) (by rw [e4 a]; decide)
    exact zFindL_f ho (by decide) a5 a1 a2 (by rw [← a6]; exact z)
  · rintro ⟨a, b⟩
    obtain ⟨t, t1, t2, -⟩ := un_ix ho a (e4 b)
    exact ⟨b, by rw [t2]; exact nI_n1 (by omega)⟩

