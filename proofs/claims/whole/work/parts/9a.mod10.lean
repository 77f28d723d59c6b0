/-! EightPartsModel: the nearest whole number -/
def lxL (t b : Nat → Int64) : Prop := ∃ i, i < 8 ∧ (∀ j, j < i → t j = b j) ∧ t i < b i
theorem lxL_tr {a b c : Nat → Int64} (h1 : lxL a b) (h2 : lxL b c) : lxL a c := by
  obtain ⟨i, i1, i2, i3⟩ := h1
  obtain ⟨k, k1, k2, k3⟩ := h2
  rw [Int64.lt_iff_toInt_lt] at i3 k3
  rcases Nat.lt_trichotomy i k with e | e | e
  · exact ⟨i, i1, fun j hj => (i2 j hj).trans (k2 j (by omega)), by rw [Int64.lt_iff_toInt_lt, ← k2 i e]; exact i3⟩
  · subst e
    exact ⟨i, i1, fun j hj => (i2 j hj).trans (k2 j hj), by rw [Int64.lt_iff_toInt_lt]; omega⟩
  · exact ⟨k, k1, fun j hj => (i2 j (by omega)).trans (k2 j hj), by rw [Int64.lt_iff_toInt_lt, i2 k e]; exact k3⟩
theorem lxL_eq {a b : Nat → Int64} (h1 : ¬ lxL a b) (h2 : ¬ lxL b a) : ∀ n, n ≤ 8 → ∀ j, j < n → a j = b j
  | 0, _, j, hj => absurd hj (Nat.not_lt_zero j)
  | n + 1, hn, j, hj => by
    have ih := lxL_eq h1 h2 n (by omega)
    by_cases e : j < n
    · exact ih j e
    · obtain rfl : j = n := by omega
      have u1 : ¬ a j < b j := fun z => h1 ⟨j, by omega, ih, z⟩
      have u2 : ¬ b j < a j := fun z => h2 ⟨j, by omega, fun q hq => (ih q hq).symm, z⟩
      rw [Int64.lt_iff_toInt_lt] at u1 u2
      exact Int64.toInt_inj.mp (by omega)
/-- what a word of odd parts gives -/
noncomputable def nrW (w : Nat → Int64) (n : Int64) (v : Nat) : Nat → Int64 := fun j => zNr (v / 2 ^ j % 2) (w j) n
noncomputable def msW (w : Nat → Int64) (n : Int64) (v : Nat) : Nat → Int64 := zMo (fun p j => zMs p (w j) n) v
def nrB (w : Nat → Int64) (n : Int64) : Prop := (∀ j, j < 8 → nB1 (w j).toInt) ∧ 1 ≤ n.toInt ∧ n.toInt ≤ 800000000
theorem nr_b {w : Nat → Int64} {n : Int64} (hb : nrB w n) (v : Nat) {j : Nat} (hj : j < 8) : -10000000000 ≤ (nrW w n v j).toInt ∧ (nrW w n v j).toInt ≤ 10000000000 ∧ (w j - n * nrW w n v j).toInt = (w j).toInt - n.toInt * nrI (v / 2 ^ j % 2) (w j).toInt n.toInt ∧ -n.toInt ≤ (w j - n * nrW w n v j).toInt ∧ (w j - n * nrW w n v j).toInt ≤ n.toInt := by
  obtain ⟨b1, b2, b3⟩ := hb
  obtain ⟨x1, x2⟩ := b1 j hj
  have hp : v / 2 ^ j % 2 < 2 := Nat.mod_lt _ (by decide)
  have ez := zNr_t hp ⟨x1, x2⟩ ⟨b2, by omega⟩
  have eo := nr_off (x := (w j).toInt) hp b2
  unfold nrW
  have hnp : n.toInt * ((v / 2 ^ j % 2 : Nat) : Int) = 0 ∨ n.toInt * ((v / 2 ^ j % 2 : Nat) : Int) = n.toInt := by
    rcases (show v / 2 ^ j % 2 = 0 ∨ v / 2 ^ j % 2 = 1 by omega) with e | e
    · left; rw [e]; simp
    · right; rw [e]; simp
  have q := dvb (a := (w j).toInt - n.toInt * (v / 2 ^ j % 2 : Nat) + n.toInt - 1) (b := 2 * n.toInt) (by omega)
  have er : nrI (v / 2 ^ j % 2) (w j).toInt n.toInt = 2 * (((w j).toInt - n.toInt * (v / 2 ^ j % 2 : Nat) + n.toInt - 1) / (2 * n.toInt)) + (v / 2 ^ j % 2 : Nat) := rfl
  have m1 : (n * zNr (v / 2 ^ j % 2) (w j) n).toInt = n.toInt * nrI (v / 2 ^ j % 2) (w j).toInt n.toInt := by
    rw [fb_mulL (by rw [ez]; omega) (by rw [ez]; omega), ez]
  have m2 : (w j - n * zNr (v / 2 ^ j % 2) (w j) n).toInt = (w j).toInt - n.toInt * nrI (v / 2 ^ j % 2) (w j).toInt n.toInt := by
    rw [fb_subL (by rw [m1]; omega) (by rw [m1]; omega), m1]
  refine ⟨?_, ?_, m2, by rw [m2]; exact eo.1, by rw [m2]; exact eo.2⟩
  · rw [ez, er]; omega
  · rw [ez, er]; omega
theorem sq_b {a n : Int} (h1 : -n ≤ a) (h2 : a ≤ n) (hn : n ≤ 800000000) : 0 ≤ a * a ∧ a * a ≤ 640000000000000000 := by
  refine ⟨by have e : ((a.natAbs * a.natAbs : Nat) : Int) = a * a := Int.natAbs_mul_self; omega, ?_⟩
  have := Nat.mul_le_mul (show a.natAbs ≤ 800000000 by omega) (show a.natAbs ≤ 800000000 by omega)
  have e : ((a.natAbs * a.natAbs : Nat) : Int) = a * a := Int.natAbs_mul_self
  omega
theorem ms_b {w : Nat → Int64} {n : Int64} (hb : nrB w n) (v : Nat) : ∀ i, i ≤ 8 → 0 ≤ (msW w n v i).toInt ∧ (msW w n v i).toInt ≤ i * 640000000000000000
  | 0, _ => by
    have : (msW w n v 0).toInt = 0 := rfl
    omega
  | i + 1, hi => by
    obtain ⟨h1, h2⟩ := ms_b hb v i (by omega)
    obtain ⟨-, -, -, q4, q5⟩ := nr_b hb v (j := i) (by omega)
    obtain ⟨s1, s2⟩ := sq_b q4 q5 hb.2.2
    have e1 : (zMs (v / 2 ^ i % 2) (w i) n).toInt = (w i - n * nrW w n v i).toInt * (w i - n * nrW w n v i).toInt := by
      show ((w i - n * nrW w n v i) * (w i - n * nrW w n v i)).toInt = _
      rw [fb_mulL (by omega) (by omega)]
    have e2 : (msW w n v (i + 1)).toInt = (msW w n v i).toInt + (w i - n * nrW w n v i).toInt * (w i - n * nrW w n v i).toInt := by
      show (msW w n v i + zMs (v / 2 ^ i % 2) (w i) n).toInt = _
      rw [fb_addL (by rw [e1]; omega) (by rw [e1]; omega), e1]
    rw [e2]
    omega
/-- better: less is missed, or it's listed ahead -/
def btW (w : Nat → Int64) (n : Int64) (v u : Nat) : Prop := msW w n v 8 < msW w n u 8 ∨ (msW w n v 8 = msW w n u 8 ∧ lxL (nrW w n v) (nrW w n u))
theorem btW_eq {w : Nat → Int64} {n : Int64} (hb : nrB w n) (v u : Nat) : zBt (fun p j => zMs p (w j) n) (fun p j => zNr p (w j) n) v u ↔ btW w n v u := by
  have k : zAh (fun p j => zNr p (w j) n) v u ↔ lxL (nrW w n v) (nrW w n u) := by
    have d : ∀ j, j < 8 → (zDf (fun p j => zNr p (w j) n) v u j).toInt = (nrW w n v j).toInt - (nrW w n u j).toInt := by
      intro j hj
      obtain ⟨a1, a2, -⟩ := nr_b hb v hj
      obtain ⟨b1, b2, -⟩ := nr_b hb u hj
      show (nrW w n v j - nrW w n u j).toInt = _
      rw [fb_subL (by omega) (by omega)]
    have d0 : ∀ j, j < 8 → (zDf (fun p j => zNr p (w j) n) v u j = 0 ↔ nrW w n v j = nrW w n u j) := by
      intro j hj
      rw [← Int64.toInt_inj, ← Int64.toInt_inj, d j hj]
      show _ = (0 : Int) ↔ _
      omega
    constructor
    · rintro ⟨i, i1, i2, i3, i4⟩
      refine ⟨i, i1, fun j hj => (d0 j (by omega)).mp (i2 j hj), ?_⟩
      rw [Int64.lt_iff_toInt_lt, d i i1] at i4
      have e0 : (0 : Int64).toInt = 0 := rfl
      rw [Int64.lt_iff_toInt_lt]
      omega
    · rintro ⟨i, i1, i2, i3⟩
      rw [Int64.lt_iff_toInt_lt] at i3
      refine ⟨i, i1, fun j hj => (d0 j (by omega)).mpr (i2 j hj), fun z => ?_, ?_⟩
      · have := congrArg Int64.toInt ((d0 i i1).mp z)
        omega
      · rw [Int64.lt_iff_toInt_lt, d i i1]
        show _ < (0 : Int)
        omega
  unfold zBt btW
  rw [k]
  rfl
theorem btW_tr {w : Nat → Int64} {n : Int64} {a b c : Nat} (h1 : btW w n a b) (h2 : btW w n b c) : btW w n a c := by
  unfold btW at *
  simp only [Int64.lt_iff_toInt_lt, ← Int64.toInt_inj] at *
  rcases h1 with h1 | ⟨h1, g1⟩ <;> rcases h2 with h2 | ⟨h2, g2⟩
  · left; omega
  · left; omega
  · left; omega
  · right; exact ⟨by omega, lxL_tr g1 g2⟩
theorem btW_un {w : Nat → Int64} {n : Int64} {a b : Nat} (h1 : ¬ btW w n a b) (h2 : ¬ btW w n b a) : ∀ j, j < 8 → nrW w n a j = nrW w n b j := by
  have e : msW w n a 8 = msW w n b 8 := by
    have u1 : ¬ msW w n a 8 < msW w n b 8 := fun z => h1 (Or.inl z)
    have u2 : ¬ msW w n b 8 < msW w n a 8 := fun z => h2 (Or.inl z)
    rw [Int64.lt_iff_toInt_lt] at u1 u2
    exact Int64.toInt_inj.mp (by omega)
  exact lxL_eq (fun z => h1 (Or.inr ⟨e, z⟩)) (fun z => h2 (Or.inr ⟨e.symm, z⟩)) 8 (by omega)
theorem ofW : ∀ o, o < 8 → ∀ v, v < 256 → (ofO o v = true ↔ ∃ k, k < mwN o ∧ wdN o k = v) := by decide +kernel
theorem btW_ir {w : Nat → Int64} {n : Int64} (a : Nat) : ¬ btW w n a a := by
  rintro (h | ⟨-, i, -, -, h⟩)
  · rw [Int64.lt_iff_toInt_lt] at h; omega
  · rw [Int64.lt_iff_toInt_lt] at h; omega
theorem zBw_mn {w : Nat → Int64} {n : Int64} (hb : nrB w n) (o : Nat) : ∀ K, (∃ k, k ≤ K ∧ zBw o (fun p j => zMs p (w j) n) (fun p j => zNr p (w j) n) K = wdN o k) ∧ ∀ k, k ≤ K → ¬ btW w n (wdN o k) (zBw o (fun p j => zMs p (w j) n) (fun p j => zNr p (w j) n) K)
  | 0 => ⟨⟨0, by omega, rfl⟩, fun k hk => by obtain rfl : k = 0 := by omega
                                             exact btW_ir _⟩
  | K + 1 => by
    obtain ⟨⟨k0, h0, e0⟩, h1⟩ := zBw_mn hb o K
    rw [zBw]
    generalize hu : zBw o (fun p j => zMs p (w j) n) (fun p j => zNr p (w j) n) K = u at *
    split
    · next c =>
      rw [btW_eq hb] at c
      refine ⟨⟨K + 1, by omega, rfl⟩, fun k hk => ?_⟩
      by_cases e : k = K + 1
      · rw [e]; exact btW_ir _
      · exact fun z => h1 k (by omega) (btW_tr z c)
    · next c =>
      rw [btW_eq hb] at c
      refine ⟨⟨k0, by omega, e0⟩, fun k hk => ?_⟩
      by_cases e : k = K + 1
      · rw [e]; exact c
      · exact h1 k (by omega)
theorem nst_un {w : Nat → Int64} {n : Int64} (hb : nrB w n) {o u : Nat} (ho : o < 8) (hu : u < 256) (h1 : ofO o u = true) (h2 : ∀ v, v < 256 → ofO o v = true → ¬ btW w n v u) : ∀ j, j < 8 → nrW w n u j = zNst o w n j := by
  have mw : 1 ≤ mwN o ∧ mwN o ≤ 16 := by unfold mwN; split <;> omega
  obtain ⟨⟨k, k1, k2⟩, k3⟩ := zBw_mn hb o (mwN o - 1)
  obtain ⟨m, m1, m2⟩ := (ofW o ho u hu).mp h1
  have e : ¬ btW w n u (zNb o w n) := by
    rw [← m2]
    exact k3 m (by omega)
  have e2 : ¬ btW w n (zNb o w n) u := by
    have q : zNb o w n = wdN o k := k2
    rw [q]
    have wl := wdN_lt ho (show k < 16 by omega)
    exact h2 _ wl ((ofW o ho _ wl).mpr ⟨k, by omega, rfl⟩)
  exact btW_un e e2

