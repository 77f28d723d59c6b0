/-! a number of small norm is a row of digits -/
theorem nrm_each (f : Nat → Int32) : ∀ n j, j < n → (f j).toInt.natAbs * (f j).toInt.natAbs ≤ nrmN f n
  | 0, j, h => absurd h (Nat.not_lt_zero j)
  | n + 1, j, h => by
    rw [nrmN]
    by_cases e : j = n
    · subst e; omega
    · have := nrm_each f n j (by omega)
      omega
theorem nrm_3 {f : Nat → Int32} (h : nrmN f 8 ≤ 12) {j : Nat} (hj : j < 8) : -3 ≤ (f j).toInt ∧ (f j).toInt ≤ 3 := by
  have h1 := nrm_each f 8 j hj
  have h2 : (f j).toInt.natAbs ≤ 3 := by
    refine Classical.byContradiction (fun z => ?_)
    have := Nat.mul_le_mul (show 4 ≤ (f j).toInt.natAbs by omega) (show 4 ≤ (f j).toInt.natAbs by omega)
    omega
  omega
def dgX (f : Nat → Int32) (j : Nat) : Nat := ((f j).toInt + 3).toNat
def dg (f : Nat → Int32) : List Nat := [dgX f 0, dgX f 1, dgX f 2, dgX f 3, dgX f 4, dgX f 5, dgX f 6, dgX f 7]
theorem vv_toI : ∀ i, i < 7 → (vv i).toInt = (i : Int) - 3 := by decide +kernel
theorem sq_abs : ∀ i, i < 7 → sqN i = ((i : Int) - 3).natAbs * ((i : Int) - 3).natAbs := by decide +kernel
theorem vv_15 : ∀ i, i < 7 → (vv i + nI 4) &&& nI 15 = vv i + nI 4 := by decide +kernel
theorem dgX_7 {f : Nat → Int32} (h : nrmN f 8 ≤ 12) {j : Nat} (hj : j < 8) : dgX f j < 7 ∧ f j = vv (dgX f j) ∧ sqN (dgX f j) = (f j).toInt.natAbs * (f j).toInt.natAbs := by
  obtain ⟨h1, h2⟩ := nrm_3 h hj
  have e : ((dgX f j : Nat) : Int) = (f j).toInt + 3 := by unfold dgX; omega
  have h7 : dgX f j < 7 := by omega
  refine ⟨h7, Int32.toInt_inj.mp (by rw [vv_toI _ h7]; omega), ?_⟩
  rw [sq_abs _ h7, show ((dgX f j : Nat) : Int) - 3 = (f j).toInt by omega]
theorem dg_at (f : Nat → Int32) : ∀ j, j < 8 → (dg f).getD j 0 = dgX f j := by
  intro j hj
  rcases (show j = 0 ∨ j = 1 ∨ j = 2 ∨ j = 3 ∨ j = 4 ∨ j = 5 ∨ j = 6 ∨ j = 7 by omega) with rfl | rfl | rfl | rfl | rfl | rfl | rfl | rfl <;> rfl
theorem dg_all {f : Nat → Int32} (h : nrmN f 8 ≤ 12) : (dg f).length = 8 ∧ (∀ i ∈ dg f, i < 7) ∧ (∀ j, j < 8 → f j = vv ((dg f).getD j 0)) ∧ sqS (dg f) = nrmN f 8 ∧ zPk f 8 = nI (pkN 0 (dg f)) ∧ oddN f = odL (dg f) := by
  have d0 := dgX_7 h (j := 0) (by decide)
  have d1 := dgX_7 h (j := 1) (by decide)
  have d2 := dgX_7 h (j := 2) (by decide)
  have d3 := dgX_7 h (j := 3) (by decide)
  have d4 := dgX_7 h (j := 4) (by decide)
  have d5 := dgX_7 h (j := 5) (by decide)
  have d6 := dgX_7 h (j := 6) (by decide)
  have d7 := dgX_7 h (j := 7) (by decide)
  have hl : (dg f).length = 8 := rfl
  have h7 : ∀ i ∈ dg f, i < 7 := by
    intro i hi
    unfold dg at hi
    simp only [List.mem_cons, List.not_mem_nil, or_false] at hi
    omega
  have hv : ∀ j, j < 8 → f j = vv ((dg f).getD j 0) := fun j hj => by rw [dg_at f j hj]; exact (dgX_7 h hj).2.1
  refine ⟨hl, h7, hv, ?_, ?_, od8 hl h7 hv⟩
  · show sqN (dgX f 0) + (sqN (dgX f 1) + (sqN (dgX f 2) + (sqN (dgX f 3) + (sqN (dgX f 4) + (sqN (dgX f 5) + (sqN (dgX f 6) + (sqN (dgX f 7) + 0))))))) = _
    rw [d0.2.2, d1.2.2, d2.2.2, d3.2.2, d4.2.2, d5.2.2, d6.2.2, d7.2.2]
    simp only [nrmN]
    omega
  · rw [← pkl_N (dg f) 0 h7 (by rw [hl]; decide)]
    have st : ∀ p j, j < 8 → p <<< (nI 4 &&& 31) ||| ((f j + nI 4) &&& nI 15) = p <<< (nI 4 &&& 31) ||| (vv (dgX f j) + nI 4) := fun p j hj => by
      obtain ⟨a, b, -⟩ := dgX_7 h hj
      have : (f j + nI 4) &&& nI 15 = vv (dgX f j) + nI 4 := by
        conv => lhs; rw [b]
        exact vv_15 _ a
      rw [this]
    unfold dg
    simp only [pkl, zPk]
    rw [st _ 0 (by decide), st _ 1 (by decide), st _ 2 (by decide), st _ 3 (by decide), st _ 4 (by decide), st _ 5 (by decide), st _ 6 (by decide), st _ 7 (by decide)]
theorem of_w4 : ∀ o, o < 8 → ∀ v, v < 256 → ofO o v = true → bitN v % 4 = 0 := by decide +kernel
theorem sq_m4 : ∀ i, i < 7 → sqN i % 4 = if i % 2 = 0 then 1 else 0 := by decide +kernel
theorem bit8 {a b c d e f g h : Nat} (ha : a ≤ 1) (hb : b ≤ 1) (hc : c ≤ 1) (hd : d ≤ 1) (he : e ≤ 1) (hf : f ≤ 1) (hg : g ≤ 1) (hh : h ≤ 1) : bitN (a + 2 * (b + 2 * (c + 2 * (d + 2 * (e + 2 * (f + 2 * (g + 2 * (h + 2 * 0)))))))) = a + b + c + d + e + f + g + h := by
  unfold bitN
  omega
/-- a whole one has a norm without quarters -/
theorem wh_m4 {f : Nat → Int32} {o : Nat} (ho8 : o < 8) (h : nrmN f 8 ≤ 12) (ho : ofO o (oddN f) = true) : nrmN f 8 % 4 = 0 := by
  obtain ⟨a1, a2, a3, a4, a5, a6⟩ := dg_all h
  have b := of_w4 o ho8 (oddN f) (oddN_lt f) ho
  rw [a6] at b
  rw [← a4]
  have m : ∀ j, j < 8 → sqN (dgX f j) % 4 = if dgX f j % 2 = 0 then 1 else 0 := fun j hj => sq_m4 _ (dgX_7 h hj).1
  have m0 := m 0 (by decide)
  have m1 := m 1 (by decide)
  have m2 := m 2 (by decide)
  have m3 := m 3 (by decide)
  have m4 := m 4 (by decide)
  have m5 := m 5 (by decide)
  have m6 := m 6 (by decide)
  have m7 := m 7 (by decide)
  have eb : bitN (odL (dg f)) = (if dgX f 0 % 2 = 0 then 1 else 0) + (if dgX f 1 % 2 = 0 then 1 else 0) + (if dgX f 2 % 2 = 0 then 1 else 0) + (if dgX f 3 % 2 = 0 then 1 else 0) + (if dgX f 4 % 2 = 0 then 1 else 0) + (if dgX f 5 % 2 = 0 then 1 else 0) + (if dgX f 6 % 2 = 0 then 1 else 0) + (if dgX f 7 % 2 = 0 then 1 else 0) := by
    have q : ∀ j, (if dgX f j % 2 = 0 then 1 else 0) ≤ 1 := fun j => by split <;> omega
    have q0 := q 0
    have q1 := q 1
    have q2 := q 2
    have q3 := q 3
    have q4 := q 4
    have q5 := q 5
    have q6 := q 6
    have q7 := q 7
    unfold dg
    simp only [odL]
    exact bit8 q0 q1 q2 q3 q4 q5 q6 q7
  show (sqN (dgX f 0) + (sqN (dgX f 1) + (sqN (dgX f 2) + (sqN (dgX f 3) + (sqN (dgX f 4) + (sqN (dgX f 5) + (sqN (dgX f 6) + (sqN (dgX f 7) + 0)))))))) % 4 = 0
  rw [eb] at b
  omega

