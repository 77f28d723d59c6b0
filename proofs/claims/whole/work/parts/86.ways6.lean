/-! all ways of a row, in pure words -/
def wOf (len : Nat) : Nat → Nat
  | 0 => 0
  | n + 1 => wOf len n + wM (n + 1) * wM (len - (n + 1))
def wDg (len : Nat) : Nat → Nat → Nat → Nat × Nat × Nat
  | 0, n, _ => (n, 0, 0)
  | f + 1, n, k => if k < wM (n + 1) * wM (len - (n + 1)) then (n, k / wM (len - (n + 1)), k % wM (len - (n + 1))) else wDg len f (n + 1) (k - wM (n + 1) * wM (len - (n + 1)))
def wDec (len k : Nat) : Nat × Nat × Nat := wDg len len 0 k
noncomputable def wX (f : Nat → Nat → Int32) : Nat → Nat → Nat → Nat → zO
  | 0, _, _, _ => none
  | q + 1, fr, len, k => if len = 1 then some (f fr) else vMul (wX f q fr ((wDec len k).1 + 1) (wDec len k).2.1) (wX f q (fr + ((wDec len k).1 + 1)) (len - ((wDec len k).1 + 1)) (wDec len k).2.2)
def wdOk (len k : Nat) : Bool := Nat.blt ((wDec len k).1 + 1) len && Nat.blt (wDec len k).2.1 (wM ((wDec len k).1 + 1)) && Nat.blt (wDec len k).2.2 (wM (len - ((wDec len k).1 + 1))) && Nat.beq k (wOf len (wDec len k).1 + (wDec len k).2.1 * wM (len - ((wDec len k).1 + 1)) + (wDec len k).2.2)
def wdAll : Bool := (List.range 7).all fun len => Nat.blt len 2 || (List.range (wM len)).all fun k => wdOk len k
theorem wdAll_t : wdAll = true := by decide +kernel
theorem wd_b {len k : Nat} (h1 : 2 ≤ len) (h2 : len ≤ 6) (hk : k < wM len) : (wDec len k).1 + 1 < len ∧ (wDec len k).2.1 < wM ((wDec len k).1 + 1) ∧ (wDec len k).2.2 < wM (len - ((wDec len k).1 + 1)) ∧ k = wOf len (wDec len k).1 + (wDec len k).2.1 * wM (len - ((wDec len k).1 + 1)) + (wDec len k).2.2 := by
  have e := wdAll_t
  unfold wdAll at e
  have e1 := List.all_eq_true.mp e len (List.mem_range.mpr (by omega))
  rw [Bool.or_eq_true] at e1
  rcases e1 with q | q
  · have q2 : len < 2 := Nat.ble_eq.mp q
    omega
  · have e2 := List.all_eq_true.mp q k (List.mem_range.mpr hk)
    unfold wdOk at e2
    rw [Bool.and_eq_true, Bool.and_eq_true, Bool.and_eq_true] at e2
    obtain ⟨⟨⟨a, b⟩, c⟩, dd⟩ := e2
    have a2 : (wDec len k).1 + 1 < len := Nat.ble_eq.mp a
    have b2 : (wDec len k).2.1 < wM ((wDec len k).1 + 1) := Nat.ble_eq.mp b
    have c2 : (wDec len k).2.2 < wM (len - ((wDec len k).1 + 1)) := Nat.ble_eq.mp c
    exact ⟨a2, b2, c2, Nat.eq_of_beq_eq_true dd⟩
theorem wX_fu (f : Nat → Nat → Int32) : ∀ q fr len k, 1 ≤ len → len ≤ q → len ≤ 6 → k < wM len → wX f (q + 1) fr len k = wX f q fr len k := by
  intro q
  induction q with
  | zero => intro fr len k h1 h2; omega
  | succ q ih =>
    intro fr len k h1 h2 h3 hk
    rw [wX]
    conv => rhs; rw [wX]
    by_cases e : len = 1
    · rw [if_pos e, if_pos e]
    · rw [if_neg e, if_neg e]
      obtain ⟨a, b, c, -⟩ := wd_b (by omega) h3 hk
      rw [ih _ _ _ (by omega) (by omega) (by omega) b, ih _ _ _ (by omega) (by omega) (by omega) c]
theorem wX_up (f : Nat → Nat → Int32) {fr len k : Nat} (h1 : 1 ≤ len) (h3 : len ≤ 6) (hk : k < wM len) : ∀ q, len ≤ q → q ≤ 6 → wX f q fr len k = wX f 6 fr len k := by
  intro q hq h6
  rcases (show q = 1 ∨ q = 2 ∨ q = 3 ∨ q = 4 ∨ q = 5 ∨ q = 6 by omega) with rfl | rfl | rfl | rfl | rfl | rfl
  · rw [wX_fu f 5 fr len k h1 (by omega) h3 hk, wX_fu f 4 fr len k h1 (by omega) h3 hk, wX_fu f 3 fr len k h1 (by omega) h3 hk, wX_fu f 2 fr len k h1 (by omega) h3 hk, wX_fu f 1 fr len k h1 (by omega) h3 hk]
  · rw [wX_fu f 5 fr len k h1 (by omega) h3 hk, wX_fu f 4 fr len k h1 (by omega) h3 hk, wX_fu f 3 fr len k h1 (by omega) h3 hk, wX_fu f 2 fr len k h1 (by omega) h3 hk]
  · rw [wX_fu f 5 fr len k h1 (by omega) h3 hk, wX_fu f 4 fr len k h1 (by omega) h3 hk, wX_fu f 3 fr len k h1 (by omega) h3 hk]
  · rw [wX_fu f 5 fr len k h1 (by omega) h3 hk, wX_fu f 4 fr len k h1 (by omega) h3 hk]
  · rw [wX_fu f 5 fr len k h1 (by omega) h3 hk]
  · rfl
/-- the rule of the table -/
theorem wX_r (f : Nat → Nat → Int32) {fr len k : Nat} (h1 : 2 ≤ len) (h3 : len ≤ 6) (hk : k < wM len) : wX f 6 fr len k = vMul (wX f 6 fr ((wDec len k).1 + 1) (wDec len k).2.1) (wX f 6 (fr + ((wDec len k).1 + 1)) (len - ((wDec len k).1 + 1)) (wDec len k).2.2) := by
  obtain ⟨a, b, c, -⟩ := wd_b h1 h3 hk
  rw [wX, if_neg (by omega), wX_up f (by omega) (by omega) b 5 (by omega) (by omega), wX_up f (by omega) (by omega) c 5 (by omega) (by omega)]
theorem wX_1 (f : Nat → Nat → Int32) (fr k : Nat) : wX f 6 fr 1 k = some (f fr) := by rw [wX, if_pos rfl]
/-- a table by stretches: what lies where -/
def wTb (W : Nat → Nat → Nat → zO) (f : Nat → Nat → Int32) (many : Nat) : Prop := (∀ fr, fr < many → W fr 1 0 = some (f fr)) ∧ ∀ fr len n a b, fr + len ≤ many → n + 1 < len → a < wM (n + 1) → b < wM (len - (n + 1)) → W fr len (wOf len n + a * wM (len - (n + 1)) + b) = vMul (W fr (n + 1) a) (W (fr + (n + 1)) (len - (n + 1)) b)
theorem wTb_eq {W : Nat → Nat → Nat → zO} {f : Nat → Nat → Int32} {many : Nat} (hm : many ≤ 6) (hW : wTb W f many) : ∀ len, 1 ≤ len → ∀ fr k, fr + len ≤ many → k < wM len → W fr len k = wX f 6 fr len k := by
  intro len
  induction len using Nat.strongRecOn with
  | _ len ih =>
    intro h1 fr k hfr hk
    by_cases e : len = 1
    · subst e
      have k0 : k = 0 := by
        have : wM 1 = 1 := rfl
        omega
      rw [k0, hW.1 fr (by omega), wX_1]
    · obtain ⟨a, b, c, dd⟩ := wd_b (by omega) (by omega) hk
      rw [wX_r f (by omega) (by omega) hk]
      conv => lhs; rw [dd]
      rw [hW.2 fr len _ _ _ hfr a b c, ih _ (by omega) (by omega) fr _ (by omega) b, ih _ (by omega) (by omega) _ _ (by omega) c]
/-! the component's table is such a one -/
theorem vR_at {V : Nat → zO} {at0 ls rs : Nat} : ∀ n, (∀ i, i < n → ¬ (at0 ≤ ls ∧ ls < at0 + i) ∧ ¬ (at0 ≤ rs + i ∧ rs + i < at0 + i)) → ∀ j, vR V at0 ls rs n j = if at0 ≤ j ∧ j < at0 + n then vMul (V ls) (V (rs + (j - at0))) else V j
  | 0, _, j => by rw [if_neg (by omega)]; rfl
  | n + 1, h, j => by
    have ih := vR_at (V := V) (at0 := at0) (ls := ls) (rs := rs) n (fun i hi => h i (by omega))
    obtain ⟨h1, h2⟩ := h n (by omega)
    rw [vR]
    unfold vUpd
    by_cases e : j = at0 + n
    · rw [if_pos e, if_pos (by omega), ih ls, ih (rs + n), if_neg h1, if_neg h2, e, show at0 + n - at0 = n by omega]
    · rw [if_neg e, ih j]
      by_cases q : at0 ≤ j ∧ j < at0 + n
      · rw [if_pos q, if_pos (by omega)]
      · rw [if_neg q, if_neg (by omega)]
theorem vL_at {V : Nat → zO} {at0 ls rs mr : Nat} (hm : 0 < mr) : ∀ n, (∀ i, i < n → ls + i < at0) → (∀ i, i < mr → rs + i < at0) → ∀ j, vL V at0 ls rs mr n j = if at0 ≤ j ∧ j < at0 + n * mr then vMul (V (ls + (j - at0) / mr)) (V (rs + (j - at0) % mr)) else V j
  | 0, _, _, j => by rw [if_neg (by omega)]; rfl
  | n + 1, h1, h2, j => by
    have ih := vL_at (V := V) hm n (fun i hi => h1 i (by omega)) h2
    have en : (n + 1) * mr = n * mr + mr := by rw [Nat.succ_mul]
    have hl := h1 n (by omega)
    rw [vL, vR_at mr (fun i hi => ⟨by omega, by have := h2 i hi; omega⟩) j]
    by_cases q : at0 + n * mr ≤ j ∧ j < at0 + n * mr + mr
    · rw [if_pos q, if_pos (by omega), ih, ih, if_neg (by omega), if_neg (by have := h2 (j - (at0 + n * mr)) (by omega); omega)]
      have e1 : j - at0 = (j - (at0 + n * mr)) + mr * n := by rw [Nat.mul_comm mr n]; omega
      have e2 : (j - at0) / mr = n := by rw [e1, Nat.add_mul_div_left _ _ hm, Nat.div_eq_of_lt (by omega)]; omega
      have e3 : (j - at0) % mr = j - (at0 + n * mr) := by rw [e1, Nat.add_mul_mod_self_left, Nat.mod_eq_of_lt (by omega)]
      rw [e2, e3]
    · rw [if_neg q, ih j]
      by_cases q2 : at0 ≤ j ∧ j < at0 + n * mr
      · rw [if_pos q2, if_pos (by omega)]
      · rw [if_neg q2, if_neg (by omega)]
theorem wM_pos : ∀ k, 1 ≤ k → k ≤ 6 → 0 < wM k := by
  intro k h1 h2
  have q : ∀ k, k < 7 → 1 ≤ k → 0 < wM k := by decide
  exact q k (by omega) h1
theorem wAt_eq (fr len : Nat) : ∀ n, wAt fr len n = wSo fr len + wOf len n
  | 0 => rfl
  | n + 1 => by rw [wAt, wAt_eq fr len n, wOf]; omega
/-- a shorter stretch lies ahead -/
def wsAll : Bool := (List.range 7).all fun len => (List.range 7).all fun fr => Nat.blt len 1 || Nat.blt 6 (fr + len) || Nat.ble (wSo fr len + wM len) (if len = 6 then 104 else wB (len + 1))
theorem wsAll_t : wsAll = true := by decide +kernel
theorem ws_b {fr len : Nat} (h1 : 1 ≤ len) (h2 : fr + len ≤ 6) : wSo fr len + wM len ≤ if len = 6 then 104 else wB (len + 1) := by
  have e := wsAll_t
  unfold wsAll at e
  have e1 := List.all_eq_true.mp (List.all_eq_true.mp e len (List.mem_range.mpr (by omega))) fr (List.mem_range.mpr (by omega))
  rw [Bool.or_eq_true, Bool.or_eq_true] at e1
  rcases e1 with (q | q) | q
  · have : len < 1 := Nat.ble_eq.mp q
    omega
  · have : 6 < fr + len := Nat.ble_eq.mp q
    omega
  · exact Nat.ble_eq.mp q
theorem wB_m : ∀ a, a < 7 → ∀ b, b < 7 → a ≤ b → wB a ≤ wB b := by decide
theorem ws_l {fr len fr2 len2 k : Nat} (h1 : 1 ≤ len) (h2 : fr + len ≤ 6) (h3 : len < len2) (h4 : len2 ≤ 6) (hk : k < wM len) : wSo fr len + k < wSo fr2 len2 := by
  have q := ws_b h1 h2
  rw [if_neg (by omega)] at q
  have q2 := wB_m (len + 1) (by omega) len2 (by omega) (by omega)
  have q3 : wSo fr2 len2 = wB len2 + fr2 * wM len2 := rfl
  omega
theorem wOf_le {len : Nat} (h : len ≤ 6) : ∀ n, n + 1 ≤ len → wOf len n ≤ wM len := by
  have q : ∀ len, len < 7 → ∀ n, n < 7 → n + 1 ≤ len → wOf len n ≤ wM len := by decide
  intro n hn
  exact q len (by omega) n (by omega) hn
theorem vS_at {V : Nat → zO} {fr len : Nat} (h2 : fr + len ≤ 6) : ∀ m, m + 1 ≤ len → (∀ n a b, n < m → a < wM (n + 1) → b < wM (len - (n + 1)) → vS V fr len m (wSo fr len + wOf len n + a * wM (len - (n + 1)) + b) = vMul (V (wSo fr (n + 1) + a)) (V (wSo (fr + (n + 1)) (len - (n + 1)) + b))) ∧ ∀ j, ¬ (wSo fr len ≤ j ∧ j < wSo fr len + wOf len m) → vS V fr len m j = V j
  | 0, _ => ⟨fun n a b hn => absurd hn (Nat.not_lt_zero n), fun j _ => rfl⟩
  | m + 1, hm => by
    obtain ⟨ih1, ih2⟩ := vS_at (V := V) h2 m (by omega)
    have hp := wM_pos (len - (m + 1)) (by omega) (by omega)
    have rd1 : ∀ i, i < wM (m + 1) → wSo fr (m + 1) + i < wSo fr len := fun i hi => ws_l (by omega) (by omega) (by omega) (by omega) hi
    have rd2 : ∀ i, i < wM (len - (m + 1)) → wSo (fr + (m + 1)) (len - (m + 1)) + i < wSo fr len := fun i hi => ws_l (by omega) (by omega) (by omega) (by omega) hi
    have L := vL_at (V := vS V fr len m) (at0 := wAt fr len m) (ls := wSo fr (m + 1)) (rs := wSo (fr + (m + 1)) (len - (m + 1))) hp (wM (m + 1)) (fun i hi => by have := rd1 i hi; rw [wAt_eq]; omega) (fun i hi => by have := rd2 i hi; rw [wAt_eq]; omega)
    rw [wAt_eq] at L
    constructor
    · intro n a b hn ha hb
      rw [vS, wAt_eq, L]
      by_cases e : n = m
      · subst e
        have hab : a * wM (len - (n + 1)) + b < wM (n + 1) * wM (len - (n + 1)) := by
          have : (a + 1) * wM (len - (n + 1)) ≤ wM (n + 1) * wM (len - (n + 1)) := Nat.mul_le_mul_right _ ha
          rw [Nat.succ_mul] at this
          omega
        rw [if_pos (by omega)]
        have e1 : wSo fr len + wOf len n + a * wM (len - (n + 1)) + b - (wSo fr len + wOf len n) = b + wM (len - (n + 1)) * a := by rw [Nat.mul_comm (wM (len - (n + 1))) a]; omega
        have e2 : (b + wM (len - (n + 1)) * a) / wM (len - (n + 1)) = a := by rw [Nat.add_mul_div_left _ _ hp, Nat.div_eq_of_lt hb]; omega
        have e3 : (b + wM (len - (n + 1)) * a) % wM (len - (n + 1)) = b := by rw [Nat.add_mul_mod_self_left, Nat.mod_eq_of_lt hb]
        rw [e1, e2, e3, ih2 _ (by have := rd1 a ha; omega), ih2 _ (by have := rd2 b hb; omega)]
      · have hlt : wOf len n + a * wM (len - (n + 1)) + b < wOf len (n + 1) := by
          have : (a + 1) * wM (len - (n + 1)) ≤ wM (n + 1) * wM (len - (n + 1)) := Nat.mul_le_mul_right _ ha
          rw [Nat.succ_mul] at this
          rw [wOf]
          omega
        have hmo : ∀ x y, x ≤ y → wOf len x ≤ wOf len y := by
          intro x y hxy
          induction y with
          | zero => rw [Nat.le_zero.mp hxy]; exact Nat.le_refl _
          | succ y ihy =>
            by_cases z : x = y + 1
            · rw [z]; exact Nat.le_refl _
            · have := ihy (by omega)
              rw [wOf]
              omega
        have := hmo (n + 1) m (by omega)
        rw [if_neg (by omega)]
        exact ih1 n a b (by omega) ha hb
    · intro j hj
      rw [vS, wAt_eq, L, if_neg (by rw [wOf] at hj; omega)]
      exact ih2 j (by rw [wOf] at hj; omega)

