/-! EightPartsModel: where the ways lie -/
def mBs (many : Nat) : Nat → Nat
  | 0 => 0
  | 1 => 50
  | len + 2 => mBs many (len + 1) + (many - len) * wM (len + 1)
def mSo (many fr len : Nat) : Nat := mBs many len + fr * wM len
theorem allR {n : Nat} {p : Nat → Bool} (h : (List.range n).all p = true) {i : Nat} (hi : i < n) : p i = true := List.all_eq_true.mp h i (List.mem_range.mpr hi)
def lvAll : Bool := (List.range 7).all fun many => (List.range 7).all fun len => (List.range 7).all fun fr => (List.range 7).all fun len2 => Nat.ble len 0 || Nat.blt many (fr + len) || Nat.ble len2 len || Nat.blt many len2 || Nat.ble (mSo many fr len + wM len) (mBs many len2)
theorem lvAll_t : lvAll = true := by decide +kernel
def lbAll : Bool := (List.range 7).all fun many => (List.range 7).all fun len => (List.range 7).all fun fr => Nat.ble len 0 || Nat.blt many (fr + len) || (Nat.ble (mSo many fr len + wM len) 154 && Nat.ble 50 (mSo many fr len))
theorem lbAll_t : lbAll = true := by decide +kernel
def lwAll : Bool := (List.range 7).all fun len => (List.range 7).all fun n => Nat.ble len (n + 1) || (List.range (wM (n + 1))).all fun a => (List.range (wM (len - (n + 1)))).all fun b => (wDec len (wOf len n + a * wM (len - (n + 1)) + b) == (n, a, b)) && Nat.blt (wOf len n + a * wM (len - (n + 1)) + b) (wM len)
theorem lwAll_t : lwAll = true := by decide +kernel
theorem lb_b {many fr len : Nat} (hm : many ≤ 6) (h1 : 1 ≤ len) (h2 : fr + len ≤ many) : mSo many fr len + wM len ≤ 154 ∧ 50 ≤ mSo many fr len := by
  have e := allR (allR (allR lbAll_t (i := many) (by omega)) (i := len) (by omega)) (i := fr) (by omega)
  simp only [Bool.or_eq_true, Bool.and_eq_true, Nat.ble_eq, Nat.blt_eq] at e
  omega
theorem lv_b {many fr len len2 fr2 : Nat} (hm : many ≤ 6) (h1 : 1 ≤ len) (h2 : fr + len ≤ many) (h3 : len < len2) (h4 : fr2 + len2 ≤ many) : mSo many fr len + wM len ≤ mSo many fr2 len2 := by
  have e := allR (allR (allR (allR lvAll_t (i := many) (by omega)) (i := len) (by omega)) (i := fr) (by omega)) (i := len2) (by omega)
  simp only [Bool.or_eq_true, Nat.ble_eq, Nat.blt_eq] at e
  have : mBs many len2 ≤ mSo many fr2 len2 := Nat.le_add_right _ _
  omega
theorem lf_b {many fr fr2 len : Nat} (h : fr < fr2) : mSo many fr len + wM len ≤ mSo many fr2 len := by
  unfold mSo
  have : (fr + 1) * wM len ≤ fr2 * wM len := Nat.mul_le_mul_right _ h
  rw [Nat.succ_mul] at this
  omega
/-- one place, one way -/
theorem m_one {many fr len fr2 len2 k : Nat} (hm : many ≤ 6) (h1 : 1 ≤ len) (h2 : fr + len ≤ many) (h3 : 1 ≤ len2) (h4 : fr2 + len2 ≤ many) (hk : k < wM len2) (p1 : mSo many fr len ≤ mSo many fr2 len2 + k) (p2 : mSo many fr2 len2 + k < mSo many fr len + wM len) : fr2 = fr ∧ len2 = len := by
  rcases Nat.lt_trichotomy len len2 with e | e | e
  · have := lv_b hm h1 h2 e h4
    omega
  · subst e
    rcases Nat.lt_trichotomy fr fr2 with q | q | q
    · have := lf_b (many := many) (len := len) q
      omega
    · exact ⟨q.symm, rfl⟩
    · have := lf_b (many := many) (len := len) q
      omega
  · have := lv_b hm h3 h4 e h2
    omega
theorem wX_j (f : Nat → Nat → Int32) {fr len n a b : Nat} (h3 : len ≤ 6) (hn : n + 1 < len) (ha : a < wM (n + 1)) (hb : b < wM (len - (n + 1))) : wX f 6 fr len (wOf len n + a * wM (len - (n + 1)) + b) = vMul (wX f 6 fr (n + 1) a) (wX f 6 (fr + (n + 1)) (len - (n + 1)) b) := by
  have e := allR (allR lwAll_t (i := len) (by omega)) (i := n) (by omega)
  simp only [Bool.or_eq_true, Nat.ble_eq] at e
  have e2 := allR (allR (e.resolve_left (by omega)) (i := a) ha) (i := b) hb
  simp only [Bool.and_eq_true, beq_iff_eq, Nat.blt_eq] at e2
  rw [wX_r f (by omega) h3 e2.2, e2.1]
theorem mAt.same {h h2 : xH} {p : Nat} {x : zO} (e1 : pl h2 p = pl h p) (e2 : iv h2 123 p = iv h 123 p) (m : mAt h p x) : mAt h2 p x := by
  unfold mAt at *
  rw [e1, e2]
  exact m
def wLI (many : Nat) (sl : Nat → Nat → Int32) (h : xH) (L F att : Nat) (h1 : xH) : Prop := mV (List.range' 50 105) [113, 121, 122, 123] h h1 ∧ (∀ fr len, 1 ≤ len → fr + len ≤ many → (len < L ∨ (len = L ∧ fr < F)) → iv h1 121 (6 * (len - 1) + fr) = nI (mSo many fr len) ∧ iv h1 122 (6 * (len - 1) + fr) = nI (wM len)) ∧ (∀ fr len k, 1 ≤ len → fr + len ≤ many → k < wM len → mSo many fr len + k < att → mAt h1 (mSo many fr len + k) (wX sl 6 fr len k))

