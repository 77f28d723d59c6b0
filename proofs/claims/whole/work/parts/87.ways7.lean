/-! the component's table of ways; bracket, bracketed -/
theorem wOf_full : ∀ len, len < 7 → 2 ≤ len → wOf len (len - 1) = wM len := by decide
theorem wSo_s (fr len : Nat) : wSo (fr + 1) len = wSo fr len + wM len := by unfold wSo; rw [Nat.succ_mul]; omega
theorem wSo_m {fr fr2 len : Nat} (h : fr ≤ fr2) : wSo fr len ≤ wSo fr2 len := by
  unfold wSo
  have := Nat.mul_le_mul_right (wM len) h
  omega
theorem vG_at {V : Nat → zO} {len : Nat} (h1 : 2 ≤ len) : ∀ m, m + len ≤ 7 → (∀ fr, fr < m → ∀ n a b, n + 1 < len → a < wM (n + 1) → b < wM (len - (n + 1)) → vG V len m (wSo fr len + (wOf len n + a * wM (len - (n + 1)) + b)) = vMul (V (wSo fr (n + 1) + a)) (V (wSo (fr + (n + 1)) (len - (n + 1)) + b))) ∧ ∀ j, ¬ (wSo 0 len ≤ j ∧ j < wSo m len) → vG V len m j = V j
  | 0, _ => ⟨fun fr hf => absurd hf (Nat.not_lt_zero fr), fun j _ => rfl⟩
  | m + 1, hm => by
    obtain ⟨ih1, ih2⟩ := vG_at (V := V) h1 m (by omega)
    obtain ⟨s1, s2⟩ := vS_at (V := vG V len m) (fr := m) (len := len) (by omega) (len - 1) (by omega)
    have ef := wOf_full len (by omega) h1
    have e0 := wSo_m (len := len) (Nat.zero_le m)
    constructor
    · intro fr hf n a b hn ha hb
      have rd1 : wSo fr (n + 1) + a < wSo 0 len := ws_l (by omega) (by omega) (by omega) (by omega) ha
      have rd2 : wSo (fr + (n + 1)) (len - (n + 1)) + b < wSo 0 len := ws_l (by omega) (by omega) (by omega) (by omega) hb
      rw [vG]
      by_cases e : fr = m
      · subst e
        rw [show wSo fr len + (wOf len n + a * wM (len - (n + 1)) + b) = wSo fr len + wOf len n + a * wM (len - (n + 1)) + b by omega, s1 n a b (by omega) ha hb, ih2 _ (by omega), ih2 _ (by omega)]
      · have hlt : wOf len n + a * wM (len - (n + 1)) + b < wM len := by
          have q1 : (a + 1) * wM (len - (n + 1)) ≤ wM (n + 1) * wM (len - (n + 1)) := Nat.mul_le_mul_right _ ha
          rw [Nat.succ_mul] at q1
          have q2 : wOf len (n + 1) ≤ wM len := by
            by_cases z : n + 1 + 1 ≤ len
            · exact wOf_le (by omega) _ z
            · rw [show n + 1 = len - 1 by omega, ef]
              exact Nat.le_refl _
          rw [wOf] at q2
          omega
        have hnx : wSo fr len + wM len ≤ wSo m len := by
          rw [← wSo_s]
          exact wSo_m (by omega)
        rw [s2 _ (by omega)]
        exact ih1 fr (by omega) n a b hn ha hb
    · intro j hj
      rw [wSo_s] at hj
      rw [vG, s2 _ (by rw [ef]; omega)]
      exact ih2 j (by omega)
theorem vF_at {V : Nat → zO} {many : Nat} (hm : many ≤ 6) : ∀ n, n + 1 ≤ many → (∀ len, 2 ≤ len → len ≤ n + 1 → ∀ fr, fr + len ≤ many → ∀ q a b, q + 1 < len → a < wM (q + 1) → b < wM (len - (q + 1)) → vF V many n (wSo fr len + (wOf len q + a * wM (len - (q + 1)) + b)) = vMul (vF V many n (wSo fr (q + 1) + a)) (vF V many n (wSo (fr + (q + 1)) (len - (q + 1)) + b))) ∧ ∀ j, j < 6 → vF V many n j = V j
  | 0, _ => ⟨fun len h1 h2 => by omega, fun j _ => rfl⟩
  | n + 1, hn => by
    obtain ⟨ih1, ih2⟩ := vF_at (V := V) hm n (by omega)
    obtain ⟨g1, g2⟩ := vG_at (V := vF V many n) (len := n + 2) (by omega) (many - (n + 2) + 1) (by omega)
    have wb2 : ∀ k, k < 7 → 2 ≤ k → 6 ≤ wB k := by decide
    have sh : ∀ fr len k, 1 ≤ len → fr + len ≤ 6 → len < n + 2 → k < wM len → vF V many (n + 1) (wSo fr len + k) = vF V many n (wSo fr len + k) := by
      intro fr len k h1 h2 h3 hk
      rw [vF]
      exact g2 _ (by have := ws_l (fr2 := 0) h1 h2 h3 (by omega) hk; omega)
    constructor
    · intro len h1 h2 fr hf q a b hq ha hb
      rw [sh fr (q + 1) a (by omega) (by omega) (by omega) ha, sh (fr + (q + 1)) (len - (q + 1)) b (by omega) (by omega) (by omega) hb]
      by_cases e : len = n + 2
      · subst e
        rw [vF]
        exact g1 fr (by omega) q a b hq ha hb
      · have hlt : wOf len q + a * wM (len - (q + 1)) + b < wM len := by
          have q1 : (a + 1) * wM (len - (q + 1)) ≤ wM (q + 1) * wM (len - (q + 1)) := Nat.mul_le_mul_right _ ha
          rw [Nat.succ_mul] at q1
          have q2 : wOf len (q + 1) ≤ wM len := by
            by_cases z : q + 1 + 1 ≤ len
            · exact wOf_le (by omega) _ z
            · rw [show q + 1 = len - 1 by omega, wOf_full len (by omega) h1]
              exact Nat.le_refl _
          rw [wOf] at q2
          omega
        rw [sh fr len _ (by omega) (by omega) (by omega) hlt]
        exact ih1 len h1 (by omega) fr hf q a b hq ha hb
    · intro j hj
      rw [vF, g2 _ (by
        have q1 := wb2 (n + 2) (by omega) (by omega)
        have q2 : wSo 0 (n + 2) = wB (n + 2) := by unfold wSo; omega
        omega)]
      exact ih2 j hj
theorem vI_at {V : Nat → zO} {sl : Nat → Nat → Int32} : ∀ n j, vI V sl n j = if j < n then some (sl j) else V j
  | 0, j => by rw [if_neg (by omega)]; rfl
  | n + 1, j => by
    rw [vI]
    unfold vUpd
    by_cases e : j = n
    · rw [if_pos e, if_pos (by omega), e]
    · rw [if_neg e, vI_at n j]
      by_cases q : j < n
      · rw [if_pos q, if_pos (by omega)]
      · rw [if_neg q, if_neg (by omega)]
theorem vF_x {V : Nat → zO} {sl : Nat → Nat → Int32} {many : Nat} (h1 : 2 ≤ many) (hm : many ≤ 6) : ∀ k, k < wM many → vF (vI V sl many) many (many - 1) (wB many + k) = wX sl 6 0 many k := by
  obtain ⟨t1, t2⟩ := vF_at (V := vI V sl many) hm (many - 1) (by omega)
  have tb : wTb (fun fr len k => vF (vI V sl many) many (many - 1) (wSo fr len + k)) sl many := by
    constructor
    · intro fr hf
      show vF (vI V sl many) many (many - 1) (wSo fr 1 + 0) = _
      have e : wSo fr 1 + 0 = fr := by
        unfold wSo
        have q1 : wB 1 = 0 := rfl
        have q2 : wM 1 = 1 := rfl
        rw [q1, q2]
        omega
      rw [e, t2 fr (by omega), vI_at, if_pos hf]
    · intro fr len n a b hf hn ha hb
      exact t1 len (by omega) (by omega) fr hf n a b hn ha hb
  intro k hk
  have := wTb_eq hm tb many (by omega) 0 k (by omega) hk
  have e : wSo 0 many = wB many := by unfold wSo; omega
  rw [← this]
  show _ = vF (vI V sl many) many (many - 1) (wSo 0 many + k)
  rw [e]
theorem vNew_c {V U : Nat → zO} {s n : Nat} (h : ∀ j, j ≤ n → V (s + j) = U j) : vNew V s n ↔ vNew U 0 n := by
  unfold vNew
  constructor
  · intro z j hj f g e1 e2
    rw [Nat.zero_add] at e1 e2
    exact z j hj f g ((h j (by omega)).trans e1) ((h n (Nat.le_refl _)).trans e2)
  · intro z j hj f g e1 e2
    exact z j hj f g (by rw [Nat.zero_add, ← h j (by omega)]; exact e1) (by rw [Nat.zero_add, ← h n (Nat.le_refl _)]; exact e2)
theorem oUnl_c {V U : Nat → zO} {s : Nat} : ∀ n, (∀ j, j < n → V (s + j) = U j) → oUnl V s n = oUnl U 0 n
  | 0, _ => rfl
  | n + 1, h => by
    rw [oUnl, oUnl, oUnl_c n (fun j hj => h j (by omega)), h n (by omega), Nat.zero_add]
    rw [show vNew V s n = vNew U 0 n from propext (vNew_c (fun j hj => h j (by omega)))]
noncomputable def sp_bracket (S : St) (a m row k : Int32) : Int32 × St := match sE a with
  | none => (-1, S)
  | some t => match eB 2 6 m with
    | none => (-1, S)
    | some q => if (0 : Int32) ≤ row then (if 0 ≤ k.toInt ∧ k.toInt < (wM q : Int) then sMay S t (wX (fun j => S.1 (slR row j)) 6 0 q k.toInt.toNat) else (-1, S)) else (-1, S)
noncomputable def sp_bracketed (S : St) (m row : Int32) : Int32 × St := match eB 2 6 m with
  | none => (-1, S)
  | some q => if (0 : Int32) ≤ row then (match oUnl (wX (fun j => S.1 (slR row j)) 6 0 q) 0 (wM q) with
    | none => (-2, S)
    | some c => (nI c, S)) else (-1, S)

