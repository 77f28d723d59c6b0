/-! a text, worked: in pure words; the component's reader does so -/
abbrev pX : Type := Sum Nat (Nat × Bool × (Nat → Int32))
def cnI (c : Bool) : Int32 := if c then nI 1 else nI 0
def pMy (c : Bool) (t : Nat → Int32) (o : zO) : Bool × (Nat → Int32) := match o with
  | some z => (c, c8 z)
  | none => (false, t)
noncomputable def pT (n : Nat) (tb : Nat → Int32) (fac : Nat → Bool → pX) : Nat → Nat → Bool → (Nat → Int32) → pX
  | 0, a, c, v => .inr (a, c, v)
  | k + 1, a, c, v => if zBy n tb (zAhd n tb a) = nI 42 then (match fac (zAhd n tb a + 1) c with
      | .inl p => .inl p
      | .inr r => pT n tb fac k r.1 (pMy r.2.1 v (oMul v r.2.2)).1 (pMy r.2.1 v (oMul v r.2.2)).2)
    else .inr (zAhd n tb a, c, v)
noncomputable def pM (n : Nat) (tb : Nat → Int32) (fac : Nat → Bool → pX) (a : Nat) (c : Bool) : pX := match fac a c with
  | .inl p => .inl p
  | .inr r => pT n tb fac n r.1 r.2.1 r.2.2
noncomputable def pS (n : Nat) (tb : Nat → Int32) (fac : Nat → Bool → pX) : Nat → Nat → Bool → (Nat → Int32) → pX
  | 0, a, c, v => .inr (a, c, v)
  | k + 1, a, c, v => if zBy n tb (zAhd n tb a) = nI 43 ∨ zBy n tb (zAhd n tb a) = nI 45 then (match pM n tb fac (zAhd n tb a + 1) c with
      | .inl p => .inl p
      | .inr r => pS n tb fac k r.1 (pMy r.2.1 v (oAdd v r.2.2 (if zBy n tb (zAhd n tb a) = nI 43 then nI 1 else -1))).1 (pMy r.2.1 v (oAdd v r.2.2 (if zBy n tb (zAhd n tb a) = nI 43 then nI 1 else -1))).2)
    else .inr (zAhd n tb a, c, v)
noncomputable def pU (n : Nat) (tb : Nat → Int32) (fac : Nat → Bool → pX) (a : Nat) (c : Bool) : pX := match pM n tb fac a c with
  | .inl p => .inl p
  | .inr r => pS n tb fac n r.1 r.2.1 r.2.2
noncomputable def pF (n : Nat) (tb : Nat → Int32) (sl : Nat → Nat → Int32) (nx : Option (Nat → Bool → pX)) (a : Nat) (c : Bool) : pX :=
  if nI 97 ≤ zBy n tb (zAhd n tb a) ∧ zBy n tb (zAhd n tb a) ≤ nI 104 then .inr (zAhd n tb a + 1, c, c8 (sl (ltN (zBy n tb (zAhd n tb a)))))
  else if zDig (zBy n tb (zAhd n tb a)) then (if 999 < (zNum n tb (n - zAhd n tb a) (zAhd n tb a) 0).2 then .inl (zAhd n tb a) else .inr ((zNum n tb (n - zAhd n tb a) (zAhd n tb a) 0).1, c, c8 (zReal (zNum n tb (n - zAhd n tb a) (zAhd n tb a) 0).2)))
  else if zBy n tb (zAhd n tb a) = nI 126 ∨ zBy n tb (zAhd n tb a) = nI 40 then
    (match nx with
     | none => .inl (zAhd n tb a)
     | some fac => if zBy n tb (zAhd n tb a) = nI 126 then (match fac (zAhd n tb a + 1) c with
         | .inl p => .inl p
         | .inr r => .inr (r.1, r.2.1, c8 (zMir r.2.2)))
       else (match pU n tb fac (zAhd n tb a + 1) c with
         | .inl p => .inl p
         | .inr r => if zBy n tb (zAhd n tb r.1) = nI 41 then .inr (zAhd n tb r.1 + 1, r.2) else .inl (zAhd n tb r.1)))
  else .inl (zAhd n tb a)
noncomputable def pFc (n : Nat) (tb : Nat → Int32) (sl : Nat → Nat → Int32) : Nat → Nat → Bool → pX
  | 0 => pF n tb sl none
  | f + 1 => pF n tb sl (some (pFc n tb sl f))
noncomputable def pRd (n : Nat) (tb : Nat → Int32) (sl : Nat → Nat → Int32) : pX := match pU n tb (pFc n tb sl 12) 0 true with
  | .inl p => .inl p
  | .inr r => if zBy n tb (zAhd n tb r.1) = -1 then .inr r else .inl (zAhd n tb r.1)
theorem zSk_tb {n : Nat} {tb tb2 : Nat → Int32} (h : ∀ j, j < n → tb j = tb2 j) : ∀ f a, zSk n tb f a = zSk n tb2 f a
  | 0, _ => rfl
  | f + 1, a => by
    rw [zSk, zSk, zSk_tb h f (a + 1)]
    by_cases c : a < n
    · rw [h a c]
    · rw [if_neg (fun z => c z.1), if_neg (fun z => c z.1)]
theorem zNum_tb {n : Nat} {tb tb2 : Nat → Int32} (h : ∀ j, j < n → tb j = tb2 j) : ∀ f a v, zNum n tb f a v = zNum n tb2 f a v
  | 0, _, _ => rfl
  | f + 1, a, v => by
    rw [zNum, zNum]
    by_cases c : a < n
    · rw [h a c, zNum_tb h f (a + 1) _]
    · rw [if_neg (fun z => c z.1), if_neg (fun z => c z.1)]
theorem zBy_tb {n : Nat} {tb tb2 : Nat → Int32} (h : ∀ j, j < n → tb j = tb2 j) : ∀ a, zBy n tb a = zBy n tb2 a := fun a => by
  unfold zBy
  by_cases c : a < n
  · rw [if_pos c, if_pos c, h a c]
  · rw [if_neg c, if_neg c]
theorem zAhd_tb {n : Nat} {tb tb2 : Nat → Int32} (h : ∀ j, j < n → tb j = tb2 j) (a : Nat) : zAhd n tb a = zAhd n tb2 a := zSk_tb h _ a
/-- rows of sums up to i, of terms up to j -/
def frR (i j : Nat) (a : Nat) : Prop := (60 ≤ a ∧ a < 60 + i) ∨ (74 ≤ a ∧ a < 74 + j)
/-- the reader came to what the pure words say -/
def prR (n : Nat) (R : Nat → Nat → Int32) (s : zRd) (x : pX) (row i j : Nat) : Prop := match x with
  | .inl p => s.2.1 = nI p ∧ p ≤ n
  | .inr r => s.2.1 = -1 ∧ s.1 = r.1 ∧ s.2.2.1 = cnI r.2.1 ∧ c8 (s.2.2.2 row) = r.2.2 ∧ (∀ a, frR i j a → s.2.2.2 a = R a) ∧ r.1 ≤ n
theorem zAnd_1 (c : Bool) : zAnd (cnI c) (nI 1) = cnI c := by cases c <;> rfl
theorem zAnd_0 (c : Bool) : zAnd (cnI c) (nI 0) = cnI false := by cases c <;> rfl
theorem nI_m1 {p : Nat} (h : p ≤ 200) : ¬ nI p = -1 := nI_n1 (by omega)
theorem zTerms_f {n : Nat} {tb : Nat → Int32} {dp : Nat} {fac : rdF} {s : zRd} (h : ¬ s.2.1 = -1) : ∀ k, zTerms n tb dp fac k s = s
  | 0 => rfl
  | k + 1 => by rw [zTerms, if_neg h]
theorem zSums_f {n : Nat} {tb : Nat → Int32} {dp : Nat} {fac : rdF} {s : zRd} (h : ¬ s.2.1 = -1) : ∀ k, zSums n tb dp fac k s = s
  | 0 => rfl
  | k + 1 => by rw [zSums, if_neg h]
theorem rMay_f {s : zRd} {a : Nat} {o : zO} : (rMay s a o).2.1 = s.2.1 := by cases o <;> rfl
theorem rMay_r {s : zRd} {a b : Nat} {o : zO} (h : b ≠ a) : (rMay s a o).2.2.2 b = s.2.2.2 b := by
  cases o with
  | none => rfl
  | some f => exact if_neg h
theorem rMay_p {s : zRd} {a : Nat} {o o2 : zO} {c : Bool} {v : Nat → Int32} (hs : s.2.2.1 = cnI c) (hv : c8 (s.2.2.2 a) = v) (ho : o.map c8 = o2.map c8) : (rMay s a o).2.2.1 = cnI (pMy c v o2).1 ∧ c8 ((rMay s a o).2.2.2 a) = (pMy c v o2).2 := by
  cases o with
  | none =>
    cases o2 with
    | none => exact ⟨by show zAnd s.2.2.1 (nI 0) = cnI false; rw [hs, zAnd_0], hv⟩
    | some z => cases ho
  | some f =>
    cases o2 with
    | none => cases ho
    | some z =>
      refine ⟨by show zAnd s.2.2.1 (nI 1) = cnI c; rw [hs, zAnd_1], ?_⟩
      show c8 (if a = a then f else _) = c8 z
      rw [if_pos rfl]
      exact Option.some.inj ho
section PRS
variable {n : Nat} {tb tb2 : Nat → Int32}
/-- a reader of factors, and its words -/
def fcR (n dp : Nat) (fac : rdF) (pf : Nat → Bool → pX) : Prop := ∀ (s : zRd) c, s.2.1 = -1 → s.1 ≤ n → s.2.2.1 = cnI c → prR n s.2.2.2 (fac s) (pf s.1 c) (88 + dp) (dp + 1) (dp + 1)
theorem r_terms (hn : n ≤ 200) (ht : ∀ j, j < n → tb j = tb2 j) {dp : Nat} (hdp : dp < 13) {fac : rdF} {pf : Nat → Bool → pX} (hf : fcR n dp fac pf) (R : Nat → Nat → Int32) : ∀ k (s : zRd) c v, s.2.1 = -1 → s.1 ≤ n → s.2.2.1 = cnI c → c8 (s.2.2.2 (74 + dp)) = v → (∀ a, frR (dp + 1) dp a → s.2.2.2 a = R a) → prR n R (zTerms n tb dp fac k s) (pT n tb2 pf k s.1 c v) (74 + dp) (dp + 1) dp
  | 0, s, c, v, h1, h2, h3, h4, h5 => ⟨h1, rfl, h3, h4, h5, h2⟩
  | k + 1, s, c, v, h1, h2, h3, h4, h5 => by
    have hv : c8 v = v := by rw [← h4, c8_c8]
    rw [zTerms, pT, if_pos h1, ← zBy_tb ht, ← zAhd_tb ht]
    by_cases e : zBy n tb (zAhd n tb s.1) = nI 42
    · rw [if_pos e, if_pos e]
      have la := zBy_lt e (by decide)
      have key := hf (rAt s (zAhd n tb s.1 + 1)) c h1 (by show zAhd n tb s.1 + 1 ≤ n; omega) h3
      change prR n s.2.2.2 (fac (rAt s (zAhd n tb s.1 + 1))) (pf (zAhd n tb s.1 + 1) c) (88 + dp) (dp + 1) (dp + 1) at key
      generalize fac (rAt s (zAhd n tb s.1 + 1)) = s1 at key ⊢
      generalize pf (zAhd n tb s.1 + 1) c = x at key ⊢
      match x, key with
      | .inl p, ⟨k1, k2⟩ =>
        show prR n R (zTerms n tb dp fac k (rMay s1 (74 + dp) _)) (.inl p) (74 + dp) (dp + 1) dp
        rw [zTerms_f (by rw [rMay_f, k1]; exact nI_m1 (by omega))]
        exact ⟨by rw [rMay_f]; exact k1, k2⟩
      | .inr r, ⟨k1, k2, k3, k4, k5, k6⟩ =>
        have e74 : c8 (s1.2.2.2 (74 + dp)) = v := by rw [k5 (74 + dp) (by unfold frR; omega)]; exact h4
        have em : oMul (s1.2.2.2 (74 + dp)) (s1.2.2.2 (88 + dp)) = oMul v r.2.2 := oMul_e (by rw [e74, hv]) (by rw [← k4, c8_c8])
        obtain ⟨q1, q2⟩ := rMay_p (o := oMul (s1.2.2.2 (74 + dp)) (s1.2.2.2 (88 + dp))) (o2 := oMul v r.2.2) k3 e74 (by rw [em])
        have := r_terms hn ht hdp hf R k (rMay s1 (74 + dp) (oMul (s1.2.2.2 (74 + dp)) (s1.2.2.2 (88 + dp)))) (pMy r.2.1 v (oMul v r.2.2)).1 (pMy r.2.1 v (oMul v r.2.2)).2 (by rw [rMay_f]; exact k1) (by rw [rMay_1, k2]; exact k6) q1 q2 (fun a ha => by
          rw [rMay_r (by unfold frR at ha; omega), k5 a (by unfold frR at ha ⊢; omega)]
          exact h5 a ha)
        rw [rMay_1, k2] at this
        exact this
    · rw [if_neg e, if_neg e]
      exact ⟨h1, rfl, h3, h4, h5, zAhd_le h2⟩
theorem r_term (hn : n ≤ 200) (ht : ∀ j, j < n → tb j = tb2 j) {dp : Nat} (hdp : dp < 13) {fac : rdF} {pf : Nat → Bool → pX} (hf : fcR n dp fac pf) (s : zRd) (c : Bool) (h1 : s.2.1 = -1) (h2 : s.1 ≤ n) (h3 : s.2.2.1 = cnI c) : prR n s.2.2.2 (zTerm n tb dp fac s) (pM n tb2 pf s.1 c) (74 + dp) (dp + 1) dp := by
  have key := hf s c h1 h2 h3
  unfold zTerm pM
  generalize fac s = s1 at key ⊢
  generalize pf s.1 c = x at key ⊢
  match x, key with
  | .inl p, ⟨k1, k2⟩ =>
    show prR n s.2.2.2 (zTerms n tb dp fac n (rRow s1 (74 + dp) _)) (.inl p) (74 + dp) (dp + 1) dp
    rw [zTerms_f (by show ¬ s1.2.1 = -1; rw [k1]; exact nI_m1 (by omega))]
    exact ⟨k1, k2⟩
  | .inr r, ⟨k1, k2, k3, k4, k5, k6⟩ =>
    have := r_terms hn ht hdp hf s.2.2.2 n (rRow s1 (74 + dp) (s1.2.2.2 (88 + dp))) r.2.1 r.2.2 k1 (by show s1.1 ≤ n; rw [k2]; exact k6) k3 (by
      show c8 (if 74 + dp = 74 + dp then _ else _) = _
      rw [if_pos rfl]
      exact k4) (fun a ha => by
      show (if a = 74 + dp then _ else s1.2.2.2 a) = _
      rw [if_neg (by unfold frR at ha; omega)]
      exact k5 a (by unfold frR at ha ⊢; omega))
    rw [show (rRow s1 (74 + dp) (s1.2.2.2 (88 + dp))).1 = r.1 from k2] at this
    exact this
theorem r_sums (hn : n ≤ 200) (ht : ∀ j, j < n → tb j = tb2 j) {dp : Nat} (hdp : dp < 13) {fac : rdF} {pf : Nat → Bool → pX} (hf : fcR n dp fac pf) (R : Nat → Nat → Int32) : ∀ k (s : zRd) c v, s.2.1 = -1 → s.1 ≤ n → s.2.2.1 = cnI c → c8 (s.2.2.2 (60 + dp)) = v → (∀ a, frR dp dp a → s.2.2.2 a = R a) → prR n R (zSums n tb dp fac k s) (pS n tb2 pf k s.1 c v) (60 + dp) dp dp
  | 0, s, c, v, h1, h2, h3, h4, h5 => ⟨h1, rfl, h3, h4, h5, h2⟩
  | k + 1, s, c, v, h1, h2, h3, h4, h5 => by
    have hv : c8 v = v := by rw [← h4, c8_c8]
    rw [zSums, pS, if_pos h1, ← zBy_tb ht, ← zAhd_tb ht]
    by_cases e : zBy n tb (zAhd n tb s.1) = nI 43 ∨ zBy n tb (zAhd n tb s.1) = nI 45
    · rw [if_pos e, if_pos e]
      have la : zAhd n tb s.1 < n := by
        rcases e with e | e
        · exact zBy_lt e (by decide)
        · exact zBy_lt e (by decide)
      have key := r_term hn ht hdp hf (rAt s (zAhd n tb s.1 + 1)) c h1 (by show zAhd n tb s.1 + 1 ≤ n; omega) h3
      change prR n s.2.2.2 (zTerm n tb dp fac (rAt s (zAhd n tb s.1 + 1))) (pM n tb2 pf (zAhd n tb s.1 + 1) c) (74 + dp) (dp + 1) dp at key
      generalize zTerm n tb dp fac (rAt s (zAhd n tb s.1 + 1)) = s1 at key ⊢
      generalize pM n tb2 pf (zAhd n tb s.1 + 1) c = x at key ⊢
      generalize (if zBy n tb (zAhd n tb s.1) = nI 43 then nI 1 else -1) = sg
      match x, key with
      | .inl p, ⟨k1, k2⟩ =>
        show prR n R (zSums n tb dp fac k (rMay s1 (60 + dp) _)) (.inl p) (60 + dp) dp dp
        rw [zSums_f (by rw [rMay_f, k1]; exact nI_m1 (by omega))]
        exact ⟨by rw [rMay_f]; exact k1, k2⟩
      | .inr r, ⟨k1, k2, k3, k4, k5, k6⟩ =>
        have e60 : c8 (s1.2.2.2 (60 + dp)) = v := by rw [k5 (60 + dp) (by unfold frR; omega)]; exact h4
        obtain ⟨q1, q2⟩ := rMay_p (o := oAdd (s1.2.2.2 (60 + dp)) (s1.2.2.2 (74 + dp)) sg) (o2 := oAdd v r.2.2 sg) k3 e60 (oAdd_e (by rw [e60, hv]) (by rw [← k4, c8_c8]))
        have := r_sums hn ht hdp hf R k (rMay s1 (60 + dp) (oAdd (s1.2.2.2 (60 + dp)) (s1.2.2.2 (74 + dp)) sg)) (pMy r.2.1 v (oAdd v r.2.2 sg)).1 (pMy r.2.1 v (oAdd v r.2.2 sg)).2 (by rw [rMay_f]; exact k1) (by rw [rMay_1, k2]; exact k6) q1 q2 (fun a ha => by
          rw [rMay_r (by unfold frR at ha; omega), k5 a (by unfold frR at ha ⊢; omega)]
          exact h5 a ha)
        rw [rMay_1, k2] at this
        exact this
    · rw [if_neg e, if_neg e]
      exact ⟨h1, rfl, h3, h4, h5, zAhd_le h2⟩
theorem r_sum (hn : n ≤ 200) (ht : ∀ j, j < n → tb j = tb2 j) {dp : Nat} (hdp : dp < 13) {fac : rdF} {pf : Nat → Bool → pX} (hf : fcR n dp fac pf) (s : zRd) (c : Bool) (h1 : s.2.1 = -1) (h2 : s.1 ≤ n) (h3 : s.2.2.1 = cnI c) : prR n s.2.2.2 (zSum n tb dp fac s) (pU n tb2 pf s.1 c) (60 + dp) dp dp := by
  have key := r_term hn ht hdp hf s c h1 h2 h3
  unfold zSum pU
  generalize zTerm n tb dp fac s = s1 at key ⊢
  generalize pM n tb2 pf s.1 c = x at key ⊢
  match x, key with
  | .inl p, ⟨k1, k2⟩ =>
    show prR n s.2.2.2 (zSums n tb dp fac n (rRow s1 (60 + dp) _)) (.inl p) (60 + dp) dp dp
    rw [zSums_f (by show ¬ s1.2.1 = -1; rw [k1]; exact nI_m1 (by omega))]
    exact ⟨k1, k2⟩
  | .inr r, ⟨k1, k2, k3, k4, k5, k6⟩ =>
    have := r_sums hn ht hdp hf s.2.2.2 n (rRow s1 (60 + dp) (s1.2.2.2 (74 + dp))) r.2.1 r.2.2 k1 (by show s1.1 ≤ n; rw [k2]; exact k6) k3 (by
      show c8 (if 60 + dp = 60 + dp then _ else _) = _
      rw [if_pos rfl]
      exact k4) (fun a ha => by
      show (if a = 60 + dp then _ else s1.2.2.2 a) = _
      rw [if_neg (by unfold frR at ha; omega)]
      exact k5 a (by unfold frR at ha ⊢; omega))
    rw [show (rRow s1 (60 + dp) (s1.2.2.2 (74 + dp))).1 = r.1 from k2] at this
    exact this
theorem r_fac {sl sl2 : Nat → Nat → Int32} (hn : n ≤ 200) (ht : ∀ j, j < n → tb j = tb2 j) (hsl : ∀ k, k < 8 → c8 (sl k) = c8 (sl2 k)) {dp : Nat} (hdp : dp < 13) {nx : Option rdF} {px : Option (Nat → Bool → pX)} (h0 : nx = none ↔ px = none) (hx : ∀ fac pf, nx = some fac → px = some pf → dp < 12 ∧ fcR n (dp + 1) fac pf) : fcR n dp (zFacS n tb sl dp nx) (pF n tb2 sl2 px) := by
  intro s c h1 h2 h3
  have la := zAhd_le (tb := tb) h2
  unfold zFacS pF
  rw [← zBy_tb ht, ← zAhd_tb ht, ← zNum_tb ht]
  have row : ∀ (s1 : zRd) (f : Nat → Int32), (∀ a, frR (dp + 1) (dp + 1) a → s1.2.2.2 a = s.2.2.2 a) → ∀ a, frR (dp + 1) (dp + 1) a → (rUpd s1.2.2.2 (88 + dp) f) a = s.2.2.2 a := by
    intro s1 f hs a ha
    show (if a = 88 + dp then f else s1.2.2.2 a) = _
    rw [if_neg (by unfold frR at ha; omega)]
    exact hs a ha
  have at88 : ∀ (R : Nat → Nat → Int32) (f : Nat → Int32), rUpd R (88 + dp) f (88 + dp) = f := fun R f => if_pos rfl
  by_cases e1 : nI 97 ≤ zBy n tb (zAhd n tb s.1) ∧ zBy n tb (zAhd n tb s.1) ≤ nI 104
  · rw [if_pos e1, if_pos e1]
    have ll : zAhd n tb s.1 < n := zBy_lt rfl (fun z => by rw [z] at e1; exact absurd e1.1 (by decide))
    refine ⟨h1, rfl, h3, ?_, row s _ (fun _ _ => rfl), by show zAhd n tb s.1 + 1 ≤ n; omega⟩
    show c8 (rUpd s.2.2.2 (88 + dp) _ (88 + dp)) = _
    rw [at88]
    exact hsl _ (lt_eq e1.1 e1.2).1
  · rw [if_neg e1, if_neg e1]
    by_cases e2 : zDig (zBy n tb (zAhd n tb s.1))
    · rw [if_pos e2, if_pos e2]
      unfold zInt
      show prR n s.2.2.2 (if 999 < (zNum n tb (n - zAhd n tb s.1) (zAhd n tb s.1) 0).2 then _ else _) _ _ _ _
      obtain ⟨z1, z2, z3⟩ := zNum_le n tb (n - zAhd n tb s.1) (zAhd n tb s.1) 0 la (by omega)
      by_cases e3 : 999 < (zNum n tb (n - zAhd n tb s.1) (zAhd n tb s.1) 0).2
      · rw [if_pos e3, if_pos e3]
        exact ⟨rfl, la⟩
      · rw [if_neg e3, if_neg e3]
        refine ⟨h1, rfl, h3, ?_, row s _ (fun _ _ => rfl), z2⟩
        show c8 (rUpd s.2.2.2 (88 + dp) _ (88 + dp)) = _
        rw [at88]
        rfl
    · rw [if_neg e2, if_neg e2]
      by_cases e3 : zBy n tb (zAhd n tb s.1) = nI 126 ∨ zBy n tb (zAhd n tb s.1) = nI 40
      · rw [if_pos e3, if_pos e3]
        have ll : zAhd n tb s.1 < n := by
          rcases e3 with e | e
          · exact zBy_lt e (by decide)
          · exact zBy_lt e (by decide)
        match nx, px, h0, hx with
        | none, none, _, _ => exact ⟨rfl, la⟩
        | none, some _, h0, _ => exact absurd (h0.mp rfl) (by simp)
        | some _, none, h0, _ => exact absurd (h0.mpr rfl) (by simp)
        | some fac, some pf, _, hx =>
          obtain ⟨d12, hf⟩ := hx fac pf rfl rfl
          show prR n s.2.2.2 (zNest n tb dp fac (zBy n tb (zAhd n tb s.1)) (rAt s (zAhd n tb s.1 + 1))) (if zBy n tb (zAhd n tb s.1) = nI 126 then _ else _) _ _ _
          unfold zNest
          by_cases e4 : zBy n tb (zAhd n tb s.1) = nI 126
          · rw [if_pos e4, if_pos e4]
            have key := hf (rAt s (zAhd n tb s.1 + 1)) c h1 (by show zAhd n tb s.1 + 1 ≤ n; omega) h3
            change prR n s.2.2.2 (fac (rAt s (zAhd n tb s.1 + 1))) (pf (zAhd n tb s.1 + 1) c) (88 + (dp + 1)) (dp + 1 + 1) (dp + 1 + 1) at key
            generalize fac (rAt s (zAhd n tb s.1 + 1)) = s1 at key ⊢
            generalize pf (zAhd n tb s.1 + 1) c = x at key ⊢
            match x, key with
            | .inl p, ⟨k1, k2⟩ => exact ⟨k1, k2⟩
            | .inr r, ⟨k1, k2, k3, k4, k5, k6⟩ =>
              refine ⟨k1, k2, k3, ?_, row s1 _ (fun a ha => k5 a (by unfold frR at ha ⊢; omega)), k6⟩
              show c8 (rUpd s1.2.2.2 (88 + dp) _ (88 + dp)) = _
              rw [at88, ← zMir_c, k4]
          · rw [if_neg e4, if_neg e4]
            have key := r_sum hn ht (show dp + 1 < 13 by omega) hf (rAt s (zAhd n tb s.1 + 1)) c h1 (by show zAhd n tb s.1 + 1 ≤ n; omega) h3
            change prR n s.2.2.2 (zSum n tb (dp + 1) fac (rAt s (zAhd n tb s.1 + 1))) (pU n tb2 pf (zAhd n tb s.1 + 1) c) (60 + (dp + 1)) (dp + 1) (dp + 1) at key
            generalize zSum n tb (dp + 1) fac (rAt s (zAhd n tb s.1 + 1)) = s1 at key ⊢
            generalize pU n tb2 pf (zAhd n tb s.1 + 1) c = x at key ⊢
            match x, key with
            | .inl p, ⟨k1, k2⟩ =>
              show prR n s.2.2.2 (if s1.2.1 = -1 then _ else _) (.inl p) _ _ _
              rw [if_neg (by rw [k1]; exact nI_m1 (by omega))]
              exact ⟨k1, k2⟩
            | .inr r, ⟨k1, k2, k3, k4, k5, k6⟩ =>
              show prR n s.2.2.2 (if s1.2.1 = -1 then _ else _) (if zBy n tb2 (zAhd n tb2 r.1) = nI 41 then _ else _) _ _ _
              rw [if_pos k1, k2, ← zBy_tb ht, ← zAhd_tb ht]
              by_cases e5 : zBy n tb (zAhd n tb r.1) = nI 41
              · rw [if_pos e5, if_pos e5]
                have l2 := zBy_lt e5 (by decide)
                refine ⟨k1, rfl, k3, ?_, row s1 _ k5, by show zAhd n tb r.1 + 1 ≤ n; omega⟩
                show c8 (rUpd s1.2.2.2 (88 + dp) _ (88 + dp)) = _
                rw [at88]
                exact k4
              · rw [if_neg e5, if_neg e5]
                exact ⟨rfl, zAhd_le k6⟩
      · rw [if_neg e3, if_neg e3]
        exact ⟨rfl, la⟩
theorem r_facs {sl sl2 : Nat → Nat → Int32} (hn : n ≤ 200) (ht : ∀ j, j < n → tb j = tb2 j) (hsl : ∀ k, k < 8 → c8 (sl k) = c8 (sl2 k)) : ∀ f, f ≤ 12 → fcR n (12 - f) (zFac n tb sl f) (pFc n tb2 sl2 f)
  | 0, _ => r_fac hn ht hsl (by decide) (by simp) (fun fac pf e => by cases e)
  | f + 1, hf => by
    have ih := r_facs hn ht hsl f (by omega)
    rw [zFac, pFc, show 12 - (f + 1) = 11 - f by omega]
    refine r_fac hn ht hsl (by omega) (by simp) (fun fac pf e1 e2 => ?_)
    cases e1
    cases e2
    exact ⟨by omega, by rw [show 11 - f + 1 = 12 - f by omega]; exact ih⟩
/-- the whole tape is read -/
theorem r_read {sl sl2 : Nat → Nat → Int32} (hn : n ≤ 200) (ht : ∀ j, j < n → tb j = tb2 j) (hsl : ∀ k, k < 8 → c8 (sl k) = c8 (sl2 k)) (R : Nat → Nat → Int32) : match pRd n tb2 sl2 with
    | .inl p => zReadF n tb (zRead n tb sl R) = nI p ∧ p ≤ n
    | .inr r => zReadF n tb (zRead n tb sl R) = -1 ∧ (zRead n tb sl R).2.2.1 = cnI r.2.1 ∧ c8 ((zRead n tb sl R).2.2.2 60) = r.2.2 := by
  have key := r_sum hn ht (show 0 < 13 by decide) (r_facs hn ht hsl 12 (Nat.le_refl _)) (0, -1, nI 1, R) true rfl (Nat.zero_le _) rfl
  change prR n R (zRead n tb sl R) (pU n tb2 (pFc n tb2 sl2 12) 0 true) (60 + 0) 0 0 at key
  unfold pRd zReadF
  generalize zRead n tb sl R = s1 at key ⊢
  generalize pU n tb2 (pFc n tb2 sl2 12) 0 true = x at key ⊢
  match x, key with
  | .inl p, ⟨k1, k2⟩ =>
    show (if s1.2.1 = -1 then _ else s1.2.1) = nI p ∧ _
    rw [if_neg (by rw [k1]; exact nI_m1 (by omega))]
    exact ⟨k1, k2⟩
  | .inr r, ⟨k1, k2, k3, k4, k5, k6⟩ =>
    by_cases e : zBy n tb (zAhd n tb r.1) = -1
    · have e2 : zBy n tb2 (zAhd n tb2 r.1) = -1 := by rw [← zBy_tb ht, ← zAhd_tb ht]; exact e
      simp only [e2, if_true]
      rw [if_pos k1, k2, if_pos e]
      exact ⟨rfl, k3, k4⟩
    · have e2 : ¬ zBy n tb2 (zAhd n tb2 r.1) = -1 := by rw [← zBy_tb ht, ← zAhd_tb ht]; exact e
      simp only [e2, if_false]
      rw [if_pos k1, k2, if_neg e, ← zAhd_tb ht]
      exact ⟨rfl, zAhd_le k6⟩
end PRS

