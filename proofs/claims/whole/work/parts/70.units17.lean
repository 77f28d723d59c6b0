/-! EightParts$Lists: manyOf in any state; EightParts$Units: gather -/
theorem zFindL_c (o norm : Nat) (f : Nat → Int32) : zFindL o norm f = -1 ∨ ∃ u, u < (zLst o norm).1 ∧ zFindL o norm f = nI u ∧ (zLst o norm).2 u = zPk f 8 := by
  unfold zFindL
  split
  · exact Or.inl rfl
  · next z =>
    unfold zFind
    split
    · next y => exact Or.inr ⟨_, (zSr_eq (g2 := (zLst o norm).2) (fun _ _ => rfl) 16 0 _ (by omega) (by omega)).2, rfl, y.2⟩
    · exact Or.inl rfl
noncomputable def fuN (o : Nat) (f : Nat → Int32) : Nat := (zFindL o 1 f).toInt.toNat
theorem fuN_eq {o : Nat} {f : Nat → Int32} (hf : ¬ zFindL o 1 f = -1) : fuN o f < (zLst o 1).1 ∧ zFindL o 1 f = nI (fuN o f) := by
  rcases zFindL_c o 1 f with z | ⟨u, z1, z2, -⟩
  · exact absurd z hf
  · have hsN : (zLst o 1).1 ≤ 240 := zLst_le o 1
    have e : fuN o f = u := by unfold fuN; rw [z2, nI_toInt (by omega)]; omega
    rw [e]
    exact ⟨z1, z2⟩
def bitI (x : Int32) (j : Nat) : Prop := ¬ (x >>> (nI j &&& 31)) &&& nI 1 = 0
noncomputable def gaS (bit : Nat → Prop) (fu : Nat → Nat) : Nat → mS
  | 0 => (0, fun _ => 0)
  | j + 1 => @ite _ (bit j) (Classical.propDecidable _) (mAdd (gaS bit fu j) (fu j)) (gaS bit fu j)
theorem gaS_le (bit : Nat → Prop) (fu : Nat → Nat) : ∀ j, (gaS bit fu j).1 ≤ j := by
  intro j
  induction j with
  | zero => exact Nat.le_refl _
  | succ j ih =>
    rw [gaS]
    split
    · by_cases e : (gaS bit fu j).1 = 240 ∨ mIn (gaS bit fu j) (fu j)
      · rw [mAdd_n e]; omega
      · rw [mAdd_y e]; show (gaS bit fu j).1 + 1 ≤ j + 1; omega
    · omega
theorem gaS_pos {bit : Nat → Prop} {fu : Nat → Nat} : ∀ {n j : Nat}, j < n → n ≤ 8 → bit j → 1 ≤ (gaS bit fu n).1 := by
  intro n
  induction n with
  | zero => exact fun h => absurd h (Nat.not_lt_zero _)
  | succ n ih =>
    intro j hj hn hb
    rw [gaS]
    by_cases e : j = n
    · subst e
      rw [if_pos hb]
      by_cases q : (gaS bit fu j).1 = 240 ∨ mIn (gaS bit fu j) (fu j)
      · rw [mAdd_n q]
        have := gaS_le bit fu j
        rcases q with q | ⟨i, q, -⟩ <;> omega
      · rw [mAdd_y q]; show 1 ≤ _ + 1; omega
    · have := ih (by omega) (by omega) hb
      split
      · exact Nat.le_trans this mAdd_ge
      · exact this
/-- the row of products: made or not -/
def uP (b : Bool) (h : xH) (r : Nat) : Prop := match b with
  | true => 134 ≤ r ∧ r < h.2 ∧ (h.1 31).2.2 4 = .ref r ∧ ∃ pf g, (h.1 31).2.2 5 = .int pf ∧ h.1 r = (0, 14400, xI g) ∧ ∀ o, o < 8 → pf = nI o → ucV o g
  | false => (h.1 31).2.2 4 = .ref 34 ∧ (h.1 31).2.2 5 = .int (-1)
def rB (b : Bool) (h : xH) (r : Nat) : Nat := if b then r else h.2
theorem uP.gb {b : Bool} {h : xH} {r o : Nat} {rw0 : Nat → Nat} {mk : Nat → Option Nat} (hP : uP b h r) (hC : Cs h) (ho : hOrd h o) (ho8 : o < 8) (hL : lsC h rw0 mk) (hmk : mk 1 = some o) (hm0 : h.2 < 900000) (hne : b = true → ∀ m, m < 4 → rw0 m ≠ r) : uGb b h o (rB b h r) rw0 mk := by
  cases b with
  | true =>
    obtain ⟨p1, p2, p3, pf, g, p4, p5, p6⟩ := hP
    exact ⟨hC, ho, ho8, hL, hmk, p1, hne rfl, p3, pf, g, p4, p5, p6, p2⟩
  | false => exact ⟨hC, ho, ho8, hL, hmk, rfl, hP.1, hP.2, hm0⟩
theorem uG.p {h : xH} {r o : Nat} {rw0 : Nat → Nat} {mk : Nat → Option Nat} (hU : uG h o r rw0 mk) : uP true h r := by
  obtain ⟨a1, a2, a3, a4, a5, a6, a7, a8, pf, g, a9, a10, a11, a12⟩ := hU
  exact ⟨a6, a12, a8, pf, g, a9, a10, a11⟩
theorem uP.keep {b : Bool} {h h2 : xH} {r : Nat} (hP : uP b h r) (hn : h.2 ≤ h2.2) (f4 : (h2.1 31).2.2 4 = (h.1 31).2.2 4) (f5 : (h2.1 31).2.2 5 = (h.1 31).2.2 5) (er : b = true → 134 ≤ r → r < h.2 → h2.1 r = h.1 r) : uP b h2 r := by
  cases b with
  | true =>
    obtain ⟨p1, p2, p3, pf, g, p4, p5, p6⟩ := hP
    exact ⟨p1, by omega, f4.trans p3, pf, g, f5.trans p4, (er rfl p1 p2).trans p5, p6⟩
  | false => exact ⟨f4.trans hP.1, f5.trans hP.2⟩
def kL (a : Bool) : Nat := if a then 0 else 1
def nL (a : Bool) (norm : Nat) : Nat := if a then 0 else zRoom norm
section UNITS
variable {G : xG} {l : Launch} {d : Nat} {h : xH} {Q : Option Value → xH → Prop} {r o : Nat} {rw0 : Nat → Nat} {mk : Nat → Option Nat} {T : Nat → Nat → Nat}
/-- behind manyOf -/
def lsG (h : xH) (o norm : Nat) (rw0 : Nat → Nat) (mk : Nat → Option Nat) (m : Nat) (h2 : xH) : Prop := Cs h2 ∧ ∃ rw1 mk1, lsC h2 rw1 mk1 ∧ mk1 norm = some o ∧ (∀ m, m < 4 → (m ≠ norm → mk1 m = mk m ∧ rw1 m = rw0 m) ∧ (rw1 m = rw0 m ∨ (rw1 m = h.2 ∧ m = norm ∧ h2.2 = h.2 + 1))) ∧ xGw [23, 28, 29, 30, rw0 norm] m h h2
theorem c_manyX {norm : Nat} (hd : 10 ≤ d) (hC : Cs h) (hm0 : h.2 < 900000) (ho : hOrd h o) (ho8 : o < 8) (hnm : norm < 4) (hL : lsC h rw0 mk) (K : ∀ h2, lsG h o norm rw0 mk 1 h2 → Q (some (.int (nI (zLst o norm).1))) h2) : xCt G l mX4_manyOf d [.ref 22, .int (nI norm)] h 1 (zRoom norm) Q := by
  cases hmk : mk norm with
  | some o1 =>
    refine xCt_wk (Nat.le_refl _) (Nat.zero_le _) (Nat.zero_le _) (c_lmanyOf1 hd hC ho ho8 hnm hL hmk (fun h2 k1 k2 k3 => K h2 ⟨k1, rw0, _, k2, if_pos rfl, fun m hm => ⟨fun e => ⟨if_neg e, rfl⟩, Or.inl rfl⟩, (k3.gw).sub (by simp) (by omega)⟩))
  | none =>
    have v := hC.v (a := 24 + norm) (n := 0) (by rcases (show norm = 0 ∨ norm = 1 ∨ norm = 2 ∨ norm = 3 by omega) with rfl | rfl | rfl | rfl <;> rfl)
    refine c_lmanyOf0 hd hC hm0 ho ho8 hnm hL hmk v (fun h2 k1 k2 k3 k4 => K h2 ⟨k1, _, _, k2, if_pos rfl, fun m hm => ⟨fun e => ⟨if_neg e, if_neg e⟩, ?_⟩, ⟨by omega, by omega, fun a ha hn => k4 a ha (by simp at hn ⊢; omega)⟩⟩)
    by_cases e : m = norm
    · exact Or.inr ⟨if_pos e, e, k3⟩
    · exact Or.inl (if_neg e)
theorem c_manyA {a : Bool} {norm : Nat} (hd : 10 ≤ d) (hC : Cs h) (hm0 : h.2 < 900000) (ho : hOrd h o) (ho8 : o < 8) (hnm : norm < 4) (hL : lsC h rw0 mk) (ha : a = true → mk norm = some o) (K : ∀ h2, lsG h o norm rw0 mk (kL a) h2 → Q (some (.int (nI (zLst o norm).1))) h2) : xCt G l mX4_manyOf d [.ref 22, .int (nI norm)] h (kL a) (nL a norm) Q := by
  cases a with
  | true => exact c_lmanyOfC hC ho ho8 hnm hL (ha rfl) (K h ⟨hC, rw0, mk, hL, ha rfl, fun m hm => ⟨fun _ => ⟨rfl, rfl⟩, Or.inl rfl⟩, xGw.rf⟩)
  | false => exact c_manyX hd hC hm0 ho ho8 hnm hL K
/-- a unit's number, when the norm is 1 -/
theorem c_findA {a : Bool} {x : Nat} {f : Nat → Int32} (hd : 11 ≤ d) (hC : Cs h) (hm0 : h.2 < 900000) (ho : hOrd h o) (ho8 : o < 8) (hL : lsC h rw0 mk) (ha : a = true → mk 1 = some o) (hx : h.1 x = (0, 8, xI f)) (hxs : x < 24) (hx2 : x ≠ 23) (hn : zInn f f 8 = 4) (K : ∀ h2, lsG h o 1 rw0 mk (kL a) h2 → Q (some (.int (zFindL o 1 f))) h2) : xCt G l mX4_find d [.ref 22, .ref x] h (kL a) (nL a 1) Q := by
  refine c_lfind (norm := 1) (Good := lsG h o 1 rw0 mk (kL a)) (by omega) hC ho8 (by decide) hx (by rw [hn]; decide) (by rw [hn]; decide) (by rw [hn]; decide) (fun Q2 K2 => c_manyA (by omega) hC hm0 ho ho8 (by decide) hL ha K2) (fun h2 g => ?_) K
  obtain ⟨g1, rw1, mk1, g2, g3, g4, g5⟩ := g
  refine ⟨g1, ⟨rw1, mk1, g2, g3⟩, (g5.2.2 x (by have := hC.1; omega) ?_).trans hx⟩
  rcases (hL.2 1 (by decide)).1 with ⟨a1, -⟩ | ⟨a1, -⟩ <;> (simp; omega)
end UNITS

