/-! the state of an object, in pure words; how the component holds it -/
abbrev tpT : Type := Nat × (Nat → Int32)
abbrev kpT : Type := Nat × (Nat → (Nat → Nat → Int32) × Nat)
/-- slots, order, tape, what is kept -/
abbrev St : Type := (Nat → Nat → Int32) × Nat × tpT × kpT
/-- the eight parts alone -/
def c8 (f : Nat → Int32) : Nat → Int32 := fun p => if p < 8 then f p else 0
theorem c8_lt {f : Nat → Int32} {p : Nat} (h : p < 8) : c8 f p = f p := if_pos h
theorem c8_eq {f g : Nat → Int32} : c8 f = c8 g ↔ ∀ p, p < 8 → f p = g p := by
  constructor
  · intro h p hp
    have := congrFun h p
    rwa [c8_lt hp, c8_lt hp] at this
  · intro h
    funext p
    unfold c8
    split
    · next q => exact h p q
    · rfl
theorem c8_c8 (f : Nat → Int32) : c8 (c8 f) = c8 f := c8_eq.mpr (fun _ hp => c8_lt hp)
theorem zBd_c8 {f : Nat → Int32} : zBd (c8 f) ↔ zBd f := by
  unfold zBd
  constructor
  · intro h j hj
    have := h j hj
    rwa [c8_lt hj] at this
  · intro h j hj
    rw [c8_lt hj]
    exact h j hj
def sSet (S : St) (t : Nat) (z : Nat → Int32) : St := (fun j => if j = t then c8 z else S.1 j, S.2)
/-- a number from lo to hi -/
def eB (lo hi : Nat) (x : Int32) : Option Nat := if (lo : Int) ≤ x.toInt ∧ x.toInt ≤ hi then some x.toInt.toNat else none
theorem eB_some {lo hi : Nat} {x : Int32} {k : Nat} (h : eB lo hi x = some k) (hn : hi < 2147483648) : lo ≤ k ∧ k ≤ hi ∧ x = nI k := by
  unfold eB at h
  split at h
  · next q =>
    cases h
    refine ⟨by omega, by omega, ?_⟩
    apply Int32.toInt_inj.mp
    rw [nI_toInt (by omega)]
    omega
  · cases h
theorem eB_nI {lo hi k : Nat} (h1 : lo ≤ k) (h2 : k ≤ hi) (hn : hi < 2147483648) : eB lo hi (nI k) = some k := by
  unfold eB
  rw [nI_toInt (by omega), if_pos (by omega)]
  congr 1
theorem eB_lo {lo hi : Nat} {x : Int32} (hl : lo < 2147483648) (h : x < nI lo) : eB lo hi x = none := by
  unfold eB
  have := Int32.lt_iff_toInt_lt.mp h
  rw [nI_toInt hl] at this
  rw [if_neg (by omega)]
theorem eB_hi {lo hi : Nat} {x : Int32} (hn : hi < 2147483648) (h : nI hi < x) : eB lo hi x = none := by
  unfold eB
  have := Int32.lt_iff_toInt_lt.mp h
  rw [nI_toInt hn] at this
  rw [if_neg (by omega)]
theorem eB_in {lo hi : Nat} {x : Int32} (hl : lo < 2147483648) (hn : hi < 2147483648) (h0 : ¬ x < nI lo) (h1 : ¬ nI hi < x) : ∃ k, lo ≤ k ∧ k ≤ hi ∧ x = nI k ∧ eB lo hi x = some k := by
  have a0 := Int32.le_iff_toInt_le.mp (Int32.not_lt.mp h0)
  have a1 := Int32.le_iff_toInt_le.mp (Int32.not_lt.mp h1)
  rw [nI_toInt hn] at a1
  rw [nI_toInt hl] at a0
  have h2 : eB lo hi x = some x.toInt.toNat := if_pos (by omega)
  obtain ⟨q1, q2, q3⟩ := eB_some h2 hn
  exact ⟨_, q1, q2, q3, h2⟩
abbrev sE (x : Int32) : Option Nat := eB 0 7 x
/-- cells that hold nothing between two calls -/
def scP (a : Nat) : Prop := (11 ≤ a ∧ a ≤ 13) ∨ (16 ≤ a ∧ a ≤ 21 ∧ a ≠ 18) ∨ a = 30 ∨ a = 32 ∨ a = 33 ∨ (37 ≤ a ∧ a ≤ 43) ∨ (45 ≤ a ∧ a ≤ 52) ∨ a = 58 ∨ (60 ≤ a ∧ a ≤ 100 ∧ a ≠ 73 ∧ a ≠ 87) ∨ (106 ≤ a ∧ a ≤ 109)
def tpR (h : xH) (t : tpT) : Prop := t.1 ≤ 200 ∧ hTl h t.1 ∧ ∀ j, j < t.1 → iv h 57 j &&& nI 255 = t.2 j
def kpR (h : xH) (t : kpT) : Prop := t.1 ≤ 6 ∧ hKp h t.1 ∧ ∀ k, k < t.1 → iv h 102 k = nI (t.2 k).2 ∧ (t.2 k).2 < 8 ∧ ∀ j, j < 8 → (∀ p, p < 8 → iv h 103 (64 * k + 8 * j + p) = (t.2 k).1 j p) ∧ zBd ((t.2 k).1 j) ∧ c8 ((t.2 k).1 j) = (t.2 k).1 j
def slR2 (h : xH) (s : Nat → Nat → Int32) : Prop := ∀ j, j < 8 → c8 (iv h (2 + j)) = s j ∧ zBd (s j)
def RS (h : xH) (S : St) : Prop := (S.2.1 < 8 ∧ hOrd h S.2.1) ∧ slR2 h S.1 ∧ tpR h S.2.2.1 ∧ kpR h S.2.2.2
def wyS (h : xH) (p : Nat) : Prop := (p = 54 ∧ (h.1 53).2.2 1 = .ref 54 ∧ ∀ i, i < 104 → iv h 55 i = nI 0) ∨ (wyR h p ∧ ∀ i, i < 104 → iv h 55 i = nI 0 ∨ iv h 55 i = nI 1)
/-- the builder -/
def sbS (h : xH) (v N c : Nat) (g : Nat → Int32) : Prop := (h.1 104).2.2 0 = .ref v ∧ (h.1 104).2.2 1 = .int (nI 0) ∧ (h.1 104).2.2 3 = .int (nI c) ∧ (v = 105 ∨ 134 ≤ v) ∧ v < h.2 ∧ h.1 v = (3, N, xI g) ∧ 16 ≤ N ∧ N ≤ 1000 ∧ c ≤ N ∧ ∀ j, j < N → fits .byte (.int (g j)) = true
/-- the caches, by where they lie -/
def RX (b : Bool) (h : xH) (rw0 : Nat → Nat) (mk : Nat → Option Nat) (r p v N c : Nat) (g : Nat → Int32) : Prop := lsC h rw0 mk ∧ uP b h r ∧ (∃ s, uI h s) ∧ wyS h p ∧ sbS h v N c g
def RI (b : Bool) (h : xH) : Prop := ∃ rw0 mk r p v N c g, RX b h rw0 mk r p v N c g
/-- .. and the list of a norm is there for an order -/
def RIm (b : Bool) (h : xH) (norm o : Nat) : Prop := ∃ rw0 mk r p v N c g, RX b h rw0 mk r p v N c g ∧ mk norm = some o
def RC (b : Bool) (h : xH) (S : St) : Prop := Cs h ∧ RS h S ∧ RI b h
/-- the model's cells are as they were -/
def mF (h h2 : xH) : Prop := (∀ a, 110 ≤ a → a ≤ 133 → h2.1 a = h.1 a) ∧ h.2 ≤ h2.2 ∧ h2.2 ≤ h.2 + 200
theorem mF.rf {h : xH} : mF h h := ⟨fun _ _ _ => rfl, Nat.le_refl _, by omega⟩
theorem mF.sq {P : Nat → Prop} {h h2 : xH} (s : xSq P h h2) (hp : ∀ a, P a → a < 110 ∨ 133 < a) : mF h h2 := ⟨fun a a1 a2 => s.2 a (fun z => by have := hp a z; omega), by rw [s.1]; exact Nat.le_refl _, by rw [s.1]; omega⟩
/-- what the caches do not stand on -/
def riN (a : Nat) : Prop := scP a ∨ (2 ≤ a ∧ a ≤ 9) ∨ a = 14 ∨ a = 56 ∨ a = 57 ∨ (101 ≤ a ∧ a ≤ 103) ∨ (110 ≤ a ∧ a ≤ 133)
theorem RX.keep {b : Bool} {h h2 : xH} {rw0 : Nat → Nat} {mk : Nat → Option Nat} {r p v N c : Nat} {g : Nat → Int32} (hI : RX b h rw0 mk r p v N c g) (h134 : 134 ≤ h.2) (hn : h.2 ≤ h2.2) (hf : ∀ a, a < h.2 → ¬ riN a → h2.1 a = h.1 a) : RX b h2 rw0 mk r p v N c g := by
  obtain ⟨i1, i2, ⟨s, i3⟩, i4, i5⟩ := hI
  have st : ∀ a, a < 134 → ¬ riN a → h2.1 a = h.1 a := fun a ha => hf a (by omega)
  have big : ∀ a, 134 ≤ a → a < h.2 → h2.1 a = h.1 a := fun a h1 h3 => hf a h3 (by unfold riN scP; omega)
  have n31 := st 31 (by decide) (by unfold riN scP; omega)
  refine ⟨?_, ?_, ⟨s, ?_⟩, ?_, ?_⟩
  · exact i1.keep h134 hn (st 23 (by decide) (by unfold riN scP; omega)) (st 28 (by decide) (by unfold riN scP; omega)) (st 29 (by decide) (by unfold riN scP; omega)) (fun m hm q1 q2 => big _ q1 q2)
  · exact i2.keep hn (by rw [n31]) (by rw [n31]) (fun _ q1 q2 => big _ q1 q2)
  · exact i3.keep (by rw [n31]) (by unfold iv; rw [st 35 (by decide) (by unfold riN scP; omega)]) (by unfold iv; rw [st 36 (by decide) (by unfold riN scP; omega)])
  · have n53 := st 53 (by decide) (by unfold riN scP; omega)
    have n55 : iv h2 55 = iv h 55 := by unfold iv; rw [st 55 (by decide) (by unfold riN scP; omega)]
    rcases i4 with ⟨q1, q2, q3⟩ | ⟨⟨q1, q2, q3, q4, q5⟩, q6⟩
    · exact Or.inl ⟨q1, by rw [n53]; exact q2, fun i hi => by rw [n55]; exact q3 i hi⟩
    · refine Or.inr ⟨⟨by rw [n53]; exact q1, q2, by omega, (big p q2 (by omega)).trans q4, fun i hi => ?_⟩, fun i hi => by rw [n55]; exact q6 i hi⟩
      have e := big (p + 1 + i) (by omega) (by omega)
      have := q5 i hi
      unfold xV8 at this ⊢
      unfold iv at this ⊢
      rw [e]
      exact this
  · obtain ⟨q1, q2, q3, q4, q5, q6, q7⟩ := i5
    have n104 := st 104 (by decide) (by unfold riN scP; omega)
    refine ⟨by rw [n104]; exact q1, by rw [n104]; exact q2, by rw [n104]; exact q3, q4, by omega, ?_, q7⟩
    rcases q4 with e | e
    · rw [e] at q6 ⊢
      rw [st 105 (by decide) (by unfold riN scP; omega)]
      exact q6
    · rw [big v e q5]
      exact q6
theorem RI.keep {b : Bool} {h h2 : xH} (hI : RI b h) (h134 : 134 ≤ h.2) (hn : h.2 ≤ h2.2) (hf : ∀ a, a < h.2 → ¬ riN a → h2.1 a = h.1 a) : RI b h2 := by
  obtain ⟨rw0, mk, r, p, v, N, c, g, i⟩ := hI
  exact ⟨rw0, mk, r, p, v, N, c, g, i.keep h134 hn hf⟩
theorem RS.keep {h h2 : xH} {S : St} (hS : RS h S) (e14 : h2.1 14 = h.1 14) (e2 : ∀ j, j < 8 → h2.1 (2 + j) = h.1 (2 + j)) (e56 : h2.1 56 = h.1 56) (e57 : h2.1 57 = h.1 57) (e1 : h2.1 101 = h.1 101) (e3 : h2.1 102 = h.1 102) (e4 : h2.1 103 = h.1 103) : RS h2 S := by
  obtain ⟨⟨s1, s2⟩, s3, ⟨s4, s5, s6⟩, s7, s8, s9⟩ := hS
  have i57 : iv h2 57 = iv h 57 := by unfold iv; rw [e57]
  have i102 : iv h2 102 = iv h 102 := by unfold iv; rw [e3]
  have i103 : iv h2 103 = iv h 103 := by unfold iv; rw [e4]
  refine ⟨⟨s1, by unfold hOrd; rw [e14]; exact s2⟩, fun j hj => ?_, ⟨s4, by unfold hTl; rw [e56]; exact s5, by rw [i57]; exact s6⟩, s7, by unfold hKp; rw [e1]; exact s8, by rw [i102, i103]; exact s9⟩
  have : iv h2 (2 + j) = iv h (2 + j) := by unfold iv; rw [e2 j hj]
  rw [this]
  exact s3 j hj
theorem RC.sc {b : Bool} {h h2 : xH} {S : St} (hR : RC b h S) (hC : Cs h2) (hS : xSq scP h h2) : RC b h2 S := by
  obtain ⟨r1, r2, r3⟩ := hR
  refine ⟨hC, r2.keep (hS.2 14 (by unfold scP; omega)) (fun j hj => hS.2 _ (by unfold scP; omega)) (hS.2 56 (by unfold scP; omega)) (hS.2 57 (by unfold scP; omega)) (hS.2 101 (by unfold scP; omega)) (hS.2 102 (by unfold scP; omega)) (hS.2 103 (by unfold scP; omega)), r3.keep r1.1 (by rw [hS.1]; exact Nat.le_refl _) (fun a _ ha => hS.2 a (fun z => ha (Or.inl z)))⟩
theorem RC.set {b : Bool} {h h2 : xH} {S : St} {t : Nat} {z : Nat → Int32} (hR : RC b h S) (ht : t < 8) (hC : Cs h2) (hS : xSq (fun a => scP a ∨ a = 2 + t) h h2) (ez : c8 (iv h2 (2 + t)) = c8 z) (hz : zBd z) : RC b h2 (sSet S t z) := by
  obtain ⟨r1, ⟨⟨s1, s2⟩, s3, ⟨s4, s5, s6⟩, s7, s8, s9⟩, r3⟩ := hR
  have k : ∀ a, ¬ scP a → a ≠ 2 + t → h2.1 a = h.1 a := fun a q1 q2 => hS.2 a (by rintro (q | q); exact q1 q; exact q2 q)
  have i57 : iv h2 57 = iv h 57 := by unfold iv; rw [k 57 (by unfold scP; omega) (by omega)]
  have i102 : iv h2 102 = iv h 102 := by unfold iv; rw [k 102 (by unfold scP; omega) (by omega)]
  have i103 : iv h2 103 = iv h 103 := by unfold iv; rw [k 103 (by unfold scP; omega) (by omega)]
  refine ⟨hC, ⟨⟨s1, by unfold hOrd; rw [k 14 (by unfold scP; omega) (by omega)]; exact s2⟩, fun j hj => ?_, ⟨s4, by unfold hTl; rw [k 56 (by unfold scP; omega) (by omega)]; exact s5, by rw [i57]; exact s6⟩, s7, by unfold hKp; rw [k 101 (by unfold scP; omega) (by omega)]; exact s8, by rw [i102, i103]; exact s9⟩, r3.keep r1.1 (by rw [hS.1]; exact Nat.le_refl _) (fun a _ ha => k a (fun z => ha (Or.inl z)) (fun z => ha (Or.inr (Or.inl (by omega)))))⟩
  show c8 (iv h2 (2 + j)) = (if j = t then c8 z else S.1 j) ∧ zBd (if j = t then c8 z else S.1 j)
  by_cases e : j = t
  · rw [if_pos e, e]
    exact ⟨ez, zBd_c8.mpr hz⟩
  · rw [if_neg e]
    have : iv h2 (2 + j) = iv h (2 + j) := by unfold iv; rw [k (2 + j) (by unfold scP; omega) (by omega)]
    rw [this]
    exact s3 j hj
theorem RC.sl {b : Bool} {h : xH} {S : St} (hR : RC b h S) {j : Nat} (hj : j < 8) : c8 (iv h (2 + j)) = S.1 j ∧ zBd (iv h (2 + j)) := by
  have := hR.2.1.2.1 j hj
  exact ⟨this.1, by rw [← this.1] at this; exact zBd_c8.mp this.2⟩
theorem RC.o {b : Bool} {h : xH} {S : St} (hR : RC b h S) : S.2.1 < 8 ∧ hOrd h S.2.1 := hR.2.1.1
/-! what is reckoned looks at the eight parts alone -/
theorem zM4_c (f g : Nat → Int32) : zM4 (c8 f) (c8 g) = zM4 f g := by
  have e : ∀ i, i < 8 → c8 f i = f i ∧ c8 g i = g i := fun i hi => ⟨c8_lt hi, c8_lt hi⟩
  funext p
  match p with
  | 0 | 1 | 2 | 3 | 4 | 5 | 6 | _ + 7 => simp only [zM4, (e 0 (by decide)).1, (e 1 (by decide)).1, (e 2 (by decide)).1, (e 3 (by decide)).1, (e 4 (by decide)).1, (e 5 (by decide)).1, (e 6 (by decide)).1, (e 7 (by decide)).1, (e 0 (by decide)).2, (e 1 (by decide)).2, (e 2 (by decide)).2, (e 3 (by decide)).2, (e 4 (by decide)).2, (e 5 (by decide)).2, (e 6 (by decide)).2, (e 7 (by decide)).2]
theorem oMul_c (f g : Nat → Int32) : oMul (c8 f) (c8 g) = oMul f g := by
  unfold oMul zCan zMul
  rw [zM4_c]
theorem oMul_cl (f g : Nat → Int32) : oMul (c8 f) g = oMul f g := by rw [← oMul_c, c8_c8, oMul_c]
theorem oMul_cr (f g : Nat → Int32) : oMul f (c8 g) = oMul f g := by rw [← oMul_c, c8_c8, oMul_c]
theorem zIf_map {p : Prop} {z y : Nat → Int32} (h : p → c8 z = c8 y) : (zIf p z).map c8 = (zIf p y).map c8 := by
  by_cases q : p
  · rw [zIf_t q, zIf_t q]; exact congrArg some (h q)
  · rw [zIf_f q, zIf_f q]
theorem zIn_c {w v : Nat → Int64} (h : ∀ j, j < 8 → w j = v j) : zIn w ↔ zIn v := by
  unfold zIn
  constructor
  · intro q j hj; rw [← h j hj]; exact q j hj
  · intro q j hj; rw [h j hj]; exact q j hj
theorem oAdd_c (f g : Nat → Int32) (s : Int32) : (oAdd (c8 f) (c8 g) s).map c8 = (oAdd f g s).map c8 := by
  have e : ∀ j, j < 8 → zAdd (c8 f) (c8 g) s j = zAdd f g s j := fun j hj => by unfold zAdd; rw [c8_lt hj, c8_lt hj]
  unfold oAdd
  rw [show zIn (zAdd (c8 f) (c8 g) s) = zIn (zAdd f g s) from propext (zIn_c e)]
  exact zIf_map (fun _ => c8_eq.mpr (fun j hj => by unfold zNar; rw [e j hj]))
theorem oScale_c (s : Int32) (f : Nat → Int32) : (oScale s (c8 f)).map c8 = (oScale s f).map c8 := by
  have e : ∀ j, j < 8 → zScale s (c8 f) j = zScale s f j := fun j hj => by unfold zScale; rw [c8_lt hj]
  unfold oScale
  rw [show zIn (zScale s (c8 f)) = zIn (zScale s f) from propext (zIn_c e)]
  exact zIf_map (fun _ => c8_eq.mpr (fun j hj => by unfold zNar; rw [e j hj]))
theorem zMir_c (f : Nat → Int32) : c8 (zMir (c8 f)) = c8 (zMir f) := c8_eq.mpr (fun j hj => by unfold zMir; rw [c8_lt hj, c8_lt (by decide)])
theorem oTurn_c (f u : Nat → Int32) (how : Nat) : oTurn (c8 f) (c8 u) how = oTurn f u how := by
  have e : ∀ m, oMul m (zMir (c8 u)) = oMul m (zMir u) := fun m => by rw [← oMul_cr, zMir_c, oMul_cr]
  unfold oTurn
  split <;> simp only [oMul_cl, oMul_cr, e]
theorem zInn_c (f g : Nat → Int32) : ∀ i, i ≤ 8 → zInn (c8 f) (c8 g) i = zInn f g i
  | 0, _ => rfl
  | i + 1, hi => by rw [zInn, zInn, zInn_c f g i (by omega), c8_lt (by omega), c8_lt (by omega)]

