/-! EightParts$Units: multiplyAt, whether its row is made or not -/
/-- nothing old but what S names has changed; at most m new cells -/
def xGw (S : List Nat) (m : Nat) (h h2 : xH) : Prop := h.2 ≤ h2.2 ∧ h2.2 ≤ h.2 + m ∧ ∀ a, a < h.2 → a ∉ S → h2.1 a = h.1 a
theorem xSm.gw {S : List Nat} {h h2 : xH} (s : xSm S h h2) : xGw S 0 h h2 := ⟨by rw [s.1]; exact Nat.le_refl _, by rw [s.1]; exact Nat.le_refl _, fun a _ ha => s.2 a ha⟩
theorem xGw.rf {S : List Nat} {h : xH} : xGw S 0 h h := ⟨Nat.le_refl _, Nat.le_refl _, fun _ _ _ => rfl⟩
theorem xGw.tr {S : List Nat} {m m2 : Nat} {h h2 h3 : xH} (a : xGw S m h h2) (b : xGw S m2 h2 h3) : xGw S (m + m2) h h3 := ⟨Nat.le_trans a.1 b.1, by have := a.2.1; have := b.2.1; omega, fun q hq hs => (b.2.2 q (Nat.lt_of_lt_of_le hq a.1) hs).trans (a.2.2 q hq hs)⟩
theorem xGw.sub {S T : List Nat} {m m2 : Nat} {h h2 : xH} (a : xGw S m h h2) (hs : ∀ q ∈ S, q ∈ T) (hm : m ≤ m2) : xGw T m2 h h2 := ⟨a.1, by have := a.2.1; omega, fun q hq hn => a.2.2 q hq (fun z => hn (hs q z))⟩
theorem xGw.step {S T : List Nat} {m m2 n : Nat} {h h2 h3 : xH} (a : xGw S m h h2) (b : xGw T m2 h2 h3) (hs : ∀ q ∈ T, q ∈ S) (hb : h3.2 ≤ h.2 + n) : xGw S n h h3 := ⟨Nat.le_trans a.1 b.1, hb, fun q hq hn => (b.2.2 q (Nat.lt_of_lt_of_le hq a.1) (fun z => hn (hs q z))).trans (a.2.2 q hq hn)⟩
theorem xGw.iv {S : List Nat} {m : Nat} {h h2 : xH} (s : xGw S m h h2) {a : Nat} (hl : a < h.2) (ha : a ∉ S) : _root_.Jvm.Pilot.@@N@@.iv h2 a = _root_.Jvm.Pilot.@@N@@.iv h a := by
  unfold _root_.Jvm.Pilot.@@N@@.iv
  rw [s.2.2 a hl ha]
def uG0 (h : xH) (o r : Nat) (rw0 : Nat → Nat) (mk : Nat → Option Nat) : Prop := Cs h ∧ hOrd h o ∧ o < 8 ∧ lsC h rw0 mk ∧ mk 1 = some o ∧ r = h.2 ∧ (h.1 31).2.2 4 = .ref 34 ∧ (h.1 31).2.2 5 = .int (-1) ∧ h.2 < 900000
def uGb (b : Bool) (h : xH) (o r : Nat) (rw0 : Nat → Nat) (mk : Nat → Option Nat) : Prop := match b with
  | true => uG h o r rw0 mk
  | false => uG0 h o r rw0 mk
def kB (b : Bool) : Nat := if b then 0 else 1
def nB (b : Bool) : Nat := if b then 0 else 14400
theorem lsC.ltr {h : xH} {rw0 : Nat → Nat} {mk : Nat → Option Nat} (hL : lsC h rw0 mk) (h134 : 134 ≤ h.2) {m : Nat} (hm : m < 4) : rw0 m < h.2 := by
  rcases (hL.2 m hm).1 with ⟨a1, -⟩ | ⟨-, a2, -⟩
  · omega
  · exact a2
theorem uGb.C {b : Bool} {h : xH} {o r : Nat} {rw0 : Nat → Nat} {mk : Nat → Option Nat} (hU : uGb b h o r rw0 mk) : Cs h ∧ hOrd h o ∧ o < 8 ∧ lsC h rw0 mk ∧ mk 1 = some o ∧ 134 ≤ r ∧ ∀ m, m < 4 → rw0 m ≠ r := by
  cases b with
  | true =>
    obtain ⟨a1, a2, a3, a4, a5, a6, a7, -⟩ := hU
    exact ⟨a1, a2, a3, a4, a5, a6, a7⟩
  | false =>
    obtain ⟨a1, a2, a3, a4, a5, a6, -⟩ := hU
    exact ⟨a1, a2, a3, a4, a5, by rw [a6]; exact a1.1, fun m hm => by have := a4.ltr a1.1 hm; omega⟩
section UNITS
variable {G : xG} {l : Launch} {d : Nat} {h : xH} {Q : Option Value → xH → Prop}
theorem c_mulAtG {o i k mc ms : Nat} {rw0 : Nat → Nat} {mk : Nat → Option Nat} {Good : xH → Prop} (hC : Cs h) (ho : hOrd h o) (ho8 : o < 8) (hL : lsC h rw0 mk) (hmk : mk 1 = some o) (hd : 1 ≤ d) (hi : i < (zLst o 1).1) (hk : k < (zLst o 1).1)
    (hmn : ∀ fi fk, fi < 120 → fk < 120 → ∀ Q2 : Option Value → xH → Prop, (∀ h2, Good h2 → Q2 (some (.int (zMN o fi fk))) h2) → xCt G l mX9_multiplyNegative (d - 1) [.ref 31, .int (nI fi), .int (nI fk)] h mc ms Q2)
    (K : ∀ h2, Good h2 → Q (some (.int (zMA o i k))) h2) : xCt G l mX9_multiplyAt d [.ref 31, .int (nI i), .int (nI k)] h mc ms Q := by
  have hsN : (zLst o 1).1 ≤ 240 := zLst_le o 1
  unfold zMA at K
  refine xCt_of (by decide) (Nat.le_of_ble_eq_true rfl) ?_
  refine x_aload_n (i := 0) dX9_multiplyAt_0 rfl rfl rfl ?_
  refine x_getC dX9_multiplyAt_1 rfl fX9_35 hC rfl F_31_0 ?_
  refine x_iconst dX9_multiplyAt_4 rfl iC_1 ?_
  refine x_callV0 (ci := 4) (b := 22) (As := [_]) (d2 := d - 1) dX9_multiplyAt_5 rfl kX9_43 okX4_manyOf (hC.o rfl) (fun q hq => by cases hq; rfl) (by omega) rfl rfl (Nat.le_of_ble_eq_true rfl) (c_lmanyOfC (norm := 1) hC ho ho8 (by decide) hL hmk ?_)
  generalize hsz0 : (zLst o 1).1 = sz at *
  refine x_iconst dX9_multiplyAt_8 rfl iC_1 ?_
  refine x_isub dX9_multiplyAt_9 rfl ?_
  rw [show nI sz - nI 1 = nI (sz - 1) from pk_sub (by omega)]
  refine x_istore_n (i := 3) dX9_multiplyAt_10 rfl rfl (by decide) ?_
  refine x_iload_n (i := 1) dX9_multiplyAt_11 rfl rfl rfl ?_
  refine x_if_lt_f (tgt := 29) dX9_multiplyAt_12 rfl rfl (nI_pos (by omega)) ?_
  refine x_iload_n (i := 1) dX9_multiplyAt_15 rfl rfl rfl ?_
  refine x_iload_n (i := 3) dX9_multiplyAt_16 rfl rfl rfl ?_
  refine x_ic_gt_f (tgt := 29) dX9_multiplyAt_17 rfl rfl (nI_nlt (by omega) (by omega)) ?_
  refine x_iload_n (i := 2) dX9_multiplyAt_20 rfl rfl rfl ?_
  refine x_if_lt_f (tgt := 29) dX9_multiplyAt_21 rfl rfl (nI_pos (by omega)) ?_
  refine x_iload_n (i := 2) dX9_multiplyAt_24 rfl rfl rfl ?_
  refine x_iload_n (i := 3) dX9_multiplyAt_25 rfl rfl rfl ?_
  refine x_ic_le_t (tgt := 31) dX9_multiplyAt_26 rfl (nI_le (by omega) (by omega)) ?_
  refine x_iload_n (i := 1) dX9_multiplyAt_31 rfl rfl rfl ?_
  refine x_iload_n (i := 3) dX9_multiplyAt_32 rfl rfl rfl ?_
  refine x_iload_n (i := 1) dX9_multiplyAt_33 rfl rfl rfl ?_
  refine x_isub dX9_multiplyAt_34 rfl ?_
  rw [show nI (sz - 1) - nI i = nI (sz - 1 - i) from pk_sub (by omega)]
  refine x_callS0 (As := [_, _]) (d2 := d - 1) dX9_multiplyAt_35 rfl kX9_49 okJ9_min_7cf53 (by omega) rfl rfl (Nat.le_of_ble_eq_true rfl) (c_minI (by omega) (by omega) ?_)
  refine x_istore dX9_multiplyAt_38 rfl (by decide) ?_
  refine x_iload_n (i := 2) dX9_multiplyAt_40 rfl rfl rfl ?_
  refine x_iload_n (i := 3) dX9_multiplyAt_41 rfl rfl rfl ?_
  refine x_iload_n (i := 2) dX9_multiplyAt_42 rfl rfl rfl ?_
  refine x_isub dX9_multiplyAt_43 rfl ?_
  rw [show nI (sz - 1) - nI k = nI (sz - 1 - k) from pk_sub (by omega)]
  refine x_callS0 (As := [_, _]) (d2 := d - 1) dX9_multiplyAt_44 rfl kX9_49 okJ9_min_7cf53 (by omega) rfl rfl (Nat.le_of_ble_eq_true rfl) (c_minI (by omega) (by omega) ?_)
  refine x_istore dX9_multiplyAt_47 rfl (by decide) ?_
  refine x_aload_n (i := 0) dX9_multiplyAt_49 rfl rfl rfl ?_
  refine x_iload dX9_multiplyAt_50 rfl rfl ?_
  refine x_iload dX9_multiplyAt_52 rfl rfl ?_
  have m1 : min i (sz - 1 - i) < 120 := by omega
  have m2 : min k (sz - 1 - k) < 120 := by omega
  have l1 : min i (sz - 1 - i) < 2147483648 := by omega
  have l2 : min k (sz - 1 - k) < 2147483648 := by omega
  generalize min i (sz - 1 - i) = fi at *
  generalize min k (sz - 1 - k) = fk at *
  refine x_callV (ci := 9) (b := 31) (As := [_, _]) (d2 := d - 1) (mc2 := mc) (ms2 := ms) (k2 := 0) (n2 := 0) dX9_multiplyAt_54 rfl kX9_55 okX9_multiplyNegative (hC.o rfl) (fun q hq => by cases hq; rfl) (by omega) rfl rfl (Nat.le_of_ble_eq_true rfl) (by omega) (by omega) (hmn fi fk m1 m2 _ (fun h2 hg => ?_))
  have kk := K h2 hg
  generalize zMN o fi fk = mn at *
  have fd : (((fi = i ↔ fk = k) ∨ mn = -1) → xWP G l mX9_multiplyAt d (zM G Q) 0 0 90 (xls [(0, .ref 31), (1, .int (nI i)), (2, .int (nI k)), (3, .int (nI (sz - 1))), (4, .int (nI fi)), (5, .int (nI fk)), (6, .int mn)]) [] h2) := by
    intro z
    rw [if_pos z] at kk
    refine x_iload dX9_multiplyAt_90 rfl rfl ?_
    refine x_goto (tgt := 99) dX9_multiplyAt_92 rfl ?_
    refine x_ireturn dX9_multiplyAt_99 rfl rfl ?_
    exact kk
  have w84 : ¬ (fi = i ↔ fk = k) → xWP G l mX9_multiplyAt d (zM G Q) 0 0 84 (xls [(0, .ref 31), (1, .int (nI i)), (2, .int (nI k)), (3, .int (nI (sz - 1))), (4, .int (nI fi)), (5, .int (nI fk)), (6, .int mn)]) [] h2 := by
    intro z
    refine x_iload dX9_multiplyAt_84 rfl rfl ?_
    refine x_iconst dX9_multiplyAt_86 rfl iC_m1 ?_
    refine x_ic_ne (tgt := 95) dX9_multiplyAt_87 rfl rfl (fun c87 => ?_) (fun c87 => ?_)
    · rw [if_neg (by rintro (y | y); exact z y; exact c87 y)] at kk
      refine x_iload_n (i := 3) dX9_multiplyAt_95 rfl rfl rfl ?_
      refine x_iload dX9_multiplyAt_96 rfl rfl ?_
      refine x_isub dX9_multiplyAt_98 rfl ?_
      refine x_ireturn dX9_multiplyAt_99 rfl rfl ?_
      exact kk
    · exact x_to (fd (Or.inr c87)) ⟨rfl, rfl, rfl, rfl, rfl, rfl, rfl, trivial⟩
  refine x_istore dX9_multiplyAt_57 rfl (by decide) ?_
  refine x_iload dX9_multiplyAt_59 rfl rfl ?_
  refine x_iload_n (i := 1) dX9_multiplyAt_61 rfl rfl rfl ?_
  refine x_jc_ne (tgt := 69) dX9_multiplyAt_62 rfl rfl (by omega) (by omega) (fun c62 => ?_) (fun c62 => ?_)
  · refine x_iconst dX9_multiplyAt_69 rfl iC_0 ?_
    refine x_iload dX9_multiplyAt_70 rfl rfl ?_
    refine x_iload_n (i := 2) dX9_multiplyAt_72 rfl rfl rfl ?_
    refine x_jc_ne (tgt := 80) dX9_multiplyAt_73 rfl rfl (by omega) (by omega) (fun c73 => ?_) (fun c73 => ?_)
    · refine x_iconst dX9_multiplyAt_80 rfl iC_0 ?_
      refine x_ic_eq_t (tgt := 90) dX9_multiplyAt_81 rfl rfl ?_
      exact x_to (fd (Or.inl ⟨fun e => absurd e c62, fun e => absurd e c73⟩)) ⟨rfl, rfl, rfl, rfl, rfl, rfl, rfl, trivial⟩
    · refine x_iconst dX9_multiplyAt_76 rfl iC_1 ?_
      refine x_goto (tgt := 81) dX9_multiplyAt_77 rfl ?_
      refine x_ic_eq_f (tgt := 90) dX9_multiplyAt_81 rfl rfl (by decide) ?_
      exact x_to (w84 (fun z => c62 (z.mpr c73))) ⟨rfl, rfl, rfl, rfl, rfl, rfl, rfl, trivial⟩
  · refine x_iconst dX9_multiplyAt_65 rfl iC_1 ?_
    refine x_goto (tgt := 70) dX9_multiplyAt_66 rfl ?_
    refine x_iload dX9_multiplyAt_70 rfl rfl ?_
    refine x_iload_n (i := 2) dX9_multiplyAt_72 rfl rfl rfl ?_
    refine x_jc_ne (tgt := 80) dX9_multiplyAt_73 rfl rfl (by omega) (by omega) (fun c73 => ?_) (fun c73 => ?_)
    · refine x_iconst dX9_multiplyAt_80 rfl iC_0 ?_
      refine x_ic_eq_f (tgt := 90) dX9_multiplyAt_81 rfl rfl (by decide) ?_
      exact x_to (w84 (fun z => c73 (z.mp c62))) ⟨rfl, rfl, rfl, rfl, rfl, rfl, rfl, trivial⟩
    · refine x_iconst dX9_multiplyAt_76 rfl iC_1 ?_
      refine x_goto (tgt := 81) dX9_multiplyAt_77 rfl ?_
      refine x_ic_eq_t (tgt := 90) dX9_multiplyAt_81 rfl rfl ?_
      exact x_to (fd (Or.inl ⟨fun _ => c73, fun _ => c62⟩)) ⟨rfl, rfl, rfl, rfl, rfl, rfl, rfl, trivial⟩
theorem c_mulAtB {b : Bool} {r o i k : Nat} {rw0 : Nat → Nat} {mk : Nat → Option Nat} (hd : 5 ≤ d) (hU : uGb b h o r rw0 mk) (hi : i < (zLst o 1).1) (hk : k < (zLst o 1).1)
    (K : ∀ h2, uG h2 o r rw0 mk → xGw [11, 31, 32, 33, r] (kB b) h h2 → (∀ q, q ≠ 4 → q ≠ 5 → (h2.1 31).2.2 q = (h.1 31).2.2 q) → Q (some (.int (zMA o i k))) h2) : xCt G l mX9_multiplyAt d [.ref 31, .int (nI i), .int (nI k)] h (kB b) (nB b) Q := by
  cases b with
  | true => exact c_mulAt hd hU hi hk (fun h2 k1 k2 k3 => K h2 k1 k2.gw (fun q _ q5 => k3 q q5))
  | false =>
    obtain ⟨hC, ho, ho8, hL, hmk, rfl, h4, h5, hm0⟩ := hU
    have h134 := hC.1
    rcases (hL.2 1 (by decide)).1 with ⟨a1, a2, a3⟩ | ⟨a1, a2, gl, o', a3, a4, a5, a6, a7, a8⟩
    · rw [a2] at hmk
      cases hmk
    · obtain rfl : o' = o := Option.some.inj (a5.symm.trans hmk)
      refine c_mulAtG (mc := 1) (ms := 14400) (Good := fun h2 => uG h2 o' h.2 rw0 mk ∧ xGw [11, 31, 32, 33, h.2] 1 h h2 ∧ (∀ q, q ≠ 4 → q ≠ 5 → (h2.1 31).2.2 q = (h.1 31).2.2 q)) hC ho ho8 hL hmk (by omega) hi hk (fun fi fk f1 f2 Q2 KK => ?_) (fun h2 g => K h2 g.1 g.2.1 g.2.2)
      refine xCt_of (by decide) (Nat.le_of_ble_eq_true rfl) ?_
      refine x_aload_n (i := 0) dX9_multiplyNegative_0 rfl rfl rfl ?_
      refine x_callV (ci := 9) (b := 31) (As := []) (d2 := d - 1 - 1) (mc2 := 1) (ms2 := 14400) (k2 := 0) (n2 := 0) dX9_multiplyNegative_1 rfl kX9_93 okX9_makeRoom (hC.o rfl) (fun q hq => by cases hq; rfl) (by omega) rfl rfl (Nat.le_of_ble_eq_true rfl) (by omega) (by omega) (c_room0 (by omega) hC hm0 ho ho8 h4 h5 (fun h1 hC1 n1 fr f4 f5 fo row => ?_))
      have o1 : hOrd h1 o' := by unfold hOrd; rw [fr 14 (by omega) (by decide)]; exact ho
      refine x_to (w_mulNeg (r := h.2) (rw0 := rw0) (gl := gl) (by omega) hC1 h134 f4 row ((fr 23 (by omega) (by decide)).trans hL.1) a1 (by omega) ((fr (rw0 1) a2 (by omega)).trans a4) (by unfold iv; rw [fr 28 (by omega) (by decide)]; exact a7) a8 (fun i k _ _ => Or.inl rfl) f1 f2 (fun h2 g2 k1 k2 k3 k4 => KK h2 ⟨⟨k1, ?_, ho8, ?_, hmk, h134, fun m hm => ?_, ?_, nI o', g2, ?_, k3, fun o2 h8 e => ?_, by rw [k2.1, n1]; omega⟩, ⟨by rw [k2.1, n1]; omega, by rw [k2.1, n1]; omega, fun a ha na => ?_⟩, fun q q4 q5 => ?_⟩)) ⟨rfl, rfl, rfl, trivial⟩
      · unfold hOrd
        rw [k2.2 14 (by simp; omega)]
        exact o1
      · exact hL.keep h134 (by rw [k2.1, n1]; omega) (by rw [k2.2 23 (by simp; omega), fr 23 (by omega) (by decide)]) (by rw [k2.2 28 (by simp; omega), fr 28 (by omega) (by decide)]) (by rw [k2.2 29 (by simp; omega), fr 29 (by omega) (by decide)]) (fun m hm q1 q2 => by rw [k2.2 (rw0 m) (by simp; omega), fr (rw0 m) q2 (by omega)])
      · have := hL.ltr h134 hm
        omega
      · rw [k2.2 31 (by simp; omega)]
        exact f4
      · rw [k2.2 31 (by simp; omega)]
        exact f5
      · obtain rfl : o' = o2 := (nI_eq (by omega) (by omega)).mp e
        exact k4
      · simp at na
        rw [k2.2 a (by simp; omega), fr a ha (by omega)]
      · rw [k2.2 31 (by simp; omega)]
        exact fo q q4 q5
/-- out of its rows -/
theorem c_mulAtN {o : Nat} {i k : Int32} {rw0 : Nat → Nat} {mk : Nat → Option Nat} (hd : 1 ≤ d) (hC : Cs h) (ho : hOrd h o) (ho8 : o < 8) (hL : lsC h rw0 mk) (hmk : mk 1 = some o) (hz : 0 < (zLst o 1).1) (hn : i < 0 ∨ nI ((zLst o 1).1 - 1) < i ∨ k < 0 ∨ nI ((zLst o 1).1 - 1) < k)
    (K : Q (some (.int (-1))) h) : xCt G l mX9_multiplyAt d [.ref 31, .int i, .int k] h 0 0 Q := by
  have hsN : (zLst o 1).1 ≤ 240 := zLst_le o 1
  refine xCt_of (by decide) (Nat.le_of_ble_eq_true rfl) ?_
  refine x_aload_n (i := 0) dX9_multiplyAt_0 rfl rfl rfl ?_
  refine x_getC dX9_multiplyAt_1 rfl fX9_35 hC rfl F_31_0 ?_
  refine x_iconst dX9_multiplyAt_4 rfl iC_1 ?_
  refine x_callV0 (ci := 4) (b := 22) (As := [_]) (d2 := d - 1) dX9_multiplyAt_5 rfl kX9_43 okX4_manyOf (hC.o rfl) (fun q hq => by cases hq; rfl) (by omega) rfl rfl (Nat.le_of_ble_eq_true rfl) (c_lmanyOfC (norm := 1) hC ho ho8 (by decide) hL hmk ?_)
  refine x_iconst dX9_multiplyAt_8 rfl iC_1 ?_
  refine x_isub dX9_multiplyAt_9 rfl ?_
  rw [show nI (zLst o 1).1 - nI 1 = nI ((zLst o 1).1 - 1) from pk_sub (by omega)]
  refine x_istore_n (i := 3) dX9_multiplyAt_10 rfl rfl (by decide) ?_
  refine x_iload_n (i := 1) dX9_multiplyAt_11 rfl rfl rfl ?_
  refine x_if_lt (tgt := 29) dX9_multiplyAt_12 rfl rfl (fun c12 => ?_) (fun c12 => ?_)
  · refine x_iconst dX9_multiplyAt_29 rfl iC_m1 ?_
    refine x_ireturn dX9_multiplyAt_30 rfl rfl ?_
    exact K
  · refine x_iload_n (i := 1) dX9_multiplyAt_15 rfl rfl rfl ?_
    refine x_iload_n (i := 3) dX9_multiplyAt_16 rfl rfl rfl ?_
    refine x_ic_gt (tgt := 29) dX9_multiplyAt_17 rfl rfl (fun c17 => ?_) (fun c17 => ?_)
    · refine x_iconst dX9_multiplyAt_29 rfl iC_m1 ?_
      refine x_ireturn dX9_multiplyAt_30 rfl rfl ?_
      exact K
    · refine x_iload_n (i := 2) dX9_multiplyAt_20 rfl rfl rfl ?_
      refine x_if_lt (tgt := 29) dX9_multiplyAt_21 rfl rfl (fun c21 => ?_) (fun c21 => ?_)
      · refine x_iconst dX9_multiplyAt_29 rfl iC_m1 ?_
        refine x_ireturn dX9_multiplyAt_30 rfl rfl ?_
        exact K
      · refine x_iload_n (i := 2) dX9_multiplyAt_24 rfl rfl rfl ?_
        refine x_iload_n (i := 3) dX9_multiplyAt_25 rfl rfl rfl ?_
        refine x_ic_le (tgt := 31) dX9_multiplyAt_26 rfl rfl (fun c26 => ?_) (fun c26 => ?_)
        · rcases hn with z | z | z | z
          · exact absurd z c12
          · exact absurd z c17
          · exact absurd z c21
          · exact absurd z (Int32.not_lt.mpr c26)
        · refine x_iconst dX9_multiplyAt_29 rfl iC_m1 ?_
          refine x_ireturn dX9_multiplyAt_30 rfl rfl ?_
          exact K
end UNITS

