/-! EightParts: units -/
theorem RX.mk2 {b b2 : Bool} {h h2 : xH} {rw0 rw1 : Nat → Nat} {mk mk1 : Nat → Option Nat} {r r2 p v N c : Nat} {g : Nat → Int32} {s2 : mS} (hI : RX b h rw0 mk r p v N c g) (h1 : lsC h2 rw1 mk1) (hu : uP b2 h2 r2) (hi : uI h2 s2) (hn : h.2 ≤ h2.2) (st : ∀ a, a = 53 ∨ a = 55 ∨ a = 104 ∨ a = 105 → h2.1 a = h.1 a) (big : ∀ a t n F, 134 ≤ a → a < h.2 → h.1 a = (t, n, F) → ¬ (t = 0 ∧ (n = 240 ∨ n = 14400)) → h2.1 a = h.1 a) : RX b2 h2 rw1 mk1 r2 p v N c g := by
  obtain ⟨i1, i2, -, i4, i5⟩ := hI
  refine ⟨h1, hu, ⟨s2, hi⟩, ?_, ?_⟩
  · have n53 := st 53 (by omega)
    have n55 : iv h2 55 = iv h 55 := by unfold iv; rw [st 55 (by omega)]
    rcases i4 with ⟨q1, q2, q3⟩ | ⟨⟨q1, q2, q3, q4, q5⟩, q6⟩
    · exact Or.inl ⟨q1, by rw [n53]; exact q2, fun i hi => by rw [n55]; exact q3 i hi⟩
    · refine Or.inr ⟨⟨by rw [n53]; exact q1, q2, by omega, (big p _ _ _ q2 (by omega) q4 (by omega)).trans q4, fun i hi => ?_⟩, fun i hi => by rw [n55]; exact q6 i hi⟩
      have := q5 i hi
      have e := big (p + 1 + i) _ _ _ (by omega) (by omega) this (by omega)
      unfold xV8 at this ⊢
      unfold iv at this ⊢
      rw [e]
      exact this
  · obtain ⟨q1, q2, q3, q4, q5, q6, q7⟩ := i5
    have n104 := st 104 (by omega)
    refine ⟨by rw [n104]; exact q1, by rw [n104]; exact q2, by rw [n104]; exact q3, q4, by omega, ?_, q7⟩
    rcases q4 with e | e
    · rw [e] at q6 ⊢
      rw [st 105 (by omega)]
      exact q6
    · rw [big v _ _ _ e q5 q6 (by omega)]
      exact q6
/-- cells that the units may change -/
def unP (a : Nat) : Prop := a = 11 ∨ (23 ≤ a ∧ a ≤ 36) 
theorem RC.mk2 {b b2 : Bool} {h h2 : xH} {S : St} {rw0 rw1 : Nat → Nat} {mk mk1 : Nat → Option Nat} {r r2 p v N c m : Nat} {g : Nat → Int32} {s2 : mS} (hR : RC b h S) (hI : RX b h rw0 mk r p v N c g) (hC : Cs h2) (h1 : lsC h2 rw1 mk1) (hu : uP b2 h2 r2) (hi : uI h2 s2) (hn : h.2 ≤ h2.2) (hm : h2.2 ≤ h.2 + m) (hm2 : m ≤ 200) (st : ∀ a, a < 134 → ¬ unP a → h2.1 a = h.1 a) (big : ∀ a, 134 ≤ a → a < h.2 → a ≠ rw0 1 → (b = true → a ≠ r) → h2.1 a = h.1 a) : RC b2 h2 S ∧ mF h h2 ∧ (mk1 1 = some S.2.1 → RCn b2 1 h2 S) ∧ RX b2 h2 rw1 mk1 r2 p v N c g := by
  have hI2 : RX b2 h2 rw1 mk1 r2 p v N c g := by
    refine hI.mk2 h1 hu hi hn (fun a ha => st a (by omega) (by unfold unP; omega)) (fun a t n F q1 q2 q3 q4 => big a q1 q2 (fun e => ?_) (fun eb e => ?_))
    · rcases (hI.1.2 1 (by decide)).1 with ⟨a1, -⟩ | ⟨a1, -, f, -, -, a4, -⟩
      · omega
      · rw [← e, q3] at a4
        have e1 := congrArg Prod.fst a4
        have e2 := congrArg (fun z => z.2.1) a4
        exact q4 ⟨e1, Or.inl e2⟩
    · subst eb
      obtain ⟨-, -, -, pf, gg, -, p5, -⟩ := hI.2.1
      rw [← e, q3] at p5
      have e1 := congrArg Prod.fst p5
      have e2 := congrArg (fun z => z.2.1) p5
      exact q4 ⟨e1, Or.inr e2⟩
  have hR2 : RC b2 h2 S := ⟨hC, hR.2.1.keep (st 14 (by decide) (by unfold unP; omega)) (fun j hj => st _ (by omega) (by unfold unP; omega)) (st 56 (by decide) (by unfold unP; omega)) (st 57 (by decide) (by unfold unP; omega)) (st 101 (by decide) (by unfold unP; omega)) (st 102 (by decide) (by unfold unP; omega)) (st 103 (by decide) (by unfold unP; omega)), rw1, mk1, r2, p, v, N, c, g, hI2⟩
  exact ⟨hR2, ⟨fun a a1 a2 => st a (by omega) (by unfold unP; omega), hn, by omega⟩, fun e => ⟨hR2, rw1, mk1, r2, p, v, N, c, g, hI2, e⟩, hI2⟩
def kD (b b2 : Bool) : Nat := kB b - kB b2
def nD (b b2 : Bool) : Nat := nB b - nB b2
section PUB
variable {G : xG} {l : Launch} {d : Nat} {h : xH} {Q : Option Value → xH → Prop} {b : Bool} {S : St}
theorem c_mulNegB {b : Bool} {r o fi fk : Nat} {rw0 : Nat → Nat} {mk : Nat → Option Nat} (hd : 4 ≤ d) (hU : uGb b h o r rw0 mk) (f1 : fi < 120) (f2 : fk < 120)
    (K : ∀ h2, uG h2 o r rw0 mk → xGw [11, 31, 32, 33, r] (kB b) h h2 → (∀ q, q ≠ 4 → q ≠ 5 → (h2.1 31).2.2 q = (h.1 31).2.2 q) → Q (some (.int (zMN o fi fk))) h2) : xCt G l mX9_multiplyNegative d [.ref 31, .int (nI fi), .int (nI fk)] h (kB b) (nB b) Q := by
  cases b with
  | true =>
    obtain ⟨hC, ho, ho8, hL, hmk, hr, hne, h4, pf, g, h5, hrow, hV, hrl⟩ := hU
    rcases (hL.2 1 (by decide)).1 with ⟨a1, a2, a3⟩ | ⟨a1, a2, gl, o', a3, a4, a5, a6, a7, a8⟩
    · rw [a2] at hmk
      cases hmk
    · obtain rfl : o' = o := Option.some.inj (a5.symm.trans hmk)
      refine c_mulNeg1 hd hC ho hr h4 h5 hrow hL.1 a1 (hne 1 (by decide)) a4 a7 a8 (hV o' ho8) f1 f2 (fun h2 g2 k1 k2 k3 k4 k5 k6 => K h2 ⟨k1, ?_, ho8, ?_, hmk, hr, hne, (k4 4 (by decide)).trans h4, _, g2, k3, k5, fun o2 h8 e => ?_, by rw [k2.1]; exact hrl⟩ k2.gw (fun q _ q5 => k4 q q5))
      · unfold hOrd
        rw [k2.2 14 (by simp; omega)]
        exact ho
      · exact hL.keep hC.1 (by rw [k2.1]; exact Nat.le_refl _) (k2.2 23 (by simp; omega)) (k2.2 28 (by simp; omega)) (k2.2 29 (by simp; omega)) (fun m hm q1 q2 => k2.2 (rw0 m) (by have := hne m hm; simp; omega))
      · obtain rfl : o' = o2 := (nI_eq (by omega) (by omega)).mp e
        exact k6
  | false =>
    obtain ⟨hC, ho, ho8, hL, hmk, rfl, h4, h5, hm0⟩ := hU
    have h134 := hC.1
    rcases (hL.2 1 (by decide)).1 with ⟨a1, a2, a3⟩ | ⟨a1, a2, gl, o', a3, a4, a5, a6, a7, a8⟩
    · rw [a2] at hmk
      cases hmk
    · obtain rfl : o' = o := Option.some.inj (a5.symm.trans hmk)
      refine xCt_of (by decide) (Nat.le_of_ble_eq_true rfl) ?_
      have k1e : kB false = 1 := rfl
      have n1e : nB false = 14400 := rfl
      refine x_aload_n (i := 0) dX9_multiplyNegative_0 rfl rfl rfl ?_
      refine x_callV (ci := 9) (b := 31) (As := []) (d2 := d - 1) (mc2 := 1) (ms2 := 14400) (k2 := 0) (n2 := 0) dX9_multiplyNegative_1 rfl kX9_93 okX9_makeRoom (hC.o rfl) (fun q hq => by cases hq; rfl) (by omega) rfl rfl (Nat.le_of_ble_eq_true rfl) (by omega) (by omega) (c_room0 (by omega) hC hm0 ho ho8 h4 h5 (fun h1 hC1 n1 fr f4 f5 fo row => ?_))
      have o1 : hOrd h1 o' := by unfold hOrd; rw [fr 14 (by omega) (by decide)]; exact ho
      refine x_to (w_mulNeg (r := h.2) (rw0 := rw0) (gl := gl) (by omega) hC1 h134 f4 row ((fr 23 (by omega) (by decide)).trans hL.1) a1 (by omega) ((fr (rw0 1) a2 (by omega)).trans a4) (by unfold iv; rw [fr 28 (by omega) (by decide)]; exact a7) a8 (fun i k _ _ => Or.inl rfl) f1 f2 (fun h2 g2 k1 k2 k3 k4 => K h2 ⟨k1, ?_, ho8, ?_, hmk, h134, fun m hm => ?_, ?_, nI o', g2, ?_, k3, fun o2 h8 e => ?_, by rw [k2.1, n1]; omega⟩ ⟨by rw [k2.1, n1]; omega, by rw [k2.1, n1]; exact Nat.le_refl _, fun a ha na => ?_⟩ (fun q q4 q5 => ?_))) ⟨rfl, rfl, rfl, trivial⟩
      · unfold hOrd
        rw [k2.2 14 (by simp; omega)]
        exact o1
      · exact hL.keep h134 (by rw [k2.1, n1]; omega) (by rw [k2.2 23 (by simp; omega), fr 23 (by omega) (by decide)]) (by rw [k2.2 28 (by simp; omega), fr 28 (by omega) (by decide)]) (by rw [k2.2 29 (by simp; omega), fr 29 (by omega) (by decide)]) (fun m hm q1 q2 => by rw [k2.2 (rw0 m) (by simp; omega), fr (rw0 m) q2 (by omega)])
      · have := hL.ltr h134 hm
        omega
      · rw [k2.2 31 (by simp; omega)]
        exact f4
      · rw [k2.2 31 (by simp; omega)]
        exact f5
      · obtain rfl : o' = o2 := (nI_eq (by omega) (by omega)).mp e
        exact k4
      · simp at na
        rw [k2.2 a (by simp; omega), fr a ha (by omega)]
      · rw [k2.2 31 (by simp; omega)]
        exact fo q q4 q5
/-- multiplyAt, from where it knows how many there are -/
theorem w_mulAt8 {o i k mc ms : Nat} {Good : xH → Prop} (hC : Cs h) (hd : 1 ≤ d) (hi : i < (zLst o 1).1) (hk : k < (zLst o 1).1)
    (hmn : ∀ fi fk, fi < 120 → fk < 120 → ∀ Q2 : Option Value → xH → Prop, (∀ h2, Good h2 → Q2 (some (.int (zMN o fi fk))) h2) → xCt G l mX9_multiplyNegative (d - 1) [.ref 31, .int (nI fi), .int (nI fk)] h mc ms Q2)
    (K : ∀ h2, Good h2 → Q (some (.int (zMA o i k))) h2) : xWP G l mX9_multiplyAt d (zM G Q) mc ms 8 (xls [(0, .ref 31), (1, .int (nI i)), (2, .int (nI k))]) [.int (nI (zLst o 1).1)] h := by
  have hsN : (zLst o 1).1 ≤ 240 := zLst_le o 1
  unfold zMA at K
  generalize hsz0 : (zLst o 1).1 = sz at *
  refine x_iconst dX9_multiplyAt_8 rfl iC_1 ?_
  refine x_isub dX9_multiplyAt_9 rfl ?_
  rw [show nI sz - nI 1 = nI (sz - 1) from pk_sub (by omega)]
  refine x_istore_n (i := 3) dX9_multiplyAt_10 rfl rfl (by decide) ?_
  refine x_iload_n (i := 1) dX9_multiplyAt_11 rfl rfl rfl ?_
  refine x_if_lt_f (tgt := 29) dX9_multiplyAt_12 rfl rfl (nI_pos (by omega)) ?_
  refine x_iload_n (i := 1) dX9_multiplyAt_15 rfl rfl rfl ?_
  refine x_iload_n (i := 3) dX9_multiplyAt_16 rfl rfl rfl ?_
  refine x_ic_gt_f (tgt := 29) dX9_multiplyAt_17 rfl rfl (nI_nlt (by omega) (by omega)) ?_
  refine x_iload_n (i := 2) dX9_multiplyAt_20 rfl rfl rfl ?_
  refine x_if_lt_f (tgt := 29) dX9_multiplyAt_21 rfl rfl (nI_pos (by omega)) ?_
  refine x_iload_n (i := 2) dX9_multiplyAt_24 rfl rfl rfl ?_
  refine x_iload_n (i := 3) dX9_multiplyAt_25 rfl rfl rfl ?_
  refine x_ic_le_t (tgt := 31) dX9_multiplyAt_26 rfl (nI_le (by omega) (by omega)) ?_
  refine x_iload_n (i := 1) dX9_multiplyAt_31 rfl rfl rfl ?_
  refine x_iload_n (i := 3) dX9_multiplyAt_32 rfl rfl rfl ?_
  refine x_iload_n (i := 1) dX9_multiplyAt_33 rfl rfl rfl ?_
  refine x_isub dX9_multiplyAt_34 rfl ?_
  rw [show nI (sz - 1) - nI i = nI (sz - 1 - i) from pk_sub (by omega)]
  refine x_callS0 (As := [_, _]) (d2 := d - 1) dX9_multiplyAt_35 rfl kX9_49 okJ9_min_7cf53 (by omega) rfl rfl (Nat.le_of_ble_eq_true rfl) (c_minI (by omega) (by omega) ?_)
  refine x_istore dX9_multiplyAt_38 rfl (by decide) ?_
  refine x_iload_n (i := 2) dX9_multiplyAt_40 rfl rfl rfl ?_
  refine x_iload_n (i := 3) dX9_multiplyAt_41 rfl rfl rfl ?_
  refine x_iload_n (i := 2) dX9_multiplyAt_42 rfl rfl rfl ?_
  refine x_isub dX9_multiplyAt_43 rfl ?_
  rw [show nI (sz - 1) - nI k = nI (sz - 1 - k) from pk_sub (by omega)]
  refine x_callS0 (As := [_, _]) (d2 := d - 1) dX9_multiplyAt_44 rfl kX9_49 okJ9_min_7cf53 (by omega) rfl rfl (Nat.le_of_ble_eq_true rfl) (c_minI (by omega) (by omega) ?_)
  refine x_istore dX9_multiplyAt_47 rfl (by decide) ?_
  refine x_aload_n (i := 0) dX9_multiplyAt_49 rfl rfl rfl ?_
  refine x_iload dX9_multiplyAt_50 rfl rfl ?_
  refine x_iload dX9_multiplyAt_52 rfl rfl ?_
  have m1 : min i (sz - 1 - i) < 120 := by omega
  have m2 : min k (sz - 1 - k) < 120 := by omega
  have l1 : min i (sz - 1 - i) < 2147483648 := by omega
  have l2 : min k (sz - 1 - k) < 2147483648 := by omega
  generalize min i (sz - 1 - i) = fi at *
  generalize min k (sz - 1 - k) = fk at *
  refine x_callV (ci := 9) (b := 31) (As := [_, _]) (d2 := d - 1) (mc2 := mc) (ms2 := ms) (k2 := 0) (n2 := 0) dX9_multiplyAt_54 rfl kX9_55 okX9_multiplyNegative (hC.o rfl) (fun q hq => by cases hq; rfl) (by omega) rfl rfl (Nat.le_of_ble_eq_true rfl) (by omega) (by omega) (hmn fi fk m1 m2 _ (fun h2 hg => ?_))
  have kk := K h2 hg
  generalize zMN o fi fk = mn at *
  have fd : (((fi = i ↔ fk = k) ∨ mn = -1) → xWP G l mX9_multiplyAt d (zM G Q) 0 0 90 (xls [(0, .ref 31), (1, .int (nI i)), (2, .int (nI k)), (3, .int (nI (sz - 1))), (4, .int (nI fi)), (5, .int (nI fk)), (6, .int mn)]) [] h2) := by
    intro z
    rw [if_pos z] at kk
    refine x_iload dX9_multiplyAt_90 rfl rfl ?_
    refine x_goto (tgt := 99) dX9_multiplyAt_92 rfl ?_
    refine x_ireturn dX9_multiplyAt_99 rfl rfl ?_
    exact kk
  have w84 : ¬ (fi = i ↔ fk = k) → xWP G l mX9_multiplyAt d (zM G Q) 0 0 84 (xls [(0, .ref 31), (1, .int (nI i)), (2, .int (nI k)), (3, .int (nI (sz - 1))), (4, .int (nI fi)), (5, .int (nI fk)), (6, .int mn)]) [] h2 := by
    intro z
    refine x_iload dX9_multiplyAt_84 rfl rfl ?_
    refine x_iconst dX9_multiplyAt_86 rfl iC_m1 ?_
    refine x_ic_ne (tgt := 95) dX9_multiplyAt_87 rfl rfl (fun c87 => ?_) (fun c87 => ?_)
    · rw [if_neg (by rintro (y | y); exact z y; exact c87 y)] at kk
      refine x_iload_n (i := 3) dX9_multiplyAt_95 rfl rfl rfl ?_
      refine x_iload dX9_multiplyAt_96 rfl rfl ?_
      refine x_isub dX9_multiplyAt_98 rfl ?_
      refine x_ireturn dX9_multiplyAt_99 rfl rfl ?_
      exact kk
    · exact x_to (fd (Or.inr c87)) ⟨rfl, rfl, rfl, rfl, rfl, rfl, rfl, trivial⟩
  refine x_istore dX9_multiplyAt_57 rfl (by decide) ?_
  refine x_iload dX9_multiplyAt_59 rfl rfl ?_
  refine x_iload_n (i := 1) dX9_multiplyAt_61 rfl rfl rfl ?_
  refine x_jc_ne (tgt := 69) dX9_multiplyAt_62 rfl rfl (by omega) (by omega) (fun c62 => ?_) (fun c62 => ?_)
  · refine x_iconst dX9_multiplyAt_69 rfl iC_0 ?_
    refine x_iload dX9_multiplyAt_70 rfl rfl ?_
    refine x_iload_n (i := 2) dX9_multiplyAt_72 rfl rfl rfl ?_
    refine x_jc_ne (tgt := 80) dX9_multiplyAt_73 rfl rfl (by omega) (by omega) (fun c73 => ?_) (fun c73 => ?_)
    · refine x_iconst dX9_multiplyAt_80 rfl iC_0 ?_
      refine x_ic_eq_t (tgt := 90) dX9_multiplyAt_81 rfl rfl ?_
      exact x_to (fd (Or.inl ⟨fun e => absurd e c62, fun e => absurd e c73⟩)) ⟨rfl, rfl, rfl, rfl, rfl, rfl, rfl, trivial⟩
    · refine x_iconst dX9_multiplyAt_76 rfl iC_1 ?_
      refine x_goto (tgt := 81) dX9_multiplyAt_77 rfl ?_
      refine x_ic_eq_f (tgt := 90) dX9_multiplyAt_81 rfl rfl (by decide) ?_
      exact x_to (w84 (fun z => c62 (z.mpr c73))) ⟨rfl, rfl, rfl, rfl, rfl, rfl, rfl, trivial⟩
  · refine x_iconst dX9_multiplyAt_65 rfl iC_1 ?_
    refine x_goto (tgt := 70) dX9_multiplyAt_66 rfl ?_
    refine x_iload dX9_multiplyAt_70 rfl rfl ?_
    refine x_iload_n (i := 2) dX9_multiplyAt_72 rfl rfl rfl ?_
    refine x_jc_ne (tgt := 80) dX9_multiplyAt_73 rfl rfl (by omega) (by omega) (fun c73 => ?_) (fun c73 => ?_)
    · refine x_iconst dX9_multiplyAt_80 rfl iC_0 ?_
      refine x_ic_eq_f (tgt := 90) dX9_multiplyAt_81 rfl rfl (by decide) ?_
      exact x_to (w84 (fun z => c73 (z.mp c62))) ⟨rfl, rfl, rfl, rfl, rfl, rfl, rfl, trivial⟩
    · refine x_iconst dX9_multiplyAt_76 rfl iC_1 ?_
      refine x_goto (tgt := 81) dX9_multiplyAt_77 rfl ?_
      refine x_ic_eq_t (tgt := 90) dX9_multiplyAt_81 rfl rfl ?_
      exact x_to (fd (Or.inl ⟨fun _ => c73, fun _ => c62⟩)) ⟨rfl, rfl, rfl, rfl, rfl, rfl, rfl, trivial⟩
end PUB

