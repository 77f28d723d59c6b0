/-! EightParts: lists -/
theorem zRoom_8 : ∀ k, k < 4 → zRoom k ≠ 8 ∧ zRoom k ≠ 14400 := by decide
def RCn (b : Bool) (norm : Nat) (h : xH) (S : St) : Prop := RC b h S ∧ RIm b h norm S.2.1
theorem RCn.sc {b : Bool} {norm : Nat} {h h2 : xH} {S : St} (hR : RCn b norm h S) (hC : Cs h2) (hS : xSq scP h h2) : RCn b norm h2 S := by
  refine ⟨hR.1.sc hC hS, ?_⟩
  obtain ⟨rw0, mk, r, p, v, N, c, g, i, e⟩ := hR.2
  exact ⟨rw0, mk, r, p, v, N, c, g, i.keep hR.1.1.1 (by rw [hS.1]; exact Nat.le_refl _) (fun a _ ha => hS.2 a (fun z => ha (Or.inl z))), e⟩
/-- behind manyOf -/
theorem RX.lsG {b : Bool} {h h2 : xH} {rw0 : Nat → Nat} {mk : Nat → Option Nat} {r p v N c o norm m : Nat} {g : Nat → Int32} (hI : RX b h rw0 mk r p v N c g) (h134 : 134 ≤ h.2) (hnm : norm < 4) (hg : lsG h o norm rw0 mk m h2) : ∃ rw1 mk1, RX b h2 rw1 mk1 r p v N c g ∧ mk1 norm = some o := by
  obtain ⟨i1, i2, ⟨s, i3⟩, i4, i5⟩ := hI
  obtain ⟨hC2, rw1, mk1, g1, g2, g3, g4, -, g5⟩ := hg
  obtain ⟨z8, z9⟩ := zRoom_8 norm hnm
  have rwc : rw0 norm = 24 + norm ∨ (134 ≤ rw0 norm ∧ ∃ f, h.1 (rw0 norm) = (0, zRoom norm, xI f)) := by
    rcases (i1.2 norm hnm).1 with ⟨a1, -⟩ | ⟨a1, -, f, -, -, a4, -⟩
    · exact Or.inl a1
    · exact Or.inr ⟨a1, f, a4⟩
  have st : ∀ a, a < 134 → a ∉ [23, 24, 25, 26, 27, 28, 29, 30] → h2.1 a = h.1 a := by
    intro a ha hn
    simp only [List.mem_cons, List.not_mem_nil, or_false, not_or] at hn
    refine g5 a (by omega) ?_
    simp only [List.mem_cons, List.not_mem_nil, or_false, not_or]
    rcases rwc with q | ⟨q, -⟩ <;> omega
  have big : ∀ a t n F, 134 ≤ a → a < h.2 → h.1 a = (t, n, F) → ¬ (t = 0 ∧ n = zRoom norm) → h2.1 a = h.1 a := by
    intro a t n F h1 h3 h4 h5
    refine g5 a h3 ?_
    simp only [List.mem_cons, List.not_mem_nil, or_false, not_or]
    refine ⟨by omega, by omega, by omega, by omega, fun e => ?_⟩
    rcases rwc with q | ⟨q, f, hf⟩
    · omega
    · rw [← e, h4] at hf
      have e1 := congrArg Prod.fst hf
      have e2 := congrArg (fun z => z.2.1) hf
      exact h5 ⟨e1, e2⟩
  have n31 := st 31 (by decide) (by decide)
  refine ⟨rw1, mk1, ⟨g1, ?_, ⟨s, ?_⟩, ?_, ?_⟩, g2⟩
  · refine i2.keep g4 (by rw [n31]) (by rw [n31]) (fun eb q1 q2 => ?_)
    subst eb
    obtain ⟨-, -, -, pf, gg, -, p5, -⟩ := i2
    exact big r _ _ _ q1 q2 p5 (by omega)
  · exact i3.keep (by rw [n31]) (by unfold iv; rw [st 35 (by decide) (by decide)]) (by unfold iv; rw [st 36 (by decide) (by decide)])
  · have n53 := st 53 (by decide) (by decide)
    have n55 : iv h2 55 = iv h 55 := by unfold iv; rw [st 55 (by decide) (by decide)]
    rcases i4 with ⟨q1, q2, q3⟩ | ⟨⟨q1, q2, q3, q4, q5⟩, q6⟩
    · exact Or.inl ⟨q1, by rw [n53]; exact q2, fun i hi => by rw [n55]; exact q3 i hi⟩
    · refine Or.inr ⟨⟨by rw [n53]; exact q1, q2, by omega, (big p _ _ _ q2 (by omega) q4 (by omega)).trans q4, fun i hi => ?_⟩, fun i hi => by rw [n55]; exact q6 i hi⟩
      have := q5 i hi
      have e := big (p + 1 + i) _ _ _ (by omega) (by omega) this (by omega)
      unfold xV8 at this ⊢
      unfold iv at this ⊢
      rw [e]
      exact this
  · obtain ⟨q1, q2, q3, q4, q5, q6, q7⟩ := i5
    have n104 := st 104 (by decide) (by decide)
    refine ⟨by rw [n104]; exact q1, by rw [n104]; exact q2, by rw [n104]; exact q3, q4, by omega, ?_, q7⟩
    rcases q4 with e | e
    · rw [e] at q6 ⊢
      rw [st 105 (by decide) (by decide)]
      exact q6
    · rw [big v _ _ _ e q5 q6 (by omega)]
      exact q6
theorem RC.lsG {b : Bool} {h h2 : xH} {S : St} {rw0 : Nat → Nat} {mk : Nat → Option Nat} {r p v N c norm : Nat} {g : Nat → Int32} (hR : RC b h S) (hI : RX b h rw0 mk r p v N c g) (hnm : norm < 4) (hg : lsG h S.2.1 norm rw0 mk 1 h2) : RCn b norm h2 S ∧ mF h h2 ∧ ∀ a, a < 134 → a ∉ [23, 24, 25, 26, 27, 28, 29, 30] → h2.1 a = h.1 a := by
  obtain ⟨rw1, mk1, x1, x2⟩ := hI.lsG hR.1.1 hnm hg
  have h134 := hR.1.1
  have hL := hI.1
  obtain ⟨hC2, -, -, -, -, -, g4, g5, g6⟩ := hg
  have st : ∀ a, a < 134 → a ∉ [23, 24, 25, 26, 27, 28, 29, 30] → h2.1 a = h.1 a := by
    intro a ha hn
    simp only [List.mem_cons, List.not_mem_nil, or_false, not_or] at hn
    refine g6 a (by omega) ?_
    simp only [List.mem_cons, List.not_mem_nil, or_false, not_or]
    rcases (hL.2 norm hnm).1 with ⟨a1, -⟩ | ⟨a1, -⟩ <;> omega
  refine ⟨⟨⟨hC2, hR.2.1.keep (st 14 (by decide) (by decide)) (fun j hj => st _ (by omega) (by simp only [List.mem_cons, List.not_mem_nil, or_false, not_or]; omega)) (st 56 (by decide) (by decide)) (st 57 (by decide) (by decide)) (st 101 (by decide) (by decide)) (st 102 (by decide) (by decide)) (st 103 (by decide) (by decide)), rw1, mk1, r, p, v, N, c, g, x1⟩, rw1, mk1, r, p, v, N, c, g, x1, x2⟩, ⟨fun a a1 a2 => st a (by omega) (by simp only [List.mem_cons, List.not_mem_nil, or_false, not_or]; omega), g4, by omega⟩, st⟩
theorem zBd_up (p : Int32) : zBd (zUp p) := by
  intro j _
  unfold zUp
  rw [pk_and _ (m := nI 15) 4 (by decide)]
  generalize (p >>> ((nI 28 - nI 4 * nI j) &&& 31)).toBitVec.toNat = x
  have h1 : x % 2 ^ 4 < 16 := Nat.mod_lt _ (by decide)
  have e1 : (nI (x % 2 ^ 4)).toInt = ((x % 2 ^ 4 : Nat) : Int) := nI_toInt (by omega)
  have e2 : (nI 4).toInt = 4 := rfl
  rw [fb_subI (by omega) (by omega)]
  omega
/-- a listed one -/
def zEl (o norm k : Nat) : Nat → Int32 := zUp ((zLst o norm).2 k)
section PUB
variable {G : xG} {l : Launch} {d : Nat} {h : xH} {Q : Option Value → xH → Prop} {b : Bool} {S : St}
theorem q_many {norm : Nat} (hd : 10 ≤ d) (hR : RC b h S) (hm : h.2 < 800000) (hnm : norm < 4) (K : ∀ h2, RCn b norm h2 S → mF h h2 → (∀ a, a < 134 → a ∉ [23, 24, 25, 26, 27, 28, 29, 30] → h2.1 a = h.1 a) → Q (some (.int (nI (zLst S.2.1 norm).1))) h2) : xCt G l mX4_manyOf d [.ref 22, .int (nI norm)] h 1 (zRoom norm) Q := by
  obtain ⟨rw0, mk, r, p, v, N, c, g, hI⟩ := hR.2.2
  refine c_manyX hd hR.1 (by omega) hR.o.2 hR.o.1 hnm hI.1 (fun h2 hg => ?_)
  obtain ⟨k1, k2, k3⟩ := hR.lsG hI hnm hg
  exact K h2 k1 k2 k3
theorem q_manyC {norm : Nat} (hR : RCn b norm h S) (hnm : norm < 4) (K : Q (some (.int (nI (zLst S.2.1 norm).1))) h) : xCt G l mX4_manyOf d [.ref 22, .int (nI norm)] h 0 0 Q := by
  obtain ⟨rw0, mk, r, p, v, N, c, g, hI, e⟩ := hR.2
  exact c_lmanyOfC hR.1.1 hR.1.o.2 hR.1.o.1 hnm hI.1 e K
/-- one of a list that is there -/
theorem q_takeC {a norm j : Nat} (hd : 2 ≤ d) (hR : RCn b norm h S) (hnm : norm < 4) (ha : csV a) (hj : j < (zLst S.2.1 norm).1) (K : Q (some (.int (nI 1))) (hs h a (0, 8, xI (zEl S.2.1 norm j)))) : xCt G l mX4_take d [.ref 22, .ref a, .int (nI norm), .int (nI j)] h 0 0 Q := by
  have hR0 := hR
  have sm := zLst_sm (o := S.2.1) hnm
  obtain ⟨rw0, mk, r, p, v, N, c, g, hI, e⟩ := hR.2
  refine c_ltake (Good := fun h2 => h2 = h) hd hR.1.1 hR.1.o.1 hnm (fun Q2 K2 => q_manyC hR0 hnm (K2 h rfl)) (fun h2 eh => by rw [eh]; exact ⟨hR.1.1, ⟨rw0, mk, hI.1, e⟩, _, hR.1.1.v ha⟩) (fun j2 h2 ej hj2 eh => ?_) (fun z => absurd z (nI_pos (by omega))) (fun h2 _ z => absurd z (nI_ge hj (by omega)))
  rw [eh]
  obtain rfl : j = j2 := (nI_eq (by omega) (by omega)).mp ej
  exact K
noncomputable def sp_many (S : St) (n : Int32) : Int32 × St := match eB 0 3 n with
  | none => (-1, S)
  | some norm => (nI (zLst S.2.1 norm).1, S)
noncomputable def sp_listed (S : St) (a n k : Int32) : Int32 × St := match sE a with
  | none => (0, S)
  | some t => match eB 0 3 n with
    | none => (0, S)
    | some norm => if 0 ≤ k.toInt ∧ k.toInt < (zLst S.2.1 norm).1 then (1, sSet S t (zEl S.2.1 norm k.toInt.toNat)) else (0, S)
noncomputable def sp_listedPart (S : St) (n k p : Int32) : Int32 × St := match eB 0 3 n with
  | none => (-30000, S)
  | some norm => match sE p with
    | none => (-30000, S)
    | some q => if 0 ≤ k.toInt ∧ k.toInt < (zLst S.2.1 norm).1 then (zEl S.2.1 norm k.toInt.toNat q, S) else (-30000, S)
theorem kIn {k : Int32} {j sz : Nat} (h : k = nI j) (hj : j < sz) (hs : sz ≤ 6720) : 0 ≤ k.toInt ∧ k.toInt < sz ∧ k.toInt.toNat = j := by
  subst h
  rw [nI_toInt (by omega)]
  omega
theorem kNo0 {k : Int32} {sz : Nat} (h : k < 0) : ¬ (0 ≤ k.toInt ∧ k.toInt < (sz : Int)) := by
  have := Int32.lt_iff_toInt_lt.mp h
  have e : (0 : Int32).toInt = 0 := rfl
  omega
theorem kNo1 {k : Int32} {sz : Nat} (hs : sz ≤ 6720) (h : nI sz ≤ k) : ¬ (0 ≤ k.toInt ∧ k.toInt < (sz : Int)) := by
  have := Int32.le_iff_toInt_le.mp h
  rw [nI_toInt (by omega)] at this
  omega
/-- one of a list, whether it is there or not -/
theorem q_take {a norm : Nat} {k : Int32} (hd : 12 ≤ d) (hR : RC b h S) (hm : h.2 < 800000) (hnm : norm < 4) (ha : csV a) (ha2 : a < 22 ∨ 30 < a)
    (Kt : ∀ j h2, k = nI j → j < (zLst S.2.1 norm).1 → RCn b norm h2 S → mF h h2 → (∀ a, a < 134 → a ∉ [23, 24, 25, 26, 27, 28, 29, 30] → h2.1 a = h.1 a) → Q (some (.int (nI 1))) (hs h2 a (0, 8, xI (zEl S.2.1 norm j)))) (Kf : ¬ (0 ≤ k.toInt ∧ k.toInt < ((zLst S.2.1 norm).1 : Int)) → ∀ h2, RC b h2 S → mF h h2 → Q (some (.int (nI 0))) h2) : xCt G l mX4_take d [.ref 22, .ref a, .int (nI norm), .int k] h 1 (zRoom norm) Q := by
  have sm := zLst_sm (o := S.2.1) hnm
  obtain ⟨rw0, mk, r, p, v, N, c, g, hI⟩ := hR.2.2
  refine c_ltake (Good := fun h2 => lsG h S.2.1 norm rw0 mk 1 h2) (by omega) hR.1 hR.o.1 hnm (fun Q2 K2 => c_manyX (by omega) hR.1 (by omega) hR.o.2 hR.o.1 hnm hI.1 K2) (fun h2 hg => ?_) (fun j h2 ej hj hg => ?_) (fun z => Kf (kNo0 z) h hR mF.rf) (fun h2 hg z => ?_)
  · obtain ⟨k1, k2, k3⟩ := hR.lsG hI hnm hg
    obtain ⟨rw1, mk1, _, _, _, _, _, _, i1, e⟩ := k1.2
    exact ⟨k1.1.1, ⟨rw1, mk1, i1.1, e⟩, _, k1.1.1.v ha⟩
  · obtain ⟨k1, k2, k3⟩ := hR.lsG hI hnm hg
    exact Kt j h2 ej hj k1 k2 k3
  · obtain ⟨k1, k2, k3⟩ := hR.lsG hI hnm hg
    exact Kf (kNo1 sm z) h2 k1.1 k2
theorem p_many {n : Int32} (hd : 20 ≤ d) (hR : RC b h S) (hm : h.2 < 800000) (K : ∀ r S2 h2, sp_many S n = (r, S2) → RC b h2 S2 → mF h h2 → Q (some (.int r)) h2) : xCt G l mX11_many d [.ref 0, .int n] h 1 6720 Q := by
  have hC := hR.1
  refine xCt_of (by decide) (Nat.le_of_ble_eq_true rfl) ?_
  refine x_iload_n (i := 1) dX11_many_0 rfl rfl rfl ?_
  refine x_callS0 (As := [_]) (d2 := d - 1) dX11_many_1 rfl kX11_125 okX11_isListedNorm (by omega) rfl rfl (Nat.le_of_ble_eq_true rfl) (c_isListedNorm (fun z => ?_) (fun x hx ex qx => ?_))
  · refine x_if_eq_t (tgt := 18) dX11_many_4 rfl nI_0 ?_
    refine x_iconst dX11_many_18 rfl iC_m1 ?_
    refine x_ireturn dX11_many_19 rfl rfl ?_
    exact K _ _ _ (by simp only [sp_many, z] <;> rfl) hR mF.rf
  subst ex
  refine x_if_eq_f (tgt := 18) dX11_many_4 rfl rfl nb1 ?_
  have rl := zRoom_le x hx
  refine x_aload_n (i := 0) dX11_many_7 rfl rfl rfl ?_
  refine x_getC dX11_many_8 rfl fX11_33 hC rfl F_0_3 ?_
  refine x_iload_n (i := 1) dX11_many_11 rfl rfl rfl ?_
  refine x_callV (ci := 4) (b := 22) (As := [_]) (d2 := d - 1) (mc2 := 1) (ms2 := zRoom x) (k2 := 0) (n2 := 0) dX11_many_12 rfl kX11_276 okX4_manyOf (hC.o rfl) (fun q hq => by cases hq; rfl) (by omega) rfl rfl (Nat.le_of_ble_eq_true rfl) (by omega) (by omega) (q_many (by omega) hR hm hx (fun h2 k1 k2 k3 => ?_))
  refine x_goto (tgt := 19) dX11_many_15 rfl ?_
  refine x_ireturn dX11_many_19 rfl rfl ?_
  exact K _ _ _ (by simp only [sp_many, qx]) k1.1 k2
theorem p_listed {a n k : Int32} (hd : 20 ≤ d) (hR : RC b h S) (hm : h.2 < 800000) (K : ∀ r S2 h2, sp_listed S a n k = (r, S2) → RC b h2 S2 → mF h h2 → Q (some (.int r)) h2) : xCt G l mX11_listed d [.ref 0, .int a, .int n, .int k] h 1 6720 Q := by
  have hC := hR.1
  refine xCt_of (by decide) (Nat.le_of_ble_eq_true rfl) ?_
  refine x_iload_n (i := 1) dX11_listed_0 rfl rfl rfl ?_
  refine x_callS0 (As := [_]) (d2 := d - 1) dX11_listed_1 rfl kX11_115 okX11_isEighth (by omega) rfl rfl (Nat.le_of_ble_eq_true rfl) (c_isEighth (fun z => ?_) (fun t ht et qt => ?_))
  · refine x_if_eq_t (tgt := 36) dX11_listed_4 rfl nI_0 ?_
    refine x_iconst dX11_listed_36 rfl iC_0 ?_
    refine x_ireturn dX11_listed_37 rfl rfl ?_
    exact K _ _ _ (by simp only [sp_listed, z] <;> rfl) hR mF.rf
  subst et
  refine x_if_eq_f (tgt := 36) dX11_listed_4 rfl rfl nb1 ?_
  refine x_iload_n (i := 2) dX11_listed_7 rfl rfl rfl ?_
  refine x_callS0 (As := [_]) (d2 := d - 1) dX11_listed_8 rfl kX11_125 okX11_isListedNorm (by omega) rfl rfl (Nat.le_of_ble_eq_true rfl) (c_isListedNorm (fun z => ?_) (fun x hx ex qx => ?_))
  · refine x_if_eq_t (tgt := 36) dX11_listed_11 rfl nI_0 ?_
    refine x_iconst dX11_listed_36 rfl iC_0 ?_
    refine x_ireturn dX11_listed_37 rfl rfl ?_
    exact K _ _ _ (by simp only [sp_listed, qt, z] <;> rfl) hR mF.rf
  subst ex
  refine x_if_eq_f (tgt := 36) dX11_listed_11 rfl rfl nb1 ?_
  have rl := zRoom_le x hx
  have sm := zLst_sm (o := S.2.1) hx
  refine x_aload_n (i := 0) dX11_listed_14 rfl rfl rfl ?_
  refine x_getC dX11_listed_15 rfl fX11_33 hC rfl F_0_3 ?_
  refine x_aload_n (i := 0) dX11_listed_18 rfl rfl rfl ?_
  refine x_getC dX11_listed_19 rfl fX11_11 hC rfl F_0_0 ?_
  refine x_iload_n (i := 1) dX11_listed_22 rfl rfl rfl ?_
  refine x_aaldC (t := 0) dX11_listed_23 rfl hC rfl (by decide) rfl (by omega) (by decide) (csF_slot ht) ?_
  refine x_iload_n (i := 2) dX11_listed_24 rfl rfl rfl ?_
  refine x_iload_n (i := 3) dX11_listed_25 rfl rfl rfl ?_
  refine x_callV (ci := 4) (b := 22) (As := [_, _, _]) (d2 := d - 1) (mc2 := 1) (ms2 := zRoom x) (k2 := 0) (n2 := 0) dX11_listed_26 rfl kX11_128 okX4_take (hC.o rfl) (fun q hq => by cases hq; rfl) (by omega) rfl rfl (Nat.le_of_ble_eq_true rfl) (by omega) (by omega) (q_take (by omega) hR hm hx (csV_slot ht) (by omega) (fun j h2 ej hj k1 k2 k3 => ?_) (fun z h2 k1 k2 => ?_))
  · refine x_if_eq_f (tgt := 36) dX11_listed_29 rfl rfl nb1 ?_
    refine x_iconst dX11_listed_32 rfl iC_1 ?_
    refine x_goto (tgt := 37) dX11_listed_33 rfl ?_
    refine x_ireturn dX11_listed_37 rfl rfl ?_
    obtain ⟨e1, e2, e3⟩ := kIn ej hj sm
    have hC2 := k1.1.1
    have vt := hC2.v (csV_slot ht)
    have sq : xSq (fun a => scP a ∨ a = 2 + t) h2 (hs h2 (2 + t) (0, 8, xI (zEl S.2.1 x j))) := xSm.hs1.sct (by intro q hq; simp only [List.mem_cons, List.not_mem_nil, or_false] at hq; unfold scP; omega)
    refine K _ _ _ ?_ (k1.1.set ht (hC2.setI vt (Or.inl rfl) (by omega)) sq (z := zEl S.2.1 x j) (by rw [iv_hs]) (zBd_up _)) ⟨fun a a1 a2 => by rw [hs_n (by omega)]; exact k2.1 a a1 a2, k2.2.1, k2.2.2⟩
    simp only [sp_listed, qt, qx]
    rw [if_pos ⟨e1, e2⟩, e3]
    rfl
  · refine x_if_eq_t (tgt := 36) dX11_listed_29 rfl nI_0 ?_
    refine x_iconst dX11_listed_36 rfl iC_0 ?_
    refine x_ireturn dX11_listed_37 rfl rfl ?_
    exact K _ _ _ (by simp only [sp_listed, qt, qx]; exact if_neg z) k1 k2
theorem p_listedPart {n k a : Int32} (hd : 20 ≤ d) (hR : RC b h S) (hm : h.2 < 800000) (K : ∀ r S2 h2, sp_listedPart S n k a = (r, S2) → RC b h2 S2 → mF h h2 → Q (some (.int r)) h2) : xCt G l mX11_listedPart d [.ref 0, .int n, .int k, .int a] h 1 6720 Q := by
  have hC := hR.1
  refine xCt_of (by decide) (Nat.le_of_ble_eq_true rfl) ?_
  refine x_iload_n (i := 1) dX11_listedPart_0 rfl rfl rfl ?_
  refine x_callS0 (As := [_]) (d2 := d - 1) dX11_listedPart_1 rfl kX11_125 okX11_isListedNorm (by omega) rfl rfl (Nat.le_of_ble_eq_true rfl) (c_isListedNorm (fun z => ?_) (fun x hx ex qx => ?_))
  · refine x_if_eq_t (tgt := 30) dX11_listedPart_4 rfl nI_0 ?_
    refine x_sipush dX11_listedPart_30 rfl sC_m30000 ?_
    refine x_ireturn dX11_listedPart_33 rfl rfl ?_
    exact K _ _ _ (by simp only [sp_listedPart, z] <;> rfl) hR mF.rf
  subst ex
  refine x_if_eq_f (tgt := 30) dX11_listedPart_4 rfl rfl nb1 ?_
  refine x_iload_n (i := 3) dX11_listedPart_7 rfl rfl rfl ?_
  refine x_callS0 (As := [_]) (d2 := d - 1) dX11_listedPart_8 rfl kX11_115 okX11_isEighth (by omega) rfl rfl (Nat.le_of_ble_eq_true rfl) (c_isEighth (fun z => ?_) (fun y hy ey qy => ?_))
  · refine x_if_eq_t (tgt := 30) dX11_listedPart_11 rfl nI_0 ?_
    refine x_sipush dX11_listedPart_30 rfl sC_m30000 ?_
    refine x_ireturn dX11_listedPart_33 rfl rfl ?_
    exact K _ _ _ (by simp only [sp_listedPart, qx, z] <;> rfl) hR mF.rf
  subst ey
  refine x_if_eq_f (tgt := 30) dX11_listedPart_11 rfl rfl nb1 ?_
  have rl := zRoom_le x hx
  have sm := zLst_sm (o := S.2.1) hx
  refine x_aload_n (i := 0) dX11_listedPart_14 rfl rfl rfl ?_
  refine x_getC dX11_listedPart_15 rfl fX11_33 hC rfl F_0_3 ?_
  refine x_aload_n (i := 0) dX11_listedPart_18 rfl rfl rfl ?_
  refine x_getC dX11_listedPart_19 rfl fX11_101 hC rfl F_0_12 ?_
  refine x_iload_n (i := 1) dX11_listedPart_22 rfl rfl rfl ?_
  refine x_iload_n (i := 2) dX11_listedPart_23 rfl rfl rfl ?_
  refine x_callV (ci := 4) (b := 22) (As := [_, _, _]) (d2 := d - 1) (mc2 := 1) (ms2 := zRoom x) (k2 := 0) (n2 := 0) dX11_listedPart_24 rfl kX11_128 okX4_take (hC.o rfl) (fun q hq => by cases hq; rfl) (by omega) rfl rfl (Nat.le_of_ble_eq_true rfl) (by omega) (by omega) (q_take (by omega) hR hm hx (a := 106) rfl (by omega) (fun j h2 ej hj k1 k2 k3 => ?_) (fun z h2 k1 k2 => ?_))
  · obtain ⟨e1, e2, e3⟩ := kIn ej hj sm
    have hC2 := k1.1.1.setI (f := zEl S.2.1 x j) (k1.1.1.v (a := 106) rfl) (Or.inl rfl) (by decide)
    have hC := hC2
    have sq : xSq scP h2 (hs h2 106 (0, 8, xI (zEl S.2.1 x j))) := xSm.hs1.sc (by intro q hq; simp only [List.mem_cons, List.not_mem_nil, or_false] at hq; unfold scP; omega)
    refine x_if_ne_t (tgt := 34) dX11_listedPart_27 rfl nb1 ?_
    refine x_aload_n (i := 0) dX11_listedPart_34 rfl rfl rfl ?_
    refine x_getC dX11_listedPart_35 rfl fX11_101 hC rfl F_0_12 ?_
    refine x_iload_n (i := 3) dX11_listedPart_38 rfl rfl rfl ?_
    refine x_iald dX11_listedPart_39 rfl hs_eq rfl (by omega) (by decide) ?_
    refine x_ireturn dX11_listedPart_40 rfl rfl ?_
    refine K _ _ _ ?_ (k1.1.sc hC2 sq) ⟨fun a a1 a2 => by rw [hs_n (by omega)]; exact k2.1 a a1 a2, k2.2.1, k2.2.2⟩
    simp only [sp_listedPart, qx, qy]
    rw [if_pos ⟨e1, e2⟩, e3]
  · refine x_if_ne_f (tgt := 34) dX11_listedPart_27 rfl rfl nI_0 ?_
    refine x_sipush dX11_listedPart_30 rfl sC_m30000 ?_
    refine x_ireturn dX11_listedPart_33 rfl rfl ?_
    exact K _ _ _ (by simp only [sp_listedPart, qx, qy]; exact if_neg z) k1 k2
end PUB

