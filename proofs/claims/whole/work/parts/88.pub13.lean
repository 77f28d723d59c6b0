/-! EightParts: bracket, bracketed -/
theorem vMul_n (y : zO) : vMul none y = none := by unfold vMul; rw [Option.bind_none]
theorem vMul_sn (f : Nat → Int32) : vMul (some f) none = none := by unfold vMul; rw [Option.bind_some, Option.bind_none]
theorem vMul_ss (f g : Nat → Int32) : vMul (some f) (some g) = oMul f g := by unfold vMul; rw [Option.bind_some, Option.bind_some]
theorem vMul_e {x x2 y y2 : zO} (h1 : x.map c8 = x2.map c8) (h2 : y.map c8 = y2.map c8) : vMul x y = vMul x2 y2 := by
  cases x with
  | none => cases x2 with
    | none => rw [vMul_n, vMul_n]
    | some _ => cases h1
  | some f => cases x2 with
    | none => cases h1
    | some f2 => cases y with
      | none => cases y2 with
        | none => rw [vMul_sn, vMul_sn]
        | some _ => cases h2
      | some g => cases y2 with
        | none => cases h2
        | some g2 =>
          rw [vMul_ss, vMul_ss]
          exact oMul_e (Option.some.inj h1) (Option.some.inj h2)
theorem wX_e {f g : Nat → Nat → Int32} (h : ∀ j, c8 (f j) = c8 (g j)) : ∀ q fr len k, (wX f q fr len k).map c8 = (wX g q fr len k).map c8 ∧ (len ≠ 1 → wX f q fr len k = wX g q fr len k) := by
  intro q
  induction q with
  | zero => exact fun fr len k => ⟨rfl, fun _ => rfl⟩
  | succ q ih =>
    intro fr len k
    by_cases e : len = 1
    · rw [wX, wX, if_pos e, if_pos e]
      exact ⟨congrArg some (h fr), fun z => absurd e z⟩
    · have e2 : wX f (q + 1) fr len k = wX g (q + 1) fr len k := by
        rw [wX, wX, if_neg e, if_neg e]
        exact vMul_e (ih _ _ _).1 (ih _ _ _).1
      rw [e2]
      exact ⟨rfl, fun _ => rfl⟩
theorem RX.ways {b : Bool} {h h2 : xH} {rw0 : Nat → Nat} {mk : Nat → Option Nat} {r p p2 v N c : Nat} {g : Nat → Int32} (hI : RX b h rw0 mk r p v N c g) (h134 : 134 ≤ h.2) (hn : h.2 ≤ h2.2) (hw : wyS h2 p2) (st : ∀ a, a < 134 → a ≠ 11 → a ≠ 53 → a ≠ 55 → h2.1 a = h.1 a) (big : ∀ a t n F, 134 ≤ a → a < h.2 → h.1 a = (t, n, F) → ¬ (t = 0 ∧ n = 8) → h2.1 a = h.1 a) : RX b h2 rw0 mk r p2 v N c g := by
  obtain ⟨i1, i2, ⟨s, i3⟩, i4, i5⟩ := hI
  have n31 := st 31 (by decide) (by decide) (by decide) (by decide)
  refine ⟨?_, ?_, ⟨s, ?_⟩, hw, ?_⟩
  · refine i1.keep h134 hn (st 23 (by decide) (by decide) (by decide) (by decide)) (st 28 (by decide) (by decide) (by decide) (by decide)) (st 29 (by decide) (by decide) (by decide) (by decide)) (fun m hm q1 q2 => ?_)
    rcases (i1.2 m hm).1 with ⟨a1, -⟩ | ⟨a1, -, f, -, -, a4, -⟩
    · omega
    · exact big _ _ _ _ q1 q2 a4 (by have := (zRoom_8 m hm).1; omega)
  · refine i2.keep hn (by rw [n31]) (by rw [n31]) (fun eb q1 q2 => ?_)
    subst eb
    obtain ⟨-, -, -, pf, gg, -, p5, -⟩ := i2
    exact big r _ _ _ q1 q2 p5 (by omega)
  · exact i3.keep (by rw [n31]) (by unfold iv; rw [st 35 (by decide) (by decide) (by decide) (by decide)]) (by unfold iv; rw [st 36 (by decide) (by decide) (by decide) (by decide)])
  · obtain ⟨q1, q2, q3, q4, q5, q6, q7⟩ := i5
    have n104 := st 104 (by decide) (by decide) (by decide) (by decide)
    refine ⟨by rw [n104]; exact q1, by rw [n104]; exact q2, by rw [n104]; exact q3, q4, by omega, ?_, q7⟩
    rcases q4 with e | e
    · rw [e] at q6 ⊢
      rw [st 105 (by decide) (by decide) (by decide) (by decide)]
      exact q6
    · rw [big v _ _ _ e q5 q6 (by omega)]
      exact q6
theorem wyV.b {h : xH} {p : Nat} {V : Nat → zO} (hV : wyV h p V) : ∀ i, i < 104 → iv h 55 i = nI 0 ∨ iv h 55 i = nI 1 := by
  intro i hi
  rcases hV i hi with ⟨-, q⟩ | ⟨-, q⟩
  · exact Or.inr q
  · exact Or.inl q
section PUB
variable {G : xG} {l : Launch} {d : Nat} {h : xH} {Q : Option Value → xH → Prop} {b : Bool} {S : St}
theorem q_fill {m : Nat} {row : Int32} (hd : 10 ≤ d) (hR : RC b h S) (hm : h.2 < 700000) (h2m : 2 ≤ m) (hm6 : m ≤ 6)
    (K : ∀ h2 p V, Cs h2 → wyR h2 p → wyV h2 p V → (∀ k, k < wM m → V (wB m + k) = wX (fun j => S.1 (slR row j)) 6 0 m k) → RC b h2 S → mF h h2 → Q none h2) : xCt G l mX10_fill d [.ref 53, .ref 1, .int (nI m), .int row] h 105 936 Q := by
  obtain ⟨rw0, mk, r, p, v, N, c, g, hI⟩ := hR.2.2
  have h134 := hR.1.1
  have ex : ∀ k, wX (fun j => iv h (2 + slR row j)) 6 0 m k = wX (fun j => S.1 (slR row j)) 6 0 m k := fun k => (wX_e (fun j => (hR.c (slR_lt row j)).symm) 6 0 m k).2 (by omega)
  have mk' : ∀ h2 p2, Cs h2 → wyS h2 p2 → h.2 ≤ h2.2 → h2.2 ≤ h.2 + 105 → (∀ a, a < 134 → a ≠ 11 → a ≠ 53 → a ≠ 55 → h2.1 a = h.1 a) → (∀ a t n F, 134 ≤ a → a < h.2 → h.1 a = (t, n, F) → ¬ (t = 0 ∧ n = 8) → h2.1 a = h.1 a) → RC b h2 S ∧ mF h h2 := by
    intro h2 p2 hC2 hw hn hn2 st big
    have hI2 := hI.ways h134 hn hw st big
    exact ⟨⟨hC2, hR.2.1.keep (st 14 (by decide) (by decide) (by decide) (by decide)) (fun j hj => st _ (by omega) (by omega) (by omega) (by omega)) (st 56 (by decide) (by decide) (by decide) (by decide)) (st 57 (by decide) (by decide) (by decide) (by decide)) (st 101 (by decide) (by decide) (by decide) (by decide)) (st 102 (by decide) (by decide) (by decide) (by decide)) (st 103 (by decide) (by decide) (by decide) (by decide)), rw0, mk, r, p2, v, N, c, g, hI2⟩, ⟨fun a a1 a2 => st a (by omega) (by omega) (by omega) (by omega), hn, by omega⟩⟩
  rcases hI.2.2.2.1 with ⟨q1, q2, q3⟩ | ⟨q1, q2⟩
  · refine c_fill0 (by omega) hR.1 (by omega) q2 q3 (by omega) hm6 (fun h2 hC2 r2 v2 n2 fr => ?_)
    obtain ⟨k1, k2⟩ := mk' h2 h.2 hC2 (Or.inr ⟨r2, v2.b⟩) (by omega) (by omega) (fun a ha a1 a2 a3 => fr a (by omega) a1 a2 a3) (fun a t n F a1 a2 _ _ => fr a a2 (by omega) (by omega) (by omega))
    exact K h2 h.2 _ hC2 r2 v2 (fun k hk => by rw [vF_x h2m hm6 k hk, ex]) k1 k2
  · have hV : wyV h p (fun i => if iv h 55 i = nI 1 then some (iv h (p + 1 + i)) else none) := by
      intro i hi
      rcases q2 i hi with z | z
      · exact Or.inr ⟨if_neg (by rw [z]; decide), z⟩
      · exact Or.inl ⟨if_pos z, z⟩
    refine xCt_wk (Nat.le_refl d) (Nat.zero_le _) (Nat.zero_le _) (c_fill1 (by omega) hR.1 q1 hV (by omega) hm6 (fun h2 hw => ?_))
    obtain ⟨hC2, r2, s2, v2⟩ := hw
    have q1' := q1
    obtain ⟨-, y1, y2, y3, y4⟩ := q1
    obtain ⟨k1, k2⟩ := mk' h2 p hC2 (Or.inr ⟨r2, v2.b⟩) (by rw [s2.1]; exact Nat.le_refl _) (by rw [s2.1]; omega) (fun a ha a1 a2 a3 => s2.2 a (by unfold wyP; omega)) (fun a t n F a1 a2 a3 a4 => s2.2 a (fun z => by
      unfold wyP at z
      have e : a = p + 1 + (a - p - 1) := by omega
      have := y4 (a - p - 1) (by omega)
      rw [← e] at this
      unfold xV8 at this
      rw [a3] at this
      have e1 := congrArg Prod.fst this
      have e2 := congrArg (fun z => z.2.1) this
      exact a4 ⟨e1, e2⟩))
    exact K h2 p _ hC2 r2 v2 (fun k hk => by rw [vF_x h2m hm6 k hk, ex]) k1 k2
theorem p_bracket {a m row k : Int32} (hd : 20 ≤ d) (hR : RC b h S) (hm : h.2 < 700000) (K : ∀ r S2 h2, sp_bracket S a m row k = (r, S2) → RC b h2 S2 → mF h h2 → Q (some (.int r)) h2) : xCt G l mX11_bracket d [.ref 0, .int a, .int m, .int row, .int k] h 105 936 Q := by
  have hC := hR.1
  refine xCt_of (by decide) (Nat.le_of_ble_eq_true rfl) ?_
  refine x_iload_n (i := 1) dX11_bracket_0 rfl rfl rfl ?_
  refine x_callS0 (As := [_]) (d2 := d - 1) dX11_bracket_1 rfl kX11_115 okX11_isEighth (by omega) rfl rfl (Nat.le_of_ble_eq_true rfl) (c_isEighth (fun z => ?_) (fun t ht et qt => ?_))
  · refine x_if_eq_t (tgt := 34) dX11_bracket_4 rfl nI_0 ?_
    refine x_iconst dX11_bracket_34 rfl iC_m1 ?_
    refine x_ireturn dX11_bracket_35 rfl rfl ?_
    exact K _ _ _ (by simp only [sp_bracket, z] <;> rfl) hR mF.rf
  subst et
  refine x_if_eq_f (tgt := 34) dX11_bracket_4 rfl rfl nb1 ?_
  refine x_iconst dX11_bracket_7 rfl iC_2 ?_
  refine x_iload_n (i := 2) dX11_bracket_8 rfl rfl rfl ?_
  refine x_iload_n (i := 3) dX11_bracket_9 rfl rfl rfl ?_
  refine x_callS0 (As := [_, _, _]) (d2 := d - 1) dX11_bracket_10 rfl kX11_172 okX11_isRow (by omega) rfl rfl (Nat.le_of_ble_eq_true rfl) (c_isRow (by decide) (fun z => ?_) (fun q lq hq eq qq qo => ?_))
  · refine x_if_eq_t (tgt := 34) dX11_bracket_13 rfl nI_0 ?_
    refine x_iconst dX11_bracket_34 rfl iC_m1 ?_
    refine x_ireturn dX11_bracket_35 rfl rfl ?_
    exact K _ _ _ (by rcases z with z | ⟨i, z0, z⟩; exact (by simp only [sp_bracket, qt, z] <;> rfl); exact (by simp only [sp_bracket, qt, z0, if_neg z] <;> rfl)) hR mF.rf
  subst eq
  refine x_if_eq_f (tgt := 34) dX11_bracket_13 rfl rfl nb1 ?_
  have wm : wM q ≤ 42 := wM_lt q
  have no : ¬ (0 ≤ k.toInt ∧ k.toInt < (wM q : Int)) → sp_bracket S (nI t) (nI q) row k = (-1, S) := by
    intro z
    simp only [sp_bracket, qt, qq, if_pos qo]
    exact if_neg z
  refine x_iload dX11_bracket_16 rfl rfl ?_
  refine x_if_lt (tgt := 34) dX11_bracket_18 rfl rfl (fun c18 => ?_) (fun c18 => ?_)
  · refine x_iconst dX11_bracket_34 rfl iC_m1 ?_
    refine x_ireturn dX11_bracket_35 rfl rfl ?_
    exact K _ _ _ (no (by have := Int32.lt_iff_toInt_lt.mp c18; have e : (0 : Int32).toInt = 0 := rfl; omega)) hR mF.rf
  refine x_iload dX11_bracket_21 rfl rfl ?_
  refine x_aload_n (i := 0) dX11_bracket_23 rfl rfl rfl ?_
  refine x_getC dX11_bracket_24 rfl fX11_67 hC rfl F_0_7 ?_
  refine x_iload_n (i := 2) dX11_bracket_27 rfl rfl rfl ?_
  refine x_callV0 (ci := 10) (b := 53) (As := [_]) (d2 := d - 1) dX11_bracket_28 rfl kX11_207 okX10_manyOf (hC.o rfl) (fun q hq => by cases hq; rfl) (by omega) rfl rfl (Nat.le_of_ble_eq_true rfl) (c_manyOf (fun q2 e2 h1 h6 => ?_) (fun z => ?_))
  rotate_left
  · exfalso
    rcases z with z | z
    · have := (nI_ltI (by omega) (by decide)).mp z
      omega
    · have := (nI_ltI (by decide) (by omega)).mp z
      omega
  obtain rfl : q = q2 := (nI_eq (by omega) (by omega)).mp e2
  refine x_ic_lt (tgt := 36) dX11_bracket_31 rfl rfl (fun c31 => ?_) (fun c31 => ?_)
  rotate_left
  · refine x_iconst dX11_bracket_34 rfl iC_m1 ?_
    refine x_ireturn dX11_bracket_35 rfl rfl ?_
    exact K _ _ _ (no (by have := Int32.le_iff_toInt_le.mp (Int32.not_lt.mp c31); rw [nI_toInt (by omega)] at this; omega)) hR mF.rf
  have a0 := Int32.le_iff_toInt_le.mp (Int32.not_lt.mp c18)
  have a1 := Int32.lt_iff_toInt_lt.mp c31
  rw [nI_toInt (by omega)] at a1
  have z0 : (0 : Int32).toInt = 0 := rfl
  obtain ⟨j, ej⟩ : ∃ j : Nat, k.toInt = j := ⟨k.toInt.toNat, by omega⟩
  have ek : k = nI j := by
    apply Int32.toInt_inj.mp
    rw [ej, nI_toInt (by omega)]
  subst ek
  have en : sp_bracket S (nI t) (nI q) row (nI j) = sMay S t (wX (fun j => S.1 (slR row j)) 6 0 q j) := by
    simp only [sp_bracket, qt, qq, if_pos qo]
    rw [if_pos (by omega), ej]
    rfl
  refine x_aload_n (i := 0) dX11_bracket_36 rfl rfl rfl ?_
  refine x_getC dX11_bracket_37 rfl fX11_67 hC rfl F_0_7 ?_
  refine x_aload_n (i := 0) dX11_bracket_40 rfl rfl rfl ?_
  refine x_getC dX11_bracket_41 rfl fX11_11 hC rfl F_0_0 ?_
  refine x_iload_n (i := 2) dX11_bracket_44 rfl rfl rfl ?_
  refine x_iload_n (i := 3) dX11_bracket_45 rfl rfl rfl ?_
  refine x_callV (ci := 10) (b := 53) (As := [_, _, _]) (d2 := d - 1) (mc2 := 105) (ms2 := 936) (k2 := 0) (n2 := 0) dX11_bracket_46 rfl kX11_211 okX10_fill (hC.o rfl) (fun q hq => by cases hq; rfl) (by omega) rfl rfl (Nat.le_of_ble_eq_true rfl) (by omega) (by omega) (q_fill (by omega) hR hm lq hq (fun h2 p V hC2 r2 v2 ev k1 k2 => ?_))
  have hC := hC2
  have hj : j < wM q := by omega
  refine x_aload_n (i := 0) dX11_bracket_49 rfl rfl rfl ?_
  refine x_getC dX11_bracket_50 rfl fX11_67 hC rfl F_0_7 ?_
  refine x_aload_n (i := 0) dX11_bracket_53 rfl rfl rfl ?_
  refine x_getC dX11_bracket_54 rfl fX11_11 hC rfl F_0_0 ?_
  refine x_iload_n (i := 1) dX11_bracket_57 rfl rfl rfl ?_
  refine x_aaldC (t := 0) dX11_bracket_58 rfl hC rfl (by decide) rfl (by omega) (by decide) (csF_slot ht) ?_
  refine x_iload_n (i := 2) dX11_bracket_59 rfl rfl rfl ?_
  refine x_iload dX11_bracket_60 rfl rfl ?_
  refine x_callV0 (ci := 10) (b := 53) (As := [_, _, _]) (d2 := d - 1) dX11_bracket_62 rfl kX11_215 okX10_layWay (hC.o rfl) (fun q hq => by cases hq; rfl) (by omega) rfl rfl (Nat.le_of_ble_eq_true rfl) (c_layWay (by omega) hC r2 v2 hq hj (csV_slot ht) (by omega) (fun z hz h3 hC3 hS3 e3 => ?_) (fun hz => ?_))
  · rw [ev j hj] at hz
    have sq := hS3.sct (t := t) (by intro q hq; simp only [List.mem_cons, List.not_mem_nil, or_false] at hq; unfold scP; omega)
    have bz : zBd z := by
      rw [wX_r _ lq hq hj] at hz
      unfold vMul at hz
      obtain ⟨f, -, hz⟩ := Option.bind_eq_some_iff.mp hz
      obtain ⟨g, -, hz⟩ := Option.bind_eq_some_iff.mp hz
      exact oMul_bd hz
    refine x_callS0 (As := [_]) (d2 := d - 1) dX11_bracket_65 rfl kX11_151 okX11_told (by omega) rfl rfl (Nat.le_of_ble_eq_true rfl) (c_told1 ?_)
    refine x_ireturn dX11_bracket_68 rfl rfl ?_
    exact K _ _ _ (by rw [en]; exact sMay_some hz) (k1.set ht hC3 sq (by rw [e3]) bz) (k2.tr (mF.sq sq (fun a => sct_lt ht)) (by rw [hS3.1]; exact k2.2.2))
  · rw [ev j hj] at hz
    refine x_callS0 (As := [_]) (d2 := d - 1) dX11_bracket_65 rfl kX11_151 okX11_told (by omega) rfl rfl (Nat.le_of_ble_eq_true rfl) (c_told0 ?_)
    refine x_ireturn dX11_bracket_68 rfl rfl ?_
    exact K _ _ _ (by rw [en]; exact sMay_none hz) k1 k2
theorem p_bracketed {m row : Int32} (hd : 20 ≤ d) (hR : RC b h S) (hm : h.2 < 700000) (K : ∀ r S2 h2, sp_bracketed S m row = (r, S2) → RC b h2 S2 → mF h h2 → Q (some (.int r)) h2) : xCt G l mX11_bracketed d [.ref 0, .int m, .int row] h 105 936 Q := by
  have hC := hR.1
  refine xCt_of (by decide) (Nat.le_of_ble_eq_true rfl) ?_
  refine x_iconst dX11_bracketed_0 rfl iC_2 ?_
  refine x_iload_n (i := 1) dX11_bracketed_1 rfl rfl rfl ?_
  refine x_iload_n (i := 2) dX11_bracketed_2 rfl rfl rfl ?_
  refine x_callS0 (As := [_, _, _]) (d2 := d - 1) dX11_bracketed_3 rfl kX11_172 okX11_isRow (by omega) rfl rfl (Nat.le_of_ble_eq_true rfl) (c_isRow (by decide) (fun z => ?_) (fun q lq hq eq qq qo => ?_))
  · refine x_if_ne_f (tgt := 11) dX11_bracketed_6 rfl rfl nI_0 ?_
    refine x_iconst dX11_bracketed_9 rfl iC_m1 ?_
    refine x_ireturn dX11_bracketed_10 rfl rfl ?_
    exact K _ _ _ (by rcases z with z | ⟨i, z0, z⟩; exact (by simp only [sp_bracketed, z] <;> rfl); exact (by simp only [sp_bracketed, z0, if_neg z] <;> rfl)) hR mF.rf
  subst eq
  refine x_if_ne_t (tgt := 11) dX11_bracketed_6 rfl nb1 ?_
  refine x_aload_n (i := 0) dX11_bracketed_11 rfl rfl rfl ?_
  refine x_getC dX11_bracketed_12 rfl fX11_67 hC rfl F_0_7 ?_
  refine x_aload_n (i := 0) dX11_bracketed_15 rfl rfl rfl ?_
  refine x_getC dX11_bracketed_16 rfl fX11_11 hC rfl F_0_0 ?_
  refine x_iload_n (i := 1) dX11_bracketed_19 rfl rfl rfl ?_
  refine x_iload_n (i := 2) dX11_bracketed_20 rfl rfl rfl ?_
  refine x_callV (ci := 10) (b := 53) (As := [_, _, _]) (d2 := d - 1) (mc2 := 105) (ms2 := 936) (k2 := 0) (n2 := 0) dX11_bracketed_21 rfl kX11_211 okX10_fill (hC.o rfl) (fun q hq => by cases hq; rfl) (by omega) rfl rfl (Nat.le_of_ble_eq_true rfl) (by omega) (by omega) (q_fill (by omega) hR hm lq hq (fun h2 p V hC2 r2 v2 ev k1 k2 => ?_))
  have hC := hC2
  have eu := oUnl_c (V := V) (U := wX (fun j => S.1 (slR row j)) 6 0 q) (s := wB q) (wM q) ev
  refine x_aload_n (i := 0) dX11_bracketed_24 rfl rfl rfl ?_
  refine x_getC dX11_bracketed_25 rfl fX11_67 hC rfl F_0_7 ?_
  refine x_iload_n (i := 1) dX11_bracketed_28 rfl rfl rfl ?_
  refine x_callV0 (ci := 10) (b := 53) (As := [_]) (d2 := d - 1) dX11_bracketed_29 rfl kX11_335 okX10_manyUnlike (hC.o rfl) (fun q hq => by cases hq; rfl) (by omega) rfl rfl (Nat.le_of_ble_eq_true rfl) (c_manyUnlike (by omega) hC r2 v2 hq (fun c hc => ?_) (fun hc => ?_))
  · rw [eu] at hc
    refine x_ireturn dX11_bracketed_32 rfl rfl ?_
    exact K _ _ _ (by simp only [sp_bracketed, qq, if_pos qo, hc]) k1 k2
  · rw [eu] at hc
    refine x_ireturn dX11_bracketed_32 rfl rfl ?_
    exact K _ _ _ (by simp only [sp_bracketed, qq, if_pos qo, hc]) k1 k2
end PUB

