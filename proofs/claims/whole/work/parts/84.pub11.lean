/-! EightParts: units, the calls -/
noncomputable def T0 (o i k : Nat) : Nat := (zMA o i k).toInt.toNat
theorem RX.gb {b : Bool} {h : xH} {rw0 : Nat → Nat} {mk : Nat → Option Nat} {r p v N c o : Nat} {g : Nat → Int32} (hI : RX b h rw0 mk r p v N c g) (hC : Cs h) (ho : hOrd h o) (ho8 : o < 8) (hmk : mk 1 = some o) (hm : h.2 < 900000) : uGb b h o (rB b h r) rw0 mk := by
  refine hI.2.1.gb hC ho ho8 hI.1 hmk hm (fun eb m hm e => ?_)
  subst eb
  obtain ⟨q1, -, -, pf, gg, -, p5, -⟩ := hI.2.1
  rcases (hI.1.2 m hm).1 with ⟨a1, -⟩ | ⟨a1, -, f, -, -, a4, -⟩
  · omega
  · rw [e, p5] at a4
    have e2 := congrArg (fun z => z.2.1) a4
    exact (zRoom_8 m hm).2 e2.symm
theorem RC.gb {b : Bool} {h : xH} {S : St} (hR : RCn b 1 h S) (hm : h.2 < 900000) : ∃ rw0 mk r p v N c g, RX b h rw0 mk r p v N c g ∧ mk 1 = some S.2.1 ∧ uGb b h S.2.1 (rB b h r) rw0 mk := by
  obtain ⟨rw0, mk, r, p, v, N, c, g, hI, e⟩ := hR.2
  exact ⟨rw0, mk, r, p, v, N, c, g, hI, e, hI.gb hR.1.1 hR.1.o.2 hR.1.o.1 e hm⟩
/-- behind a product by the table -/
theorem RC.aft {b : Bool} {h h2 : xH} {S : St} {rw0 : Nat → Nat} {mk : Nat → Option Nat} {r p v N c : Nat} {g : Nat → Int32} (hR : RC b h S) (hI : RX b h rw0 mk r p v N c g) (hU : uG h2 S.2.1 (rB b h r) rw0 mk) (hS : xGw [11, 31, 32, 33, rB b h r] (kB b) h h2) (f : ∀ q, q ≠ 4 → q ≠ 5 → (h2.1 31).2.2 q = (h.1 31).2.2 q) : RCn true 1 h2 S ∧ mF h h2 := by
  obtain ⟨s, hi⟩ := hI.2.2.1
  have h134 := hR.1.1
  have kb := kB_le b
  have hrb : 134 ≤ rB b h r := hU.2.2.2.2.2.1
  obtain ⟨k1, k2, k3, -⟩ := hR.mk2 hI hU.1 hU.2.2.2.1 hU.p (s2 := s) (hi.keep (f 8 (by decide) (by decide)) (hS.iv (by omega) (by simp; omega)) (hS.iv (by omega) (by simp; omega))) hS.1 hS.2.1 (by omega) (fun a ha hn => hS.2.2 a (by omega) (by unfold unP at hn; simp; omega)) (fun a a1 a2 _ a4 => hS.2.2 a a2 (by
    simp
    refine ⟨by omega, by omega, by omega, by omega, fun e => ?_⟩
    unfold rB at e
    cases b with
    | true => exact a4 rfl e
    | false => have e' : a = h.2 := e; omega))
  exact ⟨k3 hU.2.2.2.2.1, k2⟩
section PUB
variable {G : xG} {l : Launch} {d : Nat} {h : xH} {Q : Option Value → xH → Prop} {b : Bool} {S : St}
theorem mF.tr {h h1 h2 : xH} (a : mF h h1) (b : mF h1 h2) (hn : h2.2 ≤ h.2 + 200) : mF h h2 := ⟨fun x x1 x2 => (b.1 x x1 x2).trans (a.1 x x1 x2), Nat.le_trans a.2.1 b.2.1, hn⟩
theorem q_mulAt {i k : Nat} (hd : 20 ≤ d) (hR : RC b h S) (hm : h.2 < 800000) (hi : i < (zLst S.2.1 1).1) (hk : k < (zLst S.2.1 1).1) (K : ∀ h2, RC true h2 S → mF h h2 → Q (some (.int (zMA S.2.1 i k))) h2) : xCt G l mX9_multiplyAt d [.ref 31, .int (nI i), .int (nI k)] h (1 + kB b) (240 + nB b) Q := by
  have hC := hR.1
  obtain ⟨rw0, mk, r, p, v, N, c, g, hI⟩ := hR.2.2
  refine xCt_of (by decide) (Nat.le_of_ble_eq_true rfl) ?_
  have rl : zRoom 1 = 240 := rfl
  refine x_aload_n (i := 0) dX9_multiplyAt_0 rfl rfl rfl ?_
  refine x_getC dX9_multiplyAt_1 rfl fX9_35 hC rfl F_31_0 ?_
  refine x_iconst dX9_multiplyAt_4 rfl iC_1 ?_
  refine x_callV (ci := 4) (b := 22) (As := [_]) (d2 := d - 1) (mc2 := 1) (ms2 := zRoom 1) (k2 := kB b) (n2 := nB b) dX9_multiplyAt_5 rfl kX9_43 okX4_manyOf (hC.o rfl) (fun q hq => by cases hq; rfl) (by omega) rfl rfl (Nat.le_of_ble_eq_true rfl) (by omega) (by omega) (c_manyX (norm := 1) (by omega) hC (by omega) hR.o.2 hR.o.1 (by decide) hI.1 (fun h1 hg => ?_))
  have hg1 : h1.2 ≤ h.2 + 1 := by
    obtain ⟨-, -, -, -, -, -, -, g5, -⟩ := hg
    exact g5
  obtain ⟨k1, k2, k3⟩ := hR.lsG hI (by decide) hg
  obtain ⟨rw1, mk1, r1, p1, v1, N1, c1, g1, hI1, e1, hU1⟩ := RC.gb k1 (by omega)
  refine x_to (w_mulAt8 (Good := fun h2 => uG h2 S.2.1 (rB b h1 r1) rw1 mk1 ∧ xGw [11, 31, 32, 33, rB b h1 r1] (kB b) h1 h2 ∧ (∀ q, q ≠ 4 → q ≠ 5 → (h2.1 31).2.2 q = (h1.1 31).2.2 q)) k1.1.1 (by omega) hi hk (fun fi fk f1 f2 Q2 K2 => c_mulNegB (by omega) hU1 f1 f2 (fun h2 u1 u2 u3 => K2 h2 ⟨u1, u2, u3⟩)) (fun h2 gd => ?_)) ⟨rfl, rfl, rfl, trivial⟩
  obtain ⟨a1, a2⟩ := k1.1.aft hI1 gd.1 gd.2.1 gd.2.2
  have := gd.2.1.2.1
  have := kB_le b
  exact K h2 a1.1 (k2.tr a2 (by omega))
theorem q_mulAtN {i k : Int32} (hd : 20 ≤ d) (hR : RC b h S) (hm : h.2 < 800000) (hz : 0 < (zLst S.2.1 1).1) (hn : i < 0 ∨ nI ((zLst S.2.1 1).1 - 1) < i ∨ k < 0 ∨ nI ((zLst S.2.1 1).1 - 1) < k) (K : ∀ h2, RC b h2 S → mF h h2 → Q (some (.int (-1))) h2) : xCt G l mX9_multiplyAt d [.ref 31, .int i, .int k] h 1 240 Q := by
  have hsN : (zLst S.2.1 1).1 ≤ 240 := zLst_le S.2.1 1
  have hC := hR.1
  refine xCt_of (by decide) (Nat.le_of_ble_eq_true rfl) ?_
  have rl : zRoom 1 = 240 := rfl
  refine x_aload_n (i := 0) dX9_multiplyAt_0 rfl rfl rfl ?_
  refine x_getC dX9_multiplyAt_1 rfl fX9_35 hC rfl F_31_0 ?_
  refine x_iconst dX9_multiplyAt_4 rfl iC_1 ?_
  refine x_callV (ci := 4) (b := 22) (As := [_]) (d2 := d - 1) (mc2 := 1) (ms2 := zRoom 1) (k2 := 0) (n2 := 0) dX9_multiplyAt_5 rfl kX9_43 okX4_manyOf (hC.o rfl) (fun q hq => by cases hq; rfl) (by omega) rfl rfl (Nat.le_of_ble_eq_true rfl) (by omega) (by omega) (q_many (norm := 1) (by omega) hR hm (by decide) (fun h1 k1 k2 k3 => ?_))
  refine x_iconst dX9_multiplyAt_8 rfl iC_1 ?_
  refine x_isub dX9_multiplyAt_9 rfl ?_
  rw [show nI (zLst S.2.1 1).1 - nI 1 = nI ((zLst S.2.1 1).1 - 1) from pk_sub (by omega)]
  refine x_istore_n (i := 3) dX9_multiplyAt_10 rfl rfl (by decide) ?_
  refine x_iload_n (i := 1) dX9_multiplyAt_11 rfl rfl rfl ?_
  refine x_if_lt (tgt := 29) dX9_multiplyAt_12 rfl rfl (fun c12 => ?_) (fun c12 => ?_)
  · refine x_iconst dX9_multiplyAt_29 rfl iC_m1 ?_
    refine x_ireturn dX9_multiplyAt_30 rfl rfl ?_
    exact K h1 k1.1 k2
  · refine x_iload_n (i := 1) dX9_multiplyAt_15 rfl rfl rfl ?_
    refine x_iload_n (i := 3) dX9_multiplyAt_16 rfl rfl rfl ?_
    refine x_ic_gt (tgt := 29) dX9_multiplyAt_17 rfl rfl (fun c17 => ?_) (fun c17 => ?_)
    · refine x_iconst dX9_multiplyAt_29 rfl iC_m1 ?_
      refine x_ireturn dX9_multiplyAt_30 rfl rfl ?_
      exact K h1 k1.1 k2
    · refine x_iload_n (i := 2) dX9_multiplyAt_20 rfl rfl rfl ?_
      refine x_if_lt (tgt := 29) dX9_multiplyAt_21 rfl rfl (fun c21 => ?_) (fun c21 => ?_)
      · refine x_iconst dX9_multiplyAt_29 rfl iC_m1 ?_
        refine x_ireturn dX9_multiplyAt_30 rfl rfl ?_
        exact K h1 k1.1 k2
      · refine x_iload_n (i := 2) dX9_multiplyAt_24 rfl rfl rfl ?_
        refine x_iload_n (i := 3) dX9_multiplyAt_25 rfl rfl rfl ?_
        refine x_ic_le (tgt := 31) dX9_multiplyAt_26 rfl rfl (fun c26 => ?_) (fun c26 => ?_)
        · rcases hn with z | z | z | z
          · exact absurd z c12
          · exact absurd z c17
          · exact absurd z c21
          · exact absurd z (Int32.not_lt.mpr c26)
        · refine x_iconst dX9_multiplyAt_29 rfl iC_m1 ?_
          refine x_ireturn dX9_multiplyAt_30 rfl rfl ?_
          exact K h1 k1.1 k2
/-- a number of a unit -/
def eU (o : Nat) (x : Int32) : Option Nat := eB 0 ((zLst o 1).1 - 1) x
noncomputable def sp_table (S : St) (i k : Int32) : Int32 × St := match eU S.2.1 i with
  | none => (-1, S)
  | some a => match eU S.2.1 k with
    | none => (-1, S)
    | some c => (zMA S.2.1 a c, S)
theorem eU_none {o : Nat} {x : Int32} (h : eU o x = none) : x < 0 ∨ nI ((zLst o 1).1 - 1) < x := by
  have hsN : (zLst o 1).1 ≤ 240 := zLst_le o 1
  by_cases c1 : x < 0
  · exact Or.inl c1
  · by_cases c2 : nI ((zLst o 1).1 - 1) < x
    · exact Or.inr c2
    · obtain ⟨k, -, -, -, e⟩ := eB_in (lo := 0) (hi := (zLst o 1).1 - 1) (by decide) (by omega) c1 c2
      unfold eU at h
      rw [h] at e
      cases e
theorem p_table {i k : Int32} {b2 : Bool} (hd : 22 ≤ d) (hR : RC b h S) (hm : h.2 < 800000) (hz : 16 ≤ (zLst S.2.1 1).1) (hb2 : b2 = (b || (decide ((eU S.2.1 i).isSome) && decide ((eU S.2.1 k).isSome)))) (K : ∀ r S2 h2, sp_table S i k = (r, S2) → RC b2 h2 S2 → mF h h2 → Q (some (.int r)) h2) : xCt G l mX11_table d [.ref 0, .int i, .int k] h (1 + kD b b2) (240 + nD b b2) Q := by
  have hsN : (zLst S.2.1 1).1 ≤ 240 := zLst_le S.2.1 1
  have hC := hR.1
  refine xCt_of (by decide) (Nat.le_of_ble_eq_true rfl) ?_
  refine x_aload_n (i := 0) dX11_table_0 rfl rfl rfl ?_
  refine x_getC dX11_table_1 rfl fX11_42 hC rfl F_0_4 ?_
  refine x_iload_n (i := 1) dX11_table_4 rfl rfl rfl ?_
  refine x_iload_n (i := 2) dX11_table_5 rfl rfl rfl ?_
  cases e1 : eU S.2.1 i with
  | none =>
    obtain rfl : b2 = b := by rw [hb2, e1]; cases b <;> rfl
    refine x_callV (ci := 9) (b := 31) (As := [_, _]) (d2 := d - 1) (mc2 := 1) (ms2 := 240) (k2 := 0) (n2 := 0) dX11_table_6 rfl kX11_319 okX9_multiplyAt (hC.o rfl) (fun q hq => by cases hq; rfl) (by omega) rfl rfl (Nat.le_of_ble_eq_true rfl) (by omega) (by omega) (q_mulAtN (by omega) hR hm (by omega) (by rcases eU_none e1 with z | z; exact Or.inl z; exact Or.inr (Or.inl z)) (fun h2 k1 k2 => ?_))
    refine x_ireturn dX11_table_9 rfl rfl ?_
    exact K _ _ _ (by unfold sp_table; rw [e1]) k1 k2
  | some a =>
    obtain ⟨-, a2, a3⟩ := eB_some e1 (by omega)
    cases e2 : eU S.2.1 k with
    | none =>
      obtain rfl : b2 = b := by rw [hb2, e1, e2]; cases b <;> rfl
      refine x_callV (ci := 9) (b := 31) (As := [_, _]) (d2 := d - 1) (mc2 := 1) (ms2 := 240) (k2 := 0) (n2 := 0) dX11_table_6 rfl kX11_319 okX9_multiplyAt (hC.o rfl) (fun q hq => by cases hq; rfl) (by omega) rfl rfl (Nat.le_of_ble_eq_true rfl) (by omega) (by omega) (q_mulAtN (by omega) hR hm (by omega) (by rcases eU_none e2 with z | z; exact Or.inr (Or.inr (Or.inl z)); exact Or.inr (Or.inr (Or.inr z))) (fun h2 k1 k2 => ?_))
      refine x_ireturn dX11_table_9 rfl rfl ?_
      exact K _ _ _ (by unfold sp_table; rw [e1, e2]) k1 k2
    | some c =>
      obtain ⟨-, c2, c3⟩ := eB_some e2 (by omega)
      obtain rfl : b2 = true := by rw [hb2, e1, e2]; cases b <;> rfl
      subst a3 c3
      have z1 : kD b true = kB b := rfl
      have z2 : nD b true = nB b := rfl
      refine x_callV (ci := 9) (b := 31) (As := [_, _]) (d2 := d - 1) (mc2 := 1 + kB b) (ms2 := 240 + nB b) (k2 := 0) (n2 := 0) dX11_table_6 rfl kX11_319 okX9_multiplyAt (hC.o rfl) (fun q hq => by cases hq; rfl) (by omega) rfl rfl (Nat.le_of_ble_eq_true rfl) (by omega) (by omega) (q_mulAt (by omega) hR hm (by omega) (by omega) (fun h2 k1 k2 => ?_))
      refine x_ireturn dX11_table_9 rfl rfl ?_
      exact K _ _ _ (by unfold sp_table; rw [e1, e2]) k1 k2
noncomputable def sp_cycles (S : St) (n : Int32) : Int32 × St := match eB 1 60 n with
  | none => (-1, S)
  | some _ => (nI (cN (fun k => zCyc (T0 S.2.1) k ((zLst S.2.1 1).1 - 1) 60 k 1 = n) (zLst S.2.1 1).1), S)
theorem p_cycles {n : Int32} {b2 : Bool} (hd : 22 ≤ d) (hR : RC b h S) (hm : h.2 < 800000) (hz : 16 ≤ (zLst S.2.1 1).1) (hT : tblO S.2.1 (T0 S.2.1)) (hb2 : b2 = (b || decide ((eB 1 60 n).isSome))) (K : ∀ r S2 h2, sp_cycles S n = (r, S2) → RC b2 h2 S2 → mF h h2 → Q (some (.int r)) h2) : xCt G l mX11_cycles d [.ref 0, .int n] h (1 + kD b b2) (240 + nD b b2) Q := by
  have hsN : (zLst S.2.1 1).1 ≤ 240 := zLst_le S.2.1 1
  have hC := hR.1
  have rl : zRoom 1 = 240 := rfl
  refine xCt_of (by decide) (Nat.le_of_ble_eq_true rfl) ?_
  have none_ : ∀ (e : eB 1 60 n = none), b2 = b ∧ sp_cycles S n = (-1, S) := fun e => ⟨by rw [hb2, e]; cases b <;> rfl, by unfold sp_cycles; rw [e]⟩
  refine x_iload_n (i := 1) dX11_cycles_0 rfl rfl rfl ?_
  refine x_iconst dX11_cycles_1 rfl iC_1 ?_
  refine x_ic_lt (tgt := 11) dX11_cycles_2 rfl rfl (fun c2 => ?_) (fun c2 => ?_)
  · obtain ⟨rfl, e⟩ := none_ (eB_lo (by decide) c2)
    refine x_iconst dX11_cycles_11 rfl iC_m1 ?_
    refine x_ireturn dX11_cycles_12 rfl rfl ?_
    exact K _ _ _ e hR mF.rf
  refine x_iload_n (i := 1) dX11_cycles_5 rfl rfl rfl ?_
  refine x_bipush dX11_cycles_6 rfl bC_60 ?_
  refine x_ic_le (tgt := 13) dX11_cycles_8 rfl rfl (fun c8 => ?_) (fun c8 => ?_)
  rotate_left
  · obtain ⟨rfl, e⟩ := none_ (eB_hi (by decide) (Int32.not_le.mp c8))
    refine x_iconst dX11_cycles_11 rfl iC_m1 ?_
    refine x_ireturn dX11_cycles_12 rfl rfl ?_
    exact K _ _ _ e hR mF.rf
  obtain ⟨m, m1, m2, em, qm⟩ := eB_in (lo := 1) (hi := 60) (by decide) (by decide) c2 (Int32.not_lt.mpr c8)
  obtain rfl : b2 = true := by rw [hb2, qm]; cases b <;> rfl
  have en : sp_cycles S n = (nI (cN (fun k => zCyc (T0 S.2.1) k ((zLst S.2.1 1).1 - 1) 60 k 1 = n) (zLst S.2.1 1).1), S) := by unfold sp_cycles; rw [qm]
  have z1 : kD b true = kB b := rfl
  have z2 : nD b true = nB b := rfl
  refine x_aload_n (i := 0) dX11_cycles_13 rfl rfl rfl ?_
  refine x_getC dX11_cycles_14 rfl fX11_33 hC rfl F_0_3 ?_
  refine x_iconst dX11_cycles_17 rfl iC_1 ?_
  obtain ⟨rw0, mk, r0, p0, v0, N0, c0, g0, hI⟩ := hR.2.2
  refine x_callV (ci := 4) (b := 22) (As := [_]) (d2 := d - 1) (mc2 := 1) (ms2 := zRoom 1) (k2 := kB b) (n2 := nB b) dX11_cycles_18 rfl kX11_276 okX4_manyOf (hC.o rfl) (fun q hq => by cases hq; rfl) (by omega) rfl rfl (Nat.le_of_ble_eq_true rfl) (by omega) (by omega) (c_manyX (norm := 1) (by omega) hC (by omega) hR.o.2 hR.o.1 (by decide) hI.1 (fun h1 hg => ?_))
  have hg1 : h1.2 ≤ h.2 + 1 := by
    obtain ⟨-, -, -, -, -, -, -, g5, -⟩ := hg
    exact g5
  obtain ⟨k1, k2, k3⟩ := hR.lsG hI (by decide) hg
  refine x_istore_n (i := 2) dX11_cycles_21 rfl rfl (by decide) ?_
  refine x_iconst dX11_cycles_22 rfl iC_0 ?_
  refine x_istore_n (i := 3) dX11_cycles_23 rfl rfl (by decide) ?_
  refine x_iconst dX11_cycles_24 rfl iC_0 ?_
  refine x_istore dX11_cycles_25 rfl (by decide) ?_
  have key := xloop (P := fun i => ∀ b1 h2, (b1 = true ∨ i = 0) → RCn b1 1 h2 S → mF h1 h2 → h2.2 + kB b1 ≤ h1.2 + 1 → xWP G l mX11_cycles d (zM G Q) (kB b1) (nB b1) 27 (xls [(0, .ref 0), (1, .int n), (2, .int (nI (zLst S.2.1 1).1)), (3, .int (nI (cN (fun k => zCyc (T0 S.2.1) k ((zLst S.2.1 1).1 - 1) 60 k 1 = n) i))), (4, .int (nI i))]) [] h2) (zLst S.2.1 1).1 (by
    intro i hi ih b1 h2 hb1 r2 f2 g2
    have hC := r2.1.1
    refine x_iload dX11_cycles_27 rfl rfl ?_
    refine x_iload_n (i := 2) dX11_cycles_29 rfl rfl rfl ?_
    refine x_jc_ge (tgt := 55) dX11_cycles_30 rfl rfl (by omega) (by omega) (fun c30 => ?_) (fun c30 => ?_)
    · obtain rfl : i = (zLst S.2.1 1).1 := by omega
      obtain rfl : b1 = true := by rcases hb1 with q | q; exact q; omega
      refine x_iload_n (i := 3) dX11_cycles_55 rfl rfl rfl ?_
      refine x_ireturn dX11_cycles_56 rfl rfl ?_
      have := f2.2.2
      have := k2.2.2
      have := k1.1.1.1
      exact K _ _ _ en r2.1 (k2.tr f2 (by have : kB true = 0 := rfl; have := k2.2.2; omega))
    · obtain ⟨rw1, mk1, r1, p1, v1, N1, c1, g1, hI1, e1, hU1⟩ := RC.gb r2 (by have := f2.2.2; have := k2.2.2; omega)
      have nxt : ∀ b3 h3, (b3 = true ∨ i + 1 = 0) → RCn b3 1 h3 S → mF h1 h3 → h3.2 + kB b3 ≤ h1.2 + 1 → xWP G l mX11_cycles d (zM G Q) (kB b3) (nB b3) 42 (xls [(0, .ref 0), (1, .int n), (2, .int (nI (zLst S.2.1 1).1)), (3, .int (nI (cN (fun k => zCyc (T0 S.2.1) k ((zLst S.2.1 1).1 - 1) 60 k 1 = n) i))), (4, .int (nI i))]) [.int (zCyc (T0 S.2.1) i ((zLst S.2.1 1).1 - 1) 60 i 1)] h3 := by
        intro b3 h3 hb3 r3 f3 g3
        refine x_iload_n (i := 1) dX11_cycles_42 rfl rfl rfl ?_
        refine x_ic_ne (tgt := 49) dX11_cycles_43 rfl rfl (fun c43 => ?_) (fun c43 => ?_)
        · refine x_iinc dX11_cycles_49 rfl rfl (inc1 _) ?_
          refine x_goto (tgt := 27) dX11_cycles_52 rfl ?_
          exact x_to (ih c30 b3 h3 hb3 r3 f3 g3) ⟨rfl, rfl, rfl, by rw [cN_f (n := i) c43]; rfl, rfl, trivial⟩
        · refine x_iinc dX11_cycles_46 rfl rfl (inc1 _) ?_
          refine x_iinc dX11_cycles_49 rfl rfl (inc1 _) ?_
          refine x_goto (tgt := 27) dX11_cycles_52 rfl ?_
          exact x_to (ih c30 b3 h3 hb3 r3 f3 g3) ⟨rfl, rfl, rfl, by rw [cN_t (n := i) c43]; rfl, rfl, trivial⟩
      refine x_aload_n (i := 0) dX11_cycles_33 rfl rfl rfl ?_
      refine x_getC dX11_cycles_34 rfl fX11_42 hC rfl F_0_4 ?_
      refine x_iload dX11_cycles_37 rfl rfl ?_
      by_cases e0 : i = (zLst S.2.1 1).1 - 1
      · obtain rfl : b1 = true := by rcases hb1 with q | q; exact q; omega
        refine x_callV (ci := 9) (b := 31) (As := [_]) (d2 := d - 1) (mc2 := 0) (ms2 := 0) (k2 := 0) (n2 := 0) dX11_cycles_39 rfl kX11_325 okX9_cycleOf (hC.o rfl) (fun q hq => by cases hq; rfl) (by omega) rfl rfl (Nat.le_of_ble_eq_true rfl) (by omega) (by omega) (xCt_wk (Nat.le_refl _) (by rw [if_pos e0]; exact Nat.le_refl _) (by rw [if_pos e0]; exact Nat.le_refl _) (c_cycleOf (by omega) hT hU1 c30 (fun _ => ?_) (fun ne => absurd e0 ne)))
        exact x_to (nxt true h2 (Or.inl rfl) r2 f2 g2) ⟨rfl, rfl, rfl, rfl, rfl, trivial⟩
      · refine x_callV (ci := 9) (b := 31) (As := [_]) (d2 := d - 1) (mc2 := kB b1) (ms2 := nB b1) (k2 := 0) (n2 := 0) dX11_cycles_39 rfl kX11_325 okX9_cycleOf (hC.o rfl) (fun q hq => by cases hq; rfl) (by omega) rfl rfl (Nat.le_of_ble_eq_true rfl) (by omega) (by omega) (xCt_wk (Nat.le_refl _) (by rw [if_neg e0]; exact Nat.le_refl _) (by rw [if_neg e0]; exact Nat.le_refl _) (c_cycleOf (by omega) hT hU1 c30 (fun e => absurd e e0) (fun _ h3 u1 u2 u3 => ?_)))
        obtain ⟨a1, a2⟩ := r2.1.aft hI1 u1 u2 u3
        have := u2.2.1
        exact x_to (nxt true h3 (Or.inl rfl) a1 (f2.tr a2 (by omega)) (by show h3.2 + 0 ≤ _; omega)) ⟨rfl, rfl, rfl, rfl, rfl, trivial⟩) 0 (Nat.zero_le _)
  exact x_to (key b h1 (Or.inr rfl) k1 mF.rf (by have := kB_le b; omega)) ⟨rfl, rfl, rfl, rfl, rfl, trivial⟩
end PUB

