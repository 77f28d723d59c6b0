/-! EightParts$Units: associative, central, own inverses: over a closed table -/
/-- how many of the first n have a property -/
noncomputable def cN (p : Nat → Prop) : Nat → Nat
  | 0 => 0
  | n + 1 => @ite _ (p n) (Classical.propDecidable _) (cN p n + 1) (cN p n)
theorem cN_t {p : Nat → Prop} {n : Nat} (h : p n) : cN p (n + 1) = cN p n + 1 := if_pos h
theorem cN_f {p : Nat → Prop} {n : Nat} (h : ¬ p n) : cN p (n + 1) = cN p n := if_neg h
theorem cN_le (p : Nat → Prop) : ∀ n, cN p n ≤ n
  | 0 => Nat.le_refl _
  | n + 1 => by
    have := cN_le p n
    by_cases h : p n
    · rw [cN_t h]; omega
    · rw [cN_f h]; omega
theorem cN_cong {p q : Nat → Prop} : ∀ {n : Nat}, (∀ j, j < n → (p j ↔ q j)) → cN p n = cN q n
  | 0, _ => rfl
  | n + 1, h => by
    have ih := cN_cong (p := p) (q := q) (n := n) (fun j hj => h j (by omega))
    by_cases e : p n
    · rw [cN_t e, cN_t ((h n (by omega)).mp e), ih]
    · rw [cN_f e, cN_f (fun z => e ((h n (by omega)).mpr z)), ih]
section UNITS
variable {G : xG} {l : Launch} {d : Nat} {h : xH} {Q : Option Value → xH → Prop} {r o c : Nat} {rw0 : Nat → Nat} {mk : Nat → Option Nat} {mN : Nat → Nat} {T : Nat → Nat → Nat}
theorem c_assoc {u : Nat} (hd : 6 ≤ d) (hT : tblO o T) (hU : uM h o r rw0 mk c mN) (hu : u < (zLst o 1).1)
    (Kt : (∀ i, i < c → ∀ k, k < c → T (T u (mN i)) (mN k) = T u (T (mN i) (mN k))) → ∀ h2, uM h2 o r rw0 mk c mN → xSm [11, 31, 32, 33, r] h h2 → Q (some (.int (nI 1))) h2) (Kf : ¬ (∀ i, i < c → ∀ k, k < c → T (T u (mN i)) (mN k) = T u (T (mN i) (mN k))) → ∀ h2, uM h2 o r rw0 mk c mN → xSm [11, 31, 32, 33, r] h h2 → Q (some (.int (nI 0))) h2) : xCt G l mX9_associatesWithAll d [.ref 31, .int (nI u)] h 0 0 Q := by
  have hsN : (zLst o 1).1 ≤ 240 := zLst_le o 1
  refine xCt_of (by decide) (Nat.le_of_ble_eq_true rfl) ?_
  refine x_iconst dX9_associatesWithAll_0 rfl iC_0 ?_
  refine x_istore_n (i := 2) dX9_associatesWithAll_1 rfl rfl (by decide) ?_
  have key := xloop (P := fun i => ∀ h1, uM h1 o r rw0 mk c mN → xSm [11, 31, 32, 33, r] h h1 → (∀ j, j < i → ∀ k, k < c → T (T u (mN j)) (mN k) = T u (T (mN j) (mN k))) → xWP G l mX9_associatesWithAll d (zM G Q) 0 0 2 (xls [(0, .ref 31), (1, .int (nI u)), (2, .int (nI i))]) [] h1) c (by
    intro i hi ih h1 hU1 hS1 hall
    have hC := hU1.1.1
    have g8 := hU1.2.1
    have c240 := hU1.2.2.1
    have v35 := hC.v (a := 35) rfl
    refine x_iload_n (i := 2) dX9_associatesWithAll_2 rfl rfl rfl ?_
    refine x_aload_n (i := 0) dX9_associatesWithAll_3 rfl rfl rfl ?_
    refine x_getM (a := 31) dX9_associatesWithAll_4 rfl fX9_32 hC rfl g8 ?_
    refine x_jc_ge (tgt := 89) dX9_associatesWithAll_7 rfl rfl (by omega) (by omega) (fun c7 => ?_) (fun c7 => ?_)
    · obtain rfl : i = c := by omega
      refine x_iconst dX9_associatesWithAll_89 rfl iC_1 ?_
      refine x_ireturn dX9_associatesWithAll_90 rfl rfl ?_
      exact Kt hall h1 hU1 hS1
    · obtain ⟨m1, m2⟩ := hU1.2.2.2 i c7
      have t1 := (hT u (mN i) hu m1).1
      refine x_aload_n (i := 0) dX9_associatesWithAll_10 rfl rfl rfl ?_
      refine x_iload_n (i := 1) dX9_associatesWithAll_11 rfl rfl rfl ?_
      refine x_aload_n (i := 0) dX9_associatesWithAll_12 rfl rfl rfl ?_
      refine x_getC dX9_associatesWithAll_13 rfl fX9_25 hC rfl F_31_6 ?_
      refine x_iload_n (i := 2) dX9_associatesWithAll_16 rfl rfl rfl ?_
      refine x_iald dX9_associatesWithAll_17 rfl (by first | assumption | exact hs_eq | exact hs_ne (by first | assumption | decide | omega) (by first | assumption | exact hs_eq | exact hs_ne (by first | assumption | decide | omega) (by first | assumption | exact hs_eq | exact hs_ne (by first | assumption | decide | omega) (by assumption)))) rfl (by omega) (by decide) ?_
      rw [m2]
      refine x_callV0 (ci := 9) (b := 31) (As := [_, _]) (d2 := d - 1) dX9_associatesWithAll_18 rfl kX9_58 okX9_multiplyAt (hC.o rfl) (fun q hq => by cases hq; rfl) (by omega) rfl rfl (Nat.le_of_ble_eq_true rfl) (c_mulT (by omega) hT hU1 hu m1 (fun h2 hU2 hS2 => ?_))
      refine x_istore_n (i := 3) dX9_associatesWithAll_21 rfl rfl (by decide) ?_
      refine x_iconst dX9_associatesWithAll_22 rfl iC_0 ?_
      refine x_istore dX9_associatesWithAll_23 rfl (by decide) ?_
      have keyI := xloop (P := fun k => ∀ h1, uM h1 o r rw0 mk c mN → xSm [11, 31, 32, 33, r] h h1 → (∀ j, j < k → T (T u (mN i)) (mN j) = T u (T (mN i) (mN j))) → xWP G l mX9_associatesWithAll d (zM G Q) 0 0 25 (xls [(0, .ref 31), (1, .int (nI u)), (2, .int (nI i)), (3, .int (nI (T u (mN i)))), (4, .int (nI k))]) [] h1) c (by
        intro k hk ihk h1 hU1 hS1 hallk
        have hC := hU1.1.1
        have g8 := hU1.2.1
        have v35 := hC.v (a := 35) rfl
        refine x_iload dX9_associatesWithAll_25 rfl rfl ?_
        refine x_aload_n (i := 0) dX9_associatesWithAll_27 rfl rfl rfl ?_
        refine x_getM (a := 31) dX9_associatesWithAll_28 rfl fX9_32 hC rfl g8 ?_
        refine x_jc_ge (tgt := 83) dX9_associatesWithAll_31 rfl rfl (by omega) (by omega) (fun c31 => ?_) (fun c31 => ?_)
        · obtain rfl : k = c := by omega
          refine x_iinc dX9_associatesWithAll_83 rfl rfl (inc1 _) ?_
          refine x_goto (tgt := 2) dX9_associatesWithAll_86 rfl ?_
          refine x_to (ih c7 h1 hU1 hS1 (fun j hj => ?_)) ⟨rfl, rfl, rfl, trivial⟩
          by_cases e : j = i
          · rw [e]
            exact hallk
          · exact hall j (by omega)
        · obtain ⟨n1, n2⟩ := hU1.2.2.2 k c31
          have m2' := (hU1.2.2.2 i c7).2
          have t2 := (hT (mN i) (mN k) m1 n1).1
          have t3 := (hT (T u (mN i)) (mN k) t1 n1).1
          have t4 := (hT u (T (mN i) (mN k)) hu t2).1
          refine x_aload_n (i := 0) dX9_associatesWithAll_34 rfl rfl rfl ?_
          refine x_aload_n (i := 0) dX9_associatesWithAll_35 rfl rfl rfl ?_
          refine x_getC dX9_associatesWithAll_36 rfl fX9_25 hC rfl F_31_6 ?_
          refine x_iload_n (i := 2) dX9_associatesWithAll_39 rfl rfl rfl ?_
          refine x_iald dX9_associatesWithAll_40 rfl (by first | assumption | exact hs_eq | exact hs_ne (by first | assumption | decide | omega) (by first | assumption | exact hs_eq | exact hs_ne (by first | assumption | decide | omega) (by first | assumption | exact hs_eq | exact hs_ne (by first | assumption | decide | omega) (by assumption)))) rfl (by omega) (by decide) ?_
          rw [m2']
          refine x_aload_n (i := 0) dX9_associatesWithAll_41 rfl rfl rfl ?_
          refine x_getC dX9_associatesWithAll_42 rfl fX9_25 hC rfl F_31_6 ?_
          refine x_iload dX9_associatesWithAll_45 rfl rfl ?_
          refine x_iald dX9_associatesWithAll_47 rfl (by first | assumption | exact hs_eq | exact hs_ne (by first | assumption | decide | omega) (by first | assumption | exact hs_eq | exact hs_ne (by first | assumption | decide | omega) (by first | assumption | exact hs_eq | exact hs_ne (by first | assumption | decide | omega) (by assumption)))) rfl (by omega) (by decide) ?_
          rw [n2]
          refine x_callV0 (ci := 9) (b := 31) (As := [_, _]) (d2 := d - 1) dX9_associatesWithAll_48 rfl kX9_58 okX9_multiplyAt (hC.o rfl) (fun q hq => by cases hq; rfl) (by omega) rfl rfl (Nat.le_of_ble_eq_true rfl) (c_mulT (by omega) hT hU1 m1 n1 (fun h2 hU2 hS2 => ?_))
          have hC := hU2.1.1
          have v35 := hC.v (a := 35) rfl
          have n2' := (hU2.2.2.2 k c31).2
          refine x_istore dX9_associatesWithAll_51 rfl (by decide) ?_
          refine x_aload_n (i := 0) dX9_associatesWithAll_53 rfl rfl rfl ?_
          refine x_iload_n (i := 3) dX9_associatesWithAll_54 rfl rfl rfl ?_
          refine x_aload_n (i := 0) dX9_associatesWithAll_55 rfl rfl rfl ?_
          refine x_getC dX9_associatesWithAll_56 rfl fX9_25 hC rfl F_31_6 ?_
          refine x_iload dX9_associatesWithAll_59 rfl rfl ?_
          refine x_iald dX9_associatesWithAll_61 rfl (by first | assumption | exact hs_eq | exact hs_ne (by first | assumption | decide | omega) (by first | assumption | exact hs_eq | exact hs_ne (by first | assumption | decide | omega) (by first | assumption | exact hs_eq | exact hs_ne (by first | assumption | decide | omega) (by assumption)))) rfl (by omega) (by decide) ?_
          rw [n2']
          refine x_callV0 (ci := 9) (b := 31) (As := [_, _]) (d2 := d - 1) dX9_associatesWithAll_62 rfl kX9_58 okX9_multiplyAt (hC.o rfl) (fun q hq => by cases hq; rfl) (by omega) rfl rfl (Nat.le_of_ble_eq_true rfl) (c_mulT (by omega) hT hU2 t1 n1 (fun h3 hU3 hS3 => ?_))
          refine x_aload_n (i := 0) dX9_associatesWithAll_65 rfl rfl rfl ?_
          refine x_iload_n (i := 1) dX9_associatesWithAll_66 rfl rfl rfl ?_
          refine x_iload dX9_associatesWithAll_67 rfl rfl ?_
          have hC := hU3.1.1
          refine x_callV0 (ci := 9) (b := 31) (As := [_, _]) (d2 := d - 1) dX9_associatesWithAll_69 rfl kX9_58 okX9_multiplyAt (hC.o rfl) (fun q hq => by cases hq; rfl) (by omega) rfl rfl (Nat.le_of_ble_eq_true rfl) (c_mulT (by omega) hT hU3 hu t2 (fun h4 hU4 hS4 => ?_))
          have hS := (((hS1.tr hS2).tr hS3).tr hS4).sub (T := [11, 31, 32, 33, r]) (by simp)
          refine x_jc_eq (tgt := 77) dX9_associatesWithAll_72 rfl rfl (by omega) (by omega) (fun c72 => ?_) (fun c72 => ?_)
          · refine x_iinc dX9_associatesWithAll_77 rfl rfl (inc1 _) ?_
            refine x_goto (tgt := 25) dX9_associatesWithAll_80 rfl ?_
            refine x_to (ihk c31 h4 hU4 hS (fun j hj => ?_)) ⟨rfl, rfl, rfl, rfl, rfl, trivial⟩
            by_cases e : j = k
            · rw [e]
              exact c72
            · exact hallk j (by omega)
          · refine x_iconst dX9_associatesWithAll_75 rfl iC_0 ?_
            refine x_ireturn dX9_associatesWithAll_76 rfl rfl ?_
            exact Kf (fun z => c72 (z i c7 k c31)) h4 hU4 hS) 0 (Nat.zero_le _)
      exact x_to (keyI h2 hU2 ((hS1.tr hS2).sub (by simp)) (fun j hj => absurd hj (Nat.not_lt_zero j))) ⟨rfl, rfl, rfl, rfl, rfl, trivial⟩) 0 (Nat.zero_le _)
  exact x_to (key h hU (xSm.rf.sub (by simp)) (fun j hj => absurd hj (Nat.not_lt_zero j))) ⟨rfl, rfl, rfl, trivial⟩
theorem c_isReal {u : Nat} (hd : 1 ≤ d) (hU : uG h o r rw0 mk) (hu : u < (zLst o 1).1) (Kt : (u = 0 ∨ u = (zLst o 1).1 - 1) → Q (some (.int (nI 1))) h) (Kf : ¬ (u = 0 ∨ u = (zLst o 1).1 - 1) → Q (some (.int (nI 0))) h) : xCt G l mX9_isReal d [.ref 31, .int (nI u)] h 0 0 Q := by
  have hsN : (zLst o 1).1 ≤ 240 := zLst_le o 1
  obtain ⟨hC, ho, ho8, hL, hmk, -⟩ := hU
  refine xCt_of (by decide) (Nat.le_of_ble_eq_true rfl) ?_
  refine x_iload_n (i := 1) dX9_isReal_0 rfl rfl rfl ?_
  refine x_if_eq (tgt := 18) dX9_isReal_1 rfl rfl (fun c1 => ?_) (fun c1 => ?_)
  · refine x_iconst dX9_isReal_18 rfl iC_1 ?_
    refine x_goto (tgt := 23) dX9_isReal_19 rfl ?_
    refine x_ireturn dX9_isReal_23 rfl rfl ?_
    exact Kt (Or.inl ((nI_eq (by omega) (by omega)).mp (c1.trans nI_0.symm)))
  · refine x_iload_n (i := 1) dX9_isReal_4 rfl rfl rfl ?_
    refine x_aload_n (i := 0) dX9_isReal_5 rfl rfl rfl ?_
    refine x_getC dX9_isReal_6 rfl fX9_35 hC rfl F_31_0 ?_
    refine x_iconst dX9_isReal_9 rfl iC_1 ?_
    refine x_callV0 (ci := 4) (b := 22) (As := [_]) (d2 := d - 1) dX9_isReal_10 rfl kX9_43 okX4_manyOf (hC.o rfl) (fun q hq => by cases hq; rfl) (by omega) rfl rfl (Nat.le_of_ble_eq_true rfl) (c_lmanyOfC (norm := 1) hC ho ho8 (by decide) hL hmk ?_)
    refine x_iconst dX9_isReal_13 rfl iC_1 ?_
    refine x_isub dX9_isReal_14 rfl ?_
    rw [show nI (zLst o 1).1 - nI 1 = nI ((zLst o 1).1 - 1) from pk_sub (by omega)]
    refine x_jc_ne (tgt := 22) dX9_isReal_15 rfl rfl (by omega) (by omega) (fun c15 => ?_) (fun c15 => ?_)
    · refine x_iconst dX9_isReal_22 rfl iC_0 ?_
      refine x_ireturn dX9_isReal_23 rfl rfl ?_
      exact Kf (by rintro (z | z); exact c1 (by rw [z]; exact nI_0); exact c15 z)
    · refine x_iconst dX9_isReal_18 rfl iC_1 ?_
      refine x_goto (tgt := 23) dX9_isReal_19 rfl ?_
      refine x_ireturn dX9_isReal_23 rfl rfl ?_
      exact Kt (Or.inr c15)
/-- that a unit is 1 or -1, or associates with all -/
def asU (o : Nat) (T : Nat → Nat → Nat) (c : Nat) (mN : Nat → Nat) (u : Nat) : Prop := (u = 0 ∨ u = (zLst o 1).1 - 1) ∨ ∀ i, i < c → ∀ k, k < c → T (T u (mN i)) (mN k) = T u (T (mN i) (mN k))
theorem c_areAssoc (hd : 7 ≤ d) (hT : tblO o T) (hU : uM h o r rw0 mk c mN)
    (Kt : (∀ i, i < c → asU o T c mN (mN i)) → ∀ h2, uM h2 o r rw0 mk c mN → xSm [11, 31, 32, 33, r] h h2 → Q (some (.int (nI 1))) h2) (Kf : ¬ (∀ i, i < c → asU o T c mN (mN i)) → ∀ h2, uM h2 o r rw0 mk c mN → xSm [11, 31, 32, 33, r] h h2 → Q (some (.int (nI 0))) h2) : xCt G l mX9_areAssociative d [.ref 31] h 0 0 Q := by
  have hsN : (zLst o 1).1 ≤ 240 := zLst_le o 1
  refine xCt_of (by decide) (Nat.le_of_ble_eq_true rfl) ?_
  refine x_iconst dX9_areAssociative_0 rfl iC_0 ?_
  refine x_istore_n (i := 1) dX9_areAssociative_1 rfl rfl (by decide) ?_
  have key := xloop (P := fun i => ∀ h1, uM h1 o r rw0 mk c mN → xSm [11, 31, 32, 33, r] h h1 → (∀ j, j < i → asU o T c mN (mN j)) → xWP G l mX9_areAssociative d (zM G Q) 0 0 2 (xls [(0, .ref 31), (1, .int (nI i))]) [] h1) c (by
    intro i hi ih h1 hU1 hS1 hall
    have hC := hU1.1.1
    have g8 := hU1.2.1
    have c240 := hU1.2.2.1
    have v35 := hC.v (a := 35) rfl
    have nxt : ∀ h2, uM h2 o r rw0 mk c mN → xSm [11, 31, 32, 33, r] h h2 → i < c → asU o T c mN (mN i) → xWP G l mX9_areAssociative d (zM G Q) 0 0 38 (xls [(0, .ref 31), (1, .int (nI i))]) [] h2 := by
      intro h2 hU2 hS2 hic ha
      refine x_iinc dX9_areAssociative_38 rfl rfl (inc1 _) ?_
      refine x_goto (tgt := 2) dX9_areAssociative_41 rfl ?_
      refine x_to (ih hic h2 hU2 hS2 (fun j hj => ?_)) ⟨rfl, rfl, trivial⟩
      by_cases e : j = i
      · rw [e]
        exact ha
      · exact hall j (by omega)
    refine x_iload_n (i := 1) dX9_areAssociative_2 rfl rfl rfl ?_
    refine x_aload_n (i := 0) dX9_areAssociative_3 rfl rfl rfl ?_
    refine x_getM (a := 31) dX9_areAssociative_4 rfl fX9_32 hC rfl g8 ?_
    refine x_jc_ge (tgt := 44) dX9_areAssociative_7 rfl rfl (by omega) (by omega) (fun c7 => ?_) (fun c7 => ?_)
    · obtain rfl : i = c := by omega
      refine x_iconst dX9_areAssociative_44 rfl iC_1 ?_
      refine x_ireturn dX9_areAssociative_45 rfl rfl ?_
      exact Kt hall h1 hU1 hS1
    · obtain ⟨m1, m2⟩ := hU1.2.2.2 i c7
      refine x_aload_n (i := 0) dX9_areAssociative_10 rfl rfl rfl ?_
      refine x_aload_n (i := 0) dX9_areAssociative_11 rfl rfl rfl ?_
      refine x_getC dX9_areAssociative_12 rfl fX9_25 hC rfl F_31_6 ?_
      refine x_iload_n (i := 1) dX9_areAssociative_15 rfl rfl rfl ?_
      refine x_iald dX9_areAssociative_16 rfl (by first | assumption | exact hs_eq | exact hs_ne (by first | assumption | decide | omega) (by first | assumption | exact hs_eq | exact hs_ne (by first | assumption | decide | omega) (by first | assumption | exact hs_eq | exact hs_ne (by first | assumption | decide | omega) (by assumption)))) rfl (by omega) (by decide) ?_
      rw [m2]
      refine x_callV0 (ci := 9) (b := 31) (As := [_]) (d2 := d - 1) dX9_areAssociative_17 rfl kX9_83 okX9_isReal (hC.o rfl) (fun q hq => by cases hq; rfl) (by omega) rfl rfl (Nat.le_of_ble_eq_true rfl) (c_isReal (by omega) hU1.1 m1 (fun z => ?_) (fun z => ?_))
      · refine x_if_ne_t (tgt := 38) dX9_areAssociative_20 rfl nb1 ?_
        exact x_to (nxt h1 hU1 hS1 c7 (Or.inl z)) ⟨rfl, rfl, trivial⟩
      · refine x_if_ne_f (tgt := 38) dX9_areAssociative_20 rfl rfl nI_0 ?_
        refine x_aload_n (i := 0) dX9_areAssociative_23 rfl rfl rfl ?_
        refine x_aload_n (i := 0) dX9_areAssociative_24 rfl rfl rfl ?_
        refine x_getC dX9_areAssociative_25 rfl fX9_25 hC rfl F_31_6 ?_
        refine x_iload_n (i := 1) dX9_areAssociative_28 rfl rfl rfl ?_
        refine x_iald dX9_areAssociative_29 rfl (by first | assumption | exact hs_eq | exact hs_ne (by first | assumption | decide | omega) (by first | assumption | exact hs_eq | exact hs_ne (by first | assumption | decide | omega) (by first | assumption | exact hs_eq | exact hs_ne (by first | assumption | decide | omega) (by assumption)))) rfl (by omega) (by decide) ?_
        rw [m2]
        refine x_callV0 (ci := 9) (b := 31) (As := [_]) (d2 := d - 1) dX9_areAssociative_30 rfl kX9_87 okX9_associatesWithAll (hC.o rfl) (fun q hq => by cases hq; rfl) (by omega) rfl rfl (Nat.le_of_ble_eq_true rfl) (c_assoc (by omega) hT hU1 m1 (fun z2 h2 hU2 hS2 => ?_) (fun z2 h2 hU2 hS2 => ?_))
        · refine x_if_ne_t (tgt := 38) dX9_areAssociative_33 rfl nb1 ?_
          exact x_to (nxt h2 hU2 ((hS1.tr hS2).sub (by simp)) c7 (Or.inr z2)) ⟨rfl, rfl, trivial⟩
        · refine x_if_ne_f (tgt := 38) dX9_areAssociative_33 rfl rfl nI_0 ?_
          refine x_iconst dX9_areAssociative_36 rfl iC_0 ?_
          refine x_ireturn dX9_areAssociative_37 rfl rfl ?_
          exact Kf (fun q => by rcases q i c7 with y | y; exact z y; exact z2 y) h2 hU2 ((hS1.tr hS2).sub (by simp))) 0 (Nat.zero_le _)
  exact x_to (key h hU (xSm.rf.sub (by simp)) (fun j hj => absurd hj (Nat.not_lt_zero j))) ⟨rfl, rfl, trivial⟩
theorem c_central (hd : 7 ≤ d) (hT : tblO o T) (hU : uM h o r rw0 mk c mN)
    (K : ∀ h2, uM h2 o r rw0 mk c mN → xSm [11, 31, 32, 33, r] h h2 → Q (some (.int (nI (cN (fun i => ∀ j, j < c → T (mN i) (mN j) = T (mN j) (mN i)) c)))) h2) : xCt G l mX9_manyCentral d [.ref 31] h 0 0 Q := by
  have hsN : (zLst o 1).1 ≤ 240 := zLst_le o 1
  refine xCt_of (by decide) (Nat.le_of_ble_eq_true rfl) ?_
  refine x_iconst dX9_manyCentral_0 rfl iC_0 ?_
  refine x_istore_n (i := 1) dX9_manyCentral_1 rfl rfl (by decide) ?_
  refine x_iconst dX9_manyCentral_2 rfl iC_0 ?_
  refine x_istore_n (i := 2) dX9_manyCentral_3 rfl rfl (by decide) ?_
  have key := xloop (P := fun i => ∀ h1, uM h1 o r rw0 mk c mN → xSm [11, 31, 32, 33, r] h h1 → xWP G l mX9_manyCentral d (zM G Q) 0 0 4 (xls [(0, .ref 31), (1, .int (nI (cN (fun i => ∀ j, j < c → T (mN i) (mN j) = T (mN j) (mN i)) i))), (2, .int (nI i))]) [] h1) c (by
    intro i hi ih h1 hU1 hS1
    have hC := hU1.1.1
    have g8 := hU1.2.1
    have c240 := hU1.2.2.1
    have v35 := hC.v (a := 35) rfl
    refine x_iload_n (i := 2) dX9_manyCentral_4 rfl rfl rfl ?_
    refine x_aload_n (i := 0) dX9_manyCentral_5 rfl rfl rfl ?_
    refine x_getM (a := 31) dX9_manyCentral_6 rfl fX9_32 hC rfl g8 ?_
    refine x_jc_ge (tgt := 34) dX9_manyCentral_9 rfl rfl (by omega) (by omega) (fun c9 => ?_) (fun c9 => ?_)
    · obtain rfl : i = c := by omega
      refine x_iload_n (i := 1) dX9_manyCentral_34 rfl rfl rfl ?_
      refine x_ireturn dX9_manyCentral_35 rfl rfl ?_
      exact K h1 hU1 hS1
    · obtain ⟨m1, m2⟩ := hU1.2.2.2 i c9
      refine x_aload_n (i := 0) dX9_manyCentral_12 rfl rfl rfl ?_
      refine x_aload_n (i := 0) dX9_manyCentral_13 rfl rfl rfl ?_
      refine x_getC dX9_manyCentral_14 rfl fX9_25 hC rfl F_31_6 ?_
      refine x_iload_n (i := 2) dX9_manyCentral_17 rfl rfl rfl ?_
      refine x_iald dX9_manyCentral_18 rfl (by first | assumption | exact hs_eq | exact hs_ne (by first | assumption | decide | omega) (by first | assumption | exact hs_eq | exact hs_ne (by first | assumption | decide | omega) (by first | assumption | exact hs_eq | exact hs_ne (by first | assumption | decide | omega) (by assumption)))) rfl (by omega) (by decide) ?_
      rw [m2]
      refine x_callV0 (ci := 9) (b := 31) (As := [_]) (d2 := d - 1) dX9_manyCentral_19 rfl kX9_90 okX9_commutesWithAll (hC.o rfl) (fun q hq => by cases hq; rfl) (by omega) rfl rfl (Nat.le_of_ble_eq_true rfl) (c_commutes (by omega) hT hU1 m1 (fun z h2 hU2 hS2 => ?_) (fun z h2 hU2 hS2 => ?_))
      · refine x_if_eq_f (tgt := 28) dX9_manyCentral_22 rfl rfl nb1 ?_
        refine x_iinc dX9_manyCentral_25 rfl rfl (inc1 _) ?_
        refine x_iinc dX9_manyCentral_28 rfl rfl (inc1 _) ?_
        refine x_goto (tgt := 4) dX9_manyCentral_31 rfl ?_
        exact x_to (ih c9 h2 hU2 ((hS1.tr hS2).sub (by simp))) ⟨rfl, by rw [cN_t (n := i) z]; rfl, rfl, trivial⟩
      · refine x_if_eq_t (tgt := 28) dX9_manyCentral_22 rfl nI_0 ?_
        refine x_iinc dX9_manyCentral_28 rfl rfl (inc1 _) ?_
        refine x_goto (tgt := 4) dX9_manyCentral_31 rfl ?_
        exact x_to (ih c9 h2 hU2 ((hS1.tr hS2).sub (by simp))) ⟨rfl, by rw [cN_f (n := i) z]; rfl, rfl, trivial⟩) 0 (Nat.zero_le _)
  exact x_to (key h hU (xSm.rf.sub (by simp))) ⟨rfl, rfl, rfl, trivial⟩
theorem c_ownInv (hd : 6 ≤ d) (hT : tblO o T) (hU : uM h o r rw0 mk c mN) (hz : 0 < (zLst o 1).1)
    (K : ∀ h2, uM h2 o r rw0 mk c mN → xSm [11, 31, 32, 33, r] h h2 → Q (some (.int (nI (cN (fun i => T (mN i) (mN i) = (zLst o 1).1 - 1) c)))) h2) : xCt G l mX9_manyOwnInverse d [.ref 31] h 0 0 Q := by
  have hsN : (zLst o 1).1 ≤ 240 := zLst_le o 1
  refine xCt_of (by decide) (Nat.le_of_ble_eq_true rfl) ?_
  have hC := hU.1.1
  refine x_aload_n (i := 0) dX9_manyOwnInverse_0 rfl rfl rfl ?_
  refine x_getC dX9_manyOwnInverse_1 rfl fX9_35 hC rfl F_31_0 ?_
  refine x_iconst dX9_manyOwnInverse_4 rfl iC_1 ?_
  refine x_callV0 (ci := 4) (b := 22) (As := [_]) (d2 := d - 1) dX9_manyOwnInverse_5 rfl kX9_43 okX4_manyOf (hC.o rfl) (fun q hq => by cases hq; rfl) (by omega) rfl rfl (Nat.le_of_ble_eq_true rfl) (c_lmanyOfC (norm := 1) hC hU.1.2.1 hU.1.2.2.1 (by decide) hU.1.2.2.2.1 hU.1.2.2.2.2.1 ?_)
  refine x_iconst dX9_manyOwnInverse_8 rfl iC_1 ?_
  refine x_isub dX9_manyOwnInverse_9 rfl ?_
  rw [show nI (zLst o 1).1 - nI 1 = nI ((zLst o 1).1 - 1) from pk_sub (by omega)]
  refine x_istore_n (i := 1) dX9_manyOwnInverse_10 rfl rfl (by decide) ?_
  refine x_iconst dX9_manyOwnInverse_11 rfl iC_0 ?_
  refine x_istore_n (i := 2) dX9_manyOwnInverse_12 rfl rfl (by decide) ?_
  refine x_iconst dX9_manyOwnInverse_13 rfl iC_0 ?_
  refine x_istore_n (i := 3) dX9_manyOwnInverse_14 rfl rfl (by decide) ?_
  have key := xloop (P := fun i => ∀ h1, uM h1 o r rw0 mk c mN → xSm [11, 31, 32, 33, r] h h1 → xWP G l mX9_manyOwnInverse d (zM G Q) 0 0 15 (xls [(0, .ref 31), (1, .int (nI ((zLst o 1).1 - 1))), (2, .int (nI (cN (fun i => T (mN i) (mN i) = (zLst o 1).1 - 1) i))), (3, .int (nI i))]) [] h1) c (by
    intro i hi ih h1 hU1 hS1
    have hC := hU1.1.1
    have g8 := hU1.2.1
    have c240 := hU1.2.2.1
    have v35 := hC.v (a := 35) rfl
    refine x_iload_n (i := 3) dX9_manyOwnInverse_15 rfl rfl rfl ?_
    refine x_aload_n (i := 0) dX9_manyOwnInverse_16 rfl rfl rfl ?_
    refine x_getM (a := 31) dX9_manyOwnInverse_17 rfl fX9_32 hC rfl g8 ?_
    refine x_jc_ge (tgt := 52) dX9_manyOwnInverse_20 rfl rfl (by omega) (by omega) (fun c20 => ?_) (fun c20 => ?_)
    · obtain rfl : i = c := by omega
      refine x_iload_n (i := 2) dX9_manyOwnInverse_52 rfl rfl rfl ?_
      refine x_ireturn dX9_manyOwnInverse_53 rfl rfl ?_
      exact K h1 hU1 hS1
    · obtain ⟨m1, m2⟩ := hU1.2.2.2 i c20
      have t1 := (hT (mN i) (mN i) m1 m1).1
      refine x_aload_n (i := 0) dX9_manyOwnInverse_23 rfl rfl rfl ?_
      refine x_aload_n (i := 0) dX9_manyOwnInverse_24 rfl rfl rfl ?_
      refine x_getC dX9_manyOwnInverse_25 rfl fX9_25 hC rfl F_31_6 ?_
      refine x_iload_n (i := 3) dX9_manyOwnInverse_28 rfl rfl rfl ?_
      refine x_iald dX9_manyOwnInverse_29 rfl (by first | assumption | exact hs_eq | exact hs_ne (by first | assumption | decide | omega) (by first | assumption | exact hs_eq | exact hs_ne (by first | assumption | decide | omega) (by first | assumption | exact hs_eq | exact hs_ne (by first | assumption | decide | omega) (by assumption)))) rfl (by omega) (by decide) ?_
      rw [m2]
      refine x_aload_n (i := 0) dX9_manyOwnInverse_30 rfl rfl rfl ?_
      refine x_getC dX9_manyOwnInverse_31 rfl fX9_25 hC rfl F_31_6 ?_
      refine x_iload_n (i := 3) dX9_manyOwnInverse_34 rfl rfl rfl ?_
      refine x_iald dX9_manyOwnInverse_35 rfl (by first | assumption | exact hs_eq | exact hs_ne (by first | assumption | decide | omega) (by first | assumption | exact hs_eq | exact hs_ne (by first | assumption | decide | omega) (by first | assumption | exact hs_eq | exact hs_ne (by first | assumption | decide | omega) (by assumption)))) rfl (by omega) (by decide) ?_
      rw [m2]
      refine x_callV0 (ci := 9) (b := 31) (As := [_, _]) (d2 := d - 1) dX9_manyOwnInverse_36 rfl kX9_58 okX9_multiplyAt (hC.o rfl) (fun q hq => by cases hq; rfl) (by omega) rfl rfl (Nat.le_of_ble_eq_true rfl) (c_mulT (by omega) hT hU1 m1 m1 (fun h2 hU2 hS2 => ?_))
      refine x_iload_n (i := 1) dX9_manyOwnInverse_39 rfl rfl rfl ?_
      refine x_jc_ne (tgt := 46) dX9_manyOwnInverse_40 rfl rfl (by omega) (by omega) (fun c40 => ?_) (fun c40 => ?_)
      · refine x_iinc dX9_manyOwnInverse_46 rfl rfl (inc1 _) ?_
        refine x_goto (tgt := 15) dX9_manyOwnInverse_49 rfl ?_
        exact x_to (ih c20 h2 hU2 ((hS1.tr hS2).sub (by simp))) ⟨rfl, rfl, by rw [cN_f (n := i) c40]; rfl, rfl, trivial⟩
      · refine x_iinc dX9_manyOwnInverse_43 rfl rfl (inc1 _) ?_
        refine x_iinc dX9_manyOwnInverse_46 rfl rfl (inc1 _) ?_
        refine x_goto (tgt := 15) dX9_manyOwnInverse_49 rfl ?_
        exact x_to (ih c20 h2 hU2 ((hS1.tr hS2).sub (by simp))) ⟨rfl, rfl, by rw [cN_t (n := i) c40]; rfl, rfl, trivial⟩) 0 (Nat.zero_le _)
  exact x_to (key h hU (xSm.rf.sub (by simp))) ⟨rfl, rfl, rfl, rfl, trivial⟩
end UNITS

