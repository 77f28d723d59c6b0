/-! EightParts$Ways: rows made; how many are unlike -/
def zSame (f g : Nat → Int32) : Prop := ∀ j, j < 8 → f j = g j
/-- the n-th of some ways is unlike those ahead of it -/
def vNew (V : Nat → zO) (s n : Nat) : Prop := ∀ j, j < n → ∀ f g, V (s + j) = some f → V (s + n) = some g → ¬ zSame f g
noncomputable def oUnl (V : Nat → zO) (s : Nat) : Nat → Option Nat
  | 0 => some 0
  | n + 1 => (oUnl V s n).bind (fun c => (V (s + n)).map (fun _ => @ite _ (vNew V s n) (Classical.propDecidable _) (c + 1) c))
theorem oUnl_none {V : Nat → zO} {s k : Nat} (hn : oUnl V s k = none) : ∀ m, k ≤ m → oUnl V s m = none := by
  intro m hm
  induction m with
  | zero => rwa [Nat.le_zero.mp hm] at hn
  | succ m ih =>
    rcases Nat.lt_or_ge k (m + 1) with q | q
    · rw [oUnl, ih (by omega)]
      rfl
    · rwa [show k = m + 1 by omega] at hn
theorem oUnl_all {V : Nat → zO} {s : Nat} : ∀ n c, oUnl V s n = some c → c ≤ n ∧ ∀ j, j < n → ∃ f, V (s + j) = some f := by
  intro n
  induction n with
  | zero =>
    intro c hc
    cases hc
    exact ⟨Nat.le_refl _, fun j hj => absurd hj (Nat.not_lt_zero j)⟩
  | succ n ih =>
    intro c hc
    rw [oUnl] at hc
    obtain ⟨c1, h1, h2⟩ := Option.bind_eq_some_iff.mp hc
    obtain ⟨f, h3, h4⟩ := Option.map_eq_some_iff.mp h2
    obtain ⟨i1, i2⟩ := ih c1 h1
    refine ⟨?_, fun j hj => ?_⟩
    · rw [← h4]
      split <;> omega
    · by_cases e : j = n
      · exact ⟨f, by rw [e]; exact h3⟩
      · exact i2 j (by omega)
section WAYS
variable {G : xG} {l : Launch} {d : Nat} {h : xH} {Q : Option Value → xH → Prop}
theorem c_isNew {p s n : Nat} {V : Nat → zO} (hd : 1 ≤ d) (hC : Cs h) (hR : wyR h p) (hV : wyV h p V) (hn : s + n < 104) (ha : ∀ j, j ≤ n → ∃ f, V (s + j) = some f)
    (Kt : vNew V s n → Q (some (.int (nI 1))) h) (Kf : ¬ vNew V s n → Q (some (.int (nI 0))) h) : xCt G l mX10_isNew d [.ref 53, .int (nI s), .int (nI (s + n))] h 0 0 Q := by
  obtain ⟨r1, r2, r3, r4, r5⟩ := hR
  have ev : ∀ j, j ≤ n → V (s + j) = some (iv h (p + 1 + (s + j))) := by
    intro j hj
    rcases hV (s + j) (by omega) with q | q
    · exact q.1
    · obtain ⟨f, hf⟩ := ha j hj
      rw [q.1] at hf
      cases hf
  refine xCt_of (by decide) (Nat.le_of_ble_eq_true rfl) ?_
  refine x_iload_n (i := 1) dX10_isNew_0 rfl rfl rfl ?_
  refine x_istore_n (i := 3) dX10_isNew_1 rfl rfl (by decide) ?_
  have key := xloop (P := fun i => (∀ j, j < i → ¬ zSame (iv h (p + 1 + (s + j))) (iv h (p + 1 + (s + n)))) → xWP G l mX10_isNew d (zM G Q) 0 0 2 (xls [(0, .ref 53), (1, .int (nI s)), (2, .int (nI (s + n))), (3, .int (nI (s + i)))]) [] h) n (by
    intro i hi ih hno
    refine x_iload_n (i := 3) dX10_isNew_2 rfl rfl rfl ?_
    refine x_iload_n (i := 2) dX10_isNew_3 rfl rfl rfl ?_
    refine x_jc_ge (tgt := 33) dX10_isNew_4 rfl rfl (by omega) (by omega) (fun c4 => ?_) (fun c4 => ?_)
    · obtain rfl : i = n := by omega
      refine x_iconst dX10_isNew_33 rfl iC_1 ?_
      refine x_ireturn dX10_isNew_34 rfl rfl ?_
      refine Kt (fun j hj f g hf hg => ?_)
      rw [ev j (by omega)] at hf
      rw [ev i (by omega)] at hg
      cases hf
      cases hg
      exact hno j hj
    · have vi := r5 (s + i) (by omega)
      have vn := r5 (s + n) hn
      unfold xV8 at vi vn
      refine x_aload_n (i := 0) dX10_isNew_7 rfl rfl rfl ?_
      refine x_getM (a := 53) dX10_isNew_8 rfl fX10_11 hC rfl r1 ?_
      refine x_iload_n (i := 3) dX10_isNew_11 rfl rfl rfl ?_
      refine x_aald (t := 0)  dX10_isNew_12 rfl r4 (by decide) rfl (by omega) (by decide) ?_
      refine x_aload_n (i := 0) dX10_isNew_13 rfl rfl rfl ?_
      refine x_getM (a := 53) dX10_isNew_14 rfl fX10_11 hC rfl r1 ?_
      refine x_iload_n (i := 2) dX10_isNew_17 rfl rfl rfl ?_
      refine x_aald (t := 0)  dX10_isNew_18 rfl r4 (by decide) rfl (by omega) (by decide) ?_
      refine x_callS0 (As := [_, _]) (d2 := d - 1) dX10_isNew_19 rfl kX10_49 okX5_areEqual (by omega) rfl rfl (Nat.le_of_ble_eq_true rfl) (c_areEqual vi vn (fun z => ?_) (fun z => ?_))
      · refine x_if_eq_f (tgt := 27) dX10_isNew_22 rfl rfl nb1 ?_
        refine x_iconst dX10_isNew_25 rfl iC_0 ?_
        refine x_ireturn dX10_isNew_26 rfl rfl ?_
        exact Kf (fun q => q i (by omega) _ _ (ev i hi) (ev n (by omega)) z)
      · refine x_if_eq_t (tgt := 27) dX10_isNew_22 rfl nI_0 ?_
        refine x_iinc dX10_isNew_27 rfl rfl (inc1 _) ?_
        refine x_goto (tgt := 2) dX10_isNew_30 rfl ?_
        refine x_to (ih (by omega) (fun j hj => ?_)) ⟨rfl, rfl, rfl, rfl, trivial⟩
        by_cases e : j = i
        · subst e
          exact z
        · exact hno j (by omega)) 0 (Nat.zero_le _)
  exact x_to (key (fun j hj => absurd hj (Nat.not_lt_zero j))) ⟨rfl, rfl, rfl, rfl, trivial⟩
theorem c_manyUnlike {p many : Nat} {V : Nat → zO} (hd : 2 ≤ d) (hC : Cs h) (hR : wyR h p) (hV : wyV h p V) (hm : many ≤ 6)
    (Kt : ∀ c, oUnl V (wB many) (wM many) = some c → Q (some (.int (nI c))) h) (Kf : oUnl V (wB many) (wM many) = none → Q (some (.int (-2))) h) : xCt G l mX10_manyUnlike d [.ref 53, .int (nI many)] h 0 0 Q := by
  have hb : wB many + wM many ≤ 104 := by
    have q : ∀ m, m ≤ 6 → wB m + wM m ≤ 104 := by decide
    exact q many hm
  have v55 := hC.z (a := 55) rfl
  refine xCt_of (by decide) (Nat.le_of_ble_eq_true rfl) ?_
  refine x_gets dX10_manyUnlike_0 rfl sX10_42 ?_
  refine x_iload_n (i := 1) dX10_manyUnlike_3 rfl rfl rfl ?_
  refine x_saB dX10_manyUnlike_4 rfl (by omega) ?_
  refine x_istore_n (i := 2) dX10_manyUnlike_5 rfl rfl (by decide) ?_
  refine x_iconst dX10_manyUnlike_6 rfl iC_0 ?_
  refine x_istore_n (i := 3) dX10_manyUnlike_7 rfl rfl (by decide) ?_
  refine x_iconst dX10_manyUnlike_8 rfl iC_0 ?_
  refine x_istore dX10_manyUnlike_9 rfl (by decide) ?_
  have key := xloop (P := fun n => ∀ c, oUnl V (wB many) n = some c → xWP G l mX10_manyUnlike d (zM G Q) 0 0 11 (xls [(0, .ref 53), (1, .int (nI many)), (2, .int (nI (wB many))), (3, .int (nI c)), (4, .int (nI n))]) [] h) (wM many) (by
    intro n hn ih c hc
    obtain ⟨hc1, hc2⟩ := oUnl_all n c hc
    refine x_iload dX10_manyUnlike_11 rfl rfl ?_
    refine x_gets dX10_manyUnlike_13 rfl sX10_24 ?_
    refine x_iload_n (i := 1) dX10_manyUnlike_16 rfl rfl rfl ?_
    refine x_saM dX10_manyUnlike_17 rfl (by omega) ?_
    refine x_jc_ge (tgt := 57) dX10_manyUnlike_18 rfl rfl (by omega) (by omega) (fun c18 => ?_) (fun c18 => ?_)
    · obtain rfl : n = wM many := by omega
      refine x_iload_n (i := 3) dX10_manyUnlike_57 rfl rfl rfl ?_
      refine x_ireturn dX10_manyUnlike_58 rfl rfl ?_
      exact Kt c hc
    · refine x_aload_n (i := 0) dX10_manyUnlike_21 rfl rfl rfl ?_
      refine x_getC dX10_manyUnlike_22 rfl fX10_16 hC rfl F_53_2 ?_
      refine x_iload_n (i := 2) dX10_manyUnlike_25 rfl rfl rfl ?_
      refine x_iload dX10_manyUnlike_26 rfl rfl ?_
      refine x_iadd dX10_manyUnlike_28 rfl ?_
      rw [show nI (wB many) + nI n = nI (wB many + n) from nI_add _ _]
      refine x_zald dX10_manyUnlike_29 rfl v55 rfl (by omega) (by decide) ?_
      rcases hV (wB many + n) (by omega) with ⟨va, ea⟩ | ⟨va, ea⟩
      · refine x_if_ne_t (tgt := 36) dX10_manyUnlike_30 rfl (by rw [ea]; exact nb1) ?_
        refine x_aload_n (i := 0) dX10_manyUnlike_36 rfl rfl rfl ?_
        refine x_iload_n (i := 2) dX10_manyUnlike_37 rfl rfl rfl ?_
        refine x_iload_n (i := 2) dX10_manyUnlike_38 rfl rfl rfl ?_
        refine x_iload dX10_manyUnlike_39 rfl rfl ?_
        refine x_iadd dX10_manyUnlike_41 rfl ?_
        rw [show nI (wB many) + nI n = nI (wB many + n) from nI_add _ _]
        have go : oUnl V (wB many) (n + 1) = some (@ite _ (vNew V (wB many) n) (Classical.propDecidable _) (c + 1) c) := by
          rw [oUnl, hc]
          show (V _).map _ = _
          rw [va]
          rfl
        refine x_callV0 (ci := 10) (b := 53) (As := [_, _]) (d2 := d - 1) dX10_manyUnlike_42 rfl kX10_45 okX10_isNew (hC.o rfl) (fun q hq => by cases hq; rfl) (by omega) rfl rfl (Nat.le_of_ble_eq_true rfl) (c_isNew (by omega) hC hR hV (by omega) (fun j hj => ?_) (fun z => ?_) (fun z => ?_))
        · by_cases e : j = n
          · exact ⟨_, by rw [e]; exact va⟩
          · exact hc2 j (by omega)
        · rw [if_pos z] at go
          refine x_if_eq_f (tgt := 51) dX10_manyUnlike_45 rfl rfl nb1 ?_
          refine x_iinc dX10_manyUnlike_48 rfl rfl (inc1 _) ?_
          refine x_iinc dX10_manyUnlike_51 rfl rfl (inc1 _) ?_
          refine x_goto (tgt := 11) dX10_manyUnlike_54 rfl ?_
          exact x_to (ih c18 _ go) ⟨rfl, rfl, rfl, rfl, rfl, trivial⟩
        · rw [if_neg z] at go
          refine x_if_eq_t (tgt := 51) dX10_manyUnlike_45 rfl nI_0 ?_
          refine x_iinc dX10_manyUnlike_51 rfl rfl (inc1 _) ?_
          refine x_goto (tgt := 11) dX10_manyUnlike_54 rfl ?_
          exact x_to (ih c18 _ go) ⟨rfl, rfl, rfl, rfl, rfl, trivial⟩
      · refine x_if_ne_f (tgt := 36) dX10_manyUnlike_30 rfl rfl (by rw [ea]; exact nI_0) ?_
        refine x_bipush dX10_manyUnlike_33 rfl bC_m2 ?_
        refine x_ireturn dX10_manyUnlike_35 rfl rfl ?_
        refine Kf (oUnl_none (k := n + 1) ?_ _ (by omega))
        rw [oUnl, hc]
        show (V _).map _ = _
        rw [va]
        rfl) 0 (Nat.zero_le _)
  exact x_to (key 0 rfl) ⟨rfl, rfl, rfl, rfl, rfl, trivial⟩
end WAYS

