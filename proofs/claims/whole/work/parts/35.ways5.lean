/-! EightParts$Ways: its rows are made -/
theorem csA_lt : ∀ b ∈ csA, b < 134 := by decide +kernel
theorem Cs.gr {h h2 : xH} (hC : Cs h) (hn : h.2 ≤ h2.2) (he : ∀ a, a < h.2 → h2.1 a = h.1 a) (ht : ∀ a, h.2 ≤ a → xTyp (h2.1 a)) : Cs h2 := by
  obtain ⟨g1, g2, g3, g4, g5⟩ := hC
  refine ⟨by omega, fun a q hq => ?_, fun a => ?_, fun q hq => ?_, fun j hj => ?_⟩
  · have := csT_lt hq
    rw [he a (by omega)]
    exact g2 a q hq
  · rcases Nat.lt_or_ge a h.2 with z | z
    · rw [he a z]
      exact g3 a
    · exact ht a z
  · have := csA_lt q.1 (List.mem_map.mpr ⟨q, hq, rfl⟩)
    rw [he q.1 (by omega)]
    exact g4 q hq
  · rw [he 111 (by omega)]
    exact g5 j hj
section WAYS
variable {G : xG} {l : Launch} {d : Nat} {h : xH} {Q : Option Value → xH → Prop}
theorem c_fill0 {many : Nat} {row : Int32} (hd : 4 ≤ d) (hC : Cs h) (hm0 : h.2 + 200 < 1000000) (hp : (h.1 53).2.2 1 = .ref 54) (hz : ∀ i, i < 104 → iv h 55 i = nI 0) (h1m : 1 ≤ many) (hm : many ≤ 6)
    (K : ∀ h2, Cs h2 → wyR h2 h.2 → wyV h2 h.2 (vF (vI (fun _ => none) (fun k => iv h (2 + slR row k)) many) many (many - 1)) → h2.2 = h.2 + 105 → (∀ a, a < h.2 → a ≠ 11 → a ≠ 53 → a ≠ 55 → h2.1 a = h.1 a) → Q none h2) : xCt G l mX10_fill d [.ref 53, .ref 1, .int (nI many), .int row] h 105 936 Q := by
  refine xCt_of (by decide) (Nat.le_of_ble_eq_true rfl) ?_
  have v54 : h.1 54 = (4, 0, (h.1 54).2.2) := Prod.ext (hC.2.1 54 _ rfl).1 (Prod.ext (hC.2.1 54 _ rfl).2 rfl)
  have h134 := hC.1
  refine x_aload_n (i := 0) dX10_fill_0 rfl rfl rfl ?_
  refine x_getM (a := 53) dX10_fill_1 rfl fX10_11 hC rfl hp ?_
  refine x_alen dX10_fill_4 rfl v54 (by decide) rfl ?_
  refine x_if_ne_f (tgt := 20) dX10_fill_5 rfl rfl nI_0 ?_
  refine x_aload_n (i := 0) dX10_fill_8 rfl rfl rfl ?_
  refine x_bipush dX10_fill_9 rfl bC_104 ?_
  refine x_bipush dX10_fill_11 rfl bC_8 ?_
  refine x_mna (t := 0) (N := 104) (K := 8) (k := 0) (n := 0) dX10_fill_13 rfl (by decide) lX10_9 ac_int rfl rfl (by decide) (by decide) (by omega) ?_
  have hC1 : Cs (fun a => if a = h.2 then (4 + 0, 104, xP (fun q => h.2 + 1 + q)) else if h.2 < a ∧ a < h.2 + 1 + 104 then (0, 8, fun _ => defaultValue (xty 0)) else h.1 a, h.2 + 1 + 104) := by
    refine hC.gr (by show h.2 ≤ h.2 + 1 + 104; omega) (fun a ha => ?_) (fun a ha => ?_)
    · show (if a = h.2 then _ else if h.2 < a ∧ a < h.2 + 1 + 104 then _ else h.1 a) = h.1 a
      rw [if_neg (by omega), if_neg (by omega)]
    · show xTyp (if a = h.2 then _ else if h.2 < a ∧ a < h.2 + 1 + 104 then _ else h.1 a)
      split
      · trivial
      · split
        · exact ⟨fun _ => 0, rfl⟩
        · exact hC.2.2.1 a
  have e0 : ∀ a, a < h.2 → (fun a => if a = h.2 then (4 + 0, 104, xP (fun q => h.2 + 1 + q)) else if h.2 < a ∧ a < h.2 + 1 + 104 then (0, 8, fun _ => defaultValue (xty 0)) else h.1 a) a = h.1 a := by
    intro a ha
    show (if a = h.2 then _ else if h.2 < a ∧ a < h.2 + 1 + 104 then _ else h.1 a) = h.1 a
    rw [if_neg (by omega), if_neg (by omega)]
  have e1 : (fun a => if a = h.2 then (4 + 0, 104, xP (fun q => h.2 + 1 + q)) else if h.2 < a ∧ a < h.2 + 1 + 104 then (0, 8, fun _ => defaultValue (xty 0)) else h.1 a) h.2 = (4, 104, xP (fun q => h.2 + 1 + q)) := by
    show (if h.2 = h.2 then _ else _) = _
    rw [if_pos rfl]
  have e2 : ∀ i, i < 104 → (fun a => if a = h.2 then (4 + 0, 104, xP (fun q => h.2 + 1 + q)) else if h.2 < a ∧ a < h.2 + 1 + 104 then (0, 8, fun _ => defaultValue (xty 0)) else h.1 a) (h.2 + 1 + i) = (0, 8, xI (fun _ => 0)) := by
    intro i hi
    show (if h.2 + 1 + i = h.2 then _ else if h.2 < h.2 + 1 + i ∧ h.2 + 1 + i < h.2 + 1 + 104 then (0, 8, fun _ => defaultValue (xty 0)) else _) = _
    rw [if_neg (by omega), if_pos (by omega)]
    rfl
  generalize hg : (fun a => if a = h.2 then (4 + 0, 104, xP (fun q => h.2 + 1 + q)) else if h.2 < a ∧ a < h.2 + 1 + 104 then (0, 8, fun _ => defaultValue (xty 0)) else h.1 a) = g at hC1 e0 e1 e2 ⊢
  have hC2 := hC1.setF (ci := 10) (a := 53) (kf := 1) (v := .ref h.2) rfl NF_53_1 (by decide)
  refine x_putC (a := 53) dX10_fill_17 rfl fX10_11 (fun q hq => by cases hq; rfl) hC1 rfl ⟨rfl, rfl⟩ ?_
  have hR : wyR (hs (g, h.2 + 1 + 104) 53 (100 + 10, 0, updV (((g, h.2 + 1 + 104) : xH).1 53).2.2 1 (.ref h.2))) h.2 := by
    refine ⟨fv_eq, h134, Nat.le_refl _, ?_, fun i hi => ?_⟩
    · rw [hs_n (by omega)]
      exact e1
    · unfold xV8
      rw [hs_n (by omega), iv_n (by omega)]
      rw [show iv (g, h.2 + 1 + 104) (h.2 + 1 + i) = fun _ => 0 from iv_at (e2 i hi)]
      exact e2 i hi
  have hV : wyV (hs (g, h.2 + 1 + 104) 53 (100 + 10, 0, updV (((g, h.2 + 1 + 104) : xH).1 53).2.2 1 (.ref h.2))) h.2 (fun _ => none) := by
    intro i hi
    refine Or.inr ⟨rfl, ?_⟩
    rw [iv_n (by decide)]
    have : iv (g, h.2 + 1 + 104) 55 = iv h 55 := by
      unfold iv
      rw [show ((g, h.2 + 1 + 104) : xH).1 55 = h.1 55 from e0 55 (by omega)]
    rw [this]
    exact hz i hi
  have es : ∀ s, s < 8 → iv (hs (g, h.2 + 1 + 104) 53 (100 + 10, 0, updV (((g, h.2 + 1 + 104) : xH).1 53).2.2 1 (.ref h.2))) (2 + s) = iv h (2 + s) := by
    intro s hs8
    rw [iv_n (by omega)]
    unfold iv
    rw [show ((g, h.2 + 1 + 104) : xH).1 (2 + s) = h.1 (2 + s) from e0 _ (by omega)]
  have e3 : ∀ a, a < h.2 → a ≠ 53 → (hs (g, h.2 + 1 + 104) 53 (100 + 10, 0, updV (((g, h.2 + 1 + 104) : xH).1 53).2.2 1 (.ref h.2))).1 a = h.1 a := by
    intro a ha h53
    rw [hs_n h53]
    exact e0 a ha
  have e4 : (hs (g, h.2 + 1 + 104) 53 (100 + 10, 0, updV (((g, h.2 + 1 + 104) : xH).1 53).2.2 1 (.ref h.2))).2 = h.2 + 105 := rfl
  refine x_to (w_fill hd hC2 hR hV h1m hm (fun h2 hw => ?_)) ⟨rfl, rfl, rfl, rfl, trivial⟩
  obtain ⟨w1, w2, w3, w4⟩ := hw
  refine K h2 w1 w2 ?_ (w3.1.trans e4) (fun a ha q1 q2 q3 => (w3.2 a (by unfold wyP; omega)).trans (e3 a ha q2))
  have ef : (fun k => iv (hs (g, h.2 + 1 + 104) 53 (100 + 10, 0, updV (((g, h.2 + 1 + 104) : xH).1 53).2.2 1 (.ref h.2))) (2 + slR row k)) = fun k => iv h (2 + slR row k) := funext fun k => es _ (slR_lt row k)
  rw [ef] at w4
  exact w4
theorem c_manyOf {n : Int32} (K1 : ∀ k, n = nI k → 1 ≤ k → k ≤ 6 → Q (some (.int (nI (wM k)))) h) (K0 : (n < nI 1 ∨ nI 6 < n) → Q (some (.int (nI 0))) h) : xCt G l mX10_manyOf d [.ref 53, .int n] h 0 0 Q := by
  refine xCt_of (by decide) (Nat.le_of_ble_eq_true rfl) ?_
  refine x_iload_n (i := 1) dX10_manyOf_0 rfl rfl rfl ?_
  refine x_iconst dX10_manyOf_1 rfl iC_1 ?_
  refine x_ic_lt (tgt := 19) dX10_manyOf_2 rfl rfl (fun c2 => ?_) (fun c2 => ?_)
  · refine x_iconst dX10_manyOf_19 rfl iC_0 ?_
    refine x_ireturn dX10_manyOf_20 rfl rfl ?_
    exact K0 (Or.inl c2)
  · refine x_iload_n (i := 1) dX10_manyOf_5 rfl rfl rfl ?_
    refine x_bipush dX10_manyOf_6 rfl bC_6 ?_
    refine x_ic_gt (tgt := 19) dX10_manyOf_8 rfl rfl (fun c8 => ?_) (fun c8 => ?_)
    · refine x_iconst dX10_manyOf_19 rfl iC_0 ?_
      refine x_ireturn dX10_manyOf_20 rfl rfl ?_
      exact K0 (Or.inr c8)
    · have h1 : 1 ≤ n.toInt := by
        have := Int32.not_lt.mp c2
        have := Int32.le_iff_toInt_le.mp this
        exact this
      have h6 : n.toInt ≤ 6 := by
        have := Int32.not_lt.mp c8
        have := Int32.le_iff_toInt_le.mp this
        exact this
      obtain ⟨k, hk⟩ : ∃ k : Nat, n.toInt = k := ⟨n.toInt.toNat, by omega⟩
      have en : n = nI k := by
        apply Int32.toInt_inj.mp
        rw [hk, nI_toInt (by omega)]
      subst en
      refine x_gets dX10_manyOf_11 rfl sX10_24 ?_
      refine x_iload_n (i := 1) dX10_manyOf_14 rfl rfl rfl ?_
      refine x_saM dX10_manyOf_15 rfl (by omega) ?_
      refine x_goto (tgt := 20) dX10_manyOf_16 rfl ?_
      refine x_ireturn dX10_manyOf_20 rfl rfl ?_
      exact K1 k rfl (by omega) (by omega)
end WAYS

