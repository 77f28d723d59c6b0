/-! EightParts: what the calls share -/
section PUB
variable {G : xG} {l : Launch} {d : Nat} {h : xH} {Q : Option Value → xH → Prop}
theorem le8 {x : Int32} (h : nI 8 ≤ x) : nI 7 < x := by
  rw [Int32.lt_iff_toInt_lt]
  rw [Int32.le_iff_toInt_le] at h
  have e1 : (nI 8).toInt = 8 := rfl
  have e2 : (nI 7).toInt = 7 := rfl
  omega
theorem le4 {x : Int32} (h : nI 4 ≤ x) : nI 3 < x := by
  rw [Int32.lt_iff_toInt_lt]
  rw [Int32.le_iff_toInt_le] at h
  have e1 : (nI 4).toInt = 4 := rfl
  have e2 : (nI 3).toInt = 3 := rfl
  omega
theorem nle8 {x : Int32} (h : ¬ nI 8 ≤ x) : ¬ nI 7 < x := by
  intro q
  rw [Int32.lt_iff_toInt_lt] at q
  rw [Int32.le_iff_toInt_le] at h
  have e1 : (nI 8).toInt = 8 := rfl
  have e2 : (nI 7).toInt = 7 := rfl
  omega
theorem nle4 {x : Int32} (h : ¬ nI 4 ≤ x) : ¬ nI 3 < x := by
  intro q
  rw [Int32.lt_iff_toInt_lt] at q
  rw [Int32.le_iff_toInt_le] at h
  have e1 : (nI 4).toInt = 4 := rfl
  have e2 : (nI 3).toInt = 3 := rfl
  omega
theorem c_isEighth {x : Int32} (K0 : sE x = none → Q (some (.int (nI 0))) h) (K1 : ∀ k, k < 8 → x = nI k → sE x = some k → Q (some (.int (nI 1))) h) : xCt G l mX11_isEighth d [.int x] h 0 0 Q := by
  refine xCt_of (by decide) (Nat.le_of_ble_eq_true rfl) ?_
  refine x_iload_n (i := 0) dX11_isEighth_0 rfl rfl rfl ?_
  refine x_if_lt (tgt := 14) dX11_isEighth_1 rfl rfl (fun c1 => ?_) (fun c1 => ?_)
  · refine x_iconst dX11_isEighth_14 rfl iC_0 ?_
    refine x_ireturn dX11_isEighth_15 rfl rfl ?_
    exact K0 (eB_lo (by decide) c1)
  · refine x_iload_n (i := 0) dX11_isEighth_4 rfl rfl rfl ?_
    refine x_bipush dX11_isEighth_5 rfl bC_8 ?_
    refine x_ic_ge (tgt := 14) dX11_isEighth_7 rfl rfl (fun c7 => ?_) (fun c7 => ?_)
    · refine x_iconst dX11_isEighth_14 rfl iC_0 ?_
      refine x_ireturn dX11_isEighth_15 rfl rfl ?_
      exact K0 (eB_hi (by decide) (le8 c7))
    · refine x_iconst dX11_isEighth_10 rfl iC_1 ?_
      refine x_goto (tgt := 15) dX11_isEighth_11 rfl ?_
      refine x_ireturn dX11_isEighth_15 rfl rfl ?_
      obtain ⟨k, -, k2, k3, k4⟩ := eB_in (lo := 0) (hi := 7) (by decide) (by decide) c1 (nle8 c7)
      exact K1 k (by omega) k3 k4
theorem c_isTurn {x : Int32} (K0 : eB 0 3 x = none → Q (some (.int (nI 0))) h) (K1 : ∀ k, k < 4 → x = nI k → eB 0 3 x = some k → Q (some (.int (nI 1))) h) : xCt G l mX11_isTurn d [.int x] h 0 0 Q := by
  refine xCt_of (by decide) (Nat.le_of_ble_eq_true rfl) ?_
  refine x_iload_n (i := 0) dX11_isTurn_0 rfl rfl rfl ?_
  refine x_if_lt (tgt := 13) dX11_isTurn_1 rfl rfl (fun c1 => ?_) (fun c1 => ?_)
  · refine x_iconst dX11_isTurn_13 rfl iC_0 ?_
    refine x_ireturn dX11_isTurn_14 rfl rfl ?_
    exact K0 (eB_lo (by decide) c1)
  · refine x_iload_n (i := 0) dX11_isTurn_4 rfl rfl rfl ?_
    refine x_iconst dX11_isTurn_5 rfl iC_4 ?_
    refine x_ic_ge (tgt := 13) dX11_isTurn_6 rfl rfl (fun c6 => ?_) (fun c6 => ?_)
    · refine x_iconst dX11_isTurn_13 rfl iC_0 ?_
      refine x_ireturn dX11_isTurn_14 rfl rfl ?_
      exact K0 (eB_hi (by decide) (le4 c6))
    · refine x_iconst dX11_isTurn_9 rfl iC_1 ?_
      refine x_goto (tgt := 14) dX11_isTurn_10 rfl ?_
      refine x_ireturn dX11_isTurn_14 rfl rfl ?_
      obtain ⟨k, -, k2, k3, k4⟩ := eB_in (lo := 0) (hi := 3) (by decide) (by decide) c1 (nle4 c6)
      exact K1 k (by omega) k3 k4
theorem c_isListedNorm {x : Int32} (K0 : eB 0 3 x = none → Q (some (.int (nI 0))) h) (K1 : ∀ k, k < 4 → x = nI k → eB 0 3 x = some k → Q (some (.int (nI 1))) h) : xCt G l mX11_isListedNorm d [.int x] h 0 0 Q := by
  refine xCt_of (by decide) (Nat.le_of_ble_eq_true rfl) ?_
  refine x_iload_n (i := 0) dX11_isListedNorm_0 rfl rfl rfl ?_
  refine x_if_lt (tgt := 13) dX11_isListedNorm_1 rfl rfl (fun c1 => ?_) (fun c1 => ?_)
  · refine x_iconst dX11_isListedNorm_13 rfl iC_0 ?_
    refine x_ireturn dX11_isListedNorm_14 rfl rfl ?_
    exact K0 (eB_lo (by decide) c1)
  · refine x_iload_n (i := 0) dX11_isListedNorm_4 rfl rfl rfl ?_
    refine x_iconst dX11_isListedNorm_5 rfl iC_3 ?_
    refine x_ic_gt (tgt := 13) dX11_isListedNorm_6 rfl rfl (fun c6 => ?_) (fun c6 => ?_)
    · refine x_iconst dX11_isListedNorm_13 rfl iC_0 ?_
      refine x_ireturn dX11_isListedNorm_14 rfl rfl ?_
      exact K0 (eB_hi (by decide) c6)
    · refine x_iconst dX11_isListedNorm_9 rfl iC_1 ?_
      refine x_goto (tgt := 14) dX11_isListedNorm_10 rfl ?_
      refine x_ireturn dX11_isListedNorm_14 rfl rfl ?_
      obtain ⟨k, -, k2, k3, k4⟩ := eB_in (lo := 0) (hi := 3) (by decide) (by decide) c1 c6
      exact K1 k (by omega) k3 k4
theorem c_isDivisor {x : Int32} (K0 : eB 1 1000 x = none → Q (some (.int (nI 0))) h) (K1 : ∀ k, 1 ≤ k ∧ k ≤ 1000 → x = nI k → eB 1 1000 x = some k → Q (some (.int (nI 1))) h) : xCt G l mX11_isDivisor d [.int x] h 0 0 Q := by
  refine xCt_of (by decide) (Nat.le_of_ble_eq_true rfl) ?_
  refine x_iload_n (i := 0) dX11_isDivisor_0 rfl rfl rfl ?_
  refine x_iconst dX11_isDivisor_1 rfl iC_1 ?_
  refine x_ic_lt (tgt := 16) dX11_isDivisor_2 rfl rfl (fun c2 => ?_) (fun c2 => ?_)
  · refine x_iconst dX11_isDivisor_16 rfl iC_0 ?_
    refine x_ireturn dX11_isDivisor_17 rfl rfl ?_
    exact K0 (eB_lo (by decide) c2)
  · refine x_iload_n (i := 0) dX11_isDivisor_5 rfl rfl rfl ?_
    refine x_sipush dX11_isDivisor_6 rfl sC_1000 ?_
    refine x_ic_gt (tgt := 16) dX11_isDivisor_9 rfl rfl (fun c9 => ?_) (fun c9 => ?_)
    · refine x_iconst dX11_isDivisor_16 rfl iC_0 ?_
      refine x_ireturn dX11_isDivisor_17 rfl rfl ?_
      exact K0 (eB_hi (by decide) c9)
    · refine x_iconst dX11_isDivisor_12 rfl iC_1 ?_
      refine x_goto (tgt := 17) dX11_isDivisor_13 rfl ?_
      refine x_ireturn dX11_isDivisor_17 rfl rfl ?_
      obtain ⟨k, k1, k2, k3, k4⟩ := eB_in (lo := 1) (hi := 1000) (by decide) (by decide) c2 c9
      exact K1 k ⟨k1, k2⟩ k3 k4
theorem c_isSlotSet {x : Int32} (K0 : eB 1 255 x = none → Q (some (.int (nI 0))) h) (K1 : ∀ k, 1 ≤ k ∧ k ≤ 255 → x = nI k → eB 1 255 x = some k → Q (some (.int (nI 1))) h) : xCt G l mX11_isSlotSet d [.int x] h 0 0 Q := by
  refine xCt_of (by decide) (Nat.le_of_ble_eq_true rfl) ?_
  refine x_iload_n (i := 0) dX11_isSlotSet_0 rfl rfl rfl ?_
  refine x_iconst dX11_isSlotSet_1 rfl iC_1 ?_
  refine x_ic_lt (tgt := 16) dX11_isSlotSet_2 rfl rfl (fun c2 => ?_) (fun c2 => ?_)
  · refine x_iconst dX11_isSlotSet_16 rfl iC_0 ?_
    refine x_ireturn dX11_isSlotSet_17 rfl rfl ?_
    exact K0 (eB_lo (by decide) c2)
  · refine x_iload_n (i := 0) dX11_isSlotSet_5 rfl rfl rfl ?_
    refine x_sipush dX11_isSlotSet_6 rfl sC_255 ?_
    refine x_ic_gt (tgt := 16) dX11_isSlotSet_9 rfl rfl (fun c9 => ?_) (fun c9 => ?_)
    · refine x_iconst dX11_isSlotSet_16 rfl iC_0 ?_
      refine x_ireturn dX11_isSlotSet_17 rfl rfl ?_
      exact K0 (eB_hi (by decide) c9)
    · refine x_iconst dX11_isSlotSet_12 rfl iC_1 ?_
      refine x_goto (tgt := 17) dX11_isSlotSet_13 rfl ?_
      refine x_ireturn dX11_isSlotSet_17 rfl rfl ?_
      obtain ⟨k, k1, k2, k3, k4⟩ := eB_in (lo := 1) (hi := 255) (by decide) (by decide) c2 c9
      exact K1 k ⟨k1, k2⟩ k3 k4
theorem c_areSlots2 {x y : Int32} (hd : 1 ≤ d) (K0 : (sE x = none ∨ ∃ i, sE x = some i ∧ sE y = none) → Q (some (.int (nI 0))) h) (K1 : ∀ i j, i < 8 → j < 8 → x = nI i → y = nI j → sE x = some i → sE y = some j → Q (some (.int (nI 1))) h) : xCt G l mX11_areSlots d [.int x, .int y] h 0 0 Q := by
  refine xCt_of (by decide) (Nat.le_of_ble_eq_true rfl) ?_
  refine x_iload_n (i := 0) dX11_areSlots_0 rfl rfl rfl ?_
  refine x_callS0 (As := [_]) (d2 := d - 1) dX11_areSlots_1 rfl kX11_115 okX11_isEighth (by omega) rfl rfl (Nat.le_of_ble_eq_true rfl) (c_isEighth (fun z => ?_) (fun i hi ei qi => ?_))
  · refine x_if_eq_t (tgt := 18) dX11_areSlots_4 rfl nI_0 ?_
    refine x_iconst dX11_areSlots_18 rfl iC_0 ?_
    refine x_ireturn dX11_areSlots_19 rfl rfl ?_
    exact K0 (Or.inl z)
  refine x_if_eq_f (tgt := 18) dX11_areSlots_4 rfl rfl nb1 ?_
  refine x_iload_n (i := 1) dX11_areSlots_7 rfl rfl rfl ?_
  refine x_callS0 (As := [_]) (d2 := d - 1) dX11_areSlots_8 rfl kX11_115 okX11_isEighth (by omega) rfl rfl (Nat.le_of_ble_eq_true rfl) (c_isEighth (fun z => ?_) (fun j hj ej qj => ?_))
  · refine x_if_eq_t (tgt := 18) dX11_areSlots_11 rfl nI_0 ?_
    refine x_iconst dX11_areSlots_18 rfl iC_0 ?_
    refine x_ireturn dX11_areSlots_19 rfl rfl ?_
    exact K0 (Or.inr ⟨i, qi, z⟩)
  refine x_if_eq_f (tgt := 18) dX11_areSlots_11 rfl rfl nb1 ?_
  refine x_iconst dX11_areSlots_14 rfl iC_1 ?_
  refine x_goto (tgt := 19) dX11_areSlots_15 rfl ?_
  refine x_ireturn dX11_areSlots_19 rfl rfl ?_
  exact K1 i j hi hj ei ej qi qj
theorem c_areSlots3 {x y w : Int32} (hd : 1 ≤ d) (K0 : (sE x = none ∨ (∃ i, sE x = some i ∧ sE y = none) ∨ ∃ i j, sE x = some i ∧ sE y = some j ∧ sE w = none) → Q (some (.int (nI 0))) h) (K1 : ∀ i j k, i < 8 → j < 8 → k < 8 → x = nI i → y = nI j → w = nI k → sE x = some i → sE y = some j → sE w = some k → Q (some (.int (nI 1))) h) : xCt G l mX11_areSlots_ d [.int x, .int y, .int w] h 0 0 Q := by
  refine xCt_of (by decide) (Nat.le_of_ble_eq_true rfl) ?_
  refine x_iload_n (i := 0) dX11_areSlots__0 rfl rfl rfl ?_
  refine x_callS0 (As := [_]) (d2 := d - 1) dX11_areSlots__1 rfl kX11_115 okX11_isEighth (by omega) rfl rfl (Nat.le_of_ble_eq_true rfl) (c_isEighth (fun z => ?_) (fun i hi ei qi => ?_))
  · refine x_if_eq_t (tgt := 25) dX11_areSlots__4 rfl nI_0 ?_
    refine x_iconst dX11_areSlots__25 rfl iC_0 ?_
    refine x_ireturn dX11_areSlots__26 rfl rfl ?_
    exact K0 (Or.inl z)
  refine x_if_eq_f (tgt := 25) dX11_areSlots__4 rfl rfl nb1 ?_
  refine x_iload_n (i := 1) dX11_areSlots__7 rfl rfl rfl ?_
  refine x_callS0 (As := [_]) (d2 := d - 1) dX11_areSlots__8 rfl kX11_115 okX11_isEighth (by omega) rfl rfl (Nat.le_of_ble_eq_true rfl) (c_isEighth (fun z => ?_) (fun j hj ej qj => ?_))
  · refine x_if_eq_t (tgt := 25) dX11_areSlots__11 rfl nI_0 ?_
    refine x_iconst dX11_areSlots__25 rfl iC_0 ?_
    refine x_ireturn dX11_areSlots__26 rfl rfl ?_
    exact K0 (Or.inr (Or.inl ⟨i, qi, z⟩))
  refine x_if_eq_f (tgt := 25) dX11_areSlots__11 rfl rfl nb1 ?_
  refine x_iload_n (i := 2) dX11_areSlots__14 rfl rfl rfl ?_
  refine x_callS0 (As := [_]) (d2 := d - 1) dX11_areSlots__15 rfl kX11_115 okX11_isEighth (by omega) rfl rfl (Nat.le_of_ble_eq_true rfl) (c_isEighth (fun z => ?_) (fun k hk ek qk => ?_))
  · refine x_if_eq_t (tgt := 25) dX11_areSlots__18 rfl nI_0 ?_
    refine x_iconst dX11_areSlots__25 rfl iC_0 ?_
    refine x_ireturn dX11_areSlots__26 rfl rfl ?_
    exact K0 (Or.inr (Or.inr ⟨i, j, qi, qj, z⟩))
  refine x_if_eq_f (tgt := 25) dX11_areSlots__18 rfl rfl nb1 ?_
  refine x_iconst dX11_areSlots__21 rfl iC_1 ?_
  refine x_goto (tgt := 26) dX11_areSlots__22 rfl ?_
  refine x_ireturn dX11_areSlots__26 rfl rfl ?_
  exact K1 i j k hi hj hk ei ej ek qi qj qk
theorem c_isRow {least : Nat} {m row : Int32} (hl : least ≤ 6) (K0 : (eB least 6 m = none ∨ ∃ k, eB least 6 m = some k ∧ ¬ (0 : Int32) ≤ row) → Q (some (.int (nI 0))) h) (K1 : ∀ k, least ≤ k → k ≤ 6 → m = nI k → eB least 6 m = some k → (0 : Int32) ≤ row → Q (some (.int (nI 1))) h) : xCt G l mX11_isRow d [.int (nI least), .int m, .int row] h 0 0 Q := by
  refine xCt_of (by decide) (Nat.le_of_ble_eq_true rfl) ?_
  refine x_iload_n (i := 1) dX11_isRow_0 rfl rfl rfl ?_
  refine x_iload_n (i := 0) dX11_isRow_1 rfl rfl rfl ?_
  refine x_ic_lt (tgt := 19) dX11_isRow_2 rfl rfl (fun c2 => ?_) (fun c2 => ?_)
  · refine x_iconst dX11_isRow_19 rfl iC_0 ?_
    refine x_ireturn dX11_isRow_20 rfl rfl ?_
    exact K0 (Or.inl (eB_lo (by omega) c2))
  · refine x_iload_n (i := 1) dX11_isRow_5 rfl rfl rfl ?_
    refine x_bipush dX11_isRow_6 rfl bC_6 ?_
    refine x_ic_gt (tgt := 19) dX11_isRow_8 rfl rfl (fun c8 => ?_) (fun c8 => ?_)
    · refine x_iconst dX11_isRow_19 rfl iC_0 ?_
      refine x_ireturn dX11_isRow_20 rfl rfl ?_
      exact K0 (Or.inl (eB_hi (by decide) c8))
    · obtain ⟨k, k1, k2, k3, k4⟩ := eB_in (lo := least) (hi := 6) (by omega) (by decide) c2 c8
      refine x_iload_n (i := 2) dX11_isRow_11 rfl rfl rfl ?_
      refine x_if_lt (tgt := 19) dX11_isRow_12 rfl rfl (fun c12 => ?_) (fun c12 => ?_)
      · refine x_iconst dX11_isRow_19 rfl iC_0 ?_
        refine x_ireturn dX11_isRow_20 rfl rfl ?_
        exact K0 (Or.inr ⟨k, k4, Int32.not_le.mpr c12⟩)
      · refine x_iconst dX11_isRow_15 rfl iC_1 ?_
        refine x_goto (tgt := 20) dX11_isRow_16 rfl ?_
        refine x_ireturn dX11_isRow_20 rfl rfl ?_
        exact K1 k k1 k2 k3 k4 (Int32.not_lt.mp c12)
theorem c_told1 (K : Q (some (.int (nI 1))) h) : xCt G l mX11_told d [.int (nI 1)] h 0 0 Q := by
  refine xCt_of (by decide) (Nat.le_of_ble_eq_true rfl) ?_
  refine x_iload_n (i := 0) dX11_told_0 rfl rfl rfl ?_
  refine x_if_eq_f (tgt := 8) dX11_told_1 rfl rfl nb1 ?_
  refine x_iconst dX11_told_4 rfl iC_1 ?_
  refine x_goto (tgt := 10) dX11_told_5 rfl ?_
  refine x_ireturn dX11_told_10 rfl rfl ?_
  exact K
theorem c_told0 (K : Q (some (.int (-2))) h) : xCt G l mX11_told d [.int (nI 0)] h 0 0 Q := by
  refine xCt_of (by decide) (Nat.le_of_ble_eq_true rfl) ?_
  refine x_iload_n (i := 0) dX11_told_0 rfl rfl rfl ?_
  refine x_if_eq_t (tgt := 8) dX11_told_1 rfl nI_0 ?_
  refine x_bipush dX11_told_8 rfl bC_m2 ?_
  refine x_ireturn dX11_told_10 rfl rfl ?_
  exact K
theorem c_asked1 (K : Q (some (.int (nI 1))) h) : xCt G l mX11_asked d [.int (nI 1)] h 0 0 Q := by
  refine xCt_of (by decide) (Nat.le_of_ble_eq_true rfl) ?_
  refine x_iload_n (i := 0) dX11_asked_0 rfl rfl rfl ?_
  refine x_if_eq_f (tgt := 8) dX11_asked_1 rfl rfl nb1 ?_
  refine x_iconst dX11_asked_4 rfl iC_1 ?_
  refine x_goto (tgt := 9) dX11_asked_5 rfl ?_
  refine x_ireturn dX11_asked_9 rfl rfl ?_
  exact K
theorem c_asked0 (K : Q (some (.int (nI 0))) h) : xCt G l mX11_asked d [.int (nI 0)] h 0 0 Q := by
  refine xCt_of (by decide) (Nat.le_of_ble_eq_true rfl) ?_
  refine x_iload_n (i := 0) dX11_asked_0 rfl rfl rfl ?_
  refine x_if_eq_t (tgt := 8) dX11_asked_1 rfl nI_0 ?_
  refine x_iconst dX11_asked_8 rfl iC_0 ?_
  refine x_ireturn dX11_asked_9 rfl rfl ?_
  exact K
/-- told, at most so great -/
noncomputable def zCap (v : Int64) : Int32 := (zMaxL (-2000000000) (zMinL 2000000000 v)).toInt32
theorem c_capped {v : Int64} (hd : 1 ≤ d) (K : Q (some (.int (zCap v))) h) : xCt G l mX11_capped d [.long v] h 0 0 Q := by
  refine xCt_of (by decide) (Nat.le_of_ble_eq_true rfl) ?_
  refine x_ldc2 dX11_capped_0 rfl cX11_365 ?_
  refine x_ldc2 dX11_capped_3 rfl cX11_367 ?_
  refine x_lload_n (i := 0) dX11_capped_6 rfl rfl rfl ?_
  refine x_callS0 (As := [_, _]) (d2 := d - 1) dX11_capped_7 rfl kX11_369 okJ9_min_f86c9 (by omega) rfl rfl (Nat.le_of_ble_eq_true rfl) (c_minL ?_)
  refine x_callS0 (As := [_, _]) (d2 := d - 1) dX11_capped_10 rfl kX11_375 okJ9_max_f86c9 (by omega) rfl rfl (Nat.le_of_ble_eq_true rfl) (c_maxL ?_)
  refine x_l2i dX11_capped_13 rfl ?_
  refine x_ireturn dX11_capped_14 rfl rfl ?_
  exact K
end PUB

