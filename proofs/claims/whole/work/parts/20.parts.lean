/-! EightParts$Parts, and what of the library it calls -/
section PARTS
variable {G : xG} {l : Launch} {d : Nat} {h : xH} {Q : Option Value → xH → Prop}
/-- Arrays.fill(int[], int) -/
theorem c_fill {a N : Nat} {g : Nat → Int32} {v : Int32} (ha : h.1 a = (0, N, xI g)) (hN : N < 2147483648) (K : Q none (hs h a (0, N, xI (fun _ => v)))) : xCt G l mJ7_fill_53178 d [.ref a, .int v] h 0 0 Q := by
  refine xCt_of (by decide) (Nat.le_of_ble_eq_true rfl) ?_
  refine x_iconst dJ7_fill_53178_0 rfl iC_0 ?_
  refine x_istore_n (i := 2) dJ7_fill_53178_1 rfl rfl (by decide) ?_
  refine x_aload_n (i := 0) dJ7_fill_53178_2 rfl rfl rfl ?_
  refine x_alen dJ7_fill_53178_3 rfl (by first | assumption | exact hs_eq | exact hs_ne (by first | assumption | decide | omega) (by first | assumption | exact hs_eq | exact hs_ne (by first | assumption | decide | omega) (by first | assumption | exact hs_eq | exact hs_ne (by first | assumption | decide | omega) (by assumption)))) (by decide) rfl ?_
  refine x_istore_n (i := 3) dJ7_fill_53178_4 rfl rfl (by decide) ?_
  have key := xloop (P := fun i => xWP G l mJ7_fill_53178 d (zM G Q) 0 0 5 (xls [(0, .ref a), (1, .int v), (2, .int (nI i)), (3, .int (nI N))]) [] (hs h a (0, N, xI (xF (fun _ => v) g i)))) N (by
    intro i hi ih
    refine x_iload_n (i := 2) dJ7_fill_53178_5 rfl rfl rfl ?_
    refine x_iload_n (i := 3) dJ7_fill_53178_6 rfl rfl rfl ?_
    refine x_jc_ge (tgt := 20) dJ7_fill_53178_7 rfl rfl (by omega) (by omega) (fun c7 => ?_) (fun c7 => ?_)
    · obtain rfl : i = N := by omega
      refine x_topI (f2 := fun _ => v) (fun j hj => if_pos hj) (by decide) ?_
      refine x_return dJ7_fill_53178_20 rfl ?_
      exact K
    · refine x_aload_n (i := 0) dJ7_fill_53178_10 rfl rfl rfl ?_
      refine x_iload_n (i := 2) dJ7_fill_53178_11 rfl rfl rfl ?_
      refine x_iload_n (i := 1) dJ7_fill_53178_12 rfl rfl rfl ?_
      refine x_iastT dJ7_fill_53178_13 rfl rfl (by omega) hN ?_
      refine x_iinc dJ7_fill_53178_14 rfl rfl (inc1 _) ?_
      refine x_goto (tgt := 5) dJ7_fill_53178_17 rfl ?_
      rw [xF_upd (fun _ => v)]
      exact x_to (ih c7) ⟨rfl, rfl, rfl, rfl, trivial⟩) 0 (Nat.zero_le _)
  rw [xF_0, hs_self ha] at key
  exact x_to key ⟨rfl, rfl, rfl, rfl, trivial⟩
/-- lay -/
theorem c_lay {a b : Nat} {f g : Nat → Int32} (hd : 1 ≤ d) (ha : h.1 a = (0, 8, xI g)) (hb : h.1 b = (0, 8, xI f)) (K : Q none (hs h a (0, 8, xI f))) : xCt G l mX5_lay d [.ref a, .ref b] h 0 0 Q := by
  refine xCt_of (by decide) (Nat.le_of_ble_eq_true rfl) ?_
  refine x_aload_n (i := 1) dX5_lay_0 rfl rfl rfl ?_
  refine x_iconst dX5_lay_1 rfl iC_0 ?_
  refine x_aload_n (i := 0) dX5_lay_2 rfl rfl rfl ?_
  refine x_iconst dX5_lay_3 rfl iC_0 ?_
  refine x_bipush dX5_lay_4 rfl bC_8 ?_
  refine x_copy (sp := 0) (dp := 0) (cn := 8) dX5_lay_6 rfl aX5_9 (by decide) hb ha rfl rfl rfl (by decide) (by decide) (by decide) (by decide) (fun i _ => rfl) hd (Nat.le_of_ble_eq_true rfl) ?_
  refine x_topI (f2 := f) (fun j hj => ?_) (by decide) ?_
  · unfold va_cpy
    rw [if_pos (by omega)]
    congr 1
    omega
  refine x_return dX5_lay_9 rfl ?_
  exact K
/-- E(i), doubled -/
def zOne (i : Nat) : Nat → Int32 := fun j => if j = i then nI 2 else nI 0
theorem c_layOne {a i : Nat} {g : Nat → Int32} (hd : 1 ≤ d) (hi : i < 8) (ha : h.1 a = (0, 8, xI g)) (K : Q none (hs h a (0, 8, xI (zOne i)))) : xCt G l mX5_layOne d [.ref a, .int (nI i)] h 0 0 Q := by
  refine xCt_of (by decide) (Nat.le_of_ble_eq_true rfl) ?_
  refine x_aload_n (i := 0) dX5_layOne_0 rfl rfl rfl ?_
  refine x_iconst dX5_layOne_1 rfl iC_0 ?_
  refine x_callS0 (As := [_, _]) (d2 := d - 1) dX5_layOne_2 rfl kX5_15 okJ7_fill_53178 (by omega) rfl rfl (Nat.le_of_ble_eq_true rfl) (c_fill ha (by decide) ?_)
  refine x_aload_n (i := 0) dX5_layOne_5 rfl rfl rfl ?_
  refine x_iload_n (i := 1) dX5_layOne_6 rfl rfl rfl ?_
  refine x_iconst dX5_layOne_7 rfl iC_2 ?_
  refine x_iastT dX5_layOne_8 rfl rfl (by omega) (by decide) ?_
  refine x_return dX5_layOne_9 rfl ?_
  exact K
/-- layMirrored -/
def zMir (f : Nat → Int32) : Nat → Int32 := fun j => if j = 0 then f 0 else -f j
theorem c_layMirrored {a b : Nat} {f g : Nat → Int32} (ha : h.1 a = (0, 8, xI g)) (hb : h.1 b = (0, 8, xI f)) (K : Q none (hs h a (0, 8, xI (zMir f)))) : xCt G l mX5_layMirrored d [.ref a, .ref b] h 0 0 Q := by
  refine xCt_of (by decide) (Nat.le_of_ble_eq_true rfl) ?_
  refine x_aload_n (i := 0) dX5_layMirrored_0 rfl rfl rfl ?_
  refine x_iconst dX5_layMirrored_1 rfl iC_0 ?_
  refine x_aload_n (i := 1) dX5_layMirrored_2 rfl rfl rfl ?_
  refine x_iconst dX5_layMirrored_3 rfl iC_0 ?_
  refine x_iald dX5_layMirrored_4 rfl (by first | assumption | exact hs_eq | exact hs_ne (by first | assumption | decide | omega) (by first | assumption | exact hs_eq | exact hs_ne (by first | assumption | decide | omega) (by first | assumption | exact hs_eq | exact hs_ne (by first | assumption | decide | omega) (by assumption)))) rfl (by omega) (by decide) ?_
  refine x_iast dX5_layMirrored_5 rfl (by first | assumption | exact hs_eq | exact hs_ne (by first | assumption | decide | omega) (by first | assumption | exact hs_eq | exact hs_ne (by first | assumption | decide | omega) (by first | assumption | exact hs_eq | exact hs_ne (by first | assumption | decide | omega) (by assumption)))) rfl (by omega) (by decide) ?_
  have e0 : upd g 0 (f 0) = xF (zMir f) g 1 := by
    rw [← xF_upd (zMir f) g 0, xF_0]
    rfl
  rw [e0]
  refine x_iconst dX5_layMirrored_6 rfl iC_1 ?_
  refine x_istore_n (i := 2) dX5_layMirrored_7 rfl rfl (by decide) ?_
  have key := xloop (P := fun i => 1 ≤ i → xWP G l mX5_layMirrored d (zM G Q) 0 0 8 (xls [(0, .ref a), (1, .ref b), (2, .int (nI i))]) [] (hs h a (0, 8, xI (xF (zMir f) g i)))) 8 (by
    intro i hi ih h1
    refine x_iload_n (i := 2) dX5_layMirrored_8 rfl rfl rfl ?_
    refine x_bipush dX5_layMirrored_9 rfl bC_8 ?_
    refine x_jc_ge (tgt := 27) dX5_layMirrored_11 rfl rfl (by omega) (by omega) (fun c11 => ?_) (fun c11 => ?_)
    · obtain rfl : i = 8 := by omega
      refine x_topI (f2 := zMir f) (fun j hj => if_pos hj) (by decide) ?_
      refine x_return dX5_layMirrored_27 rfl ?_
      exact K
    · have hbi : (hs h a (0, 8, xI (xF (zMir f) g i))).1 b = (0, 8, xI (if b = a then xF (zMir f) f i else f)) := by
        by_cases e : b = a
        · subst e
          rw [hs_eq, if_pos rfl]
          have e2 : xI f = xI g := by
            have := hb.symm.trans ha
            simp only [Prod.mk.injEq] at this
            exact this.2.2
          have e3 : f = g := by
            funext j
            have := congrFun e2 j
            exact Value.int.inj this
          rw [e3]
        · rw [if_neg e]
          exact hs_ne e hb
      refine x_aload_n (i := 0) dX5_layMirrored_14 rfl rfl rfl ?_
      refine x_iload_n (i := 2) dX5_layMirrored_15 rfl rfl rfl ?_
      refine x_aload_n (i := 1) dX5_layMirrored_16 rfl rfl rfl ?_
      refine x_iload_n (i := 2) dX5_layMirrored_17 rfl rfl rfl ?_
      refine x_iald dX5_layMirrored_18 rfl hbi rfl (by omega) (by decide) ?_
      refine x_ineg dX5_layMirrored_19 rfl ?_
      have ev : -(if b = a then xF (zMir f) f i else f) i = zMir f i := by
        have e1 : (if b = a then xF (zMir f) f i else f) i = f i := by
          by_cases e : b = a
          · rw [if_pos e]
            exact if_neg (by omega)
          · rw [if_neg e]
        rw [e1]
        exact (if_neg (by omega)).symm
      rw [ev]
      refine x_iastT dX5_layMirrored_20 rfl rfl (by omega) (by decide) ?_
      rw [xF_upd (zMir f)]
      refine x_iinc dX5_layMirrored_21 rfl rfl (inc1 _) ?_
      refine x_goto (tgt := 8) dX5_layMirrored_24 rfl ?_
      exact x_to (ih c11 (by omega)) ⟨rfl, rfl, rfl, trivial⟩) 1 (by decide) (Nat.le_refl 1)
  exact x_to key ⟨rfl, rfl, rfl, trivial⟩
/-- areEqual -/
theorem c_areEqual {a b : Nat} {f g : Nat → Int32} (ha : h.1 a = (0, 8, xI f)) (hb : h.1 b = (0, 8, xI g)) (Kt : (∀ j, j < 8 → f j = g j) → Q (some (.int (nI 1))) h) (Kf : ¬ (∀ j, j < 8 → f j = g j) → Q (some (.int (nI 0))) h) : xCt G l mX5_areEqual d [.ref a, .ref b] h 0 0 Q := by
  refine xCt_of (by decide) (Nat.le_of_ble_eq_true rfl) ?_
  refine x_iconst dX5_areEqual_0 rfl iC_0 ?_
  refine x_istore_n (i := 2) dX5_areEqual_1 rfl rfl (by decide) ?_
  have key := xloop (P := fun i => (∀ j, j < i → f j = g j) → xWP G l mX5_areEqual d (zM G Q) 0 0 2 (xls [(0, .ref a), (1, .ref b), (2, .int (nI i))]) [] h) 8 (by
    intro i hi ih hj
    refine x_iload_n (i := 2) dX5_areEqual_2 rfl rfl rfl ?_
    refine x_bipush dX5_areEqual_3 rfl bC_8 ?_
    refine x_jc_ge (tgt := 25) dX5_areEqual_5 rfl rfl (by omega) (by omega) (fun c5 => ?_) (fun c5 => ?_)
    · refine x_iconst dX5_areEqual_25 rfl iC_1 ?_
      refine x_ireturn dX5_areEqual_26 rfl rfl ?_
      exact Kt (fun j h8 => hj j (by omega))
    · refine x_aload_n (i := 0) dX5_areEqual_8 rfl rfl rfl ?_
      refine x_iload_n (i := 2) dX5_areEqual_9 rfl rfl rfl ?_
      refine x_iald dX5_areEqual_10 rfl (by first | assumption | exact hs_eq | exact hs_ne (by first | assumption | decide | omega) (by first | assumption | exact hs_eq | exact hs_ne (by first | assumption | decide | omega) (by first | assumption | exact hs_eq | exact hs_ne (by first | assumption | decide | omega) (by assumption)))) rfl (by omega) (by decide) ?_
      refine x_aload_n (i := 1) dX5_areEqual_11 rfl rfl rfl ?_
      refine x_iload_n (i := 2) dX5_areEqual_12 rfl rfl rfl ?_
      refine x_iald dX5_areEqual_13 rfl (by first | assumption | exact hs_eq | exact hs_ne (by first | assumption | decide | omega) (by first | assumption | exact hs_eq | exact hs_ne (by first | assumption | decide | omega) (by first | assumption | exact hs_eq | exact hs_ne (by first | assumption | decide | omega) (by assumption)))) rfl (by omega) (by decide) ?_
      refine x_ic_eq (tgt := 19) dX5_areEqual_14 rfl rfl (fun c14 => ?_) (fun c14 => ?_)
      · refine x_iinc dX5_areEqual_19 rfl rfl (inc1 _) ?_
        refine x_goto (tgt := 2) dX5_areEqual_22 rfl ?_
        exact x_to (ih c5 (lt_s hj c14)) ⟨rfl, rfl, rfl, trivial⟩
      · refine x_iconst dX5_areEqual_17 rfl iC_0 ?_
        refine x_ireturn dX5_areEqual_18 rfl rfl ?_
        exact Kf (fun z => c14 (z i c5))) 0 (Nat.zero_le _) (fun j hj => absurd hj (Nat.not_lt_zero j))
  exact x_to key ⟨rfl, rfl, rfl, trivial⟩
theorem c_isZero {a : Nat} {f : Nat → Int32} (ha : h.1 a = (0, 8, xI f)) (Kt : (∀ j, j < 8 → f j = nI 0) → Q (some (.int (nI 1))) h) (Kf : ¬ (∀ j, j < 8 → f j = nI 0) → Q (some (.int (nI 0))) h) : xCt G l mX5_isZero d [.ref a] h 0 0 Q := by
  refine xCt_of (by decide) (Nat.le_of_ble_eq_true rfl) ?_
  refine x_iconst dX5_isZero_0 rfl iC_0 ?_
  refine x_istore_n (i := 1) dX5_isZero_1 rfl rfl (by decide) ?_
  have key := xloop (P := fun i => (∀ j, j < i → f j = nI 0) → xWP G l mX5_isZero d (zM G Q) 0 0 2 (xls [(0, .ref a), (1, .int (nI i))]) [] h) 8 (by
    intro i hi ih hj
    refine x_iload_n (i := 1) dX5_isZero_2 rfl rfl rfl ?_
    refine x_bipush dX5_isZero_3 rfl bC_8 ?_
    refine x_jc_ge (tgt := 22) dX5_isZero_5 rfl rfl (by omega) (by omega) (fun c5 => ?_) (fun c5 => ?_)
    · refine x_iconst dX5_isZero_22 rfl iC_1 ?_
      refine x_ireturn dX5_isZero_23 rfl rfl ?_
      exact Kt (fun j h8 => hj j (by omega))
    · refine x_aload_n (i := 0) dX5_isZero_8 rfl rfl rfl ?_
      refine x_iload_n (i := 1) dX5_isZero_9 rfl rfl rfl ?_
      refine x_iald dX5_isZero_10 rfl (by first | assumption | exact hs_eq | exact hs_ne (by first | assumption | decide | omega) (by first | assumption | exact hs_eq | exact hs_ne (by first | assumption | decide | omega) (by first | assumption | exact hs_eq | exact hs_ne (by first | assumption | decide | omega) (by assumption)))) rfl (by omega) (by decide) ?_
      refine x_if_eq (tgt := 16) dX5_isZero_11 rfl rfl (fun c11 => ?_) (fun c11 => ?_)
      · refine x_iinc dX5_isZero_16 rfl rfl (inc1 _) ?_
        refine x_goto (tgt := 2) dX5_isZero_19 rfl ?_
        exact x_to (ih c5 (lt_s hj (c11.trans nI_0.symm))) ⟨rfl, rfl, trivial⟩
      · refine x_iconst dX5_isZero_14 rfl iC_0 ?_
        refine x_ireturn dX5_isZero_15 rfl rfl ?_
        exact Kf (fun z => c11 ((z i c5).trans nI_0))) 0 (Nat.zero_le _) (fun j hj => absurd hj (Nat.not_lt_zero j))
  exact x_to key ⟨rfl, rfl, trivial⟩
/-- inner products and norms -/
def zInn (f g : Nat → Int32) : Nat → Int64
  | 0 => 0
  | i + 1 => zInn f g i + (f i).toInt64 * (g i).toInt64
theorem c_innerBy4 {a b : Nat} {f g : Nat → Int32} (ha : h.1 a = (0, 8, xI f)) (hb : h.1 b = (0, 8, xI g)) (K : Q (some (.long (zInn f g 8))) h) : xCt G l mX5_innerBy4 d [.ref a, .ref b] h 0 0 Q := by
  refine xCt_of (by decide) (Nat.le_of_ble_eq_true rfl) ?_
  refine x_lconst dX5_innerBy4_0 rfl lC_0 ?_
  refine x_lstore_n (i := 2) dX5_innerBy4_1 rfl rfl (by decide) ?_
  refine x_iconst dX5_innerBy4_2 rfl iC_0 ?_
  refine x_istore dX5_innerBy4_3 rfl (by decide) ?_
  have key := xloop (P := fun i => xWP G l mX5_innerBy4 d (zM G Q) 0 0 5 (xls [(0, .ref a), (1, .ref b), (2, .long (zInn f g i)), (4, .int (nI i))]) [] h) 8 (by
    intro i hi ih
    refine x_iload dX5_innerBy4_5 rfl rfl ?_
    refine x_bipush dX5_innerBy4_7 rfl bC_8 ?_
    refine x_jc_ge (tgt := 32) dX5_innerBy4_9 rfl rfl (by omega) (by omega) (fun c9 => ?_) (fun c9 => ?_)
    · obtain rfl : i = 8 := by omega
      refine x_lload_n (i := 2) dX5_innerBy4_32 rfl rfl rfl ?_
      refine x_lreturn dX5_innerBy4_33 rfl ?_
      exact K
    · refine x_lload_n (i := 2) dX5_innerBy4_12 rfl rfl rfl ?_
      refine x_aload_n (i := 0) dX5_innerBy4_13 rfl rfl rfl ?_
      refine x_iload dX5_innerBy4_14 rfl rfl ?_
      refine x_iald dX5_innerBy4_16 rfl (by first | assumption | exact hs_eq | exact hs_ne (by first | assumption | decide | omega) (by first | assumption | exact hs_eq | exact hs_ne (by first | assumption | decide | omega) (by first | assumption | exact hs_eq | exact hs_ne (by first | assumption | decide | omega) (by assumption)))) rfl (by omega) (by decide) ?_
      refine x_i2l dX5_innerBy4_17 rfl ?_
      refine x_aload_n (i := 1) dX5_innerBy4_18 rfl rfl rfl ?_
      refine x_iload dX5_innerBy4_19 rfl rfl ?_
      refine x_iald dX5_innerBy4_21 rfl (by first | assumption | exact hs_eq | exact hs_ne (by first | assumption | decide | omega) (by first | assumption | exact hs_eq | exact hs_ne (by first | assumption | decide | omega) (by first | assumption | exact hs_eq | exact hs_ne (by first | assumption | decide | omega) (by assumption)))) rfl (by omega) (by decide) ?_
      refine x_i2l dX5_innerBy4_22 rfl ?_
      refine x_lmul dX5_innerBy4_23 rfl ?_
      refine x_ladd dX5_innerBy4_24 rfl ?_
      refine x_lstore_n (i := 2) dX5_innerBy4_25 rfl rfl (by decide) ?_
      refine x_iinc dX5_innerBy4_26 rfl rfl (inc1 _) ?_
      refine x_goto (tgt := 5) dX5_innerBy4_29 rfl ?_
      exact x_to (ih c9) ⟨rfl, rfl, rfl, rfl, trivial⟩) 0 (Nat.zero_le _)
  exact x_to key ⟨rfl, rfl, rfl, rfl, trivial⟩
theorem c_normBy4 {a : Nat} {f : Nat → Int32} (hd : 1 ≤ d) (ha : h.1 a = (0, 8, xI f)) (K : Q (some (.long (zInn f f 8))) h) : xCt G l mX5_normBy4 d [.ref a] h 0 0 Q := by
  refine xCt_of (by decide) (Nat.le_of_ble_eq_true rfl) ?_
  refine x_aload_n (i := 0) dX5_normBy4_0 rfl rfl rfl ?_
  refine x_aload_n (i := 0) dX5_normBy4_1 rfl rfl rfl ?_
  refine x_callS0 (As := [_, _]) (d2 := d - 1) dX5_normBy4_2 rfl kX5_29 okX5_innerBy4 (by omega) rfl rfl (Nat.le_of_ble_eq_true rfl) (c_innerBy4 ha ha ?_)
  refine x_lreturn dX5_normBy4_5 rfl ?_
  exact K
/-- the odd set -/
def zOdd (f : Nat → Int32) : Nat → Int32
  | 0 => nI 0
  | i + 1 => zOdd f i ||| (f i &&& nI 1) <<< (nI i &&& 31)
theorem c_oddSet {a : Nat} {f : Nat → Int32} (ha : h.1 a = (0, 8, xI f)) (K : Q (some (.int (zOdd f 8))) h) : xCt G l mX5_oddSet d [.ref a] h 0 0 Q := by
  refine xCt_of (by decide) (Nat.le_of_ble_eq_true rfl) ?_
  refine x_iconst dX5_oddSet_0 rfl iC_0 ?_
  refine x_istore_n (i := 1) dX5_oddSet_1 rfl rfl (by decide) ?_
  refine x_iconst dX5_oddSet_2 rfl iC_0 ?_
  refine x_istore_n (i := 2) dX5_oddSet_3 rfl rfl (by decide) ?_
  have key := xloop (P := fun i => xWP G l mX5_oddSet d (zM G Q) 0 0 4 (xls [(0, .ref a), (1, .int (zOdd f i)), (2, .int (nI i))]) [] h) 8 (by
    intro i hi ih
    refine x_iload_n (i := 2) dX5_oddSet_4 rfl rfl rfl ?_
    refine x_bipush dX5_oddSet_5 rfl bC_8 ?_
    refine x_jc_ge (tgt := 26) dX5_oddSet_7 rfl rfl (by omega) (by omega) (fun c7 => ?_) (fun c7 => ?_)
    · obtain rfl : i = 8 := by omega
      refine x_iload_n (i := 1) dX5_oddSet_26 rfl rfl rfl ?_
      refine x_ireturn dX5_oddSet_27 rfl rfl ?_
      exact K
    · refine x_iload_n (i := 1) dX5_oddSet_10 rfl rfl rfl ?_
      refine x_aload_n (i := 0) dX5_oddSet_11 rfl rfl rfl ?_
      refine x_iload_n (i := 2) dX5_oddSet_12 rfl rfl rfl ?_
      refine x_iald dX5_oddSet_13 rfl (by first | assumption | exact hs_eq | exact hs_ne (by first | assumption | decide | omega) (by first | assumption | exact hs_eq | exact hs_ne (by first | assumption | decide | omega) (by first | assumption | exact hs_eq | exact hs_ne (by first | assumption | decide | omega) (by assumption)))) rfl (by omega) (by decide) ?_
      refine x_iconst dX5_oddSet_14 rfl iC_1 ?_
      refine x_iand dX5_oddSet_15 rfl ?_
      refine x_iload_n (i := 2) dX5_oddSet_16 rfl rfl rfl ?_
      refine x_ishl dX5_oddSet_17 rfl ?_
      refine x_ior dX5_oddSet_18 rfl ?_
      refine x_istore_n (i := 1) dX5_oddSet_19 rfl rfl (by decide) ?_
      refine x_iinc dX5_oddSet_20 rfl rfl (inc1 _) ?_
      refine x_goto (tgt := 4) dX5_oddSet_23 rfl ?_
      exact x_to (ih c7) ⟨rfl, rfl, rfl, trivial⟩) 0 (Nat.zero_le _)
  exact x_to key ⟨rfl, rfl, rfl, trivial⟩
/-- isOne -/
theorem c_isOne {a : Nat} {f : Nat → Int32} (hd : 2 ≤ d) (ha : h.1 a = (0, 8, xI f)) (Kt : f 0 = nI 2 ∧ zInn f f 8 = 4 → Q (some (.int (nI 1))) h) (Kf : ¬ (f 0 = nI 2 ∧ zInn f f 8 = 4) → Q (some (.int (nI 0))) h) : xCt G l mX5_isOne d [.ref a] h 0 0 Q := by
  refine xCt_of (by decide) (Nat.le_of_ble_eq_true rfl) ?_
  refine x_aload_n (i := 0) dX5_isOne_0 rfl rfl rfl ?_
  refine x_iconst dX5_isOne_1 rfl iC_0 ?_
  refine x_iald dX5_isOne_2 rfl (by first | assumption | exact hs_eq | exact hs_ne (by first | assumption | decide | omega) (by first | assumption | exact hs_eq | exact hs_ne (by first | assumption | decide | omega) (by first | assumption | exact hs_eq | exact hs_ne (by first | assumption | decide | omega) (by assumption)))) rfl (by omega) (by decide) ?_
  refine x_iconst dX5_isOne_3 rfl iC_2 ?_
  refine x_ic_ne (tgt := 22) dX5_isOne_4 rfl rfl (fun c4 => ?_) (fun c4 => ?_)
  · refine x_iconst dX5_isOne_22 rfl iC_0 ?_
    refine x_ireturn dX5_isOne_23 rfl rfl ?_
    exact Kf (fun z => c4 z.1)
  · refine x_aload_n (i := 0) dX5_isOne_7 rfl rfl rfl ?_
    refine x_callS0 (As := [_]) (d2 := d - 1) dX5_isOne_8 rfl kX5_21 okX5_normBy4 (by omega) rfl rfl (Nat.le_of_ble_eq_true rfl) (c_normBy4 (by omega) ha ?_)
    refine x_ldc2 dX5_isOne_11 rfl cX5_27 ?_
    refine x_lcmp dX5_isOne_14 rfl ?_
    refine x_if_ne (tgt := 22) dX5_isOne_15 rfl rfl (fun c15 => ?_) (fun c15 => ?_)
    · refine x_iconst dX5_isOne_22 rfl iC_0 ?_
      refine x_ireturn dX5_isOne_23 rfl rfl ?_
      exact Kf (fun z => c15 ((lg_cmp_eq _ _).mpr z.2))
    · refine x_iconst dX5_isOne_18 rfl iC_1 ?_
      refine x_goto (tgt := 23) dX5_isOne_19 rfl ?_
      refine x_ireturn dX5_isOne_23 rfl rfl ?_
      exact Kt ⟨c4, (lg_cmp_eq _ _).mp c15⟩
/-- halve: until the first that is odd -/
def zEven (w : Nat → Int64) : Prop := ∀ j, j < 8 → w j &&& 1 = 0
theorem c_halve {a : Nat} {w : Nat → Int64} (ha : h.1 a = (1, 8, xJ w)) (Kt : zEven w → Q (some (.int (nI 1))) (hs h a (1, 8, xJ (fun j => w j / 2)))) (Kf : ∀ w', ¬ zEven w → Q (some (.int (nI 0))) (hs h a (1, 8, xJ w'))) : xCt G l mX5_halve d [.ref a] h 0 0 Q := by
  refine xCt_of (by decide) (Nat.le_of_ble_eq_true rfl) ?_
  refine x_iconst dX5_halve_0 rfl iC_0 ?_
  refine x_istore_n (i := 1) dX5_halve_1 rfl rfl (by decide) ?_
  have key := xloop (P := fun i => (∀ j, j < i → w j &&& 1 = 0) → xWP G l mX5_halve d (zM G Q) 0 0 2 (xls [(0, .ref a), (1, .int (nI i))]) [] (hs h a (1, 8, xJ (xF (fun j => w j / 2) w i)))) 8 (by
    intro i hi ih hj
    have ei : xF (fun j => w j / 2) w i i = w i := if_neg (by omega)
    refine x_iload_n (i := 1) dX5_halve_2 rfl rfl rfl ?_
    refine x_bipush dX5_halve_3 rfl bC_8 ?_
    refine x_jc_ge (tgt := 35) dX5_halve_5 rfl rfl (by omega) (by omega) (fun c5 => ?_) (fun c5 => ?_)
    · obtain rfl : i = 8 := by omega
      refine x_topJ (f2 := fun j => w j / 2) (fun j hj => if_pos hj) (by decide) ?_
      refine x_iconst dX5_halve_35 rfl iC_1 ?_
      refine x_ireturn dX5_halve_36 rfl rfl ?_
      exact Kt hj
    · refine x_aload_n (i := 0) dX5_halve_8 rfl rfl rfl ?_
      refine x_iload_n (i := 1) dX5_halve_9 rfl rfl rfl ?_
      refine x_lald dX5_halve_10 rfl (by first | assumption | exact hs_eq | exact hs_ne (by first | assumption | decide | omega) (by first | assumption | exact hs_eq | exact hs_ne (by first | assumption | decide | omega) (by first | assumption | exact hs_eq | exact hs_ne (by first | assumption | decide | omega) (by assumption)))) rfl (by omega) (by decide) ?_
      rw [ei]
      refine x_lconst dX5_halve_11 rfl lC_1 ?_
      refine x_land dX5_halve_12 rfl ?_
      refine x_lconst dX5_halve_13 rfl lC_0 ?_
      refine x_lcmp dX5_halve_14 rfl ?_
      refine x_if_eq (tgt := 20) dX5_halve_15 rfl rfl (fun c15 => ?_) (fun c15 => ?_)
      · refine x_aload_n (i := 0) dX5_halve_20 rfl rfl rfl ?_
        refine x_iload_n (i := 1) dX5_halve_21 rfl rfl rfl ?_
        refine x_dup2 dX5_halve_22 rfl rfl rfl ?_
        refine x_lald dX5_halve_23 rfl (by first | assumption | exact hs_eq | exact hs_ne (by first | assumption | decide | omega) (by first | assumption | exact hs_eq | exact hs_ne (by first | assumption | decide | omega) (by first | assumption | exact hs_eq | exact hs_ne (by first | assumption | decide | omega) (by assumption)))) rfl (by omega) (by decide) ?_
        rw [ei]
        refine x_ldc2 dX5_halve_24 rfl cX5_33 ?_
        refine x_ldiv dX5_halve_27 rfl (by decide) ?_
        refine x_lastT dX5_halve_28 rfl rfl (by omega) (by decide) ?_
        rw [xF_updL (fun j => w j / 2)]
        refine x_iinc dX5_halve_29 rfl rfl (inc1 _) ?_
        refine x_goto (tgt := 2) dX5_halve_32 rfl ?_
        exact x_to (ih c5 (lt_s hj ((lg_cmp_eq _ _).mp c15))) ⟨rfl, rfl, trivial⟩
      · refine x_iconst dX5_halve_18 rfl iC_0 ?_
        refine x_ireturn dX5_halve_19 rfl rfl ?_
        exact Kf _ (fun z => c15 ((lg_cmp_eq _ _).mpr (z i c5)))) 0 (Nat.zero_le _) (fun j hj => absurd hj (Nat.not_lt_zero j))
  rw [xF_0, hs_self ha] at key
  exact x_to key ⟨rfl, rfl, trivial⟩
/-- layIfWithin -/
def zIn (w : Nat → Int64) : Prop := ∀ j, j < 8 → ¬ w j < -20000 ∧ w j ≤ 20000
theorem c_layIfWithin {a b : Nat} {g : Nat → Int32} {w : Nat → Int64} (ha : h.1 a = (0, 8, xI g)) (hb : h.1 b = (1, 8, xJ w)) (Kt : zIn w → Q (some (.int (nI 1))) (hs h a (0, 8, xI (fun j => (w j).toInt32)))) (Kf : ¬ zIn w → Q (some (.int (nI 0))) h) : xCt G l mX5_layIfWithin d [.ref a, .ref b] h 0 0 Q := by
  have hba : b ≠ a := xne hb ha (show (1 : Nat) ≠ 0 by decide)
  refine xCt_of (by decide) (Nat.le_of_ble_eq_true rfl) ?_
  refine x_iconst dX5_layIfWithin_0 rfl iC_0 ?_
  refine x_istore_n (i := 2) dX5_layIfWithin_1 rfl rfl (by decide) ?_
  have key2 : zIn w → xWP G l mX5_layIfWithin d (zM G Q) 0 0 38 (xls [(0, .ref a), (1, .ref b), (2, .int (nI 0))]) [] h := by
    intro hin
    have key := xloop (P := fun i => xWP G l mX5_layIfWithin d (zM G Q) 0 0 38 (xls [(0, .ref a), (1, .ref b), (2, .int (nI i))]) [] (hs h a (0, 8, xI (xF (fun j => (w j).toInt32) g i)))) 8 (by
      intro i hi ih
      refine x_iload_n (i := 2) dX5_layIfWithin_38 rfl rfl rfl ?_
      refine x_bipush dX5_layIfWithin_39 rfl bC_8 ?_
      refine x_jc_ge (tgt := 57) dX5_layIfWithin_41 rfl rfl (by omega) (by omega) (fun c41 => ?_) (fun c41 => ?_)
      · obtain rfl : i = 8 := by omega
        refine x_topI (f2 := fun j => (w j).toInt32) (fun j hj => if_pos hj) (by decide) ?_
        refine x_iconst dX5_layIfWithin_57 rfl iC_1 ?_
        refine x_ireturn dX5_layIfWithin_58 rfl rfl ?_
        exact Kt hin
      · refine x_aload_n (i := 0) dX5_layIfWithin_44 rfl rfl rfl ?_
        refine x_iload_n (i := 2) dX5_layIfWithin_45 rfl rfl rfl ?_
        refine x_aload_n (i := 1) dX5_layIfWithin_46 rfl rfl rfl ?_
        refine x_iload_n (i := 2) dX5_layIfWithin_47 rfl rfl rfl ?_
        refine x_lald dX5_layIfWithin_48 rfl (by first | assumption | exact hs_eq | exact hs_ne (by first | assumption | decide | omega) (by first | assumption | exact hs_eq | exact hs_ne (by first | assumption | decide | omega) (by first | assumption | exact hs_eq | exact hs_ne (by first | assumption | decide | omega) (by assumption)))) rfl (by omega) (by decide) ?_
        refine x_l2i dX5_layIfWithin_49 rfl ?_
        refine x_iastT dX5_layIfWithin_50 rfl rfl (by omega) (by decide) ?_
        rw [xF_upd (fun j => (w j).toInt32)]
        refine x_iinc dX5_layIfWithin_51 rfl rfl (inc1 _) ?_
        refine x_goto (tgt := 38) dX5_layIfWithin_54 rfl ?_
        exact x_to (ih c41) ⟨rfl, rfl, rfl, trivial⟩) 0 (Nat.zero_le _)
    rw [xF_0, hs_self ha] at key
    exact key
  have key := xloop (P := fun i => (∀ j, j < i → ¬ w j < -20000 ∧ w j ≤ 20000) → xWP G l mX5_layIfWithin d (zM G Q) 0 0 2 (xls [(0, .ref a), (1, .ref b), (2, .int (nI i))]) [] h) 8 (by
    intro i hi ih hj
    refine x_iload_n (i := 2) dX5_layIfWithin_2 rfl rfl rfl ?_
    refine x_bipush dX5_layIfWithin_3 rfl bC_8 ?_
    refine x_jc_ge (tgt := 36) dX5_layIfWithin_5 rfl rfl (by omega) (by omega) (fun c5 => ?_) (fun c5 => ?_)
    · refine x_iconst dX5_layIfWithin_36 rfl iC_0 ?_
      refine x_istore_n (i := 2) dX5_layIfWithin_37 rfl rfl (by decide) ?_
      exact x_to (key2 (fun j h8 => hj j (by omega))) ⟨rfl, rfl, rfl, trivial⟩
    · refine x_aload_n (i := 1) dX5_layIfWithin_8 rfl rfl rfl ?_
      refine x_iload_n (i := 2) dX5_layIfWithin_9 rfl rfl rfl ?_
      refine x_lald dX5_layIfWithin_10 rfl (by first | assumption | exact hs_eq | exact hs_ne (by first | assumption | decide | omega) (by first | assumption | exact hs_eq | exact hs_ne (by first | assumption | decide | omega) (by first | assumption | exact hs_eq | exact hs_ne (by first | assumption | decide | omega) (by assumption)))) rfl (by omega) (by decide) ?_
      refine x_ldc2 dX5_layIfWithin_11 rfl cX5_35 ?_
      refine x_lcmp dX5_layIfWithin_14 rfl ?_
      refine x_if_lt (tgt := 28) dX5_layIfWithin_15 rfl rfl (fun c15 => ?_) (fun c15 => ?_)
      · refine x_iconst dX5_layIfWithin_28 rfl iC_0 ?_
        refine x_ireturn dX5_layIfWithin_29 rfl rfl ?_
        exact Kf (fun z => (z i c5).1 ((lg_cmp_lt _ _).mp c15))
      · refine x_aload_n (i := 1) dX5_layIfWithin_18 rfl rfl rfl ?_
        refine x_iload_n (i := 2) dX5_layIfWithin_19 rfl rfl rfl ?_
        refine x_lald dX5_layIfWithin_20 rfl (by first | assumption | exact hs_eq | exact hs_ne (by first | assumption | decide | omega) (by first | assumption | exact hs_eq | exact hs_ne (by first | assumption | decide | omega) (by first | assumption | exact hs_eq | exact hs_ne (by first | assumption | decide | omega) (by assumption)))) rfl (by omega) (by decide) ?_
        refine x_ldc2 dX5_layIfWithin_21 rfl cX5_37 ?_
        refine x_lcmp dX5_layIfWithin_24 rfl ?_
        refine x_if_le (tgt := 30) dX5_layIfWithin_25 rfl rfl (fun c25 => ?_) (fun c25 => ?_)
        · refine x_iinc dX5_layIfWithin_30 rfl rfl (inc1 _) ?_
          refine x_goto (tgt := 2) dX5_layIfWithin_33 rfl ?_
          exact x_to (ih c5 (lt_s hj ⟨fun z => c15 ((lg_cmp_lt _ _).mpr z), (lg_cmp_le _ _).mp c25⟩)) ⟨rfl, rfl, rfl, trivial⟩
        · refine x_iconst dX5_layIfWithin_28 rfl iC_0 ?_
          refine x_ireturn dX5_layIfWithin_29 rfl rfl ?_
          exact Kf (fun z => c25 ((lg_cmp_le _ _).mpr (z i c5).2))) 0 (Nat.zero_le _) (fun j hj => absurd hj (Nat.not_lt_zero j))
  exact x_to key ⟨rfl, rfl, rfl, trivial⟩
end PARTS

