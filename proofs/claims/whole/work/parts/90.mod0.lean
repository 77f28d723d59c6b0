/-! EightPartsModel: numbers at places of one row -/
/-- the number at a place -/
def pl (h : xH) (x : Nat) : Nat → Int32 := fun p => if p < 8 then iv h 112 (8 * x + p) else 0
theorem pl_lt {h : xH} {x p : Nat} (hp : p < 8) : pl h x p = iv h 112 (8 * x + p) := if_pos hp
theorem pl_c8 (h : xH) (x : Nat) : c8 (pl h x) = pl h x := by
  funext p
  unfold c8 pl
  split <;> rfl
theorem pl_eq {h : xH} {x : Nat} {f : Nat → Int32} (e : ∀ p, p < 8 → iv h 112 (8 * x + p) = f p) : pl h x = c8 f := by
  funext p
  unfold pl c8
  split
  · next q => exact e p q
  · rfl
def mB (h : xH) : Prop := ∀ y, y < 155 → zBd (pl h y)
/-- a row with another number at a place -/
def mrow (g : Nat → Int32) (x : Nat) (f : Nat → Int32) (i : Nat) : Nat → Int32 := fun j => if 8 * x ≤ j ∧ j < 8 * x + i then f (j - 8 * x) else g j
theorem mrow_0 (g : Nat → Int32) (x : Nat) (f : Nat → Int32) : mrow g x f 0 = g := by
  funext j
  exact if_neg (by omega)
theorem mrow_s (g : Nat → Int32) (x : Nat) (f : Nat → Int32) (i : Nat) : upd (mrow g x f i) (8 * x + i) (f i) = mrow g x f (i + 1) := by
  funext j
  unfold upd mrow
  by_cases e : j = 8 * x + i
  · rw [if_pos e, if_pos (by omega), e]
    congr 1
    omega
  · rw [if_neg e]
    by_cases q : 8 * x ≤ j ∧ j < 8 * x + i
    · rw [if_pos q, if_pos (by omega)]
    · rw [if_neg q, if_neg (by omega)]
/-- places other than P, cells other than C and the row, are as they were -/
def mV (P C : List Nat) (h h2 : xH) : Prop := Cs h2 ∧ xSm (112 :: C) h h2 ∧ (∀ y, y < 155 → y ∉ P → pl h2 y = pl h y) ∧ (mB h → mB h2)
theorem mV.rf {P C : List Nat} {h : xH} (hC : Cs h) : mV P C h h := ⟨hC, xSm.rf.sub (by simp), fun _ _ _ => rfl, fun z => z⟩
theorem mV.tr {P C P2 C2 : List Nat} {h h2 h3 : xH} (a : mV P C h h2) (b : mV P2 C2 h2 h3) : mV (P ++ P2) (C ++ C2) h h3 := ⟨b.1, (a.2.1.tr b.2.1).sub (by intro q hq; simp only [List.mem_append, List.mem_cons] at hq ⊢; rcases hq with (e | e) | (e | e); exact Or.inl e; exact Or.inr (Or.inl e); exact Or.inl e; exact Or.inr (Or.inr e)), fun y hy hn => by simp at hn; exact (b.2.2.1 y hy hn.2).trans (a.2.2.1 y hy hn.1), fun z => b.2.2.2 (a.2.2.2 z)⟩
theorem mV.sub {P C P2 C2 : List Nat} {h h2 : xH} (a : mV P C h h2) (h1 : ∀ q ∈ P, q ∈ P2) (h3 : ∀ q ∈ C, q ∈ C2) : mV P2 C2 h h2 := ⟨a.1, a.2.1.sub (by intro q hq; simp at hq ⊢; rcases hq with e | e; exact Or.inl e; exact Or.inr (h3 q e)), fun y hy hn => a.2.2.1 y hy (fun z => hn (h1 y z)), a.2.2.2⟩
theorem mV_row {h : xH} (hC : Cs h) {x : Nat} (hx : x < 155) {f : Nat → Int32} (hf : mB h → zBd f) : mV [x] [] h (hs h 112 (0, 1240, xI (mrow (iv h 112) x f 8))) ∧ pl (hs h 112 (0, 1240, xI (mrow (iv h 112) x f 8))) x = c8 f := by
  have e : iv (hs h 112 (0, 1240, xI (mrow (iv h 112) x f 8))) 112 = mrow (iv h 112) x f 8 := iv_hs
  have px : pl (hs h 112 (0, 1240, xI (mrow (iv h 112) x f 8))) x = c8 f := pl_eq (fun p hp => by
    rw [e]
    unfold mrow
    rw [if_pos (by omega)]
    congr 1
    omega)
  have po : ∀ y, y < 155 → y ∉ [x] → pl (hs h 112 (0, 1240, xI (mrow (iv h 112) x f 8))) y = pl h y := by
    intro y hy hn
    simp at hn
    rw [← pl_c8 h y]
    refine pl_eq (fun p hp => ?_)
    rw [e, pl_lt hp]
    unfold mrow
    rw [if_neg (by omega)]
  refine ⟨⟨hC.setI (hC.v rfl) (Or.inl rfl) (by decide), xSm.hs1, po, fun z y hy => ?_⟩, px⟩
  by_cases q : y = x
  · rw [q, px]
    exact zBd_c8.mpr (hf z)
  · rw [po y hy (by simp; exact q)]
    exact z y hy
theorem mV_o {C : List Nat} {h h2 : xH} (hC : Cs h2) (hS : xSm C h h2) (hn : 112 ∉ C) : mV [] C h h2 := by
  have e : iv h2 112 = iv h 112 := hS.iv hn
  have ep : ∀ y, pl h2 y = pl h y := fun y => by unfold pl; rw [e]
  exact ⟨hC, hS.sub (by intro q hq; simp; exact Or.inr hq), fun y _ _ => ep y, fun z y hy => by rw [ep y]; exact z y hy⟩
theorem nI_8 (x i : Nat) : nI 8 * nI x + nI i = nI (8 * x + i) := by rw [nI_mul8, nI_add]
section MOD
variable {G : xG} {l : Launch} {d : Nat} {h : xH} {Q : Option Value → xH → Prop}
theorem m_inL {v lo hi : Int64} (K0 : ¬ (lo ≤ v ∧ v ≤ hi) → Q (some (.int (nI 0))) h) (K1 : lo ≤ v ∧ v ≤ hi → Q (some (.int (nI 1))) h) : xCt G l mX12_in d [.long v, .long lo, .long hi] h 0 0 Q := by
  refine xCt_of (by decide) (Nat.le_of_ble_eq_true rfl) ?_
  refine x_lload_n (i := 0) dX12_in_0 rfl rfl rfl ?_
  refine x_lload_n (i := 2) dX12_in_1 rfl rfl rfl ?_
  refine x_lcmp dX12_in_2 rfl ?_
  refine x_if_lt (tgt := 17) dX12_in_3 rfl rfl (fun c3 => ?_) (fun c3 => ?_)
  · refine x_iconst dX12_in_17 rfl iC_0 ?_
    refine x_ireturn dX12_in_18 rfl rfl ?_
    exact K0 (fun z => Int64.not_lt.mpr z.1 ((lg_cmp_lt _ _).mp c3))
  · refine x_lload_n (i := 0) dX12_in_6 rfl rfl rfl ?_
    refine x_lload dX12_in_7 rfl rfl ?_
    refine x_lcmp dX12_in_9 rfl ?_
    refine x_if_gt (tgt := 17) dX12_in_10 rfl rfl (fun c10 => ?_) (fun c10 => ?_)
    · refine x_iconst dX12_in_17 rfl iC_0 ?_
      refine x_ireturn dX12_in_18 rfl rfl ?_
      exact K0 (fun z => Int64.not_lt.mpr z.2 ((lg_cmp_gt _ _).mp c10))
    · refine x_iconst dX12_in_13 rfl iC_1 ?_
      refine x_goto (tgt := 18) dX12_in_14 rfl ?_
      refine x_ireturn dX12_in_18 rfl rfl ?_
      exact K1 ⟨Int64.not_lt.mp (fun z => c3 ((lg_cmp_lt _ _).mpr z)), Int64.not_lt.mp (fun z => c10 ((lg_cmp_gt _ _).mpr z))⟩
/-- an int from lo to hi -/
theorem m_in {x : Int32} {lo hi : Nat} {vl vh : Int64} (hl : vl.toInt = lo) (hh : vh.toInt = hi) (hn : hi < 2147483648) (K0 : eB lo hi x = none → Q (some (.int (nI 0))) h) (K1 : ∀ k, lo ≤ k → k ≤ hi → x = nI k → eB lo hi x = some k → Q (some (.int (nI 1))) h) : xCt G l mX12_in d [.long x.toInt64, .long vl, .long vh] h 0 0 Q := by
  have e : x.toInt64.toInt = x.toInt := Int32.toInt_toInt64 x
  refine m_inL (fun z => K0 ?_) (fun z => ?_)
  · rw [Int64.le_iff_toInt_le, Int64.le_iff_toInt_le, e, hl, hh] at z
    exact if_neg z
  · rw [Int64.le_iff_toInt_le, Int64.le_iff_toInt_le, e, hl, hh] at z
    have q : eB lo hi x = some x.toInt.toNat := if_pos z
    obtain ⟨q1, q2, q3⟩ := eB_some q hn
    exact K1 _ q1 q2 q3 q
theorem m_isSlot {x : Int32} (hd : 1 ≤ d) (K0 : sE x = none → Q (some (.int (nI 0))) h) (K1 : ∀ k, k < 8 → x = nI k → sE x = some k → Q (some (.int (nI 1))) h) : xCt G l mX12_isSlot d [.int x] h 0 0 Q := by
  refine xCt_of (by decide) (Nat.le_of_ble_eq_true rfl) ?_
  refine x_iload_n (i := 0) dX12_isSlot_0 rfl rfl rfl ?_
  refine x_i2l dX12_isSlot_1 rfl ?_
  refine x_lconst dX12_isSlot_2 rfl lC_0 ?_
  refine x_ldc2 dX12_isSlot_3 rfl cX12_93 ?_
  refine x_callS0 (As := [_, _, _]) (d2 := d - 1) dX12_isSlot_6 rfl kX12_95 okX12_in (by omega) rfl rfl (Nat.le_of_ble_eq_true rfl) (m_in (lo := 0) (hi := 7) (by decide) (by decide) (by decide) (fun z => ?_) (fun k k1 k2 k3 k4 => ?_))
  · refine x_ireturn dX12_isSlot_9 rfl rfl ?_
    exact K0 z
  · refine x_ireturn dX12_isSlot_9 rfl rfl ?_
    exact K1 k (by omega) k3 k4
theorem m_isPart {x : Int32} (hd : 1 ≤ d) (K0 : sE x = none → Q (some (.int (nI 0))) h) (K1 : ∀ k, k < 8 → x = nI k → sE x = some k → Q (some (.int (nI 1))) h) : xCt G l mX12_isPart d [.int x] h 0 0 Q := by
  refine xCt_of (by decide) (Nat.le_of_ble_eq_true rfl) ?_
  refine x_iload_n (i := 0) dX12_isPart_0 rfl rfl rfl ?_
  refine x_i2l dX12_isPart_1 rfl ?_
  refine x_lconst dX12_isPart_2 rfl lC_0 ?_
  refine x_ldc2 dX12_isPart_3 rfl cX12_93 ?_
  refine x_callS0 (As := [_, _, _]) (d2 := d - 1) dX12_isPart_6 rfl kX12_95 okX12_in (by omega) rfl rfl (Nat.le_of_ble_eq_true rfl) (m_in (lo := 0) (hi := 7) (by decide) (by decide) (by decide) (fun z => ?_) (fun k k1 k2 k3 k4 => ?_))
  · refine x_ireturn dX12_isPart_9 rfl rfl ?_
    exact K0 z
  · refine x_ireturn dX12_isPart_9 rfl rfl ?_
    exact K1 k (by omega) k3 k4
theorem m_isNorm {x : Int32} (hd : 1 ≤ d) (K0 : eB 0 3 x = none → Q (some (.int (nI 0))) h) (K1 : ∀ k, k < 4 → x = nI k → eB 0 3 x = some k → Q (some (.int (nI 1))) h) : xCt G l mX12_isNorm d [.int x] h 0 0 Q := by
  refine xCt_of (by decide) (Nat.le_of_ble_eq_true rfl) ?_
  refine x_iload_n (i := 0) dX12_isNorm_0 rfl rfl rfl ?_
  refine x_i2l dX12_isNorm_1 rfl ?_
  refine x_lconst dX12_isNorm_2 rfl lC_0 ?_
  refine x_ldc2 dX12_isNorm_3 rfl cX12_150 ?_
  refine x_callS0 (As := [_, _, _]) (d2 := d - 1) dX12_isNorm_6 rfl kX12_95 okX12_in (by omega) rfl rfl (Nat.le_of_ble_eq_true rfl) (m_in (lo := 0) (hi := 3) (by decide) (by decide) (by decide) (fun z => ?_) (fun k k1 k2 k3 k4 => ?_))
  · refine x_ireturn dX12_isNorm_9 rfl rfl ?_
    exact K0 z
  · refine x_ireturn dX12_isNorm_9 rfl rfl ?_
    exact K1 k (by omega) k3 k4
theorem m_isTurn {x : Int32} (hd : 1 ≤ d) (K0 : eB 0 3 x = none → Q (some (.int (nI 0))) h) (K1 : ∀ k, k < 4 → x = nI k → eB 0 3 x = some k → Q (some (.int (nI 1))) h) : xCt G l mX12_isTurn d [.int x] h 0 0 Q := by
  refine xCt_of (by decide) (Nat.le_of_ble_eq_true rfl) ?_
  refine x_iload_n (i := 0) dX12_isTurn_0 rfl rfl rfl ?_
  refine x_i2l dX12_isTurn_1 rfl ?_
  refine x_lconst dX12_isTurn_2 rfl lC_0 ?_
  refine x_ldc2 dX12_isTurn_3 rfl cX12_150 ?_
  refine x_callS0 (As := [_, _, _]) (d2 := d - 1) dX12_isTurn_6 rfl kX12_95 okX12_in (by omega) rfl rfl (Nat.le_of_ble_eq_true rfl) (m_in (lo := 0) (hi := 3) (by decide) (by decide) (by decide) (fun z => ?_) (fun k k1 k2 k3 k4 => ?_))
  · refine x_ireturn dX12_isTurn_9 rfl rfl ?_
    exact K0 z
  · refine x_ireturn dX12_isTurn_9 rfl rfl ?_
    exact K1 k (by omega) k3 k4
theorem m_areSlots {x y w : Int32} (hd : 2 ≤ d) (K0 : (sE x = none ∨ (∃ i, sE x = some i ∧ sE y = none) ∨ ∃ i j, sE x = some i ∧ sE y = some j ∧ sE w = none) → Q (some (.int (nI 0))) h) (K1 : ∀ i j k, i < 8 → j < 8 → k < 8 → x = nI i → y = nI j → w = nI k → sE x = some i → sE y = some j → sE w = some k → Q (some (.int (nI 1))) h) : xCt G l mX12_areSlots d [.int x, .int y, .int w] h 0 0 Q := by
  refine xCt_of (by decide) (Nat.le_of_ble_eq_true rfl) ?_
  refine x_iload_n (i := 0) dX12_areSlots_0 rfl rfl rfl ?_
  refine x_callS0 (As := [_]) (d2 := d - 1) dX12_areSlots_1 rfl kX12_165 okX12_isSlot (by omega) rfl rfl (Nat.le_of_ble_eq_true rfl) (m_isSlot (by omega) (fun z => ?_) (fun i hi ei qi => ?_))
  · refine x_if_eq_t (tgt := 25) dX12_areSlots_4 rfl nI_0 ?_
    refine x_iconst dX12_areSlots_25 rfl iC_0 ?_
    refine x_ireturn dX12_areSlots_26 rfl rfl ?_
    exact K0 (Or.inl z)
  refine x_if_eq_f (tgt := 25) dX12_areSlots_4 rfl rfl nb1 ?_
  refine x_iload_n (i := 1) dX12_areSlots_7 rfl rfl rfl ?_
  refine x_callS0 (As := [_]) (d2 := d - 1) dX12_areSlots_8 rfl kX12_165 okX12_isSlot (by omega) rfl rfl (Nat.le_of_ble_eq_true rfl) (m_isSlot (by omega) (fun z => ?_) (fun j hj ej qj => ?_))
  · refine x_if_eq_t (tgt := 25) dX12_areSlots_11 rfl nI_0 ?_
    refine x_iconst dX12_areSlots_25 rfl iC_0 ?_
    refine x_ireturn dX12_areSlots_26 rfl rfl ?_
    exact K0 (Or.inr (Or.inl ⟨i, qi, z⟩))
  refine x_if_eq_f (tgt := 25) dX12_areSlots_11 rfl rfl nb1 ?_
  refine x_iload_n (i := 2) dX12_areSlots_14 rfl rfl rfl ?_
  refine x_callS0 (As := [_]) (d2 := d - 1) dX12_areSlots_15 rfl kX12_165 okX12_isSlot (by omega) rfl rfl (Nat.le_of_ble_eq_true rfl) (m_isSlot (by omega) (fun z => ?_) (fun k hk ek qk => ?_))
  · refine x_if_eq_t (tgt := 25) dX12_areSlots_18 rfl nI_0 ?_
    refine x_iconst dX12_areSlots_25 rfl iC_0 ?_
    refine x_ireturn dX12_areSlots_26 rfl rfl ?_
    exact K0 (Or.inr (Or.inr ⟨i, j, qi, qj, z⟩))
  refine x_if_eq_f (tgt := 25) dX12_areSlots_18 rfl rfl nb1 ?_
  refine x_iconst dX12_areSlots_21 rfl iC_1 ?_
  refine x_goto (tgt := 26) dX12_areSlots_22 rfl ?_
  refine x_ireturn dX12_areSlots_26 rfl rfl ?_
  exact K1 i j k hi hj hk ei ej ek qi qj qk
theorem m_isRow {least : Nat} {m row : Int32} (hd : 1 ≤ d) (hl : least ≤ 6) (K0 : (eB least 6 m = none ∨ ∃ k, eB least 6 m = some k ∧ ¬ (0 : Int32) ≤ row) → Q (some (.int (nI 0))) h) (K1 : ∀ k, least ≤ k → k ≤ 6 → m = nI k → eB least 6 m = some k → (0 : Int32) ≤ row → Q (some (.int (nI 1))) h) : xCt G l mX12_isRow d [.int m, .int row, .int (nI least)] h 0 0 Q := by
  refine xCt_of (by decide) (Nat.le_of_ble_eq_true rfl) ?_
  refine x_iload_n (i := 0) dX12_isRow_0 rfl rfl rfl ?_
  refine x_i2l dX12_isRow_1 rfl ?_
  refine x_iload_n (i := 2) dX12_isRow_2 rfl rfl rfl ?_
  refine x_i2l dX12_isRow_3 rfl ?_
  refine x_ldc2 dX12_isRow_4 rfl cX12_217 ?_
  refine x_callS0 (As := [_, _, _]) (d2 := d - 1) dX12_isRow_7 rfl kX12_95 okX12_in (by omega) rfl rfl (Nat.le_of_ble_eq_true rfl) (m_in (lo := least) (hi := 6) (by rw [Int32.toInt_toInt64, nI_toInt (by omega)]) (by decide) (by decide) (fun z => ?_) (fun k k1 k2 k3 k4 => ?_))
  · refine x_if_eq_t (tgt := 21) dX12_isRow_10 rfl nI_0 ?_
    refine x_iconst dX12_isRow_21 rfl iC_0 ?_
    refine x_ireturn dX12_isRow_22 rfl rfl ?_
    exact K0 (Or.inl z)
  refine x_if_eq_f (tgt := 21) dX12_isRow_10 rfl rfl nb1 ?_
  refine x_iload_n (i := 1) dX12_isRow_13 rfl rfl rfl ?_
  refine x_if_lt (tgt := 21) dX12_isRow_14 rfl rfl (fun c14 => ?_) (fun c14 => ?_)
  · refine x_iconst dX12_isRow_21 rfl iC_0 ?_
    refine x_ireturn dX12_isRow_22 rfl rfl ?_
    exact K0 (Or.inr ⟨k, k4, Int32.not_le.mpr c14⟩)
  · refine x_iconst dX12_isRow_17 rfl iC_1 ?_
    refine x_goto (tgt := 22) dX12_isRow_18 rfl ?_
    refine x_ireturn dX12_isRow_22 rfl rfl ?_
    exact K1 k k1 k2 k3 k4 (Int32.not_lt.mp c14)
theorem m_slotIn {row : Int32} {k : Nat} (K : Q (some (.int (nI (slR row k)))) h) : xCt G l mX12_slotIn d [.int row, .int (nI k)] h 0 0 Q := by
  refine xCt_of (by decide) (Nat.le_of_ble_eq_true rfl) ?_
  refine x_iload_n (i := 0) dX12_slotIn_0 rfl rfl rfl ?_
  refine x_iconst dX12_slotIn_1 rfl iC_3 ?_
  refine x_iload_n (i := 1) dX12_slotIn_2 rfl rfl rfl ?_
  refine x_imul dX12_slotIn_3 rfl ?_
  refine x_ishr dX12_slotIn_4 rfl ?_
  refine x_bipush dX12_slotIn_5 rfl bC_7 ?_
  refine x_iand dX12_slotIn_7 rfl ?_
  rw [slR_eq]
  refine x_ireturn dX12_slotIn_8 rfl rfl ?_
  exact K
theorem m_can1 (K : Q (some (.int (nI 1))) h) : xCt G l mX12_can d [.int (nI 1)] h 0 0 Q := by
  refine xCt_of (by decide) (Nat.le_of_ble_eq_true rfl) ?_
  refine x_iload_n (i := 0) dX12_can_0 rfl rfl rfl ?_
  refine x_if_eq_f (tgt := 8) dX12_can_1 rfl rfl nb1 ?_
  refine x_iconst dX12_can_4 rfl iC_1 ?_
  refine x_goto (tgt := 10) dX12_can_5 rfl ?_
  refine x_ireturn dX12_can_10 rfl rfl ?_
  exact K
theorem m_can0 (K : Q (some (.int (-2))) h) : xCt G l mX12_can d [.int (nI 0)] h 0 0 Q := by
  refine xCt_of (by decide) (Nat.le_of_ble_eq_true rfl) ?_
  refine x_iload_n (i := 0) dX12_can_0 rfl rfl rfl ?_
  refine x_if_eq_t (tgt := 8) dX12_can_1 rfl nI_0 ?_
  refine x_bipush dX12_can_8 rfl bC_m2 ?_
  refine x_ireturn dX12_can_10 rfl rfl ?_
  exact K
theorem m_becomes {t x : Nat} (hC : Cs h) (ht : t < 155) (hx : x < 155) (K : ∀ h2, mV [t] [] h h2 → pl h2 t = pl h x → Q none h2) : xCt G l mX12_becomes d [.ref 110, .int (nI t), .int (nI x)] h 0 0 Q := by
  have v := hC.v (a := 112) rfl
  have hC0 := hC
  refine xCt_of (by decide) (Nat.le_of_ble_eq_true rfl) ?_
  refine x_iconst dX12_becomes_0 rfl iC_0 ?_
  refine x_istore_n (i := 3) dX12_becomes_1 rfl rfl (by decide) ?_
  have key := xloop (P := fun i => xWP G l mX12_becomes d (zM G Q) 0 0 2 (xls [(0, .ref 110), (1, .int (nI t)), (2, .int (nI x)), (3, .int (nI i))]) [] (hs h 112 (0, 1240, xI (mrow (iv h 112) t (pl h x) i)))) 8 (by
    intro i hi ih
    have hC1 := hC.setI (f := mrow (iv h 112) t (pl h x) i) v (Or.inl rfl) (by decide)
    have hC := hC1
    refine x_iload_n (i := 3) dX12_becomes_2 rfl rfl rfl ?_
    refine x_bipush dX12_becomes_3 rfl bC_8 ?_
    refine x_jc_ge (tgt := 36) dX12_becomes_5 rfl rfl (by omega) (by omega) (fun c5 => ?_) (fun c5 => ?_)
    · obtain rfl : i = 8 := by omega
      refine x_return dX12_becomes_36 rfl ?_
      obtain ⟨k1, k2⟩ := mV_row (x := t) (f := pl h x) hC0 ht (fun z => z x hx)
      exact K _ k1 (by rw [k2, pl_c8])
    · refine x_aload_n (i := 0) dX12_becomes_8 rfl rfl rfl ?_
      refine x_getC dX12_becomes_9 rfl fX12_17 hC rfl F_110_2 ?_
      refine x_bipush dX12_becomes_12 rfl bC_8 ?_
      refine x_iload_n (i := 1) dX12_becomes_14 rfl rfl rfl ?_
      refine x_imul dX12_becomes_15 rfl ?_
      refine x_iload_n (i := 3) dX12_becomes_16 rfl rfl rfl ?_
      refine x_iadd dX12_becomes_17 rfl ?_
      rw [nI_8]
      refine x_aload_n (i := 0) dX12_becomes_18 rfl rfl rfl ?_
      refine x_getC dX12_becomes_19 rfl fX12_17 hC rfl F_110_2 ?_
      refine x_bipush dX12_becomes_22 rfl bC_8 ?_
      refine x_iload_n (i := 2) dX12_becomes_24 rfl rfl rfl ?_
      refine x_imul dX12_becomes_25 rfl ?_
      refine x_iload_n (i := 3) dX12_becomes_26 rfl rfl rfl ?_
      refine x_iadd dX12_becomes_27 rfl ?_
      rw [nI_8]
      refine x_iald dX12_becomes_28 rfl hs_eq rfl (by omega) (by decide) ?_
      have ev : mrow (iv h 112) t (pl h x) i (8 * x + i) = pl h x i := by
        unfold mrow
        split
        · next q =>
          obtain rfl : x = t := by omega
          congr 1
          omega
        · exact (pl_lt c5).symm
      rw [ev]
      refine x_iastT dX12_becomes_29 rfl rfl (by omega) (by decide) ?_
      rw [mrow_s]
      refine x_iinc dX12_becomes_30 rfl rfl (inc1 _) ?_
      refine x_goto (tgt := 2) dX12_becomes_33 rfl ?_
      exact x_to (ih c5) ⟨rfl, rfl, rfl, rfl, trivial⟩) 0 (Nat.zero_le _)
  rw [mrow_0, hs_self v] at key
  exact x_to key ⟨rfl, rfl, rfl, rfl, trivial⟩
theorem m_nought {t : Nat} (hC : Cs h) (ht : t < 155) (K : ∀ h2, mV [t] [] h h2 → pl h2 t = c8 (fun _ => nI 0) → Q none h2) : xCt G l mX12_nought d [.ref 110, .int (nI t)] h 0 0 Q := by
  have v := hC.v (a := 112) rfl
  have hC0 := hC
  refine xCt_of (by decide) (Nat.le_of_ble_eq_true rfl) ?_
  refine x_iconst dX12_nought_0 rfl iC_0 ?_
  refine x_istore_n (i := 2) dX12_nought_1 rfl rfl (by decide) ?_
  have key := xloop (P := fun i => xWP G l mX12_nought d (zM G Q) 0 0 2 (xls [(0, .ref 110), (1, .int (nI t)), (2, .int (nI i))]) [] (hs h 112 (0, 1240, xI (mrow (iv h 112) t (fun _ => nI 0) i)))) 8 (by
    intro i hi ih
    have hC1 := hC.setI (f := mrow (iv h 112) t (fun _ => nI 0) i) v (Or.inl rfl) (by decide)
    have hC := hC1
    refine x_iload_n (i := 2) dX12_nought_2 rfl rfl rfl ?_
    refine x_bipush dX12_nought_3 rfl bC_8 ?_
    refine x_jc_ge (tgt := 26) dX12_nought_5 rfl rfl (by omega) (by omega) (fun c5 => ?_) (fun c5 => ?_)
    · obtain rfl : i = 8 := by omega
      refine x_return dX12_nought_26 rfl ?_
      obtain ⟨k1, k2⟩ := mV_row (x := t) (f := fun _ => nI 0) hC0 ht (fun _ j _ => by show -20000 ≤ (nI 0).toInt ∧ (nI 0).toInt ≤ 20000; decide)
      exact K _ k1 k2
    · refine x_aload_n (i := 0) dX12_nought_8 rfl rfl rfl ?_
      refine x_getC dX12_nought_9 rfl fX12_17 hC rfl F_110_2 ?_
      refine x_bipush dX12_nought_12 rfl bC_8 ?_
      refine x_iload_n (i := 1) dX12_nought_14 rfl rfl rfl ?_
      refine x_imul dX12_nought_15 rfl ?_
      refine x_iload_n (i := 2) dX12_nought_16 rfl rfl rfl ?_
      refine x_iadd dX12_nought_17 rfl ?_
      rw [nI_8]
      refine x_iconst dX12_nought_18 rfl iC_0 ?_
      refine x_iastT dX12_nought_19 rfl rfl (by omega) (by decide) ?_
      rw [mrow_s _ _ (fun _ => nI 0)]
      refine x_iinc dX12_nought_20 rfl rfl (inc1 _) ?_
      refine x_goto (tgt := 2) dX12_nought_23 rfl ?_
      exact x_to (ih c5) ⟨rfl, rfl, rfl, trivial⟩) 0 (Nat.zero_le _)
  rw [mrow_0, hs_self v] at key
  exact x_to key ⟨rfl, rfl, rfl, trivial⟩
theorem m_areSame {x y : Nat} (hC : Cs h) (hx : x < 155) (hy : y < 155) (Kt : zSame (pl h x) (pl h y) → Q (some (.int (nI 1))) h) (Kf : ¬ zSame (pl h x) (pl h y) → Q (some (.int (nI 0))) h) : xCt G l mX12_areSame d [.ref 110, .int (nI x), .int (nI y)] h 0 0 Q := by
  have v := hC.v (a := 112) rfl
  have hC0 := hC
  refine xCt_of (by decide) (Nat.le_of_ble_eq_true rfl) ?_
  refine x_iconst dX12_areSame_0 rfl iC_0 ?_
  refine x_istore_n (i := 3) dX12_areSame_1 rfl rfl (by decide) ?_
  have key := xloop (P := fun i => (∀ j, j < i → pl h x j = pl h y j) → xWP G l mX12_areSame d (zM G Q) 0 0 2 (xls [(0, .ref 110), (1, .int (nI x)), (2, .int (nI y)), (3, .int (nI i))]) [] h) 8 (by
    intro i hi ih hj
    refine x_iload_n (i := 3) dX12_areSame_2 rfl rfl rfl ?_
    refine x_bipush dX12_areSame_3 rfl bC_8 ?_
    refine x_jc_ge (tgt := 41) dX12_areSame_5 rfl rfl (by omega) (by omega) (fun c5 => ?_) (fun c5 => ?_)
    · refine x_iconst dX12_areSame_41 rfl iC_1 ?_
      refine x_ireturn dX12_areSame_42 rfl rfl ?_
      exact Kt (fun j h8 => hj j (by omega))
    · refine x_aload_n (i := 0) dX12_areSame_8 rfl rfl rfl ?_
      refine x_getC dX12_areSame_9 rfl fX12_17 hC rfl F_110_2 ?_
      refine x_bipush dX12_areSame_12 rfl bC_8 ?_
      refine x_iload_n (i := 1) dX12_areSame_14 rfl rfl rfl ?_
      refine x_imul dX12_areSame_15 rfl ?_
      refine x_iload_n (i := 3) dX12_areSame_16 rfl rfl rfl ?_
      refine x_iadd dX12_areSame_17 rfl ?_
      rw [nI_8]
      refine x_iald dX12_areSame_18 rfl (by first | assumption | exact hs_eq | exact hs_ne (by first | assumption | decide | omega) (by first | assumption | exact hs_eq | exact hs_ne (by first | assumption | decide | omega) (by first | assumption | exact hs_eq | exact hs_ne (by first | assumption | decide | omega) (by assumption)))) rfl (by omega) (by decide) ?_
      refine x_aload_n (i := 0) dX12_areSame_19 rfl rfl rfl ?_
      refine x_getC dX12_areSame_20 rfl fX12_17 hC rfl F_110_2 ?_
      refine x_bipush dX12_areSame_23 rfl bC_8 ?_
      refine x_iload_n (i := 2) dX12_areSame_25 rfl rfl rfl ?_
      refine x_imul dX12_areSame_26 rfl ?_
      refine x_iload_n (i := 3) dX12_areSame_27 rfl rfl rfl ?_
      refine x_iadd dX12_areSame_28 rfl ?_
      rw [nI_8]
      refine x_iald dX12_areSame_29 rfl (by first | assumption | exact hs_eq | exact hs_ne (by first | assumption | decide | omega) (by first | assumption | exact hs_eq | exact hs_ne (by first | assumption | decide | omega) (by first | assumption | exact hs_eq | exact hs_ne (by first | assumption | decide | omega) (by assumption)))) rfl (by omega) (by decide) ?_
      refine x_ic_eq (tgt := 35) dX12_areSame_30 rfl rfl (fun c30 => ?_) (fun c30 => ?_)
      · refine x_iinc dX12_areSame_35 rfl rfl (inc1 _) ?_
        refine x_goto (tgt := 2) dX12_areSame_38 rfl ?_
        exact x_to (ih c5 (lt_s hj (by rw [pl_lt c5, pl_lt c5]; exact c30))) ⟨rfl, rfl, rfl, rfl, trivial⟩
      · refine x_iconst dX12_areSame_33 rfl iC_0 ?_
        refine x_ireturn dX12_areSame_34 rfl rfl ?_
        exact Kf (fun z => c30 (by have := z i c5; rwa [pl_lt c5, pl_lt c5] at this))) 0 (Nat.zero_le _) (fun j hj => absurd hj (Nat.not_lt_zero j))
  exact x_to key ⟨rfl, rfl, rfl, rfl, trivial⟩
theorem m_isNought {x : Nat} (hC : Cs h) (hx : x < 155) (Kt : isZ (pl h x) → Q (some (.int (nI 1))) h) (Kf : ¬ isZ (pl h x) → Q (some (.int (nI 0))) h) : xCt G l mX12_isNought d [.ref 110, .int (nI x)] h 0 0 Q := by
  have v := hC.v (a := 112) rfl
  have hC0 := hC
  refine xCt_of (by decide) (Nat.le_of_ble_eq_true rfl) ?_
  refine x_iconst dX12_isNought_0 rfl iC_0 ?_
  refine x_istore_n (i := 2) dX12_isNought_1 rfl rfl (by decide) ?_
  have key := xloop (P := fun i => (∀ j, j < i → pl h x j = nI 0) → xWP G l mX12_isNought d (zM G Q) 0 0 2 (xls [(0, .ref 110), (1, .int (nI x)), (2, .int (nI i))]) [] h) 8 (by
    intro i hi ih hj
    refine x_iload_n (i := 2) dX12_isNought_2 rfl rfl rfl ?_
    refine x_bipush dX12_isNought_3 rfl bC_8 ?_
    refine x_jc_ge (tgt := 30) dX12_isNought_5 rfl rfl (by omega) (by omega) (fun c5 => ?_) (fun c5 => ?_)
    · refine x_iconst dX12_isNought_30 rfl iC_1 ?_
      refine x_ireturn dX12_isNought_31 rfl rfl ?_
      exact Kt (fun j h8 => hj j (by omega))
    · refine x_aload_n (i := 0) dX12_isNought_8 rfl rfl rfl ?_
      refine x_getC dX12_isNought_9 rfl fX12_17 hC rfl F_110_2 ?_
      refine x_bipush dX12_isNought_12 rfl bC_8 ?_
      refine x_iload_n (i := 1) dX12_isNought_14 rfl rfl rfl ?_
      refine x_imul dX12_isNought_15 rfl ?_
      refine x_iload_n (i := 2) dX12_isNought_16 rfl rfl rfl ?_
      refine x_iadd dX12_isNought_17 rfl ?_
      rw [nI_8]
      refine x_iald dX12_isNought_18 rfl (by first | assumption | exact hs_eq | exact hs_ne (by first | assumption | decide | omega) (by first | assumption | exact hs_eq | exact hs_ne (by first | assumption | decide | omega) (by first | assumption | exact hs_eq | exact hs_ne (by first | assumption | decide | omega) (by assumption)))) rfl (by omega) (by decide) ?_
      refine x_if_eq (tgt := 24) dX12_isNought_19 rfl rfl (fun c19 => ?_) (fun c19 => ?_)
      · refine x_iinc dX12_isNought_24 rfl rfl (inc1 _) ?_
        refine x_goto (tgt := 2) dX12_isNought_27 rfl ?_
        exact x_to (ih c5 (lt_s hj (by rw [pl_lt c5]; exact c19.trans nI_0.symm))) ⟨rfl, rfl, rfl, trivial⟩
      · refine x_iconst dX12_isNought_22 rfl iC_0 ?_
        refine x_ireturn dX12_isNought_23 rfl rfl ?_
        exact Kf (fun z => c19 (by have := z i c5; rw [pl_lt c5] at this; exact this.trans nI_0))) 0 (Nat.zero_le _) (fun j hj => absurd hj (Nat.not_lt_zero j))
  exact x_to key ⟨rfl, rfl, rfl, trivial⟩
end MOD

