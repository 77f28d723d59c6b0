/-! EightParts$Lattice: sets of odd parts, orders -/
def zCode : List Nat := [0, 255, 15, 240, 51, 204, 195, 60, 85, 170, 165, 90, 153, 102, 105, 150]
/-- 0 and s exchanged in a set -/
def exN (v s : Nat) : Nat := if v % 2 = v / 2 ^ s % 2 then v else v ^^^ (1 ||| 2 ^ s)
/-- a set of odd parts may stand in an order -/
def ofO (o v : Nat) : Bool := if o = 0 then v == 0 else zCode.contains (exN v o)
def mwN (o : Nat) : Nat := if o = 0 then 1 else 16
theorem ex_c : ∀ v, v < 256 → ∀ s, s < 8 → ((nI v &&& nI 1 = (nI v >>> (nI s &&& 31)) &&& nI 1) ↔ v % 2 = v / 2 ^ s % 2) := by decide +kernel
theorem ex_x : ∀ v, v < 256 → ∀ s, s < 8 → nI v ^^^ (nI 1 ||| (nI 1 <<< (nI s &&& 31))) = nI (v ^^^ (1 ||| 2 ^ s)) := by decide +kernel
theorem ex_lt : ∀ v, v < 256 → ∀ s, s < 8 → exN v s < 256 := by decide +kernel
theorem cd_lt : ∀ k, k < 16 → zCode.getD k 0 < 256 := by decide +kernel
theorem cd_eq : ∀ k, k < 16 → ([0, 255, 15, 240, 51, 204, 195, 60, 85, 170, 165, 90, 153, 102, 105, 150] : List Int32).getD k 0 = nI (zCode.getD k 0) := by decide +kernel
theorem cd_in {v : Nat} : zCode.contains v = true ↔ ∃ k, k < 16 ∧ zCode.getD k 0 = v := by
  constructor
  · intro h
    have h1 : v ∈ zCode := List.contains_iff_mem.mp h
    obtain ⟨k, hk⟩ := List.getElem?_of_mem h1
    refine ⟨k, (List.getElem?_eq_some_iff.mp hk).1, ?_⟩
    simp [List.getD, hk]
  · rintro ⟨k, hk, e⟩
    refine List.contains_iff_mem.mpr ?_
    have h2 : zCode[k]? = some (zCode[k]'hk) := List.getElem?_eq_getElem hk
    have h3 : zCode.getD k 0 = zCode[k]'hk := by simp [List.getD, h2]
    rw [← e, h3]
    exact List.getElem_mem hk
section LATT
variable {G : xG} {l : Launch} {d : Nat} {h : xH} {Q : Option Value → xH → Prop}
theorem c_manyWords {o : Nat} (ho : o < 8) (K : Q (some (.int (nI (mwN o)))) h) : xCt G l mX2_manyWords d [.int (nI o)] h 0 0 Q := by
  refine xCt_of (by decide) (Nat.le_of_ble_eq_true rfl) ?_
  refine x_iload_n (i := 0) dX2_manyWords_0 rfl rfl rfl ?_
  refine x_if_ne (tgt := 8) dX2_manyWords_1 rfl rfl (fun c1 => ?_) (fun c1 => ?_)
  · refine x_bipush dX2_manyWords_8 rfl bC_16 ?_
    refine x_ireturn dX2_manyWords_10 rfl rfl ?_
    rw [mwN, if_neg (fun e => c1 (by rw [e]; exact nI_0))] at K
    exact K
  · refine x_iconst dX2_manyWords_4 rfl iC_1 ?_
    refine x_goto (tgt := 10) dX2_manyWords_5 rfl ?_
    refine x_ireturn dX2_manyWords_10 rfl rfl ?_
    have : o = 0 := (nI_eq (by omega) (by omega)).mp (c1.trans nI_0.symm)
    rw [mwN, if_pos this] at K
    exact K
theorem c_exchange {v s : Nat} (hv : v < 256) (hs8 : s < 8) (K : Q (some (.int (nI (exN v s)))) h) : xCt G l mX2_exchange d [.int (nI v), .int (nI s)] h 0 0 Q := by
  refine xCt_of (by decide) (Nat.le_of_ble_eq_true rfl) ?_
  refine x_iload_n (i := 0) dX2_exchange_0 rfl rfl rfl ?_
  refine x_iconst dX2_exchange_1 rfl iC_1 ?_
  refine x_iand dX2_exchange_2 rfl ?_
  refine x_iload_n (i := 0) dX2_exchange_3 rfl rfl rfl ?_
  refine x_iload_n (i := 1) dX2_exchange_4 rfl rfl rfl ?_
  refine x_ishr dX2_exchange_5 rfl ?_
  refine x_iconst dX2_exchange_6 rfl iC_1 ?_
  refine x_iand dX2_exchange_7 rfl ?_
  refine x_ic_eq (tgt := 15) dX2_exchange_8 rfl rfl (fun c8 => ?_) (fun c8 => ?_)
  · refine x_iconst dX2_exchange_15 rfl iC_0 ?_
    refine x_istore_n (i := 2) dX2_exchange_16 rfl rfl (by decide) ?_
    refine x_iload_n (i := 2) dX2_exchange_17 rfl rfl rfl ?_
    refine x_if_eq_t (tgt := 31) dX2_exchange_18 rfl nI_0 ?_
    refine x_iload_n (i := 0) dX2_exchange_31 rfl rfl rfl ?_
    refine x_ireturn dX2_exchange_32 rfl rfl ?_
    rw [exN, if_pos ((ex_c v hv s hs8).mp c8)] at K
    exact K
  · refine x_iconst dX2_exchange_11 rfl iC_1 ?_
    refine x_goto (tgt := 16) dX2_exchange_12 rfl ?_
    refine x_istore_n (i := 2) dX2_exchange_16 rfl rfl (by decide) ?_
    refine x_iload_n (i := 2) dX2_exchange_17 rfl rfl rfl ?_
    refine x_if_eq_f (tgt := 31) dX2_exchange_18 rfl rfl nb1 ?_
    refine x_iload_n (i := 0) dX2_exchange_21 rfl rfl rfl ?_
    refine x_iconst dX2_exchange_22 rfl iC_1 ?_
    refine x_iconst dX2_exchange_23 rfl iC_1 ?_
    refine x_iload_n (i := 1) dX2_exchange_24 rfl rfl rfl ?_
    refine x_ishl dX2_exchange_25 rfl ?_
    refine x_ior dX2_exchange_26 rfl ?_
    refine x_ixor dX2_exchange_27 rfl ?_
    rw [ex_x v hv s hs8]
    refine x_goto (tgt := 32) dX2_exchange_28 rfl ?_
    refine x_ireturn dX2_exchange_32 rfl rfl ?_
    rw [exN, if_neg (fun e => c8 ((ex_c v hv s hs8).mpr e))] at K
    exact K
theorem c_mayBeOdd {o v : Nat} (hd : 1 ≤ d) (ho : o < 8) (hv : v < 256) (Kt : ofO o v = true → Q (some (.int (nI 1))) h) (Kf : ofO o v = false → Q (some (.int (nI 0))) h) : xCt G l mX2_mayBeOdd d [.int (nI o), .int (nI v)] h 0 0 Q := by
  refine xCt_of (by decide) (Nat.le_of_ble_eq_true rfl) ?_
  refine x_iload_n (i := 0) dX2_mayBeOdd_0 rfl rfl rfl ?_
  refine x_if_ne (tgt := 14) dX2_mayBeOdd_1 rfl rfl (fun c1 => ?_) (fun c1 => ?_)
  · have ho0 : o ≠ 0 := fun e => c1 (by rw [e]; exact nI_0)
    have eo : ofO o v = zCode.contains (exN v o) := if_neg ho0
    rw [eo] at Kt Kf
    refine x_iload_n (i := 1) dX2_mayBeOdd_14 rfl rfl rfl ?_
    refine x_iload_n (i := 0) dX2_mayBeOdd_15 rfl rfl rfl ?_
    refine x_callS0 (As := [_, _]) (d2 := d - 1) dX2_mayBeOdd_16 rfl kX2_27 okX2_exchange (by omega) rfl rfl (Nat.le_of_ble_eq_true rfl) (c_exchange hv ho ?_)
    refine x_istore_n (i := 2) dX2_mayBeOdd_19 rfl rfl (by decide) ?_
    refine x_iconst dX2_mayBeOdd_20 rfl iC_0 ?_
    refine x_istore_n (i := 3) dX2_mayBeOdd_21 rfl rfl (by decide) ?_
    have he := ex_lt v hv o ho
    have key := xloop (P := fun i => (∀ j, j < i → zCode.getD j 0 ≠ exN v o) → xWP G l mX2_mayBeOdd d (zM G Q) 0 0 22 (xls [(0, .int (nI o)), (1, .int (nI v)), (2, .int (nI (exN v o))), (3, .int (nI i))]) [] h) 16 (by
      intro i hi ih hj
      refine x_iload_n (i := 3) dX2_mayBeOdd_22 rfl rfl rfl ?_
      refine x_bipush dX2_mayBeOdd_23 rfl bC_16 ?_
      refine x_jc_ge (tgt := 45) dX2_mayBeOdd_25 rfl rfl (by omega) (by omega) (fun c25 => ?_) (fun c25 => ?_)
      · refine x_iconst dX2_mayBeOdd_45 rfl iC_0 ?_
        refine x_ireturn dX2_mayBeOdd_46 rfl rfl ?_
        refine Kf (Bool.eq_false_iff.mpr (fun z => ?_))
        obtain ⟨k, hk, e⟩ := cd_in.mp z
        exact hj k (by omega) e
      · have h2 := cd_lt i c25
        refine x_gets dX2_mayBeOdd_28 rfl sX2_31 ?_
        refine x_iload_n (i := 3) dX2_mayBeOdd_31 rfl rfl rfl ?_
        refine x_sald dX2_mayBeOdd_32 rfl rfl rfl c25 (by decide) ?_
        rw [show (List.getD ([0, 255, 15, 240, 51, 204, 195, 60, 85, 170, 165, 90, 153, 102, 105, 150] : List Int32) i 0) = nI (zCode.getD i 0) from cd_eq i c25]
        refine x_iload_n (i := 2) dX2_mayBeOdd_33 rfl rfl rfl ?_
        refine x_jc_ne (tgt := 39) dX2_mayBeOdd_34 rfl rfl (by omega) (by omega) (fun c34 => ?_) (fun c34 => ?_)
        · refine x_iinc dX2_mayBeOdd_39 rfl rfl (inc1 _) ?_
          refine x_goto (tgt := 22) dX2_mayBeOdd_42 rfl ?_
          exact x_to (ih c25 (lt_s hj c34)) ⟨rfl, rfl, rfl, rfl, trivial⟩
        · refine x_iconst dX2_mayBeOdd_37 rfl iC_1 ?_
          refine x_ireturn dX2_mayBeOdd_38 rfl rfl ?_
          exact Kt (cd_in.mpr ⟨i, c25, c34⟩)) 0 (Nat.zero_le _) (fun j hj => absurd hj (Nat.not_lt_zero j))
    exact x_to key ⟨rfl, rfl, rfl, rfl, trivial⟩
  · have ho0 : o = 0 := (nI_eq (by omega) (by omega)).mp (c1.trans nI_0.symm)
    have eo : ofO o v = (v == 0) := if_pos ho0
    rw [eo] at Kt Kf
    refine x_iload_n (i := 1) dX2_mayBeOdd_4 rfl rfl rfl ?_
    refine x_if_ne (tgt := 12) dX2_mayBeOdd_5 rfl rfl (fun c5 => ?_) (fun c5 => ?_)
    · refine x_iconst dX2_mayBeOdd_12 rfl iC_0 ?_
      refine x_ireturn dX2_mayBeOdd_13 rfl rfl ?_
      exact Kf (by simp; exact fun e => c5 (by rw [e]; exact nI_0))
    · refine x_iconst dX2_mayBeOdd_8 rfl iC_1 ?_
      refine x_goto (tgt := 13) dX2_mayBeOdd_9 rfl ?_
      refine x_ireturn dX2_mayBeOdd_13 rfl rfl ?_
      exact Kt (by simp; exact (nI_eq (by omega) (by omega)).mp (c5.trans nI_0.symm))
/-- a set of places, as bits -/
def zSet (p : Nat → Bool) : Nat → Nat
  | 0 => 0
  | i + 1 => zSet p i + (if p i then 2 ^ i else 0)
theorem zSet_lt (p : Nat → Bool) : ∀ i, zSet p i < 2 ^ i
  | 0 => by show 0 < 1; omega
  | i + 1 => by
    have := zSet_lt p i
    rw [zSet, Nat.pow_succ]
    split <;> omega
theorem zSet_cong {p q : Nat → Bool} : ∀ {i : Nat}, (∀ j, j < i → p j = q j) → zSet p i = zSet q i
  | 0, _ => rfl
  | i + 1, h => by rw [zSet, zSet, zSet_cong (fun j hj => h j (by omega)), h i (by omega)]
theorem or_bit : ∀ i, i < 8 → ∀ m, m < 128 → m < 2 ^ i → nI m ||| (nI 1 <<< (nI i &&& 31)) = nI (m + 2 ^ i) ∧ nI m ||| (nI 0 <<< (nI i &&& 31)) = nI m := by decide +kernel
def pI (x : Int32) : Bool := decide (x &&& nI 1 ≠ nI 0)
theorem and1 (x : Int32) : x &&& nI 1 = nI 0 ∨ x &&& nI 1 = nI 1 := by
  have h := pk_and x (m := nI 1) 1 (by decide)
  rw [h]
  rcases (show x.toBitVec.toNat % 2 ^ 1 = 0 ∨ x.toBitVec.toNat % 2 ^ 1 = 1 by omega) with e | e <;> rw [e]
  · exact Or.inl rfl
  · exact Or.inr rfl
theorem zOdd_eq (f : Nat → Int32) : ∀ i, i ≤ 8 → zOdd f i = nI (zSet (fun j => pI (f j)) i)
  | 0, _ => rfl
  | i + 1, hi => by
    have ih := zOdd_eq f i (by omega)
    have h1 := zSet_lt (fun j => pI (f j)) i
    have h2 : 2 ^ i ≤ 128 := by
      have : 2 ^ i ≤ 2 ^ 7 := Nat.pow_le_pow_right (by decide) (by omega)
      exact this
    obtain ⟨b1, b2⟩ := or_bit i (by omega) (zSet (fun j => pI (f j)) i) (by omega) h1
    rw [zOdd, ih, zSet]
    rcases and1 (f i) with e | e
    · rw [e, b2]
      have : pI (f i) = false := by unfold pI; rw [e]; decide
      simp [this]
    · rw [e, b1]
      have : pI (f i) = true := by unfold pI; rw [e]; decide
      simp [this]
/-- the odd set of a number -/
def oddN (f : Nat → Int32) : Nat := zSet (fun j => pI (f j)) 8
theorem oddN_lt (f : Nat → Int32) : oddN f < 256 := zSet_lt _ 8
theorem c_odd {a : Nat} {f : Nat → Int32} (ha : h.1 a = (0, 8, xI f)) (K : Q (some (.int (nI (oddN f)))) h) : xCt G l mX5_oddSet d [.ref a] h 0 0 Q := c_oddSet ha (by rw [zOdd_eq f 8 (by omega)]; exact K)
/-- the order that holds -/
def hOrd (h : xH) (o : Nat) : Prop := (h.1 14).2.2 0 = .int (nI o)
theorem c_isWhole {a o : Nat} (hd : 2 ≤ d) (hC : Cs h) (ho : hOrd h o) (ho8 : o < 8) (ha : csV a) (Kt : ofO o (oddN (iv h a)) = true → Q (some (.int (nI 1))) h) (Kf : ofO o (oddN (iv h a)) = false → Q (some (.int (nI 0))) h) : xCt G l mX2_isWhole d [.ref 14, .ref a] h 0 0 Q := by
  refine xCt_of (by decide) (Nat.le_of_ble_eq_true rfl) ?_
  refine x_aload_n (i := 0) dX2_isWhole_0 rfl rfl rfl ?_
  refine x_getM (a := 14) dX2_isWhole_1 rfl fX2_9 hC rfl ho ?_
  refine x_aload_n (i := 1) dX2_isWhole_4 rfl rfl rfl ?_
  refine x_callS0 (As := [_]) (d2 := d - 1) dX2_isWhole_5 rfl kX2_48 okX5_oddSet (by omega) rfl rfl (Nat.le_of_ble_eq_true rfl) (c_odd (hC.v ha) ?_)
  refine x_callS0 (As := [_, _]) (d2 := d - 1) dX2_isWhole_8 rfl kX2_44 okX2_mayBeOdd (by omega) rfl rfl (Nat.le_of_ble_eq_true rfl) (c_mayBeOdd (by omega) ho8 (oddN_lt _) (fun z => ?_) (fun z => ?_))
  · refine x_ireturn dX2_isWhole_11 rfl rfl ?_
    exact Kt z
  · refine x_ireturn dX2_isWhole_11 rfl rfl ?_
    exact Kf z
def pL (x : Int64) : Bool := decide (x &&& 1 ≠ 0)
theorem and1L (x : Int64) : (x &&& 1 = 0 ∧ (x &&& 1).toInt32 = nI 0) ∨ (x &&& 1 = 1 ∧ (x &&& 1).toInt32 = nI 1) := by
  have h : x &&& 1 = 0 ∨ x &&& 1 = 1 := by
    have e : (x &&& 1).toBitVec.toNat = x.toBitVec.toNat % 2 := by
      show (x.toBitVec &&& (1 : Int64).toBitVec).toNat = _
      rw [BitVec.toNat_and]
      show x.toBitVec.toNat &&& 1 = _
      exact Nat.and_one_is_mod _
    rcases (show x.toBitVec.toNat % 2 = 0 ∨ x.toBitVec.toNat % 2 = 1 by omega) with q | q
    · left
      apply Int64.toBitVec_inj.mp
      apply BitVec.eq_of_toNat_eq
      rw [e, q]
      rfl
    · right
      apply Int64.toBitVec_inj.mp
      apply BitVec.eq_of_toNat_eq
      rw [e, q]
      rfl
  rcases h with e | e
  · exact Or.inl ⟨e, by rw [e]; rfl⟩
  · exact Or.inr ⟨e, by rw [e]; rfl⟩
/-- by n it is whole of an order -/
def zWB (o : Nat) (w : Nat → Int64) (n : Int64) : Prop := (∀ j, j < 8 → w j - w j / n * n = 0) ∧ ofO o (zSet (fun j => pL (w j / n)) 8) = true
theorem c_isWholeBy {a o : Nat} {n : Int64} {w : Nat → Int64} (hd : 2 ≤ d) (hC : Cs h) (ho : hOrd h o) (ho8 : o < 8) (ha : h.1 a = (1, 8, xJ w)) (hn : (1 : Int64) ≤ n) (Kt : zWB o w n → Q (some (.int (nI 1))) h) (Kf : ¬ zWB o w n → Q (some (.int (nI 0))) h) : xCt G l mX2_isWholeBy d [.ref 14, .ref a, .long n] h 0 0 Q := by
  have hn0 : ¬ n = 0 := by
    intro e
    rw [e] at hn
    exact absurd hn (by decide)
  refine xCt_of (by decide) (Nat.le_of_ble_eq_true rfl) ?_
  refine x_lload_n (i := 2) dX2_isWholeBy_0 rfl rfl rfl ?_
  refine x_lconst dX2_isWholeBy_1 rfl lC_1 ?_
  refine x_lcmp dX2_isWholeBy_2 rfl ?_
  refine x_if_ge_t (tgt := 8) dX2_isWholeBy_3 rfl ((lg_cmp_ge _ _).mpr hn) ?_
  refine x_iconst dX2_isWholeBy_8 rfl iC_0 ?_
  refine x_istore dX2_isWholeBy_9 rfl (by decide) ?_
  refine x_iconst dX2_isWholeBy_11 rfl iC_0 ?_
  refine x_istore dX2_isWholeBy_12 rfl (by decide) ?_
  have key := xloop (P := fun i => (∀ j, j < i → w j - w j / n * n = 0) → xWP G l mX2_isWholeBy d (zM G Q) 0 0 14 (xls [(0, .ref 14), (1, .ref a), (2, .long n), (4, .int (nI (zSet (fun j => pL (w j / n)) i))), (5, .int (nI i))]) [] h) 8 (by
    intro i hi ih hj
    refine x_iload dX2_isWholeBy_14 rfl rfl ?_
    refine x_bipush dX2_isWholeBy_16 rfl bC_8 ?_
    refine x_jc_ge (tgt := 57) dX2_isWholeBy_18 rfl rfl (by omega) (by omega) (fun c18 => ?_) (fun c18 => ?_)
    · obtain rfl : i = 8 := by omega
      refine x_aload_n (i := 0) dX2_isWholeBy_57 rfl rfl rfl ?_
      refine x_getM (a := 14) dX2_isWholeBy_58 rfl fX2_9 hC rfl ho ?_
      refine x_iload dX2_isWholeBy_61 rfl rfl ?_
      refine x_callS0 (As := [_, _]) (d2 := d - 1) dX2_isWholeBy_63 rfl kX2_44 okX2_mayBeOdd (by omega) rfl rfl (Nat.le_of_ble_eq_true rfl) (c_mayBeOdd (by omega) ho8 (zSet_lt _ 8) (fun z => ?_) (fun z => ?_))
      · refine x_ireturn dX2_isWholeBy_66 rfl rfl ?_
        exact Kt ⟨hj, z⟩
      · refine x_ireturn dX2_isWholeBy_66 rfl rfl ?_
        exact Kf (fun q => by rw [q.2] at z; cases z)
    · refine x_aload_n (i := 1) dX2_isWholeBy_21 rfl rfl rfl ?_
      refine x_iload dX2_isWholeBy_22 rfl rfl ?_
      refine x_lald dX2_isWholeBy_24 rfl (by first | assumption | exact hs_eq | exact hs_ne (by first | assumption | decide | omega) (by first | assumption | exact hs_eq | exact hs_ne (by first | assumption | decide | omega) (by first | assumption | exact hs_eq | exact hs_ne (by first | assumption | decide | omega) (by assumption)))) rfl (by omega) (by decide) ?_
      refine x_lload_n (i := 2) dX2_isWholeBy_25 rfl rfl rfl ?_
      refine x_lrem dX2_isWholeBy_26 rfl hn0 ?_
      refine x_lconst dX2_isWholeBy_27 rfl lC_0 ?_
      refine x_lcmp dX2_isWholeBy_28 rfl ?_
      refine x_if_eq (tgt := 34) dX2_isWholeBy_29 rfl rfl (fun c29 => ?_) (fun c29 => ?_)
      · refine x_iload dX2_isWholeBy_34 rfl rfl ?_
        refine x_aload_n (i := 1) dX2_isWholeBy_36 rfl rfl rfl ?_
        refine x_iload dX2_isWholeBy_37 rfl rfl ?_
        refine x_lald dX2_isWholeBy_39 rfl (by first | assumption | exact hs_eq | exact hs_ne (by first | assumption | decide | omega) (by first | assumption | exact hs_eq | exact hs_ne (by first | assumption | decide | omega) (by first | assumption | exact hs_eq | exact hs_ne (by first | assumption | decide | omega) (by assumption)))) rfl (by omega) (by decide) ?_
        refine x_lload_n (i := 2) dX2_isWholeBy_40 rfl rfl rfl ?_
        refine x_ldiv dX2_isWholeBy_41 rfl hn0 ?_
        refine x_lconst dX2_isWholeBy_42 rfl lC_1 ?_
        refine x_land dX2_isWholeBy_43 rfl ?_
        refine x_l2i dX2_isWholeBy_44 rfl ?_
        refine x_iload dX2_isWholeBy_45 rfl rfl ?_
        refine x_ishl dX2_isWholeBy_47 rfl ?_
        have h1 := zSet_lt (fun j => pL (w j / n)) i
        have h2 : 2 ^ i ≤ 128 := by
          have : 2 ^ i ≤ 2 ^ 7 := Nat.pow_le_pow_right (by decide) (by omega)
          exact this
        obtain ⟨b1, b2⟩ := or_bit i (by omega) (zSet (fun j => pL (w j / n)) i) (by omega) h1
        have e1 : nI (zSet (fun j => pL (w j / n)) i) ||| (w i / n &&& 1).toInt32 <<< (nI i &&& 31) = nI (zSet (fun j => pL (w j / n)) (i + 1)) := by
          rw [zSet]
          rcases and1L (w i / n) with ⟨p1, p2⟩ | ⟨p1, p2⟩
          · rw [p2, b2]
            have : pL (w i / n) = false := by unfold pL; rw [p1]; decide
            simp [this]
          · rw [p2, b1]
            have : pL (w i / n) = true := by unfold pL; rw [p1]; decide
            simp [this]
        refine x_ior dX2_isWholeBy_48 rfl ?_
        rw [e1]
        refine x_istore dX2_isWholeBy_49 rfl (by decide) ?_
        refine x_iinc dX2_isWholeBy_51 rfl rfl (inc1 _) ?_
        refine x_goto (tgt := 14) dX2_isWholeBy_54 rfl ?_
        exact x_to (ih c18 (lt_s hj ((lg_cmp_eq _ _).mp c29))) ⟨rfl, rfl, rfl, rfl, rfl, trivial⟩
      · refine x_iconst dX2_isWholeBy_32 rfl iC_0 ?_
        refine x_ireturn dX2_isWholeBy_33 rfl rfl ?_
        exact Kf (fun q => c29 ((lg_cmp_eq _ _).mpr (q.1 i c18)))) 0 (Nat.zero_le _) (fun j hj => absurd hj (Nat.not_lt_zero j))
  exact x_to key ⟨rfl, rfl, rfl, rfl, rfl, trivial⟩
end LATT

