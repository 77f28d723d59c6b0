/-! EightParts$Lattice: the best word, the nearest -/
theorem bit_eq : ∀ v, v < 256 → ∀ i, i < 8 → (nI v >>> (nI i &&& 31)) &&& nI 1 = nI (v / 2 ^ i % 2) := by decide +kernel
/-- the misses of a word, added -/
def zMo (ms : Nat → Nat → Int64) (v : Nat) : Nat → Int64
  | 0 => 0
  | i + 1 => zMo ms v i + ms (v / 2 ^ i % 2) i
theorem zMo_cong {ms ms2 : Nat → Nat → Int64} (h : ∀ p, p < 2 → ∀ j, j < 8 → ms p j = ms2 p j) (v : Nat) : ∀ i, i ≤ 8 → zMo ms v i = zMo ms2 v i
  | 0, _ => rfl
  | i + 1, hi => by rw [zMo, zMo, zMo_cong h v i (by omega), h _ (Nat.mod_lt _ (by decide)) i (by omega)]
def zDf (nr : Nat → Nat → Int64) (v u i : Nat) : Int64 := nr (v / 2 ^ i % 2) i - nr (u / 2 ^ i % 2) i
/-- a word is listed ahead of another -/
def zAh (nr : Nat → Nat → Int64) (v u : Nat) : Prop := ∃ i, i < 8 ∧ (∀ j, j < i → zDf nr v u j = 0) ∧ ¬ zDf nr v u i = 0 ∧ zDf nr v u i < 0
theorem zAh_cong {nr nr2 : Nat → Nat → Int64} (h : ∀ p, p < 2 → ∀ j, j < 8 → nr p j = nr2 p j) (v u : Nat) : zAh nr v u ↔ zAh nr2 v u := by
  have e : ∀ j, j < 8 → zDf nr v u j = zDf nr2 v u j := fun j hj => by unfold zDf; rw [h _ (Nat.mod_lt _ (by decide)) j hj, h _ (Nat.mod_lt _ (by decide)) j hj]
  constructor
  · rintro ⟨i, h1, h2, h3, h4⟩
    exact ⟨i, h1, fun j hj => by rw [← e j (by omega)]; exact h2 j hj, by rw [← e i h1]; exact h3, by rw [← e i h1]; exact h4⟩
  · rintro ⟨i, h1, h2, h3, h4⟩
    exact ⟨i, h1, fun j hj => by rw [e j (by omega)]; exact h2 j hj, by rw [e i h1]; exact h3, by rw [e i h1]; exact h4⟩
def wdN (o k : Nat) : Nat := exN (zCode.getD k 0) o
theorem wdN_lt {o k : Nat} (ho : o < 8) (hk : k < 16) : wdN o k < 256 := ex_lt _ (cd_lt k hk) o ho
def zBt (ms nr : Nat → Nat → Int64) (v u : Nat) : Prop := zMo ms v 8 < zMo ms u 8 ∨ (zMo ms v 8 = zMo ms u 8 ∧ zAh nr v u)
noncomputable def zBw (o : Nat) (ms nr : Nat → Nat → Int64) : Nat → Nat
  | 0 => wdN o 0
  | k + 1 => @ite _ (zBt ms nr (wdN o (k + 1)) (zBw o ms nr k)) (Classical.propDecidable _) (wdN o (k + 1)) (zBw o ms nr k)
theorem zBw_lt {o : Nat} (ho : o < 8) (ms nr : Nat → Nat → Int64) : ∀ k, k < 16 → zBw o ms nr k < 256
  | 0, _ => wdN_lt ho (by decide)
  | k + 1, hk => by
    rw [zBw]
    split
    · exact wdN_lt ho hk
    · exact zBw_lt ho ms nr k (by omega)
theorem zBw_cong {o : Nat} {ms ms2 nr nr2 : Nat → Nat → Int64} (h1 : ∀ p, p < 2 → ∀ j, j < 8 → ms p j = ms2 p j) (h2 : ∀ p, p < 2 → ∀ j, j < 8 → nr p j = nr2 p j) : ∀ k, zBw o ms nr k = zBw o ms2 nr2 k
  | 0 => rfl
  | k + 1 => by
    have e : ∀ v u, zBt ms nr v u ↔ zBt ms2 nr2 v u := fun v u => by unfold zBt; rw [zMo_cong h1 v 8 (by omega), zMo_cong h1 u 8 (by omega), zAh_cong h2]
    rw [zBw, zBw, zBw_cong h1 h2 k]
    by_cases c : zBt ms nr (wdN o (k + 1)) (zBw o ms2 nr2 k)
    · rw [if_pos c, if_pos ((e _ _).mp c)]
    · rw [if_neg c, if_neg (fun q => c ((e _ _).mpr q))]
section NR2
variable {G : xG} {l : Launch} {d : Nat} {h : xH} {Q : Option Value → xH → Prop}
/-- the rows of the lattice -/
abbrev hMs (h : xH) : Nat → Nat → Int64 := fun p => jv h (19 + p)
abbrev hNr (h : xH) : Nat → Nat → Int64 := fun p => jv h (16 + p)
theorem c_missOf {v : Nat} (hC : Cs h) (hv : v < 256) (K : Q (some (.long (zMo (hMs h) v 8))) h) : xCt G l mX2_missOf d [.ref 14, .int (nI v)] h 0 0 Q := by
  refine xCt_of (by decide) (Nat.le_of_ble_eq_true rfl) ?_
  refine x_lconst dX2_missOf_0 rfl lC_0 ?_
  refine x_lstore_n (i := 2) dX2_missOf_1 rfl rfl (by decide) ?_
  refine x_iconst dX2_missOf_2 rfl iC_0 ?_
  refine x_istore dX2_missOf_3 rfl (by decide) ?_
  have key := xloop (P := fun i => xWP G l mX2_missOf d (zM G Q) 0 0 5 (xls [(0, .ref 14), (1, .int (nI v)), (2, .long (zMo (hMs h) v i)), (4, .int (nI i))]) [] h) 8 (by
    intro i hi ih
    refine x_iload dX2_missOf_5 rfl rfl ?_
    refine x_bipush dX2_missOf_7 rfl bC_8 ?_
    refine x_jc_ge (tgt := 35) dX2_missOf_9 rfl rfl (by omega) (by omega) (fun c9 => ?_) (fun c9 => ?_)
    · obtain rfl : i = 8 := by omega
      refine x_lload_n (i := 2) dX2_missOf_35 rfl rfl rfl ?_
      refine x_lreturn dX2_missOf_36 rfl ?_
      exact K
    · have hb2 : v / 2 ^ i % 2 < 2 := Nat.mod_lt _ (by decide)
      have v2 := hC.j (csT_near hb2).2
      refine x_lload_n (i := 2) dX2_missOf_12 rfl rfl rfl ?_
      refine x_aload_n (i := 0) dX2_missOf_13 rfl rfl rfl ?_
      refine x_getC dX2_missOf_14 rfl fX2_20 hC rfl F_14_2 ?_
      refine x_iload_n (i := 1) dX2_missOf_17 rfl rfl rfl ?_
      refine x_iload dX2_missOf_18 rfl rfl ?_
      refine x_ishr dX2_missOf_20 rfl ?_
      refine x_iconst dX2_missOf_21 rfl iC_1 ?_
      refine x_iand dX2_missOf_22 rfl ?_
      rw [bit_eq v hv i c9]
      refine x_aaldC (t := 1) dX2_missOf_23 rfl hC rfl (by decide) rfl (by omega) (by decide) (csF_miss hb2) ?_
      refine x_iload dX2_missOf_24 rfl rfl ?_
      refine x_lald dX2_missOf_26 rfl v2 rfl (by omega) (by decide) ?_
      refine x_ladd dX2_missOf_27 rfl ?_
      refine x_lstore_n (i := 2) dX2_missOf_28 rfl rfl (by decide) ?_
      refine x_iinc dX2_missOf_29 rfl rfl (inc1 _) ?_
      refine x_goto (tgt := 5) dX2_missOf_32 rfl ?_
      exact x_to (ih c9) ⟨rfl, rfl, rfl, rfl, trivial⟩) 0 (Nat.zero_le _)
  exact x_to key ⟨rfl, rfl, rfl, rfl, trivial⟩
theorem c_isListedAhead {v u : Nat} (hC : Cs h) (hv : v < 256) (hu : u < 256) (Kt : zAh (hNr h) v u → Q (some (.int (nI 1))) h) (Kf : ¬ zAh (hNr h) v u → Q (some (.int (nI 0))) h) : xCt G l mX2_isListedAhead d [.ref 14, .int (nI v), .int (nI u)] h 0 0 Q := by
  refine xCt_of (by decide) (Nat.le_of_ble_eq_true rfl) ?_
  refine x_iconst dX2_isListedAhead_0 rfl iC_0 ?_
  refine x_istore_n (i := 3) dX2_isListedAhead_1 rfl rfl (by decide) ?_
  have key := xloop (P := fun i => (∀ j, j < i → zDf (hNr h) v u j = 0) → xWP G l mX2_isListedAhead d (zM G Q) 0 0 2 (xls [(0, .ref 14), (1, .int (nI v)), (2, .int (nI u)), (3, .int (nI i))]) [] h) 8 (by
    intro i hi ih hj
    refine x_iload_n (i := 3) dX2_isListedAhead_2 rfl rfl rfl ?_
    refine x_bipush dX2_isListedAhead_3 rfl bC_8 ?_
    refine x_jc_ge (tgt := 61) dX2_isListedAhead_5 rfl rfl (by omega) (by omega) (fun c5 => ?_) (fun c5 => ?_)
    · refine x_iconst dX2_isListedAhead_61 rfl iC_0 ?_
      refine x_ireturn dX2_isListedAhead_62 rfl rfl ?_
      exact Kf (fun ⟨k, h1, h2, h3, h4⟩ => h3 (hj k (by omega)))
    · have hb2 : v / 2 ^ i % 2 < 2 := Nat.mod_lt _ (by decide)
      have hb3 : u / 2 ^ i % 2 < 2 := Nat.mod_lt _ (by decide)
      have v2 := hC.j (csT_near hb2).1
      have v3 := hC.j (csT_near hb3).1
      refine x_aload_n (i := 0) dX2_isListedAhead_8 rfl rfl rfl ?_
      refine x_getC dX2_isListedAhead_9 rfl fX2_17 hC rfl F_14_1 ?_
      refine x_iload_n (i := 1) dX2_isListedAhead_12 rfl rfl rfl ?_
      refine x_iload_n (i := 3) dX2_isListedAhead_13 rfl rfl rfl ?_
      refine x_ishr dX2_isListedAhead_14 rfl ?_
      refine x_iconst dX2_isListedAhead_15 rfl iC_1 ?_
      refine x_iand dX2_isListedAhead_16 rfl ?_
      rw [bit_eq v hv i c5]
      refine x_aaldC (t := 1) dX2_isListedAhead_17 rfl hC rfl (by decide) rfl (by omega) (by decide) (csF_near hb2) ?_
      refine x_iload_n (i := 3) dX2_isListedAhead_18 rfl rfl rfl ?_
      refine x_lald dX2_isListedAhead_19 rfl v2 rfl (by omega) (by decide) ?_
      refine x_aload_n (i := 0) dX2_isListedAhead_20 rfl rfl rfl ?_
      refine x_getC dX2_isListedAhead_21 rfl fX2_17 hC rfl F_14_1 ?_
      refine x_iload_n (i := 2) dX2_isListedAhead_24 rfl rfl rfl ?_
      refine x_iload_n (i := 3) dX2_isListedAhead_25 rfl rfl rfl ?_
      refine x_ishr dX2_isListedAhead_26 rfl ?_
      refine x_iconst dX2_isListedAhead_27 rfl iC_1 ?_
      refine x_iand dX2_isListedAhead_28 rfl ?_
      rw [bit_eq u hu i c5]
      refine x_aaldC (t := 1) dX2_isListedAhead_29 rfl hC rfl (by decide) rfl (by omega) (by decide) (csF_near hb3) ?_
      refine x_iload_n (i := 3) dX2_isListedAhead_30 rfl rfl rfl ?_
      refine x_lald dX2_isListedAhead_31 rfl v3 rfl (by omega) (by decide) ?_
      refine x_lsub dX2_isListedAhead_32 rfl ?_
      refine x_lstore dX2_isListedAhead_33 rfl (by decide) ?_
      refine x_lload dX2_isListedAhead_35 rfl rfl ?_
      refine x_lconst dX2_isListedAhead_37 rfl lC_0 ?_
      refine x_lcmp dX2_isListedAhead_38 rfl ?_
      refine x_if_eq (tgt := 55) dX2_isListedAhead_39 rfl rfl (fun c39 => ?_) (fun c39 => ?_)
      · refine x_iinc dX2_isListedAhead_55 rfl rfl (inc1 _) ?_
        refine x_goto (tgt := 2) dX2_isListedAhead_58 rfl ?_
        exact x_to (ih c5 (lt_s hj ((lg_cmp_eq _ _).mp c39))) ⟨rfl, rfl, rfl, rfl, trivial⟩
      · have hne : ¬ zDf (hNr h) v u i = 0 := fun e => c39 ((lg_cmp_eq _ _).mpr e)
        refine x_lload dX2_isListedAhead_42 rfl rfl ?_
        refine x_lconst dX2_isListedAhead_44 rfl lC_0 ?_
        refine x_lcmp dX2_isListedAhead_45 rfl ?_
        refine x_if_ge (tgt := 53) dX2_isListedAhead_46 rfl rfl (fun c46 => ?_) (fun c46 => ?_)
        · refine x_iconst dX2_isListedAhead_53 rfl iC_0 ?_
          refine x_ireturn dX2_isListedAhead_54 rfl rfl ?_
          refine Kf (fun ⟨k, h1, h2, h3, h4⟩ => ?_)
          have : k = i := by
            rcases Nat.lt_trichotomy k i with q | q | q
            · exact absurd (hj k q) h3
            · exact q
            · exact absurd (h2 i q) hne
          subst this
          have h5 := (lg_cmp_ge _ _).mp c46
          have h6 : zDf (hNr h) v u k < 0 := h4
          rw [Int64.lt_iff_toInt_lt] at h6
          have h7 : (0 : Int64) ≤ zDf (hNr h) v u k := h5
          rw [Int64.le_iff_toInt_le] at h7
          omega
        · refine x_iconst dX2_isListedAhead_49 rfl iC_1 ?_
          refine x_goto (tgt := 54) dX2_isListedAhead_50 rfl ?_
          refine x_ireturn dX2_isListedAhead_54 rfl rfl ?_
          refine Kt ⟨i, c5, hj, hne, ?_⟩
          have h7 : ¬ (0 : Int64) ≤ zDf (hNr h) v u i := fun z => c46 ((lg_cmp_ge _ _).mpr z)
          rw [Int64.le_iff_toInt_le] at h7
          rw [Int64.lt_iff_toInt_lt]
          omega) 0 (Nat.zero_le _) (fun j hj => absurd hj (Nat.not_lt_zero j))
  exact x_to key ⟨rfl, rfl, rfl, rfl, trivial⟩
theorem c_bestWord {o : Nat} (hd : 2 ≤ d) (hC : Cs h) (ho : hOrd h o) (ho8 : o < 8) (K : Q (some (.int (nI (zBw o (hMs h) (hNr h) (mwN o - 1))))) h) : xCt G l mX2_bestWord d [.ref 14] h 0 0 Q := by
  have hm := mw_le o
  have hm1 : 1 ≤ mwN o := by unfold mwN; split <;> omega
  refine xCt_of (by decide) (Nat.le_of_ble_eq_true rfl) ?_
  refine x_gets dX2_bestWord_0 rfl sX2_31 ?_
  refine x_iconst dX2_bestWord_3 rfl iC_0 ?_
  refine x_sald dX2_bestWord_4 rfl rfl rfl (by decide) (by decide) ?_
  rw [show (List.getD ([0, 255, 15, 240, 51, 204, 195, 60, 85, 170, 165, 90, 153, 102, 105, 150] : List Int32) 0 0) = nI (zCode.getD 0 0) from cd_eq 0 (by decide)]
  refine x_aload_n (i := 0) dX2_bestWord_5 rfl rfl rfl ?_
  refine x_getM (a := 14) dX2_bestWord_6 rfl fX2_9 hC rfl ho ?_
  refine x_callS0 (As := [_, _]) (d2 := d - 1) dX2_bestWord_9 rfl kX2_27 okX2_exchange (by omega) rfl rfl (Nat.le_of_ble_eq_true rfl) (c_exchange (cd_lt 0 (by decide)) ho8 ?_)
  refine x_istore_n (i := 1) dX2_bestWord_12 rfl rfl (by decide) ?_
  refine x_aload_n (i := 0) dX2_bestWord_13 rfl rfl rfl ?_
  refine x_iload_n (i := 1) dX2_bestWord_14 rfl rfl rfl ?_
  refine x_callV0 (ci := 2) (b := 14) (As := [_]) (d2 := d - 1) dX2_bestWord_15 rfl kX2_74 okX2_missOf (hC.o rfl) (fun q hq => by cases hq; rfl) (by omega) rfl rfl (Nat.le_of_ble_eq_true rfl) (c_missOf hC (wdN_lt ho8 (k := 0) (by decide)) ?_)
  refine x_lstore_n (i := 2) dX2_bestWord_18 rfl rfl (by decide) ?_
  refine x_aload_n (i := 0) dX2_bestWord_19 rfl rfl rfl ?_
  refine x_getM (a := 14) dX2_bestWord_20 rfl fX2_9 hC rfl ho ?_
  refine x_callS0 (As := [_]) (d2 := d - 1) dX2_bestWord_23 rfl kX2_35 okX2_manyWords (by omega) rfl rfl (Nat.le_of_ble_eq_true rfl) (c_manyWords ho8 ?_)
  refine x_istore dX2_bestWord_26 rfl (by decide) ?_
  refine x_iconst dX2_bestWord_28 rfl iC_1 ?_
  refine x_istore dX2_bestWord_29 rfl (by decide) ?_
  have key := xloop (P := fun i => 1 ≤ i → xWP G l mX2_bestWord d (zM G Q) 0 0 31 (xls [(0, .ref 14), (1, .int (nI (zBw o (hMs h) (hNr h) (i - 1)))), (2, .long (zMo (hMs h) (zBw o (hMs h) (hNr h) (i - 1)) 8)), (4, .int (nI (mwN o))), (5, .int (nI i))]) [] h) (mwN o) (by
    intro i hi ih h1
    refine x_iload dX2_bestWord_31 rfl rfl ?_
    refine x_iload dX2_bestWord_33 rfl rfl ?_
    refine x_jc_ge (tgt := 97) dX2_bestWord_35 rfl rfl (by omega) (by omega) (fun c35 => ?_) (fun c35 => ?_)
    · obtain rfl : i = mwN o := by omega
      refine x_iload_n (i := 1) dX2_bestWord_97 rfl rfl rfl ?_
      refine x_ireturn dX2_bestWord_98 rfl rfl ?_
      exact K
    · have hi16 : i < 16 := by omega
      have hw := wdN_lt ho8 hi16
      have hbw := zBw_lt ho8 (hMs h) (hNr h) (i - 1) (by omega)
      obtain ⟨i0, rfl⟩ : ∃ i0, i = i0 + 1 := ⟨i - 1, by omega⟩
      have ei : i0 + 1 - 1 = i0 := rfl
      rw [ei] at hbw ⊢
      have ein : i0 + 1 + 1 - 1 = i0 + 1 := rfl
      refine x_gets dX2_bestWord_38 rfl sX2_31 ?_
      refine x_iload dX2_bestWord_41 rfl rfl ?_
      refine x_sald dX2_bestWord_43 rfl rfl rfl hi16 (by decide) ?_
      rw [show (List.getD ([0, 255, 15, 240, 51, 204, 195, 60, 85, 170, 165, 90, 153, 102, 105, 150] : List Int32) (i0 + 1) 0) = nI (zCode.getD (i0 + 1) 0) from cd_eq (i0 + 1) hi16]
      refine x_aload_n (i := 0) dX2_bestWord_44 rfl rfl rfl ?_
      refine x_getM (a := 14) dX2_bestWord_45 rfl fX2_9 hC rfl ho ?_
      refine x_callS0 (As := [_, _]) (d2 := d - 1) dX2_bestWord_48 rfl kX2_27 okX2_exchange (by omega) rfl rfl (Nat.le_of_ble_eq_true rfl) (c_exchange (cd_lt _ hi16) ho8 ?_)
      refine x_istore dX2_bestWord_51 rfl (by decide) ?_
      refine x_aload_n (i := 0) dX2_bestWord_53 rfl rfl rfl ?_
      refine x_iload dX2_bestWord_54 rfl rfl ?_
      refine x_callV0 (ci := 2) (b := 14) (As := [_]) (d2 := d - 1) dX2_bestWord_56 rfl kX2_74 okX2_missOf (hC.o rfl) (fun q hq => by cases hq; rfl) (by omega) rfl rfl (Nat.le_of_ble_eq_true rfl) (c_missOf hC hw ?_)
      have yes : zBt (hMs h) (hNr h) (wdN o (i0 + 1)) (zBw o (hMs h) (hNr h) i0) → zBw o (hMs h) (hNr h) (i0 + 1) = wdN o (i0 + 1) := fun z => if_pos z
      have no : ¬ zBt (hMs h) (hNr h) (wdN o (i0 + 1)) (zBw o (hMs h) (hNr h) i0) → zBw o (hMs h) (hNr h) (i0 + 1) = zBw o (hMs h) (hNr h) i0 := fun z => if_neg z
      have ih2 := ih c35 (by omega)
      rw [ein] at ih2
      refine x_lstore dX2_bestWord_59 rfl (by decide) ?_
      refine x_lload dX2_bestWord_61 rfl rfl ?_
      refine x_lload_n (i := 2) dX2_bestWord_63 rfl rfl rfl ?_
      refine x_lcmp dX2_bestWord_64 rfl ?_
      refine x_if_lt (tgt := 85) dX2_bestWord_65 rfl rfl (fun c65 => ?_) (fun c65 => ?_)
      · refine x_iload dX2_bestWord_85 rfl rfl ?_
        refine x_istore_n (i := 1) dX2_bestWord_87 rfl rfl (by decide) ?_
        refine x_lload dX2_bestWord_88 rfl rfl ?_
        refine x_lstore_n (i := 2) dX2_bestWord_90 rfl rfl (by decide) ?_
        refine x_iinc dX2_bestWord_91 rfl rfl (inc1 _) ?_
        refine x_goto (tgt := 31) dX2_bestWord_94 rfl ?_
        rw [yes (Or.inl ((lg_cmp_lt _ _).mp c65))] at ih2
        exact x_to ih2 ⟨rfl, rfl, rfl, rfl, rfl, trivial⟩
      · have nlt : ¬ zMo (hMs h) (wdN o (i0 + 1)) 8 < zMo (hMs h) (zBw o (hMs h) (hNr h) i0) 8 := fun z => c65 ((lg_cmp_lt _ _).mpr z)
        refine x_lload dX2_bestWord_68 rfl rfl ?_
        refine x_lload_n (i := 2) dX2_bestWord_70 rfl rfl rfl ?_
        refine x_lcmp dX2_bestWord_71 rfl ?_
        refine x_if_ne (tgt := 91) dX2_bestWord_72 rfl rfl (fun c72 => ?_) (fun c72 => ?_)
        · refine x_iinc dX2_bestWord_91 rfl rfl (inc1 _) ?_
          refine x_goto (tgt := 31) dX2_bestWord_94 rfl ?_
          rw [no (fun z => z.elim nlt (fun q => c72 ((lg_cmp_eq _ _).mpr q.1)))] at ih2
          exact x_to ih2 ⟨rfl, rfl, rfl, rfl, rfl, trivial⟩
        · refine x_aload_n (i := 0) dX2_bestWord_75 rfl rfl rfl ?_
          refine x_iload dX2_bestWord_76 rfl rfl ?_
          refine x_iload_n (i := 1) dX2_bestWord_78 rfl rfl rfl ?_
          refine x_callV0 (ci := 2) (b := 14) (As := [_, _]) (d2 := d - 1) dX2_bestWord_79 rfl kX2_78 okX2_isListedAhead (hC.o rfl) (fun q hq => by cases hq; rfl) (by omega) rfl rfl (Nat.le_of_ble_eq_true rfl) (c_isListedAhead hC hw hbw (fun z => ?_) (fun z => ?_))
          · refine x_if_eq_f (tgt := 91) dX2_bestWord_82 rfl rfl nb1 ?_
            refine x_iload dX2_bestWord_85 rfl rfl ?_
            refine x_istore_n (i := 1) dX2_bestWord_87 rfl rfl (by decide) ?_
            refine x_lload dX2_bestWord_88 rfl rfl ?_
            refine x_lstore_n (i := 2) dX2_bestWord_90 rfl rfl (by decide) ?_
            refine x_iinc dX2_bestWord_91 rfl rfl (inc1 _) ?_
            refine x_goto (tgt := 31) dX2_bestWord_94 rfl ?_
            rw [yes (Or.inr ⟨(lg_cmp_eq _ _).mp c72, z⟩)] at ih2
            exact x_to ih2 ⟨rfl, rfl, rfl, rfl, rfl, trivial⟩
          · refine x_if_eq_t (tgt := 91) dX2_bestWord_82 rfl nI_0 ?_
            refine x_iinc dX2_bestWord_91 rfl rfl (inc1 _) ?_
            refine x_goto (tgt := 31) dX2_bestWord_94 rfl ?_
            rw [no (fun y => y.elim nlt (fun q => z q.2))] at ih2
            exact x_to ih2 ⟨rfl, rfl, rfl, rfl, rfl, trivial⟩) 1 hm1 (Nat.le_refl 1)
  exact x_to key ⟨rfl, rfl, rfl, rfl, rfl, trivial⟩
/-- the nearest, wide -/
noncomputable def zNb (o : Nat) (x : Nat → Int64) (n : Int64) : Nat := zBw o (fun p j => zMs p (x j) n) (fun p j => zNr p (x j) n) (mwN o - 1)
noncomputable def zNst (o : Nat) (x : Nat → Int64) (n : Int64) : Nat → Int64 := fun j => zNr (zNb o x n / 2 ^ j % 2) (x j) n
theorem c_layNearest {t a o : Nat} {x : Nat → Int64} {n : Int64} (hd : 3 ≤ d) (hC : Cs h) (ho : hOrd h o) (ho8 : o < 8) (ht : csV t) (ha : h.1 a = (1, 8, xJ x)) (han : a ∉ [16, 17, 19, 20, 21]) (hn1 : (1 : Int64) ≤ n) (hn2 : ¬ 2 * n = 0)
    (Kt : zIn (zNst o x n) → ∀ h2, Cs h2 → xSm [16, 17, 19, 20, 21, t] h h2 → iv h2 t = zNar (zNst o x n) → Q (some (.int (nI 1))) h2)
    (Kf : ¬ zIn (zNst o x n) → ∀ h2, Cs h2 → xSm [16, 17, 19, 20, 21] h h2 → Q (some (.int (nI 0))) h2) : xCt G l mX2_layNearest d [.ref 14, .ref t, .ref a, .long n] h 0 0 Q := by
  refine xCt_of (by decide) (Nat.le_of_ble_eq_true rfl) ?_
  refine x_lload_n (i := 3) dX2_layNearest_0 rfl rfl rfl ?_
  refine x_lconst dX2_layNearest_1 rfl lC_1 ?_
  refine x_lcmp dX2_layNearest_2 rfl ?_
  refine x_if_ge_t (tgt := 8) dX2_layNearest_3 rfl ((lg_cmp_ge _ _).mpr hn1) ?_
  refine x_iconst dX2_layNearest_8 rfl iC_0 ?_
  refine x_istore dX2_layNearest_9 rfl (by decide) ?_
  have t1 : t ≠ 111 := csV_ne ht (q := (0, 64)) rfl (by decide)
  have tS : t ∉ [16, 17, 19, 20, 21] := by
    have q1 : t ≠ 16 := csV_ne ht (q := (1, 8)) rfl (by decide)
    have q2 : t ≠ 17 := csV_ne ht (q := (1, 8)) rfl (by decide)
    have q3 : t ≠ 19 := csV_ne ht (q := (1, 8)) rfl (by decide)
    have q4 : t ≠ 20 := csV_ne ht (q := (1, 8)) rfl (by decide)
    have q5 : t ≠ 21 := csV_ne ht (q := (1, 8)) rfl (by decide)
    simp
    omega
  have key := xloop (P := fun i => ∀ h1, Cs h1 → xSm [16, 17, 19, 20] h h1 → (∀ p, p < 2 → ∀ j, j < i → hNr h1 p j = zNr p (x j) n ∧ hMs h1 p j = zMs p (x j) n) → xWP G l mX2_layNearest d (zM G Q) 0 0 11 (xls [(0, .ref 14), (1, .ref t), (2, .ref a), (3, .long n), (5, .int (nI i))]) [] h1) 8 (by
    intro i hi ih h1 hC hS hj
    have ha1 : h1.1 a = (1, 8, xJ x) := (hS.2 a (fun q => han (by simp at q ⊢; omega))).trans ha
    have ho1 : hOrd h1 o := by unfold hOrd; rw [hS.2 14 (by decide)]; exact ho
    refine x_iload dX2_layNearest_11 rfl rfl ?_
    refine x_bipush dX2_layNearest_13 rfl bC_8 ?_
    refine x_jc_ge (tgt := 48) dX2_layNearest_15 rfl rfl (by omega) (by omega) (fun c15 => ?_) (fun c15 => ?_)
    · refine x_aload_n (i := 0) dX2_layNearest_48 rfl rfl rfl ?_
      refine x_callV0 (ci := 2) (b := 14) (As := []) (d2 := d - 1) dX2_layNearest_49 rfl kX2_58 okX2_bestWord (hC.o rfl) (fun q hq => by cases hq; rfl) (by omega) rfl rfl (Nat.le_of_ble_eq_true rfl) (c_bestWord (by omega) hC ho1 ho8 ?_)
      have eb : zBw o (hMs h1) (hNr h1) (mwN o - 1) = zNb o x n := zBw_cong (fun p hp j h8 => (hj p hp j (by omega)).2) (fun p hp j h8 => (hj p hp j (by omega)).1) _
      rw [eb]
      have hb256 : zNb o x n < 256 := zBw_lt ho8 _ _ _ (by have := mw_le o; omega)
      have v21 := hC.j (a := 21) rfl
      refine x_istore dX2_layNearest_52 rfl (by decide) ?_
      refine x_iconst dX2_layNearest_54 rfl iC_0 ?_
      refine x_istore dX2_layNearest_55 rfl (by decide) ?_
      have key2 := xloop (P := fun i => xWP G l mX2_layNearest d (zM G Q) 0 0 57 (xls [(0, .ref 14), (1, .ref t), (2, .ref a), (3, .long n), (5, .int (nI (zNb o x n))), (6, .int (nI i))]) [] (hs h1 21 (1, 8, xJ (xF (zNst o x n) (jv h1 21) i)))) 8 (by
        intro i hi ih
        have hC1 := hC.setJ (f := xF (zNst o x n) (jv h1 21) i) v21
        refine x_iload dX2_layNearest_57 rfl rfl ?_
        refine x_bipush dX2_layNearest_59 rfl bC_8 ?_
        refine x_jc_ge (tgt := 92) dX2_layNearest_61 rfl rfl (by omega) (by omega) (fun c61 => ?_) (fun c61 => ?_)
        · obtain rfl : i = 8 := by omega
          refine x_topJ (f2 := zNst o x n) (fun j hj => if_pos hj) (by decide) ?_
          have hC2 := hC.setJ (f := zNst o x n) v21
          have vt := hs_ne (c := (1, 8, xJ (zNst o x n))) (show t ≠ 21 by intro e; exact tS (by rw [e]; decide)) (hC.v ht)
          refine x_aload_n (i := 1) dX2_layNearest_92 rfl rfl rfl ?_
          refine x_aload_n (i := 0) dX2_layNearest_93 rfl rfl rfl ?_
          refine x_getC dX2_layNearest_94 rfl fX2_23 hC2 rfl F_14_3 ?_
          refine x_callS0 (As := [_, _]) (d2 := d - 1) dX2_layNearest_97 rfl kX2_62 okX5_layIfWithin (by omega) rfl rfl (Nat.le_of_ble_eq_true rfl) (c_layIfWithin vt hs_eq (fun z => ?_) (fun z => ?_))
          · refine x_ireturn dX2_layNearest_100 rfl rfl ?_
            exact Kt z _ (hC2.setI vt (Or.inl rfl) t1) ((hS.tr xSm.hs2).sub (by simp)) iv_hs
          · refine x_ireturn dX2_layNearest_100 rfl rfl ?_
            exact Kf z _ hC2 ((hS.tr xSm.hs1).sub (by simp))
        · have hb2 : zNb o x n / 2 ^ i % 2 < 2 := Nat.mod_lt _ (by decide)
          have v2 := hs_ne (c := (1, 8, xJ (xF (zNst o x n) (jv h1 21) i))) (show 16 + zNb o x n / 2 ^ i % 2 ≠ 21 by omega) (hC.j (csT_near hb2).1)
          have e5 : jv h1 (16 + zNb o x n / 2 ^ i % 2) i = zNst o x n i := (hj _ hb2 i (by omega)).1
          refine x_aload_n (i := 0) dX2_layNearest_64 rfl rfl rfl ?_
          refine x_getC dX2_layNearest_65 rfl fX2_23 hC1 rfl F_14_3 ?_
          refine x_iload dX2_layNearest_68 rfl rfl ?_
          refine x_aload_n (i := 0) dX2_layNearest_70 rfl rfl rfl ?_
          refine x_getC dX2_layNearest_71 rfl fX2_17 hC1 rfl F_14_1 ?_
          refine x_iload dX2_layNearest_74 rfl rfl ?_
          refine x_iload dX2_layNearest_76 rfl rfl ?_
          refine x_ishr dX2_layNearest_78 rfl ?_
          refine x_iconst dX2_layNearest_79 rfl iC_1 ?_
          refine x_iand dX2_layNearest_80 rfl ?_
          rw [bit_eq _ hb256 i c61]
          refine x_aaldC (t := 1) dX2_layNearest_81 rfl hC1 rfl (by decide) rfl (by omega) (by decide) (csF_near hb2) ?_
          refine x_iload dX2_layNearest_82 rfl rfl ?_
          refine x_lald dX2_layNearest_84 rfl v2 rfl (by omega) (by decide) ?_
          rw [e5]
          refine x_lastT dX2_layNearest_85 rfl rfl (by omega) (by decide) ?_
          rw [xF_updL (zNst o x n)]
          refine x_iinc dX2_layNearest_86 rfl rfl (inc1 _) ?_
          refine x_goto (tgt := 57) dX2_layNearest_89 rfl ?_
          exact x_to (ih c61) ⟨rfl, rfl, rfl, rfl, rfl, rfl, trivial⟩) 0 (Nat.zero_le _)
      rw [xF_0, hs_self v21] at key2
      exact x_to key2 ⟨rfl, rfl, rfl, rfl, rfl, rfl, trivial⟩
    · refine x_aload_n (i := 0) dX2_layNearest_18 rfl rfl rfl ?_
      refine x_iconst dX2_layNearest_19 rfl iC_0 ?_
      refine x_iload dX2_layNearest_20 rfl rfl ?_
      refine x_aload_n (i := 2) dX2_layNearest_22 rfl rfl rfl ?_
      refine x_iload dX2_layNearest_23 rfl rfl ?_
      refine x_lald dX2_layNearest_25 rfl (by first | assumption | exact hs_eq | exact hs_ne (by first | assumption | decide | omega) (by first | assumption | exact hs_eq | exact hs_ne (by first | assumption | decide | omega) (by first | assumption | exact hs_eq | exact hs_ne (by first | assumption | decide | omega) (by assumption)))) rfl (by omega) (by decide) ?_
      refine x_lload_n (i := 3) dX2_layNearest_26 rfl rfl rfl ?_
      refine x_callV0 (ci := 2) (b := 14) (As := [_, _, _, _]) (d2 := d - 1) dX2_layNearest_27 rfl kX2_54 okX2_findNear (hC.o rfl) (fun q hq => by cases hq; rfl) (by omega) rfl rfl (Nat.le_of_ble_eq_true rfl) (c_findNear (by omega) hC (p := 0) (by decide) c15 hn2 (fun h2 hC2 hS2 e1 e2 => ?_))
      have ha2 : h2.1 a = (1, 8, xJ x) := (hS2.2 a (fun q => han (by simp at q ⊢; omega))).trans ha1
      have hC := hC2
      refine x_aload_n (i := 0) dX2_layNearest_30 rfl rfl rfl ?_
      refine x_iconst dX2_layNearest_31 rfl iC_1 ?_
      refine x_iload dX2_layNearest_32 rfl rfl ?_
      refine x_aload_n (i := 2) dX2_layNearest_34 rfl rfl rfl ?_
      refine x_iload dX2_layNearest_35 rfl rfl ?_
      refine x_lald dX2_layNearest_37 rfl (by first | assumption | exact hs_eq | exact hs_ne (by first | assumption | decide | omega) (by first | assumption | exact hs_eq | exact hs_ne (by first | assumption | decide | omega) (by first | assumption | exact hs_eq | exact hs_ne (by first | assumption | decide | omega) (by assumption)))) rfl (by omega) (by decide) ?_
      refine x_lload_n (i := 3) dX2_layNearest_38 rfl rfl rfl ?_
      refine x_callV0 (ci := 2) (b := 14) (As := [_, _, _, _]) (d2 := d - 1) dX2_layNearest_39 rfl kX2_54 okX2_findNear (hC.o rfl) (fun q hq => by cases hq; rfl) (by omega) rfl rfl (Nat.le_of_ble_eq_true rfl) (c_findNear (by omega) hC (p := 1) (by decide) c15 hn2 (fun h3 hC3 hS3 e3 e4 => ?_))
      refine x_iinc dX2_layNearest_42 rfl rfl (inc1 _) ?_
      refine x_goto (tgt := 11) dX2_layNearest_45 rfl ?_
      refine x_to (ih c15 h3 hC3 ((hS.tr (hS2.tr hS3)).sub (by simp)) (fun p hp j hj2 => ?_)) ⟨rfl, rfl, rfl, rfl, rfl, trivial⟩
      have f1 : jv h3 16 = vp_updL (jv h1 16) i (zNr 0 (x i) n) := (hS3.jv (by decide)).trans e1
      have f2 : jv h3 19 = vp_updL (jv h1 19) i (zMs 0 (x i) n) := (hS3.jv (by decide)).trans e2
      have f3 : jv h3 17 = vp_updL (jv h1 17) i (zNr 1 (x i) n) := e3.trans (by rw [show jv h2 (16 + 1) = jv h1 17 from hS2.jv (by decide)])
      have f4 : jv h3 20 = vp_updL (jv h1 20) i (zMs 1 (x i) n) := e4.trans (by rw [show jv h2 (19 + 1) = jv h1 20 from hS2.jv (by decide)])
      have step : ∀ (w : Nat → Int64) (y z : Int64), (j < i → w j = z) → (j = i → y = z) → vp_updL w i y j = z := by
        intro w y z q1 q2
        unfold vp_updL
        by_cases e : j = i
        · rw [if_pos e]; exact q2 e
        · rw [if_neg e]; exact q1 (by omega)
      rcases (show p = 0 ∨ p = 1 by omega) with rfl | rfl
      · show jv h3 16 j = _ ∧ jv h3 19 j = _
        rw [f1, f2]
        exact ⟨step _ _ _ (fun q => (hj 0 (by decide) j q).1) (fun q => by rw [q]), step _ _ _ (fun q => (hj 0 (by decide) j q).2) (fun q => by rw [q])⟩
      · show jv h3 17 j = _ ∧ jv h3 20 j = _
        rw [f3, f4]
        exact ⟨step _ _ _ (fun q => (hj 1 (by decide) j q).1) (fun q => by rw [q]), step _ _ _ (fun q => (hj 1 (by decide) j q).2) (fun q => by rw [q])⟩) 0 (Nat.zero_le _)
  exact x_to (key h hC (xSm.rf.sub (by simp)) (fun p hp j hj => absurd hj (Nat.not_lt_zero j))) ⟨rfl, rfl, rfl, rfl, rfl, trivial⟩
end NR2

