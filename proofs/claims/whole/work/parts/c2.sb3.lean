/-! THE BUILDER: a number is added -/
theorem ng_toInt {s : Nat} (hs : s < 1000000000) : (-(nI s)).toInt = -(s : Int) := by
  rw [fb_negI (by rw [nI_toInt (by omega)]; omega), nI_toInt (by omega)]
theorem ng_le {s p : Nat} (hs : s < 1000000000) (hp : p < 1000000000) : -(nI s) ≤ -(nI p) ↔ p ≤ s := by
  rw [Int32.le_iff_toInt_le, ng_toInt hs, ng_toInt hp]
  omega
theorem ng_div {s : Nat} (hs : s < 1000000000) : -(nI s) / nI 100 = -(nI (s / 100)) := by
  have h1 : s / 100 ≤ s := Nat.div_le_self _ _
  apply Int32.toInt_inj.mp
  rw [Int32.toInt_div, ng_toInt hs, ng_toInt (by omega), nI_toInt (by decide), Int.neg_tdiv, fb_bmod]
  · show -((s : Int).tdiv ((100 : Nat) : Int)) = -((s / 100 : Nat) : Int)
    rw [← Int.ofNat_tdiv]
  · rw [← Int.ofNat_tdiv]
    omega
  · rw [← Int.ofNat_tdiv]
    omega
/-- the last k digits of s, written ahead of idx -/
def wrD (g : Nat → Int32) (idx s : Nat) : Nat → Nat → Int32
  | 0 => g
  | k + 1 => upd (wrD g idx s k) (idx - (k + 1)) (nI (48 + s / 10 ^ k % 10))
theorem wrD_at (g : Nat → Int32) (idx s : Nat) : ∀ k, k ≤ idx → ∀ j, wrD g idx s k j = if idx - k ≤ j ∧ j < idx then nI (48 + s / 10 ^ (idx - 1 - j) % 10) else g j
  | 0, _, j => by
    rw [if_neg (by omega)]
    rfl
  | k + 1, hk, j => by
    show (if j = idx - (k + 1) then _ else wrD g idx s k j) = _
    by_cases e : j = idx - (k + 1)
    · rw [if_pos e, if_pos (by omega), show idx - 1 - j = k by omega]
    · rw [if_neg e, wrD_at g idx s k (by omega) j]
      by_cases e2 : idx - k ≤ j ∧ j < idx
      · rw [if_pos e2, if_pos (by omega)]
      · rw [if_neg e2, if_neg (by omega)]
theorem dcs_ln (s : Nat) (hs : s ≤ 20000) : (dcs s).length = if s < 10 then 1 else if s < 100 then 2 else if s < 1000 then 3 else if s < 10000 then 4 else 5 := by
  unfold dcs
  repeat' split
  all_goals first | rfl | (exfalso; omega)
theorem dcs_at (s : Nat) (hs : s ≤ 20000) {j : Nat} (hj : j < (dcs s).length) : (dcs s).getD j 0 = 48 + s / 10 ^ ((dcs s).length - 1 - j) % 10 := by
  rw [dcs_ln s hs] at hj ⊢
  unfold dcs
  by_cases c1 : s < 10
  · rw [if_pos c1] at hj ⊢
    rw [if_pos c1]
    match j, hj with
    | 0, _ => show 48 + s = 48 + s / 1 % 10; omega
  rw [if_neg c1] at hj ⊢
  rw [if_neg c1]
  by_cases c2 : s < 100
  · rw [if_pos c2] at hj ⊢
    rw [if_pos c2]
    match j, hj with
    | 0, _ => show 48 + s / 10 = 48 + s / 10 % 10; omega
    | 1, _ => show 48 + s % 10 = 48 + s / 1 % 10; omega
  rw [if_neg c2] at hj ⊢
  rw [if_neg c2]
  by_cases c3 : s < 1000
  · rw [if_pos c3] at hj ⊢
    rw [if_pos c3]
    match j, hj with
    | 0, _ => show 48 + s / 100 = 48 + s / 100 % 10; omega
    | 1, _ => show 48 + s / 10 % 10 = 48 + s / 10 % 10; rfl
    | 2, _ => show 48 + s % 10 = 48 + s / 1 % 10; omega
  rw [if_neg c3] at hj ⊢
  rw [if_neg c3]
  by_cases c4 : s < 10000
  · rw [if_pos c4] at hj ⊢
    rw [if_pos c4]
    match j, hj with
    | 0, _ => show 48 + s / 1000 = 48 + s / 1000 % 10; omega
    | 1, _ => show 48 + s / 100 % 10 = 48 + s / 100 % 10; rfl
    | 2, _ => show 48 + s / 10 % 10 = 48 + s / 10 % 10; rfl
    | 3, _ => show 48 + s % 10 = 48 + s / 1 % 10; omega
  rw [if_neg c4] at hj ⊢
  rw [if_neg c4]
  match j, hj with
  | 0, _ => show 48 + s / 10000 = 48 + s / 10000 % 10; omega
  | 1, _ => show 48 + s / 1000 % 10 = 48 + s / 1000 % 10; rfl
  | 2, _ => show 48 + s / 100 % 10 = 48 + s / 100 % 10; rfl
  | 3, _ => show 48 + s / 10 % 10 = 48 + s / 10 % 10; rfl
  | 4, _ => show 48 + s % 10 = 48 + s / 1 % 10; omega
theorem dcs_128 (s : Nat) (hs : s ≤ 20000) : ∀ j, (dcs s).getD j 0 < 128 := by
  intro j
  rcases Nat.lt_or_ge j (dcs s).length with z | z
  · rw [dcs_at s hs z]
    omega
  · rw [List.getD_eq_getElem?_getD, List.getElem?_eq_none z]
    decide
section SBC
variable {G : xG} {l : Launch} {d : Nat} {h : xH} {Q : Option Value → xH → Prop} {v N : Nat} {T : List Nat}
theorem c_ss {s : Nat} (hs : s ≤ 20000) (K : Q (some (.int (nI (dcs s).length))) h) : xCt G l mJ6_stringSize_0f7a4 d [.int (nI s)] h 0 0 Q := by
  rw [dcs_ln s hs] at K
  refine xCt_ofF (by decide +kernel) (Nat.le_of_ble_eq_true rfl) ?_
  have nn : ¬ nI s < 0 := nI_pos (by omega)
  have up : ∀ p i, p ≤ 100000 → i < 10 → (s < p → Q (some (.int (nI i))) h) → (p ≤ s → xWP G l mJ6_stringSize_0f7a4 d (zM G Q) 0 0 16 (xls [(0, .int (-(nI s))), (1, .int (nI 0)), (2, .int (-(nI (10 * p)))), (3, .int (nI (i + 1)))]) [] h) → xWP G l mJ6_stringSize_0f7a4 d (zM G Q) 0 0 16 (xls [(0, .int (-(nI s))), (1, .int (nI 0)), (2, .int (-(nI p))), (3, .int (nI i))]) [] h := by
    intro p i hp hi k1 k2
    refine x_iload_n (i := 3) dJ6_stringSize_0f7a4_16 rfl rfl rfl ?_
    refine x_bipush dJ6_stringSize_0f7a4_17 rfl bC_10 ?_
    refine x_jc_ge (tgt := 42) dJ6_stringSize_0f7a4_19 rfl rfl (by omega) (by omega) (fun c19 => ?_) (fun c19 => ?_)
    · exfalso
      omega
    refine x_iload_n (i := 0) dJ6_stringSize_0f7a4_22 rfl rfl rfl ?_
    refine x_iload_n (i := 2) dJ6_stringSize_0f7a4_23 rfl rfl rfl ?_
    refine x_ic_le (tgt := 31) dJ6_stringSize_0f7a4_24 rfl rfl (fun c24 => ?_) (fun c24 => ?_)
    · have c := (ng_le (by omega) (by omega)).mp c24
      refine x_bipush dJ6_stringSize_0f7a4_31 rfl bC_10 ?_
      refine x_iload_n (i := 2) dJ6_stringSize_0f7a4_33 rfl rfl rfl ?_
      refine x_imul dJ6_stringSize_0f7a4_34 rfl ?_
      rw [show nI 10 * -(nI p) = -(nI (10 * p)) by rw [Int32.mul_neg, nI_mul8]]
      refine x_istore_n (i := 2) dJ6_stringSize_0f7a4_35 rfl rfl (by decide) ?_
      refine x_iinc dJ6_stringSize_0f7a4_36 rfl rfl (inc1 _) ?_
      refine x_goto (tgt := 16) dJ6_stringSize_0f7a4_39 rfl ?_
      exact x_to (k2 c) ⟨rfl, rfl, rfl, rfl, trivial⟩
    · have c : s < p := Nat.lt_of_not_le (fun q => c24 ((ng_le (by omega) (by omega)).mpr q))
      refine x_iload_n (i := 3) dJ6_stringSize_0f7a4_27 rfl rfl rfl ?_
      refine x_iload_n (i := 1) dJ6_stringSize_0f7a4_28 rfl rfl rfl ?_
      refine x_iadd dJ6_stringSize_0f7a4_29 rfl ?_
      rw [show nI i + nI 0 = nI i from nI_add _ _]
      refine x_ireturn dJ6_stringSize_0f7a4_30 rfl rfl ?_
      exact k1 c
  refine x_iconst dJ6_stringSize_0f7a4_0 rfl iC_1 ?_
  refine x_istore_n (i := 1) dJ6_stringSize_0f7a4_1 rfl rfl (by decide) ?_
  refine x_iload_n (i := 0) dJ6_stringSize_0f7a4_2 rfl rfl rfl ?_
  refine x_if_lt_f (tgt := 11) dJ6_stringSize_0f7a4_3 rfl rfl nn ?_
  refine x_iconst dJ6_stringSize_0f7a4_6 rfl iC_0 ?_
  refine x_istore_n (i := 1) dJ6_stringSize_0f7a4_7 rfl rfl (by decide) ?_
  refine x_iload_n (i := 0) dJ6_stringSize_0f7a4_8 rfl rfl rfl ?_
  refine x_ineg dJ6_stringSize_0f7a4_9 rfl ?_
  refine x_istore_n (i := 0) dJ6_stringSize_0f7a4_10 rfl rfl (by decide) ?_
  refine x_bipush dJ6_stringSize_0f7a4_11 rfl bC_m10 ?_
  refine x_istore_n (i := 2) dJ6_stringSize_0f7a4_13 rfl rfl (by decide) ?_
  refine x_iconst dJ6_stringSize_0f7a4_14 rfl iC_1 ?_
  refine x_istore_n (i := 3) dJ6_stringSize_0f7a4_15 rfl rfl (by decide) ?_
  rw [show (-10 : Int32) = -(nI 10) by decide]
  refine x_to (up 10 1 (by decide) (by decide) (fun q => ?_) (fun q => ?_)) ⟨rfl, rfl, rfl, rfl, trivial⟩
  · rw [if_pos q] at K
    exact K
  rw [if_neg (by omega)] at K
  refine up 100 2 (by decide) (by decide) (fun q => ?_) (fun q => ?_)
  · rw [if_pos q] at K
    exact K
  rw [if_neg (by omega)] at K
  refine up 1000 3 (by decide) (by decide) (fun q => ?_) (fun q => ?_)
  · rw [if_pos q] at K
    exact K
  rw [if_neg (by omega)] at K
  refine up 10000 4 (by decide) (by decide) (fun q => ?_) (fun q => ?_)
  · rw [if_pos q] at K
    exact K
  rw [if_neg (by omega)] at K
  refine up 100000 5 (by decide) (by decide) (fun q => ?_) (fun q => ?_)
  · exact K
  · exfalso
    omega
theorem c_gc {s idx : Nat} {g : Nat → Int32} (hs2 : s ≤ 20000) (hv : h.1 v = (3, N, xI g)) (hi : (dcs s).length ≤ idx) (hN : idx ≤ N) (hN2 : N ≤ 100000) (K : ∀ r, Q (some (.int r)) (hs h v (3, N, xI (wrD g idx s (dcs s).length)))) : xCt G l mJ6_getChars_ba4f3 d [.int (nI s), .int (nI idx), .ref v] h 0 0 Q := by
  have dl := dcs_ln s hs2
  have dl0 := dcs_len s
  refine xCt_ofF (by decide +kernel) (Nat.le_of_ble_eq_true rfl) ?_
  have nn : 0 ≤ nI s := Int32.not_lt.mp (nI_pos (by omega))
  have on : ∀ i2, i2 < 100 → ∀ (u : Nat → Int32), True := fun _ _ _ => trivial
  -- one step of the loop
  have step : ∀ k, k + 2 ≤ idx → 100 ≤ s / 10 ^ k → xWP G l mJ6_getChars_ba4f3 d (zM G Q) 0 0 22 (xls [(0, .int (-(nI (s / 10 ^ (k + 2))))), (2, .ref v), (5, .int (nI (idx - (k + 2)))), (6, .int (nI 0))]) [] (hs h v (3, N, xI (wrD g idx s (k + 2)))) → xWP G l mJ6_getChars_ba4f3 d (zM G Q) 0 0 22 (xls [(0, .int (-(nI (s / 10 ^ k)))), (2, .ref v), (5, .int (nI (idx - k))), (6, .int (nI 0))]) [] (hs h v (3, N, xI (wrD g idx s k))) := by
    intro k hk hz kk
    have zle : s / 10 ^ k ≤ s := Nat.div_le_self _ _
    have e2 : s / 10 ^ k / 100 = s / 10 ^ (k + 2) := by rw [Nat.div_div_eq_div_mul, Nat.pow_add]
    have e1 : s / 10 ^ k / 10 = s / 10 ^ (k + 1) := by rw [Nat.div_div_eq_div_mul, Nat.pow_succ]
    have w1 : wrD g idx s (k + 1) = upd (wrD g idx s k) (idx - (k + 1)) (nI (48 + s / 10 ^ k % 10)) := rfl
    have w2 : wrD g idx s (k + 2) = upd (wrD g idx s (k + 1)) (idx - (k + 2)) (nI (48 + s / 10 ^ (k + 1) % 10)) := rfl
    rw [← e1] at w2
    rw [← e2] at kk
    generalize s / 10 ^ k = z at *
    have br : ¬ (-100 : Int32) < -(nI z) := by
      rw [show (-100 : Int32) = -(nI 100) by decide]
      exact Int32.not_lt.mpr ((ng_le (by omega) (by decide)).mpr hz)
    refine x_iload_n (i := 0) dJ6_getChars_ba4f3_22 rfl rfl rfl ?_
    refine x_bipush dJ6_getChars_ba4f3_23 rfl bC_m100 ?_
    refine x_ic_gt_f (tgt := 72) dJ6_getChars_ba4f3_25 rfl rfl br ?_
    refine x_iload_n (i := 0) dJ6_getChars_ba4f3_28 rfl rfl rfl ?_
    refine x_bipush dJ6_getChars_ba4f3_29 rfl bC_100 ?_
    refine x_idiv dJ6_getChars_ba4f3_31 rfl (by decide) ?_
    rw [ng_div (by omega)]
    refine x_istore_n (i := 3) dJ6_getChars_ba4f3_32 rfl rfl (by decide) ?_
    refine x_iload_n (i := 3) dJ6_getChars_ba4f3_33 rfl rfl rfl ?_
    refine x_bipush dJ6_getChars_ba4f3_34 rfl bC_100 ?_
    refine x_imul dJ6_getChars_ba4f3_36 rfl ?_
    refine x_iload_n (i := 0) dJ6_getChars_ba4f3_37 rfl rfl rfl ?_
    refine x_isub dJ6_getChars_ba4f3_38 rfl ?_
    have er : -(nI (z / 100)) * nI 100 - -(nI z) = nI (z % 100) := by
      have h1 : z / 100 ≤ z := Nat.div_le_self _ _
      have m1 : (-(nI (z / 100)) * nI 100).toInt = -((z / 100 : Nat) : Int) * 100 := by
        rw [fb_mulI, ng_toInt (by omega), nI_toInt (by decide)]
        · rfl
        · rw [ng_toInt (by omega), nI_toInt (by decide)]
          omega
        · rw [ng_toInt (by omega), nI_toInt (by decide)]
          omega
      apply Int32.toInt_inj.mp
      rw [fb_subI, m1, ng_toInt (by omega), nI_toInt (by omega)]
      · omega
      · rw [m1, ng_toInt (by omega)]
        omega
      · rw [m1, ng_toInt (by omega)]
        omega
    rw [er]
    have i1 : nI (idx - k) + Int32.ofInt (-1) = nI (idx - (k + 1)) := by
      rw [show Int32.ofInt (-1) = -(nI 1) by decide, ← Int32.sub_eq_add_neg, pk_sub (by omega)]
      congr 1
    have i2 : nI (idx - (k + 1)) + Int32.ofInt (-1) = nI (idx - (k + 2)) := by
      rw [show Int32.ofInt (-1) = -(nI 1) by decide, ← Int32.sub_eq_add_neg, pk_sub (by omega)]
      congr 1
    obtain ⟨p1, p2, p3⟩ := by_id (c := 48 + z % 10) (by omega)
    obtain ⟨q1, q2, q3⟩ := by_id (c := 48 + z / 10 % 10) (by omega)
    refine x_istore dJ6_getChars_ba4f3_39 rfl (by decide) ?_
    refine x_iload_n (i := 3) dJ6_getChars_ba4f3_41 rfl rfl rfl ?_
    refine x_istore_n (i := 0) dJ6_getChars_ba4f3_42 rfl rfl (by decide) ?_
    refine x_aload_n (i := 2) dJ6_getChars_ba4f3_43 rfl rfl rfl ?_
    refine x_iinc dJ6_getChars_ba4f3_44 rfl rfl i1 ?_
    refine x_iload dJ6_getChars_ba4f3_47 rfl rfl ?_
    refine x_getZ (v := .ref (1000000 + 4)) dJ6_getChars_ba4f3_49 rfl tJ6_83 (fun s hs => by rw [xtv_st]; exact hs.2.2.2.2.2.2.2.1.1) ?_
    refine x_iload dJ6_getChars_ba4f3_52 rfl rfl ?_
    refine x_sbald (N := 100) (i2 := z % 100) (x := nI (48 + z % 10)) dJ6_getChars_ba4f3_54 rfl (fun s hs => hs.2.2.2.2.2.2.2.1.2) rfl (by omega) (by decide) (by show Value.int (nI (48 + z % 100 % 10)) = _; rw [show z % 100 % 10 = z % 10 by omega]) ?_
    refine x_bast (N := N) (j := idx - (k + 1)) (g := wrD g idx s k) dJ6_getChars_ba4f3_55 rfl hs_eq rfl (by omega) (by omega) ?_
    rw [p1, ← w1, hs_hs]
    refine x_aload_n (i := 2) dJ6_getChars_ba4f3_56 rfl rfl rfl ?_
    refine x_iinc dJ6_getChars_ba4f3_57 rfl rfl i2 ?_
    refine x_iload dJ6_getChars_ba4f3_60 rfl rfl ?_
    refine x_getZ (v := .ref (1000000 + 5)) dJ6_getChars_ba4f3_62 rfl tJ6_87 (fun s hs => by rw [xtv_st]; exact hs.2.2.2.2.2.2.2.2.1.1) ?_
    refine x_iload dJ6_getChars_ba4f3_65 rfl rfl ?_
    refine x_sbald (N := 100) (i2 := z % 100) (x := nI (48 + z / 10 % 10)) dJ6_getChars_ba4f3_67 rfl (fun s hs => hs.2.2.2.2.2.2.2.2.1.2) rfl (by omega) (by decide) (by show Value.int (nI (48 + z % 100 / 10)) = _; rw [show z % 100 / 10 = z / 10 % 10 by omega]) ?_
    refine x_bast (N := N) (j := idx - (k + 2)) (g := wrD g idx s (k + 1)) dJ6_getChars_ba4f3_68 rfl hs_eq rfl (by omega) (by omega) ?_
    rw [q1, ← w2, hs_hs]
    refine x_goto (tgt := 22) dJ6_getChars_ba4f3_69 rfl ?_
    exact x_to kk ⟨rfl, rfl, rfl, rfl, trivial⟩
  -- the last one or two digits
  have last : ∀ k, k + 1 ≤ idx → s / 10 ^ k < 100 → (s / 10 ^ k ≤ 9 → (dcs s).length = k + 1) → (9 < s / 10 ^ k → (dcs s).length = k + 2) → xWP G l mJ6_getChars_ba4f3 d (zM G Q) 0 0 22 (xls [(0, .int (-(nI (s / 10 ^ k)))), (2, .ref v), (5, .int (nI (idx - k))), (6, .int (nI 0))]) [] (hs h v (3, N, xI (wrD g idx s k))) := by
    intro k hk hz l1 l2
    have e1 : s / 10 ^ k / 10 = s / 10 ^ (k + 1) := by rw [Nat.div_div_eq_div_mul, Nat.pow_succ]
    have w1 : wrD g idx s (k + 1) = upd (wrD g idx s k) (idx - (k + 1)) (nI (48 + s / 10 ^ k % 10)) := rfl
    have w2 : wrD g idx s (k + 2) = upd (wrD g idx s (k + 1)) (idx - (k + 2)) (nI (48 + s / 10 ^ (k + 1) % 10)) := rfl
    rw [← e1] at w2
    generalize s / 10 ^ k = z at *
    have br : (-100 : Int32) < -(nI z) := by
      rw [show (-100 : Int32) = -(nI 100) by decide]
      exact Int32.not_le.mp (fun q => by have := (ng_le (by omega) (by decide)).mp q; omega)
    have nz : - -(nI z) = nI z := Int32.neg_neg
    have i1 : nI (idx - k) + Int32.ofInt (-1) = nI (idx - (k + 1)) := by
      rw [show Int32.ofInt (-1) = -(nI 1) by decide, ← Int32.sub_eq_add_neg, pk_sub (by omega)]
      congr 1
    obtain ⟨p1, p2, p3⟩ := by_id (c := 48 + z % 10) (by omega)
    refine x_iload_n (i := 0) dJ6_getChars_ba4f3_22 rfl rfl rfl ?_
    refine x_bipush dJ6_getChars_ba4f3_23 rfl bC_m100 ?_
    refine x_ic_gt_t (tgt := 72) dJ6_getChars_ba4f3_25 rfl br ?_
    refine x_aload_n (i := 2) dJ6_getChars_ba4f3_72 rfl rfl rfl ?_
    refine x_iinc dJ6_getChars_ba4f3_73 rfl rfl i1 ?_
    refine x_iload dJ6_getChars_ba4f3_76 rfl rfl ?_
    refine x_getZ (v := .ref (1000000 + 4)) dJ6_getChars_ba4f3_78 rfl tJ6_83 (fun s hs => by rw [xtv_st]; exact hs.2.2.2.2.2.2.2.1.1) ?_
    refine x_iload_n (i := 0) dJ6_getChars_ba4f3_81 rfl rfl rfl ?_
    refine x_ineg dJ6_getChars_ba4f3_82 rfl ?_
    rw [nz]
    refine x_sbald (N := 100) (i2 := z) (x := nI (48 + z % 10)) dJ6_getChars_ba4f3_83 rfl (fun s hs => hs.2.2.2.2.2.2.2.1.2) rfl (by omega) (by decide) rfl ?_
    refine x_bast (N := N) (j := idx - (k + 1)) (g := wrD g idx s k) dJ6_getChars_ba4f3_84 rfl hs_eq rfl (by omega) (by omega) ?_
    rw [p1, ← w1, hs_hs]
    refine x_iload_n (i := 0) dJ6_getChars_ba4f3_85 rfl rfl rfl ?_
    refine x_bipush dJ6_getChars_ba4f3_86 rfl bC_m9 ?_
    refine x_ic_ge (tgt := 104) dJ6_getChars_ba4f3_88 rfl rfl (fun c88 => ?_) (fun c88 => ?_)
    · have c : z ≤ 9 := by
        rw [show (-9 : Int32) = -(nI 9) by decide] at c88
        exact (ng_le (by decide) (by omega)).mp c88
      rw [← l1 c]
      refine x_iload dJ6_getChars_ba4f3_104 rfl rfl ?_
      refine x_if_eq_t (tgt := 118) dJ6_getChars_ba4f3_106 rfl nI_0 ?_
      refine x_iload dJ6_getChars_ba4f3_118 rfl rfl ?_
      refine x_ireturn dJ6_getChars_ba4f3_120 rfl rfl ?_
      exact K _
    · have c : 9 < z := Nat.lt_of_not_le (fun q => c88 (by
        rw [show (-9 : Int32) = -(nI 9) by decide]
        exact (ng_le (by decide) (by omega)).mpr q))
      have l2 := l2 c
      have i2 : nI (idx - (k + 1)) + Int32.ofInt (-1) = nI (idx - (k + 2)) := by
        rw [show Int32.ofInt (-1) = -(nI 1) by decide, ← Int32.sub_eq_add_neg, pk_sub (by omega)]
        congr 1
      obtain ⟨q1, q2, q3⟩ := by_id (c := 48 + z / 10) (by omega)
      refine x_aload_n (i := 2) dJ6_getChars_ba4f3_91 rfl rfl rfl ?_
      refine x_iinc dJ6_getChars_ba4f3_92 rfl rfl i2 ?_
      refine x_iload dJ6_getChars_ba4f3_95 rfl rfl ?_
      refine x_getZ (v := .ref (1000000 + 5)) dJ6_getChars_ba4f3_97 rfl tJ6_87 (fun s hs => by rw [xtv_st]; exact hs.2.2.2.2.2.2.2.2.1.1) ?_
      refine x_iload_n (i := 0) dJ6_getChars_ba4f3_100 rfl rfl rfl ?_
      refine x_ineg dJ6_getChars_ba4f3_101 rfl ?_
      rw [nz]
      refine x_sbald (N := 100) (i2 := z) (x := nI (48 + z / 10)) dJ6_getChars_ba4f3_102 rfl (fun s hs => hs.2.2.2.2.2.2.2.2.1.2) rfl (by omega) (by decide) rfl ?_
      refine x_bast (N := N) (j := idx - (k + 2)) (g := wrD g idx s (k + 1)) dJ6_getChars_ba4f3_103 rfl hs_eq rfl (by omega) (by omega) ?_
      rw [show z / 10 % 10 = z / 10 by omega] at w2
      rw [q1, ← w2, hs_hs, ← l2]
      refine x_iload dJ6_getChars_ba4f3_104 rfl rfl ?_
      refine x_if_eq_t (tgt := 118) dJ6_getChars_ba4f3_106 rfl nI_0 ?_
      refine x_iload dJ6_getChars_ba4f3_118 rfl rfl ?_
      refine x_ireturn dJ6_getChars_ba4f3_120 rfl rfl ?_
      exact K _
  have e0 : hs h v (3, N, xI (wrD g idx s 0)) = h := hs_self hv
  have start : xWP G l mJ6_getChars_ba4f3 d (zM G Q) 0 0 22 (xls [(0, .int (-(nI (s / 10 ^ 0)))), (2, .ref v), (5, .int (nI (idx - 0))), (6, .int (nI 0))]) [] (hs h v (3, N, xI (wrD g idx s 0))) := by
    have d0 : s / 10 ^ 0 = s := Nat.div_one s
    by_cases c1 : s < 100
    · refine last 0 (by omega) (by omega) (fun q => ?_) (fun q => ?_)
      · rw [dl, if_pos (by omega)]
      · rw [dl, if_neg (by omega), if_pos c1]
    have l3 : 3 ≤ (dcs s).length := by
      rw [dl, if_neg (by omega), if_neg c1]
      repeat' split
      all_goals decide
    refine step 0 (by omega) (by omega) ?_
    have d2 : s / 10 ^ (0 + 2) = s / 100 := rfl
    by_cases c2 : s < 10000
    · refine last 2 (by omega) (by omega) (fun q => ?_) (fun q => ?_)
      · rw [dl, if_neg (by omega), if_neg c1, if_pos (by omega)]
      · rw [dl, if_neg (by omega), if_neg c1, if_neg (by omega), if_pos c2]
    have l5 : (dcs s).length = 5 := by rw [dl, if_neg (by omega), if_neg c1, if_neg (by omega), if_neg c2]
    refine step 2 (by omega) (by omega) ?_
    have d4 : s / 10 ^ (2 + 2) = s / 10000 := rfl
    exact last 4 (by omega) (by omega) (fun q => l5) (fun q => by exfalso; omega)
  rw [e0, show s / 10 ^ 0 = s from Nat.div_one s, show idx - 0 = idx from rfl] at start
  refine x_iload_n (i := 1) dJ6_getChars_ba4f3_0 rfl rfl rfl ?_
  refine x_istore dJ6_getChars_ba4f3_1 rfl (by decide) ?_
  refine x_iload_n (i := 0) dJ6_getChars_ba4f3_3 rfl rfl rfl ?_
  refine x_if_ge_t (tgt := 11) dJ6_getChars_ba4f3_4 rfl nn ?_
  refine x_iconst dJ6_getChars_ba4f3_11 rfl iC_0 ?_
  refine x_istore dJ6_getChars_ba4f3_12 rfl (by decide) ?_
  refine x_iload dJ6_getChars_ba4f3_14 rfl rfl ?_
  refine x_if_ne_f (tgt := 22) dJ6_getChars_ba4f3_16 rfl rfl nI_0 ?_
  refine x_iload_n (i := 0) dJ6_getChars_ba4f3_19 rfl rfl rfl ?_
  refine x_ineg dJ6_getChars_ba4f3_20 rfl ?_
  refine x_istore_n (i := 0) dJ6_getChars_ba4f3_21 rfl rfl (by decide) ?_
  exact x_to start ⟨rfl, rfl, rfl, rfl, trivial⟩
theorem c_apI5 {s : Nat} (hd : 6 ≤ d) (hB : bB h v N T) (hs2 : s ≤ 20000) (hl : T.length + (dcs s).length ≤ 80) (K : ∀ h2 v2, bB h2 v2 (gN N (T.length + (dcs s).length)) (T ++ dcs s) → bF h v N h2 v2 (gN N (T.length + (dcs s).length)) → Q (some (.ref 104)) h2) : xCt G l mJ5_append_c97b9 d [.ref 104, .int (nI s)] h (gC N (T.length + (dcs s).length)) (gZ N (T.length + (dcs s).length)) Q := by
  have f3 := hB.2.1.2.2
  have nb := hB.2.2.2.2.1
  have dl := dcs_len s
  have gl := gN_le (N := N) (m := T.length + (dcs s).length) (by omega)
  refine xCt_ofF (by decide +kernel) (Nat.le_of_ble_eq_true rfl) ?_
  have hC := hB.1
  refine x_aload_n (i := 0) dJ5_append_c97b9_0 rfl rfl rfl ?_
  refine x_getM (a := 104) dJ5_append_c97b9_1 rfl fJ5_79 hC rfl f3 ?_
  refine x_istore_n (i := 2) dJ5_append_c97b9_4 rfl rfl (by decide) ?_
  refine x_iload_n (i := 2) dJ5_append_c97b9_5 rfl rfl rfl ?_
  refine x_iload_n (i := 1) dJ5_append_c97b9_6 rfl rfl rfl ?_
  refine x_callS0 (As := [_]) (d2 := d - 1) dJ5_append_c97b9_7 rfl kJ5_245 okJ6_stringSize_0f7a4 (by omega) rfl rfl (Nat.le_of_ble_eq_true rfl) (c_ss hs2 ?_)
  refine x_iadd dJ5_append_c97b9_10 rfl ?_
  rw [show nI T.length + nI (dcs s).length = nI (T.length + (dcs s).length) from nI_add _ _]
  refine x_istore_n (i := 3) dJ5_append_c97b9_11 rfl rfl (by decide) ?_
  refine x_aload_n (i := 0) dJ5_append_c97b9_12 rfl rfl rfl ?_
  refine x_iload_n (i := 3) dJ5_append_c97b9_13 rfl rfl rfl ?_
  refine x_callP (N := mJ5_ensureCapacityInternal_d00df) (ci := 13) (b := 104) (As := [_]) (d2 := d - 1) (mc2 := gC N (T.length + (dcs s).length)) (ms2 := gZ N (T.length + (dcs s).length)) (k2 := 0) (n2 := 0) dJ5_append_c97b9_14 rfl gJ5_100 obJ5_ensureCapacityInternal_d00df oiJ5_ensureCapacityInternal_d00df opJ5_ensureCapacityInternal_d00df sel_lat rfl (hC.o rfl) (by omega) rfl rfl (Nat.le_of_ble_eq_true rfl) (by omega) (by omega) (c_ens (by omega) hB hl (by omega) (fun h2 v2 B2 F2 => ?_))
  generalize gN N (T.length + (dcs s).length) = N2 at *
  have hC := B2.1
  obtain ⟨f0, f1, f3⟩ := B2.2.1
  obtain ⟨g, g1, g2, g3⟩ := B2.2.2.2.1
  refine x_aload_n (i := 0) dJ5_append_c97b9_17 rfl rfl rfl ?_
  refine x_callN0 (N := mJ5_isLatin1_aae02) (ci := 13) (b := 104) (As := []) (d2 := d - 1) dJ5_append_c97b9_18 rfl gJ5_83 obJ5_isLatin1_aae02 oiJ5_isLatin1_aae02 osJ5_isLatin1_aae02 (fun q hq => by cases hq; exact sel_lat) (hC.o rfl) (by omega) rfl rfl (Nat.le_of_ble_eq_true rfl) (c_lat hC f1 ?_)
  refine x_if_eq_f (tgt := 37) dJ5_append_c97b9_21 rfl rfl nb1 ?_
  refine x_iload_n (i := 1) dJ5_append_c97b9_24 rfl rfl rfl ?_
  refine x_iload_n (i := 3) dJ5_append_c97b9_25 rfl rfl rfl ?_
  refine x_aload_n (i := 0) dJ5_append_c97b9_26 rfl rfl rfl ?_
  refine x_getM (a := 104) dJ5_append_c97b9_27 rfl fJ5_15 hC rfl f0 ?_
  refine x_callS0 (As := [_, _, _]) (d2 := d - 1) dJ5_append_c97b9_30 rfl kJ5_248 okJ6_getChars_ba4f3 (by omega) rfl rfl (Nat.le_of_ble_eq_true rfl) (c_gc hs2 g1 (by omega) (by omega) (by have := B2.2.2.2.2.1; omega) (fun r => ?_))
  have lt : (T ++ dcs s).length = T.length + (dcs s).length := List.length_append
  have wa := wrD_at g (T.length + (dcs s).length) s (dcs s).length (by omega)
  have gu : ∀ j, j < T.length + (dcs s).length → wrD g (T.length + (dcs s).length) s (dcs s).length j = nI ((T ++ dcs s).getD j 0) := by
    intro j hj
    rw [wa j]
    by_cases e : T.length ≤ j
    · rw [if_pos (by omega)]
      have ej : j = T.length + (j - T.length) := by omega
      rw [ej, gd_at, dcs_at s hs2 (by omega)]
      rw [show T.length + (dcs s).length - 1 - (T.length + (j - T.length)) = (dcs s).length - 1 - (j - T.length) by omega]
    · rw [if_neg (by omega), gd_ap (by omega)]
      exact g3 j (by omega)
  have B3 := B2.row (f := wrD g (T.length + (dcs s).length) s (dcs s).length) (fun j hj => by
    rw [wa j]
    split
    · exact (by_id (by omega)).2.1
    · exact g2 j hj) (fun j hj => by rw [gu j (by omega), gd_ap hj])
  have B4 := B3.1.cnt (T2 := T ++ dcs s) (by omega) (t_ap B2.2.2.2.2.2.1 (dcs_128 s hs2)) (fun g' e j hj => by
    have e2 : (3, N2, xI g') = ((3, N2, xI (wrD g (T.length + (dcs s).length) s (dcs s).length)) : xC) := e.symm.trans hs_eq
    have e3 : xI g' j = xI (wrD g (T.length + (dcs s).length) s (dcs s).length) j := congrFun (congrArg (fun q : xC => q.2.2) e2) j
    have e4 : g' j = wrD g (T.length + (dcs s).length) s (dcs s).length j := by
      unfold xI at e3
      exact Value.int.inj e3
    rw [e4]
    exact gu j (by omega))
  rw [lt] at B4
  have hC := B3.1.1
  refine x_pop dJ5_append_c97b9_33 rfl rfl ?_
  refine x_goto (tgt := 48) dJ5_append_c97b9_34 rfl ?_
  refine x_aload_n (i := 0) dJ5_append_c97b9_48 rfl rfl rfl ?_
  refine x_iload_n (i := 3) dJ5_append_c97b9_49 rfl rfl rfl ?_
  refine x_putC (a := 104) dJ5_append_c97b9_50 rfl fJ5_79 (fun q hq => by cases hq; rfl) hC rfl ⟨rfl, rfl⟩ ?_
  refine x_aload_n (i := 0) dJ5_append_c97b9_53 rfl rfl rfl ?_
  refine x_areturn dJ5_append_c97b9_54 rfl (by first | exact Or.inr ⟨_, rfl⟩ | exact Or.inl ⟨_, rfl⟩) ?_
  exact K _ v2 B4.1 (F2.tr (B3.2.tr B4.2))
theorem c_apI {s : Nat} (hd : 7 ≤ d) (hB : bB h v N T) (hs2 : s ≤ 20000) (hl : T.length + (dcs s).length ≤ 80) (K : ∀ h2 v2, bB h2 v2 (gN N (T.length + (dcs s).length)) (T ++ dcs s) → bF h v N h2 v2 (gN N (T.length + (dcs s).length)) → Q (some (.ref 104)) h2) : xCt G l mJ4_append_bf812 d [.ref 104, .int (nI s)] h (gC N (T.length + (dcs s).length)) (gZ N (T.length + (dcs s).length)) Q := by
  refine xCt_ofF (by decide +kernel) (Nat.le_of_ble_eq_true rfl) ?_
  have hC := hB.1
  refine x_aload_n (i := 0) dJ4_append_bf812_0 rfl rfl rfl ?_
  refine x_iload_n (i := 1) dJ4_append_bf812_1 rfl rfl rfl ?_
  refine x_callU (N := mJ5_append_c97b9) (ci := 13) (b := 104) (As := [_]) (d2 := d - 1) (mc2 := gC N (T.length + (dcs s).length)) (ms2 := gZ N (T.length + (dcs s).length)) (k2 := 0) (n2 := 0) dJ4_append_bf812_2 rfl gJ4_53 obJ5_append_c97b9 oiJ5_append_c97b9 osJ5_append_c97b9 sup_sb (by decide) (hC.o rfl) (by omega) rfl rfl (Nat.le_of_ble_eq_true rfl) (by omega) (by omega) (c_apI5 (by omega) hB hs2 hl (fun h2 v2 B2 F2 => ?_))
  refine x_pop dJ4_append_bf812_5 rfl rfl ?_
  refine x_aload_n (i := 0) dJ4_append_bf812_6 rfl rfl rfl ?_
  refine x_areturn dJ4_append_bf812_7 rfl (by first | exact Or.inr ⟨_, rfl⟩ | exact Or.inl ⟨_, rfl⟩) ?_
  exact K h2 v2 B2 F2
end SBC

