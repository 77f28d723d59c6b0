/-! EightPartsModel: sums, mirrors, norms, odd parts, orders -/
theorem rem2 (x : Int32) : x - x / nI 2 * nI 2 = 0 ↔ x &&& nI 1 = nI 0 := by
  have h := fb_rng x
  have e2 : (nI 2).toInt = 2 := rfl
  have hb : -1073741824 ≤ x.toInt.tdiv 2 ∧ x.toInt.tdiv 2 ≤ 1073741823 := by
    rcases Int.le_total 0 x.toInt with q | q
    · rw [Int.tdiv_eq_ediv_of_nonneg q]; omega
    · have : x.toInt.tdiv 2 = -((-x.toInt) / 2) := by
        rw [← Int.tdiv_eq_ediv_of_nonneg (by omega), Int.neg_tdiv, Int.neg_neg]
      omega
  have ed : (x / nI 2).toInt = x.toInt.tdiv 2 := by
    rw [Int32.toInt_div, e2, fb_bmod (by omega) (by omega)]
  have em := Int.tmod_add_tdiv_mul x.toInt 2
  have hm : -2 < x.toInt.tmod 2 ∧ x.toInt.tmod 2 < 2 := by
    rcases Int.le_total 0 x.toInt with q | q
    · have := Int.tmod_nonneg 2 q
      have := Int.tmod_lt_of_pos x.toInt (b := 2) (by decide)
      omega
    · have e : x.toInt.tmod 2 = -((-x.toInt).tmod 2) := by rw [Int.neg_tmod, Int.neg_neg]
      have := Int.tmod_nonneg 2 (show 0 ≤ -x.toInt by omega)
      have := Int.tmod_lt_of_pos (-x.toInt) (b := 2) (by decide)
      omega
  have eq : (x - x / nI 2 * nI 2).toInt = x.toInt.tmod 2 := by
    have m1 : (x / nI 2 * nI 2).toInt = x.toInt.tdiv 2 * 2 := by
      rw [fb_mulI (by rw [ed, e2]; omega) (by rw [ed, e2]; omega), ed, e2]
    rw [fb_subI (by rw [m1]; omega) (by rw [m1]; omega), m1]
    omega
  have ea : x &&& nI 1 = nI (x.toBitVec.toNat % 2) := pk_and x (m := nI 1) 1 (by decide)
  have eb : x.toInt % 2 = ((x.toBitVec.toNat % 2 : Nat) : Int) := by
    show x.toBitVec.toInt % 2 = _
    rw [BitVec.toInt_eq_toNat_cond]
    split <;> omega
  rw [ea]
  constructor
  · intro z
    have := congrArg Int32.toInt z
    rw [eq] at this
    have e0 : (0 : Int32).toInt = 0 := rfl
    rw [show x.toBitVec.toNat % 2 = 0 by omega]
  · intro z
    have := (nI_eq (a := x.toBitVec.toNat % 2) (b := 0) (by omega) (by decide)).mp z
    apply Int32.toInt_inj.mp
    rw [eq]
    show _ = (0 : Int)
    omega
theorem rem2p (x : Int32) : ¬ x - x / nI 2 * nI 2 = 0 ↔ pI x = true := by
  unfold pI
  rw [rem2]
  simp
/-- bits are taken away one by one -/
theorem bt1 : ∀ v, v < 256 → 0 < v → nI v &&& (nI v - nI 1) = nI (v &&& (v - 1)) ∧ v &&& (v - 1) < v ∧ bitN (v &&& (v - 1)) + 1 = bitN v := by decide +kernel
def xrN (v : Nat) : Nat → Nat
  | 0 => 0
  | k + 1 => if v / 2 ^ (k + 1) % 2 = 1 then xrN v k ^^^ (k + 1) else xrN v k
def mCode (v : Nat) : Bool := v == 0 || v == 255 || (bitN v == 4 && xrN (if v % 2 = 1 then v else 255 ^^^ v) 7 == 0)
def mOf (o v : Nat) : Bool := if o = 0 then v == 0 else mCode (if v % 2 = v / 2 ^ o % 2 then v else v ^^^ 1 ^^^ 2 ^ o)
theorem mOf_eq : ∀ o, o < 8 → ∀ v, v < 256 → mOf o v = ofO o v := by decide +kernel
theorem has_eq : ∀ v, v < 256 → ∀ k, k < 8 → ((nI v >>> (nI k &&& 31)) &&& nI 1 = nI 1 ↔ v / 2 ^ k % 2 = 1) := by decide +kernel
theorem xr_b : ∀ v, v < 256 → ∀ k, k < 8 → xrN v k < 8 := by decide +kernel
theorem xr_x : ∀ a, a < 8 → ∀ b, b < 8 → nI a ^^^ nI b = nI (a ^^^ b) := by decide +kernel
theorem x255 : ∀ v, v < 256 → nI 255 ^^^ nI v = nI (255 ^^^ v) ∧ 255 ^^^ v < 256 := by decide +kernel
theorem xo_o : ∀ v, v < 256 → ∀ o, o < 8 → nI v ^^^ nI 1 ^^^ (nI 1 <<< (nI o &&& 31)) = nI (v ^^^ 1 ^^^ 2 ^ o) ∧ v ^^^ 1 ^^^ 2 ^ o < 256 := by decide +kernel
section MOD
variable {G : xG} {l : Launch} {d : Nat} {h : xH} {Q : Option Value → xH → Prop}
theorem m_has {v k : Nat} (hv : v < 256) (hk : k < 8) (Kt : v / 2 ^ k % 2 = 1 → Q (some (.int (nI 1))) h) (Kf : ¬ v / 2 ^ k % 2 = 1 → Q (some (.int (nI 0))) h) : xCt G l mX12_has d [.int (nI v), .int (nI k)] h 0 0 Q := by
  refine xCt_of (by decide) (Nat.le_of_ble_eq_true rfl) ?_
  refine x_iload_n (i := 0) dX12_has_0 rfl rfl rfl ?_
  refine x_iload_n (i := 1) dX12_has_1 rfl rfl rfl ?_
  refine x_ishr dX12_has_2 rfl ?_
  refine x_iconst dX12_has_3 rfl iC_1 ?_
  refine x_iand dX12_has_4 rfl ?_
  refine x_iconst dX12_has_5 rfl iC_1 ?_
  refine x_ic_ne (tgt := 13) dX12_has_6 rfl rfl (fun c6 => ?_) (fun c6 => ?_)
  · refine x_iconst dX12_has_13 rfl iC_0 ?_
    refine x_ireturn dX12_has_14 rfl rfl ?_
    exact Kf (fun z => c6 ((has_eq v hv k hk).mpr z))
  · refine x_iconst dX12_has_9 rfl iC_1 ?_
    refine x_goto (tgt := 14) dX12_has_10 rfl ?_
    refine x_ireturn dX12_has_14 rfl rfl ?_
    exact Kt ((has_eq v hv k hk).mp c6)
theorem m_bitsOf {v : Nat} (hv : v < 256) (K : Q (some (.int (nI (bitN v)))) h) : xCt G l mX12_bitsOf d [.int (nI v)] h 0 0 Q := by
  refine xCt_of (by decide) (Nat.le_of_ble_eq_true rfl) ?_
  refine x_iconst dX12_bitsOf_0 rfl iC_0 ?_
  refine x_istore_n (i := 1) dX12_bitsOf_1 rfl rfl (by decide) ?_
  refine x_iload_n (i := 0) dX12_bitsOf_2 rfl rfl rfl ?_
  refine x_istore_n (i := 2) dX12_bitsOf_3 rfl rfl (by decide) ?_
  have key : ∀ u, u < 256 → ∀ a, a + bitN u = bitN v → xWP G l mX12_bitsOf d (zM G Q) 0 0 4 (xls [(1, .int (nI a)), (2, .int (nI u))]) [] h := by
    intro u
    induction u using Nat.strongRecOn with
    | _ u ih =>
      intro hu a ea
      refine x_iload_n (i := 2) dX12_bitsOf_4 rfl rfl rfl ?_
      refine x_if_eq (tgt := 20) dX12_bitsOf_5 rfl rfl (fun c5 => ?_) (fun c5 => ?_)
      · have u0 : u = 0 := (nI_eq (by omega) (by omega)).mp (c5.trans nI_0.symm)
        have : a = bitN v := by
          rw [u0] at ea
          have : bitN 0 = 0 := rfl
          omega
        refine x_iload_n (i := 1) dX12_bitsOf_20 rfl rfl rfl ?_
        refine x_ireturn dX12_bitsOf_21 rfl rfl ?_
        rw [this]
        exact K
      · have up : 0 < u := by
          rcases Nat.eq_zero_or_pos u with z | z
          · exact absurd (by rw [z]; exact nI_0) c5
          · exact z
        obtain ⟨b1, b2, b3⟩ := bt1 u hu up
        refine x_iinc dX12_bitsOf_8 rfl rfl (inc1 _) ?_
        refine x_iload_n (i := 2) dX12_bitsOf_11 rfl rfl rfl ?_
        refine x_iload_n (i := 2) dX12_bitsOf_12 rfl rfl rfl ?_
        refine x_iconst dX12_bitsOf_13 rfl iC_1 ?_
        refine x_isub dX12_bitsOf_14 rfl ?_
        refine x_iand dX12_bitsOf_15 rfl ?_
        rw [b1]
        refine x_istore_n (i := 2) dX12_bitsOf_16 rfl rfl (by decide) ?_
        refine x_goto (tgt := 4) dX12_bitsOf_17 rfl ?_
        exact x_to (ih _ b2 (by omega) (a + 1) (by omega)) ⟨rfl, rfl, trivial⟩
  exact x_to (key v hv 0 (by omega)) ⟨rfl, rfl, trivial⟩
theorem m_isCode {v : Nat} (hd : 1 ≤ d) (hv : v < 256) (Kt : mCode v = true → Q (some (.int (nI 1))) h) (Kf : mCode v = false → Q (some (.int (nI 0))) h) : xCt G l mX12_isCode d [.int (nI v)] h 0 0 Q := by
  refine xCt_of (by decide) (Nat.le_of_ble_eq_true rfl) ?_
  have hb := bit_le v hv
  refine x_iload_n (i := 0) dX12_isCode_0 rfl rfl rfl ?_
  refine x_if_eq (tgt := 11) dX12_isCode_1 rfl rfl (fun c1 => ?_) (fun c1 => ?_)
  · have v0 : v = 0 := (nI_eq (by omega) (by omega)).mp (c1.trans nI_0.symm)
    refine x_iconst dX12_isCode_11 rfl iC_1 ?_
    refine x_ireturn dX12_isCode_12 rfl rfl ?_
    exact Kt (by rw [v0]; decide)
  have n0 : ¬ v = 0 := fun e => c1 (by rw [e]; exact nI_0)
  refine x_iload_n (i := 0) dX12_isCode_4 rfl rfl rfl ?_
  refine x_sipush dX12_isCode_5 rfl sC_255 ?_
  refine x_jc_ne (tgt := 13) dX12_isCode_8 rfl rfl (by omega) (by omega) (fun c8 => ?_) (fun c8 => ?_)
  rotate_left
  · have v0 : v = 255 := c8
    refine x_iconst dX12_isCode_11 rfl iC_1 ?_
    refine x_ireturn dX12_isCode_12 rfl rfl ?_
    exact Kt (by rw [v0]; decide)
  have ec : mCode v = (bitN v == 4 && xrN (if v % 2 = 1 then v else 255 ^^^ v) 7 == 0) := by
    unfold mCode
    rw [show (v == 0) = false by simp; exact n0, show (v == 255) = false by simp; exact c8]
    rfl
  rw [ec] at Kt Kf
  refine x_iload_n (i := 0) dX12_isCode_13 rfl rfl rfl ?_
  refine x_callS0 (As := [_]) (d2 := d - 1) dX12_isCode_14 rfl kX12_117 okX12_bitsOf (by omega) rfl rfl (Nat.le_of_ble_eq_true rfl) (m_bitsOf hv ?_)
  refine x_iconst dX12_isCode_17 rfl iC_4 ?_
  refine x_jc_eq (tgt := 23) dX12_isCode_18 rfl rfl (by omega) (by omega) (fun c18 => ?_) (fun c18 => ?_)
  rotate_left
  · refine x_iconst dX12_isCode_21 rfl iC_0 ?_
    refine x_ireturn dX12_isCode_22 rfl rfl ?_
    exact Kf (by rw [show (bitN v == 4) = false by simp; exact c18]; rfl)
  rw [c18] at Kt Kf
  have go : ∀ w, w < 256 → w = (if v % 2 = 1 then v else 255 ^^^ v) → xWP G l mX12_isCode d (zM G Q) 0 0 40 (xls []) [.int (nI w)] h := by
    intro w hw ew
    rw [← ew] at Kt Kf
    refine x_istore_n (i := 1) dX12_isCode_40 rfl rfl (by decide) ?_
    refine x_iconst dX12_isCode_41 rfl iC_0 ?_
    refine x_istore_n (i := 2) dX12_isCode_42 rfl rfl (by decide) ?_
    refine x_iconst dX12_isCode_43 rfl iC_1 ?_
    refine x_istore_n (i := 3) dX12_isCode_44 rfl rfl (by decide) ?_
    have key := xloop (P := fun k => xWP G l mX12_isCode d (zM G Q) 0 0 45 (xls [(1, .int (nI w)), (2, .int (nI (xrN w k))), (3, .int (nI (k + 1)))]) [] h) 7 (by
      intro k hk ih
      have xb := xr_b w hw k (by omega)
      refine x_iload_n (i := 3) dX12_isCode_45 rfl rfl rfl ?_
      refine x_bipush dX12_isCode_46 rfl bC_8 ?_
      refine x_jc_ge (tgt := 69) dX12_isCode_48 rfl rfl (by omega) (by omega) (fun c48 => ?_) (fun c48 => ?_)
      · obtain rfl : k = 7 := by omega
        refine x_iload_n (i := 2) dX12_isCode_69 rfl rfl rfl ?_
        refine x_if_ne (tgt := 77) dX12_isCode_70 rfl rfl (fun c70 => ?_) (fun c70 => ?_)
        · refine x_iconst dX12_isCode_77 rfl iC_0 ?_
          refine x_ireturn dX12_isCode_78 rfl rfl ?_
          exact Kf (by simp; exact fun e => c70 (by rw [e]; exact nI_0))
        · refine x_iconst dX12_isCode_73 rfl iC_1 ?_
          refine x_goto (tgt := 78) dX12_isCode_74 rfl ?_
          refine x_ireturn dX12_isCode_78 rfl rfl ?_
          exact Kt (by simp; exact (nI_eq (by omega) (by omega)).mp (c70.trans nI_0.symm))
      · refine x_iload_n (i := 1) dX12_isCode_51 rfl rfl rfl ?_
        refine x_iload_n (i := 3) dX12_isCode_52 rfl rfl rfl ?_
        refine x_callS0 (As := [_, _]) (d2 := d - 1) dX12_isCode_53 rfl kX12_121 okX12_has (by omega) rfl rfl (Nat.le_of_ble_eq_true rfl) (m_has hw (by omega) (fun z => ?_) (fun z => ?_))
        · refine x_if_eq_f (tgt := 63) dX12_isCode_56 rfl rfl nb1 ?_
          refine x_iload_n (i := 2) dX12_isCode_59 rfl rfl rfl ?_
          refine x_iload_n (i := 3) dX12_isCode_60 rfl rfl rfl ?_
          refine x_ixor dX12_isCode_61 rfl ?_
          rw [xr_x _ xb _ (by omega)]
          refine x_istore_n (i := 2) dX12_isCode_62 rfl rfl (by decide) ?_
          refine x_iinc dX12_isCode_63 rfl rfl (inc1 _) ?_
          refine x_goto (tgt := 45) dX12_isCode_66 rfl ?_
          exact x_to (ih (by omega)) ⟨rfl, by rw [xrN, if_pos z]; rfl, rfl, trivial⟩
        · refine x_if_eq_t (tgt := 63) dX12_isCode_56 rfl nI_0 ?_
          refine x_iinc dX12_isCode_63 rfl rfl (inc1 _) ?_
          refine x_goto (tgt := 45) dX12_isCode_66 rfl ?_
          exact x_to (ih (by omega)) ⟨rfl, by rw [xrN, if_neg z]; rfl, rfl, trivial⟩) 0 (Nat.zero_le _)
    exact x_to key ⟨rfl, rfl, rfl, trivial⟩
  refine x_iload_n (i := 0) dX12_isCode_23 rfl rfl rfl ?_
  refine x_iconst dX12_isCode_24 rfl iC_0 ?_
  refine x_callS0 (As := [_, _]) (d2 := d - 1) dX12_isCode_25 rfl kX12_121 okX12_has (by omega) rfl rfl (Nat.le_of_ble_eq_true rfl) (m_has (k := 0) hv (by decide) (fun z => ?_) (fun z => ?_))
  · refine x_if_eq_f (tgt := 35) dX12_isCode_28 rfl rfl nb1 ?_
    refine x_iload_n (i := 0) dX12_isCode_31 rfl rfl rfl ?_
    refine x_goto (tgt := 40) dX12_isCode_32 rfl ?_
    exact x_to (go v hv (by rw [if_pos (by rw [Nat.pow_zero, Nat.div_one] at z; exact z)])) trivial
  · obtain ⟨x1, x2⟩ := x255 v hv
    refine x_if_eq_t (tgt := 35) dX12_isCode_28 rfl nI_0 ?_
    refine x_sipush dX12_isCode_35 rfl sC_255 ?_
    refine x_iload_n (i := 0) dX12_isCode_38 rfl rfl rfl ?_
    refine x_ixor dX12_isCode_39 rfl ?_
    rw [x1]
    exact x_to (go (255 ^^^ v) x2 (by rw [if_neg (by rw [Nat.pow_zero, Nat.div_one] at z; exact z)])) trivial
theorem m_isOf {o v : Nat} (hd : 2 ≤ d) (ho : o < 8) (hv : v < 256) (Kt : ofO o v = true → Q (some (.int (nI 1))) h) (Kf : ofO o v = false → Q (some (.int (nI 0))) h) : xCt G l mX12_isOf d [.int (nI o), .int (nI v)] h 0 0 Q := by
  rw [← mOf_eq o ho v hv] at Kt Kf
  refine xCt_of (by decide) (Nat.le_of_ble_eq_true rfl) ?_
  refine x_iload_n (i := 0) dX12_isOf_0 rfl rfl rfl ?_
  refine x_if_ne (tgt := 14) dX12_isOf_1 rfl rfl (fun c1 => ?_) (fun c1 => ?_)
  rotate_left
  · have o0 : o = 0 := (nI_eq (by omega) (by omega)).mp (c1.trans nI_0.symm)
    unfold mOf at Kt Kf
    rw [if_pos o0] at Kt Kf
    refine x_iload_n (i := 1) dX12_isOf_4 rfl rfl rfl ?_
    refine x_if_ne (tgt := 12) dX12_isOf_5 rfl rfl (fun c5 => ?_) (fun c5 => ?_)
    · refine x_iconst dX12_isOf_12 rfl iC_0 ?_
      refine x_ireturn dX12_isOf_13 rfl rfl ?_
      exact Kf (by simp; exact fun e => c5 (by rw [e]; exact nI_0))
    · refine x_iconst dX12_isOf_8 rfl iC_1 ?_
      refine x_goto (tgt := 13) dX12_isOf_9 rfl ?_
      refine x_ireturn dX12_isOf_13 rfl rfl ?_
      exact Kt (by simp; exact (nI_eq (by omega) (by omega)).mp (c5.trans nI_0.symm))
  have o0 : ¬ o = 0 := fun e => c1 (by rw [e]; exact nI_0)
  unfold mOf at Kt Kf
  rw [if_neg o0] at Kt Kf
  have fin : ∀ w, w < 256 → w = (if v % 2 = v / 2 ^ o % 2 then v else v ^^^ 1 ^^^ 2 ^ o) → xWP G l mX12_isOf d (zM G Q) 0 0 48 (xls []) [.int (nI w)] h := by
    intro w hw ew
    rw [← ew] at Kt Kf
    refine x_callS0 (As := [_]) (d2 := d - 1) dX12_isOf_48 rfl kX12_125 okX12_isCode (by omega) rfl rfl (Nat.le_of_ble_eq_true rfl) (m_isCode (by omega) hw (fun z => ?_) (fun z => ?_))
    · refine x_ireturn dX12_isOf_51 rfl rfl ?_
      exact Kt z
    · refine x_ireturn dX12_isOf_51 rfl rfl ?_
      exact Kf z
  obtain ⟨x1, x2⟩ := xo_o v hv o ho
  have p0 : v / 2 ^ 0 % 2 = v % 2 := by rw [Nat.pow_zero, Nat.div_one]
  have eqq : v % 2 = v / 2 ^ o % 2 → xWP G l mX12_isOf d (zM G Q) 0 0 31 (xls [(0, .int (nI o)), (1, .int (nI v))]) [] h := by
    intro z
    refine x_iconst dX12_isOf_31 rfl iC_0 ?_
    refine x_istore_n (i := 2) dX12_isOf_32 rfl rfl (by decide) ?_
    refine x_iload_n (i := 2) dX12_isOf_33 rfl rfl rfl ?_
    refine x_if_eq_t (tgt := 47) dX12_isOf_34 rfl nI_0 ?_
    refine x_iload_n (i := 1) dX12_isOf_47 rfl rfl rfl ?_
    exact x_to (fin v hv (by rw [if_pos z])) trivial
  have neq : ¬ v % 2 = v / 2 ^ o % 2 → xWP G l mX12_isOf d (zM G Q) 0 0 27 (xls [(0, .int (nI o)), (1, .int (nI v))]) [] h := by
    intro z
    refine x_iconst dX12_isOf_27 rfl iC_1 ?_
    refine x_goto (tgt := 32) dX12_isOf_28 rfl ?_
    refine x_istore_n (i := 2) dX12_isOf_32 rfl rfl (by decide) ?_
    refine x_iload_n (i := 2) dX12_isOf_33 rfl rfl rfl ?_
    refine x_if_eq_f (tgt := 47) dX12_isOf_34 rfl rfl nb1 ?_
    refine x_iload_n (i := 1) dX12_isOf_37 rfl rfl rfl ?_
    refine x_iconst dX12_isOf_38 rfl iC_1 ?_
    refine x_ixor dX12_isOf_39 rfl ?_
    refine x_iconst dX12_isOf_40 rfl iC_1 ?_
    refine x_iload_n (i := 0) dX12_isOf_41 rfl rfl rfl ?_
    refine x_ishl dX12_isOf_42 rfl ?_
    refine x_ixor dX12_isOf_43 rfl ?_
    rw [x1]
    refine x_goto (tgt := 48) dX12_isOf_44 rfl ?_
    exact x_to (fin _ x2 (by rw [if_neg z])) trivial
  refine x_iload_n (i := 1) dX12_isOf_14 rfl rfl rfl ?_
  refine x_iconst dX12_isOf_15 rfl iC_0 ?_
  refine x_callS0 (As := [_, _]) (d2 := d - 1) dX12_isOf_16 rfl kX12_121 okX12_has (by omega) rfl rfl (Nat.le_of_ble_eq_true rfl) (m_has (k := 0) hv (by decide) (fun z => ?_) (fun z => ?_))
  · rw [p0] at z
    refine x_iload_n (i := 1) dX12_isOf_19 rfl rfl rfl ?_
    refine x_iload_n (i := 0) dX12_isOf_20 rfl rfl rfl ?_
    refine x_callS0 (As := [_, _]) (d2 := d - 1) dX12_isOf_21 rfl kX12_121 okX12_has (by omega) rfl rfl (Nat.le_of_ble_eq_true rfl) (m_has hv ho (fun y => ?_) (fun y => ?_))
    · refine x_ic_eq_t (tgt := 31) dX12_isOf_24 rfl rfl ?_
      exact x_to (eqq (by omega)) ⟨rfl, rfl, trivial⟩
    · refine x_ic_eq_f (tgt := 31) dX12_isOf_24 rfl rfl (by decide) ?_
      exact x_to (neq (by omega)) ⟨rfl, rfl, trivial⟩
  · rw [p0] at z
    refine x_iload_n (i := 1) dX12_isOf_19 rfl rfl rfl ?_
    refine x_iload_n (i := 0) dX12_isOf_20 rfl rfl rfl ?_
    refine x_callS0 (As := [_, _]) (d2 := d - 1) dX12_isOf_21 rfl kX12_121 okX12_has (by omega) rfl rfl (Nat.le_of_ble_eq_true rfl) (m_has hv ho (fun y => ?_) (fun y => ?_))
    · refine x_ic_eq_f (tgt := 31) dX12_isOf_24 rfl rfl (by decide) ?_
      exact x_to (neq (by omega)) ⟨rfl, rfl, trivial⟩
    · refine x_ic_eq_t (tgt := 31) dX12_isOf_24 rfl rfl ?_
      exact x_to (eqq (by omega)) ⟨rfl, rfl, trivial⟩
theorem m_oddOf {x : Nat} (hC : Cs h) (hx : x < 155) (K : Q (some (.int (nI (oddN (pl h x))))) h) : xCt G l mX12_oddOf d [.ref 110, .int (nI x)] h 0 0 Q := by
  have v := hC.v (a := 112) rfl
  refine xCt_of (by decide) (Nat.le_of_ble_eq_true rfl) ?_
  refine x_iconst dX12_oddOf_0 rfl iC_0 ?_
  refine x_istore_n (i := 2) dX12_oddOf_1 rfl rfl (by decide) ?_
  refine x_iconst dX12_oddOf_2 rfl iC_0 ?_
  refine x_istore_n (i := 3) dX12_oddOf_3 rfl rfl (by decide) ?_
  have key := xloop (P := fun i => xWP G l mX12_oddOf d (zM G Q) 0 0 4 (xls [(0, .ref 110), (1, .int (nI x)), (2, .int (nI (zSet (fun j => pI (pl h x j)) i))), (3, .int (nI i))]) [] h) 8 (by
    intro i hi ih
    refine x_iload_n (i := 3) dX12_oddOf_4 rfl rfl rfl ?_
    refine x_bipush dX12_oddOf_5 rfl bC_8 ?_
    refine x_jc_ge (tgt := 38) dX12_oddOf_7 rfl rfl (by omega) (by omega) (fun c7 => ?_) (fun c7 => ?_)
    · obtain rfl : i = 8 := by omega
      refine x_iload_n (i := 2) dX12_oddOf_38 rfl rfl rfl ?_
      refine x_ireturn dX12_oddOf_39 rfl rfl ?_
      exact K
    · refine x_aload_n (i := 0) dX12_oddOf_10 rfl rfl rfl ?_
      refine x_getC dX12_oddOf_11 rfl fX12_17 hC rfl F_110_2 ?_
      refine x_bipush dX12_oddOf_14 rfl bC_8 ?_
      refine x_iload_n (i := 1) dX12_oddOf_16 rfl rfl rfl ?_
      refine x_imul dX12_oddOf_17 rfl ?_
      refine x_iload_n (i := 3) dX12_oddOf_18 rfl rfl rfl ?_
      refine x_iadd dX12_oddOf_19 rfl ?_
      rw [nI_8]
      refine x_iald dX12_oddOf_20 rfl (by first | assumption | exact hs_eq | exact hs_ne (by first | assumption | decide | omega) (by first | assumption | exact hs_eq | exact hs_ne (by first | assumption | decide | omega) (by first | assumption | exact hs_eq | exact hs_ne (by first | assumption | decide | omega) (by assumption)))) rfl (by omega) (by decide) ?_
      refine x_iconst dX12_oddOf_21 rfl iC_2 ?_
      refine x_irem dX12_oddOf_22 rfl (by decide) ?_
      refine x_if_eq (tgt := 32) dX12_oddOf_23 rfl rfl (fun c23 => ?_) (fun c23 => ?_)
      · have z : ¬ pI (pl h x i) = true := fun z => by rw [pl_lt c7] at z; exact (rem2p _).mpr z c23
        refine x_iinc dX12_oddOf_32 rfl rfl (inc1 _) ?_
        refine x_goto (tgt := 4) dX12_oddOf_35 rfl ?_
        exact x_to (ih c7) ⟨rfl, rfl, by rw [(or_bit8 (p := fun j => pI (pl h x j)) c7).2 (Bool.eq_false_iff.mpr z)]; rfl, rfl, trivial⟩
      · have z : pI (pl h x i) = true := by rw [pl_lt c7]; exact (rem2p _).mp c23
        refine x_iload_n (i := 2) dX12_oddOf_26 rfl rfl rfl ?_
        refine x_iconst dX12_oddOf_27 rfl iC_1 ?_
        refine x_iload_n (i := 3) dX12_oddOf_28 rfl rfl rfl ?_
        refine x_ishl dX12_oddOf_29 rfl ?_
        refine x_ior dX12_oddOf_30 rfl ?_
        rw [(or_bit8 (p := fun j => pI (pl h x j)) c7).1 z]
        refine x_istore_n (i := 2) dX12_oddOf_31 rfl rfl (by decide) ?_
        refine x_iinc dX12_oddOf_32 rfl rfl (inc1 _) ?_
        refine x_goto (tgt := 4) dX12_oddOf_35 rfl ?_
        exact x_to (ih c7) ⟨rfl, rfl, rfl, rfl, trivial⟩) 0 (Nat.zero_le _)
  exact x_to key ⟨rfl, rfl, rfl, rfl, trivial⟩
/-- the order that rules -/
def mRul (h : xH) (o : Nat) : Prop := (h.1 110).2.2 4 = .int (nI o)
theorem m_isWhole {x o : Nat} (hd : 3 ≤ d) (hC : Cs h) (ho : mRul h o) (ho8 : o < 8) (hx : x < 155) (Kt : ofO o (oddN (pl h x)) = true → Q (some (.int (nI 1))) h) (Kf : ofO o (oddN (pl h x)) = false → Q (some (.int (nI 0))) h) : xCt G l mX12_isWhole d [.ref 110, .int (nI x)] h 0 0 Q := by
  refine xCt_of (by decide) (Nat.le_of_ble_eq_true rfl) ?_
  refine x_aload_n (i := 0) dX12_isWhole_0 rfl rfl rfl ?_
  refine x_getM (a := 110) dX12_isWhole_1 rfl fX12_24 hC rfl ho ?_
  refine x_aload_n (i := 0) dX12_isWhole_4 rfl rfl rfl ?_
  refine x_iload_n (i := 1) dX12_isWhole_5 rfl rfl rfl ?_
  refine x_callV0 (ci := 12) (b := 110) (As := [_]) (d2 := d - 1) dX12_isWhole_6 rfl kX12_128 okX12_oddOf (hC.o rfl) (fun q hq => by cases hq; rfl) (by omega) rfl rfl (Nat.le_of_ble_eq_true rfl) (m_oddOf hC hx ?_)
  refine x_callS0 (As := [_, _]) (d2 := d - 1) dX12_isWhole_9 rfl kX12_131 okX12_isOf (by omega) rfl rfl (Nat.le_of_ble_eq_true rfl) (m_isOf (by omega) ho8 (oddN_lt _) (fun z => ?_) (fun z => ?_))
  · refine x_ireturn dX12_isWhole_12 rfl rfl ?_
    exact Kt z
  · refine x_ireturn dX12_isWhole_12 rfl rfl ?_
    exact Kf z
end MOD

