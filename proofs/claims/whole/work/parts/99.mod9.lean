/-! EightPartsModel: the nearest part -/
theorem td_fl {a b : Int} (hb : 0 < b) : (a.tmod b < 0 → a / b = a.tdiv b - 1) ∧ (¬ a.tmod b < 0 → a / b = a.tdiv b) ∧ -b < a.tmod b ∧ a.tmod b < b ∧ a.tmod b + a.tdiv b * b = a ∧ (0 ≤ a → 0 ≤ a.tmod b) := by
  have e := Int.tmod_add_tdiv_mul a b
  have u : a.tmod b < b := Int.tmod_lt_of_pos a hb
  have lo : -b < a.tmod b := by
    have := Int.tmod_lt_of_pos (-a) hb
    rw [Int.neg_tmod] at this
    omega
  refine ⟨fun z => ?_, fun z => ?_, lo, u, e, fun q => Int.tmod_nonneg b q⟩
  · refine ((Int.ediv_emod_unique hb (r := a.tmod b + b)).mpr ⟨?_, by omega, by omega⟩).1
    rw [Int.mul_sub, Int.mul_one, Int.mul_comm b]
    omega
  · refine ((Int.ediv_emod_unique hb (r := a.tmod b)).mpr ⟨?_, by omega, by omega⟩).1
    rw [Int.mul_comm b]
    omega
theorem dv_t {a b : Int64} (ha : -4000000000000000000 ≤ a.toInt ∧ a.toInt ≤ 4000000000000000000) (hb : 1 ≤ b.toInt ∧ b.toInt ≤ 4000000000000000000) : (a / b).toInt = a.toInt.tdiv b.toInt ∧ (a / b * b).toInt = a.toInt.tdiv b.toInt * b.toInt ∧ (a - a / b * b).toInt = a.toInt.tmod b.toInt := by
  obtain ⟨-, -, l, u, e, -⟩ := td_fl (a := a.toInt) (b := b.toInt) (by omega)
  have q := Int.natAbs_tdiv_le_natAbs a.toInt b.toInt
  have e1 : (a / b).toInt = a.toInt.tdiv b.toInt := by
    rw [Int64.toInt_div, fb_bmodL (by omega) (by omega)]
  have e2 : (a / b * b).toInt = a.toInt.tdiv b.toInt * b.toInt := by
    rw [fb_mulL (by rw [e1]; omega) (by rw [e1]; omega), e1]
  refine ⟨e1, e2, ?_⟩
  rw [fb_subL (by rw [e2]; omega) (by rw [e2]; omega), e2]
  omega
theorem xor_neg (a b : Int64) : (a ^^^ b) < 0 ↔ ¬ (a.toInt < 0 ↔ b.toInt < 0) := by
  rw [Int64.lt_iff_toInt_lt]
  show (a ^^^ b).toBitVec.toInt < 0 ↔ ¬ (a.toBitVec.toInt < 0 ↔ b.toBitVec.toInt < 0)
  have k : ∀ x : BitVec 64, x.toInt < 0 ↔ x.msb = true := fun x => by rw [BitVec.msb_eq_toInt]; simp
  rw [Int64.toBitVec_xor, k, k, k, BitVec.msb_xor]
  cases a.toBitVec.msb <;> cases b.toBitVec.msb <;> simp
theorem zFd_t {a b : Int64} (ha : -4000000000000000000 ≤ a.toInt ∧ a.toInt ≤ 4000000000000000000) (hb : 1 ≤ b.toInt ∧ b.toInt ≤ 4000000000000000000) : (zFd a b).toInt = a.toInt / b.toInt := by
  obtain ⟨e1, e2, e3⟩ := dv_t ha hb
  obtain ⟨f1, f2, l, u, e, pz⟩ := td_fl (a := a.toInt) (b := b.toInt) (by omega)
  have q := Int.natAbs_tdiv_le_natAbs a.toInt b.toInt
  have one : (1 : Int64).toInt = 1 := rfl
  unfold zFd
  split
  · next c =>
    obtain ⟨c1, c2⟩ := c
    rw [xor_neg] at c1
    have hz : ¬ a.toInt.tmod b.toInt = 0 := fun z => c2 (Int64.toInt_inj.mp (by rw [e2]; omega))
    have an : a.toInt < 0 := by omega
    have : a.toInt.tmod b.toInt < 0 := by
      have := Int.tmod_nonneg b.toInt (show 0 ≤ -a.toInt by omega)
      rw [Int.neg_tmod] at this
      omega
    rw [f1 this, fb_subL (by rw [e1, one]; omega) (by rw [e1, one]; omega), e1, one]
  · next c =>
    rw [e1, f2]
    intro z
    refine c ⟨?_, fun y => ?_⟩
    · rw [xor_neg]
      intro y
      have : ¬ a.toInt < 0 := fun x => by have := y.mp x; omega
      have := pz (by omega)
      omega
    · have := congrArg Int64.toInt y
      rw [e2] at this
      omega
theorem nI_li {n : Nat} (hp : n < 2147483648) : (nI n).toInt64.toInt = n := by rw [Int32.toInt_toInt64, nI_toInt hp]
def nrI (p : Nat) (x n : Int) : Int := 2 * ((x - n * p + n - 1) / (2 * n)) + p
abbrev nB1 (x : Int) : Prop := -4000000000 ≤ x ∧ x ≤ 4000000000
abbrev nB2 (x : Int) : Prop := 1 ≤ x ∧ x ≤ 4000000000
theorem dvb {a b : Int} (hb : 1 ≤ b) : -(a.natAbs : Int) - 1 ≤ a / b ∧ a / b ≤ a.natAbs := by
  constructor
  · rw [Int.le_ediv_iff_mul_le (by omega)]
    have := Int.mul_le_mul_of_nonneg_left hb (show (0 : Int) ≤ a.natAbs + 1 by omega)
    have e : (-(a.natAbs : Int) - 1) * b = -((a.natAbs + 1) * b) := by rw [← Int.neg_mul]; congr 1; omega
    rw [e]
    omega
  · rcases Int.le_total 0 a with h | h
    · have := Int.ediv_le_self b h
      omega
    · have h1 : a / b ≤ 0 := by
        have := Int.ediv_le_ediv (c := b) (show 0 < b by omega) h
        rw [Int.zero_ediv] at this
        exact this
      omega
theorem zNr_t {p : Nat} {x n : Int64} (hp : p < 2) (hx : nB1 x.toInt) (hn : nB2 n.toInt) : (zNr p x n).toInt = nrI p x.toInt n.toInt := by
  have ep := nI_li (n := p) (by omega)
  have e2 : (2 : Int64).toInt = 2 := rfl
  have e1 : (1 : Int64).toInt = 1 := rfl
  have hnp : n.toInt * (p : Int) = 0 ∨ n.toInt * (p : Int) = n.toInt := by
    rcases (show p = 0 ∨ p = 1 by omega) with e | e
    · left; rw [e]; simp
    · right; rw [e]; simp
  obtain ⟨x1, x2⟩ := hx
  obtain ⟨n1, n2⟩ := hn
  have m1 : (n * (nI p).toInt64).toInt = n.toInt * p := by rw [fb_mulL (by rw [ep]; omega) (by rw [ep]; omega), ep]
  have m2 : (x - n * (nI p).toInt64).toInt = x.toInt - n.toInt * p := by rw [fb_subL (by rw [m1]; omega) (by rw [m1]; omega), m1]
  have m3 : (x - n * (nI p).toInt64 + n).toInt = x.toInt - n.toInt * p + n.toInt := by rw [fb_addL (by rw [m2]; omega) (by rw [m2]; omega), m2]
  have m4 : (x - n * (nI p).toInt64 + n - 1).toInt = x.toInt - n.toInt * p + n.toInt - 1 := by rw [fb_subL (by rw [m3, e1]; omega) (by rw [m3, e1]; omega), m3, e1]
  have m5 : (2 * n).toInt = 2 * n.toInt := by rw [fb_mulL (by rw [e2]; omega) (by rw [e2]; omega), e2]
  have m6 := zFd_t (a := x - n * (nI p).toInt64 + n - 1) (b := 2 * n) (by rw [m4]; omega) (by rw [m5]; omega)
  rw [m4, m5] at m6
  have q := dvb (a := x.toInt - n.toInt * p + n.toInt - 1) (b := 2 * n.toInt) (by omega)
  have m7 : (2 * zFd (x - n * (nI p).toInt64 + n - 1) (2 * n)).toInt = 2 * ((x.toInt - n.toInt * p + n.toInt - 1) / (2 * n.toInt)) := by rw [fb_mulL (by rw [e2, m6]; omega) (by rw [e2, m6]; omega), e2, m6]
  unfold zNr nrI
  rw [fb_addL (by rw [m7, ep]; omega) (by rw [m7, ep]; omega), m7, ep]
/-- the lower neighbour, or the one above it -/
theorem nr_lo {p : Nat} {x n : Int} (hn : 1 ≤ n) : (x - n * (p + 2 * ((x - n * p) / (2 * n))) ≤ n * (p + 2 * ((x - n * p) / (2 * n)) + 2) - x → nrI p x n = p + 2 * ((x - n * p) / (2 * n))) ∧ (¬ x - n * (p + 2 * ((x - n * p) / (2 * n))) ≤ n * (p + 2 * ((x - n * p) / (2 * n)) + 2) - x → nrI p x n = p + 2 * ((x - n * p) / (2 * n)) + 2) := by
  have e := Int.emod_add_mul_ediv (x - n * p) (2 * n)
  have r1 := Int.emod_nonneg (x - n * p) (show 2 * n ≠ 0 by omega)
  have r2 := Int.emod_lt_of_pos (x - n * p) (show 0 < 2 * n by omega)
  unfold nrI
  generalize (x - n * p) / (2 * n) = q at *
  generalize (x - n * p) % (2 * n) = r at *
  have k1 : n * (p + 2 * q) = n * p + 2 * n * q := by rw [Int.mul_add, ← Int.mul_assoc, Int.mul_comm n 2]
  have k2 : n * (p + 2 * q + 2) = n * p + 2 * n * q + 2 * n := by rw [Int.mul_add, k1, Int.mul_comm n 2]
  rw [k1, k2]
  constructor
  · intro z
    have : (x - n * p + n - 1) / (2 * n) = q := ((Int.ediv_emod_unique (show 0 < 2 * n by omega) (r := r + n - 1)).mpr ⟨by omega, by omega, by omega⟩).1
    rw [this]
    omega
  · intro z
    have : (x - n * p + n - 1) / (2 * n) = q + 1 := ((Int.ediv_emod_unique (show 0 < 2 * n by omega) (r := r - n - 1)).mpr ⟨by rw [Int.mul_add, Int.mul_one]; omega, by omega, by omega⟩).1
    rw [this]
    omega
/-- what is missed -/
theorem nr_off {p : Nat} {x n : Int} (hp : p < 2) (hn : 1 ≤ n) : -n ≤ x - n * nrI p x n ∧ x - n * nrI p x n ≤ n := by
  have e := Int.emod_add_mul_ediv (x - n * p + n - 1) (2 * n)
  have r1 := Int.emod_nonneg (x - n * p + n - 1) (show 2 * n ≠ 0 by omega)
  have r2 := Int.emod_lt_of_pos (x - n * p + n - 1) (show 0 < 2 * n by omega)
  unfold nrI
  generalize (x - n * p + n - 1) / (2 * n) = q at *
  have k1 : n * (2 * q + p) = n * p + 2 * n * q := by rw [Int.mul_add, ← Int.mul_assoc, Int.mul_comm n 2]; omega
  rw [k1]
  omega
section MOD
variable {G : xG} {l : Launch} {d : Nat} {h : xH} {Q : Option Value → xH → Prop} {S : St}
theorem m_near {p : Nat} {x n : Int64} (hp : p < 2) (hx : nB1 x.toInt) (hn : nB2 n.toInt) (K : Q (some (.long (zNr p x n))) h) : xCt G l mX12_near d [.long x, .long n, .int (nI p)] h 0 0 Q := by
  have ep := nI_li (n := p) (by omega)
  have e2 : (2 : Int64).toInt = 2 := rfl
  have e1 : (1 : Int64).toInt = 1 := rfl
  have hnp : n.toInt * (p : Int) = 0 ∨ n.toInt * (p : Int) = n.toInt := by
    rcases (show p = 0 ∨ p = 1 by omega) with e | e
    · left; rw [e]; simp
    · right; rw [e]; simp
  have ez := zNr_t hp hx hn
  obtain ⟨x1, x2⟩ := hx
  obtain ⟨n1, n2⟩ := hn
  have m1 : (n * (nI p).toInt64).toInt = n.toInt * p := by rw [fb_mulL (by rw [ep]; omega) (by rw [ep]; omega), ep]
  have m2 : (x - n * (nI p).toInt64).toInt = x.toInt - n.toInt * p := by rw [fb_subL (by rw [m1]; omega) (by rw [m1]; omega), m1]
  have m5 : (2 * n).toInt = 2 * n.toInt := by rw [fb_mulL (by rw [e2]; omega) (by rw [e2]; omega), e2]
  have nz : ¬ 2 * n = 0 := fun z => by
    have := congrArg Int64.toInt z
    rw [m5] at this
    have e0 : (0 : Int64).toInt = 0 := rfl
    omega
  obtain ⟨d1, -, d3⟩ := dv_t (a := x - n * (nI p).toInt64) (b := 2 * n) (by rw [m2]; omega) (by rw [m5]; omega)
  rw [m2, m5] at d1 d3
  obtain ⟨f1, f2, -⟩ := td_fl (a := x.toInt - n.toInt * p) (b := 2 * n.toInt) (by omega)
  have qq := Int.natAbs_tdiv_le_natAbs (x.toInt - n.toInt * p) (2 * n.toInt)
  obtain ⟨lo1, lo2⟩ := nr_lo (p := p) (x := x.toInt) (n := n.toInt) n1
  have em := Int.emod_add_mul_ediv (x.toInt - n.toInt * p) (2 * n.toInt)
  have r1 := Int.emod_nonneg (x.toInt - n.toInt * p) (show 2 * n.toInt ≠ 0 by omega)
  have r2 := Int.emod_lt_of_pos (x.toInt - n.toInt * p) (show 0 < 2 * n.toInt by omega)
  refine xCt_of (by decide) (Nat.le_of_ble_eq_true rfl) ?_
  have fin : ∀ q : Int64, q.toInt = (x.toInt - n.toInt * p) / (2 * n.toInt) → ∀ L, L 0 = some (.long x) → L 2 = some (.long n) → L 4 = some (.int (nI p)) → L 9 = some (.long q) → xWP G l mX12_near d (zM G Q) 0 0 39 L [] h := by
    intro q eq L l0 l2 l4 l9
    refine x_to (r := [(0, .long x), (2, .long n), (4, .int (nI p)), (9, .long q)]) ?_ ⟨l0, l2, l4, l9, trivial⟩
    have db := dvb (a := x.toInt - n.toInt * p) (b := 2 * n.toInt) (by omega)
    generalize hQ : (x.toInt - n.toInt * p) / (2 * n.toInt) = Qi at *
    have k1 : n.toInt * (p + 2 * Qi) = n.toInt * p + 2 * n.toInt * Qi := by rw [Int.mul_add, ← Int.mul_assoc, Int.mul_comm n.toInt 2]
    have k2 : n.toInt * (p + 2 * Qi + 2) = n.toInt * p + 2 * n.toInt * Qi + 2 * n.toInt := by rw [Int.mul_add, k1, Int.mul_comm n.toInt 2]
    have g1 : (2 * q).toInt = 2 * Qi := by rw [fb_mulL (by rw [e2, eq]; omega) (by rw [e2, eq]; omega), e2, eq]
    have g2 : ((nI p).toInt64 + 2 * q).toInt = p + 2 * Qi := by rw [fb_addL (by rw [g1, ep]; omega) (by rw [g1, ep]; omega), g1, ep]
    have g3 : ((nI p).toInt64 + 2 * q + 2).toInt = p + 2 * Qi + 2 := by rw [fb_addL (by rw [g2, e2]; omega) (by rw [g2, e2]; omega), g2, e2]
    have g4 : (n * ((nI p).toInt64 + 2 * q)).toInt = n.toInt * (p + 2 * Qi) := by rw [fb_mulL (by rw [g2, k1]; omega) (by rw [g2, k1]; omega), g2]
    have g5 : (n * ((nI p).toInt64 + 2 * q + 2)).toInt = n.toInt * (p + 2 * Qi + 2) := by rw [fb_mulL (by rw [g3, k2]; omega) (by rw [g3, k2]; omega), g3]
    have g6 : (x - n * ((nI p).toInt64 + 2 * q)).toInt = x.toInt - n.toInt * (p + 2 * Qi) := by rw [fb_subL (by rw [g4, k1]; omega) (by rw [g4, k1]; omega), g4]
    have g7 : (n * ((nI p).toInt64 + 2 * q + 2) - x).toInt = n.toInt * (p + 2 * Qi + 2) - x.toInt := by rw [fb_subL (by rw [g5, k2]; omega) (by rw [g5, k2]; omega), g5]
    refine x_iload dX12_near_39 rfl rfl ?_
    refine x_i2l dX12_near_41 rfl ?_
    refine x_ldc2 dX12_near_42 rfl cX12_103 ?_
    refine x_lload dX12_near_45 rfl rfl ?_
    refine x_lmul dX12_near_47 rfl ?_
    refine x_ladd dX12_near_48 rfl ?_
    refine x_lstore dX12_near_49 rfl (by decide) ?_
    refine x_lload_n (i := 0) dX12_near_51 rfl rfl rfl ?_
    refine x_lload_n (i := 2) dX12_near_52 rfl rfl rfl ?_
    refine x_lload dX12_near_53 rfl rfl ?_
    refine x_lmul dX12_near_55 rfl ?_
    refine x_lsub dX12_near_56 rfl ?_
    refine x_lload_n (i := 2) dX12_near_57 rfl rfl rfl ?_
    refine x_lload dX12_near_58 rfl rfl ?_
    refine x_ldc2 dX12_near_60 rfl cX12_103 ?_
    refine x_ladd dX12_near_63 rfl ?_
    refine x_lmul dX12_near_64 rfl ?_
    refine x_lload_n (i := 0) dX12_near_65 rfl rfl rfl ?_
    refine x_lsub dX12_near_66 rfl ?_
    refine x_lcmp dX12_near_67 rfl ?_
    refine x_if_gt (tgt := 76) dX12_near_68 rfl rfl (fun c68 => ?_) (fun c68 => ?_)
    · refine x_lload dX12_near_76 rfl rfl ?_
      refine x_ldc2 dX12_near_78 rfl cX12_103 ?_
      refine x_ladd dX12_near_81 rfl ?_
      refine x_lreturn dX12_near_82 rfl ?_
      rw [show (nI p).toInt64 + 2 * q + 2 = zNr p x n from Int64.toInt_inj.mp (by rw [g3, ez, lo2 (fun z => by have := (lg_cmp_gt _ _).mp c68; rw [Int64.lt_iff_toInt_lt, g6, g7] at this; omega)])]
      exact K
    · refine x_lload dX12_near_71 rfl rfl ?_
      refine x_goto (tgt := 82) dX12_near_73 rfl ?_
      refine x_lreturn dX12_near_82 rfl ?_
      rw [show (nI p).toInt64 + 2 * q = zNr p x n from Int64.toInt_inj.mp (by rw [g2, ez, lo1 (by have := mt (lg_cmp_gt _ _).mpr c68; rw [Int64.lt_iff_toInt_lt, g6, g7] at this; omega)])]
      exact K
  refine x_ldc2 dX12_near_0 rfl cX12_103 ?_
  refine x_lload_n (i := 2) dX12_near_3 rfl rfl rfl ?_
  refine x_lmul dX12_near_4 rfl ?_
  refine x_lstore dX12_near_5 rfl (by decide) ?_
  refine x_lload_n (i := 0) dX12_near_7 rfl rfl rfl ?_
  refine x_lload_n (i := 2) dX12_near_8 rfl rfl rfl ?_
  refine x_iload dX12_near_9 rfl rfl ?_
  refine x_i2l dX12_near_11 rfl ?_
  refine x_lmul dX12_near_12 rfl ?_
  refine x_lsub dX12_near_13 rfl ?_
  refine x_lstore dX12_near_14 rfl (by decide) ?_
  refine x_lload dX12_near_16 rfl rfl ?_
  refine x_lload dX12_near_18 rfl rfl ?_
  refine x_ldiv dX12_near_20 rfl nz ?_
  refine x_lstore dX12_near_21 rfl (by decide) ?_
  refine x_lload dX12_near_23 rfl rfl ?_
  refine x_lload dX12_near_25 rfl rfl ?_
  refine x_lrem dX12_near_27 rfl nz ?_
  refine x_lconst dX12_near_28 rfl lC_0 ?_
  refine x_lcmp dX12_near_29 rfl ?_
  refine x_if_ge (tgt := 39) dX12_near_30 rfl rfl (fun c30 => ?_) (fun c30 => ?_)
  · exact fin _ (by rw [d1, f2]; have := (lg_cmp_ge _ _).mp c30; rw [Int64.le_iff_toInt_le, d3] at this; have e0 : (0 : Int64).toInt = 0 := rfl; omega) _ rfl rfl rfl rfl
  · refine x_lload dX12_near_33 rfl rfl ?_
    refine x_lconst dX12_near_35 rfl lC_1 ?_
    refine x_lsub dX12_near_36 rfl ?_
    refine x_lstore dX12_near_37 rfl (by decide) ?_
    refine fin _ ?_ _ rfl rfl rfl rfl
    have : ¬ (0 : Int64) ≤ _ := mt (lg_cmp_ge _ _).mpr c30
    rw [Int64.le_iff_toInt_le, d3] at this
    have e0 : (0 : Int64).toInt = 0 := rfl
    rw [f1 (by omega), fb_subL (by rw [d1, e1]; omega) (by rw [d1, e1]; omega), d1, e1]
end MOD

