/-! EightPartsModel: products -/
theorem and1v (x : Int64) : x &&& 1 = 0 ↔ x.toInt % 2 = 0 := by
  have e : (x &&& 1).toBitVec.toNat = x.toBitVec.toNat % 2 := by
    show (x.toBitVec &&& (1 : Int64).toBitVec).toNat = _
    rw [BitVec.toNat_and]
    show x.toBitVec.toNat &&& 1 = _
    exact Nat.and_one_is_mod _
  have e2 : x.toInt % 2 = ((x.toBitVec.toNat % 2 : Nat) : Int) := by
    show x.toBitVec.toInt % 2 = _
    rw [BitVec.toInt_eq_toNat_cond]
    split <;> omega
  rw [e2]
  constructor
  · intro h
    rw [h] at e
    have : (0 : Int64).toBitVec.toNat = 0 := rfl
    omega
  · intro h
    apply Int64.toBitVec_inj.mp
    apply BitVec.eq_of_toNat_eq
    rw [e]
    show _ = 0
    omega
theorem lrem2 (x : Int64) : x - x / 2 * 2 = 0 ↔ x &&& 1 = 0 := by
  rw [and1v]
  have h := fb_rngL x
  have e2 : (2 : Int64).toInt = 2 := rfl
  have hb : -4611686018427387904 ≤ x.toInt.tdiv 2 ∧ x.toInt.tdiv 2 ≤ 4611686018427387903 := by
    rcases Int.le_total 0 x.toInt with q | q
    · rw [Int.tdiv_eq_ediv_of_nonneg q]; omega
    · have : x.toInt.tdiv 2 = -((-x.toInt) / 2) := by
        rw [← Int.tdiv_eq_ediv_of_nonneg (by omega), Int.neg_tdiv, Int.neg_neg]
      omega
  have ed : (x / 2).toInt = x.toInt.tdiv 2 := by
    rw [Int64.toInt_div, e2, fb_bmodL (by omega) (by omega)]
  have em := Int.tmod_add_tdiv_mul x.toInt 2
  have hm : -2 < x.toInt.tmod 2 ∧ x.toInt.tmod 2 < 2 := by
    rcases Int.le_total 0 x.toInt with q | q
    · have := Int.tmod_nonneg 2 q
      have := Int.tmod_lt_of_pos x.toInt (b := 2) (by decide)
      omega
    · have e : x.toInt.tmod 2 = -((-x.toInt).tmod 2) := by rw [Int.neg_tmod, Int.neg_neg]
      have := Int.tmod_nonneg 2 (show 0 ≤ -x.toInt by omega)
      have := Int.tmod_lt_of_pos (-x.toInt) (b := 2) (by decide)
      omega
  have eq : (x - x / 2 * 2).toInt = x.toInt.tmod 2 := by
    have m1 : (x / 2 * 2).toInt = x.toInt.tdiv 2 * 2 := by
      rw [fb_mulL (by rw [ed, e2]; omega) (by rw [ed, e2]; omega), ed, e2]
    rw [fb_subL (by rw [m1]; omega) (by rw [m1]; omega), m1]
    omega
  constructor
  · intro z
    have := congrArg Int64.toInt z
    rw [eq] at this
    have e0 : (0 : Int64).toInt = 0 := rfl
    omega
  · intro z
    apply Int64.toInt_inj.mp
    rw [eq]
    show _ = (0 : Int)
    omega
/-- a summand -/
def zTm (f g : Nat → Int32) (mx my : Nat) (i k : Nat) : Int64 :=
  let a := (f i).toInt64 * (g k).toInt64 * (csS.getD (8 * i + k) 0).toInt64
  let b := if ¬ mx = 0 ∧ 0 < i then -a else a
  if ¬ my = 0 ∧ 0 < k then -b else b
def zAi (t : Nat → Nat → Int64) (i : Nat) : Nat → (Nat → Int64) → Nat → Int64
  | 0, w => w
  | k + 1, w => vp_updL (zAi t i k w) (i ^^^ k) (zAi t i k w (i ^^^ k) + t i k)
def zAo (t : Nat → Nat → Int64) : Nat → Nat → Int64
  | 0 => fun _ => 0
  | i + 1 => zAi t i 8 (zAo t i)
theorem xor8 : ∀ i, i < 8 → ∀ k, k < 8 → ∀ p, p < 8 → (p = i ^^^ k ↔ k = i ^^^ p) := by decide +kernel
theorem xor8l : ∀ i, i < 8 → ∀ k, k < 8 → i ^^^ k < 8 ∧ nI i ^^^ nI k = nI (i ^^^ k) := by decide +kernel
theorem zAi_at (t : Nat → Nat → Int64) (w : Nat → Int64) {i : Nat} (hi : i < 8) : ∀ k, k ≤ 8 → ∀ p, p < 8 → zAi t i k w p = if i ^^^ p < k then w p + t i (i ^^^ p) else w p
  | 0, _, p, _ => by rw [if_neg (by omega)]; rfl
  | k + 1, hk, p, hp => by
    have ih := zAi_at t w hi k (by omega)
    rw [zAi]
    unfold vp_updL
    have hx := xor8 i hi k (by omega) p hp
    by_cases e : p = i ^^^ k
    · have ek := hx.mp e
      rw [if_pos e, ← e, ih p hp, if_neg (by omega), if_pos (by omega), ← ek]
    · have ek : k ≠ i ^^^ p := fun z => e (hx.mpr z)
      rw [if_neg e, ih p hp]
      by_cases q : i ^^^ p < k
      · rw [if_pos q, if_pos (by omega)]
      · rw [if_neg q, if_neg (by omega)]
theorem zAo_at (t : Nat → Nat → Int64) {p : Nat} (hp : p < 8) : zAo t 8 p = 0 + t 0 (0 ^^^ p) + t 1 (1 ^^^ p) + t 2 (2 ^^^ p) + t 3 (3 ^^^ p) + t 4 (4 ^^^ p) + t 5 (5 ^^^ p) + t 6 (6 ^^^ p) + t 7 (7 ^^^ p) := by
  have s : ∀ i, i < 8 → zAo t (i + 1) p = zAo t i p + t i (i ^^^ p) := by
    intro i hi
    rw [zAo, zAi_at t _ hi 8 (Nat.le_refl _) p hp, if_pos (xor8l i hi p hp).1]
  rw [s 7 (by decide), s 6 (by decide), s 5 (by decide), s 4 (by decide), s 3 (by decide), s 2 (by decide), s 1 (by decide), s 0 (by decide)]
  rfl
theorem i1L : (1 : Int32).toInt64 = 1 := by decide
theorem im1L : (-1 : Int32).toInt64 = -1 := by decide
theorem ng32 {x : Int32} (h : -20000 ≤ x.toInt ∧ x.toInt ≤ 20000) : (-x).toInt64 = -x.toInt64 := by
  apply Int64.toInt_inj.mp
  have e : x.toInt64.toInt = x.toInt := Int32.toInt_toInt64 x
  rw [Int32.toInt_toInt64, fb_negI (by omega), Int64.toInt_neg, e, fb_bmodL (by omega) (by omega)]
/-- a factor, mirrored or not -/
def zFm (m : Nat) (f : Nat → Int32) : Nat → Int32 := if m = 0 then f else zMir f
theorem mulm1 (a : Int64) : a * -1 = -a := by rw [Int64.mul_neg, Int64.mul_one]
theorem zTm_eq {f g : Nat → Int32} {mx my : Nat} (hf : zBd f) (hg : zBd g) {i k : Nat} (hi : i < 8) (hk : k < 8) : zTm f g mx my i k = (zFm mx f i).toInt64 * (zFm my g k).toInt64 * (csS.getD (8 * i + k) 0).toInt64 := by
  unfold zTm zFm zMir
  have nf := ng32 (hf i hi)
  have ng := ng32 (hg k hk)
  by_cases e1 : mx = 0 <;> by_cases e2 : my = 0 <;> by_cases e3 : i = 0 <;> by_cases e4 : k = 0 <;> simp [e1, e2, e3, e4, Nat.pos_iff_ne_zero, nf, ng, Int64.neg_mul, Int64.mul_neg] <;> (first | rfl | (simp [e3] at nf; rfl) | skip)
theorem sm1 (a b c : Int64) : a * b * (1 : Int32).toInt64 = a * b := by rw [i1L, Int64.mul_one]
theorem zAo_M4 {f g : Nat → Int32} {t : Nat → Nat → Int64} (ht : ∀ i, i < 8 → ∀ k, k < 8 → t i k = (f i).toInt64 * (g k).toInt64 * (csS.getD (8 * i + k) 0).toInt64) : ∀ p, p < 8 → zAo t 8 p = zM4 f g p := by
  intro p hp
  rw [zAo_at t hp]
  have o1 : ∀ a : Int64, a * (1 : Int32).toInt64 = a := fun a => by rw [i1L, Int64.mul_one]
  have o2 : ∀ a : Int64, a * (-1 : Int32).toInt64 = -a := fun a => by rw [im1L, mulm1]
  have o3 : ∀ a b : Int64, a + -b = a - b := fun a b => (Int64.sub_eq_add_neg a b).symm
  have o4 : ∀ a : Int64, 0 + a = a := Int64.zero_add
  rcases (show p = 0 ∨ p = 1 ∨ p = 2 ∨ p = 3 ∨ p = 4 ∨ p = 5 ∨ p = 6 ∨ p = 7 by omega) with rfl | rfl | rfl | rfl | rfl | rfl | rfl | rfl
  all_goals
    rw [ht _ (by decide) _ (by decide), ht _ (by decide) _ (by decide), ht _ (by decide) _ (by decide), ht _ (by decide) _ (by decide), ht _ (by decide) _ (by decide), ht _ (by decide) _ (by decide), ht _ (by decide) _ (by decide), ht _ (by decide) _ (by decide)]
    simp [csS, List.getD, o1, o2, o3, zM4, mulm1]
section MOD
variable {G : xG} {l : Launch} {d : Nat} {h : xH} {Q : Option Value → xH → Prop}
theorem m_comes {t : Nat} {w : Nat → Int64} (hd : 1 ≤ d) (hC : Cs h) (ht : t < 155) (hw : h.1 113 = (1, 8, xJ w)) (Kt : zIn w → ∀ h2, mV [t] [] h h2 → pl h2 t = c8 (zNar w) → Q (some (.int (nI 1))) h2) (Kf : ¬ zIn w → Q (some (.int (nI 0))) h) : xCt G l mX12_comes d [.ref 110, .int (nI t)] h 0 0 Q := by
  have v := hC.v (a := 112) rfl
  have hC0 := hC
  refine xCt_of (by decide) (Nat.le_of_ble_eq_true rfl) ?_
  refine x_iconst dX12_comes_0 rfl iC_0 ?_
  refine x_istore_n (i := 2) dX12_comes_1 rfl rfl (by decide) ?_
  have key := xloop (P := fun i => (∀ j, j < i → ¬ (w j < -20000) ∧ w j ≤ 20000) → xWP G l mX12_comes d (zM G Q) 0 0 2 (xls [(0, .ref 110), (1, .int (nI t)), (2, .int (nI i))]) [] h) 8 (by
    intro i hi ih hj
    refine x_iload_n (i := 2) dX12_comes_2 rfl rfl rfl ?_
    refine x_bipush dX12_comes_3 rfl bC_8 ?_
    refine x_jc_ge (tgt := 34) dX12_comes_5 rfl rfl (by omega) (by omega) (fun c5 => ?_) (fun c5 => ?_)
    · obtain rfl : i = 8 := by omega
      have zi : zIn w := fun j h8 => hj j h8
      refine x_iconst dX12_comes_34 rfl iC_0 ?_
      refine x_istore_n (i := 2) dX12_comes_35 rfl rfl (by decide) ?_
      have key2 := xloop (P := fun i => xWP G l mX12_comes d (zM G Q) 0 0 36 (xls [(0, .ref 110), (1, .int (nI t)), (2, .int (nI i))]) [] (hs h 112 (0, 1240, xI (mrow (iv h 112) t (zNar w) i)))) 8 (by
        intro i hi ih
        have hC1 := hC.setI (f := mrow (iv h 112) t (zNar w) i) v (Or.inl rfl) (by decide)
        have hC := hC1
        have hw1 := hs_ne (c := (0, 1240, xI (mrow (iv h 112) t (zNar w) i))) (show 113 ≠ 112 by decide) hw
        refine x_iload_n (i := 2) dX12_comes_36 rfl rfl rfl ?_
        refine x_bipush dX12_comes_37 rfl bC_8 ?_
        refine x_jc_ge (tgt := 66) dX12_comes_39 rfl rfl (by omega) (by omega) (fun c39 => ?_) (fun c39 => ?_)
        · obtain rfl : i = 8 := by omega
          refine x_iconst dX12_comes_66 rfl iC_1 ?_
          refine x_ireturn dX12_comes_67 rfl rfl ?_
          obtain ⟨k1, k2⟩ := mV_row (x := t) (f := zNar w) hC0 ht (fun _ => zBd_nar zi)
          exact Kt zi _ k1 k2
        · refine x_aload_n (i := 0) dX12_comes_42 rfl rfl rfl ?_
          refine x_getC dX12_comes_43 rfl fX12_17 hC rfl F_110_2 ?_
          refine x_bipush dX12_comes_46 rfl bC_8 ?_
          refine x_iload_n (i := 1) dX12_comes_48 rfl rfl rfl ?_
          refine x_imul dX12_comes_49 rfl ?_
          refine x_iload_n (i := 2) dX12_comes_50 rfl rfl rfl ?_
          refine x_iadd dX12_comes_51 rfl ?_
          rw [nI_8]
          refine x_aload_n (i := 0) dX12_comes_52 rfl rfl rfl ?_
          refine x_getC dX12_comes_53 rfl fX12_20 hC rfl F_110_3 ?_
          refine x_iload_n (i := 2) dX12_comes_56 rfl rfl rfl ?_
          refine x_lald dX12_comes_57 rfl hw1 rfl (by omega) (by decide) ?_
          refine x_l2i dX12_comes_58 rfl ?_
          refine x_iastT dX12_comes_59 rfl rfl (by omega) (by decide) ?_
          rw [show upd (mrow (iv h 112) t (zNar w) i) (8 * t + i) (w i).toInt32 = mrow (iv h 112) t (zNar w) (i + 1) from mrow_s _ _ (zNar w) i]
          refine x_iinc dX12_comes_60 rfl rfl (inc1 _) ?_
          refine x_goto (tgt := 36) dX12_comes_63 rfl ?_
          exact x_to (ih c39) ⟨rfl, rfl, rfl, trivial⟩) 0 (Nat.zero_le _)
      rw [mrow_0, hs_self v] at key2
      exact x_to key2 ⟨rfl, rfl, rfl, trivial⟩
    · refine x_aload_n (i := 0) dX12_comes_8 rfl rfl rfl ?_
      refine x_getC dX12_comes_9 rfl fX12_20 hC rfl F_110_3 ?_
      refine x_iload_n (i := 2) dX12_comes_12 rfl rfl rfl ?_
      refine x_lald dX12_comes_13 rfl hw rfl (by omega) (by decide) ?_
      refine x_ldc2 dX12_comes_14 rfl cX12_99 ?_
      refine x_ldc2 dX12_comes_17 rfl cX12_101 ?_
      refine x_callS0 (As := [_, _, _]) (d2 := d - 1) dX12_comes_20 rfl kX12_95 okX12_in (by omega) rfl rfl (Nat.le_of_ble_eq_true rfl) (m_inL (fun z => ?_) (fun z => ?_))
      · refine x_if_ne_f (tgt := 28) dX12_comes_23 rfl rfl nI_0 ?_
        refine x_iconst dX12_comes_26 rfl iC_0 ?_
        refine x_ireturn dX12_comes_27 rfl rfl ?_
        exact Kf (fun q => z ⟨Int64.not_lt.mp (q i c5).1, (q i c5).2⟩)
      · refine x_if_ne_t (tgt := 28) dX12_comes_23 rfl nb1 ?_
        refine x_iinc dX12_comes_28 rfl rfl (inc1 _) ?_
        refine x_goto (tgt := 2) dX12_comes_31 rfl ?_
        exact x_to (ih c5 (lt_s hj ⟨Int64.not_lt.mpr z.1, z.2⟩)) ⟨rfl, rfl, rfl, trivial⟩) 0 (Nat.zero_le _) (fun j hj => absurd hj (Nat.not_lt_zero j))
  exact x_to key ⟨rfl, rfl, rfl, trivial⟩
theorem iv111 {h : xH} (hC : Cs h) {j : Nat} (hj : j < 64) : iv h 111 j = csS.getD j 0 := by
  unfold iv
  rw [hC.2.2.2.2 j hj]
theorem m_isProduct {x y mx my : Nat} (hC : Cs h) (hx : x < 155) (hy : y < 155) (hmx : mx < 2) (hmy : my < 2) (bx : zBd (pl h x)) (bY : zBd (pl h y))
    (Kt : zEven (zM4 (zFm mx (pl h x)) (zFm my (pl h y))) → ∀ h2 w, mV [] [113] h h2 → h2.1 113 = (1, 8, xJ w) → (∀ p, p < 8 → w p = zHalf (zM4 (zFm mx (pl h x)) (zFm my (pl h y))) p) → Q (some (.int (nI 1))) h2)
    (Kf : ¬ zEven (zM4 (zFm mx (pl h x)) (zFm my (pl h y))) → ∀ h2, mV [] [113] h h2 → Q (some (.int (nI 0))) h2) : xCt G l mX12_isProduct d [.ref 110, .int (nI x), .int (nI y), .int (nI mx), .int (nI my)] h 0 0 Q := by
  have v := hC.v (a := 112) rfl
  have v1 := hC.v (a := 111) rfl
  have v3 := hC.j (a := 113) rfl
  have hC0 := hC
  refine xCt_of (by decide) (Nat.le_of_ble_eq_true rfl) ?_
  refine x_iconst dX12_isProduct_0 rfl iC_0 ?_
  refine x_istore dX12_isProduct_1 rfl (by decide) ?_
  have key := xloop (P := fun i => xWP G l mX12_isProduct d (zM G Q) 0 0 3 (xls [(0, .ref 110), (1, .int (nI x)), (2, .int (nI y)), (3, .int (nI mx)), (4, .int (nI my)), (5, .int (nI i))]) [] (hs h 113 (1, 8, xJ (xF (fun _ => 0) (jv h 113) i)))) 8 (by
    intro i hi ih
    have hC := hC0.setJ (f := xF (fun _ => 0) (jv h 113) i) v3
    refine x_iload dX12_isProduct_3 rfl rfl ?_
    refine x_bipush dX12_isProduct_5 rfl bC_8 ?_
    refine x_jc_ge (tgt := 24) dX12_isProduct_7 rfl rfl (by omega) (by omega) (fun c7 => ?_) (fun c7 => ?_)
    · obtain rfl : i = 8 := by omega
      refine x_topJ (f2 := zAo (zTm (pl h x) (pl h y) mx my) 0) (fun j hj => if_pos hj) (by decide) ?_
      refine x_iconst dX12_isProduct_24 rfl iC_0 ?_
      refine x_istore dX12_isProduct_25 rfl (by decide) ?_
      have keyO := xloop (P := fun i => xWP G l mX12_isProduct d (zM G Q) 0 0 27 (xls [(0, .ref 110), (1, .int (nI x)), (2, .int (nI y)), (3, .int (nI mx)), (4, .int (nI my)), (5, .int (nI i))]) [] (hs h 113 (1, 8, xJ (zAo (zTm (pl h x) (pl h y) mx my) i)))) 8 (by
        intro i hi ihO
        refine x_iload dX12_isProduct_27 rfl rfl ?_
        refine x_bipush dX12_isProduct_29 rfl bC_8 ?_
        refine x_jc_ge (tgt := 144) dX12_isProduct_31 rfl rfl (by omega) (by omega) (fun c31 => ?_) (fun c31 => ?_)
        · obtain rfl : i = 8 := by omega
          have eM : ∀ p, p < 8 → zAo (zTm (pl h x) (pl h y) mx my) 8 p = zM4 (zFm mx (pl h x)) (zFm my (pl h y)) p := zAo_M4 (fun i hi k hk => zTm_eq bx bY hi hk)
          refine x_topJ (f2 := zM4 (zFm mx (pl h x)) (zFm my (pl h y))) eM (by decide) ?_
          generalize zM4 (zFm mx (pl h x)) (zFm my (pl h y)) = M at *
          refine x_iconst dX12_isProduct_144 rfl iC_1 ?_
          refine x_istore dX12_isProduct_145 rfl (by decide) ?_
          refine x_iconst dX12_isProduct_147 rfl iC_0 ?_
          refine x_istore dX12_isProduct_148 rfl (by decide) ?_
          have keyH := xloop (P := fun i => ∀ f, (f = nI 1 ∧ (∀ j, j < i → M j &&& 1 = 0)) ∨ (f = nI 0 ∧ ¬ (∀ j, j < i → M j &&& 1 = 0)) → xWP G l mX12_isProduct d (zM G Q) 0 0 150 (xls [(0, .ref 110), (5, .int f), (6, .int (nI i))]) [] (hs h 113 (1, 8, xJ (xF (zHalf M) M i)))) 8 (by
            intro i hi ihH f hf
            have hC := hC0.setJ (f := xF (zHalf M) M i) v3
            have ei : xF (zHalf M) M i i = M i := if_neg (by omega)
            refine x_iload dX12_isProduct_150 rfl rfl ?_
            refine x_bipush dX12_isProduct_152 rfl bC_8 ?_
            refine x_jc_ge (tgt := 204) dX12_isProduct_154 rfl rfl (by omega) (by omega) (fun c154 => ?_) (fun c154 => ?_)
            · obtain rfl : i = 8 := by omega
              have mv : mV [] [113] h (hs h 113 (1, 8, xJ (xF (zHalf M) M 8))) := mV_o hC xSm.hs1 (by decide)
              refine x_iload dX12_isProduct_204 rfl rfl ?_
              rcases hf with ⟨rfl, z⟩ | ⟨rfl, z⟩
              · refine x_ireturn dX12_isProduct_206 rfl rfl ?_
                exact Kt z _ _ mv hs_eq (fun p hp => if_pos hp)
              · refine x_ireturn dX12_isProduct_206 rfl rfl ?_
                exact Kf z _ mv
            · have nxt : ∀ f2, (f2 = nI 1 ∧ (∀ j, j < i + 1 → M j &&& 1 = 0)) ∨ (f2 = nI 0 ∧ ¬ (∀ j, j < i + 1 → M j &&& 1 = 0)) → xWP G l mX12_isProduct d (zM G Q) 0 0 183 (xls [(0, .ref 110), (6, .int (nI i))]) [.int f2] (hs h 113 (1, 8, xJ (xF (zHalf M) M i))) := by
                intro f2 hf2
                refine x_istore dX12_isProduct_183 rfl (by decide) ?_
                refine x_aload_n (i := 0) dX12_isProduct_185 rfl rfl rfl ?_
                refine x_getC dX12_isProduct_186 rfl fX12_20 hC rfl F_110_3 ?_
                refine x_iload dX12_isProduct_189 rfl rfl ?_
                refine x_dup2 dX12_isProduct_191 rfl rfl rfl ?_
                refine x_lald dX12_isProduct_192 rfl hs_eq rfl c154 (by decide) ?_
                rw [ei]
                refine x_ldc2 dX12_isProduct_193 rfl cX12_103 ?_
                refine x_ldiv dX12_isProduct_196 rfl (by decide) ?_
                refine x_lastT dX12_isProduct_197 rfl rfl (by omega) (by decide) ?_
                rw [show vp_updL (xF (zHalf M) M i) i (M i / 2) = xF (zHalf M) M (i + 1) from xF_updL (zHalf M) M i]
                refine x_iinc dX12_isProduct_198 rfl rfl (inc1 _) ?_
                refine x_goto (tgt := 150) dX12_isProduct_201 rfl ?_
                exact x_to (ihH c154 f2 hf2) ⟨rfl, rfl, rfl, trivial⟩
              rcases hf with ⟨rfl, z⟩ | ⟨rfl, z⟩
              · refine x_iload dX12_isProduct_157 rfl rfl ?_
                refine x_if_eq_f (tgt := 182) dX12_isProduct_159 rfl rfl nb1 ?_
                refine x_aload_n (i := 0) dX12_isProduct_162 rfl rfl rfl ?_
                refine x_getC dX12_isProduct_163 rfl fX12_20 hC rfl F_110_3 ?_
                refine x_iload dX12_isProduct_166 rfl rfl ?_
                refine x_lald dX12_isProduct_168 rfl hs_eq rfl c154 (by decide) ?_
                rw [ei]
                refine x_ldc2 dX12_isProduct_169 rfl cX12_103 ?_
                refine x_lrem dX12_isProduct_172 rfl (by decide) ?_
                refine x_lconst dX12_isProduct_173 rfl lC_0 ?_
                refine x_lcmp dX12_isProduct_174 rfl ?_
                refine x_if_ne (tgt := 182) dX12_isProduct_175 rfl rfl (fun c175 => ?_) (fun c175 => ?_)
                · refine x_iconst dX12_isProduct_182 rfl iC_0 ?_
                  exact x_to (nxt (nI 0) (Or.inr ⟨rfl, fun q => c175 ((lg_cmp_eq _ _).mpr ((lrem2 _).mpr (q i (by omega))))⟩)) ⟨rfl, rfl, trivial⟩
                · refine x_iconst dX12_isProduct_178 rfl iC_1 ?_
                  refine x_goto (tgt := 183) dX12_isProduct_179 rfl ?_
                  exact x_to (nxt (nI 1) (Or.inl ⟨rfl, lt_s z ((lrem2 _).mp ((lg_cmp_eq _ _).mp c175))⟩)) ⟨rfl, rfl, trivial⟩
              · refine x_iload dX12_isProduct_157 rfl rfl ?_
                refine x_if_eq_t (tgt := 182) dX12_isProduct_159 rfl nI_0 ?_
                refine x_iconst dX12_isProduct_182 rfl iC_0 ?_
                exact x_to (nxt (nI 0) (Or.inr ⟨rfl, fun q => z (fun j hj => q j (by omega))⟩)) ⟨rfl, rfl, trivial⟩) 0 (Nat.zero_le _) (nI 1) (Or.inl ⟨rfl, fun j hj => absurd hj (Nat.not_lt_zero j)⟩)
          rw [xF_0] at keyH
          exact x_to keyH ⟨rfl, rfl, rfl, trivial⟩
        · refine x_iconst dX12_isProduct_34 rfl iC_0 ?_
          refine x_istore dX12_isProduct_35 rfl (by decide) ?_
          have keyI := xloop (P := fun k => xWP G l mX12_isProduct d (zM G Q) 0 0 37 (xls [(0, .ref 110), (1, .int (nI x)), (2, .int (nI y)), (3, .int (nI mx)), (4, .int (nI my)), (5, .int (nI i)), (6, .int (nI k))]) [] (hs h 113 (1, 8, xJ (zAi (zTm (pl h x) (pl h y) mx my) i k (zAo (zTm (pl h x) (pl h y) mx my) i))))) 8 (by
            intro k hk ihI
            have hC := hC0.setJ (f := zAi (zTm (pl h x) (pl h y) mx my) i k (zAo (zTm (pl h x) (pl h y) mx my) i)) v3
            have w2 := hs_ne (c := (1, 8, xJ (zAi (zTm (pl h x) (pl h y) mx my) i k (zAo (zTm (pl h x) (pl h y) mx my) i)))) (show 112 ≠ 113 by decide) v
            have w1 := hs_ne (c := (1, 8, xJ (zAi (zTm (pl h x) (pl h y) mx my) i k (zAo (zTm (pl h x) (pl h y) mx my) i)))) (show 111 ≠ 113 by decide) v1
            generalize eW : zAi (zTm (pl h x) (pl h y) mx my) i k (zAo (zTm (pl h x) (pl h y) mx my) i) = W at *
            refine x_iload dX12_isProduct_37 rfl rfl ?_
            refine x_bipush dX12_isProduct_39 rfl bC_8 ?_
            refine x_jc_ge (tgt := 138) dX12_isProduct_41 rfl rfl (by omega) (by omega) (fun c41 => ?_) (fun c41 => ?_)
            · obtain rfl : k = 8 := by omega
              refine x_iinc dX12_isProduct_138 rfl rfl (inc1 _) ?_
              refine x_goto (tgt := 27) dX12_isProduct_141 rfl ?_
              rw [← eW]
              exact x_to (ihO c31) ⟨rfl, rfl, rfl, rfl, rfl, rfl, trivial⟩
            · obtain ⟨xl, xe⟩ := xor8l i c31 k c41
              refine x_aload_n (i := 0) dX12_isProduct_44 rfl rfl rfl ?_
              refine x_getC dX12_isProduct_45 rfl fX12_17 hC rfl F_110_2 ?_
              refine x_bipush dX12_isProduct_48 rfl bC_8 ?_
              refine x_iload_n (i := 1) dX12_isProduct_50 rfl rfl rfl ?_
              refine x_imul dX12_isProduct_51 rfl ?_
              refine x_iload dX12_isProduct_52 rfl rfl ?_
              refine x_iadd dX12_isProduct_54 rfl ?_
              rw [nI_8]
              refine x_iald dX12_isProduct_55 rfl w2 rfl (by omega) (by decide) ?_
              refine x_i2l dX12_isProduct_56 rfl ?_
              refine x_aload_n (i := 0) dX12_isProduct_57 rfl rfl rfl ?_
              refine x_getC dX12_isProduct_58 rfl fX12_17 hC rfl F_110_2 ?_
              refine x_bipush dX12_isProduct_61 rfl bC_8 ?_
              refine x_iload_n (i := 2) dX12_isProduct_63 rfl rfl rfl ?_
              refine x_imul dX12_isProduct_64 rfl ?_
              refine x_iload dX12_isProduct_65 rfl rfl ?_
              refine x_iadd dX12_isProduct_67 rfl ?_
              rw [nI_8]
              refine x_iald dX12_isProduct_68 rfl w2 rfl (by omega) (by decide) ?_
              refine x_i2l dX12_isProduct_69 rfl ?_
              refine x_lmul dX12_isProduct_70 rfl ?_
              refine x_aload_n (i := 0) dX12_isProduct_71 rfl rfl rfl ?_
              refine x_getC dX12_isProduct_72 rfl fX12_13 hC rfl F_110_1 ?_
              refine x_bipush dX12_isProduct_75 rfl bC_8 ?_
              refine x_iload dX12_isProduct_77 rfl rfl ?_
              refine x_imul dX12_isProduct_79 rfl ?_
              refine x_iload dX12_isProduct_80 rfl rfl ?_
              refine x_iadd dX12_isProduct_82 rfl ?_
              rw [nI_8]
              refine x_iald dX12_isProduct_83 rfl w1 rfl (by omega) (by decide) ?_
              refine x_i2l dX12_isProduct_84 rfl ?_
              refine x_lmul dX12_isProduct_85 rfl ?_
              rw [iv111 hC0 (by omega), ← pl_lt c31, ← pl_lt c41]
              have fin : ∀ tt, tt = zTm (pl h x) (pl h y) mx my i k → xWP G l mX12_isProduct d (zM G Q) 0 0 117 (xls [(0, .ref 110), (1, .int (nI x)), (2, .int (nI y)), (3, .int (nI mx)), (4, .int (nI my)), (5, .int (nI i)), (6, .int (nI k)), (7, .long tt)]) [] (hs h 113 (1, 8, xJ W)) := by
                intro tt et
                subst et
                refine x_aload_n (i := 0) dX12_isProduct_117 rfl rfl rfl ?_
                refine x_getC dX12_isProduct_118 rfl fX12_20 hC rfl F_110_3 ?_
                refine x_iload dX12_isProduct_121 rfl rfl ?_
                refine x_iload dX12_isProduct_123 rfl rfl ?_
                refine x_ixor dX12_isProduct_125 rfl ?_
                rw [xe]
                refine x_dup2 dX12_isProduct_126 rfl rfl rfl ?_
                refine x_lald dX12_isProduct_127 rfl hs_eq rfl xl (by decide) ?_
                refine x_lload dX12_isProduct_128 rfl rfl ?_
                refine x_ladd dX12_isProduct_130 rfl ?_
                refine x_lastT dX12_isProduct_131 rfl rfl (by omega) (by decide) ?_
                refine x_iinc dX12_isProduct_132 rfl rfl (inc1 _) ?_
                refine x_goto (tgt := 37) dX12_isProduct_135 rfl ?_
                have q := ihI c41
                rw [zAi, eW] at q
                exact x_to q ⟨rfl, rfl, rfl, rfl, rfl, rfl, rfl, trivial⟩
              have fin2 : ∀ aa, aa = (if ¬ mx = 0 ∧ 0 < i then -((pl h x i).toInt64 * (pl h y k).toInt64 * (csS.getD (8 * i + k) 0).toInt64) else (pl h x i).toInt64 * (pl h y k).toInt64 * (csS.getD (8 * i + k) 0).toInt64) → xWP G l mX12_isProduct d (zM G Q) 0 0 102 (xls [(0, .ref 110), (1, .int (nI x)), (2, .int (nI y)), (3, .int (nI mx)), (4, .int (nI my)), (5, .int (nI i)), (6, .int (nI k)), (7, .long aa)]) [] (hs h 113 (1, 8, xJ W)) := by
                intro aa ea
                refine x_iload dX12_isProduct_102 rfl rfl ?_
                refine x_if_eq (tgt := 117) dX12_isProduct_104 rfl rfl (fun c104 => ?_) (fun c104 => ?_)
                · have m0 : my = 0 := (nI_eq (by omega) (by omega)).mp (c104.trans nI_0.symm)
                  refine x_to (fin aa ?_) ⟨rfl, rfl, rfl, rfl, rfl, rfl, rfl, rfl, trivial⟩
                  unfold zTm
                  rw [ea, if_neg (c := ¬ my = 0 ∧ 0 < k) (fun z => z.1 m0)]
                · have m0 : ¬ my = 0 := fun e => c104 (by rw [e]; exact nI_0)
                  refine x_iload dX12_isProduct_107 rfl rfl ?_
                  refine x_if_le (tgt := 117) dX12_isProduct_109 rfl rfl (fun c109 => ?_) (fun c109 => ?_)
                  · have k0 : k = 0 := by
                      have := (nI_leI (b := 0) (by omega) (by decide)).mp c109
                      omega
                    refine x_to (fin aa ?_) ⟨rfl, rfl, rfl, rfl, rfl, rfl, rfl, rfl, trivial⟩
                    unfold zTm
                    rw [ea, if_neg (c := ¬ my = 0 ∧ 0 < k) (by omega)]
                  · have k0 : 0 < k := by
                      rcases Nat.eq_zero_or_pos k with z | z
                      · rw [z] at c109
                        exact absurd (by decide) c109
                      · exact z
                    refine x_lload dX12_isProduct_112 rfl rfl ?_
                    refine x_lneg dX12_isProduct_114 rfl ?_
                    refine x_lstore dX12_isProduct_115 rfl (by decide) ?_
                    refine x_to (fin (-aa) ?_) ⟨rfl, rfl, rfl, rfl, rfl, rfl, rfl, rfl, trivial⟩
                    unfold zTm
                    rw [ea, if_pos (c := ¬ my = 0 ∧ 0 < k) ⟨m0, k0⟩]
              refine x_lstore dX12_isProduct_86 rfl (by decide) ?_
              refine x_iload_n (i := 3) dX12_isProduct_88 rfl rfl rfl ?_
              refine x_if_eq (tgt := 102) dX12_isProduct_89 rfl rfl (fun c89 => ?_) (fun c89 => ?_)
              · have m0 : mx = 0 := (nI_eq (by omega) (by omega)).mp (c89.trans nI_0.symm)
                exact x_to (fin2 _ (by rw [if_neg (fun z => z.1 m0)])) ⟨rfl, rfl, rfl, rfl, rfl, rfl, rfl, rfl, trivial⟩
              · have m0 : ¬ mx = 0 := fun e => c89 (by rw [e]; exact nI_0)
                refine x_iload dX12_isProduct_92 rfl rfl ?_
                refine x_if_le (tgt := 102) dX12_isProduct_94 rfl rfl (fun c94 => ?_) (fun c94 => ?_)
                · have i0 : i = 0 := by
                    have := (nI_leI (b := 0) (by omega) (by decide)).mp c94
                    omega
                  exact x_to (fin2 _ (by rw [if_neg (by omega)])) ⟨rfl, rfl, rfl, rfl, rfl, rfl, rfl, rfl, trivial⟩
                · have i0 : 0 < i := by
                    rcases Nat.eq_zero_or_pos i with z | z
                    · rw [z] at c94
                      exact absurd (by decide) c94
                    · exact z
                  refine x_lload dX12_isProduct_97 rfl rfl ?_
                  refine x_lneg dX12_isProduct_99 rfl ?_
                  refine x_lstore dX12_isProduct_100 rfl (by decide) ?_
                  exact x_to (fin2 _ (by rw [if_pos ⟨m0, i0⟩])) ⟨rfl, rfl, rfl, rfl, rfl, rfl, rfl, rfl, trivial⟩) 0 (Nat.zero_le _)
          exact x_to keyI ⟨rfl, rfl, rfl, rfl, rfl, rfl, rfl, trivial⟩) 0 (Nat.zero_le _)
      exact x_to keyO ⟨rfl, rfl, rfl, rfl, rfl, rfl, trivial⟩
    · refine x_aload_n (i := 0) dX12_isProduct_10 rfl rfl rfl ?_
      refine x_getC dX12_isProduct_11 rfl fX12_20 hC rfl F_110_3 ?_
      refine x_iload dX12_isProduct_14 rfl rfl ?_
      refine x_lconst dX12_isProduct_16 rfl lC_0 ?_
      refine x_lastT dX12_isProduct_17 rfl rfl (by omega) (by decide) ?_
      rw [xF_updL (fun _ => (0 : Int64))]
      refine x_iinc dX12_isProduct_18 rfl rfl (inc1 _) ?_
      refine x_goto (tgt := 3) dX12_isProduct_21 rfl ?_
      exact x_to (ih c7) ⟨rfl, rfl, rfl, rfl, rfl, rfl, trivial⟩) 0 (Nat.zero_le _)
  rw [xF_0, hs_self v3] at key
  exact x_to key ⟨rfl, rfl, rfl, rfl, rfl, rfl, trivial⟩
end MOD

