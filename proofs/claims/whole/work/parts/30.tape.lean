/-! EightParts$Tape and EightParts$Keeper -/
/-- length of the tape; how many are kept -/
def hTl (h : xH) (n : Nat) : Prop := (h.1 56).2.2 1 = .int (nI n)
def hKp (h : xH) (n : Nat) : Prop := (h.1 101).2.2 2 = .int (nI n)
def tB (four : Int32) (s : Nat) : Int32 := (four >>> (nI s &&& 31)).toInt8.toInt32.toInt8.toInt32
def zApp (g : Nat → Int32) (n : Nat) (four : Int32) : Nat → Int32 := upd (upd (upd (upd g n (tB four 24)) (n + 1) (tB four 16)) (n + 2) (tB four 8)) (n + 3) (tB four 0)
section TAPE
variable {G : xG} {l : Launch} {d : Nat} {h : xH} {Q : Option Value → xH → Prop}
theorem c_hasRoom {n : Nat} (hC : Cs h) (hn : hTl h n) (hn2 : n ≤ 200) (Kt : n + 20 ≤ 200 → Q (some (.int (nI 1))) h) (Kf : ¬ n + 20 ≤ 200 → Q (some (.int (nI 0))) h) : xCt G l mX8_hasRoom d [.ref 56] h 0 0 Q := by
  refine xCt_of (by decide) (Nat.le_of_ble_eq_true rfl) ?_
  refine x_aload_n (i := 0) dX8_hasRoom_0 rfl rfl rfl ?_
  refine x_getM (a := 56) dX8_hasRoom_1 rfl fX8_15 hC rfl hn ?_
  refine x_bipush dX8_hasRoom_4 rfl bC_20 ?_
  refine x_iadd dX8_hasRoom_6 rfl ?_
  rw [show nI n + nI 20 = nI (n + 20) from nI_add n 20]
  refine x_sipush dX8_hasRoom_7 rfl sC_200 ?_
  refine x_jc_gt (tgt := 17) dX8_hasRoom_10 rfl rfl (by omega) (by omega) (fun c10 => ?_) (fun c10 => ?_)
  · refine x_iconst dX8_hasRoom_17 rfl iC_0 ?_
    refine x_ireturn dX8_hasRoom_18 rfl rfl ?_
    exact Kf (by omega)
  · refine x_iconst dX8_hasRoom_13 rfl iC_1 ?_
    refine x_goto (tgt := 18) dX8_hasRoom_14 rfl ?_
    refine x_ireturn dX8_hasRoom_18 rfl rfl ?_
    exact Kt c10
theorem tp_step {n : Nat} {x : Int32} (hC : Cs h) (hn : hTl h n) : Cs (hs (hs h 57 (3, 200, xI (upd (iv h 57) n x))) 56 (108, 0, updV ((hs h 57 (3, 200, xI (upd (iv h 57) n x))).1 56).2.2 1 (.int (nI (n + 1))))) ∧ xSm [57, 56] h (hs (hs h 57 (3, 200, xI (upd (iv h 57) n x))) 56 (108, 0, updV ((hs h 57 (3, 200, xI (upd (iv h 57) n x))).1 56).2.2 1 (.int (nI (n + 1))))) ∧ hTl (hs (hs h 57 (3, 200, xI (upd (iv h 57) n x))) 56 (108, 0, updV ((hs h 57 (3, 200, xI (upd (iv h 57) n x))).1 56).2.2 1 (.int (nI (n + 1))))) (n + 1) ∧ iv (hs (hs h 57 (3, 200, xI (upd (iv h 57) n x))) 56 (108, 0, updV ((hs h 57 (3, 200, xI (upd (iv h 57) n x))).1 56).2.2 1 (.int (nI (n + 1))))) 57 = upd (iv h 57) n x := by
  have v57 : h.1 57 = (3, 200, xI (iv h 57)) := hC.i rfl (Or.inr (Or.inr rfl))
  have hC1 := hC.setI (f := upd (iv h 57) n x) v57 (Or.inr (Or.inr rfl)) (by decide)
  refine ⟨hC1.setF (ci := 8) rfl NF_56_1 (by decide), xSm.hs2, fv_eq, ?_⟩
  rw [iv_n (by decide), iv_hs]
theorem c_append {n : Nat} {four : Int32} (hC : Cs h) (hn : hTl h n) (hn2 : n + 4 ≤ 200) (K : ∀ h2, Cs h2 → xSm [57, 56] h h2 → hTl h2 (n + 4) → iv h2 57 = zApp (iv h 57) n four → Q none h2) : xCt G l mX8_append d [.ref 56, .int four] h 0 0 Q := by
  refine xCt_of (by decide) (Nat.le_of_ble_eq_true rfl) ?_
  have step : ∀ (s m : Nat) (sv : Int32) (h1 : xH), m < 200 → ¬ nI s < 0 → nI s + Int32.ofInt (-8) = sv → Cs h1 → hTl h1 m → (∀ h2, Cs h2 → xSm [57, 56] h1 h2 → hTl h2 (m + 1) → iv h2 57 = upd (iv h1 57) m (tB four s) → xWP G l mX8_append d (zM G Q) 0 0 3 (xls [(0, .ref 56), (1, .int four), (2, .int sv)]) [] h2) → xWP G l mX8_append d (zM G Q) 0 0 3 (xls [(0, .ref 56), (1, .int four), (2, .int (nI s))]) [] h1 := by
    intro s m sv h1 hm hs0 hsv hC hn kk
    have v57 : h1.1 57 = (3, 200, xI (iv h1 57)) := hC.i rfl (Or.inr (Or.inr rfl))
    have hC1 := hC.setI (f := upd (iv h1 57) m (tB four s)) v57 (Or.inr (Or.inr rfl)) (by decide)
    have hn1 : ((hs h1 57 (3, 200, xI (upd (iv h1 57) m (tB four s)))).1 56).2.2 1 = .int (nI m) := (fv_n (by decide)).trans hn
    refine x_iload_n (i := 2) dX8_append_3 rfl rfl rfl ?_
    refine x_if_lt_f (tgt := 46) dX8_append_4 rfl rfl hs0 ?_
    refine x_aload_n (i := 0) dX8_append_7 rfl rfl rfl ?_
    refine x_getM (a := 56) dX8_append_8 rfl fX8_15 hC rfl hn ?_
    refine x_sipush dX8_append_11 rfl sC_200 ?_
    refine x_jc_ge (tgt := 46) dX8_append_14 rfl rfl (by omega) (by omega) (fun c14 => ?_) (fun c14 => ?_)
    · omega
    refine x_aload_n (i := 0) dX8_append_17 rfl rfl rfl ?_
    refine x_getC dX8_append_18 rfl fX8_11 hC rfl F_56_0 ?_
    refine x_aload_n (i := 0) dX8_append_21 rfl rfl rfl ?_
    refine x_getM (a := 56) dX8_append_22 rfl fX8_15 hC rfl hn ?_
    refine x_iload_n (i := 1) dX8_append_25 rfl rfl rfl ?_
    refine x_iload_n (i := 2) dX8_append_26 rfl rfl rfl ?_
    refine x_ishr dX8_append_27 rfl ?_
    refine x_i2b dX8_append_28 rfl ?_
    refine x_bast dX8_append_29 rfl v57 rfl (by omega) (by decide) ?_
    refine x_aload_n (i := 0) dX8_append_30 rfl rfl rfl ?_
    refine x_dup dX8_append_31 rfl rfl ?_
    refine x_getM (a := 56) dX8_append_32 rfl fX8_15 hC1 rfl hn1 ?_
    refine x_iconst dX8_append_35 rfl iC_1 ?_
    refine x_iadd dX8_append_36 rfl ?_
    rw [show nI m + nI 1 = nI (m + 1) from nI_add m 1]
    refine x_putC (a := 56) dX8_append_37 rfl fX8_15 (fun q hq => by cases hq; rfl) hC1 rfl ⟨rfl, rfl⟩ ?_
    refine x_iinc dX8_append_40 rfl rfl hsv ?_
    refine x_goto (tgt := 3) dX8_append_43 rfl ?_
    obtain ⟨a1, a2, a3, a4⟩ := tp_step (x := tB four s) hC hn
    exact x_to (kk _ a1 a2 a3 a4) ⟨rfl, rfl, rfl, trivial⟩
  refine x_bipush dX8_append_0 rfl bC_24 ?_
  refine x_istore_n (i := 2) dX8_append_2 rfl rfl (by decide) ?_
  refine x_to (step 24 n (nI 16) h (by omega) (by decide) (by decide) hC hn (fun h2 hC2 s2 n2 e2 => ?_)) ⟨rfl, rfl, rfl, trivial⟩
  refine step 16 (n + 1) (nI 8) h2 (by omega) (by decide) (by decide) hC2 n2 (fun h3 hC3 s3 n3 e3 => ?_)
  refine step 8 (n + 2) (nI 0) h3 (by omega) (by decide) (by decide) hC3 n3 (fun h4 hC4 s4 n4 e4 => ?_)
  refine step 0 (n + 3) (-8) h4 (by omega) (by decide) (by decide) hC4 n4 (fun h5 hC5 s5 n5 e5 => ?_)
  refine x_iload_n (i := 2) dX8_append_3 rfl rfl rfl ?_
  refine x_if_lt_t (tgt := 46) dX8_append_4 rfl (by decide) ?_
  refine x_return dX8_append_46 rfl ?_
  refine K h5 hC5 ((((s2.tr s3).tr s4).tr s5).sub (by simp)) n5 ?_
  rw [e5, e4, e3, e2]
  rfl
theorem c_byteAt {n : Nat} {i : Nat} (hC : Cs h) (hn : hTl h n) (hn2 : n ≤ 200) (hi : i ≤ 200) (Kt : i < n → Q (some (.int (iv h 57 i &&& nI 255))) h) (Kf : n ≤ i → Q (some (.int (-1))) h) : xCt G l mX8_byteAt d [.ref 56, .int (nI i)] h 0 0 Q := by
  have v57 : h.1 57 = (3, 200, xI (iv h 57)) := hC.i rfl (Or.inr (Or.inr rfl))
  refine xCt_of (by decide) (Nat.le_of_ble_eq_true rfl) ?_
  refine x_iload_n (i := 1) dX8_byteAt_0 rfl rfl rfl ?_
  refine x_if_lt_f (tgt := 25) dX8_byteAt_1 rfl rfl (nI_pos (by omega)) ?_
  refine x_iload_n (i := 1) dX8_byteAt_4 rfl rfl rfl ?_
  refine x_aload_n (i := 0) dX8_byteAt_5 rfl rfl rfl ?_
  refine x_getM (a := 56) dX8_byteAt_6 rfl fX8_15 hC rfl hn ?_
  refine x_jc_ge (tgt := 25) dX8_byteAt_9 rfl rfl (by omega) (by omega) (fun c9 => ?_) (fun c9 => ?_)
  · refine x_iconst dX8_byteAt_25 rfl iC_m1 ?_
    refine x_ireturn dX8_byteAt_26 rfl rfl ?_
    exact Kf c9
  · refine x_aload_n (i := 0) dX8_byteAt_12 rfl rfl rfl ?_
    refine x_getC dX8_byteAt_13 rfl fX8_11 hC rfl F_56_0 ?_
    refine x_iload_n (i := 1) dX8_byteAt_16 rfl rfl rfl ?_
    refine x_bald dX8_byteAt_17 rfl v57 rfl (by omega) (by decide) ?_
    refine x_sipush dX8_byteAt_18 rfl sC_255 ?_
    refine x_iand dX8_byteAt_21 rfl ?_
    refine x_goto (tgt := 26) dX8_byteAt_22 rfl ?_
    refine x_ireturn dX8_byteAt_26 rfl rfl ?_
    exact Kt c9
end TAPE
theorem nI_mul8 (a b : Nat) : nI a * nI b = nI (a * b) := by
  unfold nI
  rw [← Int32.ofNat_mul]
/-- what the keeper holds: number s of the k-th is at 64 * k + 8 * s -/
def kpF (g : Nat → Int32) (k : Nat) (sl : Nat → Nat → Int32) (i : Nat) : Nat → Int32 := fun j => if 64 * k ≤ j ∧ j < 64 * k + 8 * i then sl ((j - 64 * k) / 8) ((j - 64 * k) % 8) else g j
theorem kpF_step (g : Nat → Int32) (k : Nat) (sl : Nat → Nat → Int32) (i : Nat) : va_cpy (sl i) (kpF g k sl i) 0 (64 * k + 8 * i) 8 = kpF g k sl (i + 1) := by
  funext j
  unfold va_cpy kpF
  split
  · next q =>
    rw [if_pos (by omega), show (j - 64 * k) / 8 = i by omega]
    congr 1
    omega
  · next q =>
    split
    · next q2 =>
      rw [if_pos (by omega)]
    · next q2 =>
      rw [if_neg (by omega)]
section KEEP
variable {G : xG} {l : Launch} {d : Nat} {h : xH} {Q : Option Value → xH → Prop}
theorem c_push {k : Nat} {ord : Int32} (hd : 1 ≤ d) (hC : Cs h) (hk : hKp h k) (hk6 : k ≤ 6)
    (Kt : k < 6 → ∀ h2, Cs h2 → xSm [103, 102, 101] h h2 → hKp h2 (k + 1) → iv h2 102 = upd (iv h 102) k ord → iv h2 103 = kpF (iv h 103) k (fun s => iv h (2 + s)) 8 → Q (some (.int (nI 1))) h2)
    (Kf : k = 6 → Q (some (.int (nI 0))) h) : xCt G l mX1_push d [.ref 101, .ref 1, .int ord] h 0 0 Q := by
  have v103 := hC.v (a := 103) rfl
  have v102 := hC.v (a := 102) rfl
  refine xCt_of (by decide) (Nat.le_of_ble_eq_true rfl) ?_
  refine x_aload_n (i := 0) dX1_push_0 rfl rfl rfl ?_
  refine x_getM (a := 101) dX1_push_1 rfl fX1_18 hC rfl hk ?_
  refine x_bipush dX1_push_4 rfl bC_6 ?_
  refine x_jc_lt (tgt := 11) dX1_push_6 rfl rfl (by omega) (by omega) (fun c6 => ?_) (fun c6 => ?_)
  · have key := xloop (P := fun i => xWP G l mX1_push d (zM G Q) 0 0 13 (xls [(0, .ref 101), (1, .ref 1), (2, .int ord), (3, .int (nI i))]) [] (hs h 103 (0, 384, xI (kpF (iv h 103) k (fun s => iv h (2 + s)) i)))) 8 (by
      intro i hi ih
      have hC1 := hC.setI (f := kpF (iv h 103) k (fun s => iv h (2 + s)) i) v103 (Or.inl rfl) (by decide)
      have hk1 : ((hs h 103 (0, 384, xI (kpF (iv h 103) k (fun s => iv h (2 + s)) i))).1 101).2.2 2 = .int (nI k) := (fv_n (by decide)).trans hk
      refine x_iload_n (i := 3) dX1_push_13 rfl rfl rfl ?_
      refine x_bipush dX1_push_14 rfl bC_8 ?_
      refine x_jc_ge (tgt := 50) dX1_push_16 rfl rfl (by omega) (by omega) (fun c16 => ?_) (fun c16 => ?_)
      · obtain rfl : i = 8 := by omega
        have hC2 := hC1.setI (f := upd (iv h 102) k ord) (hs_ne (by decide) v102) (Or.inl rfl) (by decide)
        have hk2 : ((hs (hs h 103 (0, 384, xI (kpF (iv h 103) k (fun s => iv h (2 + s)) 8))) 102 (0, 6, xI (upd (iv h 102) k ord))).1 101).2.2 2 = .int (nI k) := (fv_n (by decide)).trans hk1
        refine x_aload_n (i := 0) dX1_push_50 rfl rfl rfl ?_
        refine x_getC dX1_push_51 rfl fX1_11 hC1 rfl F_101_0 ?_
        refine x_aload_n (i := 0) dX1_push_54 rfl rfl rfl ?_
        refine x_getM (a := 101) dX1_push_55 rfl fX1_18 hC1 rfl hk1 ?_
        refine x_iload_n (i := 2) dX1_push_58 rfl rfl rfl ?_
        refine x_iast dX1_push_59 rfl (by first | assumption | exact hs_eq | exact hs_ne (by first | assumption | decide | omega) (by first | assumption | exact hs_eq | exact hs_ne (by first | assumption | decide | omega) (by first | assumption | exact hs_eq | exact hs_ne (by first | assumption | decide | omega) (by assumption)))) rfl (by omega) (by decide) ?_
        refine x_aload_n (i := 0) dX1_push_60 rfl rfl rfl ?_
        refine x_dup dX1_push_61 rfl rfl ?_
        refine x_getM (a := 101) dX1_push_62 rfl fX1_18 hC2 rfl hk2 ?_
        refine x_iconst dX1_push_65 rfl iC_1 ?_
        refine x_iadd dX1_push_66 rfl ?_
        rw [show nI k + nI 1 = nI (k + 1) from nI_add k 1]
        refine x_putC (a := 101) dX1_push_67 rfl fX1_18 (fun q hq => by cases hq; rfl) hC2 rfl ⟨rfl, rfl⟩ ?_
        refine x_iconst dX1_push_70 rfl iC_1 ?_
        refine x_ireturn dX1_push_71 rfl rfl ?_
        refine Kt c6 _ (hC2.setF rfl NF_101_2 (by decide)) (xSm.hs2.tr xSm.hs1) fv_eq ?_ ?_
        · rw [iv_n (by decide), iv_hs]
        · rw [iv_n (by decide), iv_n (by decide), iv_hs]
      · refine x_aload_n (i := 1) dX1_push_19 rfl rfl rfl ?_
        refine x_iload_n (i := 3) dX1_push_20 rfl rfl rfl ?_
        refine x_aaldC (t := 0) dX1_push_21 rfl hC1 rfl (by decide) rfl (by omega) (by decide) (csF_slot c16) ?_
        refine x_iconst dX1_push_22 rfl iC_0 ?_
        refine x_aload_n (i := 0) dX1_push_23 rfl rfl rfl ?_
        refine x_getC dX1_push_24 rfl fX1_15 hC1 rfl F_101_1 ?_
        refine x_aload_n (i := 0) dX1_push_27 rfl rfl rfl ?_
        refine x_getM (a := 101) dX1_push_28 rfl fX1_18 hC1 rfl hk1 ?_
        refine x_bipush dX1_push_31 rfl bC_64 ?_
        refine x_imul dX1_push_33 rfl ?_
        refine x_iload_n (i := 3) dX1_push_34 rfl rfl rfl ?_
        refine x_bipush dX1_push_35 rfl bC_8 ?_
        refine x_imul dX1_push_37 rfl ?_
        refine x_iadd dX1_push_38 rfl ?_
        refine x_bipush dX1_push_39 rfl bC_8 ?_
        rw [show nI k * nI 64 + nI i * nI 8 = nI (64 * k + 8 * i) by rw [nI_mul8, nI_mul8, nI_add, Nat.mul_comm, Nat.mul_comm i]]
        refine x_copy (sp := 0) (dp := 64 * k + 8 * i) (cn := 8) dX1_push_41 rfl aX1_22 (by decide) (hs_ne (by omega) (hC.v (csV_slot c16))) hs_eq rfl rfl rfl (by decide) (by omega) (by decide) (by decide) (fun i _ => rfl) hd (Nat.le_of_ble_eq_true rfl) ?_
        rw [hs_hs, show va_cpy (iv h (2 + i)) (kpF (iv h 103) k (fun s => iv h (2 + s)) i) 0 (64 * k + 8 * i) 8 = kpF (iv h 103) k (fun s => iv h (2 + s)) (i + 1) from kpF_step (iv h 103) k (fun s => iv h (2 + s)) i]
        refine x_iinc dX1_push_44 rfl rfl (inc1 _) ?_
        refine x_goto (tgt := 13) dX1_push_47 rfl ?_
        exact x_to (ih c16) ⟨rfl, rfl, rfl, rfl, trivial⟩) 0 (Nat.zero_le _)
    rw [show kpF (iv h 103) k (fun s => iv h (2 + s)) 0 = iv h 103 from funext fun j => if_neg (by omega), hs_self v103] at key
    refine x_iconst dX1_push_11 rfl iC_0 ?_
    refine x_istore_n (i := 3) dX1_push_12 rfl rfl (by decide) ?_
    exact x_to key ⟨rfl, rfl, rfl, rfl, trivial⟩
  · refine x_iconst dX1_push_9 rfl iC_0 ?_
    refine x_ireturn dX1_push_10 rfl rfl ?_
    exact Kf (by omega)
abbrev kpS : List Nat := [101, 2, 3, 4, 5, 6, 7, 8, 9]
theorem c_pop {k : Nat} (hd : 1 ≤ d) (hC : Cs h) (hk : hKp h k) (hk6 : k ≤ 6)
    (Kt : ∀ m, k = m + 1 → ∀ h2, Cs h2 → xSm kpS h h2 → hKp h2 m → (∀ s, s < 8 → iv h2 (2 + s) = fun j => iv h 103 (64 * m + 8 * s + j)) → Q (some (.int (iv h 102 m))) h2)
    (Kf : k = 0 → Q (some (.int (-1))) h) : xCt G l mX1_pop d [.ref 101, .ref 1] h 0 0 Q := by
  refine xCt_of (by decide) (Nat.le_of_ble_eq_true rfl) ?_
  rcases k with _ | m
  · refine x_aload_n (i := 0) dX1_pop_0 rfl rfl rfl ?_
    refine x_getM (a := 101) dX1_pop_1 rfl fX1_18 hC rfl hk ?_
    refine x_if_gt_f (tgt := 9) dX1_pop_4 rfl rfl (by decide) ?_
    refine x_iconst dX1_pop_7 rfl iC_m1 ?_
    refine x_ireturn dX1_pop_8 rfl rfl ?_
    exact Kf rfl
  · have hC0 := hC.setF (ci := 1) (a := 101) (kf := 2) (v := .int (nI m)) rfl NF_101_2 (by decide)
    refine x_aload_n (i := 0) dX1_pop_0 rfl rfl rfl ?_
    refine x_getM (a := 101) dX1_pop_1 rfl fX1_18 hC rfl hk ?_
    refine x_if_gt_t (tgt := 9) dX1_pop_4 rfl (nI_lt (a := 0) (by omega) (by omega)) ?_
    refine x_aload_n (i := 0) dX1_pop_9 rfl rfl rfl ?_
    refine x_dup dX1_pop_10 rfl rfl ?_
    refine x_getM (a := 101) dX1_pop_11 rfl fX1_18 hC rfl hk ?_
    refine x_iconst dX1_pop_14 rfl iC_1 ?_
    refine x_isub dX1_pop_15 rfl ?_
    rw [show nI (m + 1) - nI 1 = nI m from nI_pred m]
    refine x_putC (a := 101) dX1_pop_16 rfl fX1_18 (fun q hq => by cases hq; rfl) hC rfl ⟨rfl, rfl⟩ ?_
    refine x_iconst dX1_pop_19 rfl iC_0 ?_
    refine x_istore_n (i := 2) dX1_pop_20 rfl rfl (by decide) ?_
    have key := xloop (P := fun i => ∀ h1, Cs h1 → xSm kpS h h1 → hKp h1 m → (∀ s, s < i → iv h1 (2 + s) = fun j => iv h 103 (64 * m + 8 * s + j)) → xWP G l mX1_pop d (zM G Q) 0 0 21 (xls [(0, .ref 101), (1, .ref 1), (2, .int (nI i))]) [] h1) 8 (by
      intro i hi ih h1 hC1 hS1 hk1 e1
      have i103 : iv h1 103 = iv h 103 := hS1.iv (by decide)
      have i102 : iv h1 102 = iv h 102 := hS1.iv (by decide)
      have v103 := hC1.v (a := 103) rfl
      have v102 := hC1.v (a := 102) rfl
      rw [i103] at v103
      rw [i102] at v102
      have hC := hC1
      refine x_iload_n (i := 2) dX1_pop_21 rfl rfl rfl ?_
      refine x_bipush dX1_pop_22 rfl bC_8 ?_
      refine x_jc_ge (tgt := 58) dX1_pop_24 rfl rfl (by omega) (by omega) (fun c24 => ?_) (fun c24 => ?_)
      · obtain rfl : i = 8 := by omega
        refine x_aload_n (i := 0) dX1_pop_58 rfl rfl rfl ?_
        refine x_getC dX1_pop_59 rfl fX1_11 hC rfl F_101_0 ?_
        refine x_aload_n (i := 0) dX1_pop_62 rfl rfl rfl ?_
        refine x_getM (a := 101) dX1_pop_63 rfl fX1_18 hC rfl hk1 ?_
        refine x_iald dX1_pop_66 rfl (by first | assumption | exact hs_eq | exact hs_ne (by first | assumption | decide | omega) (by first | assumption | exact hs_eq | exact hs_ne (by first | assumption | decide | omega) (by first | assumption | exact hs_eq | exact hs_ne (by first | assumption | decide | omega) (by assumption)))) rfl (by omega) (by decide) ?_
        refine x_ireturn dX1_pop_67 rfl rfl ?_
        exact Kt m rfl h1 hC1 hS1 hk1 e1
      · have vs := hC1.v (csV_slot c24)
        refine x_aload_n (i := 0) dX1_pop_27 rfl rfl rfl ?_
        refine x_getC dX1_pop_28 rfl fX1_15 hC rfl F_101_1 ?_
        refine x_aload_n (i := 0) dX1_pop_31 rfl rfl rfl ?_
        refine x_getM (a := 101) dX1_pop_32 rfl fX1_18 hC rfl hk1 ?_
        refine x_bipush dX1_pop_35 rfl bC_64 ?_
        refine x_imul dX1_pop_37 rfl ?_
        refine x_iload_n (i := 2) dX1_pop_38 rfl rfl rfl ?_
        refine x_bipush dX1_pop_39 rfl bC_8 ?_
        refine x_imul dX1_pop_41 rfl ?_
        refine x_iadd dX1_pop_42 rfl ?_
        refine x_aload_n (i := 1) dX1_pop_43 rfl rfl rfl ?_
        refine x_iload_n (i := 2) dX1_pop_44 rfl rfl rfl ?_
        refine x_aaldC (t := 0) dX1_pop_45 rfl hC rfl (by decide) rfl (by omega) (by decide) (csF_slot c24) ?_
        refine x_iconst dX1_pop_46 rfl iC_0 ?_
        refine x_bipush dX1_pop_47 rfl bC_8 ?_
        rw [show nI m * nI 64 + nI i * nI 8 = nI (64 * m + 8 * i) by rw [nI_mul8, nI_mul8, nI_add, Nat.mul_comm, Nat.mul_comm i]]
        refine x_copy (sp := 64 * m + 8 * i) (dp := 0) (cn := 8) dX1_pop_49 rfl aX1_22 (by decide) v103 vs rfl rfl rfl (by omega) (by decide) (by decide) (by decide) (fun i _ => rfl) hd (Nat.le_of_ble_eq_true rfl) ?_
        refine x_topI (f2 := fun j => iv h 103 (64 * m + 8 * i + j)) (fun j hj => ?_) (by decide) ?_
        · unfold va_cpy
          rw [if_pos (by omega)]
          congr 1
        refine x_iinc dX1_pop_52 rfl rfl (inc1 _) ?_
        refine x_goto (tgt := 21) dX1_pop_55 rfl ?_
        refine x_to (ih c24 _ (hC1.setI vs (Or.inl rfl) (by omega)) ((hS1.tr xSm.hs1).sub (fun q hq => ?_)) ((fv_n (by omega)).trans hk1) (fun s hs2 => ?_)) ⟨rfl, rfl, rfl, trivial⟩
        · simp at hq ⊢
          omega
        · by_cases es : s = i
          · subst es
            exact iv_hs
          · rw [iv_n (by omega)]
            exact e1 s (by omega)) 0 (Nat.zero_le _)
    exact x_to (key _ hC0 (xSm.hs1.sub (by simp)) fv_eq (fun s hs2 => absurd hs2 (by omega))) ⟨rfl, rfl, rfl, trivial⟩
end KEEP

