/-! EightPartsModel: what is kept; laws -/
section MOD
variable {G : xG} {l : Launch} {d : Nat} {h : xH} {Q : Option Value → xH → Prop} {S : St}
theorem n_keep (hd : 10 ≤ d) (hR : RM h S) (K : ∀ r S2 h2, sp_keep S = (r, S2) → RM h2 S2 → cF h h2 → Q (some (.int r)) h2) : xCt G l mX12_keep d [.ref 110] h 0 0 Q := by
  have hC := hR.1
  have hR0 := hR
  have hC0 := hC
  obtain ⟨r1, ⟨r2, r3⟩, r4, r5, r6, r7, r8, r11, r12, r13⟩ := hR
  have v := hC.v (a := 112) rfl
  have v3 := hC.v (a := 133) rfl
  generalize hn : S.2.2.2.1 = n at *
  refine xCt_of (by decide) (Nat.le_of_ble_eq_true rfl) ?_
  refine x_aload_n (i := 0) dX12_keep_0 rfl rfl rfl ?_
  refine x_getM (a := 110) dX12_keep_1 rfl fX12_395 hC rfl r12 ?_
  refine x_bipush dX12_keep_4 rfl bC_6 ?_
  refine x_jc_ne (tgt := 11) dX12_keep_6 rfl rfl (by omega) (by omega) (fun c6 => ?_) (fun c6 => ?_)
  rotate_left
  · refine x_iconst dX12_keep_9 rfl iC_m1 ?_
    refine x_ireturn dX12_keep_10 rfl rfl ?_
    exact K _ _ _ (by unfold sp_keep; rw [hn]; exact if_neg (by omega)) hR0 (cF.rf hC)
  refine x_iconst dX12_keep_11 rfl iC_0 ?_
  refine x_istore_n (i := 1) dX12_keep_12 rfl rfl (by decide) ?_
  have key := xloop (P := fun i => xWP G l mX12_keep d (zM G Q) 0 0 13 (xls [(0, .ref 110), (1, .int (nI i))]) [] (hs h 133 (0, 390, xI (fun j => if 65 * n ≤ j ∧ j < 65 * n + i then iv h 112 (j - 65 * n) else iv h 133 j)))) 64 (by
    intro i hi ih
    have hC := hC0.setI (f := fun j => if 65 * n ≤ j ∧ j < 65 * n + i then iv h 112 (j - 65 * n) else iv h 133 j) v3 (Or.inl rfl) (by decide)
    have w2 := hs_ne (c := (0, 390, xI (fun j => if 65 * n ≤ j ∧ j < 65 * n + i then iv h 112 (j - 65 * n) else iv h 133 j))) (show 112 ≠ 133 by decide) v
    have f37 : ((hs h 133 (0, 390, xI (fun j => if 65 * n ≤ j ∧ j < 65 * n + i then iv h 112 (j - 65 * n) else iv h 133 j))).1 110).2.2 37 = .int (nI n) := (fv_n (by decide)).trans r12
    have f4 : ((hs h 133 (0, 390, xI (fun j => if 65 * n ≤ j ∧ j < 65 * n + i then iv h 112 (j - 65 * n) else iv h 133 j))).1 110).2.2 4 = .int (nI S.2.1) := (fv_n (by decide)).trans r3
    refine x_iload_n (i := 1) dX12_keep_13 rfl rfl rfl ?_
    refine x_bipush dX12_keep_14 rfl bC_64 ?_
    refine x_jc_ge (tgt := 45) dX12_keep_16 rfl rfl (by omega) (by omega) (fun c16 => ?_) (fun c16 => ?_)
    · obtain rfl : i = 64 := by omega
      refine x_aload_n (i := 0) dX12_keep_45 rfl rfl rfl ?_
      refine x_getC dX12_keep_46 rfl fX12_90 hC rfl F_110_36 ?_
      refine x_bipush dX12_keep_49 rfl bC_65 ?_
      refine x_aload_n (i := 0) dX12_keep_51 rfl rfl rfl ?_
      refine x_getM (a := 110) dX12_keep_52 rfl fX12_395 hC rfl f37 ?_
      refine x_imul dX12_keep_55 rfl ?_
      refine x_bipush dX12_keep_56 rfl bC_64 ?_
      refine x_iadd dX12_keep_58 rfl ?_
      rw [nI_64]
      refine x_aload_n (i := 0) dX12_keep_59 rfl rfl rfl ?_
      refine x_getM (a := 110) dX12_keep_60 rfl fX12_24 hC rfl f4 ?_
      refine x_iastT dX12_keep_63 rfl rfl (by omega) (by decide) ?_
      have hC2 := hC0.setI (f := upd (fun j => if 65 * n ≤ j ∧ j < 65 * n + 64 then iv h 112 (j - 65 * n) else iv h 133 j) (65 * n + 64) (nI S.2.1)) v3 (Or.inl rfl) (by decide)
      have eS : xSm [133] h (hs h 133 (0, 390, xI (upd (fun j => if 65 * n ≤ j ∧ j < 65 * n + 64 then iv h 112 (j - 65 * n) else iv h 133 j) (65 * n + 64) (nI S.2.1)))) := xSm.hs1
      have e133 : iv (hs h 133 (0, 390, xI (upd (fun j => if 65 * n ≤ j ∧ j < 65 * n + 64 then iv h 112 (j - 65 * n) else iv h 133 j) (65 * n + 64) (nI S.2.1)))) 133 = upd (fun j => if 65 * n ≤ j ∧ j < 65 * n + 64 then iv h 112 (j - 65 * n) else iv h 133 j) (65 * n + 64) (nI S.2.1) := iv_hs
      generalize hs h 133 (0, 390, xI (upd (fun j => if 65 * n ≤ j ∧ j < 65 * n + 64 then iv h 112 (j - 65 * n) else iv h 133 j) (65 * n + 64) (nI S.2.1))) = h2 at hC2 eS e133 ⊢
      have k110 : h2.1 110 = h.1 110 := eS.2 110 (by decide)
      have g37 : (h2.1 110).2.2 37 = .int (nI n) := by rw [k110]; exact r12
      have hC := hC2
      refine x_aload_n (i := 0) dX12_keep_64 rfl rfl rfl ?_
      refine x_dup dX12_keep_65 rfl rfl ?_
      refine x_getM (a := 110) dX12_keep_66 rfl fX12_395 hC rfl g37 ?_
      refine x_iconst dX12_keep_69 rfl iC_1 ?_
      refine x_iadd dX12_keep_70 rfl ?_
      rw [show nI n + nI 1 = nI (n + 1) from nI_add n 1]
      have hC3 := hC2.setF (ci := 12) (a := 110) (kf := 37) (v := .int (nI (n + 1))) rfl NF_110_37 (by decide)
      have g2 : ((hs h2 110 (112, 0, updV (h2.1 110).2.2 37 (.int (nI (n + 1))))).1 110).2.2 37 = .int (nI (n + 1)) := fv_eq
      refine x_putC (a := 110) dX12_keep_71 rfl fX12_395 (fun q hq => by cases hq; rfl) hC rfl ⟨rfl, rfl⟩ ?_
      have hC := hC3
      refine x_aload_n (i := 0) dX12_keep_74 rfl rfl rfl ?_
      refine x_getM (a := 110) dX12_keep_75 rfl fX12_395 hC rfl g2 ?_
      refine x_ireturn dX12_keep_78 rfl rfl ?_
      have kS := (eS.tr (xSm.hs1 (h := h2) (a := 110) (c := (112, 0, updV (h2.1 110).2.2 37 (.int (nI (n + 1))))))).sub (T := [133, 110]) (by simp)
      have fo : ∀ q, q ≠ 37 → ((hs h2 110 (112, 0, updV (h2.1 110).2.2 37 (.int (nI (n + 1))))).1 110).2.2 q = (h.1 110).2.2 q := fun q hq => by rw [fv_ne hq, k110]
      have e5 : iv (hs h2 110 (112, 0, updV (h2.1 110).2.2 37 (.int (nI (n + 1))))) 133 = upd (fun j => if 65 * n ≤ j ∧ j < 65 * n + 64 then iv h 112 (j - 65 * n) else iv h 133 j) (65 * n + 64) (nI S.2.1) := by rw [iv_n (by decide)]; exact e133
      generalize hs h2 110 (112, 0, updV (h2.1 110).2.2 37 (.int (nI (n + 1)))) = h3 at hC3 g2 kS fo e5 ⊢
      have i : ∀ a, a ≠ 110 → a ≠ 133 → iv h3 a = iv h a := fun a a1 a2 => kS.iv (by simp; omega)
      have ep : ∀ y, pl h3 y = pl h y := fun y => by unfold pl; rw [i 112 (by decide) (by decide)]
      refine K (nI (n + 1)) (S.1, S.2.1, S.2.2.1, n + 1, fun k => if k = n then (S.1, S.2.1) else S.2.2.2.2 k) _ (by unfold sp_keep; rw [hn]; exact if_pos (by omega)) ⟨hC3, ⟨r2, (fo 4 (by decide)).trans r3⟩, fun j hj => by rw [ep]; exact r4 j hj, ⟨fun y hy => by rw [ep]; exact r5.1 y hy, by rw [ep]; exact r5.2⟩, ?_, ?_, ⟨r8.1, (fo 20 (by decide)).trans r8.2.1, by rw [i 124 (by decide) (by decide)]; exact r8.2.2⟩, by show n + 1 ≤ 6; omega, g2, fun q hq => ?_⟩ ⟨hC3, kS.1, fun a ha => kS.2 a (by simp; omega)⟩
      · unfold mLs
        rw [i 114 (by decide) (by decide), i 115 (by decide) (by decide), i 116 (by decide) (by decide)]
        exact r6
      · unfold mTbl
        rw [fo 32 (by decide), i 130 (by decide) (by decide)]
        exact r7
      · have hq' : q < n + 1 := hq
        rw [e5]
        show (if q = n then (S.1, S.2.1) else S.2.2.2.2 q).2 < 8 ∧ upd (fun j => if 65 * n ≤ j ∧ j < 65 * n + 64 then iv h 112 (j - 65 * n) else iv h 133 j) (65 * n + 64) (nI S.2.1) (65 * q + 64) = nI (if q = n then (S.1, S.2.1) else S.2.2.2.2 q).2 ∧ ∀ j, j < 8 → zBd ((if q = n then (S.1, S.2.1) else S.2.2.2.2 q).1 j) ∧ c8 ((if q = n then (S.1, S.2.1) else S.2.2.2.2 q).1 j) = (if q = n then (S.1, S.2.1) else S.2.2.2.2 q).1 j ∧ ∀ p, p < 8 → upd (fun j => if 65 * n ≤ j ∧ j < 65 * n + 64 then iv h 112 (j - 65 * n) else iv h 133 j) (65 * n + 64) (nI S.2.1) (65 * q + (8 * j + p)) = (if q = n then (S.1, S.2.1) else S.2.2.2.2 q).1 j p
        unfold upd
        by_cases e : q = n
        · simp only [if_pos e]
          refine ⟨r2, by rw [if_pos (by omega)], fun j hj => ⟨by rw [← r4 j hj]; exact r5.1 j (by omega), by rw [← r4 j hj]; exact pl_c8 h j, fun p hp => ?_⟩⟩
          rw [if_neg (by omega), if_pos (by omega), ← r4 j hj, pl_lt hp]
          congr 1
          omega
        · simp only [if_neg e]
          obtain ⟨a1, a2, a3⟩ := r13 q (by omega)
          refine ⟨a1, ?_, fun j hj => ⟨(a3 j hj).1, (a3 j hj).2.1, fun p hp => ?_⟩⟩
          · rw [if_neg (by omega), if_neg (by omega)]
            exact a2
          · rw [if_neg (by omega), if_neg (by omega)]
            exact (a3 j hj).2.2 p hp
    · refine x_aload_n (i := 0) dX12_keep_19 rfl rfl rfl ?_
      refine x_getC dX12_keep_20 rfl fX12_90 hC rfl F_110_36 ?_
      refine x_bipush dX12_keep_23 rfl bC_65 ?_
      refine x_aload_n (i := 0) dX12_keep_25 rfl rfl rfl ?_
      refine x_getM (a := 110) dX12_keep_26 rfl fX12_395 hC rfl f37 ?_
      refine x_imul dX12_keep_29 rfl ?_
      refine x_iload_n (i := 1) dX12_keep_30 rfl rfl rfl ?_
      refine x_iadd dX12_keep_31 rfl ?_
      rw [nI_64]
      refine x_aload_n (i := 0) dX12_keep_32 rfl rfl rfl ?_
      refine x_getC dX12_keep_33 rfl fX12_17 hC rfl F_110_2 ?_
      refine x_iload_n (i := 1) dX12_keep_36 rfl rfl rfl ?_
      refine x_iald dX12_keep_37 rfl w2 rfl (by omega) (by decide) ?_
      refine x_iastT dX12_keep_38 rfl rfl (by omega) (by decide) ?_
      have eu : upd (fun j => if 65 * n ≤ j ∧ j < 65 * n + i then iv h 112 (j - 65 * n) else iv h 133 j) (65 * n + i) (iv h 112 i) = fun j => if 65 * n ≤ j ∧ j < 65 * n + (i + 1) then iv h 112 (j - 65 * n) else iv h 133 j := by
        funext j
        unfold upd
        by_cases e : j = 65 * n + i
        · rw [if_pos e, if_pos (by omega), show j - 65 * n = i by omega]
        · rw [if_neg e]
          show (if 65 * n ≤ j ∧ j < 65 * n + i then iv h 112 (j - 65 * n) else iv h 133 j) = _
          by_cases q : 65 * n ≤ j ∧ j < 65 * n + i
          · rw [if_pos q, if_pos (by omega)]
          · rw [if_neg q, if_neg (by omega)]
      rw [eu]
      refine x_iinc dX12_keep_39 rfl rfl (inc1 _) ?_
      refine x_goto (tgt := 13) dX12_keep_42 rfl ?_
      exact x_to (ih c16) ⟨rfl, rfl, trivial⟩) 0 (Nat.zero_le _)
  have e0 : (fun j => if 65 * n ≤ j ∧ j < 65 * n + 0 then iv h 112 (j - 65 * n) else iv h 133 j) = iv h 133 := by
    funext j
    rw [if_neg (by omega)]
  rw [e0, hs_self v3] at key
  exact x_to key ⟨rfl, rfl, trivial⟩
theorem n_restore (hd : 10 ≤ d) (hR : RM h S) (K : ∀ r S2 h2, sp_restore S = (r, S2) → RM h2 S2 → cF h h2 → Q (some (.int r)) h2) : xCt G l mX12_restore d [.ref 110] h 0 0 Q := by
  have hC := hR.1
  have hR0 := hR
  have hC0 := hC
  obtain ⟨r1, ⟨r2, r3⟩, r4, r5, r6, r7, r8, r11, r12, r13⟩ := hR
  have v := hC.v (a := 112) rfl
  have v3 := hC.v (a := 133) rfl
  refine xCt_of (by decide) (Nat.le_of_ble_eq_true rfl) ?_
  refine x_aload_n (i := 0) dX12_restore_0 rfl rfl rfl ?_
  refine x_getM (a := 110) dX12_restore_1 rfl fX12_395 hC rfl r12 ?_
  refine x_if_ne (tgt := 9) dX12_restore_4 rfl rfl (fun c4 => ?_) (fun c4 => ?_)
  rotate_left
  · have n0 : S.2.2.2.1 = 0 := (nI_eq (by omega) (by omega)).mp (c4.trans nI_0.symm)
    refine x_iconst dX12_restore_7 rfl iC_m1 ?_
    refine x_ireturn dX12_restore_8 rfl rfl ?_
    exact K _ _ _ (if_pos n0) hR0 (cF.rf hC)
  have n0 : ¬ S.2.2.2.1 = 0 := fun e => c4 (by rw [e]; exact nI_0)
  obtain ⟨n, hn⟩ : ∃ n, S.2.2.2.1 = n + 1 := ⟨S.2.2.2.1 - 1, by omega⟩
  obtain ⟨a1, a2, a3⟩ := r13 n (by omega)
  rw [hn] at r12 r11
  refine x_aload_n (i := 0) dX12_restore_9 rfl rfl rfl ?_
  refine x_dup dX12_restore_10 rfl rfl ?_
  refine x_getM (a := 110) dX12_restore_11 rfl fX12_395 hC rfl r12 ?_
  refine x_iconst dX12_restore_14 rfl iC_1 ?_
  refine x_isub dX12_restore_15 rfl ?_
  rw [show nI (n + 1) - nI 1 = nI n from pk_sub (by omega)]
  have hC1 := hC.setF (ci := 12) (a := 110) (kf := 37) (v := .int (nI n)) rfl NF_110_37 (by decide)
  have eS : xSm [110] h (hs h 110 (112, 0, updV (h.1 110).2.2 37 (.int (nI n)))) := xSm.hs1
  have fo : ∀ q, q ≠ 37 → ((hs h 110 (112, 0, updV (h.1 110).2.2 37 (.int (nI n)))).1 110).2.2 q = (h.1 110).2.2 q := fun q hq => fv_ne hq
  have g37 : ((hs h 110 (112, 0, updV (h.1 110).2.2 37 (.int (nI n)))).1 110).2.2 37 = .int (nI n) := fv_eq
  refine x_putC (a := 110) dX12_restore_16 rfl fX12_395 (fun q hq => by cases hq; rfl) hC rfl ⟨rfl, rfl⟩ ?_
  show xWP G l mX12_restore d (zM G Q) 0 0 19 _ [] (hs h 110 (112, 0, updV (h.1 110).2.2 37 (.int (nI n))))
  generalize hs h 110 (112, 0, updV (h.1 110).2.2 37 (.int (nI n))) = h1 at hC1 eS fo g37 ⊢
  have w1 := hC1.v (a := 112) rfl
  have w3 := hC1.v (a := 133) rfl
  have i133 : iv h1 133 = iv h 133 := eS.iv (by decide)
  have i112 : iv h1 112 = iv h 112 := eS.iv (by decide)
  rw [i133] at w3
  rw [i112] at w1
  refine x_iconst dX12_restore_19 rfl iC_0 ?_
  refine x_istore_n (i := 1) dX12_restore_20 rfl rfl (by decide) ?_
  have key := xloop (P := fun i => xWP G l mX12_restore d (zM G Q) 0 0 21 (xls [(0, .ref 110), (1, .int (nI i))]) [] (hs h1 112 (0, 1240, xI (fun j => if j < i then iv h 133 (65 * n + j) else iv h 112 j)))) 64 (by
    intro i hi ih
    have hC := hC1.setI (f := fun j => if j < i then iv h 133 (65 * n + j) else iv h 112 j) w1 (Or.inl rfl) (by decide)
    have y3 := hs_ne (c := (0, 1240, xI (fun j => if j < i then iv h 133 (65 * n + j) else iv h 112 j))) (show 133 ≠ 112 by decide) w3
    have f37 : ((hs h1 112 (0, 1240, xI (fun j => if j < i then iv h 133 (65 * n + j) else iv h 112 j))).1 110).2.2 37 = .int (nI n) := (fv_n (by decide)).trans g37
    refine x_iload_n (i := 1) dX12_restore_21 rfl rfl rfl ?_
    refine x_bipush dX12_restore_22 rfl bC_64 ?_
    refine x_jc_ge (tgt := 53) dX12_restore_24 rfl rfl (by omega) (by omega) (fun c24 => ?_) (fun c24 => ?_)
    · obtain rfl : i = 64 := by omega
      refine x_aload_n (i := 0) dX12_restore_53 rfl rfl rfl ?_
      refine x_aload_n (i := 0) dX12_restore_54 rfl rfl rfl ?_
      refine x_getC dX12_restore_55 rfl fX12_90 hC rfl F_110_36 ?_
      refine x_bipush dX12_restore_58 rfl bC_65 ?_
      refine x_aload_n (i := 0) dX12_restore_60 rfl rfl rfl ?_
      refine x_getM (a := 110) dX12_restore_61 rfl fX12_395 hC rfl f37 ?_
      refine x_imul dX12_restore_64 rfl ?_
      refine x_bipush dX12_restore_65 rfl bC_64 ?_
      refine x_iadd dX12_restore_67 rfl ?_
      rw [nI_64]
      refine x_iald dX12_restore_68 rfl y3 rfl (by omega) (by decide) ?_
      rw [a2]
      have hC3 := hC.setF (ci := 12) (a := 110) (kf := 4) (v := .int (nI (S.2.2.2.2 n).2)) rfl NF_110_4 (by decide)
      refine x_putC (a := 110) dX12_restore_69 rfl fX12_24 (fun q hq => by cases hq; rfl) hC rfl ⟨rfl, rfl⟩ ?_
      have hC := hC3
      have k110 : (hs h1 112 (0, 1240, xI (fun j => if j < 64 then iv h 133 (65 * n + j) else iv h 112 j))).1 110 = h1.1 110 := hs_n (by decide)
      have kS : xSm [112, 110] h (hs (hs h1 112 (0, 1240, xI (fun j => if j < 64 then iv h 133 (65 * n + j) else iv h 112 j))) 110 (112, 0, updV ((hs h1 112 (0, 1240, xI (fun j => if j < 64 then iv h 133 (65 * n + j) else iv h 112 j))).1 110).2.2 4 (.int (nI (S.2.2.2.2 n).2)))) := (eS.tr xSm.hs2).sub (by simp)
      have g4 : ((hs (hs h1 112 (0, 1240, xI (fun j => if j < 64 then iv h 133 (65 * n + j) else iv h 112 j))) 110 (112, 0, updV ((hs h1 112 (0, 1240, xI (fun j => if j < 64 then iv h 133 (65 * n + j) else iv h 112 j))).1 110).2.2 4 (.int (nI (S.2.2.2.2 n).2)))).1 110).2.2 4 = .int (nI (S.2.2.2.2 n).2) := fv_eq
      have go : ∀ q, q ≠ 4 → ((hs (hs h1 112 (0, 1240, xI (fun j => if j < 64 then iv h 133 (65 * n + j) else iv h 112 j))) 110 (112, 0, updV ((hs h1 112 (0, 1240, xI (fun j => if j < 64 then iv h 133 (65 * n + j) else iv h 112 j))).1 110).2.2 4 (.int (nI (S.2.2.2.2 n).2)))).1 110).2.2 q = (h1.1 110).2.2 q := fun q hq => by rw [fv_ne hq, k110]
      have e112 : iv (hs (hs h1 112 (0, 1240, xI (fun j => if j < 64 then iv h 133 (65 * n + j) else iv h 112 j))) 110 (112, 0, updV ((hs h1 112 (0, 1240, xI (fun j => if j < 64 then iv h 133 (65 * n + j) else iv h 112 j))).1 110).2.2 4 (.int (nI (S.2.2.2.2 n).2)))) 112 = fun j => if j < 64 then iv h 133 (65 * n + j) else iv h 112 j := by rw [iv_n (by decide), iv_hs]
      have gg := go 37 (by decide)
      rw [g37] at gg
      refine x_aload_n (i := 0) dX12_restore_72 rfl rfl rfl ?_
      refine x_getM (a := 110) dX12_restore_73 rfl fX12_395 hC rfl gg ?_
      refine x_ireturn dX12_restore_76 rfl rfl ?_
      generalize hs (hs h1 112 (0, 1240, xI (fun j => if j < 64 then iv h 133 (65 * n + j) else iv h 112 j))) 110 (112, 0, updV ((hs h1 112 (0, 1240, xI (fun j => if j < 64 then iv h 133 (65 * n + j) else iv h 112 j))).1 110).2.2 4 (.int (nI (S.2.2.2.2 n).2))) = h3 at hC3 kS g4 go e112 gg ⊢
      have ii : ∀ a, a ≠ 110 → a ≠ 112 → iv h3 a = iv h a := fun a a1 a2 => kS.iv (by simp; omega)
      have ps : ∀ j, j < 8 → pl h3 j = (S.2.2.2.2 n).1 j := by
        intro j hj
        rw [← (a3 j hj).2.1]
        refine pl_eq (fun p hp => ?_)
        rw [e112]
        show (if 8 * j + p < 64 then iv h 133 (65 * n + (8 * j + p)) else _) = _
        rw [if_pos (by omega)]
        exact (a3 j hj).2.2 p hp
      have po : ∀ y, 8 ≤ y → pl h3 y = pl h y := by
        intro y hy
        rw [← pl_c8 h y]
        refine pl_eq (fun p hp => ?_)
        rw [e112, pl_lt hp]
        show (if 8 * y + p < 64 then _ else iv h 112 (8 * y + p)) = _
        rw [if_neg (by omega)]
      refine K (nI n) ((S.2.2.2.2 n).1, (S.2.2.2.2 n).2, S.2.2.1, n, S.2.2.2.2) _ (by unfold sp_restore; rw [if_neg n0, hn]; rfl) ⟨hC3, ⟨a1, g4⟩, ps, ⟨fun y hy => ?_, by rw [po 8 (by decide)]; exact r5.2⟩, ?_, ?_, ⟨r8.1, ?_, by rw [ii 124 (by decide) (by decide)]; exact r8.2.2⟩, by show n ≤ 6; omega, gg, fun q hq => by rw [ii 133 (by decide) (by decide)]; exact r13 q (by have hq' : q < n := hq; omega)⟩ ⟨hC3, kS.1, fun a ha => kS.2 a (by simp; omega)⟩
      · by_cases q : y < 8
        · rw [ps y q]
          exact (a3 y q).1
        · rw [po y (by omega)]
          exact r5.1 y hy
      · unfold mLs
        rw [ii 114 (by decide) (by decide), ii 115 (by decide) (by decide), ii 116 (by decide) (by decide)]
        exact r6
      · unfold mTbl
        rw [go 32 (by decide), fo 32 (by decide), ii 130 (by decide) (by decide)]
        exact r7
      · rw [go 20 (by decide), fo 20 (by decide)]
        exact r8.2.1
    · refine x_aload_n (i := 0) dX12_restore_27 rfl rfl rfl ?_
      refine x_getC dX12_restore_28 rfl fX12_17 hC rfl F_110_2 ?_
      refine x_iload_n (i := 1) dX12_restore_31 rfl rfl rfl ?_
      refine x_aload_n (i := 0) dX12_restore_32 rfl rfl rfl ?_
      refine x_getC dX12_restore_33 rfl fX12_90 hC rfl F_110_36 ?_
      refine x_bipush dX12_restore_36 rfl bC_65 ?_
      refine x_aload_n (i := 0) dX12_restore_38 rfl rfl rfl ?_
      refine x_getM (a := 110) dX12_restore_39 rfl fX12_395 hC rfl f37 ?_
      refine x_imul dX12_restore_42 rfl ?_
      refine x_iload_n (i := 1) dX12_restore_43 rfl rfl rfl ?_
      refine x_iadd dX12_restore_44 rfl ?_
      rw [nI_64]
      refine x_iald dX12_restore_45 rfl y3 rfl (by omega) (by decide) ?_
      refine x_iastT dX12_restore_46 rfl rfl (by omega) (by decide) ?_
      have eu : upd (fun j => if j < i then iv h 133 (65 * n + j) else iv h 112 j) i (iv h 133 (65 * n + i)) = fun j => if j < i + 1 then iv h 133 (65 * n + j) else iv h 112 j := by
        funext j
        unfold upd
        by_cases e : j = i
        · rw [if_pos e, if_pos (by omega), e]
        · rw [if_neg e]
          show (if j < i then iv h 133 (65 * n + j) else iv h 112 j) = _
          by_cases q : j < i
          · rw [if_pos q, if_pos (by omega)]
          · rw [if_neg q, if_neg (by omega)]
      rw [eu]
      refine x_iinc dX12_restore_47 rfl rfl (inc1 _) ?_
      refine x_goto (tgt := 21) dX12_restore_50 rfl ?_
      exact x_to (ih c24) ⟨rfl, rfl, trivial⟩) 0 (Nat.zero_le _)
  have e0 : (fun j => if j < 0 then iv h 133 (65 * n + j) else iv h 112 j) = iv h 112 := by
    funext j
    rw [if_neg (by omega)]
  rw [e0, hs_self w1] at key
  exact x_to key ⟨rfl, rfl, trivial⟩
theorem m_wholes {hR : RM h S} (hd : 6 ≤ d) (K : Q (some (.int (nI (zSet (fun s => ofO S.2.1 (oddN (S.1 s))) 8)))) h) : xCt G l mX12_wholes d [.ref 110] h 0 0 Q := by
  have hC := hR.1
  refine xCt_of (by decide) (Nat.le_of_ble_eq_true rfl) ?_
  refine x_iconst dX12_wholes_0 rfl iC_0 ?_
  refine x_istore_n (i := 1) dX12_wholes_1 rfl rfl (by decide) ?_
  refine x_iconst dX12_wholes_2 rfl iC_0 ?_
  refine x_istore_n (i := 2) dX12_wholes_3 rfl rfl (by decide) ?_
  have key := xloop (P := fun i => xWP G l mX12_wholes d (zM G Q) 0 0 4 (xls [(0, .ref 110), (1, .int (nI (zSet (fun s => ofO S.2.1 (oddN (S.1 s))) i))), (2, .int (nI i))]) [] h) 8 (by
    intro i hi ih
    refine x_iload_n (i := 2) dX12_wholes_4 rfl rfl rfl ?_
    refine x_bipush dX12_wholes_5 rfl bC_8 ?_
    refine x_jc_ge (tgt := 30) dX12_wholes_7 rfl rfl (by omega) (by omega) (fun c7 => ?_) (fun c7 => ?_)
    · obtain rfl : i = 8 := by omega
      refine x_iload_n (i := 1) dX12_wholes_30 rfl rfl rfl ?_
      refine x_ireturn dX12_wholes_31 rfl rfl ?_
      exact K
    · refine x_aload_n (i := 0) dX12_wholes_10 rfl rfl rfl ?_
      refine x_iload_n (i := 2) dX12_wholes_11 rfl rfl rfl ?_
      refine x_callV0 (ci := 12) (b := 110) (As := [_]) (d2 := d - 1) dX12_wholes_12 rfl kX12_134 okX12_isWhole (hC.o rfl) (fun q hq => by cases hq; rfl) (by omega) rfl rfl (Nat.le_of_ble_eq_true rfl) (m_isWhole (by omega) hC hR.2.1.2 hR.2.1.1 (by omega) (fun z => ?_) (fun z => ?_))
      · rw [hR.p c7] at z
        refine x_if_eq_f (tgt := 24) dX12_wholes_15 rfl rfl nb1 ?_
        refine x_iload_n (i := 1) dX12_wholes_18 rfl rfl rfl ?_
        refine x_iconst dX12_wholes_19 rfl iC_1 ?_
        refine x_iload_n (i := 2) dX12_wholes_20 rfl rfl rfl ?_
        refine x_ishl dX12_wholes_21 rfl ?_
        refine x_ior dX12_wholes_22 rfl ?_
        rw [(or_bit8 (p := fun s => ofO S.2.1 (oddN (S.1 s))) c7).1 z]
        refine x_istore_n (i := 1) dX12_wholes_23 rfl rfl (by decide) ?_
        refine x_iinc dX12_wholes_24 rfl rfl (inc1 _) ?_
        refine x_goto (tgt := 4) dX12_wholes_27 rfl ?_
        exact x_to (ih c7) ⟨rfl, rfl, rfl, trivial⟩
      · rw [hR.p c7] at z
        refine x_if_eq_t (tgt := 24) dX12_wholes_15 rfl nI_0 ?_
        refine x_iinc dX12_wholes_24 rfl rfl (inc1 _) ?_
        refine x_goto (tgt := 4) dX12_wholes_27 rfl ?_
        exact x_to (ih c7) ⟨rfl, by rw [(or_bit8 (p := fun s => ofO S.2.1 (oddN (S.1 s))) c7).2 z]; rfl, rfl, trivial⟩) 0 (Nat.zero_le _)
  exact x_to key ⟨rfl, rfl, rfl, trivial⟩
theorem m_noughts {hR : RM h S} (hd : 6 ≤ d) (K : Q (some (.int (nI (zSet (fun s => @decide (isZ (S.1 s)) (Classical.propDecidable _)) 8)))) h) : xCt G l mX12_noughts d [.ref 110] h 0 0 Q := by
  have hC := hR.1
  refine xCt_of (by decide) (Nat.le_of_ble_eq_true rfl) ?_
  refine x_iconst dX12_noughts_0 rfl iC_0 ?_
  refine x_istore_n (i := 1) dX12_noughts_1 rfl rfl (by decide) ?_
  refine x_iconst dX12_noughts_2 rfl iC_0 ?_
  refine x_istore_n (i := 2) dX12_noughts_3 rfl rfl (by decide) ?_
  have key := xloop (P := fun i => xWP G l mX12_noughts d (zM G Q) 0 0 4 (xls [(0, .ref 110), (1, .int (nI (zSet (fun s => @decide (isZ (S.1 s)) (Classical.propDecidable _)) i))), (2, .int (nI i))]) [] h) 8 (by
    intro i hi ih
    refine x_iload_n (i := 2) dX12_noughts_4 rfl rfl rfl ?_
    refine x_bipush dX12_noughts_5 rfl bC_8 ?_
    refine x_jc_ge (tgt := 30) dX12_noughts_7 rfl rfl (by omega) (by omega) (fun c7 => ?_) (fun c7 => ?_)
    · obtain rfl : i = 8 := by omega
      refine x_iload_n (i := 1) dX12_noughts_30 rfl rfl rfl ?_
      refine x_ireturn dX12_noughts_31 rfl rfl ?_
      exact K
    · refine x_aload_n (i := 0) dX12_noughts_10 rfl rfl rfl ?_
      refine x_iload_n (i := 2) dX12_noughts_11 rfl rfl rfl ?_
      refine x_callV0 (ci := 12) (b := 110) (As := [_]) (d2 := d - 1) dX12_noughts_12 rfl kX12_258 okX12_isNought (hC.o rfl) (fun q hq => by cases hq; rfl) (by omega) rfl rfl (Nat.le_of_ble_eq_true rfl) (m_isNought hC (by omega) (fun z => ?_) (fun z => ?_))
      · rw [hR.p c7] at z
        refine x_if_eq_f (tgt := 24) dX12_noughts_15 rfl rfl nb1 ?_
        refine x_iload_n (i := 1) dX12_noughts_18 rfl rfl rfl ?_
        refine x_iconst dX12_noughts_19 rfl iC_1 ?_
        refine x_iload_n (i := 2) dX12_noughts_20 rfl rfl rfl ?_
        refine x_ishl dX12_noughts_21 rfl ?_
        refine x_ior dX12_noughts_22 rfl ?_
        rw [(or_bit8 (p := fun s => @decide (isZ (S.1 s)) (Classical.propDecidable _)) c7).1 (@decide_eq_true _ (Classical.propDecidable _) z)]
        refine x_istore_n (i := 1) dX12_noughts_23 rfl rfl (by decide) ?_
        refine x_iinc dX12_noughts_24 rfl rfl (inc1 _) ?_
        refine x_goto (tgt := 4) dX12_noughts_27 rfl ?_
        exact x_to (ih c7) ⟨rfl, rfl, rfl, trivial⟩
      · rw [hR.p c7] at z
        refine x_if_eq_t (tgt := 24) dX12_noughts_15 rfl nI_0 ?_
        refine x_iinc dX12_noughts_24 rfl rfl (inc1 _) ?_
        refine x_goto (tgt := 4) dX12_noughts_27 rfl ?_
        exact x_to (ih c7) ⟨rfl, by rw [(or_bit8 (p := fun s => @decide (isZ (S.1 s)) (Classical.propDecidable _)) c7).2 (@decide_eq_false _ (Classical.propDecidable _) z)]; rfl, rfl, trivial⟩) 0 (Nat.zero_le _)
  exact x_to key ⟨rfl, rfl, rfl, trivial⟩
end MOD

