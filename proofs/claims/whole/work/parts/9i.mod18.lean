/-! EightPartsModel: bracket, bracketed -/
theorem oUnl_al {V : Nat → zO} {s : Nat} : ∀ n c, oUnl V s n = some c → c ≤ n ∧ ∀ j, j < n → ∃ f, V (s + j) = some f
  | 0, c, h => ⟨by cases h; exact Nat.le_refl _, fun j hj => absurd hj (Nat.not_lt_zero j)⟩
  | n + 1, c, h => by
    rw [oUnl] at h
    obtain ⟨c0, h0, h1⟩ := Option.bind_eq_some_iff.mp h
    obtain ⟨f, h2, h3⟩ := Option.map_eq_some_iff.mp h1
    obtain ⟨i1, i2⟩ := oUnl_al n c0 h0
    refine ⟨by split at h3 <;> omega, fun j hj => ?_⟩
    by_cases e : j = n
    · subst e; exact ⟨f, h2⟩
    · exact i2 j (by omega)
theorem oUnl_t {V : Nat → zO} {n c : Nat} {g : Nat → Int32} (h : oUnl V 0 n = some c) (hg : V n = some g) (hv : vNew V 0 n) : oUnl V 0 (n + 1) = some (c + 1) := by
  rw [oUnl, h, Nat.zero_add, hg, Option.bind_some, Option.map_some, if_pos hv]
theorem oUnl_f {V : Nat → zO} {n c : Nat} {g : Nat → Int32} (h : oUnl V 0 n = some c) (hg : V n = some g) (hv : ¬ vNew V 0 n) : oUnl V 0 (n + 1) = some c := by
  rw [oUnl, h, Nat.zero_add, hg, Option.bind_some, Option.map_some, if_neg hv]
section MOD
variable {G : xG} {l : Launch} {d : Nat} {h : xH} {Q : Option Value → xH → Prop} {S : St}
theorem n_bracket {a m row k : Int32} (hd : 10 ≤ d) (hR : RM h S) (K : ∀ r S2 h2, sp_bracket S a m row k = (r, S2) → RM h2 S2 → cF h h2 → Q (some (.int r)) h2) : xCt G l mX12_bracket d [.ref 110, .int a, .int m, .int row, .int k] h 0 0 Q := by
  have hC := hR.1
  refine xCt_of (by decide) (Nat.le_of_ble_eq_true rfl) ?_
  refine x_iload_n (i := 1) dX12_bracket_0 rfl rfl rfl ?_
  refine x_callS0 (As := [_]) (d2 := d - 1) dX12_bracket_1 rfl kX12_165 okX12_isSlot (by omega) rfl rfl (Nat.le_of_ble_eq_true rfl) (m_isSlot (by omega) (fun z => ?_) (fun t ht et qt => ?_))
  · refine x_if_eq_t (tgt := 16) dX12_bracket_4 rfl nI_0 ?_
    refine x_iconst dX12_bracket_16 rfl iC_m1 ?_
    refine x_ireturn dX12_bracket_17 rfl rfl ?_
    exact K _ _ _ (by simp only [sp_bracket, z] <;> rfl) hR (cF.rf hC)
  subst et
  refine x_if_eq_f (tgt := 16) dX12_bracket_4 rfl rfl nb1 ?_
  refine x_iload_n (i := 2) dX12_bracket_7 rfl rfl rfl ?_
  refine x_iload_n (i := 3) dX12_bracket_8 rfl rfl rfl ?_
  refine x_iconst dX12_bracket_9 rfl iC_2 ?_
  refine x_callS0 (As := [_, _, _]) (d2 := d - 1) dX12_bracket_10 rfl kX12_219 okX12_isRow (by omega) rfl rfl (Nat.le_of_ble_eq_true rfl) (m_isRow (by omega) (by decide) (fun z => ?_) (fun q lq hq eq qq qo => ?_))
  · refine x_if_ne_f (tgt := 18) dX12_bracket_13 rfl rfl nI_0 ?_
    refine x_iconst dX12_bracket_16 rfl iC_m1 ?_
    refine x_ireturn dX12_bracket_17 rfl rfl ?_
    exact K _ _ _ (by rcases z with z | ⟨i, z0, z⟩; exact (by simp only [sp_bracket, qt, z] <;> rfl); exact (by simp only [sp_bracket, qt, z0, if_neg z] <;> rfl)) hR (cF.rf hC)
  subst eq
  refine x_if_ne_t (tgt := 18) dX12_bracket_13 rfl nb1 ?_
  have wm : wM q ≤ 42 := wM_lt q
  have wp : 0 < wM q := wM_pos q (by omega) hq
  have bb := lb_b (many := q) (fr := 0) (len := q) hq (by omega) (by omega)
  refine x_aload_n (i := 0) dX12_bracket_18 rfl rfl rfl ?_
  refine x_iload_n (i := 2) dX12_bracket_19 rfl rfl rfl ?_
  refine x_iload_n (i := 3) dX12_bracket_20 rfl rfl rfl ?_
  refine x_callV0 (ci := 12) (b := 110) (As := [_, _]) (d2 := d - 1) dX12_bracket_21 rfl kX12_277 okX12_laysWays (hC.o rfl) (fun q hq => by cases hq; rfl) (by omega) rfl rfl (Nat.le_of_ble_eq_true rfl) (m_laysWays (by omega) hR lq hq (fun h2 hv f1 f2 f3 => ?_))
  have hC := hv.1
  have r2 : RM h2 S := hR.sc hv (by intro y hy; rw [mem_r] at hy; omega) (by simp [mN])
  have c2 : cF h h2 := hv.c (by simp)
  have v1 := hC.v (a := 121) rfl
  have v2 := hC.v (a := 122) rfl
  have v3 := hC.z (a := 123) rfl
  refine x_bipush dX12_bracket_24 rfl bC_6 ?_
  refine x_iload_n (i := 2) dX12_bracket_26 rfl rfl rfl ?_
  refine x_iconst dX12_bracket_27 rfl iC_1 ?_
  refine x_isub dX12_bracket_28 rfl ?_
  refine x_imul dX12_bracket_29 rfl ?_
  rw [show nI 6 * (nI q - nI 1) = nI (6 * (q - 1)) by rw [show nI q - nI 1 = nI (q - 1) from pk_sub (by omega), nI_mul8]]
  refine x_istore dX12_bracket_30 rfl (by decide) ?_
  refine x_iload dX12_bracket_32 rfl rfl ?_
  refine x_i2l dX12_bracket_34 rfl ?_
  refine x_lconst dX12_bracket_35 rfl lC_0 ?_
  refine x_aload_n (i := 0) dX12_bracket_36 rfl rfl rfl ?_
  refine x_getC dX12_bracket_37 rfl fX12_52 hC rfl F_110_17 ?_
  refine x_iload dX12_bracket_40 rfl rfl ?_
  refine x_iald dX12_bracket_42 rfl v2 rfl (by omega) (by decide) ?_
  rw [f2]
  refine x_iconst dX12_bracket_43 rfl iC_1 ?_
  refine x_isub dX12_bracket_44 rfl ?_
  rw [show nI (wM q) - nI 1 = nI (wM q - 1) from pk_sub (by omega)]
  refine x_i2l dX12_bracket_45 rfl ?_
  refine x_callS0 (As := [_, _, _]) (d2 := d - 1) dX12_bracket_46 rfl kX12_95 okX12_in (by omega) rfl rfl (Nat.le_of_ble_eq_true rfl) (m_in (lo := 0) (hi := wM q - 1) (by decide) (by rw [nI_li (by omega)]) (by omega) (fun z => ?_) (fun j _ j2 ej qj => ?_))
  · refine x_if_ne_f (tgt := 54) dX12_bracket_49 rfl rfl nI_0 ?_
    refine x_iconst dX12_bracket_52 rfl iC_m1 ?_
    refine x_ireturn dX12_bracket_53 rfl rfl ?_
    refine K _ _ _ ?_ r2 c2
    simp only [sp_bracket, qt, qq, if_pos qo]
    refine if_neg (fun y => ?_)
    unfold eB at z
    rw [if_pos (by omega)] at z
    cases z
  · subst ej
    have en : sp_bracket S (nI t) (nI q) row (nI j) = sMay S t (wX (fun j => S.1 (slR row j)) 6 0 q j) := by
      have ej : (nI j).toInt = j := nI_toInt (by omega)
      simp only [sp_bracket, qt, qq, if_pos qo]
      rw [if_pos (by omega), ej]
      rfl
    have hj : j < wM q := by omega
    refine x_if_ne_t (tgt := 54) dX12_bracket_49 rfl nb1 ?_
    refine x_aload_n (i := 0) dX12_bracket_54 rfl rfl rfl ?_
    refine x_aload_n (i := 0) dX12_bracket_55 rfl rfl rfl ?_
    refine x_getC dX12_bracket_56 rfl fX12_55 hC rfl F_110_18 ?_
    refine x_aload_n (i := 0) dX12_bracket_59 rfl rfl rfl ?_
    refine x_getC dX12_bracket_60 rfl fX12_49 hC rfl F_110_16 ?_
    refine x_iload dX12_bracket_63 rfl rfl ?_
    refine x_iald dX12_bracket_65 rfl v1 rfl (by omega) (by decide) ?_
    rw [f1]
    refine x_iload dX12_bracket_66 rfl rfl ?_
    refine x_iadd dX12_bracket_68 rfl ?_
    rw [show nI (mSo q 0 q) + nI j = nI (mSo q 0 q + j) from nI_add _ _]
    refine x_zald dX12_bracket_69 rfl v3 rfl (by omega) (by decide) ?_
    refine x_iload_n (i := 1) dX12_bracket_70 rfl rfl rfl ?_
    refine x_aload_n (i := 0) dX12_bracket_71 rfl rfl rfl ?_
    refine x_getC dX12_bracket_72 rfl fX12_49 hC rfl F_110_16 ?_
    refine x_iload dX12_bracket_75 rfl rfl ?_
    refine x_iald dX12_bracket_77 rfl v1 rfl (by omega) (by decide) ?_
    rw [f1]
    refine x_iload dX12_bracket_78 rfl rfl ?_
    refine x_iadd dX12_bracket_80 rfl ?_
    rw [show nI (mSo q 0 q) + nI j = nI (mSo q 0 q + j) from nI_add _ _]
    rcases f3 j hj with ⟨f, x1, x2, x3⟩ | ⟨x1, x2⟩
    · rw [x3]
      refine x_callV0 (ci := 12) (b := 110) (As := [_, _, _]) (d2 := d - 1) dX12_bracket_81 rfl kX12_213 okX12_ends (hC.o rfl) (fun q hq => by cases hq; rfl) (by omega) rfl rfl (Nat.le_of_ble_eq_true rfl) (m_ends1 (by omega) hC (by omega) (by omega) (fun h3 k3 e3 => ?_))
      refine x_ireturn dX12_bracket_84 rfl rfl ?_
      exact K _ _ _ (by rw [en]; exact sMay_some x1) (r2.set ht k3 (by simp) (by simp) (by rw [e3, x2])) (c2.tr (k3.c (by simp)))
    · rw [x2]
      refine x_callV0 (ci := 12) (b := 110) (As := [_, _, _]) (d2 := d - 1) dX12_bracket_81 rfl kX12_213 okX12_ends (hC.o rfl) (fun q hq => by cases hq; rfl) (by omega) rfl rfl (Nat.le_of_ble_eq_true rfl) (m_ends0 (by omega) ?_)
      refine x_ireturn dX12_bracket_84 rfl rfl ?_
      exact K _ _ _ (by rw [en]; exact sMay_none x1) r2 c2
theorem n_bracketed {m row : Int32} (hd : 10 ≤ d) (hR : RM h S) (K : ∀ r S2 h2, sp_bracketed S m row = (r, S2) → RM h2 S2 → cF h h2 → Q (some (.int r)) h2) : xCt G l mX12_bracketed d [.ref 110, .int m, .int row] h 0 0 Q := by
  have hC := hR.1
  refine xCt_of (by decide) (Nat.le_of_ble_eq_true rfl) ?_
  refine x_iload_n (i := 1) dX12_bracketed_0 rfl rfl rfl ?_
  refine x_iload_n (i := 2) dX12_bracketed_1 rfl rfl rfl ?_
  refine x_iconst dX12_bracketed_2 rfl iC_2 ?_
  refine x_callS0 (As := [_, _, _]) (d2 := d - 1) dX12_bracketed_3 rfl kX12_219 okX12_isRow (by omega) rfl rfl (Nat.le_of_ble_eq_true rfl) (m_isRow (by omega) (by decide) (fun z => ?_) (fun q lq hq eq qq qo => ?_))
  · refine x_if_ne_f (tgt := 11) dX12_bracketed_6 rfl rfl nI_0 ?_
    refine x_iconst dX12_bracketed_9 rfl iC_m1 ?_
    refine x_ireturn dX12_bracketed_10 rfl rfl ?_
    exact K _ _ _ (by rcases z with z | ⟨i, z0, z⟩; exact (by simp only [sp_bracketed, z] <;> rfl); exact (by simp only [sp_bracketed, z0, if_neg z] <;> rfl)) hR (cF.rf hC)
  subst eq
  refine x_if_ne_t (tgt := 11) dX12_bracketed_6 rfl nb1 ?_
  have wm : wM q ≤ 42 := wM_lt q
  have bb := lb_b (many := q) (fr := 0) (len := q) hq (by omega) (by omega)
  refine x_aload_n (i := 0) dX12_bracketed_11 rfl rfl rfl ?_
  refine x_iload_n (i := 1) dX12_bracketed_12 rfl rfl rfl ?_
  refine x_iload_n (i := 2) dX12_bracketed_13 rfl rfl rfl ?_
  refine x_callV0 (ci := 12) (b := 110) (As := [_, _]) (d2 := d - 1) dX12_bracketed_14 rfl kX12_277 okX12_laysWays (hC.o rfl) (fun q hq => by cases hq; rfl) (by omega) rfl rfl (Nat.le_of_ble_eq_true rfl) (m_laysWays (by omega) hR lq hq (fun h2 hv f1 f2 f3 => ?_))
  have hC := hv.1
  have r2 : RM h2 S := hR.sc hv (by intro y hy; rw [mem_r] at hy; omega) (by simp [mN])
  have c2 : cF h h2 := hv.c (by simp)
  have v1 := hC.v (a := 121) rfl
  have v2 := hC.v (a := 122) rfl
  have v3 := hC.z (a := 123) rfl
  have ei : nI 6 * (nI q - nI 1) = nI (6 * (q - 1)) := by rw [show nI q - nI 1 = nI (q - 1) from pk_sub (by omega), nI_mul8]
  obtain ⟨U, hU⟩ : ∃ U, wX (fun j => S.1 (slR row j)) 6 0 q = U := ⟨_, rfl⟩
  have eno : oUnl U 0 (wM q) = none → sp_bracketed S (nI q) row = (-2, S) := fun z => by simp only [sp_bracketed, qq, if_pos qo, hU, z]
  have eso : ∀ c, oUnl U 0 (wM q) = some c → sp_bracketed S (nI q) row = (nI c, S) := fun c z => by simp only [sp_bracketed, qq, if_pos qo, hU, z]
  rw [hU] at f3
  generalize hBB : mSo q 0 q = B at *
  refine x_aload_n (i := 0) dX12_bracketed_17 rfl rfl rfl ?_
  refine x_getC dX12_bracketed_18 rfl fX12_49 hC rfl F_110_16 ?_
  refine x_bipush dX12_bracketed_21 rfl bC_6 ?_
  refine x_iload_n (i := 1) dX12_bracketed_23 rfl rfl rfl ?_
  refine x_iconst dX12_bracketed_24 rfl iC_1 ?_
  refine x_isub dX12_bracketed_25 rfl ?_
  refine x_imul dX12_bracketed_26 rfl ?_
  rw [ei]
  refine x_iald dX12_bracketed_27 rfl v1 rfl (by omega) (by decide) ?_
  rw [f1]
  refine x_istore_n (i := 3) dX12_bracketed_28 rfl rfl (by decide) ?_
  refine x_aload_n (i := 0) dX12_bracketed_29 rfl rfl rfl ?_
  refine x_getC dX12_bracketed_30 rfl fX12_52 hC rfl F_110_17 ?_
  refine x_bipush dX12_bracketed_33 rfl bC_6 ?_
  refine x_iload_n (i := 1) dX12_bracketed_35 rfl rfl rfl ?_
  refine x_iconst dX12_bracketed_36 rfl iC_1 ?_
  refine x_isub dX12_bracketed_37 rfl ?_
  refine x_imul dX12_bracketed_38 rfl ?_
  rw [ei]
  refine x_iald dX12_bracketed_39 rfl v2 rfl (by omega) (by decide) ?_
  rw [f2]
  refine x_istore dX12_bracketed_40 rfl (by decide) ?_
  refine x_iconst dX12_bracketed_42 rfl iC_0 ?_
  refine x_istore dX12_bracketed_43 rfl (by decide) ?_
  refine x_iload_n (i := 3) dX12_bracketed_45 rfl rfl rfl ?_
  refine x_istore dX12_bracketed_46 rfl (by decide) ?_
  have outer := xloop (P := fun n => ∀ c, oUnl U 0 n = some c → xWP G l mX12_bracketed d (zM G Q) 0 0 48 (xls [(0, .ref 110), (3, .int (nI B)), (4, .int (nI (wM q))), (5, .int (nI c)), (6, .int (nI (B + n)))]) [] h2) (wM q) (by
    intro n hn ih c hc
    obtain ⟨cn, all⟩ := oUnl_al n c hc
    refine x_iload dX12_bracketed_48 rfl rfl ?_
    refine x_iload_n (i := 3) dX12_bracketed_50 rfl rfl rfl ?_
    refine x_iload dX12_bracketed_51 rfl rfl ?_
    refine x_iadd dX12_bracketed_53 rfl ?_
    rw [show nI B + nI (wM q) = nI (B + wM q) from nI_add _ _]
    refine x_jc_ge (tgt := 126) dX12_bracketed_54 rfl rfl (by omega) (by omega) (fun c54 => ?_) (fun c54 => ?_)
    · obtain rfl : n = wM q := by omega
      refine x_iload dX12_bracketed_126 rfl rfl ?_
      refine x_ireturn dX12_bracketed_128 rfl rfl ?_
      exact K _ _ _ (eso c hc) r2 c2
    · have hn2 : n < wM q := by omega
      rcases f3 n hn2 with ⟨g, x1, x2, x3⟩ | ⟨x1, x2⟩
      rotate_left
      · refine x_aload_n (i := 0) dX12_bracketed_57 rfl rfl rfl ?_
        refine x_getC dX12_bracketed_58 rfl fX12_55 hC rfl F_110_18 ?_
        refine x_iload dX12_bracketed_61 rfl rfl ?_
        refine x_zald dX12_bracketed_63 rfl v3 rfl (by omega) (by decide) ?_
        refine x_if_ne_f (tgt := 70) dX12_bracketed_64 rfl rfl (by rw [x2]; exact nI_0) ?_
        refine x_bipush dX12_bracketed_67 rfl bC_m2 ?_
        refine x_ireturn dX12_bracketed_69 rfl rfl ?_
        refine K _ _ _ (eno (oUnl_none (k := n + 1) ?_ _ (by omega))) r2 c2
        rw [oUnl, hc, Nat.zero_add, x1]
        rfl
      · refine x_aload_n (i := 0) dX12_bracketed_57 rfl rfl rfl ?_
        refine x_getC dX12_bracketed_58 rfl fX12_55 hC rfl F_110_18 ?_
        refine x_iload dX12_bracketed_61 rfl rfl ?_
        refine x_zald dX12_bracketed_63 rfl v3 rfl (by omega) (by decide) ?_
        refine x_if_ne_t (tgt := 70) dX12_bracketed_64 rfl (by rw [x3]; exact nb1) ?_
        refine x_iconst dX12_bracketed_70 rfl iC_1 ?_
        refine x_istore dX12_bracketed_71 rfl (by decide) ?_
        refine x_iload_n (i := 3) dX12_bracketed_73 rfl rfl rfl ?_
        refine x_istore dX12_bracketed_74 rfl (by decide) ?_
        have fin : ∀ v, ((v = 1 ∧ vNew U 0 n) ∨ (v = 0 ∧ ¬ vNew U 0 n)) → ∀ L, L 0 = some (.ref 110) → L 3 = some (.int (nI B)) → L 4 = some (.int (nI (wM q))) → L 5 = some (.int (nI c)) → L 6 = some (.int (nI (B + n))) → L 7 = some (.int (nI v)) → xWP G l mX12_bracketed d (zM G Q) 0 0 112 L [] h2 := by
          intro v hv L l0 l3 l4 l5 l6 l7
          refine x_to (r := [(0, .ref 110), (3, .int (nI B)), (4, .int (nI (wM q))), (5, .int (nI c)), (6, .int (nI (B + n))), (7, .int (nI v))]) ?_ ⟨l0, l3, l4, l5, l6, l7, trivial⟩
          rcases hv with ⟨rfl, y⟩ | ⟨rfl, y⟩
          · refine x_iload dX12_bracketed_112 rfl rfl ?_
            refine x_if_eq_f (tgt := 120) dX12_bracketed_114 rfl rfl nb1 ?_
            refine x_iinc dX12_bracketed_117 rfl rfl (inc1 _) ?_
            refine x_iinc dX12_bracketed_120 rfl rfl (inc1 _) ?_
            refine x_goto (tgt := 48) dX12_bracketed_123 rfl ?_
            exact x_to (ih hn2 (c + 1) (oUnl_t hc x1 y)) ⟨rfl, rfl, rfl, rfl, rfl, trivial⟩
          · refine x_iload dX12_bracketed_112 rfl rfl ?_
            refine x_if_eq_t (tgt := 120) dX12_bracketed_114 rfl nI_0 ?_
            refine x_iinc dX12_bracketed_120 rfl rfl (inc1 _) ?_
            refine x_goto (tgt := 48) dX12_bracketed_123 rfl ?_
            exact x_to (ih hn2 c (oUnl_f hc x1 y)) ⟨rfl, rfl, rfl, rfl, rfl, trivial⟩
        have inner := xloop (P := fun j => ∀ v, ((v = 1 ∧ ∀ i, i < j → ∀ f, U i = some f → ¬ zSame f g) ∨ (v = 0 ∧ ¬ vNew U 0 n)) → xWP G l mX12_bracketed d (zM G Q) 0 0 76 (xls [(0, .ref 110), (3, .int (nI B)), (4, .int (nI (wM q))), (5, .int (nI c)), (6, .int (nI (B + n))), (7, .int (nI v)), (8, .int (nI (B + j)))]) [] h2) n (by
          intro j hj ihj v hv
          refine x_iload dX12_bracketed_76 rfl rfl ?_
          refine x_iload dX12_bracketed_78 rfl rfl ?_
          refine x_jc_ge (tgt := 112) dX12_bracketed_80 rfl rfl (by omega) (by omega) (fun c80 => ?_) (fun c80 => ?_)
          · obtain rfl : j = n := by omega
            refine fin v ?_ _ rfl rfl rfl rfl rfl rfl
            rcases hv with ⟨e, y⟩ | ⟨e, y⟩
            · refine Or.inl ⟨e, fun i hi f g' q1 q2 => ?_⟩
              rw [Nat.zero_add] at q1 q2
              rw [x1] at q2
              cases q2
              exact y i hi f q1
            · exact Or.inr ⟨e, y⟩
          · have hj2 : j < n := by omega
            rcases hv with ⟨rfl, y⟩ | ⟨rfl, y⟩
            · obtain ⟨f, hf⟩ := all j hj2
              rw [Nat.zero_add] at hf
              rcases f3 j (by omega) with ⟨f', y1, y2, y3⟩ | ⟨y1, -⟩
              rotate_left
              · rw [y1] at hf; cases hf
              rw [hf] at y1
              cases y1
              refine x_iload dX12_bracketed_83 rfl rfl ?_
              refine x_if_eq_f (tgt := 112) dX12_bracketed_85 rfl rfl nb1 ?_
              refine x_aload_n (i := 0) dX12_bracketed_88 rfl rfl rfl ?_
              refine x_iload dX12_bracketed_89 rfl rfl ?_
              refine x_iload dX12_bracketed_91 rfl rfl ?_
              refine x_callV0 (ci := 12) (b := 110) (As := [_, _]) (d2 := d - 1) dX12_bracketed_93 rfl kX12_280 okX12_areSame (hC.o rfl) (fun q hq => by cases hq; rfl) (by omega) rfl rfl (Nat.le_of_ble_eq_true rfl) (m_sameE hC (by omega) (by omega) x2 y2 (fun z => ?_) (fun z => ?_))
              · refine x_if_ne_t (tgt := 103) dX12_bracketed_96 rfl nb1 ?_
                refine x_iconst dX12_bracketed_103 rfl iC_0 ?_
                refine x_istore dX12_bracketed_104 rfl (by decide) ?_
                refine x_iinc dX12_bracketed_106 rfl rfl (inc1 _) ?_
                refine x_goto (tgt := 76) dX12_bracketed_109 rfl ?_
                refine x_to (ihj hj2 0 (Or.inr ⟨rfl, fun w => ?_⟩)) ⟨rfl, rfl, rfl, rfl, rfl, rfl, rfl, trivial⟩
                exact w j hj2 f g (by rw [Nat.zero_add]; exact hf) (by rw [Nat.zero_add]; exact x1) (fun p hp => (z p hp).symm)
              · refine x_if_ne_f (tgt := 103) dX12_bracketed_96 rfl rfl nI_0 ?_
                refine x_iconst dX12_bracketed_99 rfl iC_1 ?_
                refine x_goto (tgt := 104) dX12_bracketed_100 rfl ?_
                refine x_istore dX12_bracketed_104 rfl (by decide) ?_
                refine x_iinc dX12_bracketed_106 rfl rfl (inc1 _) ?_
                refine x_goto (tgt := 76) dX12_bracketed_109 rfl ?_
                refine x_to (ihj hj2 1 (Or.inl ⟨rfl, fun i hi f2 q2 => ?_⟩)) ⟨rfl, rfl, rfl, rfl, rfl, rfl, rfl, trivial⟩
                by_cases e : i = j
                · subst e
                  rw [hf] at q2
                  cases q2
                  exact fun w => z (fun p hp => (w p hp).symm)
                · exact y i (by omega) f2 q2
            · refine x_iload dX12_bracketed_83 rfl rfl ?_
              refine x_if_eq_t (tgt := 112) dX12_bracketed_85 rfl nI_0 ?_
              exact fin 0 (Or.inr ⟨rfl, y⟩) _ rfl rfl rfl rfl rfl rfl) 0 (Nat.zero_le _) 1 (Or.inl ⟨rfl, fun i hi => absurd hi (Nat.not_lt_zero i)⟩)
        exact x_to inner ⟨rfl, rfl, rfl, rfl, rfl, rfl, rfl, trivial⟩) 0 (Nat.zero_le _) 0 rfl
  exact x_to outer ⟨rfl, rfl, rfl, rfl, rfl, trivial⟩
end MOD

