/-! EightPartsModel: against, numberOf, place -/
theorem pk_lex : ∀ i ds es a, ds.length = es.length → (∀ x ∈ ds, x < 7) → (∀ x ∈ es, x < 7) → i < ds.length → (∀ j, j < i → ds.getD j 0 = es.getD j 0) → ds.getD i 0 < es.getD i 0 → pkN a ds < pkN a es
  | _, [], _, _, _, _, _, h, _, _ => absurd h (Nat.not_lt_zero _)
  | _, _ :: _, [], _, h, _, _, _, _, _ => by cases h
  | 0, p :: ds, q :: es, a, hl, h1, h2, _, _, hlt => by
    have hlt : p < q := hlt
    have hl : ds.length = es.length := Nat.succ.inj hl
    have b1 := (pkN_b ds (16 * a + (p + 1)) (fun x hx => h1 x (List.mem_cons_of_mem _ hx))).2
    have b2 := (pkN_b es (16 * a + (q + 1)) (fun x hx => h2 x (List.mem_cons_of_mem _ hx))).1
    rw [hl] at b1
    have b3 : (16 * a + (p + 1) + 1) * 16 ^ es.length ≤ (16 * a + (q + 1)) * 16 ^ es.length := Nat.mul_le_mul_right _ (by omega)
    rw [pkN, pkN]
    omega
  | i + 1, p :: ds, q :: es, a, hl, h1, h2, hi, he, hlt => by
    have e0 : p = q := he 0 (by omega)
    subst e0
    rw [pkN, pkN]
    exact pk_lex i ds es _ (Nat.succ.inj hl) (fun x hx => h1 x (List.mem_cons_of_mem _ hx)) (fun x hx => h2 x (List.mem_cons_of_mem _ hx)) (Nat.lt_of_succ_lt_succ hi) (fun j hj => he (j + 1) (by omega)) hlt
theorem vv_cmp : ∀ a, a < 7 → ∀ b, b < 7 → (vv a - vv b = 0 ↔ a = b) ∧ (vv a - vv b < 0 ↔ a < b) := by decide +kernel
section MOD
variable {G : xG} {l : Launch} {d : Nat} {h : xH} {Q : Option Value → xH → Prop} {S : St}
theorem m_against {x norm k : Nat} {g : Nat → Int32} (hd : 1 ≤ d) (hC : Cs h) (hx : x < 155) (hn : norm < 4) (hk : lf norm + k < 9121) (e : ∀ p, p < 8 → iv h 114 (8 * (lf norm + k) + p) = g p) (K0 : (∀ j, j < 8 → pl h x j = g j) → Q (some (.int (nI 0))) h) (K1 : ∀ i, i < 8 → (∀ j, j < i → pl h x j = g j) → ¬ pl h x i - g i = 0 → Q (some (.int (pl h x i - g i))) h) : xCt G l mX12_against d [.ref 110, .int (nI x), .int (nI norm), .int (nI k)] h 0 0 Q := by
  have v := hC.v (a := 112) rfl
  have v4 := hC.v (a := 114) rfl
  refine xCt_of (by decide) (Nat.le_of_ble_eq_true rfl) ?_
  refine x_iconst dX12_against_0 rfl iC_0 ?_
  refine x_istore dX12_against_1 rfl (by decide) ?_
  have key := xloop (P := fun i => (∀ j, j < i → pl h x j = g j) → xWP G l mX12_against d (zM G Q) 0 0 3 (xls [(0, .ref 110), (1, .int (nI x)), (2, .int (nI norm)), (3, .int (nI k)), (4, .int (nI i))]) [] h) 8 (by
    intro i hi ih hj
    refine x_iload dX12_against_3 rfl rfl ?_
    refine x_bipush dX12_against_5 rfl bC_8 ?_
    refine x_jc_ge (tgt := 56) dX12_against_7 rfl rfl (by omega) (by omega) (fun c7 => ?_) (fun c7 => ?_)
    · obtain rfl : i = 8 := by omega
      refine x_iconst dX12_against_56 rfl iC_0 ?_
      refine x_ireturn dX12_against_57 rfl rfl ?_
      exact K0 hj
    · refine x_aload_n (i := 0) dX12_against_10 rfl rfl rfl ?_
      refine x_getC dX12_against_11 rfl fX12_17 hC rfl F_110_2 ?_
      refine x_bipush dX12_against_14 rfl bC_8 ?_
      refine x_iload_n (i := 1) dX12_against_16 rfl rfl rfl ?_
      refine x_imul dX12_against_17 rfl ?_
      refine x_iload dX12_against_18 rfl rfl ?_
      refine x_iadd dX12_against_20 rfl ?_
      rw [nI_8]
      refine x_iald dX12_against_21 rfl v rfl (by omega) (by decide) ?_
      refine x_aload_n (i := 0) dX12_against_22 rfl rfl rfl ?_
      refine x_getC dX12_against_23 rfl fX12_28 hC rfl F_110_5 ?_
      refine x_bipush dX12_against_26 rfl bC_8 ?_
      refine x_iload_n (i := 2) dX12_against_28 rfl rfl rfl ?_
      rw [← pl_lt c7]
      refine x_callS0 (As := [_]) (d2 := d - 1) dX12_against_29 rfl kX12_143 okX12_listFrom (by omega) rfl rfl (Nat.le_of_ble_eq_true rfl) (m_listFrom hn ?_)
      refine x_iload_n (i := 3) dX12_against_32 rfl rfl rfl ?_
      refine x_iadd dX12_against_33 rfl ?_
      rw [show nI (lf norm) + nI k = nI (lf norm + k) from nI_add _ _]
      refine x_imul dX12_against_34 rfl ?_
      refine x_iload dX12_against_35 rfl rfl ?_
      refine x_iadd dX12_against_37 rfl ?_
      rw [nI_8]
      refine x_iald dX12_against_38 rfl v4 rfl (by omega) (by decide) ?_
      rw [e i c7]
      refine x_isub dX12_against_39 rfl ?_
      refine x_istore dX12_against_40 rfl (by decide) ?_
      refine x_iload dX12_against_42 rfl rfl ?_
      refine x_if_eq (tgt := 50) dX12_against_44 rfl rfl (fun c44 => ?_) (fun c44 => ?_)
      · refine x_iinc dX12_against_50 rfl rfl (inc1 _) ?_
        refine x_goto (tgt := 3) dX12_against_53 rfl ?_
        refine x_to (ih c7 (lt_s hj ?_)) ⟨rfl, rfl, rfl, rfl, rfl, trivial⟩
        have q : pl h x i - g i + g i = 0 + g i := by rw [c44]
        rw [Int32.sub_add_cancel, Int32.zero_add] at q
        exact q
      · refine x_iload dX12_against_47 rfl rfl ?_
        refine x_ireturn dX12_against_49 rfl rfl ?_
        exact K1 i c7 hj c44) 0 (Nat.zero_le _) (fun j hj => absurd hj (Nat.not_lt_zero j))
  exact x_to key ⟨rfl, rfl, rfl, rfl, rfl, trivial⟩
theorem m_numberOf {x : Nat} (hd : 6 ≤ d) (hR : RM h S) (hx : x < 155) (K : ∀ h2, RM h2 S → cF h h2 → xSm [114, 115, 116, 117, 118] h h2 → Q (some (.int (plN S.2.1 (pl h x)))) h2) : xCt G l mX12_numberOf d [.ref 110, .int (nI x)] h 0 0 Q := by
  have hC := hR.1
  have ho8 := hR.2.1.1
  obtain ⟨nb1', nb2⟩ := nrm8 (hR.b x hx)
  refine xCt_of (by decide) (Nat.le_of_ble_eq_true rfl) ?_
  have no : plN S.2.1 (pl h x) = -1 → ∀ L, xWP G l mX12_numberOf d (zM G Q) 0 0 22 L [] h := by
    intro e L
    refine x_to (r := []) ?_ trivial
    refine x_iconst dX12_numberOf_22 rfl iC_m1 ?_
    refine x_ireturn dX12_numberOf_23 rfl rfl ?_
    rw [e] at K
    exact K h hR (cF.rf hC) (xSm.rf.sub (by simp))
  refine x_aload_n (i := 0) dX12_numberOf_0 rfl rfl rfl ?_
  refine x_iload_n (i := 1) dX12_numberOf_1 rfl rfl rfl ?_
  refine x_callV0 (ci := 12) (b := 110) (As := [_]) (d2 := d - 1) dX12_numberOf_2 rfl kX12_137 okX12_normOf (hC.o rfl) (fun q hq => by cases hq; rfl) (by omega) rfl rfl (Nat.le_of_ble_eq_true rfl) (m_normOf hC hx ?_)
  refine x_lstore_n (i := 2) dX12_numberOf_5 rfl rfl (by decide) ?_
  refine x_aload_n (i := 0) dX12_numberOf_6 rfl rfl rfl ?_
  refine x_iload_n (i := 1) dX12_numberOf_7 rfl rfl rfl ?_
  refine x_callV0 (ci := 12) (b := 110) (As := [_]) (d2 := d - 1) dX12_numberOf_8 rfl kX12_134 okX12_isWhole (hC.o rfl) (fun q hq => by cases hq; rfl) (by omega) rfl rfl (Nat.le_of_ble_eq_true rfl) (m_isWhole (by omega) hC hR.2.1.2 ho8 hx (fun z => ?_) (fun z => ?_))
  rotate_left
  · refine x_if_eq_t (tgt := 22) dX12_numberOf_11 rfl nI_0 ?_
    refine no ?_ _
    unfold plN
    by_cases q : nrmN (pl h x) 8 ≤ 12 ∧ nrmN (pl h x) 8 % 4 = 0
    · rw [if_pos q]
      obtain ⟨a1, a2, a3, a4, a5, a6⟩ := dg_all q.1
      exact zFindL_f ho8 (by omega) a5 a1 a2 (by rw [← a6, z]; decide)
    · rw [if_neg q]
  rw [nb1']
  refine x_if_eq_f (tgt := 22) dX12_numberOf_11 rfl rfl nb1 ?_
  refine x_lload_n (i := 2) dX12_numberOf_14 rfl rfl rfl ?_
  refine x_ldc2 dX12_numberOf_15 rfl cX12_156 ?_
  refine x_lcmp dX12_numberOf_18 rfl ?_
  refine x_if_le (tgt := 24) dX12_numberOf_19 rfl rfl (fun c19 => ?_) (fun c19 => ?_)
  rotate_left
  · have cc : ¬ lN (nrmN (pl h x) 8) ≤ (12 : Int64) := mt (lg_cmp_le _ _).mpr c19
    refine no ?_ _
    unfold plN
    rw [if_neg (fun q => cc ((pk_lLE (b := 12) (by omega) (by omega)).mpr q.1))]
  have h12 : nrmN (pl h x) 8 ≤ 12 := by
    have cc : lN (nrmN (pl h x) 8) ≤ (12 : Int64) := (lg_cmp_le _ _).mp c19
    exact (pk_lLE (b := 12) (by omega) (by omega)).mp cc
  have m4 := wh_m4 ho8 h12 z
  obtain ⟨a1, a2, a3, a4, a5, a6⟩ := dg_all h12
  have ep : plN S.2.1 (pl h x) = zFindL S.2.1 (nrmN (pl h x) 8 / 4) (pl h x) := by unfold plN; rw [if_pos ⟨h12, m4⟩]
  rw [ep] at K
  obtain ⟨norm, en⟩ : ∃ norm, nrmN (pl h x) 8 = 4 * norm := ⟨nrmN (pl h x) 8 / 4, by omega⟩
  have hn : norm < 4 := by omega
  rw [en, show 4 * norm / 4 = norm by omega] at K
  obtain ⟨kf, kf1, kf2, kf3⟩ := zFindL_t (f := pl h x) ho8 hn a5 a1 a2 (by rw [a4, en]) (by rw [← a6]; exact z)
  rw [kf3] at K
  obtain ⟨z1, z2, z3⟩ := zLst_1 ho8 hn
  have zl := (zLst_n ho8 hn).1
  have hkf : kf < (zLst S.2.1 norm).1 := by rw [zl]; exact kf1
  refine x_lload_n (i := 2) dX12_numberOf_24 rfl rfl rfl ?_
  refine x_ldc2 dX12_numberOf_25 rfl cX12_141 ?_
  refine x_ldiv dX12_numberOf_28 rfl (by decide) ?_
  rw [en, show lN (4 * norm) / (4 : Int64) = lN norm from (pk_lDiv (b := 4) (by omega) (by omega) (by omega)).trans (by rw [show 4 * norm / 4 = norm by omega])]
  have e32 : (lN norm).toInt32 = nI norm := by
    have q : ∀ n, n < 4 → (lN n).toInt32 = nI n := by decide +kernel
    exact q norm hn
  refine x_l2i dX12_numberOf_29 rfl ?_
  rw [e32]
  refine x_istore dX12_numberOf_30 rfl (by decide) ?_
  refine x_iconst dX12_numberOf_32 rfl iC_0 ?_
  refine x_istore dX12_numberOf_33 rfl (by decide) ?_
  refine x_aload_n (i := 0) dX12_numberOf_35 rfl rfl rfl ?_
  refine x_iload dX12_numberOf_36 rfl rfl ?_
  refine x_callV0 (ci := 12) (b := 110) (As := [_]) (d2 := d - 1) dX12_numberOf_38 rfl kX12_158 okX12_listSize (hC.o rfl) (fun q hq => by cases hq; rfl) (by omega) rfl rfl (Nat.le_of_ble_eq_true rfl) (m_listSize (by omega) hR hn (fun h2 r2 c2 s2 e6 e4 => ?_))
  have hC := r2.1
  have px : pl h2 x = pl h x := by unfold pl; rw [s2.iv (by decide)]
  generalize hN : (zLst S.2.1 norm).1 = N at *
  refine x_iconst dX12_numberOf_41 rfl iC_1 ?_
  refine x_isub dX12_numberOf_42 rfl ?_
  refine x_istore dX12_numberOf_43 rfl (by decide) ?_
  have loop : ∀ n lo H, H - lo ≤ n → H ≤ N → lo ≤ kf → kf < H → xWP G l mX12_numberOf d (zM G Q) 0 0 45 (xls [(0, .ref 110), (1, .int (nI x)), (4, .int (nI norm)), (5, .int (nI lo)), (6, .int (nI H - nI 1))]) [] h2 := by
    intro n
    induction n with
    | zero => intro lo H h1 h2 h3 h4; omega
    | succ n ih =>
      intro lo H h1 hH h3 h4
      rw [show nI H - nI 1 = nI (H - 1) from pk_sub (by omega)]
      refine x_iload dX12_numberOf_45 rfl rfl ?_
      refine x_iload dX12_numberOf_47 rfl rfl ?_
      refine x_jc_gt (tgt := 103) dX12_numberOf_49 rfl rfl (by omega) (by omega) (fun c49 => ?_) (fun c49 => ?_)
      · exfalso
        omega
      refine x_iload dX12_numberOf_52 rfl rfl ?_
      refine x_iload dX12_numberOf_54 rfl rfl ?_
      refine x_iadd dX12_numberOf_56 rfl ?_
      rw [show nI lo + nI (H - 1) = nI (lo + (H - 1)) from nI_add _ _]
      refine x_iconst dX12_numberOf_57 rfl iC_2 ?_
      refine x_idiv dX12_numberOf_58 rfl (by decide) ?_
      rw [show nI (lo + (H - 1)) / nI 2 = nI ((lo + (H - 1)) / 2) from pk_div (by omega) (by omega) (by omega)]
      obtain ⟨mid, hmid⟩ : ∃ mid, (lo + (H - 1)) / 2 = mid := ⟨_, rfl⟩
      rw [hmid]
      have hm : mid < N := by omega
      have hml : mid < lnN S.2.1 norm := by omega
      obtain ⟨l1, l2⟩ := lx_len _ _ _ (lsD_m hml).1
      have dig : ∀ ds : List Nat, ds.length = 8 → (∀ i ∈ ds, i < 7) → ∀ j, j < 8 → ds.getD j 0 < 7 := by
        intro ds q1 q2 j hj
        rw [List.getD_eq_getElem?_getD, List.getElem?_eq_getElem (by omega)]
        exact q2 _ (List.getElem_mem _)
      refine x_istore dX12_numberOf_59 rfl (by decide) ?_
      refine x_aload_n (i := 0) dX12_numberOf_61 rfl rfl rfl ?_
      refine x_iload_n (i := 1) dX12_numberOf_62 rfl rfl rfl ?_
      refine x_iload dX12_numberOf_63 rfl rfl ?_
      refine x_iload dX12_numberOf_65 rfl rfl ?_
      refine x_callV0 (ci := 12) (b := 110) (As := [_, _, _]) (d2 := d - 1) dX12_numberOf_67 rfl kX12_161 okX12_against (hC.o rfl) (fun q hq => by cases hq; rfl) (by omega) rfl rfl (Nat.le_of_ble_eq_true rfl) (m_against (g := zEl S.2.1 norm mid) (by omega) hC hx hn (by omega) (e4 mid hm) (fun q => ?_) (fun i hi q qn => ?_))
      · rw [px] at q
        have ee : ∀ j, j < 8 → (dg (pl h x)).getD j 0 = ((lsD S.2.1 norm).getD mid []).getD j 0 := by
          intro j hj
          have := q j hj
          rw [a3 j hj, zEl_l ho8 hn hml hj] at this
          refine (vv_cmp _ (dig _ a1 a2 j hj) _ (dig _ l1 l2 j hj)).1.mp ?_
          rw [this]
          exact Int32.sub_self _
        have el : dg (pl h x) = (lsD S.2.1 norm).getD mid [] := by
          refine List.ext_getElem (by rw [a1, l1]) (fun j j1 j2 => ?_)
          have := ee j (by omega)
          rw [List.getD_eq_getElem?_getD, List.getElem?_eq_getElem j1, List.getD_eq_getElem?_getD, List.getElem?_eq_getElem j2] at this
          exact this
        have em : kf = mid := by
          have lp : lsP S.2.1 norm kf = lsP S.2.1 norm mid := by unfold lsP; rw [kf2, el]
          rcases Nat.lt_trichotomy kf mid with w | w | w
          · have := lsP_lt w hml; omega
          · exact w
          · have := lsP_lt w kf1; omega
        refine x_istore dX12_numberOf_70 rfl (by decide) ?_
        refine x_iload dX12_numberOf_72 rfl rfl ?_
        refine x_if_ne_f (tgt := 80) dX12_numberOf_74 rfl rfl nI_0 ?_
        refine x_iload dX12_numberOf_77 rfl rfl ?_
        refine x_ireturn dX12_numberOf_79 rfl rfl ?_
        rw [← em]
        exact K _ r2 c2 s2
      · rw [px] at q qn ⊢
        have ee : ∀ j, j < i → (dg (pl h x)).getD j 0 = ((lsD S.2.1 norm).getD mid []).getD j 0 := by
          intro j hj
          have := q j hj
          rw [a3 j (by omega), zEl_l ho8 hn hml (by omega)] at this
          refine (vv_cmp _ (dig _ a1 a2 j (by omega)) _ (dig _ l1 l2 j (by omega))).1.mp ?_
          rw [this]
          exact Int32.sub_self _
        rw [a3 i hi, zEl_l ho8 hn hml hi] at qn ⊢
        obtain ⟨w1, w2⟩ := vv_cmp _ (dig _ a1 a2 i hi) _ (dig _ l1 l2 i hi)
        have lk : lsP S.2.1 norm kf = pkN 0 (dg (pl h x)) := by unfold lsP; rw [kf2]
        have lm : lsP S.2.1 norm mid = pkN 0 ((lsD S.2.1 norm).getD mid []) := rfl
        refine x_istore dX12_numberOf_70 rfl (by decide) ?_
        refine x_iload dX12_numberOf_72 rfl rfl ?_
        refine x_if_ne_t (tgt := 80) dX12_numberOf_74 rfl qn ?_
        refine x_iload dX12_numberOf_80 rfl rfl ?_
        refine x_if_ge (tgt := 94) dX12_numberOf_82 rfl rfl (fun c82 => ?_) (fun c82 => ?_)
        · have ge : ((lsD S.2.1 norm).getD mid []).getD i 0 < (dg (pl h x)).getD i 0 := by
            have u1 : ¬ (dg (pl h x)).getD i 0 < ((lsD S.2.1 norm).getD mid []).getD i 0 := fun y => by
              have := Int32.lt_iff_toInt_lt.mp (w2.mpr y)
              have := Int32.le_iff_toInt_le.mp c82
              omega
            have u2 : ¬ (dg (pl h x)).getD i 0 = ((lsD S.2.1 norm).getD mid []).getD i 0 := fun y => qn (w1.mpr y)
            omega
          have lt := pk_lex i _ _ 0 (l1.trans a1.symm) l2 a2 (by omega) (fun j hj => (ee j hj).symm) ge
          have kl : mid < kf := by
            rcases Nat.lt_trichotomy kf mid with w | w | w
            · have := lsP_lt w hml; omega
            · subst w; omega
            · exact w
          refine x_iload dX12_numberOf_94 rfl rfl ?_
          refine x_iconst dX12_numberOf_96 rfl iC_1 ?_
          refine x_iadd dX12_numberOf_97 rfl ?_
          rw [show nI mid + nI 1 = nI (mid + 1) from nI_add _ _]
          refine x_istore dX12_numberOf_98 rfl (by decide) ?_
          refine x_goto (tgt := 45) dX12_numberOf_100 rfl ?_
          refine x_to (ih (mid + 1) H (by omega) (by omega) (by omega) h4) ⟨rfl, rfl, rfl, rfl, ?_, trivial⟩
          rw [show nI H - nI 1 = nI (H - 1) from pk_sub (by omega)]
          rfl
        · have lti : (dg (pl h x)).getD i 0 < ((lsD S.2.1 norm).getD mid []).getD i 0 := w2.mp (Int32.not_le.mp c82)
          have lt := pk_lex i _ _ 0 (a1.trans l1.symm) a2 l2 (by omega) ee lti
          have kl : kf < mid := by
            rcases Nat.lt_trichotomy kf mid with w | w | w
            · exact w
            · subst w; omega
            · have := lsP_lt w kf1; omega
          refine x_iload dX12_numberOf_85 rfl rfl ?_
          refine x_iconst dX12_numberOf_87 rfl iC_1 ?_
          refine x_isub dX12_numberOf_88 rfl ?_
          refine x_istore dX12_numberOf_89 rfl (by decide) ?_
          refine x_goto (tgt := 100) dX12_numberOf_91 rfl ?_
          refine x_goto (tgt := 45) dX12_numberOf_100 rfl ?_
          exact x_to (ih lo mid (by omega) (by omega) h3 kl) ⟨rfl, rfl, rfl, rfl, rfl, trivial⟩
  exact x_to (loop N 0 N (by omega) (Nat.le_refl _) (by omega) hkf) ⟨rfl, rfl, rfl, rfl, rfl, trivial⟩
theorem n_place {a : Int32} (hd : 10 ≤ d) (hR : RM h S) (K : ∀ r S2 h2, sp_place S a = (r, S2) → RM h2 S2 → cF h h2 → Q (some (.int r)) h2) : xCt G l mX12_place d [.ref 110, .int a] h 0 0 Q := by
  have hC := hR.1
  refine xCt_of (by decide) (Nat.le_of_ble_eq_true rfl) ?_
  refine x_iload_n (i := 1) dX12_place_0 rfl rfl rfl ?_
  refine x_callS0 (As := [_]) (d2 := d - 1) dX12_place_1 rfl kX12_165 okX12_isSlot (by omega) rfl rfl (Nat.le_of_ble_eq_true rfl) (m_isSlot (by omega) (fun z => ?_) (fun x hx ex qx => ?_))
  · refine x_if_ne_f (tgt := 9) dX12_place_4 rfl rfl nI_0 ?_
    refine x_iconst dX12_place_7 rfl iC_m1 ?_
    refine x_ireturn dX12_place_8 rfl rfl ?_
    exact K _ _ _ (by simp only [sp_place, z] <;> rfl) hR (cF.rf hC)
  subst ex
  refine x_if_ne_t (tgt := 9) dX12_place_4 rfl nb1 ?_
  refine x_aload_n (i := 0) dX12_place_9 rfl rfl rfl ?_
  refine x_iload_n (i := 1) dX12_place_10 rfl rfl rfl ?_
  refine x_callV0 (ci := 12) (b := 110) (As := [_]) (d2 := d - 1) dX12_place_11 rfl kX12_337 okX12_numberOf (hC.o rfl) (fun q hq => by cases hq; rfl) (by omega) rfl rfl (Nat.le_of_ble_eq_true rfl) (m_numberOf (by omega) hR (by omega) (fun h2 r2 c2 s2 => ?_))
  rw [hR.p hx]
  refine x_istore_n (i := 2) dX12_place_14 rfl rfl (by decide) ?_
  refine x_iload_n (i := 2) dX12_place_15 rfl rfl rfl ?_
  refine x_iconst dX12_place_16 rfl iC_m1 ?_
  refine x_ic_ne (tgt := 25) dX12_place_17 rfl rfl (fun c17 => ?_) (fun c17 => ?_)
  · have ne : ¬ plN S.2.1 (S.1 x) = -1 := c17
    refine x_iload_n (i := 2) dX12_place_25 rfl rfl rfl ?_
    refine x_ireturn dX12_place_26 rfl rfl ?_
    exact K _ _ _ (by simp only [sp_place, qx]; rw [if_neg ne]) r2 c2
  · have eq : plN S.2.1 (S.1 x) = -1 := by
      first
      | exact c17
      | exact Classical.byContradiction (fun z => c17 z)
    refine x_bipush dX12_place_20 rfl bC_m2 ?_
    refine x_goto (tgt := 26) dX12_place_22 rfl ?_
    refine x_ireturn dX12_place_26 rfl rfl ?_
    exact K _ _ _ (by simp only [sp_place, qx]; rw [if_pos eq]) r2 c2
end MOD

