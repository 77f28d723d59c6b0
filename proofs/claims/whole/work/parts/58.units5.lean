/-! EightParts$Units: a product of two of the first half -/
/-- the number of a product of two units; -1 -/
noncomputable def zMN (o i k : Nat) : Int32 := if i < (zLst o 1).1 ∧ k < (zLst o 1).1 then (match oMul (zUp ((zLst o 1).2 i)) (zUp ((zLst o 1).2 k)) with
  | some z => zFind (zLst o 1).2 (zLst o 1).1 (zPk z 8)
  | none => -1) else -1
def ucV (o : Nat) (g : Nat → Int32) : Prop := ∀ i k, i < 120 → k < 120 → g (i * 120 + k) = 0 ∨ g (i * 120 + k) = zMN o i k + 1
theorem ucV_upd {o i k : Nat} {g : Nat → Int32} (hV : ucV o g) (hk : k < 120) : ucV o (upd g (i * 120 + k) (zMN o i k + 1)) := by
  intro i2 k2 hi2 hk2
  unfold upd
  by_cases e : i2 * 120 + k2 = i * 120 + k
  · rw [if_pos e]
    obtain rfl : i2 = i := by omega
    obtain rfl : k2 = k := by omega
    exact Or.inr rfl
  · rw [if_neg e]
    exact hV i2 k2 hi2 hk2
section UNITS
variable {G : xG} {l : Launch} {d : Nat} {h : xH} {Q : Option Value → xH → Prop}
theorem w_mulNeg {r o i k K0 N0 : Nat} {rw0 : Nat → Nat} {g gl : Nat → Int32} (hd : 3 ≤ d) (hC : Cs h) (hr : 134 ≤ r) (h4 : (h.1 31).2.2 4 = .ref r) (hrow : h.1 r = (0, 14400, xI g)) (h23 : h.1 23 = (4, 4, xP rw0)) (hlr : 134 ≤ rw0 1) (hne : rw0 1 ≠ r) (hlist : h.1 (rw0 1) = (0, 240, xI gl)) (hsz : iv h 28 1 = nI (zLst o 1).1) (hgl : ∀ j, j < (zLst o 1).1 → gl j = (zLst o 1).2 j) (hV : ucV o g) (hi : i < 120) (hk : k < 120)
    (K : ∀ h2 g2, Cs h2 → xSm [11, 32, 33, r] h h2 → h2.1 r = (0, 14400, xI g2) → ucV o g2 → Q (some (.int (zMN o i k))) h2) : xWP G l mX9_multiplyNegative d (zM G Q) K0 N0 4 (xls [(0, .ref 31), (1, .int (nI i)), (2, .int (nI k))]) [] h := by
  have hsN : (zLst o 1).1 ≤ 240 := zLst_le o 1
  have hg240 : i * 120 + k < 14400 := by omega
  have hsub : zMN o i k + 1 - nI 1 = zMN o i k := Int32.add_sub_cancel _ _
  -- the end: what was found is laid
  have fin : ∀ (st : Int32) (h1 : xH), st = zMN o i k + 1 → Cs h1 → xSm [11, 32, 33] h h1 → xWP G l mX9_multiplyNegative d (zM G Q) K0 N0 129 (xls [(0, .ref 31), (1, .int (nI i)), (2, .int (nI k)), (3, .int (nI (i * 120 + k)))]) [.int st, .int (nI (i * 120 + k)), .ref r] h1 := by
    intro st h1 est hC1 hS1
    subst est
    have row1 : h1.1 r = (0, 14400, xI g) := (hS1.2 r (by simp; omega)).trans hrow
    have f4 : (h1.1 31).2.2 4 = .ref r := by rw [hS1.2 31 (by decide)]; exact h4
    have hC2 := hC1.setI (f := upd g (i * 120 + k) (zMN o i k + 1)) row1 (Or.inl rfl) (by omega)
    have f42 : ((hs h1 r (0, 14400, xI (upd g (i * 120 + k) (zMN o i k + 1)))).1 31).2.2 4 = .ref r := (fv_n (by omega)).trans f4
    refine x_iast dX9_multiplyNegative_129 rfl row1 rfl (by omega) (by decide) ?_
    refine x_aload_n (i := 0) dX9_multiplyNegative_130 rfl rfl rfl ?_
    refine x_getM (a := 31) dX9_multiplyNegative_131 rfl fX9_18 hC2 rfl f42 ?_
    refine x_iload_n (i := 3) dX9_multiplyNegative_134 rfl rfl rfl ?_
    refine x_iald dX9_multiplyNegative_135 rfl hs_eq rfl (by omega) (by decide) ?_
    rw [show upd g (i * 120 + k) (zMN o i k + 1) (i * 120 + k) = zMN o i k + 1 by unfold upd; rw [if_pos rfl]]
    refine x_iconst dX9_multiplyNegative_136 rfl iC_1 ?_
    refine x_isub dX9_multiplyNegative_137 rfl ?_
    rw [hsub]
    refine x_ireturn dX9_multiplyNegative_138 rfl rfl ?_
    exact K _ _ hC2 ((hS1.tr xSm.hs1).sub (by simp)) hs_eq (ucV_upd hV hk)
  have no : ∀ h1 : xH, zMN o i k = -1 → Cs h1 → xSm [11, 32, 33] h h1 → xWP G l mX9_multiplyNegative d (zM G Q) K0 N0 98 (xls [(0, .ref 31), (1, .int (nI i)), (2, .int (nI k)), (3, .int (nI (i * 120 + k)))]) [] h1 := by
    intro h1 e hC1 hS1
    have hC := hC1
    have f4 : (h1.1 31).2.2 4 = .ref r := by rw [hS1.2 31 (by decide)]; exact h4
    refine x_iconst dX9_multiplyNegative_98 rfl iC_0 ?_
    refine x_istore dX9_multiplyNegative_99 rfl (by decide) ?_
    refine x_aload_n (i := 0) dX9_multiplyNegative_101 rfl rfl rfl ?_
    refine x_getM (a := 31) dX9_multiplyNegative_102 rfl fX9_18 hC rfl f4 ?_
    refine x_iload_n (i := 3) dX9_multiplyNegative_105 rfl rfl rfl ?_
    refine x_iload dX9_multiplyNegative_106 rfl rfl ?_
    refine x_if_eq_t (tgt := 128) dX9_multiplyNegative_108 rfl nI_0 ?_
    refine x_iconst dX9_multiplyNegative_128 rfl iC_0 ?_
    exact x_to (fin (nI 0) h1 (by rw [e]; decide) hC1 hS1) ⟨rfl, rfl, rfl, rfl, trivial⟩
  refine x_iload_n (i := 1) dX9_multiplyNegative_4 rfl rfl rfl ?_
  refine x_if_lt_f (tgt := 24) dX9_multiplyNegative_5 rfl rfl (nI_pos (by omega)) ?_
  refine x_iload_n (i := 1) dX9_multiplyNegative_8 rfl rfl rfl ?_
  refine x_bipush dX9_multiplyNegative_9 rfl bC_120 ?_
  refine x_ic_ge_f (tgt := 24) dX9_multiplyNegative_11 rfl rfl (nI_ge hi (by decide)) ?_
  refine x_iload_n (i := 2) dX9_multiplyNegative_14 rfl rfl rfl ?_
  refine x_if_lt_f (tgt := 24) dX9_multiplyNegative_15 rfl rfl (nI_pos (by omega)) ?_
  refine x_iload_n (i := 2) dX9_multiplyNegative_18 rfl rfl rfl ?_
  refine x_bipush dX9_multiplyNegative_19 rfl bC_120 ?_
  refine x_ic_lt_t (tgt := 26) dX9_multiplyNegative_21 rfl (nI_lt hk (by decide)) ?_
  refine x_iload_n (i := 1) dX9_multiplyNegative_26 rfl rfl rfl ?_
  refine x_bipush dX9_multiplyNegative_27 rfl bC_120 ?_
  refine x_imul dX9_multiplyNegative_29 rfl ?_
  refine x_iload_n (i := 2) dX9_multiplyNegative_30 rfl rfl rfl ?_
  refine x_iadd dX9_multiplyNegative_31 rfl ?_
  rw [show nI i * nI 120 + nI k = nI (i * 120 + k) by rw [nI_mul8, nI_add]]
  refine x_istore_n (i := 3) dX9_multiplyNegative_32 rfl rfl (by decide) ?_
  refine x_aload_n (i := 0) dX9_multiplyNegative_33 rfl rfl rfl ?_
  refine x_getM (a := 31) dX9_multiplyNegative_34 rfl fX9_18 hC rfl h4 ?_
  refine x_iload_n (i := 3) dX9_multiplyNegative_37 rfl rfl rfl ?_
  refine x_iald dX9_multiplyNegative_38 rfl hrow rfl (by omega) (by decide) ?_
  refine x_if_ne (tgt := 130) dX9_multiplyNegative_39 rfl rfl (fun c39 => ?_) (fun c39 => ?_)
  · refine x_aload_n (i := 0) dX9_multiplyNegative_130 rfl rfl rfl ?_
    refine x_getM (a := 31) dX9_multiplyNegative_131 rfl fX9_18 hC rfl h4 ?_
    refine x_iload_n (i := 3) dX9_multiplyNegative_134 rfl rfl rfl ?_
    refine x_iald dX9_multiplyNegative_135 rfl hrow rfl (by omega) (by decide) ?_
    rcases hV i k hi hk with z | z
    · exact absurd z c39
    · rw [z]
      refine x_iconst dX9_multiplyNegative_136 rfl iC_1 ?_
      refine x_isub dX9_multiplyNegative_137 rfl ?_
      rw [hsub]
      refine x_ireturn dX9_multiplyNegative_138 rfl rfl ?_
      exact K h g hC (xSm.rf.sub (by simp)) hrow hV
  · have v32 := hC.v (a := 32) rfl
    have v33 := hC.v (a := 33) rfl
    refine x_aload_n (i := 0) dX9_multiplyNegative_42 rfl rfl rfl ?_
    refine x_getC dX9_multiplyNegative_43 rfl fX9_35 hC rfl F_31_0 ?_
    refine x_aload_n (i := 0) dX9_multiplyNegative_46 rfl rfl rfl ?_
    refine x_getC dX9_multiplyNegative_47 rfl fX9_9 hC rfl F_31_2 ?_
    refine x_iload_n (i := 1) dX9_multiplyNegative_50 rfl rfl rfl ?_
    refine x_callV0 (ci := 4) (b := 22) (As := [_, _]) (d2 := d - 1) dX9_multiplyNegative_51 rfl kX9_96 okX4_takeUnit (hC.o rfl) (fun q hq => by cases hq; rfl) (by omega) rfl rfl (Nat.le_of_ble_eq_true rfl) (c_takeUnit (by omega) hC h23 rfl hlist (by decide) hsz hsN hgl v32 (fun j ej hj => ?_) (fun hz => ?_))
    · obtain rfl : i = j := (nI_eq (by omega) (by omega)).mp ej
      have hC1 := hC.setI (f := zUp ((zLst o 1).2 i)) v32 (Or.inl rfl) (by decide)
      have hS1 : xSm [32] h (hs h 32 (0, 8, xI (zUp ((zLst o 1).2 i)))) := xSm.hs1
      have x1 : iv (hs h 32 (0, 8, xI (zUp ((zLst o 1).2 i)))) 32 = zUp ((zLst o 1).2 i) := iv_hs
      show xWP G l mX9_multiplyNegative d (zM G Q) K0 N0 54 _ (xpush (some (.int (nI 1))) []) (hs h 32 (0, 8, xI (zUp ((zLst o 1).2 i))))
      generalize hs h 32 (0, 8, xI (zUp ((zLst o 1).2 i))) = h1 at hC1 hS1 x1 ⊢
      have hC := hC1
      refine x_if_eq_f (tgt := 98) dX9_multiplyNegative_54 rfl rfl nb1 ?_
      refine x_aload_n (i := 0) dX9_multiplyNegative_57 rfl rfl rfl ?_
      refine x_getC dX9_multiplyNegative_58 rfl fX9_35 hC rfl F_31_0 ?_
      refine x_aload_n (i := 0) dX9_multiplyNegative_61 rfl rfl rfl ?_
      refine x_getC dX9_multiplyNegative_62 rfl fX9_15 hC rfl F_31_3 ?_
      refine x_iload_n (i := 2) dX9_multiplyNegative_65 rfl rfl rfl ?_
      refine x_callV0 (ci := 4) (b := 22) (As := [_, _]) (d2 := d - 1) dX9_multiplyNegative_66 rfl kX9_96 okX4_takeUnit (hC.o rfl) (fun q hq => by cases hq; rfl) (by omega) rfl rfl (Nat.le_of_ble_eq_true rfl) (c_takeUnit (by omega) hC ((hS1.2 23 (by decide)).trans h23) rfl ((hS1.2 (rw0 1) (by simp; omega)).trans hlist) (by decide) (by rw [hS1.iv (by decide)]; exact hsz) hsN hgl (hC.v (a := 33) rfl) (fun j2 ej2 hj2 => ?_) (fun hz => ?_))
      · obtain rfl : k = j2 := (nI_eq (by omega) (by omega)).mp ej2
        have hC2 := hC1.setI (f := zUp ((zLst o 1).2 k)) (hC.v (a := 33) rfl) (Or.inl rfl) (by decide)
        have hS2 : xSm [33] h1 (hs h1 33 (0, 8, xI (zUp ((zLst o 1).2 k)))) := xSm.hs1
        have x2 : iv (hs h1 33 (0, 8, xI (zUp ((zLst o 1).2 k)))) 32 = zUp ((zLst o 1).2 i) := by rw [iv_n (by decide)]; exact x1
        have y2 : iv (hs h1 33 (0, 8, xI (zUp ((zLst o 1).2 k)))) 33 = zUp ((zLst o 1).2 k) := iv_hs
        show xWP G l mX9_multiplyNegative d (zM G Q) K0 N0 69 _ (xpush (some (.int (nI 1))) []) (hs h1 33 (0, 8, xI (zUp ((zLst o 1).2 k))))
        generalize hs h1 33 (0, 8, xI (zUp ((zLst o 1).2 k))) = h2 at hC2 hS2 x2 y2 ⊢
        have hC := hC2
        have hS12 := (hS1.tr hS2)
        have emn : zMN o i k = (match oMul (zUp ((zLst o 1).2 i)) (zUp ((zLst o 1).2 k)) with
          | some z => zFind (zLst o 1).2 (zLst o 1).1 (zPk z 8)
          | none => -1) := if_pos ⟨hj, hj2⟩
        refine x_if_eq_f (tgt := 98) dX9_multiplyNegative_69 rfl rfl nb1 ?_
        refine x_aload_n (i := 0) dX9_multiplyNegative_72 rfl rfl rfl ?_
        refine x_getC dX9_multiplyNegative_73 rfl fX9_39 hC rfl F_31_1 ?_
        refine x_aload_n (i := 0) dX9_multiplyNegative_76 rfl rfl rfl ?_
        refine x_getC dX9_multiplyNegative_77 rfl fX9_9 hC rfl F_31_2 ?_
        refine x_aload_n (i := 0) dX9_multiplyNegative_80 rfl rfl rfl ?_
        refine x_getC dX9_multiplyNegative_81 rfl fX9_9 hC rfl F_31_2 ?_
        refine x_aload_n (i := 0) dX9_multiplyNegative_84 rfl rfl rfl ?_
        refine x_getC dX9_multiplyNegative_85 rfl fX9_15 hC rfl F_31_3 ?_
        refine x_callV0 (ci := 7) (b := 10) (As := [_, _, _]) (d2 := d - 1) dX9_multiplyNegative_88 rfl kX9_100 okX7_multiply (hC.o rfl) (fun q hq => by cases hq; rfl) (by omega) rfl rfl (Nat.le_of_ble_eq_true rfl) (c_mulE (by omega) hC (t := 32) rfl (a := 32) rfl (b := 33) rfl x2 y2 (fun z hz h3 hC3 hS3 e3 => ?_) (fun hz h3 hC3 hS3 => ?_))
        · have hC := hC3
          have hS13 := (hS12.tr hS3).sub (T := [11, 32, 33]) (by simp)
          have f4 : (h3.1 31).2.2 4 = .ref r := by rw [hS13.2 31 (by decide)]; exact h4
          have vx := hC.v (a := 32) rfl
          rw [e3] at vx
          rw [hz] at emn
          refine x_if_eq_f (tgt := 98) dX9_multiplyNegative_91 rfl rfl nb1 ?_
          refine x_iconst dX9_multiplyNegative_94 rfl iC_1 ?_
          refine x_goto (tgt := 99) dX9_multiplyNegative_95 rfl ?_
          refine x_istore dX9_multiplyNegative_99 rfl (by decide) ?_
          refine x_aload_n (i := 0) dX9_multiplyNegative_101 rfl rfl rfl ?_
          refine x_getM (a := 31) dX9_multiplyNegative_102 rfl fX9_18 hC rfl f4 ?_
          refine x_iload_n (i := 3) dX9_multiplyNegative_105 rfl rfl rfl ?_
          refine x_iload dX9_multiplyNegative_106 rfl rfl ?_
          refine x_if_eq_f (tgt := 128) dX9_multiplyNegative_108 rfl rfl nb1 ?_
          refine x_aload_n (i := 0) dX9_multiplyNegative_111 rfl rfl rfl ?_
          refine x_getC dX9_multiplyNegative_112 rfl fX9_35 hC rfl F_31_0 ?_
          refine x_iconst dX9_multiplyNegative_115 rfl iC_1 ?_
          refine x_aload_n (i := 0) dX9_multiplyNegative_116 rfl rfl rfl ?_
          refine x_getC dX9_multiplyNegative_117 rfl fX9_9 hC rfl F_31_2 ?_
          refine x_callV0 (ci := 4) (b := 22) (As := [_, _]) (d2 := d - 1) dX9_multiplyNegative_120 rfl kX9_106 okX4_search (hC.o rfl) (fun q hq => by cases hq; rfl) (by omega) rfl rfl (Nat.le_of_ble_eq_true rfl) (c_search (norm := 1) (by omega) hC ((hS13.2 23 (by decide)).trans h23) ((hS13.2 (rw0 1) (by simp; omega)).trans hlist) (by decide) (by rw [hS13.iv (by decide)]; exact hsz) (by omega) hsN (by decide) vx ?_)
          rw [zFind_eq (by omega) hgl]
          refine x_iconst dX9_multiplyNegative_123 rfl iC_1 ?_
          refine x_iadd dX9_multiplyNegative_124 rfl ?_
          refine x_goto (tgt := 129) dX9_multiplyNegative_125 rfl ?_
          exact x_to (fin _ h3 (by rw [emn]; rfl) hC3 hS13) ⟨rfl, rfl, rfl, rfl, trivial⟩
        · rw [hz] at emn
          refine x_if_eq_t (tgt := 98) dX9_multiplyNegative_91 rfl nI_0 ?_
          exact x_to (no h3 emn hC3 ((hS12.tr hS3).sub (by simp))) ⟨rfl, rfl, rfl, rfl, trivial⟩
      · refine x_if_eq_t (tgt := 98) dX9_multiplyNegative_69 rfl nI_0 ?_
        have e : zMN o i k = -1 := if_neg (fun z => by
          rcases hz with q | q
          · exact nI_pos (by omega) q
          · have := (nI_leI (by omega) (by omega)).mp q
            omega)
        exact x_to (no h1 e hC1 (hS1.sub (by simp))) ⟨rfl, rfl, rfl, rfl, trivial⟩
    · refine x_if_eq_t (tgt := 98) dX9_multiplyNegative_54 rfl nI_0 ?_
      have e : zMN o i k = -1 := if_neg (fun z => by
        rcases hz with q | q
        · exact nI_pos (by omega) q
        · have := (nI_leI (by omega) (by omega)).mp q
          omega)
      exact x_to (no h e hC (xSm.rf.sub (by simp))) ⟨rfl, rfl, rfl, rfl, trivial⟩
end UNITS

