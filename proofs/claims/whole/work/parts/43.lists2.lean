/-! EightParts$Lists: search, words by parts -/
def zSr (g : Nat → Int32) (w : Int32) : Nat → Nat → Nat → Nat × Nat
  | 0, lo, hi => (lo, hi)
  | k + 1, lo, hi => if lo < hi then (if g ((lo + hi) / 2) < w then zSr g w k ((lo + hi) / 2 + 1) hi else zSr g w k lo ((lo + hi) / 2)) else (lo, hi)
def zFind (g : Nat → Int32) (sz : Nat) (w : Int32) : Int32 := if (zSr g w 16 0 (sz - 1)).1 = (zSr g w 16 0 (sz - 1)).2 ∧ g (zSr g w 16 0 (sz - 1)).1 = w then nI (zSr g w 16 0 (sz - 1)).1 else -1
def zOw (o : Nat) : Nat → Nat → Int32
  | 0 => fun _ => nI 0
  | k + 1 => fun i => zOw o k i ||| (((nI (exN (zCode.getD k 0) o) >>> (nI i &&& 31)) &&& nI 1) <<< (nI k &&& 31))
section LISTS
variable {G : xG} {l : Launch} {d : Nat} {h : xH} {Q : Option Value → xH → Prop}
theorem c_search {norm a N sz : Nat} {rw : Nat → Nat} {g f : Nat → Int32} (hd : 1 ≤ d) (hC : Cs h) (h23 : h.1 23 = (4, 4, xP rw)) (hrow : h.1 (rw norm) = (0, N, xI g)) (hnm : norm < 4) (hsz : iv h 28 norm = nI sz) (hs1 : 1 ≤ sz) (hs2 : sz ≤ N) (hN : N ≤ 10000) (hx : h.1 a = (0, 8, xI f))
    (K : Q (some (.int (zFind g sz (zPk f 8)))) h) : xCt G l mX4_search d [.ref 22, .int (nI norm), .ref a] h 0 0 Q := by
  have v28 := hC.v (a := 28) rfl
  refine xCt_of (by decide) (Nat.le_of_ble_eq_true rfl) ?_
  refine x_iconst dX4_search_0 rfl iC_0 ?_
  refine x_istore_n (i := 3) dX4_search_1 rfl rfl (by decide) ?_
  refine x_aload_n (i := 0) dX4_search_2 rfl rfl rfl ?_
  refine x_getC dX4_search_3 rfl fX4_16 hC rfl F_22_2 ?_
  refine x_iload_n (i := 1) dX4_search_6 rfl rfl rfl ?_
  refine x_iald dX4_search_7 rfl (by first | assumption | exact hs_eq | exact hs_ne (by first | assumption | decide | omega) (by first | assumption | exact hs_eq | exact hs_ne (by first | assumption | decide | omega) (by first | assumption | exact hs_eq | exact hs_ne (by first | assumption | decide | omega) (by assumption)))) rfl (by omega) (by decide) ?_
  rw [hsz]
  refine x_iconst dX4_search_8 rfl iC_1 ?_
  refine x_isub dX4_search_9 rfl ?_
  rw [show nI sz - nI 1 = nI (sz - 1) from pk_sub hs1]
  refine x_istore dX4_search_10 rfl (by decide) ?_
  refine x_aload_n (i := 2) dX4_search_12 rfl rfl rfl ?_
  refine x_callS0 (As := [_]) (d2 := d - 1) dX4_search_13 rfl kX4_62 okX4_pack (by omega) rfl rfl (Nat.le_of_ble_eq_true rfl) (c_pack hx ?_)
  refine x_istore dX4_search_16 rfl (by decide) ?_
  refine x_iconst dX4_search_18 rfl iC_0 ?_
  refine x_istore dX4_search_19 rfl (by decide) ?_
  have fin : ∀ i lo hi, lo < N → hi < N → zSr g (zPk f 8) 16 0 (sz - 1) = (lo, hi) → xWP G l mX4_search d (zM G Q) 0 0 74 (xls [(0, .ref 22), (1, .int (nI norm)), (2, .ref a), (3, .int (nI lo)), (4, .int (nI hi)), (5, .int (zPk f 8)), (6, .int (nI i))]) [] h := by
    intro i lo hi hlo hhi e
    unfold zFind at K
    rw [e] at K
    refine x_iload_n (i := 3) dX4_search_74 rfl rfl rfl ?_
    refine x_iload dX4_search_75 rfl rfl ?_
    refine x_jc_ne (tgt := 97) dX4_search_77 rfl rfl (by omega) (by omega) (fun c77 => ?_) (fun c77 => ?_)
    · rw [if_neg (fun z => c77 z.1)] at K
      refine x_iconst dX4_search_97 rfl iC_m1 ?_
      refine x_ireturn dX4_search_98 rfl rfl ?_
      exact K
    · refine x_aload_n (i := 0) dX4_search_80 rfl rfl rfl ?_
      refine x_getC dX4_search_81 rfl fX4_11 hC rfl F_22_1 ?_
      refine x_iload_n (i := 1) dX4_search_84 rfl rfl rfl ?_
      refine x_aald (t := 0)  dX4_search_85 rfl h23 (by decide) rfl (by omega) (by decide) ?_
      refine x_iload_n (i := 3) dX4_search_86 rfl rfl rfl ?_
      refine x_iald dX4_search_87 rfl hrow rfl (by omega) (by omega) ?_
      refine x_iload dX4_search_88 rfl rfl ?_
      refine x_ic_ne (tgt := 97) dX4_search_90 rfl rfl (fun c90 => ?_) (fun c90 => ?_)
      · rw [if_neg (fun z => c90 z.2)] at K
        refine x_iconst dX4_search_97 rfl iC_m1 ?_
        refine x_ireturn dX4_search_98 rfl rfl ?_
        exact K
      · rw [if_pos ⟨c77, c90⟩] at K
        refine x_iload_n (i := 3) dX4_search_93 rfl rfl rfl ?_
        refine x_goto (tgt := 98) dX4_search_94 rfl ?_
        refine x_ireturn dX4_search_98 rfl rfl ?_
        exact K
  have key := xloop (P := fun i => ∀ lo hi, lo < N → hi < N → zSr g (zPk f 8) 16 0 (sz - 1) = zSr g (zPk f 8) (16 - i) lo hi → xWP G l mX4_search d (zM G Q) 0 0 21 (xls [(0, .ref 22), (1, .int (nI norm)), (2, .ref a), (3, .int (nI lo)), (4, .int (nI hi)), (5, .int (zPk f 8)), (6, .int (nI i))]) [] h) 16 (by
    intro i hi16 ih lo hi hlo hhi e
    refine x_iload dX4_search_21 rfl rfl ?_
    refine x_bipush dX4_search_23 rfl bC_16 ?_
    refine x_jc_ge (tgt := 74) dX4_search_25 rfl rfl (by omega) (by omega) (fun c25 => ?_) (fun c25 => ?_)
    · rw [show 16 - i = 0 by omega] at e
      exact x_to (fin i lo hi hlo hhi e) ⟨rfl, rfl, rfl, rfl, rfl, rfl, rfl, trivial⟩
    · obtain ⟨k, hk⟩ : ∃ k, 16 - i = k + 1 := ⟨16 - i - 1, by omega⟩
      rw [hk, show zSr g (zPk f 8) (k + 1) lo hi = if lo < hi then (if g ((lo + hi) / 2) < zPk f 8 then zSr g (zPk f 8) k ((lo + hi) / 2 + 1) hi else zSr g (zPk f 8) k lo ((lo + hi) / 2)) else (lo, hi) from rfl] at e
      refine x_iload_n (i := 3) dX4_search_28 rfl rfl rfl ?_
      refine x_iload dX4_search_29 rfl rfl ?_
      refine x_jc_ge (tgt := 74) dX4_search_31 rfl rfl (by omega) (by omega) (fun c31 => ?_) (fun c31 => ?_)
      · rw [if_neg (by omega)] at e
        exact x_to (fin i lo hi hlo hhi e) ⟨rfl, rfl, rfl, rfl, rfl, rfl, rfl, trivial⟩
      · rw [if_pos c31] at e
        refine x_iload_n (i := 3) dX4_search_34 rfl rfl rfl ?_
        refine x_iload dX4_search_35 rfl rfl ?_
        refine x_iadd dX4_search_37 rfl ?_
        rw [show nI lo + nI hi = nI (lo + hi) from nI_add _ _]
        refine x_iconst dX4_search_38 rfl iC_2 ?_
        refine x_idiv dX4_search_39 rfl (by decide) ?_
        rw [show nI (lo + hi) / nI 2 = nI ((lo + hi) / 2) from pk_div (by omega) (by decide) (by decide)]
        refine x_istore dX4_search_40 rfl (by decide) ?_
        refine x_aload_n (i := 0) dX4_search_42 rfl rfl rfl ?_
        refine x_getC dX4_search_43 rfl fX4_11 hC rfl F_22_1 ?_
        refine x_iload_n (i := 1) dX4_search_46 rfl rfl rfl ?_
        refine x_aald (t := 0)  dX4_search_47 rfl h23 (by decide) rfl (by omega) (by decide) ?_
        refine x_iload dX4_search_48 rfl rfl ?_
        refine x_iald dX4_search_50 rfl hrow rfl (by omega) (by omega) ?_
        refine x_iload dX4_search_51 rfl rfl ?_
        refine x_ic_ge (tgt := 64) dX4_search_53 rfl rfl (fun c53 => ?_) (fun c53 => ?_)
        · rw [if_neg (fun z => Int32.not_lt.mpr c53 z)] at e
          refine x_iload dX4_search_64 rfl rfl ?_
          refine x_istore dX4_search_66 rfl (by decide) ?_
          refine x_iinc dX4_search_68 rfl rfl (inc1 _) ?_
          refine x_goto (tgt := 21) dX4_search_71 rfl ?_
          refine x_to (ih c25 lo ((lo + hi) / 2) hlo (by omega) ?_) ⟨rfl, rfl, rfl, rfl, rfl, rfl, rfl, trivial⟩
          rw [e, show 16 - (i + 1) = k by omega]
        · rw [if_pos (Int32.not_le.mp c53)] at e
          refine x_iload dX4_search_56 rfl rfl ?_
          refine x_iconst dX4_search_58 rfl iC_1 ?_
          refine x_iadd dX4_search_59 rfl ?_
          rw [show nI ((lo + hi) / 2) + nI 1 = nI ((lo + hi) / 2 + 1) from nI_add _ 1]
          refine x_istore_n (i := 3) dX4_search_60 rfl rfl (by decide) ?_
          refine x_goto (tgt := 68) dX4_search_61 rfl ?_
          refine x_iinc dX4_search_68 rfl rfl (inc1 _) ?_
          refine x_goto (tgt := 21) dX4_search_71 rfl ?_
          refine x_to (ih c25 ((lo + hi) / 2 + 1) hi (by omega) hhi ?_) ⟨rfl, rfl, rfl, rfl, rfl, rfl, rfl, trivial⟩
          rw [e, show 16 - (i + 1) = k by omega]) 0 (Nat.zero_le _)
  exact x_to (key 0 (sz - 1) (by omega) (by omega) rfl) ⟨rfl, rfl, rfl, rfl, rfl, rfl, rfl, trivial⟩
theorem c_sortWords {o : Nat} (hd : 2 ≤ d) (hC : Cs h) (ho : hOrd h o) (ho8 : o < 8) (K : ∀ h2, Cs h2 → xSm [30] h h2 → h2.1 30 = (0, 8, xI (zOw o (mwN o))) → Q none h2) : xCt G l mX4_sortWords d [.ref 22] h 0 0 Q := by
  have v30 := hC.v (a := 30) rfl
  refine xCt_of (by decide) (Nat.le_of_ble_eq_true rfl) ?_
  refine x_aload_n (i := 0) dX4_sortWords_0 rfl rfl rfl ?_
  refine x_getC dX4_sortWords_1 rfl fX4_23 hC rfl F_22_4 ?_
  refine x_iconst dX4_sortWords_4 rfl iC_0 ?_
  refine x_callS0 (As := [_, _]) (d2 := d - 1) dX4_sortWords_5 rfl kX4_79 okJ7_fill_53178 (by omega) rfl rfl (Nat.le_of_ble_eq_true rfl) (c_fill v30 (by decide) ?_)
  have hC1 := hC.setI (f := fun _ => nI 0) v30 (Or.inl rfl) (by decide)
  have ho1 : hOrd (hs h 30 (0, 8, xI (fun _ => nI 0))) o := by unfold hOrd; rw [hs_n (by decide)]; exact ho
  refine x_aload_n (i := 0) dX4_sortWords_8 rfl rfl rfl ?_
  refine x_getC dX4_sortWords_9 rfl fX4_26 hC1 rfl F_22_0 ?_
  refine x_getM (a := 14) dX4_sortWords_12 rfl fX4_30 hC1 rfl ho1 ?_
  refine x_callS0 (As := [_]) (d2 := d - 1) dX4_sortWords_15 rfl kX4_72 okX2_manyWords (by omega) rfl rfl (Nat.le_of_ble_eq_true rfl) (c_manyWords ho8 ?_)
  refine x_istore_n (i := 1) dX4_sortWords_18 rfl rfl (by decide) ?_
  refine x_iconst dX4_sortWords_19 rfl iC_0 ?_
  refine x_istore_n (i := 2) dX4_sortWords_20 rfl rfl (by decide) ?_
  have mw : mwN o ≤ 16 := by unfold mwN; split <;> omega
  have key := xloop (P := fun k => xWP G l mX4_sortWords d (zM G Q) 0 0 21 (xls [(0, .ref 22), (1, .int (nI (mwN o))), (2, .int (nI k))]) [] (hs h 30 (0, 8, xI (zOw o k)))) (mwN o) (by
    intro k hk ih
    have hC2 := hC.setI (f := zOw o k) v30 (Or.inl rfl) (by decide)
    have ho2 : hOrd (hs h 30 (0, 8, xI (zOw o k))) o := by unfold hOrd; rw [hs_n (by decide)]; exact ho
    refine x_iload_n (i := 2) dX4_sortWords_21 rfl rfl rfl ?_
    refine x_iload_n (i := 1) dX4_sortWords_22 rfl rfl rfl ?_
    refine x_jc_ge (tgt := 82) dX4_sortWords_23 rfl rfl (by omega) (by omega) (fun c23 => ?_) (fun c23 => ?_)
    · obtain rfl : k = mwN o := by omega
      refine x_return dX4_sortWords_82 rfl ?_
      exact K _ hC2 xSm.hs1 hs_eq
    · refine x_gets dX4_sortWords_26 rfl sX4_83 ?_
      refine x_iload_n (i := 2) dX4_sortWords_29 rfl rfl rfl ?_
      refine x_sald dX4_sortWords_30 rfl rfl rfl (show k < 16 by omega) (by decide) ?_
      rw [show (List.getD ([0, 255, 15, 240, 51, 204, 195, 60, 85, 170, 165, 90, 153, 102, 105, 150] : List Int32) k 0) = nI (zCode.getD k 0) from cd_eq k (by omega)]
      refine x_aload_n (i := 0) dX4_sortWords_31 rfl rfl rfl ?_
      refine x_getC dX4_sortWords_32 rfl fX4_26 hC2 rfl F_22_0 ?_
      refine x_getM (a := 14) dX4_sortWords_35 rfl fX4_30 hC2 rfl ho2 ?_
      refine x_callS0 (As := [_, _]) (d2 := d - 1) dX4_sortWords_38 rfl kX4_86 okX2_exchange (by omega) rfl rfl (Nat.le_of_ble_eq_true rfl) (c_exchange (cd_lt k (by omega)) ho8 ?_)
      refine x_istore_n (i := 3) dX4_sortWords_41 rfl rfl (by decide) ?_
      refine x_iconst dX4_sortWords_42 rfl iC_0 ?_
      refine x_istore dX4_sortWords_43 rfl (by decide) ?_
      have keyI := xloop (P := fun i => xWP G l mX4_sortWords d (zM G Q) 0 0 45 (xls [(0, .ref 22), (1, .int (nI (mwN o))), (2, .int (nI k)), (3, .int (nI (exN (zCode.getD k 0) o))), (4, .int (nI i))]) [] (hs h 30 (0, 8, xI (xF (zOw o (k + 1)) (zOw o k) i)))) 8 (by
        intro i hi ihi
        have hC3 := hC.setI (f := xF (zOw o (k + 1)) (zOw o k) i) v30 (Or.inl rfl) (by decide)
        refine x_iload dX4_sortWords_45 rfl rfl ?_
        refine x_bipush dX4_sortWords_47 rfl bC_8 ?_
        refine x_jc_ge (tgt := 76) dX4_sortWords_49 rfl rfl (by omega) (by omega) (fun c49 => ?_) (fun c49 => ?_)
        · obtain rfl : i = 8 := by omega
          refine x_topI (f2 := zOw o (k + 1)) (fun j hj => ?_) (by decide) ?_
          · unfold xF
            rw [if_pos hj]
          refine x_iinc dX4_sortWords_76 rfl rfl (inc1 _) ?_
          refine x_goto (tgt := 21) dX4_sortWords_79 rfl ?_
          exact x_to (ih c23) ⟨rfl, rfl, rfl, trivial⟩
        · refine x_aload_n (i := 0) dX4_sortWords_52 rfl rfl rfl ?_
          refine x_getC dX4_sortWords_53 rfl fX4_23 hC3 rfl F_22_4 ?_
          refine x_iload dX4_sortWords_56 rfl rfl ?_
          refine x_dup2 dX4_sortWords_58 rfl rfl rfl ?_
          refine x_iald dX4_sortWords_59 rfl (by first | assumption | exact hs_eq | exact hs_ne (by first | assumption | decide | omega) (by first | assumption | exact hs_eq | exact hs_ne (by first | assumption | decide | omega) (by first | assumption | exact hs_eq | exact hs_ne (by first | assumption | decide | omega) (by assumption)))) rfl (by omega) (by decide) ?_
          refine x_iload_n (i := 3) dX4_sortWords_60 rfl rfl rfl ?_
          refine x_iload dX4_sortWords_61 rfl rfl ?_
          refine x_ishr dX4_sortWords_63 rfl ?_
          refine x_iconst dX4_sortWords_64 rfl iC_1 ?_
          refine x_iand dX4_sortWords_65 rfl ?_
          refine x_iload_n (i := 2) dX4_sortWords_66 rfl rfl rfl ?_
          refine x_ishl dX4_sortWords_67 rfl ?_
          refine x_ior dX4_sortWords_68 rfl ?_
          rw [show xF (zOw o (k + 1)) (zOw o k) i i = zOw o k i by unfold xF; rw [if_neg (by omega)]]
          refine x_iastT dX4_sortWords_69 rfl rfl (by omega) (by decide) ?_
          rw [show upd (xF (zOw o (k + 1)) (zOw o k) i) i (zOw o k i ||| (((nI (exN (zCode.getD k 0) o) >>> (nI i &&& 31)) &&& nI 1) <<< (nI k &&& 31))) = xF (zOw o (k + 1)) (zOw o k) (i + 1) from xF_upd (zOw o (k + 1)) (zOw o k) i]
          refine x_iinc dX4_sortWords_70 rfl rfl (inc1 _) ?_
          refine x_goto (tgt := 45) dX4_sortWords_73 rfl ?_
          exact x_to (ihi c49) ⟨rfl, rfl, rfl, rfl, rfl, trivial⟩) 0 (Nat.zero_le _)
      rw [xF_0] at keyI
      exact x_to keyI ⟨rfl, rfl, rfl, rfl, rfl, trivial⟩) 0 (Nat.zero_le _)
  exact x_to key ⟨rfl, rfl, rfl, trivial⟩
end LISTS

