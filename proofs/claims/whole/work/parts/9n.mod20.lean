/-! EightPartsModel: a list is laid, by going down and back -/
theorem incm1 (x : Int32) : x + Int32.ofInt (-1) = x - nI 1 := by rw [Int32.sub_eq_add_neg]; rfl
theorem nI_ge0 {n : Nat} (h : n < 2147483648) : ¬ nI n < 0 := fun z => by
  have := Int32.lt_iff_toInt_lt.mp z
  rw [nI_toInt h] at this
  have e : (0 : Int32).toInt = 0 := rfl
  omega
theorem vv_inc : ∀ c, c < 8 → nI c - nI 4 + nI 1 = vv c := by decide +kernel
theorem vv_nx : ∀ c, c < 7 → vv c = nI (c + 1) - nI 4 := by decide +kernel
theorem vv_le0 : ∀ c, c < 7 → (vv c ≤ 0 ↔ c < 4) := by decide +kernel
theorem sq_9 : ∀ c, c < 7 → sqN c ≤ 9 := by decide
theorem lf_r : ∀ norm, norm < 4 → 8 * (lf norm + zRoom norm) ≤ 72968 := by decide
def dI (h : xH) (o norm : Nat) (D : List (List Nat)) (h1 : xH) : Prop := Cs h1 ∧ xSm [114, 117, 118, 116] h h1 ∧ iv h1 116 = upd (iv h 116) norm (nI o) ∧ (∀ j, ¬ (8 * lf norm ≤ j ∧ j < 8 * (lf norm + zRoom norm)) → iv h1 114 j = iv h 114 j) ∧ ∀ k, k < D.length → ∀ p, p < 8 → iv h1 114 (8 * (lf norm + k) + p) = vv ((D.getD k []).getD p 0)
theorem dI.o {h h1 h2 : xH} {o norm : Nat} {D : List (List Nat)} (i : dI h o norm D h1) (hC : Cs h2) (hS : xSm [117, 118] h1 h2) : dI h o norm D h2 := by
  obtain ⟨i1, i2, i3, i4, i5⟩ := i
  have e1 : iv h2 116 = iv h1 116 := hS.iv (by decide)
  have e2 : iv h2 114 = iv h1 114 := hS.iv (by decide)
  exact ⟨hC, (i2.tr hS).sub (by simp), by rw [e1]; exact i3, by rw [e2]; exact i4, by rw [e2]; exact i5⟩
abbrev dL (norm o n : Nat) (dep : Int32) : xL := xls [(0, .ref 110), (1, .int (nI norm)), (2, .int (nI o)), (3, .int (nI (8 * lf norm))), (4, .int (nI n)), (5, .int dep)]
def dSt (G : xG) (l : Launch) (d : Nat) (Q : Option Value → xH → Prop) (h : xH) (o norm i c : Nat) : Prop := ∀ h1 D R rest pre, rest ≤ 12 → pre.length = i → (∀ x ∈ pre, x < 7) → D ++ lxT o i c rest pre ++ R = lsD o norm → dI h o norm D h1 → (∀ j, j < i → iv h1 117 j = vv (pre.getD j 0)) → iv h1 117 i = nI c - nI 4 → iv h1 118 i = nI rest → (∀ h2, dI h o norm (D ++ lxT o i c rest pre) h2 → (∀ j, j < i → iv h2 117 j = iv h1 117 j) → (∀ j, j < i → iv h2 118 j = iv h1 118 j) → xWP G l mX12_laysList d (zM G Q) 0 0 49 (dL norm o (D ++ lxT o i c rest pre).length (nI i - nI 1)) [] h2) → xWP G l mX12_laysList d (zM G Q) 0 0 49 (dL norm o D.length (nI i)) [] h1
section MOD
variable {G : xG} {l : Launch} {d : Nat} {h : xH} {Q : Option Value → xH → Prop} {S : St}
theorem w_node {o norm i : Nat} (hd : 3 ≤ d) (hn : norm < 4) (ho : o < 8) (hi : i ≤ 7) (child : i < 7 → dSt G l d Q h o norm (i + 1) 0) : ∀ cc c, c + cc = 7 → dSt G l d Q h o norm i c := by
  intro cc
  induction cc with
  | zero =>
    intro c hc h1 D R rest pre hr pl7 p7 eD hI e7 ec el kk
    obtain rfl : c = 7 := by omega
    have hC := hI.1
    have v7 := hC.v (a := 117) rfl
    rw [lxT_7, List.append_nil] at kk
    have hC2 := hC.setI (f := upd (iv h1 117) i (vv 7)) v7 (Or.inl rfl) (by decide)
    refine x_iload dX12_laysList_49 rfl rfl ?_
    refine x_if_lt_f (tgt := 244) dX12_laysList_51 rfl rfl (nI_ge0 (by omega)) ?_
    refine x_aload_n (i := 0) dX12_laysList_54 rfl rfl rfl ?_
    refine x_getC dX12_laysList_55 rfl fX12_37 hC rfl F_110_8 ?_
    refine x_iload dX12_laysList_58 rfl rfl ?_
    refine x_dup2 dX12_laysList_60 rfl rfl rfl ?_
    refine x_iald dX12_laysList_61 rfl v7 rfl (by omega) (by decide) ?_
    rw [ec]
    refine x_iconst dX12_laysList_62 rfl iC_1 ?_
    refine x_iadd dX12_laysList_63 rfl ?_
    rw [vv_inc 7 (by decide)]
    refine x_iast dX12_laysList_64 rfl v7 rfl (by omega) (by decide) ?_
    have w7 : (hs h1 117 (0, 8, xI (upd (iv h1 117) i (vv 7)))).1 117 = (0, 8, xI (upd (iv h1 117) i (vv 7))) := hs_eq
    have ei : upd (iv h1 117) i (vv 7) i = vv 7 := by unfold upd; rw [if_pos rfl]
    have hI2 := hI.o hC2 (xSm.hs1.sub (by simp))
    have hC := hC2
    refine x_aload_n (i := 0) dX12_laysList_65 rfl rfl rfl ?_
    refine x_getC dX12_laysList_66 rfl fX12_37 hC rfl F_110_8 ?_
    refine x_iload dX12_laysList_69 rfl rfl ?_
    refine x_iald dX12_laysList_71 rfl w7 rfl (by omega) (by decide) ?_
    refine x_aload_n (i := 0) dX12_laysList_72 rfl rfl rfl ?_
    refine x_getC dX12_laysList_73 rfl fX12_37 hC rfl F_110_8 ?_
    refine x_iload dX12_laysList_76 rfl rfl ?_
    refine x_iald dX12_laysList_78 rfl w7 rfl (by omega) (by decide) ?_
    refine x_imul dX12_laysList_79 rfl ?_
    refine x_istore dX12_laysList_80 rfl (by decide) ?_
    refine x_aload_n (i := 0) dX12_laysList_82 rfl rfl rfl ?_
    refine x_getC dX12_laysList_83 rfl fX12_37 hC rfl F_110_8 ?_
    refine x_iload dX12_laysList_86 rfl rfl ?_
    refine x_iald dX12_laysList_88 rfl w7 rfl (by omega) (by decide) ?_
    rw [ei]
    refine x_iconst dX12_laysList_89 rfl iC_3 ?_
    refine x_ic_gt_t (tgt := 115) dX12_laysList_90 rfl vv_7 ?_
    refine x_iinc dX12_laysList_115 rfl rfl (incm1 _) ?_
    refine x_goto (tgt := 241) dX12_laysList_118 rfl ?_
    refine x_goto (tgt := 49) dX12_laysList_241 rfl ?_
    refine x_to (kk _ hI2 (fun j hj => ?_) (fun j hj => by rw [iv_n (by decide)])) ⟨rfl, rfl, rfl, rfl, rfl, rfl, trivial⟩
    rw [iv_hs]
    unfold upd
    rw [if_neg (by omega)]
  | succ cc ihc =>
    intro c hc h1 D R rest pre hr pl7 p7 eD hI e7 ec el kk
    have hc7 : c < 7 := by omega
    have hC := hI.1
    have v7 := hC.v (a := 117) rfl
    have v8 := hC.v (a := 118) rfl
    have s9 := sq_9 c hc7
    have hC2 := hC.setI (f := upd (iv h1 117) i (vv c)) v7 (Or.inl rfl) (by decide)
    refine x_iload dX12_laysList_49 rfl rfl ?_
    refine x_if_lt_f (tgt := 244) dX12_laysList_51 rfl rfl (nI_ge0 (by omega)) ?_
    refine x_aload_n (i := 0) dX12_laysList_54 rfl rfl rfl ?_
    refine x_getC dX12_laysList_55 rfl fX12_37 hC rfl F_110_8 ?_
    refine x_iload dX12_laysList_58 rfl rfl ?_
    refine x_dup2 dX12_laysList_60 rfl rfl rfl ?_
    refine x_iald dX12_laysList_61 rfl v7 rfl (by omega) (by decide) ?_
    rw [ec]
    refine x_iconst dX12_laysList_62 rfl iC_1 ?_
    refine x_iadd dX12_laysList_63 rfl ?_
    rw [vv_inc c (by omega)]
    refine x_iast dX12_laysList_64 rfl v7 rfl (by omega) (by decide) ?_
    have hI2 := hI.o hC2 (xSm.hs1.sub (by simp))
    have w7 := hC2.v (a := 117) rfl
    have w8 := hC2.v (a := 118) rfl
    have ei : iv (hs h1 117 (0, 8, xI (upd (iv h1 117) i (vv c)))) 117 i = vv c := by rw [iv_hs]; unfold upd; rw [if_pos rfl]
    have ej : ∀ j, j < i → iv (hs h1 117 (0, 8, xI (upd (iv h1 117) i (vv c)))) 117 j = iv h1 117 j := fun j hj => by rw [iv_hs]; unfold upd; rw [if_neg (by omega)]
    have e8 : iv (hs h1 117 (0, 8, xI (upd (iv h1 117) i (vv c)))) 118 = iv h1 118 := iv_n (by decide)
    show xWP G l mX12_laysList d (zM G Q) 0 0 65 _ [] (hs h1 117 (0, 8, xI (upd (iv h1 117) i (vv c))))
    generalize hs h1 117 (0, 8, xI (upd (iv h1 117) i (vv c))) = h2 at hC2 hI2 w7 w8 ei ej e8 ⊢
    have el2 : iv h2 118 i = nI rest := by rw [e8]; exact el
    have hC := hC2
    -- on to the next digit
    have nxt : ∀ P, (P ++ lxT o i (c + 1) rest pre = lxT o i c rest pre) → ∀ h3 L, dI h o norm (D ++ P) h3 → (∀ j, j ≤ i → iv h3 117 j = iv h2 117 j) → (∀ j, j ≤ i → iv h3 118 j = iv h2 118 j) → L 0 = some (.ref 110) → L 1 = some (.int (nI norm)) → L 2 = some (.int (nI o)) → L 3 = some (.int (nI (8 * lf norm))) → L 4 = some (.int (nI (D ++ P).length)) → L 5 = some (.int (nI i)) → xWP G l mX12_laysList d (zM G Q) 0 0 49 L [] h3 := by
      intro P eP h3 L d3 f7 f8 l0 l1 l2 l3 l4 l5
      have eA : D ++ P ++ lxT o i (c + 1) rest pre = D ++ lxT o i c rest pre := by rw [List.append_assoc, eP]
      refine x_to (ihc (c + 1) (by omega) h3 (D ++ P) R rest pre hr pl7 p7 (by rw [eA]; exact eD) d3 (fun j hj => by rw [f7 j (by omega), ej j hj]; exact e7 j hj) (by rw [f7 i (by omega), ei]; exact vv_nx c hc7) (by rw [f8 i (by omega)]; exact el2) (fun h4 d4 g7 g8 => ?_)) ⟨l0, l1, l2, l3, l4, l5, trivial⟩
      rw [eA] at d4 ⊢
      exact kk h4 d4 (fun j hj => by rw [g7 j hj, f7 j (by omega), ej j hj]) (fun j hj => by rw [g8 j hj, f8 j (by omega), e8])
    have up : lxT o i c rest pre = [] → ∀ L, L 0 = some (.ref 110) → L 1 = some (.int (nI norm)) → L 2 = some (.int (nI o)) → L 3 = some (.int (nI (8 * lf norm))) → L 4 = some (.int (nI D.length)) → L 5 = some (.int (nI i)) → xWP G l mX12_laysList d (zM G Q) 0 0 115 L [] h2 := by
      intro e0 L l0 l1 l2 l3 l4 l5
      refine x_to (r := [(0, .ref 110), (1, .int (nI norm)), (2, .int (nI o)), (3, .int (nI (8 * lf norm))), (4, .int (nI D.length)), (5, .int (nI i))]) ?_ ⟨l0, l1, l2, l3, l4, l5, trivial⟩
      refine x_iinc dX12_laysList_115 rfl rfl (incm1 _) ?_
      refine x_goto (tgt := 241) dX12_laysList_118 rfl ?_
      refine x_goto (tgt := 49) dX12_laysList_241 rfl ?_
      rw [e0, List.append_nil] at kk
      exact x_to (kk h2 hI2 ej (fun j hj => by rw [e8])) ⟨rfl, rfl, rfl, rfl, rfl, rfl, trivial⟩
    have big : rest < sqN c → lxT o i c rest pre = lxT o i (c + 1) rest pre := by
      intro z
      rw [lxT_s hc7, if_neg (by omega), List.nil_append]
    -- pc 121
    have go : ∀ L, L 0 = some (.ref 110) → L 1 = some (.int (nI norm)) → L 2 = some (.int (nI o)) → L 3 = some (.int (nI (8 * lf norm))) → L 4 = some (.int (nI D.length)) → L 5 = some (.int (nI i)) → L 6 = some (.int (nI (sqN c))) → xWP G l mX12_laysList d (zM G Q) 0 0 121 L [] h2 := by
      intro L l0 l1 l2 l3 l4 l5 l6
      refine x_to (r := [(0, .ref 110), (1, .int (nI norm)), (2, .int (nI o)), (3, .int (nI (8 * lf norm))), (4, .int (nI D.length)), (5, .int (nI i)), (6, .int (nI (sqN c)))]) ?_ ⟨l0, l1, l2, l3, l4, l5, l6, trivial⟩
      have skip : (lxT o i (c + 1) rest pre = lxT o i c rest pre) → ∀ L, L 0 = some (.ref 110) → L 1 = some (.int (nI norm)) → L 2 = some (.int (nI o)) → L 3 = some (.int (nI (8 * lf norm))) → L 4 = some (.int (nI D.length)) → L 5 = some (.int (nI i)) → xWP G l mX12_laysList d (zM G Q) 0 0 49 L [] h2 := fun e L l0 l1 l2 l3 l4 l5 => nxt [] e h2 L (by rw [List.append_nil]; exact hI2) (fun _ _ => rfl) (fun _ _ => rfl) l0 l1 l2 l3 (by rw [List.append_nil]; exact l4) l5
      refine x_iload dX12_laysList_121 rfl rfl ?_
      refine x_aload_n (i := 0) dX12_laysList_123 rfl rfl rfl ?_
      refine x_getC dX12_laysList_124 rfl fX12_40 hC rfl F_110_9 ?_
      refine x_iload dX12_laysList_127 rfl rfl ?_
      refine x_iald dX12_laysList_129 rfl w8 rfl (by omega) (by decide) ?_
      rw [el2]
      refine x_jc_gt (tgt := 174) dX12_laysList_130 rfl rfl (by omega) (by omega) (fun c130 => ?_) (fun c130 => ?_)
      · refine x_iload dX12_laysList_174 rfl rfl ?_
        refine x_aload_n (i := 0) dX12_laysList_176 rfl rfl rfl ?_
        refine x_getC dX12_laysList_177 rfl fX12_40 hC rfl F_110_9 ?_
        refine x_iload dX12_laysList_180 rfl rfl ?_
        refine x_iald dX12_laysList_182 rfl w8 rfl (by omega) (by decide) ?_
        rw [el2]
        refine x_jc_ne (tgt := 241) dX12_laysList_183 rfl rfl (by omega) (by omega) (fun c183 => ?_) (fun c183 => ?_)
        · refine x_goto (tgt := 49) dX12_laysList_241 rfl ?_
          exact skip (big (by omega)).symm _ rfl rfl rfl rfl rfl rfl
        · exfalso
          omega
      · have hle : sqN c ≤ rest := by omega
        have hpc : lxT o i c rest pre = ((lx (7 - i) (rest - sqN c)).map (fun ds => pre ++ c :: ds)).filter (fun ds => ofO o (odL ds)) ++ lxT o i (c + 1) rest pre := by rw [lxT_s hc7, if_pos hle]
        refine x_iload dX12_laysList_133 rfl rfl ?_
        refine x_bipush dX12_laysList_135 rfl bC_7 ?_
        refine x_jc_ge (tgt := 174) dX12_laysList_137 rfl rfl (by omega) (by omega) (fun c137 => ?_) (fun c137 => ?_)
        · obtain rfl : i = 7 := by omega
          refine x_iload dX12_laysList_174 rfl rfl ?_
          refine x_aload_n (i := 0) dX12_laysList_176 rfl rfl rfl ?_
          refine x_getC dX12_laysList_177 rfl fX12_40 hC rfl F_110_9 ?_
          refine x_iload dX12_laysList_180 rfl rfl ?_
          refine x_iald dX12_laysList_182 rfl w8 rfl (by omega) (by decide) ?_
          rw [el2]
          refine x_jc_ne (tgt := 241) dX12_laysList_183 rfl rfl (by omega) (by omega) (fun c183 => ?_) (fun c183 => ?_)
          · refine x_goto (tgt := 49) dX12_laysList_241 rfl ?_
            refine skip ?_ _ rfl rfl rfl rfl rfl rfl
            rw [hpc, show 7 - 7 = 0 from rfl, lx, if_neg (by omega)]
            rfl
          · have hl8 : (pre ++ [c]).length = 8 := by rw [List.length_append, pl7]; rfl
            have h77 : ∀ x ∈ pre ++ [c], x < 7 := by
              intro x hx
              rcases List.mem_append.mp hx with e | e
              · exact p7 x e
              · rw [List.mem_singleton.mp e]; exact hc7
            have fd : ∀ j, j < 8 → iv h2 117 j = vv ((pre ++ [c]).getD j 0) := by
              intro j hj
              rw [List.getD_eq_getElem?_getD, List.getElem?_append]
              by_cases e : j < 7
              · rw [if_pos (by omega), ej j e, e7 j e, List.getD_eq_getElem?_getD]
              · obtain rfl : j = 7 := by omega
                rw [if_neg (by omega), pl7, ei]
                rfl
            have eo := od8 hl8 h77 fd
            have hp2 : lxT o 7 c rest pre = ([pre ++ [c]].filter (fun ds => ofO o (odL ds))) ++ lxT o 7 (c + 1) rest pre := by
              rw [hpc, show 7 - 7 = 0 from rfl, lx, if_pos (by omega)]
              rfl
            refine x_iload_n (i := 2) dX12_laysList_186 rfl rfl rfl ?_
            refine x_aload_n (i := 0) dX12_laysList_187 rfl rfl rfl ?_
            refine x_getC dX12_laysList_188 rfl fX12_37 hC rfl F_110_8 ?_
            refine x_callS0 (As := [_]) (d2 := d - 1) dX12_laysList_191 rfl kX12_146 okX12_oddIn (by omega) rfl rfl (Nat.le_of_ble_eq_true rfl) (m_oddIn w7 ?_)
            rw [eo]
            refine x_callS0 (As := [_, _]) (d2 := d - 1) dX12_laysList_194 rfl kX12_131 okX12_isOf (by omega) rfl rfl (Nat.le_of_ble_eq_true rfl) (m_isOf (by omega) ho (by have := odL_lt (pre ++ [c]); rw [hl8] at this; exact this) (fun z => ?_) (fun z => ?_))
            · have ef : ([pre ++ [c]].filter (fun ds => ofO o (odL ds))) = [pre ++ [c]] := by rw [List.filter_cons_of_pos (p := fun ds => ofO o (odL ds)) z]; rfl
              rw [ef] at hp2
              have hlen : D.length + 1 ≤ zRoom norm := by
                have := congrArg List.length eD
                rw [hp2, List.length_append, List.length_append, List.length_append, lsD_len] at this
                have h3 := ln_room o ho norm hn
                have : ([pre ++ [c]] : List (List Nat)).length = 1 := rfl
                omega
              have r8 := lf_r norm hn
              have w4 := hC.v (a := 114) rfl
              refine x_if_eq_f (tgt := 241) dX12_laysList_197 rfl rfl nb1 ?_
              refine x_iconst dX12_laysList_200 rfl iC_0 ?_
              refine x_istore dX12_laysList_201 rfl (by decide) ?_
              have cp := xloop (P := fun j => xWP G l mX12_laysList d (zM G Q) 0 0 203 (xls [(0, .ref 110), (1, .int (nI norm)), (2, .int (nI o)), (3, .int (nI (8 * lf norm))), (4, .int (nI D.length)), (5, .int (nI 7)), (7, .int (nI j))]) [] (hs h2 114 (0, 72968, xI (fun q => if 8 * (lf norm + D.length) ≤ q ∧ q < 8 * (lf norm + D.length) + j then iv h2 117 (q - 8 * (lf norm + D.length)) else iv h2 114 q)))) 8 (by
                intro j hj ihj
                have hC := hC2.setI (f := fun q => if 8 * (lf norm + D.length) ≤ q ∧ q < 8 * (lf norm + D.length) + j then iv h2 117 (q - 8 * (lf norm + D.length)) else iv h2 114 q) w4 (Or.inl rfl) (by decide)
                have y7 := hs_ne (c := (0, 72968, xI (fun q => if 8 * (lf norm + D.length) ≤ q ∧ q < 8 * (lf norm + D.length) + j then iv h2 117 (q - 8 * (lf norm + D.length)) else iv h2 114 q))) (show 117 ≠ 114 by decide) w7
                refine x_iload dX12_laysList_203 rfl rfl ?_
                refine x_bipush dX12_laysList_205 rfl bC_8 ?_
                refine x_jc_ge (tgt := 238) dX12_laysList_207 rfl rfl (by omega) (by omega) (fun c207 => ?_) (fun c207 => ?_)
                · obtain rfl : j = 8 := by omega
                  refine x_iinc dX12_laysList_238 rfl rfl (inc1 _) ?_
                  refine x_goto (tgt := 49) dX12_laysList_241 rfl ?_
                  have l4 : (D ++ [pre ++ [c]]).length = D.length + 1 := by rw [List.length_append]; rfl
                  refine nxt [pre ++ [c]] hp2.symm _ _ ?_ (fun j _ => by rw [iv_n (by decide)]) (fun j _ => by rw [iv_n (by decide)]) rfl rfl rfl rfl (by rw [l4]; rfl) rfl
                  obtain ⟨i1, i2, i3, i4, i5⟩ := hI2
                  refine ⟨hC, (i2.tr xSm.hs1).sub (by simp), by rw [iv_n (by decide)]; exact i3, fun q hq => ?_, fun k hk p hp => ?_⟩
                  · rw [iv_hs]
                    show (if 8 * (lf norm + D.length) ≤ q ∧ q < 8 * (lf norm + D.length) + 8 then _ else iv h2 114 q) = _
                    rw [if_neg (by omega)]
                    exact i4 q hq
                  · rw [l4] at hk
                    rw [iv_hs, List.getD_eq_getElem?_getD (l := D ++ [pre ++ [c]]), List.getElem?_append]
                    show (if 8 * (lf norm + D.length) ≤ 8 * (lf norm + k) + p ∧ 8 * (lf norm + k) + p < 8 * (lf norm + D.length) + 8 then iv h2 117 (8 * (lf norm + k) + p - 8 * (lf norm + D.length)) else iv h2 114 (8 * (lf norm + k) + p)) = _
                    by_cases e : k < D.length
                    · rw [if_neg (by omega), if_pos e, ← List.getD_eq_getElem?_getD]
                      exact i5 k e p hp
                    · obtain rfl : k = D.length := by omega
                      rw [if_pos (by omega), if_neg (by omega), Nat.sub_self, Nat.add_sub_cancel_left]
                      exact fd p hp
                · refine x_aload_n (i := 0) dX12_laysList_210 rfl rfl rfl ?_
                  refine x_getC dX12_laysList_211 rfl fX12_28 hC rfl F_110_5 ?_
                  refine x_iload_n (i := 3) dX12_laysList_214 rfl rfl rfl ?_
                  refine x_bipush dX12_laysList_215 rfl bC_8 ?_
                  refine x_iload dX12_laysList_217 rfl rfl ?_
                  refine x_imul dX12_laysList_219 rfl ?_
                  refine x_iadd dX12_laysList_220 rfl ?_
                  rw [nI_mul8, nI_add, show 8 * lf norm + 8 * D.length = 8 * (lf norm + D.length) by omega]
                  refine x_iload dX12_laysList_221 rfl rfl ?_
                  refine x_iadd dX12_laysList_223 rfl ?_
                  rw [show nI (8 * (lf norm + D.length)) + nI j = nI (8 * (lf norm + D.length) + j) from nI_add _ _]
                  refine x_aload_n (i := 0) dX12_laysList_224 rfl rfl rfl ?_
                  refine x_getC dX12_laysList_225 rfl fX12_37 hC rfl F_110_8 ?_
                  refine x_iload dX12_laysList_228 rfl rfl ?_
                  refine x_iald dX12_laysList_230 rfl y7 rfl (by omega) (by decide) ?_
                  refine x_iastT dX12_laysList_231 rfl rfl (by omega) (by decide) ?_
                  have eu : upd (fun q => if 8 * (lf norm + D.length) ≤ q ∧ q < 8 * (lf norm + D.length) + j then iv h2 117 (q - 8 * (lf norm + D.length)) else iv h2 114 q) (8 * (lf norm + D.length) + j) (iv h2 117 j) = fun q => if 8 * (lf norm + D.length) ≤ q ∧ q < 8 * (lf norm + D.length) + (j + 1) then iv h2 117 (q - 8 * (lf norm + D.length)) else iv h2 114 q := by
                    funext q
                    unfold upd
                    by_cases e : q = 8 * (lf norm + D.length) + j
                    · rw [if_pos e, if_pos (by omega), show q - 8 * (lf norm + D.length) = j by omega]
                    · rw [if_neg e]
                      show (if 8 * (lf norm + D.length) ≤ q ∧ q < 8 * (lf norm + D.length) + j then iv h2 117 (q - 8 * (lf norm + D.length)) else iv h2 114 q) = _
                      by_cases w : 8 * (lf norm + D.length) ≤ q ∧ q < 8 * (lf norm + D.length) + j
                      · rw [if_pos w, if_pos (by omega)]
                      · rw [if_neg w, if_neg (by omega)]
                  rw [eu]
                  refine x_iinc dX12_laysList_232 rfl rfl (inc1 _) ?_
                  refine x_goto (tgt := 203) dX12_laysList_235 rfl ?_
                  exact x_to (ihj c207) ⟨rfl, rfl, rfl, rfl, rfl, rfl, rfl, trivial⟩) 0 (Nat.zero_le _)
              have e0 : (fun q => if 8 * (lf norm + D.length) ≤ q ∧ q < 8 * (lf norm + D.length) + 0 then iv h2 117 (q - 8 * (lf norm + D.length)) else iv h2 114 q) = iv h2 114 := by
                funext q
                rw [if_neg (by omega)]
              rw [e0, hs_self w4] at cp
              exact x_to cp ⟨rfl, rfl, rfl, rfl, rfl, rfl, rfl, trivial⟩
            · refine x_if_eq_t (tgt := 241) dX12_laysList_197 rfl nI_0 ?_
              refine x_goto (tgt := 49) dX12_laysList_241 rfl ?_
              refine skip ?_ _ rfl rfl rfl rfl rfl rfl
              rw [hp2, List.filter_cons_of_neg (by rw [z]; decide)]
              rfl
        · have hi7 : i < 7 := by omega
          have hpt : lxT o (i + 1) 0 (rest - sqN c) (pre ++ [c]) = ((lx (7 - i) (rest - sqN c)).map (fun ds => pre ++ c :: ds)).filter (fun ds => ofO o (odL ds)) := by
            rw [lxT_0 (by omega), show 8 - (i + 1) = 7 - i by omega]
            congr 1
            refine List.map_congr_left (fun ds _ => ?_)
            rw [List.append_assoc]
            rfl
          rw [← hpt] at hpc
          refine x_aload_n (i := 0) dX12_laysList_140 rfl rfl rfl ?_
          refine x_getC dX12_laysList_141 rfl fX12_40 hC rfl F_110_9 ?_
          refine x_iload dX12_laysList_144 rfl rfl ?_
          refine x_iconst dX12_laysList_146 rfl iC_1 ?_
          refine x_iadd dX12_laysList_147 rfl ?_
          refine x_aload_n (i := 0) dX12_laysList_148 rfl rfl rfl ?_
          refine x_getC dX12_laysList_149 rfl fX12_40 hC rfl F_110_9 ?_
          refine x_iload dX12_laysList_152 rfl rfl ?_
          refine x_iald dX12_laysList_154 rfl w8 rfl (by omega) (by decide) ?_
          rw [el2, show nI i + nI 1 = nI (i + 1) from nI_add i 1]
          refine x_iload dX12_laysList_155 rfl rfl ?_
          refine x_isub dX12_laysList_157 rfl ?_
          rw [show nI rest - nI (sqN c) = nI (rest - sqN c) from pk_sub hle]
          have hC3 := hC.setI (f := upd (iv h2 118) (i + 1) (nI (rest - sqN c))) w8 (Or.inl rfl) (by decide)
          refine x_iast dX12_laysList_158 rfl w8 rfl (by omega) (by decide) ?_
          have x7 := hs_ne (c := (0, 8, xI (upd (iv h2 118) (i + 1) (nI (rest - sqN c))))) (show 117 ≠ 118 by decide) w7
          have hC := hC3
          have hC4 := hC3.setI (f := upd (iv h2 117) (i + 1) (nI 0 - nI 4)) x7 (Or.inl rfl) (by decide)
          refine x_iinc dX12_laysList_159 rfl rfl (inc1 _) ?_
          refine x_aload_n (i := 0) dX12_laysList_162 rfl rfl rfl ?_
          refine x_getC dX12_laysList_163 rfl fX12_37 hC rfl F_110_8 ?_
          refine x_iload dX12_laysList_166 rfl rfl ?_
          refine x_bipush dX12_laysList_168 rfl bC_m4 ?_
          rw [show (-4 : Int32) = nI 0 - nI 4 from by decide]
          refine x_iast dX12_laysList_170 rfl x7 rfl (by omega) (by decide) ?_
          refine x_goto (tgt := 241) dX12_laysList_171 rfl ?_
          refine x_goto (tgt := 49) dX12_laysList_241 rfl ?_
          have i7 : ∀ j, iv (hs (hs h2 118 (0, 8, xI (upd (iv h2 118) (i + 1) (nI (rest - sqN c))))) 117 (0, 8, xI (upd (iv h2 117) (i + 1) (nI 0 - nI 4)))) 117 j = upd (iv h2 117) (i + 1) (nI 0 - nI 4) j := fun j => by rw [iv_hs]
          have i8 : ∀ j, iv (hs (hs h2 118 (0, 8, xI (upd (iv h2 118) (i + 1) (nI (rest - sqN c))))) 117 (0, 8, xI (upd (iv h2 117) (i + 1) (nI 0 - nI 4)))) 118 j = upd (iv h2 118) (i + 1) (nI (rest - sqN c)) j := fun j => by rw [iv_n (by decide), iv_hs]
          have u7 : ∀ j, j ≤ i → upd (iv h2 117) (i + 1) (nI 0 - nI 4) j = iv h2 117 j := fun j hj => by unfold upd; rw [if_neg (by omega)]
          have u8 : ∀ j, j ≤ i → upd (iv h2 118) (i + 1) (nI (rest - sqN c)) j = iv h2 118 j := fun j hj => by unfold upd; rw [if_neg (by omega)]
          refine x_to (child hi7 _ D (lxT o i (c + 1) rest pre ++ R) (rest - sqN c) (pre ++ [c]) (by omega) (by rw [List.length_append, pl7]; rfl) ?_ ?_ (hI2.o hC4 (xSm.hs2.sub (by simp))) ?_ ?_ ?_ ?_) ⟨rfl, rfl, rfl, rfl, rfl, rfl, trivial⟩
          · intro x hx
            rcases List.mem_append.mp hx with e | e
            · exact p7 x e
            · rw [List.mem_singleton.mp e]; exact hc7
          · rw [← eD, hpc, List.append_assoc, List.append_assoc, List.append_assoc]
          · intro j hj
            rw [i7, u7 j (by omega), List.getD_eq_getElem?_getD, List.getElem?_append]
            by_cases e : j < i
            · rw [if_pos (by omega), ej j e, e7 j e, List.getD_eq_getElem?_getD]
            · obtain rfl : j = i := by omega
              rw [if_neg (by omega), pl7, Nat.sub_self, ei]
              rfl
          · rw [i7]
            unfold upd
            rw [if_pos rfl]
          · rw [i8]
            unfold upd
            rw [if_pos rfl]
          · intro h4 d4 g7 g8
            refine nxt _ hpc.symm h4 _ d4 (fun j hj => by rw [g7 j (by omega), i7, u7 j hj]) (fun j hj => by rw [g8 j (by omega), i8, u8 j hj]) rfl rfl rfl rfl rfl ?_
            show some (Value.int (nI (i + 1) - nI 1)) = _
            rw [show nI (i + 1) - nI 1 = nI i from (pk_sub (by omega)).trans (by rw [Nat.add_sub_cancel])]
    refine x_aload_n (i := 0) dX12_laysList_65 rfl rfl rfl ?_
    refine x_getC dX12_laysList_66 rfl fX12_37 hC rfl F_110_8 ?_
    refine x_iload dX12_laysList_69 rfl rfl ?_
    refine x_iald dX12_laysList_71 rfl w7 rfl (by omega) (by decide) ?_
    rw [ei]
    refine x_aload_n (i := 0) dX12_laysList_72 rfl rfl rfl ?_
    refine x_getC dX12_laysList_73 rfl fX12_37 hC rfl F_110_8 ?_
    refine x_iload dX12_laysList_76 rfl rfl ?_
    refine x_iald dX12_laysList_78 rfl w7 rfl (by omega) (by decide) ?_
    rw [ei]
    refine x_imul dX12_laysList_79 rfl ?_
    rw [vv_sq c hc7]
    refine x_istore dX12_laysList_80 rfl (by decide) ?_
    refine x_aload_n (i := 0) dX12_laysList_82 rfl rfl rfl ?_
    refine x_getC dX12_laysList_83 rfl fX12_37 hC rfl F_110_8 ?_
    refine x_iload dX12_laysList_86 rfl rfl ?_
    refine x_iald dX12_laysList_88 rfl w7 rfl (by omega) (by decide) ?_
    rw [ei]
    refine x_iconst dX12_laysList_89 rfl iC_3 ?_
    refine x_ic_gt_f (tgt := 115) dX12_laysList_90 rfl rfl (vv_gt c hc7) ?_
    refine x_aload_n (i := 0) dX12_laysList_93 rfl rfl rfl ?_
    refine x_getC dX12_laysList_94 rfl fX12_37 hC rfl F_110_8 ?_
    refine x_iload dX12_laysList_97 rfl rfl ?_
    refine x_iald dX12_laysList_99 rfl w7 rfl (by omega) (by decide) ?_
    rw [ei]
    refine x_if_le (tgt := 121) dX12_laysList_100 rfl rfl (fun c100 => ?_) (fun c100 => ?_)
    · exact go _ rfl rfl rfl rfl rfl rfl rfl
    · have c4 : 4 ≤ c := by
        have := mt (vv_le0 c hc7).mpr c100
        omega
      refine x_iload dX12_laysList_103 rfl rfl ?_
      refine x_aload_n (i := 0) dX12_laysList_105 rfl rfl rfl ?_
      refine x_getC dX12_laysList_106 rfl fX12_40 hC rfl F_110_9 ?_
      refine x_iload dX12_laysList_109 rfl rfl ?_
      refine x_iald dX12_laysList_111 rfl w8 rfl (by omega) (by decide) ?_
      rw [el2]
      refine x_jc_le (tgt := 121) dX12_laysList_112 rfl rfl (by omega) (by omega) (fun c112 => ?_) (fun c112 => ?_)
      · exact go _ rfl rfl rfl rfl rfl rfl rfl
      · exact up (lxT_n c c4 (by omega) (fun d h1 h2 => by have := sqN_m c hc7 d h2 c4 h1; omega)) _ rfl rfl rfl rfl rfl rfl
end MOD

