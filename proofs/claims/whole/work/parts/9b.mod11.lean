/-! EightPartsModel: nears -/
section MOD
variable {G : xG} {l : Launch} {d : Nat} {h : xH} {Q : Option Value → xH → Prop} {S : St}
theorem m_isAhead {T B : Nat → Int64} (hC : Cs h) (hT : h.1 120 = (1, 8, xJ T)) (hB : h.1 119 = (1, 8, xJ B)) (Kt : lxL T B → Q (some (.int (nI 1))) h) (Kf : ¬ lxL T B → Q (some (.int (nI 0))) h) : xCt G l mX12_isAhead d [.ref 110] h 0 0 Q := by
  refine xCt_of (by decide) (Nat.le_of_ble_eq_true rfl) ?_
  refine x_iconst dX12_isAhead_0 rfl iC_0 ?_
  refine x_istore_n (i := 1) dX12_isAhead_1 rfl rfl (by decide) ?_
  have key := xloop (P := fun i => (∀ j, j < i → T j = B j) → xWP G l mX12_isAhead d (zM G Q) 0 0 2 (xls [(0, .ref 110), (1, .int (nI i))]) [] h) 8 (by
    intro i hi ih hj
    refine x_iload_n (i := 1) dX12_isAhead_2 rfl rfl rfl ?_
    refine x_bipush dX12_isAhead_3 rfl bC_8 ?_
    refine x_jc_ge (tgt := 52) dX12_isAhead_5 rfl rfl (by omega) (by omega) (fun c5 => ?_) (fun c5 => ?_)
    · obtain rfl : i = 8 := by omega
      refine x_iconst dX12_isAhead_52 rfl iC_0 ?_
      refine x_ireturn dX12_isAhead_53 rfl rfl ?_
      refine Kf ?_
      rintro ⟨k, k1, -, k3⟩
      rw [hj k k1, Int64.lt_iff_toInt_lt] at k3
      omega
    · refine x_aload_n (i := 0) dX12_isAhead_8 rfl rfl rfl ?_
      refine x_getC dX12_isAhead_9 rfl fX12_46 hC rfl F_110_11 ?_
      refine x_iload_n (i := 1) dX12_isAhead_12 rfl rfl rfl ?_
      refine x_lald dX12_isAhead_13 rfl hT rfl (by omega) (by decide) ?_
      refine x_aload_n (i := 0) dX12_isAhead_14 rfl rfl rfl ?_
      refine x_getC dX12_isAhead_15 rfl fX12_43 hC rfl F_110_10 ?_
      refine x_iload_n (i := 1) dX12_isAhead_18 rfl rfl rfl ?_
      refine x_lald dX12_isAhead_19 rfl hB rfl (by omega) (by decide) ?_
      refine x_lcmp dX12_isAhead_20 rfl ?_
      refine x_if_eq (tgt := 46) dX12_isAhead_21 rfl rfl (fun c21 => ?_) (fun c21 => ?_)
      · refine x_iinc dX12_isAhead_46 rfl rfl (inc1 _) ?_
        refine x_goto (tgt := 2) dX12_isAhead_49 rfl ?_
        exact x_to (ih c5 (lt_s hj ((lg_cmp_eq _ _).mp c21))) ⟨rfl, rfl, trivial⟩
      · have ne : ¬ T i = B i := mt (lg_cmp_eq _ _).mpr c21
        refine x_aload_n (i := 0) dX12_isAhead_24 rfl rfl rfl ?_
        refine x_getC dX12_isAhead_25 rfl fX12_46 hC rfl F_110_11 ?_
        refine x_iload_n (i := 1) dX12_isAhead_28 rfl rfl rfl ?_
        refine x_lald dX12_isAhead_29 rfl hT rfl (by omega) (by decide) ?_
        refine x_aload_n (i := 0) dX12_isAhead_30 rfl rfl rfl ?_
        refine x_getC dX12_isAhead_31 rfl fX12_43 hC rfl F_110_10 ?_
        refine x_iload_n (i := 1) dX12_isAhead_34 rfl rfl rfl ?_
        refine x_lald dX12_isAhead_35 rfl hB rfl (by omega) (by decide) ?_
        refine x_lcmp dX12_isAhead_36 rfl ?_
        refine x_if_ge (tgt := 44) dX12_isAhead_37 rfl rfl (fun c37 => ?_) (fun c37 => ?_)
        · refine x_iconst dX12_isAhead_44 rfl iC_0 ?_
          refine x_ireturn dX12_isAhead_45 rfl rfl ?_
          refine Kf ?_
          have := (lg_cmp_ge _ _).mp c37
          rw [Int64.le_iff_toInt_le] at this
          rintro ⟨k, k1, k2, k3⟩
          rcases Nat.lt_trichotomy k i with e | e | e
          · rw [hj k e, Int64.lt_iff_toInt_lt] at k3; omega
          · subst e; rw [Int64.lt_iff_toInt_lt] at k3; omega
          · exact ne (k2 i e)
        · have : ¬ B i ≤ T i := mt (lg_cmp_ge _ _).mpr c37
          rw [Int64.le_iff_toInt_le] at this
          refine x_iconst dX12_isAhead_40 rfl iC_1 ?_
          refine x_goto (tgt := 45) dX12_isAhead_41 rfl ?_
          refine x_ireturn dX12_isAhead_45 rfl rfl ?_
          exact Kt ⟨i, c5, hj, by rw [Int64.lt_iff_toInt_lt]; omega⟩) 0 (Nat.zero_le _) (fun j hj => absurd hj (Nat.not_lt_zero j))
  exact x_to key ⟨rfl, rfl, trivial⟩
theorem m_nears {o : Nat} {w : Nat → Int64} {n : Int64} (hd : 4 ≤ d) (hC : Cs h) (ho : mRul h o) (ho8 : o < 8) (hw : h.1 113 = (1, 8, xJ w)) (hb : nrB w n)
    (K : ∀ h2 w2, mV [] [113, 119, 120] h h2 → h2.1 113 = (1, 8, xJ w2) → (∀ j, j < 8 → w2 j = zNst o w n j) → Q none h2) : xCt G l mX12_nears d [.ref 110, .long n] h 0 0 Q := by
  have hC0 := hC
  refine xCt_of (by decide) (Nat.le_of_ble_eq_true rfl) ?_
  have last : ∀ h1 B, Cs h1 → xSm [119, 120] h h1 → h1.1 119 = (1, 8, xJ B) → (∀ j, j < 8 → B j = zNst o w n j) → ∀ L, L 0 = some (.ref 110) → xWP G l mX12_nears d (zM G Q) 0 0 180 L [] h1 := by
    intro h1 B hC1 hS1 b1 eB L l0
    have v3 : h1.1 113 = (1, 8, xJ w) := (hS1.2 113 (by decide)).trans hw
    refine x_to (r := [(0, .ref 110)]) ?_ ⟨l0, trivial⟩
    refine x_iconst dX12_nears_180 rfl iC_0 ?_
    refine x_istore dX12_nears_181 rfl (by decide) ?_
    have key := xloop (P := fun i => xWP G l mX12_nears d (zM G Q) 0 0 183 (xls [(0, .ref 110), (5, .int (nI i))]) [] (hs h1 113 (1, 8, xJ (xF B w i)))) 8 (by
      intro i hi ih
      have hC := hC1.setJ (f := xF B w i) v3
      refine x_iload dX12_nears_183 rfl rfl ?_
      refine x_bipush dX12_nears_185 rfl bC_8 ?_
      refine x_jc_ge (tgt := 210) dX12_nears_187 rfl rfl (by omega) (by omega) (fun c187 => ?_) (fun c187 => ?_)
      · obtain rfl : i = 8 := by omega
        refine x_return dX12_nears_210 rfl ?_
        refine K _ _ (mV_o hC ((hS1.tr xSm.hs1).sub (by simp)) (by decide)) hs_eq (fun j hj => ?_)
        rw [← eB j hj]
        exact if_pos hj
      · have b2 := hs_ne (c := (1, 8, xJ (xF B w i))) (show 119 ≠ 113 by decide) b1
        refine x_aload_n (i := 0) dX12_nears_190 rfl rfl rfl ?_
        refine x_getC dX12_nears_191 rfl fX12_20 hC rfl F_110_3 ?_
        refine x_iload dX12_nears_194 rfl rfl ?_
        refine x_aload_n (i := 0) dX12_nears_196 rfl rfl rfl ?_
        refine x_getC dX12_nears_197 rfl fX12_43 hC rfl F_110_10 ?_
        refine x_iload dX12_nears_200 rfl rfl ?_
        refine x_lald dX12_nears_202 rfl b2 rfl (by omega) (by decide) ?_
        refine x_lastT dX12_nears_203 rfl rfl (by omega) (by decide) ?_
        rw [xF_updL]
        refine x_iinc dX12_nears_204 rfl rfl (inc1 _) ?_
        refine x_goto (tgt := 183) dX12_nears_207 rfl ?_
        exact x_to (ih c187) ⟨rfl, rfl, trivial⟩) 0 (Nat.zero_le _)
    rw [xF_0, hs_self v3] at key
    exact x_to key ⟨rfl, rfl, trivial⟩
  have outer := xloop (P := fun v => ∀ h1 T B least, Cs h1 → xSm [119, 120] h h1 → h1.1 120 = (1, 8, xJ T) → h1.1 119 = (1, 8, xJ B) → ((v = 0 ∧ least = (-1 : Int64)) ∨ ∃ u, u < 256 ∧ ofO o u = true ∧ (∀ j, j < 8 → B j = nrW w n u j) ∧ least = msW w n u 8 ∧ ∀ q, q < v → ofO o q = true → ¬ btW w n q u) → xWP G l mX12_nears d (zM G Q) 0 0 7 (xls [(0, .ref 110), (1, .long n), (3, .long least), (5, .int (nI v))]) [] h1) 256 (by
    intro v hv ih h1 T B least hC1 hS1 t1 b1 inv
    have hC := hC1
    have ho1 : mRul h1 o := by
      show (h1.1 110).2.2 4 = _
      rw [hS1.2 110 (by decide)]
      exact ho
    have w1 : h1.1 113 = (1, 8, xJ w) := (hS1.2 113 (by decide)).trans hw
    refine x_iload dX12_nears_7 rfl rfl ?_
    refine x_sipush dX12_nears_9 rfl sC_255 ?_
    refine x_jc_gt (tgt := 180) dX12_nears_12 rfl rfl (by omega) (by omega) (fun c12 => ?_) (fun c12 => ?_)
    · obtain rfl : v = 256 := by omega
      rcases inv with ⟨e, -⟩ | ⟨u, u1, u2, u3, u4, u5⟩
      · cases e
      · exact last h1 B hC1 hS1 b1 (fun j hj => (u3 j hj).trans (nst_un hb ho8 u1 u2 u5 j hj)) _ rfl
    · have hv2 : v < 256 := by omega
      refine x_aload_n (i := 0) dX12_nears_15 rfl rfl rfl ?_
      refine x_getM (a := 110) dX12_nears_16 rfl fX12_24 hC rfl ho1 ?_
      refine x_iload dX12_nears_19 rfl rfl ?_
      refine x_callS0 (As := [_, _]) (d2 := d - 1) dX12_nears_21 rfl kX12_131 okX12_isOf (by omega) rfl rfl (Nat.le_of_ble_eq_true rfl) (m_isOf (by omega) ho8 hv2 (fun z => ?_) (fun z => ?_))
      rotate_left
      · refine x_if_ne_f (tgt := 30) dX12_nears_24 rfl rfl nI_0 ?_
        refine x_goto (tgt := 174) dX12_nears_27 rfl ?_
        refine x_iinc dX12_nears_174 rfl rfl (inc1 _) ?_
        refine x_goto (tgt := 7) dX12_nears_177 rfl ?_
        refine x_to (ih (by omega) h1 T B least hC1 hS1 t1 b1 ?_) ⟨rfl, rfl, rfl, rfl, trivial⟩
        rcases inv with ⟨e, -⟩ | ⟨u, u1, u2, u3, u4, u5⟩
        · subst e
          exact absurd z (by have q : ∀ o, o < 8 → ¬ ofO o 0 = false := by decide +kernel
                             exact q o ho8)
        · exact Or.inr ⟨u, u1, u2, u3, u4, fun q hq => by
            by_cases e : q = v
            · subst e; intro y; rw [z] at y; cases y
            · exact u5 q (by omega)⟩
      refine x_if_ne_t (tgt := 30) dX12_nears_24 rfl nb1 ?_
      refine x_lconst dX12_nears_30 rfl lC_0 ?_
      refine x_lstore dX12_nears_31 rfl (by decide) ?_
      refine x_iconst dX12_nears_33 rfl iC_0 ?_
      refine x_istore dX12_nears_34 rfl (by decide) ?_
      have inn := xloop (P := fun i => xWP G l mX12_nears d (zM G Q) 0 0 36 (xls [(0, .ref 110), (1, .long n), (3, .long least), (5, .int (nI v)), (6, .long (msW w n v i)), (8, .int (nI i))]) [] (hs h1 120 (1, 8, xJ (xF (nrW w n v) T i)))) 8 (by
        intro i hi ih2
        have hC := hC1.setJ (f := xF (nrW w n v) T i) t1
        have hS2 : xSm [119, 120] h (hs h1 120 (1, 8, xJ (xF (nrW w n v) T i))) := (hS1.tr xSm.hs1).sub (by simp)
        have w2 := hs_ne (c := (1, 8, xJ (xF (nrW w n v) T i))) (show 113 ≠ 120 by decide) w1
        have b2 := hs_ne (c := (1, 8, xJ (xF (nrW w n v) T i))) (show 119 ≠ 120 by decide) b1
        refine x_iload dX12_nears_36 rfl rfl ?_
        refine x_bipush dX12_nears_38 rfl bC_8 ?_
        refine x_jc_ge (tgt := 111) dX12_nears_40 rfl rfl (by omega) (by omega) (fun c40 => ?_) (fun c40 => ?_)
        · obtain rfl : i = 8 := by omega
          refine x_topJ (f2 := nrW w n v) (fun j hj => if_pos hj) (by decide) ?_
          have hC := hC1.setJ (f := nrW w n v) t1
          have hS2 : xSm [119, 120] h (hs h1 120 (1, 8, xJ (nrW w n v))) := (hS1.tr xSm.hs1).sub (by simp)
          have b2 := hs_ne (c := (1, 8, xJ (nrW w n v))) (show 119 ≠ 120 by decide) b1
          have t2 : (hs h1 120 (1, 8, xJ (nrW w n v))).1 120 = (1, 8, xJ (nrW w n v)) := hs_eq
          generalize hs h1 120 (1, 8, xJ (nrW w n v)) = h3 at hC hS2 b2 t2 ⊢
          have hC3 := hC
          have skip : (∃ u, u < 256 ∧ ofO o u = true ∧ (∀ j, j < 8 → B j = nrW w n u j) ∧ least = msW w n u 8 ∧ ∀ q, q < v + 1 → ofO o q = true → ¬ btW w n q u) → ∀ L, L 0 = some (.ref 110) → L 1 = some (.long n) → L 3 = some (.long least) → L 5 = some (.int (nI v)) → xWP G l mX12_nears d (zM G Q) 0 0 174 L [] h3 := by
            intro hu L l0 l1 l3 l5
            refine x_to (r := [(0, .ref 110), (1, .long n), (3, .long least), (5, .int (nI v))]) ?_ ⟨l0, l1, l3, l5, trivial⟩
            refine x_iinc dX12_nears_174 rfl rfl (inc1 _) ?_
            refine x_goto (tgt := 7) dX12_nears_177 rfl ?_
            exact x_to (ih (by omega) h3 _ B least hC3 hS2 t2 b2 (Or.inr hu)) ⟨rfl, rfl, rfl, rfl, trivial⟩
          have take : (∀ q, q < v + 1 → ofO o q = true → ¬ btW w n q v) → ∀ L, L 0 = some (.ref 110) → L 1 = some (.long n) → L 5 = some (.int (nI v)) → L 6 = some (.long (msW w n v 8)) → xWP G l mX12_nears d (zM G Q) 0 0 141 L [] h3 := by
            intro hu L l0 l1 l5 l6
            refine x_to (r := [(0, .ref 110), (1, .long n), (5, .int (nI v)), (6, .long (msW w n v 8))]) ?_ ⟨l0, l1, l5, l6, trivial⟩
            refine x_lload dX12_nears_141 rfl rfl ?_
            refine x_lstore_n (i := 3) dX12_nears_143 rfl rfl (by decide) ?_
            refine x_iconst dX12_nears_144 rfl iC_0 ?_
            refine x_istore dX12_nears_145 rfl (by decide) ?_
            have cp := xloop (P := fun i => xWP G l mX12_nears d (zM G Q) 0 0 147 (xls [(0, .ref 110), (1, .long n), (3, .long (msW w n v 8)), (5, .int (nI v)), (8, .int (nI i))]) [] (hs h3 119 (1, 8, xJ (xF (nrW w n v) B i)))) 8 (by
              intro i hi ih3
              have hC := hC3.setJ (f := xF (nrW w n v) B i) b2
              have t3 := hs_ne (c := (1, 8, xJ (xF (nrW w n v) B i))) (show 120 ≠ 119 by decide) t2
              refine x_iload dX12_nears_147 rfl rfl ?_
              refine x_bipush dX12_nears_149 rfl bC_8 ?_
              refine x_jc_ge (tgt := 174) dX12_nears_151 rfl rfl (by omega) (by omega) (fun c151 => ?_) (fun c151 => ?_)
              · obtain rfl : i = 8 := by omega
                refine x_iinc dX12_nears_174 rfl rfl (inc1 _) ?_
                refine x_goto (tgt := 7) dX12_nears_177 rfl ?_
                exact x_to (ih (by omega) _ _ _ _ hC ((hS2.tr xSm.hs1).sub (by simp)) t3 hs_eq (Or.inr ⟨v, hv2, z, fun j hj => if_pos hj, rfl, hu⟩)) ⟨rfl, rfl, rfl, rfl, trivial⟩
              · refine x_aload_n (i := 0) dX12_nears_154 rfl rfl rfl ?_
                refine x_getC dX12_nears_155 rfl fX12_43 hC rfl F_110_10 ?_
                refine x_iload dX12_nears_158 rfl rfl ?_
                refine x_aload_n (i := 0) dX12_nears_160 rfl rfl rfl ?_
                refine x_getC dX12_nears_161 rfl fX12_46 hC rfl F_110_11 ?_
                refine x_iload dX12_nears_164 rfl rfl ?_
                refine x_lald dX12_nears_166 rfl t3 rfl (by omega) (by decide) ?_
                refine x_lastT dX12_nears_167 rfl rfl (by omega) (by decide) ?_
                rw [xF_updL]
                refine x_iinc dX12_nears_168 rfl rfl (inc1 _) ?_
                refine x_goto (tgt := 147) dX12_nears_171 rfl ?_
                exact x_to (ih3 c151) ⟨rfl, rfl, rfl, rfl, rfl, trivial⟩) 0 (Nat.zero_le _)
            rw [xF_0, hs_self b2] at cp
            exact x_to cp ⟨rfl, rfl, rfl, rfl, rfl, trivial⟩
          rcases inv with ⟨e, el⟩ | ⟨u, u1, u2, u3, u4, u5⟩
          · subst e
            rw [el]
            refine x_lload_n (i := 3) dX12_nears_111 rfl rfl rfl ?_
            refine x_lconst dX12_nears_112 rfl lC_0 ?_
            refine x_lcmp dX12_nears_113 rfl ?_
            refine x_if_lt_t (tgt := 141) dX12_nears_114 rfl (by decide) ?_
            exact take (fun q hq _ => by obtain rfl : q = 0 := by omega
                                         exact btW_ir 0) _ rfl rfl rfl rfl
          · have l0 : (0 : Int64) ≤ least := by
              rw [u4, Int64.le_iff_toInt_le]
              exact (ms_b hb u 8 (by omega)).1
            have els : ∀ q, q < v + 1 → ofO o q = true → btW w n v u → ¬ btW w n q v := by
              intro q hq hz y y2
              by_cases e : q = v
              · subst e; exact btW_ir _ y2
              · exact u5 q (by omega) hz (btW_tr y2 y)
            refine x_lload_n (i := 3) dX12_nears_111 rfl rfl rfl ?_
            refine x_lconst dX12_nears_112 rfl lC_0 ?_
            refine x_lcmp dX12_nears_113 rfl ?_
            refine x_if_lt_f (tgt := 141) dX12_nears_114 rfl rfl (fun y => by have := (lg_cmp_lt _ _).mp y; rw [Int64.lt_iff_toInt_lt] at this; rw [Int64.le_iff_toInt_le] at l0; omega) ?_
            refine x_lload dX12_nears_117 rfl rfl ?_
            refine x_lload_n (i := 3) dX12_nears_119 rfl rfl rfl ?_
            refine x_lcmp dX12_nears_120 rfl ?_
            refine x_if_gt (tgt := 174) dX12_nears_121 rfl rfl (fun c121 => ?_) (fun c121 => ?_)
            · refine skip ⟨u, u1, u2, u3, u4, fun q hq hz => ?_⟩ _ rfl rfl rfl rfl
              by_cases e : q = v
              · subst e
                have := (lg_cmp_gt _ _).mp c121
                rw [u4, Int64.lt_iff_toInt_lt] at this
                rintro (y | ⟨y, -⟩)
                · rw [Int64.lt_iff_toInt_lt] at y; omega
                · rw [y] at this; omega
              · exact u5 q (by omega) hz
            · have c121 : ¬ least < msW w n v 8 := mt (lg_cmp_gt _ _).mpr c121
              refine x_lload dX12_nears_124 rfl rfl ?_
              refine x_lload_n (i := 3) dX12_nears_126 rfl rfl rfl ?_
              refine x_lcmp dX12_nears_127 rfl ?_
              refine x_if_ne (tgt := 141) dX12_nears_128 rfl rfl (fun c128 => ?_) (fun c128 => ?_)
              · refine take (fun q hq hz => els q hq hz (Or.inl ?_)) _ rfl rfl rfl rfl
                have ne : ¬ msW w n v 8 = least := by
                  first
                  | exact mt (lg_cmp_eq _ _).mpr c128
                  | exact (mt (lg_cmp_eq _ _).mpr (fun y => c128 y))
                rw [u4] at c121 ne
                rw [← Int64.toInt_inj] at ne
                rw [Int64.lt_iff_toInt_lt] at c121 ⊢
                omega
              · have eq : msW w n v 8 = least := by
                  first
                  | exact (lg_cmp_eq _ _).mp c128
                  | exact Classical.byContradiction (fun y => c128 (fun x => y ((lg_cmp_eq _ _).mp x)))
                rw [u4] at eq
                refine x_aload_n (i := 0) dX12_nears_131 rfl rfl rfl ?_
                refine x_callV0 (ci := 12) (b := 110) (As := []) (d2 := d - 1) dX12_nears_132 rfl kX12_237 okX12_isAhead (hC.o rfl) (fun q hq => by cases hq; rfl) (by omega) rfl rfl (Nat.le_of_ble_eq_true rfl) (m_isAhead hC3 t2 b2 (fun y => ?_) (fun y => ?_))
                · refine x_if_ne_t (tgt := 141) dX12_nears_135 rfl nb1 ?_
                  refine take (fun q hq hz => els q hq hz (Or.inr ⟨eq, ?_⟩)) _ rfl rfl rfl rfl
                  obtain ⟨k, k1, k2, k3⟩ := y
                  exact ⟨k, k1, fun j hj => (k2 j hj).trans (u3 j (by omega)), by rw [← u3 k k1]; exact k3⟩
                · refine x_if_ne_f (tgt := 141) dX12_nears_135 rfl rfl nI_0 ?_
                  refine x_goto (tgt := 174) dX12_nears_138 rfl ?_
                  refine skip ⟨u, u1, u2, u3, u4, fun q hq hz => ?_⟩ _ rfl rfl rfl rfl
                  by_cases e : q = v
                  · subst e
                    rintro (x | ⟨-, x⟩)
                    · rw [eq, Int64.lt_iff_toInt_lt] at x; omega
                    · refine y ?_
                      obtain ⟨k, k1, k2, k3⟩ := x
                      exact ⟨k, k1, fun j hj => (k2 j hj).trans (u3 j (by omega)).symm, by rw [u3 k k1]; exact k3⟩
                  · exact u5 q (by omega) hz
        · have nx : ∀ p, p = v / 2 ^ i % 2 → xWP G l mX12_nears d (zM G Q) 0 0 72 (xls [(0, .ref 110), (1, .long n), (3, .long least), (5, .int (nI v)), (6, .long (msW w n v i)), (8, .int (nI i))]) [.int (nI p), .long n, .long (w i), .int (nI i), .ref 120] (hs h1 120 (1, 8, xJ (xF (nrW w n v) T i))) := by
            intro p ep
            subst ep
            refine x_callS0 (As := [_, _, _]) (d2 := d - 1) dX12_nears_72 rfl kX12_233 okX12_near (by omega) rfl rfl (Nat.le_of_ble_eq_true rfl) (m_near (Nat.mod_lt _ (by decide)) (hb.1 i c40) ⟨hb.2.1, by have := hb.2.2; omega⟩ ?_)
            refine x_lastT dX12_nears_75 rfl rfl (by omega) (by decide) ?_
            rw [show zNr (v / 2 ^ i % 2) (w i) n = nrW w n v i from rfl, xF_updL]
            have hC := hC1.setJ (f := xF (nrW w n v) T (i + 1)) t1
            have t3 : (hs h1 120 (1, 8, xJ (xF (nrW w n v) T (i + 1)))).1 120 = (1, 8, xJ (xF (nrW w n v) T (i + 1))) := hs_eq
            have w3 := hs_ne (c := (1, 8, xJ (xF (nrW w n v) T (i + 1)))) (show 113 ≠ 120 by decide) w1
            have ei : xF (nrW w n v) T (i + 1) i = nrW w n v i := if_pos (by omega)
            refine x_aload_n (i := 0) dX12_nears_76 rfl rfl rfl ?_
            refine x_getC dX12_nears_77 rfl fX12_20 hC rfl F_110_3 ?_
            refine x_iload dX12_nears_80 rfl rfl ?_
            refine x_lald dX12_nears_82 rfl w3 rfl (by omega) (by decide) ?_
            refine x_lload_n (i := 1) dX12_nears_83 rfl rfl rfl ?_
            refine x_aload_n (i := 0) dX12_nears_84 rfl rfl rfl ?_
            refine x_getC dX12_nears_85 rfl fX12_46 hC rfl F_110_11 ?_
            refine x_iload dX12_nears_88 rfl rfl ?_
            refine x_lald dX12_nears_90 rfl t3 rfl (by omega) (by decide) ?_
            rw [ei]
            refine x_lmul dX12_nears_91 rfl ?_
            refine x_lsub dX12_nears_92 rfl ?_
            refine x_lstore dX12_nears_93 rfl (by decide) ?_
            refine x_lload dX12_nears_95 rfl rfl ?_
            refine x_lload dX12_nears_97 rfl rfl ?_
            refine x_lload dX12_nears_99 rfl rfl ?_
            refine x_lmul dX12_nears_101 rfl ?_
            refine x_ladd dX12_nears_102 rfl ?_
            refine x_lstore dX12_nears_103 rfl (by decide) ?_
            refine x_iinc dX12_nears_105 rfl rfl (inc1 _) ?_
            refine x_goto (tgt := 36) dX12_nears_108 rfl ?_
            exact x_to (ih2 c40) ⟨rfl, rfl, rfl, rfl, rfl, rfl, trivial⟩
          refine x_aload_n (i := 0) dX12_nears_43 rfl rfl rfl ?_
          refine x_getC dX12_nears_44 rfl fX12_46 hC rfl F_110_11 ?_
          refine x_iload dX12_nears_47 rfl rfl ?_
          refine x_aload_n (i := 0) dX12_nears_49 rfl rfl rfl ?_
          refine x_getC dX12_nears_50 rfl fX12_20 hC rfl F_110_3 ?_
          refine x_iload dX12_nears_53 rfl rfl ?_
          refine x_lald dX12_nears_55 rfl w2 rfl (by omega) (by decide) ?_
          refine x_lload_n (i := 1) dX12_nears_56 rfl rfl rfl ?_
          refine x_iload dX12_nears_57 rfl rfl ?_
          refine x_iload dX12_nears_59 rfl rfl ?_
          refine x_callS0 (As := [_, _]) (d2 := d - 1) dX12_nears_61 rfl kX12_121 okX12_has (by omega) rfl rfl (Nat.le_of_ble_eq_true rfl) (m_has hv2 c40 (fun y => ?_) (fun y => ?_))
          · refine x_if_eq_f (tgt := 71) dX12_nears_64 rfl rfl nb1 ?_
            refine x_iconst dX12_nears_67 rfl iC_1 ?_
            refine x_goto (tgt := 72) dX12_nears_68 rfl ?_
            exact x_to (nx 1 y.symm) ⟨rfl, rfl, rfl, rfl, rfl, rfl, trivial⟩
          · refine x_if_eq_t (tgt := 71) dX12_nears_64 rfl nI_0 ?_
            refine x_iconst dX12_nears_71 rfl iC_0 ?_
            exact x_to (nx 0 (by omega)) ⟨rfl, rfl, rfl, rfl, rfl, rfl, trivial⟩) 0 (Nat.zero_le _)
      rw [xF_0, hs_self t1] at inn
      exact x_to inn ⟨rfl, rfl, rfl, rfl, rfl, rfl, trivial⟩) 0 (Nat.zero_le _) h _ _ (-1) hC0 (xSm.rf.sub (by simp)) (hC0.j (a := 120) rfl) (hC0.j (a := 119) rfl) (Or.inl ⟨rfl, rfl⟩)
  refine x_ldc2 dX12_nears_0 rfl cX12_231 ?_
  refine x_lstore_n (i := 3) dX12_nears_3 rfl rfl (by decide) ?_
  refine x_iconst dX12_nears_4 rfl iC_0 ?_
  refine x_istore dX12_nears_5 rfl (by decide) ?_
  exact x_to outer ⟨rfl, rfl, rfl, rfl, trivial⟩
end MOD

