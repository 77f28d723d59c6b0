/-! EightPartsModel: laysWays -/
section MOD
variable {G : xG} {l : Launch} {d : Nat} {h : xH} {Q : Option Value → xH → Prop} {S : St}
theorem m_laysWays {many : Nat} {row : Int32} (hd : 5 ≤ d) (hR : RM h S) (h2m : 2 ≤ many) (hm6 : many ≤ 6)
    (K : ∀ h2, mV (List.range' 50 105) [113, 121, 122, 123] h h2 → iv h2 121 (6 * (many - 1)) = nI (mSo many 0 many) → iv h2 122 (6 * (many - 1)) = nI (wM many) → (∀ k, k < wM many → mAt h2 (mSo many 0 many + k) (wX (fun j => S.1 (slR row j)) 6 0 many k)) → Q none h2) : xCt G l mX12_laysWays d [.ref 110, .int (nI many), .int row] h 0 0 Q := by
  have hC := hR.1
  have hC0 := hC
  obtain ⟨sl, hsl⟩ : ∃ sl : Nat → Nat → Int32, sl = fun j => S.1 (slR row j) := ⟨_, rfl⟩
  rw [← hsl] at K
  have ps : ∀ h1, mV (List.range' 50 105) [113, 121, 122, 123] h h1 → ∀ j, pl h1 (slR row j) = c8 (sl j) := by
    intro h1 hv j
    have s8 := slR_lt row j
    rw [hv.pp (by omega) (by rw [mem_r]; omega), hR.p s8, hsl]
    exact (hR.cc s8).symm
  refine xCt_of (by decide) (Nat.le_of_ble_eq_true rfl) ?_
  have second : ∀ h1, wLI many sl h 2 0 (mSo many 0 2) h1 → xWP G l mX12_laysWays d (zM G Q) 0 0 58 (xls [(0, .ref 110), (1, .int (nI many)), (2, .int row), (3, .int (nI (mSo many 0 2))), (4, .int (nI 2))]) [] h1 := by
    have loop := xloop (P := fun L => 2 ≤ L → ∀ h1, wLI many sl h L 0 (mSo many 0 L) h1 → xWP G l mX12_laysWays d (zM G Q) 0 0 58 (xls [(0, .ref 110), (1, .int (nI many)), (2, .int row), (3, .int (nI (mSo many 0 L))), (4, .int (nI L))]) [] h1) (many + 1) (by
      intro L hL ihL L2 h1 i1
      have hC := i1.1.1
      refine x_iload dX12_laysWays_58 rfl rfl ?_
      refine x_iload_n (i := 1) dX12_laysWays_60 rfl rfl rfl ?_
      refine x_jc_gt (tgt := 172) dX12_laysWays_61 rfl rfl (by omega) (by omega) (fun c61 => ?_) (fun c61 => ?_)
      · obtain rfl : L = many + 1 := by omega
        have q := i1.2.1 0 many (by omega) (by omega) (Or.inl (by omega))
        refine x_return dX12_laysWays_172 rfl ?_
        refine K h1 i1.1 q.1 q.2 (fun k hk => i1.2.2 0 many k (by omega) (by omega) hk ?_)
        obtain ⟨m, rfl⟩ : ∃ m, many = m + 1 := ⟨many - 1, by omega⟩
        unfold mSo
        rw [mBs]
        have : 1 * wM (m + 1) ≤ (m + 1 - m) * wM (m + 1) := Nat.mul_le_mul_right _ (by omega)
        omega
      · have hL2 : L ≤ many := by omega
        refine x_iconst dX12_laysWays_64 rfl iC_0 ?_
        refine x_istore dX12_laysWays_65 rfl (by decide) ?_
        have loopF := xloop (P := fun F => ∀ h1, wLI many sl h L F (mSo many F L) h1 → xWP G l mX12_laysWays d (zM G Q) 0 0 67 (xls [(0, .ref 110), (1, .int (nI many)), (2, .int row), (3, .int (nI (mSo many F L))), (4, .int (nI L)), (5, .int (nI F))]) [] h1) (many - L + 1) (by
          intro F hF ihF h1 i1
          have hC := i1.1.1
          refine x_iload dX12_laysWays_67 rfl rfl ?_
          refine x_iload dX12_laysWays_69 rfl rfl ?_
          refine x_iadd dX12_laysWays_71 rfl ?_
          rw [show nI F + nI L = nI (F + L) from nI_add F L]
          refine x_iload_n (i := 1) dX12_laysWays_72 rfl rfl rfl ?_
          refine x_jc_gt (tgt := 166) dX12_laysWays_73 rfl rfl (by omega) (by omega) (fun c73 => ?_) (fun c73 => ?_)
          · obtain rfl : F = many - L + 1 := by omega
            refine x_iinc dX12_laysWays_166 rfl rfl (inc1 _) ?_
            refine x_goto (tgt := 58) dX12_laysWays_169 rfl ?_
            have ee : mSo many 0 (L + 1) = mSo many (many - L + 1) L := by
              obtain ⟨m, rfl⟩ : ∃ m, L = m + 1 := ⟨L - 1, by omega⟩
              unfold mSo
              rw [mBs, show many - (m + 1) + 1 = many - m by omega]
              omega
            refine x_to (ihL (by omega) (by omega) h1 ⟨i1.1, fun fr len a1 a2 a3 => i1.2.1 fr len a1 a2 (by omega), fun fr len k a1 a2 a3 a4 => i1.2.2 fr len k a1 a2 a3 (by rw [← ee]; exact a4)⟩) ⟨rfl, rfl, rfl, ?_, rfl, trivial⟩
            rw [ee]
            rfl
          · have hF2 : F + L ≤ many := by omega
            have eix : nI 6 * (nI L - nI 1) + nI F = nI (6 * (L - 1) + F) := by
              rw [show nI L - nI 1 = nI (L - 1) from pk_sub (by omega), nI_mul8, nI_add]
            refine x_bipush dX12_laysWays_76 rfl bC_6 ?_
            refine x_iload dX12_laysWays_78 rfl rfl ?_
            refine x_iconst dX12_laysWays_80 rfl iC_1 ?_
            refine x_isub dX12_laysWays_81 rfl ?_
            refine x_imul dX12_laysWays_82 rfl ?_
            refine x_iload dX12_laysWays_83 rfl rfl ?_
            refine x_iadd dX12_laysWays_85 rfl ?_
            rw [eix]
            have bb := lb_b hm6 (show 1 ≤ L by omega) hF2
            have v1 := hC.v (a := 121) rfl
            have hC2 := hC.setI (f := upd (iv h1 121) (6 * (L - 1) + F) (nI (mSo many F L))) v1 (Or.inl rfl) (by decide)
            refine x_istore dX12_laysWays_86 rfl (by decide) ?_
            refine x_aload_n (i := 0) dX12_laysWays_88 rfl rfl rfl ?_
            refine x_getC dX12_laysWays_89 rfl fX12_49 hC rfl F_110_16 ?_
            refine x_iload dX12_laysWays_92 rfl rfl ?_
            refine x_iload_n (i := 3) dX12_laysWays_94 rfl rfl rfl ?_
            refine x_iast dX12_laysWays_95 rfl v1 rfl (by omega) (by decide) ?_
            have mv2 : mV [] [121] h1 (hs h1 121 (0, 42, xI (upd (iv h1 121) (6 * (L - 1) + F) (nI (mSo many F L))))) := mV_o hC2 xSm.hs1 (by decide)
            have ix : ∀ fr len, 1 ≤ len → fr + len ≤ many → (len < L ∨ (len = L ∧ fr < F)) → 6 * (len - 1) + fr ≠ 6 * (L - 1) + F := by
              intro fr len a1 a2 a3
              rcases a3 with a3 | ⟨a3, a4⟩
              · omega
              · omega
            have j121 : iv (hs h1 121 (0, 42, xI (upd (iv h1 121) (6 * (L - 1) + F) (nI (mSo many F L))))) 121 = upd (iv h1 121) (6 * (L - 1) + F) (nI (mSo many F L)) := iv_hs
            have j122 : iv (hs h1 121 (0, 42, xI (upd (iv h1 121) (6 * (L - 1) + F) (nI (mSo many F L))))) 122 = iv h1 122 := iv_n (by decide)
            have j123 : iv (hs h1 121 (0, 42, xI (upd (iv h1 121) (6 * (L - 1) + F) (nI (mSo many F L))))) 123 = iv h1 123 := iv_n (by decide)
            have hC := hC2
            refine x_iconst dX12_laysWays_96 rfl iC_1 ?_
            refine x_istore dX12_laysWays_97 rfl (by decide) ?_
            generalize hs h1 121 (0, 42, xI (upd (iv h1 121) (6 * (L - 1) + F) (nI (mSo many F L)))) = h2 at hC2 mv2 j121 j122 j123 hC ⊢
            have i2 : wLI many sl h L F (mSo many F L + wOf L 0) h2 := by
              refine ⟨(i1.1.tr mv2).sub (by simp) (by simp), fun fr len a1 a2 a3 => ?_, fun fr len k a1 a2 a3 a4 => ?_⟩
              · obtain ⟨q1, q2⟩ := i1.2.1 fr len a1 a2 a3
                rw [j121, j122]
                unfold upd
                rw [if_neg (ix fr len a1 a2 a3)]
                exact ⟨q1, q2⟩
              · have b2 := lb_b hm6 a1 a2
                exact (i1.2.2 fr len k a1 a2 a3 a4).same (mv2.pp (by omega) (by simp)) (by rw [j123])
            have f121 : iv h2 121 (6 * (L - 1) + F) = nI (mSo many F L) := by rw [j121]; unfold upd; rw [if_pos rfl]
            have inner := xloop (P := fun n => ∀ h2, wLI many sl h L F (mSo many F L + wOf L n) h2 → iv h2 121 (6 * (L - 1) + F) = nI (mSo many F L) → xWP G l mX12_laysWays d (zM G Q) 0 0 99 (xls [(0, .ref 110), (1, .int (nI many)), (2, .int row), (3, .int (nI (mSo many F L + wOf L n))), (4, .int (nI L)), (5, .int (nI F)), (6, .int (nI (6 * (L - 1) + F))), (7, .int (nI (n + 1)))]) [] h2) (L - 1) (by
              intro n hn ihn h2 i2 f121
              have hC := i2.1.1
              have wl := wOf_le (len := L) (by omega) n (by omega)
              refine x_iload dX12_laysWays_99 rfl rfl ?_
              refine x_iload dX12_laysWays_101 rfl rfl ?_
              refine x_jc_ge (tgt := 144) dX12_laysWays_103 rfl rfl (by omega) (by omega) (fun c103 => ?_) (fun c103 => ?_)
              · obtain rfl : n = L - 1 := by omega
                have v1 := hC.v (a := 121) rfl
                have v2 := hC.v (a := 122) rfl
                refine x_aload_n (i := 0) dX12_laysWays_144 rfl rfl rfl ?_
                refine x_getC dX12_laysWays_145 rfl fX12_52 hC rfl F_110_17 ?_
                refine x_iload dX12_laysWays_148 rfl rfl ?_
                refine x_iload_n (i := 3) dX12_laysWays_150 rfl rfl rfl ?_
                refine x_aload_n (i := 0) dX12_laysWays_151 rfl rfl rfl ?_
                refine x_getC dX12_laysWays_152 rfl fX12_49 hC rfl F_110_16 ?_
                refine x_iload dX12_laysWays_155 rfl rfl ?_
                refine x_iald dX12_laysWays_157 rfl v1 rfl (by omega) (by decide) ?_
                rw [f121, wOf_full L (by omega) (by omega)]
                refine x_isub dX12_laysWays_158 rfl ?_
                rw [show nI (mSo many F L + wM L) - nI (mSo many F L) = nI (wM L) from (pk_sub (by omega)).trans (by congr 1; omega)]
                have hC3 := hC.setI (f := upd (iv h2 122) (6 * (L - 1) + F) (nI (wM L))) v2 (Or.inl rfl) (by decide)
                refine x_iast dX12_laysWays_159 rfl v2 rfl (by omega) (by decide) ?_
                have mv3 : mV [] [122] h2 (hs h2 122 (0, 42, xI (upd (iv h2 122) (6 * (L - 1) + F) (nI (wM L))))) := mV_o hC3 xSm.hs1 (by decide)
                have hC := hC3
                refine x_iinc dX12_laysWays_160 rfl rfl (inc1 _) ?_
                refine x_goto (tgt := 67) dX12_laysWays_163 rfl ?_
                refine x_to (ihF (by omega) _ ⟨(i2.1.tr mv3).sub (by simp) (by simp), fun fr len a1 a2 a3 => ?_, fun fr len k a1 a2 a3 a4 => ?_⟩) ⟨rfl, rfl, rfl, ?_, rfl, rfl, trivial⟩
                · rw [iv_n (by decide), iv_hs]
                  unfold upd
                  by_cases e : len = L ∧ fr = F
                  · obtain ⟨rfl, rfl⟩ := e
                    rw [if_pos rfl]
                    exact ⟨f121, rfl⟩
                  · rw [if_neg (by omega)]
                    exact i2.2.1 fr len a1 a2 (by omega)
                · have b2 := lb_b hm6 a1 a2
                  refine (i2.2.2 fr len k a1 a2 a3 ?_).same (mv3.pp (by omega) (by simp)) (by rw [iv_n (by decide)])
                  rw [wOf_full L (by omega) (by omega)]
                  have : mSo many (F + 1) L = mSo many F L + wM L := by unfold mSo; rw [Nat.succ_mul]; omega
                  omega
                · have : mSo many (F + 1) L = mSo many F L + wM L := by unfold mSo; rw [Nat.succ_mul]; omega
                  rw [this, ← wOf_full L (by omega) (by omega)]
                  rfl
              · have hn2 : n + 1 < L := by omega
                have wl2 := wOf_le (len := L) (by omega) (n + 1) (by omega)
                have ws : wOf L (n + 1) = wOf L n + wM (n + 1) * wM (L - (n + 1)) := rfl
                have il : nI 6 * (nI (n + 1) - nI 1) + nI F = nI (6 * (n + 1 - 1) + F) := by
                  rw [show nI (n + 1) - nI 1 = nI (n + 1 - 1) from pk_sub (by omega), nI_mul8, nI_add]
                have ir : nI 6 * (nI L - nI (n + 1) - nI 1) + nI F + nI (n + 1) = nI (6 * (L - (n + 1) - 1) + (F + (n + 1))) := by
                  rw [show nI L - nI (n + 1) = nI (L - (n + 1)) from pk_sub (by omega), show nI (L - (n + 1)) - nI 1 = nI (L - (n + 1) - 1) from pk_sub (by omega), nI_mul8, nI_add, nI_add, Nat.add_assoc]
                refine x_aload_n (i := 0) dX12_laysWays_106 rfl rfl rfl ?_
                refine x_iload_n (i := 3) dX12_laysWays_107 rfl rfl rfl ?_
                refine x_bipush dX12_laysWays_108 rfl bC_6 ?_
                refine x_iload dX12_laysWays_110 rfl rfl ?_
                refine x_iconst dX12_laysWays_112 rfl iC_1 ?_
                refine x_isub dX12_laysWays_113 rfl ?_
                refine x_imul dX12_laysWays_114 rfl ?_
                refine x_iload dX12_laysWays_115 rfl rfl ?_
                refine x_iadd dX12_laysWays_117 rfl ?_
                rw [il]
                refine x_bipush dX12_laysWays_118 rfl bC_6 ?_
                refine x_iload dX12_laysWays_120 rfl rfl ?_
                refine x_iload dX12_laysWays_122 rfl rfl ?_
                refine x_isub dX12_laysWays_124 rfl ?_
                refine x_iconst dX12_laysWays_125 rfl iC_1 ?_
                refine x_isub dX12_laysWays_126 rfl ?_
                refine x_imul dX12_laysWays_127 rfl ?_
                refine x_iload dX12_laysWays_128 rfl rfl ?_
                refine x_iadd dX12_laysWays_130 rfl ?_
                refine x_iload dX12_laysWays_131 rfl rfl ?_
                refine x_iadd dX12_laysWays_133 rfl ?_
                rw [ir]
                obtain ⟨l1, l2⟩ := i2.2.1 F (n + 1) (by omega) (by omega) (Or.inl hn2)
                obtain ⟨r1, r2⟩ := i2.2.1 (F + (n + 1)) (L - (n + 1)) (by omega) (by omega) (Or.inl (by omega))
                have ol := lv_b (fr := F) (len := n + 1) (len2 := L) (fr2 := F) hm6 (by omega) (by omega) hn2 hF2
                have or := lv_b (fr := F + (n + 1)) (len := L - (n + 1)) (len2 := L) (fr2 := F) hm6 (by omega) (by omega) (by omega) hF2
                refine x_callV0 (ci := 12) (b := 110) (As := [_, _, _]) (d2 := d - 1) dX12_laysWays_134 rfl kX12_274 okX12_joins (hC.o rfl) (fun q hq => by cases hq; rfl) (by omega) rfl rfl (Nat.le_of_ble_eq_true rfl) (m_joins (X := fun a => wX sl 6 F (n + 1) a) (Y := fun b => wX sl 6 (F + (n + 1)) (L - (n + 1)) b) (by omega) hC (i2.1.2.2.2 hR.b) (by omega) (by omega) l1 l2 r1 r2 (wM_pos _ (by omega) (by omega)) (by omega) (by omega) (by omega) (fun a ha => i2.2.2 F (n + 1) a (by omega) (by omega) ha (by omega)) (fun b hb => i2.2.2 (F + (n + 1)) (L - (n + 1)) b (by omega) (by omega) hb (by omega)) (fun h3 j3 r3 => ?_))
                have hC := j3.1.1
                have mr0 := wM_pos (L - (n + 1)) (by omega) (by omega)
                refine x_istore_n (i := 3) dX12_laysWays_137 rfl rfl (by decide) ?_
                refine x_iinc dX12_laysWays_138 rfl rfl (inc1 _) ?_
                refine x_goto (tgt := 99) dX12_laysWays_141 rfl ?_
                have i121 : iv h3 121 = iv h2 121 := j3.1.2.1.iv (by decide)
                have i122 : iv h3 122 = iv h2 122 := j3.1.2.1.iv (by decide)
                refine x_to (ihn (by omega) h3 ⟨(i2.1.tr j3.1).sub ?_ (by simp), fun fr len a1 a2 a3 => ?_, fun fr len k a1 a2 a3 a4 => ?_⟩ (by rw [i121]; exact f121)) ⟨rfl, rfl, rfl, ?_, rfl, rfl, rfl, rfl, trivial⟩
                · intro q hq
                  rcases List.mem_append.mp hq with e | e
                  · exact e
                  · rw [mem_r] at e ⊢
                    omega
                · rw [i121, i122]
                  exact i2.2.1 fr len a1 a2 a3
                · have b2 := lb_b hm6 a1 a2
                  by_cases e : mSo many fr len + k < mSo many F L + wOf L n
                  · exact (i2.2.2 fr len k a1 a2 a3 e).fr j3 (by omega) (by omega)
                  · obtain ⟨rfl, rfl⟩ := m_one hm6 (show 1 ≤ L by omega) hF2 a1 a2 a3 (by omega) (by omega)
                    obtain ⟨q, rfl⟩ : ∃ q, k = wOf len n + q := ⟨k - wOf len n, by omega⟩
                    have hq : q < wM (n + 1) * wM (len - (n + 1)) := by omega
                    have := r3 q hq
                    rw [← wX_j sl (by omega) hn2 (Nat.div_lt_of_lt_mul (by rw [Nat.mul_comm]; exact hq)) (Nat.mod_lt _ mr0), Nat.add_assoc (wOf len n), Nat.div_add_mod'] at this
                    rw [← Nat.add_assoc]
                    exact this
                · rw [ws, ← Nat.add_assoc]
                  rfl) 0 (Nat.zero_le _) h2 i2 f121
            exact x_to inner ⟨rfl, rfl, rfl, rfl, rfl, rfl, rfl, rfl, trivial⟩) 0 (Nat.zero_le _) h1 i1
        exact x_to loopF ⟨rfl, rfl, rfl, rfl, rfl, rfl, trivial⟩) 2 (by omega)
    exact loop (Nat.le_refl _)
  have so1 : ∀ F, mSo many F 1 = 50 + F := fun F => by unfold mSo mBs; rw [show wM 1 = 1 from rfl]; omega
  have first := xloop (P := fun F => ∀ h1, wLI many sl h 1 F (50 + F) h1 → xWP G l mX12_laysWays d (zM G Q) 0 0 6 (xls [(0, .ref 110), (1, .int (nI many)), (2, .int row), (3, .int (nI (50 + F))), (4, .int (nI F))]) [] h1) many (by
    intro F hF ih h1 i1
    have hC := i1.1.1
    refine x_iload dX12_laysWays_6 rfl rfl ?_
    refine x_iload_n (i := 1) dX12_laysWays_8 rfl rfl rfl ?_
    refine x_jc_ge (tgt := 55) dX12_laysWays_9 rfl rfl (by omega) (by omega) (fun c9 => ?_) (fun c9 => ?_)
    · obtain rfl : F = many := by omega
      refine x_iconst dX12_laysWays_55 rfl iC_2 ?_
      refine x_istore dX12_laysWays_56 rfl (by decide) ?_
      have e2 : mSo F 0 2 = 50 + F := by
        show mBs F 1 + (F - 0) * wM 1 + 0 * wM 2 = 50 + F
        rw [show wM 1 = 1 from rfl, show mBs F 1 = 50 from rfl]
        omega
      refine x_to (second h1 ⟨i1.1, fun fr len a1 a2 a3 => i1.2.1 fr len a1 a2 (by omega), by rw [e2]; exact i1.2.2⟩) ⟨rfl, rfl, rfl, ?_, rfl, trivial⟩
      rw [e2]
      rfl
    · have hF2 : F < many := by omega
      have v1 := hC.v (a := 121) rfl
      have hC1 := hC.setI (f := upd (iv h1 121) F (nI (50 + F))) v1 (Or.inl rfl) (by decide)
      refine x_aload_n (i := 0) dX12_laysWays_12 rfl rfl rfl ?_
      refine x_getC dX12_laysWays_13 rfl fX12_49 hC rfl F_110_16 ?_
      refine x_iload dX12_laysWays_16 rfl rfl ?_
      refine x_iload_n (i := 3) dX12_laysWays_18 rfl rfl rfl ?_
      refine x_iast dX12_laysWays_19 rfl v1 rfl (by omega) (by decide) ?_
      have m1 : mV [] [121] h1 (hs h1 121 (0, 42, xI (upd (iv h1 121) F (nI (50 + F))))) := mV_o hC1 xSm.hs1 (by decide)
      have j1 : iv (hs h1 121 (0, 42, xI (upd (iv h1 121) F (nI (50 + F))))) 121 = upd (iv h1 121) F (nI (50 + F)) := iv_hs
      have hC := hC1
      show xWP G l mX12_laysWays d (zM G Q) 0 0 20 _ [] (hs h1 121 (0, 42, xI (upd (iv h1 121) F (nI (50 + F)))))
      generalize hs h1 121 (0, 42, xI (upd (iv h1 121) F (nI (50 + F)))) = h2 at hC1 m1 j1 hC ⊢
      have v2 := hC.v (a := 122) rfl
      have hC2 := hC.setI (f := upd (iv h2 122) F (nI 1)) v2 (Or.inl rfl) (by decide)
      refine x_aload_n (i := 0) dX12_laysWays_20 rfl rfl rfl ?_
      refine x_getC dX12_laysWays_21 rfl fX12_52 hC rfl F_110_17 ?_
      refine x_iload dX12_laysWays_24 rfl rfl ?_
      refine x_iconst dX12_laysWays_26 rfl iC_1 ?_
      refine x_iast dX12_laysWays_27 rfl v2 rfl (by omega) (by decide) ?_
      have m2 : mV [] [122] h2 (hs h2 122 (0, 42, xI (upd (iv h2 122) F (nI 1)))) := mV_o hC2 xSm.hs1 (by decide)
      have j2 : iv (hs h2 122 (0, 42, xI (upd (iv h2 122) F (nI 1)))) 122 = upd (iv h2 122) F (nI 1) := iv_hs
      have hC := hC2
      show xWP G l mX12_laysWays d (zM G Q) 0 0 28 _ [] (hs h2 122 (0, 42, xI (upd (iv h2 122) F (nI 1))))
      generalize hs h2 122 (0, 42, xI (upd (iv h2 122) F (nI 1))) = h3 at hC2 m2 j2 hC ⊢
      have v3 := hC.z (a := 123) rfl
      have hC3 := hC.setI (f := upd (iv h3 123) (50 + F) (nI 1)) v3 (Or.inr (Or.inl rfl)) (by decide)
      refine x_aload_n (i := 0) dX12_laysWays_28 rfl rfl rfl ?_
      refine x_getC dX12_laysWays_29 rfl fX12_55 hC rfl F_110_18 ?_
      refine x_iload_n (i := 3) dX12_laysWays_32 rfl rfl rfl ?_
      refine x_iconst dX12_laysWays_33 rfl iC_1 ?_
      refine x_zast dX12_laysWays_34 rfl v3 rfl (by omega) (by decide) (by decide) ?_
      have m3 : mV [] [123] h3 (hs h3 123 (2, 155, xI (upd (iv h3 123) (50 + F) (nI 1)))) := mV_o hC3 xSm.hs1 (by decide)
      have j3 : iv (hs h3 123 (2, 155, xI (upd (iv h3 123) (50 + F) (nI 1)))) 123 = upd (iv h3 123) (50 + F) (nI 1) := iv_hs
      have hC := hC3
      show xWP G l mX12_laysWays d (zM G Q) 0 0 35 _ [] (hs h3 123 (2, 155, xI (upd (iv h3 123) (50 + F) (nI 1))))
      generalize hs h3 123 (2, 155, xI (upd (iv h3 123) (50 + F) (nI 1))) = h4 at hC3 m3 j3 hC ⊢
      have m4 := (((i1.1.tr m1).tr m2).tr m3).sub (P2 := List.range' 50 105) (C2 := [113, 121, 122, 123]) (by simp) (by simp)
      refine x_aload_n (i := 0) dX12_laysWays_35 rfl rfl rfl ?_
      refine x_iload_n (i := 3) dX12_laysWays_36 rfl rfl rfl ?_
      refine x_iload_n (i := 2) dX12_laysWays_37 rfl rfl rfl ?_
      refine x_iload dX12_laysWays_38 rfl rfl ?_
      refine x_callS0 (As := [_, _]) (d2 := d - 1) dX12_laysWays_40 rfl kX12_222 okX12_slotIn (by omega) rfl rfl (Nat.le_of_ble_eq_true rfl) (m_slotIn ?_)
      have s8 := slR_lt row F
      refine x_callV0 (ci := 12) (b := 110) (As := [_, _]) (d2 := d - 1) dX12_laysWays_43 rfl kX12_182 okX12_becomes (hC.o rfl) (fun q hq => by cases hq; rfl) (by omega) rfl rfl (Nat.le_of_ble_eq_true rfl) (m_becomes hC (t := 50 + F) (by omega) (by omega) (fun h5 m5 e5 => ?_))
      rw [ps h4 m4 F] at e5
      have hC := m5.1
      refine x_iinc dX12_laysWays_46 rfl rfl (inc1 _) ?_
      refine x_iinc dX12_laysWays_49 rfl rfl (inc1 _) ?_
      refine x_goto (tgt := 6) dX12_laysWays_52 rfl ?_
      have k121 : iv h5 121 = upd (iv h1 121) F (nI (50 + F)) := by rw [m5.2.1.iv (by decide), m3.2.1.iv (by decide), m2.2.1.iv (by decide), j1]
      have k122 : iv h5 122 = upd (iv h1 122) F (nI 1) := by rw [m5.2.1.iv (by decide), m3.2.1.iv (by decide), j2, m1.2.1.iv (by decide)]
      have k123 : iv h5 123 = upd (iv h1 123) (50 + F) (nI 1) := by rw [m5.2.1.iv (by decide), j3, m2.2.1.iv (by decide), m1.2.1.iv (by decide)]
      have kp : ∀ p, p < 155 → p ≠ 50 + F → pl h5 p = pl h1 p := fun p hp hn => by rw [m5.pp hp (by simp; omega), m3.pp hp (by simp), m2.pp hp (by simp), m1.pp hp (by simp)]
      refine x_to (ih hF2 h5 ⟨(m4.tr m5).sub ?_ (by simp), fun fr len a1 a2 a3 => ?_, fun fr len k a1 a2 a3 a4 => ?_⟩) ⟨rfl, rfl, rfl, rfl, rfl, trivial⟩
      · intro q hq
        rcases List.mem_append.mp hq with e | e
        · exact e
        · rw [mem_r]
          simp at e
          omega
      · obtain ⟨rfl, -⟩ : len = 1 ∧ fr < F + 1 := by omega
        rw [k121, k122]
        unfold upd
        by_cases e : fr = F
        · subst e
          rw [if_pos (by omega), if_pos (by omega), so1]
          exact ⟨rfl, rfl⟩
        · rw [if_neg (by omega), if_neg (by omega)]
          exact i1.2.1 fr 1 a1 a2 (by omega)
      · have b2 := lb_b hm6 a1 a2
        by_cases e : mSo many fr len + k < 50 + F
        · refine (i1.2.2 fr len k a1 a2 a3 e).same (kp _ (by omega) (by omega)) ?_
          rw [k123]
          unfold upd
          rw [if_neg (by omega)]
        · obtain ⟨rfl, rfl⟩ := m_one hm6 (Nat.le_refl 1) (show F + 1 ≤ many by omega) a1 a2 a3 (by rw [so1]; omega) (by rw [so1, show wM 1 = 1 from rfl]; omega)
          have k0 : k = 0 := by
            rw [show wM 1 = 1 from rfl] at a3
            omega
          subst k0
          rw [so1, wX_1, Nat.add_zero]
          refine Or.inl ⟨sl fr, rfl, e5, ?_⟩
          rw [k123]
          unfold upd
          rw [if_pos rfl]) 0 (Nat.zero_le _) h ⟨(mV.rf hC0).sub (P := []) (C := []) (by simp) (by simp), fun fr len a1 a2 a3 => by omega, fun fr len k a1 a2 a3 a4 => by have := lb_b hm6 a1 a2; omega⟩
  refine x_bipush dX12_laysWays_0 rfl bC_50 ?_
  refine x_istore_n (i := 3) dX12_laysWays_2 rfl rfl (by decide) ?_
  refine x_iconst dX12_laysWays_3 rfl iC_0 ?_
  refine x_istore dX12_laysWays_4 rfl (by decide) ?_
  exact x_to first ⟨rfl, rfl, rfl, rfl, rfl, trivial⟩
end MOD

