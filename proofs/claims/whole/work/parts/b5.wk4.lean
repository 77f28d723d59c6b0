/-! EightPartsModel: a text is worked, step by step -/
theorem zSk_ns {n : Nat} {tb : Nat → Int32} : ∀ f a, n - a ≤ f → zSk n tb f a < n → ¬ tb (zSk n tb f a) = nI 32
  | 0, a, hf, hl => by
    have : zSk n tb 0 a = a := rfl
    rw [this] at hl
    omega
  | f + 1, a, hf, hl => by
    rw [zSk] at hl ⊢
    by_cases c : a < n ∧ tb a = nI 32
    · rw [if_pos c] at hl ⊢
      exact zSk_ns f (a + 1) (by omega) hl
    · rw [if_neg c] at hl ⊢
      exact fun z => c ⟨hl, z⟩
theorem ahd_ns {n a : Nat} {tb : Nat → Int32} (h : zAhd n tb a < n) : ¬ tb (zAhd n tb a) = nI 32 := zSk_ns _ a (Nat.le_refl _) h
theorem ahd_id {n a : Nat} {tb : Nat → Int32} (ha : a ≤ n) : zAhd n tb (zAhd n tb a) = zAhd n tb a := by
  have hl := zAhd_le (tb := tb) ha
  by_cases c : zAhd n tb a < n
  · have ns := ahd_ns c
    show zSk n tb (n - zAhd n tb a) (zAhd n tb a) = zAhd n tb a
    obtain ⟨f, hf⟩ : ∃ f, n - zAhd n tb a = f + 1 := ⟨n - zAhd n tb a - 1, by omega⟩
    rw [hf, zSk, if_neg (fun z => ns z.2)]
  · show zSk n tb (n - zAhd n tb a) (zAhd n tb a) = zAhd n tb a
    rw [show n - zAhd n tb a = 0 by omega]
    rfl
theorem zBy_at {n a : Nat} {tb : Nat → Int32} (h : a < n) : zBy n tb a = tb a := if_pos h
theorem zBy_en {n a : Nat} {tb : Nat → Int32} (h : ¬ a < n) : zBy n tb a = -1 := if_neg h
/-- behind a term there is no star; behind a sum no sign either -/
theorem pT_end {n : Nat} {tb : Nat → Int32} {fac : Nat → Bool → pX} (hf : ∀ a c, a ≤ n → pOk n a (fac a c)) : ∀ k a c v r, a ≤ n → n - a < k → pT n tb fac k a c v = .inr r → ¬ zBy n tb (zAhd n tb r.1) = nI 42
  | 0, a, c, v, r, _, h, _ => absurd h (Nat.not_lt_zero _)
  | k + 1, a, c, v, r, ha, h, e => by
    have g := ahd_ge (tb := tb) a ha
    rw [pT] at e
    by_cases q : zBy n tb (zAhd n tb a) = nI 42
    · rw [if_pos q] at e
      have la := zBy_lt q (by decide)
      have key := hf (zAhd n tb a + 1) c (by omega)
      generalize fac (zAhd n tb a + 1) c = x at key e
      cases x with
      | inl p => cases e
      | inr r2 =>
        obtain ⟨k1, k2, -, -⟩ := key
        exact pT_end hf k r2.1 _ _ r k2 (by omega) e
    · rw [if_neg q] at e
      cases e
      show ¬ zBy n tb (zAhd n tb (zAhd n tb a)) = nI 42
      rw [ahd_id ha]
      exact q
theorem pM_end {n : Nat} {tb : Nat → Int32} {fac : Nat → Bool → pX} (hf : ∀ a c, a ≤ n → pOk n a (fac a c)) {a : Nat} {c : Bool} {r : Nat × Bool × (Nat → Int32)} (ha : a ≤ n) (e : pM n tb fac a c = .inr r) : ¬ zBy n tb (zAhd n tb r.1) = nI 42 := by
  have key := hf a c ha
  unfold pM at e
  generalize fac a c = x at key e
  cases x with
  | inl p => cases e
  | inr r2 =>
    obtain ⟨k1, k2, -, -⟩ := key
    exact pT_end hf n r2.1 _ _ r k2 (by omega) e
theorem pS_end {n : Nat} {tb : Nat → Int32} {fac : Nat → Bool → pX} (hf : ∀ a c, a ≤ n → pOk n a (fac a c)) : ∀ k a c v r, a ≤ n → n - a < k → ¬ zBy n tb (zAhd n tb a) = nI 42 → pS n tb fac k a c v = .inr r → ¬ (zBy n tb (zAhd n tb r.1) = nI 42 ∨ zBy n tb (zAhd n tb r.1) = nI 43 ∨ zBy n tb (zAhd n tb r.1) = nI 45)
  | 0, a, c, v, r, _, h, _, _ => absurd h (Nat.not_lt_zero _)
  | k + 1, a, c, v, r, ha, h, h42, e => by
    have g := ahd_ge (tb := tb) a ha
    rw [pS] at e
    by_cases q : zBy n tb (zAhd n tb a) = nI 43 ∨ zBy n tb (zAhd n tb a) = nI 45
    · rw [if_pos q] at e
      have la : zAhd n tb a < n := by
        rcases q with q | q
        · exact zBy_lt q (by decide)
        · exact zBy_lt q (by decide)
      have key := k_M (tb := tb) hf (zAhd n tb a + 1) c (by omega)
      have k42 := @pM_end n tb fac hf (zAhd n tb a + 1) c
      generalize pM n tb fac (zAhd n tb a + 1) c = x at key e k42
      cases x with
      | inl p => cases e
      | inr r2 =>
        obtain ⟨k1, k2, -, -⟩ := key
        exact pS_end hf k r2.1 _ _ r k2 (by omega) (k42 (by omega) rfl) e
    · rw [if_neg q] at e
      cases e
      show ¬ (zBy n tb (zAhd n tb (zAhd n tb a)) = nI 42 ∨ zBy n tb (zAhd n tb (zAhd n tb a)) = nI 43 ∨ zBy n tb (zAhd n tb (zAhd n tb a)) = nI 45)
      rw [ahd_id ha]
      rintro (z | z)
      · exact h42 z
      · exact q z
theorem pU_end {n : Nat} {tb : Nat → Int32} {fac : Nat → Bool → pX} (hf : ∀ a c, a ≤ n → pOk n a (fac a c)) {a : Nat} {c : Bool} {r : Nat × Bool × (Nat → Int32)} (ha : a ≤ n) (e : pU n tb fac a c = .inr r) : ¬ (zBy n tb (zAhd n tb r.1) = nI 42 ∨ zBy n tb (zAhd n tb r.1) = nI 43 ∨ zBy n tb (zAhd n tb r.1) = nI 45) := by
  have key := k_M (tb := tb) hf a c ha
  have k42 := @pM_end n tb fac hf a c
  unfold pU at e
  generalize pM n tb fac a c = x at key e k42
  cases x with
  | inl p => cases e
  | inr r2 =>
    obtain ⟨k1, k2, -, -⟩ := key
    exact pS_end hf n r2.1 _ _ r k2 (by omega) (k42 ha rfl) e
def WK (G : xG) (l : Launch) (d : Nat) (Q : Option Value → xH → Prop) (S : St) (h0 : xH) (w : Nat) (X : wkT) : Prop := ∀ h1, mW h1 S X → cF h0 h1 → xWP G l mX12_works d (zM G Q) 0 0 43 (xls [(0, .ref 110), (1, .int (nI w))]) [] h1
def KF (Q : Option Value → xH → Prop) (S : St) (h0 : xH) (p : Nat) : Prop := ∀ h2, RM h2 S → cF h0 h2 → Q (some (.int (nI p))) h2
section MOD
variable {G : xG} {l : Launch} {d : Nat} {h h0 : xH} {Q : Option Value → xH → Prop} {S : St}
theorem wk_sp {w a : Nat} {Y : cxT × lvT × Bool} (ha : a < S.2.2.1.1) (hs1 : S.2.2.1.2 a = nI 32) (H : WK G l d Q S h0 w (a + 1, Y)) : WK G l d Q S h0 w (a, Y) := by
  intro h1 w1 c1
  have hC := w1.1.1
  have f28 : (h1.1 110).2.2 28 = .int (nI a) := w1.2.1
  obtain ⟨n1, f20, n3⟩ := w1.1.2.2.2.2.2.2.1
  have v24 := hC.v (a := 124) rfl
  refine x_aload_n (i := 0) dX12_works_43 rfl rfl rfl ?_
  refine x_getM (a := 110) dX12_works_44 rfl fX12_298 hC rfl f28 ?_
  refine x_aload_n (i := 0) dX12_works_47 rfl rfl rfl ?_
  refine x_getM (a := 110) dX12_works_48 rfl fX12_283 hC rfl f20 ?_
  refine x_jc_ge (tgt := 149) dX12_works_51 rfl rfl (by omega) (by omega) (fun c51 => ?_) (fun c51 => ?_)
  · exfalso
    omega
  refine x_aload_n (i := 0) dX12_works_54 rfl rfl rfl ?_
  refine x_getC dX12_works_55 rfl fX12_59 hC rfl F_110_19 ?_
  refine x_aload_n (i := 0) dX12_works_58 rfl rfl rfl ?_
  refine x_getM (a := 110) dX12_works_59 rfl fX12_298 hC rfl f28 ?_
  refine x_iald dX12_works_62 rfl v24 rfl (by omega) (by decide) ?_
  rw [n3 a ha, hs1]
  refine x_istore_n (i := 2) dX12_works_63 rfl rfl (by decide) ?_
  refine x_iload_n (i := 2) dX12_works_64 rfl rfl rfl ?_
  refine x_bipush dX12_works_65 rfl bC_32 ?_
  refine x_ic_ne_f (tgt := 83) dX12_works_67 rfl rfl (by decide) ?_
  refine x_aload_n (i := 0) dX12_works_70 rfl rfl rfl ?_
  refine x_dup dX12_works_71 rfl rfl ?_
  refine x_getM (a := 110) dX12_works_72 rfl fX12_298 hC rfl f28 ?_
  refine x_iconst dX12_works_75 rfl iC_1 ?_
  refine x_iadd dX12_works_76 rfl ?_
  rw [show nI a + nI 1 = nI (a + 1) from nI_add _ 1]
  have hC2 := hC.setF (ci := 12) (a := 110) (kf := 28) (v := .int (nI (a + 1))) rfl NF_110_28 (by decide)
  obtain ⟨e1, e2⟩ := w1.at hC2
  refine x_putC (a := 110) dX12_works_77 rfl fX12_298 (fun q hq => by cases hq; rfl) hC rfl ⟨rfl, rfl⟩ ?_
  refine x_goto (tgt := 43) dX12_works_80 rfl ?_
  exact x_to (H _ e1 (c1.tr e2)) ⟨rfl, rfl, trivial⟩
theorem wk_sk {w : Nat} {Y : cxT × lvT × Bool} : ∀ f a, WK G l d Q S h0 w (zSk S.2.2.1.1 S.2.2.1.2 f a, Y) → WK G l d Q S h0 w (a, Y)
  | 0, _, H => H
  | f + 1, a, H => by
    rw [zSk] at H
    by_cases c : a < S.2.2.1.1 ∧ S.2.2.1.2 a = nI 32
    · rw [if_pos c] at H
      exact wk_sp c.1 c.2 (wk_sk f (a + 1) H)
    · rw [if_neg c] at H
      exact H
theorem wk_ah {w a : Nat} {Y : cxT × lvT × Bool} (H : WK G l d Q S h0 w (zAhd S.2.2.1.1 S.2.2.1.2 a, Y)) : WK G l d Q S h0 w (a, Y) := wk_sk _ a H
/-- a factor is wanted -/
theorem wk_1 {a : Nat} {ctx : cxT} {cur : lvT} {c : Bool} (hd : 6 ≤ d) (ha : a < S.2.2.1.1) (hns : ¬ S.2.2.1.2 a = nI 32)
    (H1 : S.2.2.1.2 a = nI 126 → ctx.length < 12 → WK G l d Q S h0 1 (a + 1, none :: ctx, cur, c))
    (H2 : S.2.2.1.2 a = nI 40 → ctx.length < 12 → WK G l d Q S h0 1 (a + 1, some cur :: ctx, (none, 1, none), c))
    (H3 : nI 97 ≤ S.2.2.1.2 a ∧ S.2.2.1.2 a ≤ nI 104 → WK G l d Q S h0 0 (finX (a + 1) ctx cur (S.1 (ltN (S.2.2.1.2 a))) c))
    (H4 : zDig (S.2.2.1.2 a) → ¬ 999 < (zNum S.2.2.1.1 S.2.2.1.2 (S.2.2.1.1 - a) a 0).2 → WK G l d Q S h0 0 (finX (zNum S.2.2.1.1 S.2.2.1.2 (S.2.2.1.1 - a) a 0).1 ctx cur (c8 (zReal (zNum S.2.2.1.1 S.2.2.1.2 (S.2.2.1.1 - a) a 0).2)) c))
    (H0 : (((S.2.2.1.2 a = nI 126 ∨ S.2.2.1.2 a = nI 40) ∧ ¬ ctx.length < 12) ∨ (zDig (S.2.2.1.2 a) ∧ 999 < (zNum S.2.2.1.1 S.2.2.1.2 (S.2.2.1.1 - a) a 0).2) ∨ ¬ (S.2.2.1.2 a = nI 126 ∨ S.2.2.1.2 a = nI 40 ∨ (nI 97 ≤ S.2.2.1.2 a ∧ S.2.2.1.2 a ≤ nI 104) ∨ zDig (S.2.2.1.2 a))) → KF Q S h0 a) : WK G l d Q S h0 1 (a, ctx, cur, c) := by
  intro h1 w1 c1
  have hC := w1.1.1
  have f28 : (h1.1 110).2.2 28 = .int (nI a) := w1.2.1
  obtain ⟨n1, f20, n3⟩ := w1.1.2.2.2.2.2.2.1
  have v24 := hC.v (a := 124) rfl
  obtain ⟨x, hx⟩ : ∃ x, S.2.2.1.2 a = x := ⟨_, rfl⟩
  rw [hx] at hns H1 H2 H3 H4 H0
  -- behind a good beginning
  have g1 : (x = nI 126 ∨ x = nI 40) → ∀ X h2, mW h2 S X → cF h0 h2 → WK G l d Q S h0 1 X → xWP G l mX12_works d (zM G Q) 0 0 100 (xls [(0, .ref 110), (2, .int x)]) [] h2 := by
    intro z X h2 w2 c2 H
    rcases z with z | z
    · subst z
      refine x_iload_n (i := 2) dX12_works_100 rfl rfl rfl ?_
      refine x_bipush dX12_works_101 rfl bC_126 ?_
      refine x_ic_eq_t (tgt := 112) dX12_works_103 rfl rfl ?_
      refine x_iconst dX12_works_112 rfl iC_1 ?_
      refine x_goto (tgt := 117) dX12_works_113 rfl ?_
      refine x_istore_n (i := 1) dX12_works_117 rfl rfl (by decide) ?_
      refine x_goto (tgt := 146) dX12_works_118 rfl ?_
      refine x_goto (tgt := 43) dX12_works_146 rfl ?_
      exact x_to (H h2 w2 c2) ⟨rfl, rfl, trivial⟩
    · subst z
      refine x_iload_n (i := 2) dX12_works_100 rfl rfl rfl ?_
      refine x_bipush dX12_works_101 rfl bC_126 ?_
      refine x_ic_eq_f (tgt := 112) dX12_works_103 rfl rfl (by decide) ?_
      refine x_iload_n (i := 2) dX12_works_106 rfl rfl rfl ?_
      refine x_bipush dX12_works_107 rfl bC_40 ?_
      refine x_ic_ne_f (tgt := 116) dX12_works_109 rfl rfl (by decide) ?_
      refine x_iconst dX12_works_112 rfl iC_1 ?_
      refine x_goto (tgt := 117) dX12_works_113 rfl ?_
      refine x_istore_n (i := 1) dX12_works_117 rfl rfl (by decide) ?_
      refine x_goto (tgt := 146) dX12_works_118 rfl ?_
      refine x_goto (tgt := 43) dX12_works_146 rfl ?_
      exact x_to (H h2 w2 c2) ⟨rfl, rfl, trivial⟩
  have g0 : ¬ x = nI 126 → ¬ x = nI 40 → ∀ X h2, mW h2 S X → cF h0 h2 → WK G l d Q S h0 0 X → xWP G l mX12_works d (zM G Q) 0 0 100 (xls [(0, .ref 110), (2, .int x)]) [] h2 := by
    intro z1 z2 X h2 w2 c2 H
    refine x_iload_n (i := 2) dX12_works_100 rfl rfl rfl ?_
    refine x_bipush dX12_works_101 rfl bC_126 ?_
    refine x_ic_eq_f (tgt := 112) dX12_works_103 rfl rfl z1 ?_
    refine x_iload_n (i := 2) dX12_works_106 rfl rfl rfl ?_
    refine x_bipush dX12_works_107 rfl bC_40 ?_
    refine x_ic_ne_t (tgt := 116) dX12_works_109 rfl z2 ?_
    refine x_iconst dX12_works_116 rfl iC_0 ?_
    refine x_istore_n (i := 1) dX12_works_117 rfl rfl (by decide) ?_
    refine x_goto (tgt := 146) dX12_works_118 rfl ?_
    refine x_goto (tgt := 43) dX12_works_146 rfl ?_
    exact x_to (H h2 w2 c2) ⟨rfl, rfl, trivial⟩
  refine x_aload_n (i := 0) dX12_works_43 rfl rfl rfl ?_
  refine x_getM (a := 110) dX12_works_44 rfl fX12_298 hC rfl f28 ?_
  refine x_aload_n (i := 0) dX12_works_47 rfl rfl rfl ?_
  refine x_getM (a := 110) dX12_works_48 rfl fX12_283 hC rfl f20 ?_
  refine x_jc_ge (tgt := 149) dX12_works_51 rfl rfl (by omega) (by omega) (fun c51 => ?_) (fun c51 => ?_)
  · exfalso
    omega
  refine x_aload_n (i := 0) dX12_works_54 rfl rfl rfl ?_
  refine x_getC dX12_works_55 rfl fX12_59 hC rfl F_110_19 ?_
  refine x_aload_n (i := 0) dX12_works_58 rfl rfl rfl ?_
  refine x_getM (a := 110) dX12_works_59 rfl fX12_298 hC rfl f28 ?_
  refine x_iald dX12_works_62 rfl v24 rfl (by omega) (by decide) ?_
  rw [n3 a ha, hx]
  refine x_istore_n (i := 2) dX12_works_63 rfl rfl (by decide) ?_
  refine x_iload_n (i := 2) dX12_works_64 rfl rfl rfl ?_
  refine x_bipush dX12_works_65 rfl bC_32 ?_
  refine x_ic_ne_t (tgt := 83) dX12_works_67 rfl hns ?_
  refine x_iload_n (i := 1) dX12_works_83 rfl rfl rfl ?_
  refine x_if_eq_f (tgt := 121) dX12_works_84 rfl rfl nb1 ?_
  refine x_aload_n (i := 0) dX12_works_87 rfl rfl rfl ?_
  refine x_iload_n (i := 2) dX12_works_88 rfl rfl rfl ?_
  refine x_callV0 (ci := 12) (b := 110) (As := [_]) (d2 := d - 1) dX12_works_89 rfl kX12_315 okX12_begins (hC.o rfl) (fun q hq => by cases hq; rfl) (by omega) rfl rfl (Nat.le_of_ble_eq_true rfl) (m_begins (by omega) w1 ha hx (fun z zl h2 w2 c2 => ?_) (fun z zl h2 w2 c2 => ?_) (fun z h2 w2 c2 => ?_) (fun z zn h2 w2 c2 => ?_) (fun z h2 w2 c2 => ?_))
  · refine x_if_ne_t (tgt := 100) dX12_works_92 rfl nb1 ?_
    exact x_to (g1 (Or.inl z) _ h2 w2 (c1.tr c2) (H1 z zl)) ⟨rfl, rfl, trivial⟩
  · refine x_if_ne_t (tgt := 100) dX12_works_92 rfl nb1 ?_
    exact x_to (g1 (Or.inr z) _ h2 w2 (c1.tr c2) (H2 z zl)) ⟨rfl, rfl, trivial⟩
  · refine x_if_ne_t (tgt := 100) dX12_works_92 rfl nb1 ?_
    exact x_to (g0 (fun e => by rw [e] at z; exact absurd z.2 (by decide)) (fun e => by rw [e] at z; exact absurd z.1 (by decide)) _ h2 w2 (c1.tr c2) (H3 z)) ⟨rfl, rfl, trivial⟩
  · refine x_if_ne_t (tgt := 100) dX12_works_92 rfl nb1 ?_
    exact x_to (g0 (fun e => by rw [e] at z; exact absurd z.2 (by decide)) (fun e => by rw [e] at z; exact absurd z.1 (by decide)) _ h2 w2 (c1.tr c2) (H4 z zn)) ⟨rfl, rfl, trivial⟩
  · have hC := w2.1.1
    have g28 : (h2.1 110).2.2 28 = .int (nI a) := w2.2.1
    refine x_if_ne_f (tgt := 100) dX12_works_92 rfl rfl nI_0 ?_
    refine x_aload_n (i := 0) dX12_works_95 rfl rfl rfl ?_
    refine x_getM (a := 110) dX12_works_96 rfl fX12_298 hC rfl g28 ?_
    refine x_ireturn dX12_works_99 rfl rfl ?_
    exact H0 z h2 w2.1 (c1.tr c2)
/-- something may follow a factor -/
theorem wk_0 {a : Nat} {ctx : cxT} {cur : lvT} {c : Bool} {t : Nat → Int32} (hd : 6 ≤ d) (ha : a < S.2.2.1.1) (hns : ¬ S.2.2.1.2 a = nI 32) (et : cur.2.2 = some t) (hp : popM ctx = ctx)
    (H1 : S.2.2.1.2 a = nI 41 → ∀ r c2, ctx = some r :: c2 → WK G l d Q S h0 0 (finX (a + 1) c2 r (sumL cur t c).2 (sumL cur t c).1))
    (H2 : (S.2.2.1.2 a = nI 43 ∨ S.2.2.1.2 a = nI 45) → WK G l d Q S h0 1 (a + 1, ctx, (some (sumL cur t c).2, (if S.2.2.1.2 a = nI 43 then nI 1 else -1), none), (sumL cur t c).1))
    (H3 : S.2.2.1.2 a = nI 42 → WK G l d Q S h0 1 (a + 1, ctx, cur, c))
    (H0 : ((S.2.2.1.2 a = nI 41 ∧ ctx = []) ∨ ¬ (S.2.2.1.2 a = nI 41 ∨ S.2.2.1.2 a = nI 43 ∨ S.2.2.1.2 a = nI 45 ∨ S.2.2.1.2 a = nI 42)) → KF Q S h0 a) : WK G l d Q S h0 0 (a, ctx, cur, c) := by
  intro h1 w1 c1
  have hC := w1.1.1
  have f28 : (h1.1 110).2.2 28 = .int (nI a) := w1.2.1
  obtain ⟨n1, f20, n3⟩ := w1.1.2.2.2.2.2.2.1
  have v24 := hC.v (a := 124) rfl
  obtain ⟨x, hx⟩ : ∃ x, S.2.2.1.2 a = x := ⟨_, rfl⟩
  rw [hx] at hns H1 H2 H3 H0
  refine x_aload_n (i := 0) dX12_works_43 rfl rfl rfl ?_
  refine x_getM (a := 110) dX12_works_44 rfl fX12_298 hC rfl f28 ?_
  refine x_aload_n (i := 0) dX12_works_47 rfl rfl rfl ?_
  refine x_getM (a := 110) dX12_works_48 rfl fX12_283 hC rfl f20 ?_
  refine x_jc_ge (tgt := 149) dX12_works_51 rfl rfl (by omega) (by omega) (fun c51 => ?_) (fun c51 => ?_)
  · exfalso
    omega
  refine x_aload_n (i := 0) dX12_works_54 rfl rfl rfl ?_
  refine x_getC dX12_works_55 rfl fX12_59 hC rfl F_110_19 ?_
  refine x_aload_n (i := 0) dX12_works_58 rfl rfl rfl ?_
  refine x_getM (a := 110) dX12_works_59 rfl fX12_298 hC rfl f28 ?_
  refine x_iald dX12_works_62 rfl v24 rfl (by omega) (by decide) ?_
  rw [n3 a ha, hx]
  refine x_istore_n (i := 2) dX12_works_63 rfl rfl (by decide) ?_
  refine x_iload_n (i := 2) dX12_works_64 rfl rfl rfl ?_
  refine x_bipush dX12_works_65 rfl bC_32 ?_
  refine x_ic_ne_t (tgt := 83) dX12_works_67 rfl hns ?_
  refine x_iload_n (i := 1) dX12_works_83 rfl rfl rfl ?_
  refine x_if_eq_t (tgt := 121) dX12_works_84 rfl nI_0 ?_
  refine x_aload_n (i := 0) dX12_works_121 rfl rfl rfl ?_
  refine x_iload_n (i := 2) dX12_works_122 rfl rfl rfl ?_
  refine x_callV0 (ci := 12) (b := 110) (As := [_]) (d2 := d - 1) dX12_works_123 rfl kX12_318 okX12_follows (hC.o rfl) (fun q hq => by cases hq; rfl) (by omega) rfl rfl (Nat.le_of_ble_eq_true rfl) (m_follows (by omega) w1 et hp (fun z r c2 e h2 w2 cc2 => ?_) (fun z h2 w2 cc2 => ?_) (fun z h2 w2 cc2 => ?_) (fun z => ?_))
  · refine x_if_ne_t (tgt := 134) dX12_works_126 rfl nb1 ?_
    refine x_iload_n (i := 2) dX12_works_134 rfl rfl rfl ?_
    refine x_bipush dX12_works_135 rfl bC_41 ?_
    refine x_ic_eq_t (tgt := 144) dX12_works_137 rfl z ?_
    refine x_iconst dX12_works_144 rfl iC_0 ?_
    refine x_istore_n (i := 1) dX12_works_145 rfl rfl (by decide) ?_
    refine x_goto (tgt := 43) dX12_works_146 rfl ?_
    exact x_to (H1 z r c2 e h2 w2 (c1.tr cc2)) ⟨rfl, rfl, trivial⟩
  · have z41 : ¬ x = nI 41 := by
      rcases z with z | z
      · rw [z]; decide
      · rw [z]; decide
    refine x_if_ne_t (tgt := 134) dX12_works_126 rfl nb1 ?_
    refine x_iload_n (i := 2) dX12_works_134 rfl rfl rfl ?_
    refine x_bipush dX12_works_135 rfl bC_41 ?_
    refine x_ic_eq_f (tgt := 144) dX12_works_137 rfl rfl z41 ?_
    refine x_iconst dX12_works_140 rfl iC_1 ?_
    refine x_goto (tgt := 145) dX12_works_141 rfl ?_
    refine x_istore_n (i := 1) dX12_works_145 rfl rfl (by decide) ?_
    refine x_goto (tgt := 43) dX12_works_146 rfl ?_
    exact x_to (H2 z h2 w2 (c1.tr cc2)) ⟨rfl, rfl, trivial⟩
  · have z41 : ¬ x = nI 41 := by rw [z]; decide
    refine x_if_ne_t (tgt := 134) dX12_works_126 rfl nb1 ?_
    refine x_iload_n (i := 2) dX12_works_134 rfl rfl rfl ?_
    refine x_bipush dX12_works_135 rfl bC_41 ?_
    refine x_ic_eq_f (tgt := 144) dX12_works_137 rfl rfl z41 ?_
    refine x_iconst dX12_works_140 rfl iC_1 ?_
    refine x_goto (tgt := 145) dX12_works_141 rfl ?_
    refine x_istore_n (i := 1) dX12_works_145 rfl rfl (by decide) ?_
    refine x_goto (tgt := 43) dX12_works_146 rfl ?_
    exact x_to (H3 z h2 w2 (c1.tr cc2)) ⟨rfl, rfl, trivial⟩
  · refine x_if_ne_f (tgt := 134) dX12_works_126 rfl rfl nI_0 ?_
    refine x_aload_n (i := 0) dX12_works_129 rfl rfl rfl ?_
    refine x_getM (a := 110) dX12_works_130 rfl fX12_298 hC rfl f28 ?_
    refine x_ireturn dX12_works_133 rfl rfl ?_
    exact H0 z h1 w1.1 c1
theorem wk_e1 {a : Nat} {Y : cxT × lvT × Bool} (ha : a = S.2.2.1.1) (H : KF Q S h0 a) : WK G l d Q S h0 1 (a, Y) := by
  subst ha
  intro h1 w1 c1
  have hC := w1.1.1
  have f28 : (h1.1 110).2.2 28 = .int (nI S.2.2.1.1) := w1.2.1
  obtain ⟨n1, f20, n3⟩ := w1.1.2.2.2.2.2.2.1
  refine x_aload_n (i := 0) dX12_works_43 rfl rfl rfl ?_
  refine x_getM (a := 110) dX12_works_44 rfl fX12_298 hC rfl f28 ?_
  refine x_aload_n (i := 0) dX12_works_47 rfl rfl rfl ?_
  refine x_getM (a := 110) dX12_works_48 rfl fX12_283 hC rfl f20 ?_
  refine x_jc_ge (tgt := 149) dX12_works_51 rfl rfl (by omega) (by omega) (fun c51 => ?_) (fun c51 => ?_)
  · refine x_iload_n (i := 1) dX12_works_149 rfl rfl rfl ?_
    refine x_if_ne_t (tgt := 160) dX12_works_150 rfl nb1 ?_
    refine x_aload_n (i := 0) dX12_works_160 rfl rfl rfl ?_
    refine x_getM (a := 110) dX12_works_161 rfl fX12_283 hC rfl f20 ?_
    refine x_ireturn dX12_works_164 rfl rfl ?_
    exact H h1 w1.1 c1
  · exfalso
    omega
theorem wk_e0 {a : Nat} {ctx : cxT} {cur : lvT} {c : Bool} {t : Nat → Int32} (hd : 6 ≤ d) (ha : a = S.2.2.1.1) (et : cur.2.2 = some t) (H : lvl ctx ≠ 0 → KF Q S h0 a) (HE : lvl ctx = 0 → ∀ h2, mW h2 S (a, ctx, (some (sumL cur t c).2, cur.2.1, none), (sumL cur t c).1) → cF h0 h2 → Q (some (.int (-1))) h2) : WK G l d Q S h0 0 (a, ctx, cur, c) := by
  subst ha
  intro h1 w1 c1
  have hC := w1.1.1
  have f28 : (h1.1 110).2.2 28 = .int (nI S.2.2.1.1) := w1.2.1
  have f26 : (h1.1 110).2.2 26 = .int (nI (lvl ctx)) := w1.2.2.2.1
  have ll := lvl_le ctx
  have l12 : ctx.length ≤ 12 := w1.2.2.2.2.2.1
  obtain ⟨n1, f20, n3⟩ := w1.1.2.2.2.2.2.2.1
  refine x_aload_n (i := 0) dX12_works_43 rfl rfl rfl ?_
  refine x_getM (a := 110) dX12_works_44 rfl fX12_298 hC rfl f28 ?_
  refine x_aload_n (i := 0) dX12_works_47 rfl rfl rfl ?_
  refine x_getM (a := 110) dX12_works_48 rfl fX12_283 hC rfl f20 ?_
  refine x_jc_ge (tgt := 149) dX12_works_51 rfl rfl (by omega) (by omega) (fun c51 => ?_) (fun c51 => ?_)
  rotate_left
  · exfalso
    omega
  by_cases z : lvl ctx = 0
  · have le : nI (lvl ctx) ≤ 0 := by rw [z]; decide
    refine x_iload_n (i := 1) dX12_works_149 rfl rfl rfl ?_
    refine x_if_ne_f (tgt := 160) dX12_works_150 rfl rfl nI_0 ?_
    refine x_aload_n (i := 0) dX12_works_153 rfl rfl rfl ?_
    refine x_getM (a := 110) dX12_works_154 rfl fX12_289 hC rfl f26 ?_
    refine x_if_le_t (tgt := 165) dX12_works_157 rfl le ?_
    refine x_aload_n (i := 0) dX12_works_165 rfl rfl rfl ?_
    refine x_callV0 (ci := 12) (b := 110) (As := []) (d2 := d - 1) dX12_works_166 rfl kX12_312 okX12_sums (hC.o rfl) (fun q hq => by cases hq; rfl) (by omega) rfl rfl (Nat.le_of_ble_eq_true rfl) (m_sums (by omega) w1 et (fun h2 w2 c2 => ?_))
    refine x_iconst dX12_works_169 rfl iC_m1 ?_
    refine x_ireturn dX12_works_170 rfl rfl ?_
    exact HE z h2 w2 (c1.tr c2)
  · have le : ¬ nI (lvl ctx) ≤ 0 := by
      intro q
      have := (nI_leI (a := lvl ctx) (b := 0) (by omega) (by decide)).mp (by rw [nI_0]; exact q)
      omega
    refine x_iload_n (i := 1) dX12_works_149 rfl rfl rfl ?_
    refine x_if_ne_f (tgt := 160) dX12_works_150 rfl rfl nI_0 ?_
    refine x_aload_n (i := 0) dX12_works_153 rfl rfl rfl ?_
    refine x_getM (a := 110) dX12_works_154 rfl fX12_289 hC rfl f26 ?_
    refine x_if_le_f (tgt := 165) dX12_works_157 rfl rfl le ?_
    refine x_aload_n (i := 0) dX12_works_160 rfl rfl rfl ?_
    refine x_getM (a := 110) dX12_works_161 rfl fX12_283 hC rfl f20 ?_
    refine x_ireturn dX12_works_164 rfl rfl ?_
    exact H z h1 w1.1 c1
end MOD

