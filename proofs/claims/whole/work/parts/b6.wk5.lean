/-! EightPartsModel: work -/
def anX (x : pX) (kf : Nat → Prop) (k : Nat × Bool × (Nat → Int32) → Prop) : Prop := match x with
  | .inl p => kf p
  | .inr r => k r
section MOD
variable {G : xG} {l : Launch} {d : Nat} {h h0 : xH} {Q : Option Value → xH → Prop} {S : St}
/-- the model does what a reader of factors says -/
def SF (G : xG) (l : Launch) (d : Nat) (Q : Option Value → xH → Prop) (S : St) (h0 : xH) (dp : Nat) (pf : Nat → Bool → pX) : Prop := ∀ a ctx cur c, a ≤ S.2.2.1.1 → ctx.length = dp → anX (pf a c) (KF Q S h0) (fun r => WK G l d Q S h0 0 (finX r.1 ctx cur r.2.2 r.2.1)) → WK G l d Q S h0 1 (a, ctx, cur, c)
theorem fin_p {a : Nat} {ctx : cxT} {cur : lvT} {v : Nat → Int32} {c : Bool} (hp : popM ctx = ctx) (hm : ∀ v, mirM ctx v = v) : finX a ctx cur v c = (a, ctx, (finL cur v c).1, (finL cur v c).2) := by
  unfold finX
  rw [hp, hm]
theorem s_T {dp : Nat} {pf : Nat → Bool → pX} (hd : 6 ≤ d) (hf : SF G l d Q S h0 dp pf) (hk : ∀ a c, a ≤ S.2.2.1.1 → pOk S.2.2.1.1 a (pf a c)) {ctx : cxT} (hl : ctx.length = dp) (hp : popM ctx = ctx) (hm : ∀ v, mirM ctx v = v) (cur : lvT) : ∀ k a c v, a ≤ S.2.2.1.1 → anX (pT S.2.2.1.1 S.2.2.1.2 pf k a c v) (KF Q S h0) (fun r => WK G l d Q S h0 0 (r.1, ctx, (cur.1, cur.2.1, some r.2.2), r.2.1)) → WK G l d Q S h0 0 (a, ctx, (cur.1, cur.2.1, some v), c)
  | 0, a, c, v, _, H => H
  | k + 1, a, c, v, ha, H => by
    have la := zAhd_le (tb := S.2.2.1.2) ha
    rw [pT] at H
    by_cases e : zBy S.2.2.1.1 S.2.2.1.2 (zAhd S.2.2.1.1 S.2.2.1.2 a) = nI 42
    · rw [if_pos e] at H
      have ll := zBy_lt e (by decide)
      rw [zBy_at ll] at e
      refine wk_ah (wk_0 hd ll (ahd_ns ll) (t := v) rfl hp (fun z => ?_) (fun z => ?_) (fun _ => ?_) (fun z => ?_))
      · rw [e] at z; exact absurd z (by decide)
      · rw [e] at z; exact absurd z (by decide)
      · refine hf _ ctx _ c (by omega) hl ?_
        have key := hk (zAhd S.2.2.1.1 S.2.2.1.2 a + 1) c (by omega)
        generalize pf (zAhd S.2.2.1.1 S.2.2.1.2 a + 1) c = x at H key ⊢
        cases x with
        | inl p => exact H
        | inr r =>
          obtain ⟨k1, k2, k3, k4⟩ := key
          show WK G l d Q S h0 0 (finX r.1 ctx (cur.1, cur.2.1, some v) r.2.2 r.2.1)
          rw [fin_p hp hm]
          exact s_T hd hf hk hl hp hm cur k r.1 _ _ k2 H
      · rw [e] at z
        rcases z with z | z
        · exact absurd z.1 (by decide)
        · exact absurd (Or.inr (Or.inr (Or.inr rfl))) z
    · rw [if_neg e] at H
      exact wk_ah H
theorem s_M {dp : Nat} {pf : Nat → Bool → pX} (hd : 6 ≤ d) (hf : SF G l d Q S h0 dp pf) (hk : ∀ a c, a ≤ S.2.2.1.1 → pOk S.2.2.1.1 a (pf a c)) {ctx : cxT} (hl : ctx.length = dp) (hp : popM ctx = ctx) (hm : ∀ v, mirM ctx v = v) {cur : lvT} (hc : cur.2.2 = none) {a : Nat} {c : Bool} (ha : a ≤ S.2.2.1.1) (H : anX (pM S.2.2.1.1 S.2.2.1.2 pf a c) (KF Q S h0) (fun r => WK G l d Q S h0 0 (r.1, ctx, (cur.1, cur.2.1, some r.2.2), r.2.1))) : WK G l d Q S h0 1 (a, ctx, cur, c) := by
  refine hf a ctx cur c ha hl ?_
  have key := hk a c ha
  unfold pM at H
  generalize pf a c = x at H key ⊢
  cases x with
  | inl p => exact H
  | inr r =>
    obtain ⟨k1, k2, k3, k4⟩ := key
    show WK G l d Q S h0 0 (finX r.1 ctx cur r.2.2 r.2.1)
    have ef : finL cur r.2.2 r.2.1 = ((cur.1, cur.2.1, some r.2.2), r.2.1) := by unfold finL; rw [hc]
    rw [fin_p hp hm, ef]
    exact s_T hd hf hk hl hp hm cur _ r.1 r.2.1 r.2.2 k2 H
theorem s_S {dp : Nat} {pf : Nat → Bool → pX} (hd : 6 ≤ d) (hf : SF G l d Q S h0 dp pf) (hk : ∀ a c, a ≤ S.2.2.1.1 → pOk S.2.2.1.1 a (pf a c)) {ctx : cxT} (hl : ctx.length = dp) (hp : popM ctx = ctx) (hm : ∀ v, mirM ctx v = v) : ∀ k a c v (cur : lvT) t c0, a ≤ S.2.2.1.1 → cur.2.2 = some t → sumL cur t c0 = (c, v) → anX (pS S.2.2.1.1 S.2.2.1.2 pf k a c v) (KF Q S h0) (fun r => ∀ (cur2 : lvT) t2 c2, cur2.2.2 = some t2 → sumL cur2 t2 c2 = (r.2.1, r.2.2) → WK G l d Q S h0 0 (r.1, ctx, cur2, c2)) → WK G l d Q S h0 0 (a, ctx, cur, c0)
  | 0, a, c, v, cur, t, c0, _, et, es, H => H cur t c0 et es
  | k + 1, a, c, v, cur, t, c0, ha, et, es, H => by
    have la := zAhd_le (tb := S.2.2.1.2) ha
    rw [pS] at H
    by_cases e : zBy S.2.2.1.1 S.2.2.1.2 (zAhd S.2.2.1.1 S.2.2.1.2 a) = nI 43 ∨ zBy S.2.2.1.1 S.2.2.1.2 (zAhd S.2.2.1.1 S.2.2.1.2 a) = nI 45
    · rw [if_pos e] at H
      have ll : zAhd S.2.2.1.1 S.2.2.1.2 a < S.2.2.1.1 := by
        rcases e with e | e
        · exact zBy_lt e (by decide)
        · exact zBy_lt e (by decide)
      rw [zBy_at ll] at e H
      refine wk_ah (wk_0 hd ll (ahd_ns ll) et hp (fun z => ?_) (fun _ => ?_) (fun z => ?_) (fun z => ?_))
      · rw [z] at e; exact absurd e (by decide)
      · rw [es]
        generalize (if S.2.2.1.2 (zAhd S.2.2.1.1 S.2.2.1.2 a) = nI 43 then nI 1 else -1) = sg at H ⊢
        refine s_M hd hf hk hl hp hm (cur := (some v, sg, none)) rfl (by omega) ?_
        have key := k_M (tb := S.2.2.1.2) hk (zAhd S.2.2.1.1 S.2.2.1.2 a + 1) c (by omega)
        generalize pM S.2.2.1.1 S.2.2.1.2 pf (zAhd S.2.2.1.1 S.2.2.1.2 a + 1) c = x at H key ⊢
        cases x with
        | inl p => exact H
        | inr r =>
          obtain ⟨k1, k2, k3, k4⟩ := key
          exact s_S hd hf hk hl hp hm k r.1 _ _ (some v, sg, some r.2.2) r.2.2 r.2.1 k2 rfl rfl H
      · rw [z] at e; exact absurd e (by decide)
      · rcases z with z | z
        · rw [z.1] at e; exact absurd e (by decide)
        · exact absurd (by rcases e with e | e; exact Or.inr (Or.inl e); exact Or.inr (Or.inr (Or.inl e))) z
    · rw [if_neg e] at H
      exact wk_ah (H cur t c0 et es)
theorem s_U {dp : Nat} {pf : Nat → Bool → pX} (hd : 6 ≤ d) (hf : SF G l d Q S h0 dp pf) (hk : ∀ a c, a ≤ S.2.2.1.1 → pOk S.2.2.1.1 a (pf a c)) {ctx : cxT} (hl : ctx.length = dp) (hp : popM ctx = ctx) (hm : ∀ v, mirM ctx v = v) {a : Nat} {c : Bool} (ha : a ≤ S.2.2.1.1) (H : anX (pU S.2.2.1.1 S.2.2.1.2 pf a c) (KF Q S h0) (fun r => ∀ (cur2 : lvT) t2 c2, cur2.2.2 = some t2 → sumL cur2 t2 c2 = (r.2.1, r.2.2) → WK G l d Q S h0 0 (r.1, ctx, cur2, c2))) : WK G l d Q S h0 1 (a, ctx, (none, 1, none), c) := by
  refine s_M hd hf hk hl hp hm (cur := (none, 1, none)) rfl ha ?_
  have key := k_M (tb := S.2.2.1.2) hk a c ha
  unfold pU at H
  generalize pM S.2.2.1.1 S.2.2.1.2 pf a c = x at H key ⊢
  cases x with
  | inl p => exact H
  | inr r =>
    obtain ⟨k1, k2, k3, k4⟩ := key
    exact s_S hd hf hk hl hp hm _ r.1 r.2.1 r.2.2 (none, 1, some r.2.2) r.2.2 r.2.1 k2 rfl rfl H
theorem s_F {dp : Nat} {nx : Option (Nat → Bool → pX)} (hd : 6 ≤ d) (hcc : ∀ k, k < 8 → c8 (S.1 k) = S.1 k) (hdp : dp < 13) (h12 : nx = none → dp = 12) (hx : ∀ fac, nx = some fac → dp < 12 ∧ SF G l d Q S h0 (dp + 1) fac ∧ ∀ a c, a ≤ S.2.2.1.1 → pOk S.2.2.1.1 a (fac a c)) : SF G l d Q S h0 dp (pF S.2.2.1.1 S.2.2.1.2 S.1 nx) := by
  intro a ctx cur c ha hl H
  have la := zAhd_le (tb := S.2.2.1.2) ha
  refine wk_ah ?_
  unfold pF at H
  by_cases ll : zAhd S.2.2.1.1 S.2.2.1.2 a < S.2.2.1.1
  · rw [zBy_at ll] at H
    have ns := ahd_ns ll
    generalize zAhd S.2.2.1.1 S.2.2.1.2 a = b at *
    refine wk_1 hd ll ns (fun z zl => ?_) (fun z zl => ?_) (fun z => ?_) (fun z zn => ?_) (fun z => ?_)
    · rw [z, if_neg (by decide), if_neg (by decide), if_pos (Or.inl rfl)] at H
      match nx, h12, hx with
      | none, h12, _ => have := h12 rfl; omega
      | some fac, _, hx =>
        obtain ⟨-, hf, -⟩ := hx fac rfl
        refine hf (b + 1) (none :: ctx) cur c (by omega) (by show ctx.length + 1 = dp + 1; omega) ?_
        change anX (if nI 126 = nI 126 then _ else _) _ _ at H
        rw [if_pos rfl] at H
        generalize fac (b + 1) c = x at H ⊢
        cases x with
        | inl p => exact H
        | inr r => exact H
    · rw [z, if_neg (by decide), if_neg (by decide), if_pos (Or.inr rfl)] at H
      match nx, h12, hx with
      | none, h12, _ => have := h12 rfl; omega
      | some fac, _, hx =>
        obtain ⟨-, hf, hk⟩ := hx fac rfl
        change anX (if nI 40 = nI 126 then _ else _) _ _ at H
        rw [if_neg (by decide)] at H
        refine s_U hd hf hk (ctx := some cur :: ctx) (by show ctx.length + 1 = dp + 1; omega) rfl (fun _ => rfl) (by omega) ?_
        have key := k_U (tb := S.2.2.1.2) hk (b + 1) c (by omega)
        have ken := @pU_end S.2.2.1.1 S.2.2.1.2 fac hk (b + 1) c
        generalize pU S.2.2.1.1 S.2.2.1.2 fac (b + 1) c = x at H key ken ⊢
        cases x with
        | inl p => exact H
        | inr r =>
          obtain ⟨k1, k2, k3, k4⟩ := key
          have kn := ken (r := r) (by omega) rfl
          intro cur2 t2 c2 et2 es2
          change anX (if zBy S.2.2.1.1 S.2.2.1.2 (zAhd S.2.2.1.1 S.2.2.1.2 r.1) = nI 41 then _ else _) _ _ at H
          refine wk_ah ?_
          by_cases l2 : zAhd S.2.2.1.1 S.2.2.1.2 r.1 < S.2.2.1.1
          · rw [zBy_at l2] at H kn
            refine wk_0 hd l2 (ahd_ns l2) et2 rfl (fun z r2 cc ec => ?_) (fun z => absurd (Or.inr z) kn) (fun z => absurd (Or.inl z) kn) (fun z => ?_)
            · cases ec
              rw [if_pos z] at H
              rw [es2]
              exact H
            · rw [if_neg (by
                rintro q
                rcases z with z | z
                · cases z.2
                · exact z (Or.inl q))] at H
              exact H
          · have en : zAhd S.2.2.1.1 S.2.2.1.2 r.1 = S.2.2.1.1 := by have := zAhd_le (tb := S.2.2.1.2) k2; omega
            rw [zBy_en l2, if_neg (by decide)] at H
            exact wk_e0 hd en et2 (fun _ => H) (fun z => absurd z (by show ¬ lvl ctx + 1 = 0; omega))
    · rw [if_pos z] at H
      change WK G l d Q S h0 0 (finX (b + 1) ctx cur (c8 (S.1 (ltN (S.2.2.1.2 b)))) c) at H
      rw [hcc _ (lt_eq z.1 z.2).1] at H
      exact H
    · rw [if_neg (fun q => by
        have e1 := Int32.le_iff_toInt_le.mp q.1
        have e2 := Int32.le_iff_toInt_le.mp z.2
        rw [nI_toInt (by decide)] at e1 e2
        omega), if_pos z, if_neg zn] at H
      exact H
    · rcases z with ⟨z, zl⟩ | ⟨z, zn⟩ | z
      · have hn : nx = none := by
          cases nx with
          | none => rfl
          | some fac => have := (hx fac rfl).1; omega
        subst hn
        have e1 : ¬ (nI 97 ≤ S.2.2.1.2 b ∧ S.2.2.1.2 b ≤ nI 104) := by
          rcases z with z | z
          · rw [z]; decide
          · rw [z]; decide
        have e2 : ¬ zDig (S.2.2.1.2 b) := by
          rcases z with z | z
          · rw [z]; decide
          · rw [z]; decide
        rw [if_neg e1, if_neg e2, if_pos z] at H
        exact H
      · rw [if_neg (fun q => by
          have e1 := Int32.le_iff_toInt_le.mp q.1
          have e2 := Int32.le_iff_toInt_le.mp z.2
          rw [nI_toInt (by decide)] at e1 e2
          omega), if_pos z, if_pos zn] at H
        exact H
      · rw [if_neg (fun q => z (Or.inr (Or.inr (Or.inl q)))), if_neg (fun q => z (Or.inr (Or.inr (Or.inr q)))), if_neg (fun q => z (by rcases q with q | q; exact Or.inl q; exact Or.inr (Or.inl q)))] at H
        exact H
  · have en : zAhd S.2.2.1.1 S.2.2.1.2 a = S.2.2.1.1 := by omega
    rw [zBy_en ll, if_neg (by decide), if_neg (by decide), if_neg (by decide)] at H
    exact wk_e1 en H
theorem s_Fc (hd : 6 ≤ d) (hcc : ∀ k, k < 8 → c8 (S.1 k) = S.1 k) (hb : ∀ k, k < 8 → zBd (S.1 k)) : ∀ f, f ≤ 12 → SF G l d Q S h0 (12 - f) (pFc S.2.2.1.1 S.2.2.1.2 S.1 f)
  | 0, _ => s_F hd hcc (by decide) (fun _ => rfl) (fun fac e => by cases e)
  | f + 1, hf => by
    have ih := s_Fc hd hcc hb f (by omega)
    refine s_F hd hcc (by omega) (fun e => by cases e) (fun fac e => ?_)
    cases e
    exact ⟨by omega, by rw [show 12 - (f + 1) + 1 = 12 - f by omega]; exact ih, k_Fc hb f⟩
theorem m_works (hd : 6 ≤ d) (hR : RM h S) (hby : ∀ j, j < S.2.2.1.1 → ¬ S.2.2.1.2 j = -1) (K : anX (pRd S.2.2.1.1 S.2.2.1.2 S.1) (KF Q S h) (fun r => ∀ h2, RM h2 S → cF h h2 → (h2.1 110).2.2 27 = .int (cnI r.2.1) → pl h2 24 = r.2.2 → Q (some (.int (-1))) h2)) : xCt G l mX12_works d [.ref 110] h 0 0 Q := by
  have hcc : ∀ k, k < 8 → c8 (S.1 k) = S.1 k := fun k hk => hR.cc hk
  have hb : ∀ k, k < 8 → zBd (S.1 k) := fun k hk => by rw [← hR.p hk]; exact hR.b k (by omega)
  have main : WK G l d Q S h 1 (0, [], (none, 1, none), true) := by
    have hk := k_Fc (n := S.2.2.1.1) (tb := S.2.2.1.2) hb 12
    refine s_U hd (s_Fc hd hcc hb 12 (Nat.le_refl _)) hk (ctx := []) rfl rfl (fun _ => rfl) (Nat.zero_le _) ?_
    have key := k_U (tb := S.2.2.1.2) hk 0 true (Nat.zero_le _)
    have ken := @pU_end S.2.2.1.1 S.2.2.1.2 (pFc S.2.2.1.1 S.2.2.1.2 S.1 12) hk 0 true
    unfold pRd at K
    generalize pU S.2.2.1.1 S.2.2.1.2 (pFc S.2.2.1.1 S.2.2.1.2 S.1 12) 0 true = x at K key ken ⊢
    cases x with
    | inl p => exact K
    | inr r =>
      obtain ⟨k1, k2, k3, k4⟩ := key
      have kn := ken (r := r) (Nat.zero_le _) rfl
      intro cur2 t2 c2 et2 es2
      change anX (if zBy S.2.2.1.1 S.2.2.1.2 (zAhd S.2.2.1.1 S.2.2.1.2 r.1) = -1 then _ else _) _ _ at K
      refine wk_ah ?_
      by_cases l2 : zAhd S.2.2.1.1 S.2.2.1.2 r.1 < S.2.2.1.1
      · rw [zBy_at l2] at kn
        refine wk_0 hd l2 (ahd_ns l2) et2 rfl (fun z r2 cc ec => by cases ec) (fun z => absurd (Or.inr z) kn) (fun z => absurd (Or.inl z) kn) (fun z => ?_)
        rw [zBy_at l2, if_neg (hby _ l2)] at K
        exact K
      · have en : zAhd S.2.2.1.1 S.2.2.1.2 r.1 = S.2.2.1.1 := by have := zAhd_le (tb := S.2.2.1.2) k2; omega
        rw [zBy_en l2, if_pos rfl] at K
        refine wk_e0 hd en et2 (fun z => absurd rfl z) (fun _ h2 w2 cf2 => ?_)
        rw [es2] at w2
        exact K h2 w2.1 cf2 w2.2.2.2.2.1 (w2.2.2.2.2.2.2.2.2.2.2.2.1 _ rfl)
  have hC := hR.1
  refine xCt_of (by decide) (Nat.le_of_ble_eq_true rfl) ?_
  have hC1 := hC.setF (ci := 12) (a := 110) (kf := 25) (v := .int (nI 0)) rfl NF_110_25 (by decide)
  obtain ⟨a1, a2, a3, a4, a5, a6⟩ := mW.f (P := fun _ => True) hR hC1 (by decide)
  refine x_aload_n (i := 0) dX12_works_0 rfl rfl rfl ?_
  refine x_iconst dX12_works_1 rfl iC_0 ?_
  refine x_putC (a := 110) dX12_works_2 rfl fX12_286 (fun q hq => by cases hq; rfl) hC rfl ⟨rfl, rfl⟩ ?_
  show xWP G l mX12_works d (zM G Q) 0 0 5 _ [] (hs h 110 (112, 0, updV (h.1 110).2.2 25 (.int (nI 0))))
  generalize hs h 110 (112, 0, updV (h.1 110).2.2 25 (.int (nI 0))) = h1 at hC1 a1 a2 a3 a4 a5 a6 ⊢
  have hC := hC1
  have hC2 := hC.setF (ci := 12) (a := 110) (kf := 26) (v := .int (nI 0)) rfl NF_110_26 (by decide)
  obtain ⟨b1, b2, b3, b4, b5, b6⟩ := mW.f (P := fun _ => True) a1 hC2 (by decide)
  refine x_aload_n (i := 0) dX12_works_5 rfl rfl rfl ?_
  refine x_iconst dX12_works_6 rfl iC_0 ?_
  refine x_putC (a := 110) dX12_works_7 rfl fX12_289 (fun q hq => by cases hq; rfl) hC rfl ⟨rfl, rfl⟩ ?_
  show xWP G l mX12_works d (zM G Q) 0 0 10 _ [] (hs h1 110 (112, 0, updV (h1.1 110).2.2 26 (.int (nI 0))))
  generalize hs h1 110 (112, 0, updV (h1.1 110).2.2 26 (.int (nI 0))) = h2 at hC2 b1 b2 b3 b4 b5 b6 ⊢
  have hC := hC2
  have w3 := hC.z (a := 126) rfl
  have hC3 := hC.setI (f := upd (iv h2 126) 0 (nI 0)) w3 (Or.inr (Or.inl rfl)) (by decide)
  obtain ⟨e1, e2, e3, e4, e5, e6⟩ := mW.i b1 hC3 (Or.inr (Or.inl rfl))
  refine x_aload_n (i := 0) dX12_works_10 rfl rfl rfl ?_
  refine x_getC dX12_works_11 rfl fX12_65 hC rfl F_110_22 ?_
  refine x_iconst dX12_works_14 rfl iC_0 ?_
  refine x_iconst dX12_works_15 rfl iC_0 ?_
  refine x_zast dX12_works_16 rfl w3 (show nI 0 = nI 0 from rfl) (show 0 < 13 by decide) (by decide) (by decide) ?_
  show xWP G l mX12_works d (zM G Q) 0 0 17 _ [] (hs h2 126 (2, 13, xI (upd (iv h2 126) 0 (nI 0))))
  generalize hs h2 126 (2, 13, xI (upd (iv h2 126) 0 (nI 0))) = h3 at hC3 e1 e2 e3 e4 e5 e6 ⊢
  have hC := hC3
  have w4 := hC.z (a := 127) rfl
  have hC4 := hC.setI (f := upd (iv h3 127) 0 (nI 0)) w4 (Or.inr (Or.inl rfl)) (by decide)
  obtain ⟨f1, f2, f3, f4, f5, f6⟩ := mW.i e1 hC4 (Or.inr (Or.inr (Or.inl rfl)))
  refine x_aload_n (i := 0) dX12_works_17 rfl rfl rfl ?_
  refine x_getC dX12_works_18 rfl fX12_68 hC rfl F_110_23 ?_
  refine x_iconst dX12_works_21 rfl iC_0 ?_
  refine x_iconst dX12_works_22 rfl iC_0 ?_
  refine x_zast dX12_works_23 rfl w4 (show nI 0 = nI 0 from rfl) (show 0 < 13 by decide) (by decide) (by decide) ?_
  show xWP G l mX12_works d (zM G Q) 0 0 24 _ [] (hs h3 127 (2, 13, xI (upd (iv h3 127) 0 (nI 0))))
  generalize hs h3 127 (2, 13, xI (upd (iv h3 127) 0 (nI 0))) = h4 at hC4 f1 f2 f3 f4 f5 f6 ⊢
  have hC := hC4
  have w5 := hC.v (a := 128) rfl
  have hC5 := hC.setI (f := upd (iv h4 128) 0 (nI 1)) w5 (Or.inl rfl) (by decide)
  obtain ⟨g1, g2, g3, g4, g5, g6⟩ := mW.i f1 hC5 (Or.inr (Or.inr (Or.inr rfl)))
  refine x_aload_n (i := 0) dX12_works_24 rfl rfl rfl ?_
  refine x_getC dX12_works_25 rfl fX12_71 hC rfl F_110_24 ?_
  refine x_iconst dX12_works_28 rfl iC_0 ?_
  refine x_iconst dX12_works_29 rfl iC_1 ?_
  refine x_iast dX12_works_30 rfl w5 (show nI 0 = nI 0 from rfl) (show 0 < 13 by decide) (by decide) ?_
  show xWP G l mX12_works d (zM G Q) 0 0 31 _ [] (hs h4 128 (0, 13, xI (upd (iv h4 128) 0 (nI 1))))
  generalize hs h4 128 (0, 13, xI (upd (iv h4 128) 0 (nI 1))) = h5 at hC5 g1 g2 g3 g4 g5 g6 ⊢
  have hC := hC5
  have hC6 := hC.setF (ci := 12) (a := 110) (kf := 27) (v := .int (nI 1)) rfl NF_110_27 (by decide)
  obtain ⟨i1, i2, i3, i4, i5, i6⟩ := mW.f (P := fun _ => True) g1 hC6 (by decide)
  refine x_aload_n (i := 0) dX12_works_31 rfl rfl rfl ?_
  refine x_iconst dX12_works_32 rfl iC_1 ?_
  refine x_putC (a := 110) dX12_works_33 rfl fX12_292 (fun q hq => by cases hq; rfl) hC rfl ⟨rfl, rfl⟩ ?_
  show xWP G l mX12_works d (zM G Q) 0 0 36 _ [] (hs h5 110 (112, 0, updV (h5.1 110).2.2 27 (.int (nI 1))))
  generalize hs h5 110 (112, 0, updV (h5.1 110).2.2 27 (.int (nI 1))) = h6 at hC6 i1 i2 i3 i4 i5 i6 ⊢
  have hC := hC6
  have hC7 := hC.setF (ci := 12) (a := 110) (kf := 28) (v := .int (nI 0)) rfl NF_110_28 (by decide)
  obtain ⟨j1, j2, j3, j4, j5, j6⟩ := mW.f (P := fun _ => True) i1 hC7 (by decide)
  refine x_aload_n (i := 0) dX12_works_36 rfl rfl rfl ?_
  refine x_iconst dX12_works_37 rfl iC_0 ?_
  refine x_putC (a := 110) dX12_works_38 rfl fX12_298 (fun q hq => by cases hq; rfl) hC rfl ⟨rfl, rfl⟩ ?_
  show xWP G l mX12_works d (zM G Q) 0 0 41 _ [] (hs h6 110 (112, 0, updV (h6.1 110).2.2 28 (.int (nI 0))))
  generalize hs h6 110 (112, 0, updV (h6.1 110).2.2 28 (.int (nI 0))) = h7 at hC7 j1 j2 j3 j4 j5 j6 ⊢
  have hC := hC7
  refine x_iconst dX12_works_41 rfl iC_1 ?_
  refine x_istore_n (i := 1) dX12_works_42 rfl rfl (by decide) ?_
  have us : ∀ (g : Nat → Int32) (m : Nat) (v : Int32), upd g m v m = v := fun g m v => by unfold upd; rw [if_pos rfl]
  have k0 : h5.1 110 = h2.1 110 := g3.trans (f3.trans e3)
  have e6 : iv h7 126 = upd (iv h2 126) 0 (nI 0) := by rw [j5 126 (by decide), i5 126 (by decide), g5 126 (by decide), f5 126 (by decide), e4]
  have e7 : iv h7 127 = upd (iv h3 127) 0 (nI 0) := by rw [j5 127 (by decide), i5 127 (by decide), g5 127 (by decide), f4]
  have e8 : iv h7 128 = upd (iv h4 128) 0 (nI 1) := by rw [j5 128 (by decide), i5 128 (by decide), g4]
  refine x_to (main h7 ⟨j1, j3, ?_, ?_, ?_, Nat.zero_le _, trivial, ?_, ?_, Or.inl rfl, ?_, (fun f hf => by cases hf), (fun f hf => by cases hf)⟩ (cF.sm hC7 ((((((a2.tr b2).tr e2).tr f2).tr g2).tr i2).tr j2) (by simp))) ⟨rfl, rfl, trivial⟩
  · show (h7.1 110).2.2 25 = .int (nI 0)
    rw [j4 25 (by decide), i4 25 (by decide), k0, b4 25 (by decide)]
    exact a3
  · show (h7.1 110).2.2 26 = .int (nI 0)
    rw [j4 26 (by decide), i4 26 (by decide), k0]
    exact b3
  · show (h7.1 110).2.2 27 = .int (nI 1)
    rw [j4 27 (by decide)]
    exact i3
  · show iv h7 126 0 = nI 0
    rw [e6, us]
  · show iv h7 127 0 = nI 0
    rw [e7, us]
  · show iv h7 128 0 = 1
    rw [e8, us]
    rfl
theorem n_work {a : Int32} (hd : 10 ≤ d) (hR : RM h S) (hby : ∀ j, j < S.2.2.1.1 → ¬ S.2.2.1.2 j = -1) (K : ∀ r S2 h2, sp_work S a = (r, S2) → RM h2 S2 → cF h h2 → Q (some (.int r)) h2) : xCt G l mX12_work d [.ref 110, .int a] h 0 0 Q := by
  have hC := hR.1
  have n200 : S.2.2.1.1 ≤ 200 := hR.2.2.2.2.2.2.1.1
  have bS : ∀ k, k < 8 → zBd (S.1 k) := fun k hk => by rw [← hR.p hk]; exact hR.b k (by omega)
  refine xCt_of (by decide) (Nat.le_of_ble_eq_true rfl) ?_
  refine x_iload_n (i := 1) dX12_work_0 rfl rfl rfl ?_
  refine x_callS0 (As := [_]) (d2 := d - 1) dX12_work_1 rfl kX12_165 okX12_isSlot (by omega) rfl rfl (Nat.le_of_ble_eq_true rfl) (m_isSlot (by omega) (fun z => ?_) (fun t ht et qt => ?_))
  · refine x_if_ne_f (tgt := 9) dX12_work_4 rfl rfl nI_0 ?_
    refine x_iconst dX12_work_7 rfl iC_m1 ?_
    refine x_ireturn dX12_work_8 rfl rfl ?_
    exact K _ _ _ (by simp only [sp_work, z]) hR (cF.rf hC)
  subst et
  have kr := k_Rd (n := S.2.2.1.1) (tb := S.2.2.1.2) bS
  have en : sp_work S (nI t) = match pRd S.2.2.1.1 S.2.2.1.2 S.1 with
    | .inl p => (-4 - nI p, sTp S (0, S.2.2.1.2))
    | .inr r => if r.2.1 then (1, sSet (sTp S (0, S.2.2.1.2)) t r.2.2) else (-2, sTp S (0, S.2.2.1.2)) := by simp only [sp_work, qt] <;> rfl
  -- the tape is empty then
  have tp : ∀ h2, RM h2 S → cF h h2 → ∀ (hC3 : Cs (hs h2 110 (112, 0, updV (h2.1 110).2.2 20 (.int (nI 0))))), RM (hs h2 110 (112, 0, updV (h2.1 110).2.2 20 (.int (nI 0)))) (sTp S (0, S.2.2.1.2)) ∧ cF h (hs h2 110 (112, 0, updV (h2.1 110).2.2 20 (.int (nI 0)))) := by
    intro h2 r2 c2 hC3
    obtain ⟨k1, k2⟩ := r2.tape (t := (0, S.2.2.1.2)) hC3 (xSm.hs1.sub (by simp)) (fun q hq => fv_ne hq) ⟨Nat.zero_le _, fv_eq, fun j hj => absurd hj (Nat.not_lt_zero j)⟩
    exact ⟨k1, c2.tr k2⟩
  refine x_if_ne_t (tgt := 9) dX12_work_4 rfl nb1 ?_
  refine x_aload_n (i := 0) dX12_work_9 rfl rfl rfl ?_
  refine x_callV0 (ci := 12) (b := 110) (As := []) (d2 := d - 1) dX12_work_10 rfl kX12_321 okX12_works (hC.o rfl) (fun q hq => by cases hq; rfl) (by omega) rfl rfl (Nat.le_of_ble_eq_true rfl) (m_works (by omega) hR hby ?_)
  generalize pRd S.2.2.1.1 S.2.2.1.2 S.1 = x at kr en ⊢
  cases x with
  | inl p =>
    have p200 : p ≤ S.2.2.1.1 := kr
    unfold anX KF
    intro h2 r2 c2
    have hC := r2.1
    have hC3 := hC.setF (ci := 12) (a := 110) (kf := 20) (v := .int (nI 0)) rfl NF_110_20 (by decide)
    obtain ⟨k1, k2⟩ := tp h2 r2 c2 hC3
    refine x_istore_n (i := 2) dX12_work_13 rfl rfl (by decide) ?_
    refine x_aload_n (i := 0) dX12_work_14 rfl rfl rfl ?_
    refine x_iconst dX12_work_15 rfl iC_0 ?_
    refine x_putC (a := 110) dX12_work_16 rfl fX12_283 (fun q hq => by cases hq; rfl) hC rfl ⟨rfl, rfl⟩ ?_
    refine x_iload_n (i := 2) dX12_work_19 rfl rfl rfl ?_
    refine x_iconst dX12_work_20 rfl iC_m1 ?_
    refine x_ic_eq_f (tgt := 31) dX12_work_21 rfl rfl (nI_m1 (by omega)) ?_
    refine x_bipush dX12_work_24 rfl bC_m4 ?_
    refine x_iload_n (i := 2) dX12_work_26 rfl rfl rfl ?_
    refine x_isub dX12_work_27 rfl ?_
    refine x_goto (tgt := 42) dX12_work_28 rfl ?_
    refine x_ireturn dX12_work_42 rfl rfl ?_
    exact K _ _ _ en k1 k2
  | inr r =>
    obtain ⟨b1, b2, b3⟩ := kr
    unfold anX
    intro h2 r2 c2 f27 p24
    have hC := r2.1
    have hC3 := hC.setF (ci := 12) (a := 110) (kf := 20) (v := .int (nI 0)) rfl NF_110_20 (by decide)
    obtain ⟨k1, k2⟩ := tp h2 r2 c2 hC3
    have g27 : ((hs h2 110 (112, 0, updV (h2.1 110).2.2 20 (.int (nI 0)))).1 110).2.2 27 = .int (cnI r.2.1) := (fv_ne (by decide)).trans f27
    have g24 : pl (hs h2 110 (112, 0, updV (h2.1 110).2.2 20 (.int (nI 0)))) 24 = r.2.2 := by
      unfold pl at p24 ⊢
      rw [iv_n (by decide)]
      exact p24
    refine x_istore_n (i := 2) dX12_work_13 rfl rfl (by decide) ?_
    refine x_aload_n (i := 0) dX12_work_14 rfl rfl rfl ?_
    refine x_iconst dX12_work_15 rfl iC_0 ?_
    refine x_putC (a := 110) dX12_work_16 rfl fX12_283 (fun q hq => by cases hq; rfl) hC rfl ⟨rfl, rfl⟩ ?_
    show xWP G l mX12_work d (zM G Q) 0 0 19 _ [] (hs h2 110 (112, 0, updV (h2.1 110).2.2 20 (.int (nI 0))))
    generalize hs h2 110 (112, 0, updV (h2.1 110).2.2 20 (.int (nI 0))) = h3 at hC3 k1 k2 g27 g24 ⊢
    have hC := hC3
    refine x_iload_n (i := 2) dX12_work_19 rfl rfl rfl ?_
    refine x_iconst dX12_work_20 rfl iC_m1 ?_
    refine x_ic_eq_t (tgt := 31) dX12_work_21 rfl rfl ?_
    refine x_aload_n (i := 0) dX12_work_31 rfl rfl rfl ?_
    refine x_aload_n (i := 0) dX12_work_32 rfl rfl rfl ?_
    refine x_getM (a := 110) dX12_work_33 rfl fX12_292 hC rfl g27 ?_
    refine x_iload_n (i := 1) dX12_work_36 rfl rfl rfl ?_
    refine x_bipush dX12_work_37 rfl bC_24 ?_
    cases hh : r.2.1 with
    | true =>
      refine x_callV0 (ci := 12) (b := 110) (As := [_, _, _]) (d2 := d - 1) dX12_work_39 rfl kX12_213 okX12_ends (hC.o rfl) (fun q hq => by cases hq; rfl) (by omega) rfl rfl (Nat.le_of_ble_eq_true rfl) (m_ends1 (by omega) hC (by omega) (x := 24) (by decide) (fun h4 m4 e4 => ?_))
      refine x_ireturn dX12_work_42 rfl rfl ?_
      refine K _ _ _ ?_ (k1.set (z := r.2.2) ht m4 (by simp) (by simp) (by rw [e4, g24, b3])) (k2.tr (m4.c (by simp)))
      rw [en]
      show (if r.2.1 then _ else _) = _
      rw [hh]
      rfl
    | false =>
      refine x_callV0 (ci := 12) (b := 110) (As := [_, _, _]) (d2 := d - 1) dX12_work_39 rfl kX12_213 okX12_ends (hC.o rfl) (fun q hq => by cases hq; rfl) (by omega) rfl rfl (Nat.le_of_ble_eq_true rfl) (m_ends0 (by omega) ?_)
      refine x_ireturn dX12_work_42 rfl rfl ?_
      refine K _ _ _ ?_ k1 k2
      rw [en]
      show (if r.2.1 then _ else _) = _
      rw [hh]
      rfl
end MOD

