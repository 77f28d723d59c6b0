/-! EightPartsModel: factors, sums -/
def popM : cxT → cxT
  | [] => []
  | none :: c => popM c
  | some r :: c => some r :: c
def mirM : cxT → (Nat → Int32) → (Nat → Int32)
  | [], v => v
  | none :: c, v => mirM c (c8 (zMir v))
  | some _ :: _, v => v
noncomputable def finL (cur : lvT) (v : Nat → Int32) (c : Bool) : lvT × Bool := match cur.2.2 with
  | none => ((cur.1, cur.2.1, some v), c)
  | some t => ((cur.1, cur.2.1, some (pMy c t (oMul t v)).2), (pMy c t (oMul t v)).1)
noncomputable def finX (a : Nat) (ctx : cxT) (cur : lvT) (v : Nat → Int32) (c : Bool) : wkT := (a, popM ctx, (finL cur (mirM ctx v) c).1, (finL cur (mirM ctx v) c).2)
noncomputable def sumL (cur : lvT) (t : Nat → Int32) (c : Bool) : Bool × (Nat → Int32) := match cur.1 with
  | none => (c, t)
  | some s => pMy c s (oAdd s t cur.2.1)
section MOD
variable {G : xG} {l : Launch} {d : Nat} {h : xH} {Q : Option Value → xH → Prop} {S : St}
/-- the end of factors: the term is there -/
theorem w_facE {a : Nat} {ctx : cxT} {cur : lvT} {c c2 : Bool} {v : Nat → Int32} {h0 : xH} (hR : RM h S) (f28 : (h.1 110).2.2 28 = .int (nI a)) (f25 : (h.1 110).2.2 25 = .int (nI ctx.length)) (f26 : (h.1 110).2.2 26 = .int (nI (lvl ctx))) (f27 : (h.1 110).2.2 27 = .int (cnI c2)) (hl : ctx.length ≤ 12) (hx : cxOk h ctx) (e6 : iv h 126 (lvl ctx) = bO cur.1) (hs1 : cur.2.1 = 1 ∨ cur.2.1 = -1) (e8 : iv h 128 (lvl ctx) = cur.2.1) (p4 : ∀ f, cur.1 = some f → pl h (24 + lvl ctx) = f) (p7 : pl h (37 + lvl ctx) = v) (hcf : cF h0 h)
    (K : ∀ h2, mW h2 S (a, ctx, (cur.1, cur.2.1, some v), c2) → cF h0 h2 → Q none h2) : xWP G l mX12_factors d (zM G Q) 0 0 96 (xls [(0, .ref 110)]) [] h := by
  have hC := hR.1
  have ll := lvl_le ctx
  have v7 := hC.z (a := 127) rfl
  have hC5 := hC.setI (f := upd (iv h 127) (lvl ctx) (nI 1)) v7 (Or.inr (Or.inl rfl)) (by decide)
  obtain ⟨j1, j2, j3, j4, j5, j6⟩ := mW.i hR hC5 (Or.inr (Or.inr (Or.inl rfl)))
  refine x_aload_n (i := 0) dX12_factors_96 rfl rfl rfl ?_
  refine x_getC dX12_factors_97 rfl fX12_68 hC rfl F_110_23 ?_
  refine x_aload_n (i := 0) dX12_factors_100 rfl rfl rfl ?_
  refine x_getM (a := 110) dX12_factors_101 rfl fX12_289 hC rfl f26 ?_
  refine x_iconst dX12_factors_104 rfl iC_1 ?_
  refine x_zast dX12_factors_105 rfl v7 rfl (by omega) (by decide) (by decide) ?_
  show xWP G l mX12_factors d (zM G Q) 0 0 106 _ [] (hs h 127 (2, 13, xI (upd (iv h 127) (lvl ctx) (nI 1))))
  generalize hs h 127 (2, 13, xI (upd (iv h 127) (lvl ctx) (nI 1))) = h5 at hC5 j1 j2 j3 j4 j5 j6 ⊢
  refine x_return dX12_factors_106 rfl ?_
  have un : ∀ j, j ≠ lvl ctx → iv h5 127 j = iv h 127 j := fun j hj => by rw [j4]; unfold upd; rw [if_neg hj]
  refine K h5 ⟨j1, by rw [j3]; exact f28, by rw [j3]; exact f25, by rw [j3]; exact f26, by rw [j3]; exact f27, hl, ?_, ?_⟩ (hcf.tr (cF.sm hC5 j2 (by simp)))
  · exact cxOk.kp _ hx (fun j _ => by rw [j5 125 (by decide)]) (fun j hj => by
      have hj' : j < lvl ctx := hj
      exact ⟨by rw [j5 126 (by decide)], un j (by omega), by rw [j5 128 (by decide)], j6 _, j6 _⟩)
  · refine ⟨?_, ?_, hs1, ?_, fun f hf => ?_, fun f hf => ?_⟩
    · show iv h5 126 (lvl ctx) = _
      rw [j5 126 (by decide)]
      exact e6
    · show iv h5 127 (lvl ctx) = nI 1
      rw [j4]
      unfold upd
      rw [if_pos rfl]
    · show iv h5 128 (lvl ctx) = _
      rw [j5 128 (by decide)]
      exact e8
    · show pl h5 (24 + lvl ctx) = f
      rw [j6]
      exact p4 f hf
    · show pl h5 (37 + lvl ctx) = f
      rw [j6, p7]
      exact Option.some.inj hf
theorem m_factors {a x : Nat} {ctx : cxT} {cur : lvT} {c : Bool} {v : Nat → Int32} (hd : 3 ≤ d) (hw : mW h S (a, ctx, cur, c)) (hx : x < 155) (hv : pl h x = v) (K : ∀ h2, mW h2 S (finX a ctx cur v c) → cF h h2 → Q none h2) : xCt G l mX12_factors d [.ref 110, .int (nI x)] h 0 0 Q := by
  have hC := hw.1.1
  refine xCt_of (by decide) (Nat.le_of_ble_eq_true rfl) ?_
  -- behind the mirrors
  have beh : ∀ ctx1 v1 h1, mW h1 S (a, ctx1, cur, c) → cF h h1 → pl h1 11 = v1 → popM ctx1 = ctx1 → finX a ctx1 cur v1 c = finX a ctx cur v c → xWP G l mX12_factors d (zM G Q) 0 0 50 (xls [(0, .ref 110)]) [] h1 := by
    intro ctx1 v1 h1 hw1 c1 p1 hp e1
    rw [← e1] at K
    have em : mirM ctx1 v1 = v1 := by
      match ctx1, hp with
      | [], _ => rfl
      | some _ :: _, _ => rfl
      | none :: cc, hp =>
        exfalso
        have : ∀ q : cxT, (popM q).length ≤ q.length := by
          intro q
          induction q with
          | nil => exact Nat.le_refl _
          | cons z q ih =>
            cases z with
            | none => show (popM q).length ≤ q.length + 1; omega
            | some r => exact Nat.le_refl _
        have h2 := this cc
        have h3 : (popM cc).length = cc.length + 1 := by
          have : popM cc = none :: cc := hp
          rw [this]
          rfl
        omega
    unfold finX at K
    rw [hp, em] at K
    obtain ⟨w1, w2, w3, w4, w5, w6, w7, w8⟩ := hw1
    obtain ⟨l1, l2, l3, l4, l5, l6⟩ := w8
    change (h1.1 110).2.2 28 = .int (nI a) at w2
    change (h1.1 110).2.2 25 = .int (nI ctx1.length) at w3
    change (h1.1 110).2.2 26 = .int (nI (lvl ctx1)) at w4
    change (h1.1 110).2.2 27 = .int (cnI c) at w5
    change ctx1.length ≤ 12 at w6
    change cxOk h1 ctx1 at w7
    have ll := lvl_le ctx1
    have hC := w1.1
    have v7 := hC.z (a := 127) rfl
    -- places other than the term are as they were
    have fr : ∀ h2, mV [37 + lvl ctx1] [113] h1 h2 → cxOk h2 ctx1 ∧ h2.1 110 = h1.1 110 ∧ (∀ q, q ≠ 112 → q ≠ 113 → iv h2 q = iv h1 q) ∧ RM h2 S ∧ cF h h2 ∧ ∀ f, cur.1 = some f → pl h2 (24 + lvl ctx1) = f := by
      intro h2 m2
      have i : ∀ q, q ≠ 112 → q ≠ 113 → iv h2 q = iv h1 q := fun q q1 q2 => m2.2.1.iv (by simp <;> omega)
      refine ⟨cxOk.kp _ w7 (fun j _ => by rw [i 125 (by decide) (by decide)]) (fun j hj => ⟨by rw [i 126 (by decide) (by decide)], by rw [i 127 (by decide) (by decide)], by rw [i 128 (by decide) (by decide)], m2.pp (by omega) (by simp <;> omega), m2.pp (by omega) (by simp <;> omega)⟩), m2.2.1.2 110 (by decide), i, w1.sc m2 (by simp <;> omega) (by simp [mN]), c1.tr (m2.c (by simp)), fun f hf => ?_⟩
      rw [m2.pp (by omega) (by simp <;> omega)]
      exact l5 f hf
    refine x_bipush dX12_factors_50 rfl bC_37 ?_
    refine x_aload_n (i := 0) dX12_factors_52 rfl rfl rfl ?_
    refine x_getM (a := 110) dX12_factors_53 rfl fX12_289 hC rfl w4 ?_
    refine x_iadd dX12_factors_56 rfl ?_
    rw [show nI 37 + nI (lvl ctx1) = nI (37 + lvl ctx1) from nI_add _ _]
    refine x_istore_n (i := 2) dX12_factors_57 rfl rfl (by decide) ?_
    refine x_aload_n (i := 0) dX12_factors_58 rfl rfl rfl ?_
    refine x_getC dX12_factors_59 rfl fX12_68 hC rfl F_110_23 ?_
    refine x_aload_n (i := 0) dX12_factors_62 rfl rfl rfl ?_
    refine x_getM (a := 110) dX12_factors_63 rfl fX12_289 hC rfl w4 ?_
    refine x_zald dX12_factors_66 rfl v7 rfl (by omega) (by decide) ?_
    rw [show iv h1 127 (lvl ctx1) = bO cur.2.2 from l2]
    cases et : cur.2.2 with
    | none =>
      have ef : finL cur v1 c = ((cur.1, cur.2.1, some v1), c) := by unfold finL; rw [et]
      rw [ef] at K
      refine x_if_ne_f (tgt := 80) dX12_factors_67 rfl rfl nI_0 ?_
      refine x_aload_n (i := 0) dX12_factors_70 rfl rfl rfl ?_
      refine x_iload_n (i := 2) dX12_factors_71 rfl rfl rfl ?_
      refine x_bipush dX12_factors_72 rfl bC_11 ?_
      refine x_callV0 (ci := 12) (b := 110) (As := [_, _]) (d2 := d - 1) dX12_factors_74 rfl kX12_182 okX12_becomes (hC.o rfl) (fun q hq => by cases hq; rfl) (by omega) rfl rfl (Nat.le_of_ble_eq_true rfl) (m_becomes hC (by omega) (x := 11) (by decide) (fun h2 m2 e2 => ?_))
      obtain ⟨a1, a2, a3, a4, a5, a6⟩ := fr h2 (m2.sub (by simp) (by simp))
      refine x_goto (tgt := 96) dX12_factors_77 rfl ?_
      exact x_to (w_facE (cur := cur) (c := c) a4 (by rw [a2]; exact w2) (by rw [a2]; exact w3) (by rw [a2]; exact w4) (by rw [a2]; exact w5) w6 a1 (by rw [a3 126 (by decide) (by decide)]; exact l1) l3 (by rw [a3 128 (by decide) (by decide)]; exact l4) a6 (by rw [e2, p1]) a5 K) ⟨rfl, trivial⟩
    | some t =>
      have ef : finL cur v1 c = ((cur.1, cur.2.1, some (pMy c t (oMul t v1)).2), (pMy c t (oMul t v1)).1) := by unfold finL; rw [et]
      rw [ef] at K
      have pt : pl h1 (37 + lvl ctx1) = t := l6 t et
      have et8 : c8 t = t := by rw [← pt, pl_c8]
      have ev8 : c8 v1 = v1 := by rw [← p1, pl_c8]
      refine x_if_ne_t (tgt := 80) dX12_factors_67 rfl nb1 ?_
      refine x_aload_n (i := 0) dX12_factors_80 rfl rfl rfl ?_
      refine x_iload_n (i := 2) dX12_factors_81 rfl rfl rfl ?_
      refine x_iload_n (i := 2) dX12_factors_82 rfl rfl rfl ?_
      refine x_bipush dX12_factors_83 rfl bC_11 ?_
      refine x_callV0 (ci := 12) (b := 110) (As := [_, _, _]) (d2 := d - 1) dX12_factors_85 rfl kX12_197 okX12_multiplies (hC.o rfl) (fun q hq => by cases hq; rfl) (by omega) rfl rfl (Nat.le_of_ble_eq_true rfl) (m_mulE (by omega) hC w1.b (t := 37 + lvl ctx1) (x := 37 + lvl ctx1) (y := 11) (by omega) (by omega) (by decide) (by rw [pt, et8]) (by rw [p1, ev8]) (fun z g1 h2 m2 e2 => ?_) (fun g1 h2 m2 => ?_))
      · obtain ⟨a1, a2, a3, a4, a5, a6⟩ := fr h2 m2
        rw [g1] at K
        refine x_if_ne_t (tgt := 96) dX12_factors_88 rfl nb1 ?_
        exact x_to (w_facE (cur := cur) (c := c) a4 (by rw [a2]; exact w2) (by rw [a2]; exact w3) (by rw [a2]; exact w4) (by rw [a2]; exact w5) w6 a1 (by rw [a3 126 (by decide) (by decide)]; exact l1) l3 (by rw [a3 128 (by decide) (by decide)]; exact l4) a6 e2 a5 K) ⟨rfl, trivial⟩
      · obtain ⟨a1, a2, a3, a4, a5, a6⟩ := fr h2 (m2.sub (by simp) (by simp))
        have hC := a4.1
        rw [g1] at K
        have hC2 := hC.setF (ci := 12) (a := 110) (kf := 27) (v := .int (nI 0)) rfl NF_110_27 (by decide)
        obtain ⟨d1, d2, d3, d4, d5, d6⟩ := mW.f (P := fun _ => True) a4 hC2 (by decide)
        refine x_if_ne_f (tgt := 96) dX12_factors_88 rfl rfl nI_0 ?_
        refine x_aload_n (i := 0) dX12_factors_91 rfl rfl rfl ?_
        refine x_iconst dX12_factors_92 rfl iC_0 ?_
        refine x_putC (a := 110) dX12_factors_93 rfl fX12_292 (fun q hq => by cases hq; rfl) hC rfl ⟨rfl, rfl⟩ ?_
        show xWP G l mX12_factors d (zM G Q) 0 0 96 _ [] (hs h2 110 (112, 0, updV (h2.1 110).2.2 27 (.int (nI 0))))
        generalize hs h2 110 (112, 0, updV (h2.1 110).2.2 27 (.int (nI 0))) = h3 at hC2 d1 d2 d3 d4 d5 d6 ⊢
        refine x_to (w_facE (cur := cur) (c := c) (c2 := false) (v := t) d1 (by rw [d4 28 (by decide), a2]; exact w2) (by rw [d4 25 (by decide), a2]; exact w3) (by rw [d4 26 (by decide), a2]; exact w4) d3 w6 ?_ (by rw [d5 126 (by decide), a3 126 (by decide) (by decide)]; exact l1) l3 (by rw [d5 128 (by decide), a3 128 (by decide) (by decide)]; exact l4) (fun f hf => by rw [d6]; exact a6 f hf) ?_ (a5.tr (cF.sm hC2 d2 (by simp))) K) ⟨rfl, trivial⟩
        · exact cxOk.kp _ a1 (fun j _ => by rw [d5 125 (by decide)]) (fun j _ => ⟨by rw [d5 126 (by decide)], by rw [d5 127 (by decide)], by rw [d5 128 (by decide)], d6 _, d6 _⟩)
        · rw [d6, m2.pp (by omega) (by simp)]
          exact pt
  have loop : ∀ ctx1 v1 h1, mW h1 S (a, ctx1, cur, c) → cF h h1 → pl h1 11 = v1 → finX a ctx1 cur v1 c = finX a ctx cur v c → xWP G l mX12_factors d (zM G Q) 0 0 7 (xls [(0, .ref 110)]) [] h1 := by
    intro ctx1
    induction ctx1 with
    | nil =>
      intro v1 h1 hw1 c1 p1 e1
      have hC := hw1.1.1
      have f25 : (h1.1 110).2.2 25 = .int (nI 0) := hw1.2.2.1
      refine x_aload_n (i := 0) dX12_factors_7 rfl rfl rfl ?_
      refine x_getM (a := 110) dX12_factors_8 rfl fX12_286 hC rfl f25 ?_
      refine x_if_le_t (tgt := 50) dX12_factors_11 rfl (by decide) ?_
      exact x_to (beh [] v1 h1 hw1 c1 p1 rfl e1) ⟨rfl, trivial⟩
    | cons z cc ih =>
      intro v1 h1 hw1 c1 p1 e1
      have hC := hw1.1.1
      have f25 : (h1.1 110).2.2 25 = .int (nI (cc.length + 1)) := hw1.2.2.1
      have l12 : cc.length + 1 ≤ 12 := hw1.2.2.2.2.2.1
      have v5 := hC.v (a := 125) rfl
      have pos : ¬ nI (cc.length + 1) ≤ 0 := by
        intro q
        have := (nI_leI (a := cc.length + 1) (b := 0) (by omega) (by decide)).mp (by rw [nI_0]; exact q)
        omega
      refine x_aload_n (i := 0) dX12_factors_7 rfl rfl rfl ?_
      refine x_getM (a := 110) dX12_factors_8 rfl fX12_286 hC rfl f25 ?_
      refine x_if_le_f (tgt := 50) dX12_factors_11 rfl rfl pos ?_
      refine x_aload_n (i := 0) dX12_factors_14 rfl rfl rfl ?_
      refine x_getC dX12_factors_15 rfl fX12_62 hC rfl F_110_21 ?_
      refine x_aload_n (i := 0) dX12_factors_18 rfl rfl rfl ?_
      refine x_getM (a := 110) dX12_factors_19 rfl fX12_286 hC rfl f25 ?_
      refine x_iconst dX12_factors_22 rfl iC_1 ?_
      refine x_isub dX12_factors_23 rfl ?_
      rw [show nI (cc.length + 1) - nI 1 = nI (cc.length + 1 - 1) from pk_sub (by omega), show cc.length + 1 - 1 = cc.length by omega]
      refine x_iald dX12_factors_24 rfl v5 rfl (by omega) (by decide) ?_
      cases z with
      | some r =>
        rw [show iv h1 125 cc.length = nI 2 from hw1.2.2.2.2.2.2.1.1]
        refine x_iconst dX12_factors_25 rfl iC_1 ?_
        refine x_ic_ne_t (tgt := 50) dX12_factors_26 rfl (by decide) ?_
        exact x_to (beh (some r :: cc) v1 h1 hw1 c1 p1 rfl e1) ⟨rfl, trivial⟩
      | none =>
        rw [show iv h1 125 cc.length = nI 1 from hw1.2.2.2.2.2.2.1.1]
        refine x_iconst dX12_factors_25 rfl iC_1 ?_
        refine x_ic_ne_f (tgt := 50) dX12_factors_26 rfl rfl (by decide) ?_
        refine x_aload_n (i := 0) dX12_factors_29 rfl rfl rfl ?_
        refine x_bipush dX12_factors_30 rfl bC_11 ?_
        refine x_bipush dX12_factors_32 rfl bC_11 ?_
        refine x_callV0 (ci := 12) (b := 110) (As := [_, _]) (d2 := d - 1) dX12_factors_34 rfl kX12_200 okX12_mirrors (hC.o rfl) (fun q hq => by cases hq; rfl) (by omega) rfl rfl (Nat.le_of_ble_eq_true rfl) (m_mirrors hC (t := 11) (x := 11) (by decide) (by decide) (fun h2 m2 e2 => ?_))
        have hw2 := hw1.fr m2 (by simp) (by simp)
        have hC := hw2.1.1
        have f25b : (h2.1 110).2.2 25 = .int (nI (cc.length + 1)) := hw2.2.2.1
        refine x_aload_n (i := 0) dX12_factors_37 rfl rfl rfl ?_
        refine x_dup dX12_factors_38 rfl rfl ?_
        refine x_getM (a := 110) dX12_factors_39 rfl fX12_286 hC rfl f25b ?_
        refine x_iconst dX12_factors_42 rfl iC_1 ?_
        refine x_isub dX12_factors_43 rfl ?_
        rw [show nI (cc.length + 1) - nI 1 = nI (cc.length + 1 - 1) from pk_sub (by omega), show cc.length + 1 - 1 = cc.length by omega]
        have hC2 := hC.setF (ci := 12) (a := 110) (kf := 25) (v := .int (nI cc.length)) rfl NF_110_25 (by decide)
        obtain ⟨d1, d2, d3, d4, d5, d6⟩ := mW.f (P := fun _ => True) hw2.1 hC2 (by decide)
        refine x_putC (a := 110) dX12_factors_44 rfl fX12_286 (fun q hq => by cases hq; rfl) hC rfl ⟨rfl, rfl⟩ ?_
        show xWP G l mX12_factors d (zM G Q) 0 0 47 _ [] (hs h2 110 (112, 0, updV (h2.1 110).2.2 25 (.int (nI cc.length))))
        generalize hs h2 110 (112, 0, updV (h2.1 110).2.2 25 (.int (nI cc.length))) = h3 at hC2 d1 d2 d3 d4 d5 d6 ⊢
        refine x_goto (tgt := 7) dX12_factors_47 rfl ?_
        obtain ⟨w1, w2, w3, w4, w5, w6, w7, w8⟩ := hw2
        refine x_to (ih (c8 (zMir v1)) h3 ⟨d1, by rw [d4 28 (by decide)]; exact w2, d3, by rw [d4 26 (by decide)]; exact w4, by rw [d4 27 (by decide)]; exact w5, by show cc.length ≤ 12; omega, ?_, ?_⟩ ((c1.tr (m2.c (by simp))).tr (cF.sm hC2 d2 (by simp))) (by rw [d6, e2, p1]) e1) ⟨rfl, trivial⟩
        · exact cxOk.kp _ w7.2 (fun j _ => by rw [d5 125 (by decide)]) (fun j _ => ⟨by rw [d5 126 (by decide)], by rw [d5 127 (by decide)], by rw [d5 128 (by decide)], d6 _, d6 _⟩)
        · exact w8.kp (by rw [d5 126 (by decide)]) (by rw [d5 127 (by decide)]) (by rw [d5 128 (by decide)]) (d6 _) (d6 _)
  refine x_aload_n (i := 0) dX12_factors_0 rfl rfl rfl ?_
  refine x_bipush dX12_factors_1 rfl bC_11 ?_
  refine x_iload_n (i := 1) dX12_factors_3 rfl rfl rfl ?_
  refine x_callV0 (ci := 12) (b := 110) (As := [_, _]) (d2 := d - 1) dX12_factors_4 rfl kX12_182 okX12_becomes (hC.o rfl) (fun q hq => by cases hq; rfl) (by omega) rfl rfl (Nat.le_of_ble_eq_true rfl) (m_becomes hC (t := 11) (by decide) hx (fun h1 m1 e1 => ?_))
  exact x_to (loop ctx v h1 (hw.fr m1 (by simp) (by simp)) (m1.c (by simp)) (by rw [e1, hv]) rfl) ⟨rfl, trivial⟩
theorem m_sums {a : Nat} {ctx : cxT} {cur : lvT} {c : Bool} {t : Nat → Int32} (hd : 3 ≤ d) (hw : mW h S (a, ctx, cur, c)) (et : cur.2.2 = some t) (K : ∀ h2, mW h2 S (a, ctx, (some (sumL cur t c).2, cur.2.1, none), (sumL cur t c).1) → cF h h2 → Q none h2) : xCt G l mX12_sums d [.ref 110] h 0 0 Q := by
  obtain ⟨w1, w2, w3, w4, w5, w6, w7, w8⟩ := hw
  obtain ⟨l1, l2, l3, l4, l5, l6⟩ := w8
  change (h.1 110).2.2 28 = .int (nI a) at w2
  change (h.1 110).2.2 25 = .int (nI ctx.length) at w3
  change (h.1 110).2.2 26 = .int (nI (lvl ctx)) at w4
  change (h.1 110).2.2 27 = .int (cnI c) at w5
  change ctx.length ≤ 12 at w6
  change cxOk h ctx at w7
  have ll := lvl_le ctx
  have hC := w1.1
  have v6 := hC.z (a := 126) rfl
  have pt : pl h (37 + lvl ctx) = t := l6 t et
  refine xCt_of (by decide) (Nat.le_of_ble_eq_true rfl) ?_
  -- the sum is there
  have fin : ∀ h2 sv c2, RM h2 S → (h2.1 110).2.2 28 = .int (nI a) → (h2.1 110).2.2 25 = .int (nI ctx.length) → (h2.1 110).2.2 26 = .int (nI (lvl ctx)) → (h2.1 110).2.2 27 = .int (cnI c2) → cxOk h2 ctx → iv h2 128 (lvl ctx) = cur.2.1 → pl h2 (24 + lvl ctx) = sv → cF h h2 → sumL cur t c = (c2, sv) → xWP G l mX12_sums d (zM G Q) 0 0 65 (xls [(0, .ref 110)]) [] h2 := by
    intro h2 sv c2 r2 f28 f25 f26 f27 x2 e8 p4 cf2 es
    rw [es] at K
    have hC := r2.1
    have v6 := hC.z (a := 126) rfl
    have hC4 := hC.setI (f := upd (iv h2 126) (lvl ctx) (nI 1)) v6 (Or.inr (Or.inl rfl)) (by decide)
    obtain ⟨i1, i2, i3, i4, i5, i6⟩ := mW.i r2 hC4 (Or.inr (Or.inl rfl))
    refine x_aload_n (i := 0) dX12_sums_65 rfl rfl rfl ?_
    refine x_getC dX12_sums_66 rfl fX12_65 hC rfl F_110_22 ?_
    refine x_aload_n (i := 0) dX12_sums_69 rfl rfl rfl ?_
    refine x_getM (a := 110) dX12_sums_70 rfl fX12_289 hC rfl f26 ?_
    refine x_iconst dX12_sums_73 rfl iC_1 ?_
    refine x_zast dX12_sums_74 rfl v6 rfl (by omega) (by decide) (by decide) ?_
    show xWP G l mX12_sums d (zM G Q) 0 0 75 _ [] (hs h2 126 (2, 13, xI (upd (iv h2 126) (lvl ctx) (nI 1))))
    generalize hs h2 126 (2, 13, xI (upd (iv h2 126) (lvl ctx) (nI 1))) = h4 at hC4 i1 i2 i3 i4 i5 i6 ⊢
    have hC := hC4
    have v7 := hC.z (a := 127) rfl
    have g26 : (h4.1 110).2.2 26 = .int (nI (lvl ctx)) := by rw [i3]; exact f26
    have hC5 := hC.setI (f := upd (iv h4 127) (lvl ctx) (nI 0)) v7 (Or.inr (Or.inl rfl)) (by decide)
    obtain ⟨j1, j2, j3, j4, j5, j6⟩ := mW.i i1 hC5 (Or.inr (Or.inr (Or.inl rfl)))
    refine x_aload_n (i := 0) dX12_sums_75 rfl rfl rfl ?_
    refine x_getC dX12_sums_76 rfl fX12_68 hC rfl F_110_23 ?_
    refine x_aload_n (i := 0) dX12_sums_79 rfl rfl rfl ?_
    refine x_getM (a := 110) dX12_sums_80 rfl fX12_289 hC rfl g26 ?_
    refine x_iconst dX12_sums_83 rfl iC_0 ?_
    refine x_zast dX12_sums_84 rfl v7 rfl (by omega) (by decide) (by decide) ?_
    show xWP G l mX12_sums d (zM G Q) 0 0 85 _ [] (hs h4 127 (2, 13, xI (upd (iv h4 127) (lvl ctx) (nI 0))))
    generalize hs h4 127 (2, 13, xI (upd (iv h4 127) (lvl ctx) (nI 0))) = h5 at hC5 j1 j2 j3 j4 j5 j6 ⊢
    refine x_return dX12_sums_85 rfl ?_
    have e0 : h5.1 110 = h2.1 110 := j3.trans i3
    have e6 : iv h5 126 = upd (iv h2 126) (lvl ctx) (nI 1) := by rw [j5 126 (by decide), i4]
    have e7 : iv h5 127 = upd (iv h2 127) (lvl ctx) (nI 0) := by rw [j4, i5 127 (by decide)]
    have ep : ∀ x, pl h5 x = pl h2 x := fun x => by rw [j6, i6]
    refine K h5 ⟨j1, by rw [e0]; exact f28, by rw [e0]; exact f25, by rw [e0]; exact f26, by rw [e0]; exact f27, w6, ?_, ?_⟩ ((cf2.tr (cF.sm hC4 i2 (by simp))).tr (cF.sm hC5 j2 (by simp)))
    · exact cxOk.kp _ x2 (fun j _ => by rw [j5 125 (by decide), i5 125 (by decide)]) (fun j hj => by
        have hj' : j < lvl ctx := hj
        exact ⟨by rw [e6]; unfold upd; rw [if_neg (by omega)], by rw [e7]; unfold upd; rw [if_neg (by omega)], by rw [j5 128 (by decide), i5 128 (by decide)], ep _, ep _⟩)
    · refine ⟨?_, ?_, l3, ?_, (fun f hf => ?_), (fun f hf => by cases hf)⟩
      · show iv h5 126 (lvl ctx) = nI 1
        rw [e6]
        unfold upd
        rw [if_pos rfl]
      · show iv h5 127 (lvl ctx) = nI 0
        rw [e7]
        unfold upd
        rw [if_pos rfl]
      · show iv h5 128 (lvl ctx) = _
        rw [j5 128 (by decide), i5 128 (by decide)]
        exact e8
      · show pl h5 (24 + lvl ctx) = f
        rw [ep, p4]
        exact Option.some.inj hf
  have fr : ∀ h2, mV [24 + lvl ctx] [113] h h2 → cxOk h2 ctx ∧ h2.1 110 = h.1 110 ∧ iv h2 128 = iv h 128 ∧ RM h2 S ∧ cF h h2 := by
    intro h2 m2
    have i : ∀ q, q ≠ 112 → q ≠ 113 → iv h2 q = iv h q := fun q q1 q2 => m2.2.1.iv (by simp <;> omega)
    exact ⟨cxOk.kp _ w7 (fun j _ => by rw [i 125 (by decide) (by decide)]) (fun j hj => ⟨by rw [i 126 (by decide) (by decide)], by rw [i 127 (by decide) (by decide)], by rw [i 128 (by decide) (by decide)], m2.pp (by omega) (by simp <;> omega), m2.pp (by omega) (by simp <;> omega)⟩), m2.2.1.2 110 (by decide), i 128 (by decide) (by decide), w1.sc m2 (by simp <;> omega) (by simp [mN]), m2.c (by simp)⟩
  refine x_bipush dX12_sums_0 rfl bC_24 ?_
  refine x_aload_n (i := 0) dX12_sums_2 rfl rfl rfl ?_
  refine x_getM (a := 110) dX12_sums_3 rfl fX12_289 hC rfl w4 ?_
  refine x_iadd dX12_sums_6 rfl ?_
  rw [show nI 24 + nI (lvl ctx) = nI (24 + lvl ctx) from nI_add _ _]
  refine x_istore_n (i := 1) dX12_sums_7 rfl rfl (by decide) ?_
  refine x_aload_n (i := 0) dX12_sums_8 rfl rfl rfl ?_
  refine x_getC dX12_sums_9 rfl fX12_65 hC rfl F_110_22 ?_
  refine x_aload_n (i := 0) dX12_sums_12 rfl rfl rfl ?_
  refine x_getM (a := 110) dX12_sums_13 rfl fX12_289 hC rfl w4 ?_
  refine x_zald dX12_sums_16 rfl v6 rfl (by omega) (by decide) ?_
  rw [show iv h 126 (lvl ctx) = bO cur.1 from l1]
  cases es : cur.1 with
  | none =>
    refine x_if_ne_f (tgt := 35) dX12_sums_17 rfl rfl nI_0 ?_
    refine x_aload_n (i := 0) dX12_sums_20 rfl rfl rfl ?_
    refine x_iload_n (i := 1) dX12_sums_21 rfl rfl rfl ?_
    refine x_bipush dX12_sums_22 rfl bC_37 ?_
    refine x_aload_n (i := 0) dX12_sums_24 rfl rfl rfl ?_
    refine x_getM (a := 110) dX12_sums_25 rfl fX12_289 hC rfl w4 ?_
    refine x_iadd dX12_sums_28 rfl ?_
    rw [show nI 37 + nI (lvl ctx) = nI (37 + lvl ctx) from nI_add _ _]
    refine x_callV0 (ci := 12) (b := 110) (As := [_, _]) (d2 := d - 1) dX12_sums_29 rfl kX12_182 okX12_becomes (hC.o rfl) (fun q hq => by cases hq; rfl) (by omega) rfl rfl (Nat.le_of_ble_eq_true rfl) (m_becomes hC (by omega) (x := 37 + lvl ctx) (by omega) (fun h2 m2 e2 => ?_))
    obtain ⟨a1, a2, a3, a4, a5⟩ := fr h2 (m2.sub (by simp) (by simp))
    refine x_goto (tgt := 65) dX12_sums_32 rfl ?_
    exact x_to (fin h2 t c a4 (by rw [a2]; exact w2) (by rw [a2]; exact w3) (by rw [a2]; exact w4) (by rw [a2]; exact w5) a1 (by rw [a3]; exact l4) (by rw [e2, pt]) a5 (by unfold sumL; rw [es])) ⟨rfl, trivial⟩
  | some s =>
    have ps : pl h (24 + lvl ctx) = s := l5 s es
    have v8 := hC.v (a := 128) rfl
    have esu : sumL cur t c = pMy c s (oAdd s t cur.2.1) := by unfold sumL; rw [es]
    refine x_if_ne_t (tgt := 35) dX12_sums_17 rfl nb1 ?_
    refine x_aload_n (i := 0) dX12_sums_35 rfl rfl rfl ?_
    refine x_iload_n (i := 1) dX12_sums_36 rfl rfl rfl ?_
    refine x_iload_n (i := 1) dX12_sums_37 rfl rfl rfl ?_
    refine x_bipush dX12_sums_38 rfl bC_37 ?_
    refine x_aload_n (i := 0) dX12_sums_40 rfl rfl rfl ?_
    refine x_getM (a := 110) dX12_sums_41 rfl fX12_289 hC rfl w4 ?_
    refine x_iadd dX12_sums_44 rfl ?_
    rw [show nI 37 + nI (lvl ctx) = nI (37 + lvl ctx) from nI_add _ _]
    refine x_aload_n (i := 0) dX12_sums_45 rfl rfl rfl ?_
    refine x_getC dX12_sums_46 rfl fX12_71 hC rfl F_110_24 ?_
    refine x_aload_n (i := 0) dX12_sums_49 rfl rfl rfl ?_
    refine x_getM (a := 110) dX12_sums_50 rfl fX12_289 hC rfl w4 ?_
    refine x_iald dX12_sums_53 rfl v8 rfl (by omega) (by decide) ?_
    rw [show iv h 128 (lvl ctx) = cur.2.1 from l4]
    refine x_callV0 (ci := 12) (b := 110) (As := [_, _, _, _]) (d2 := d - 1) dX12_sums_54 rfl kX12_193 okX12_adds (hC.o rfl) (fun q hq => by cases hq; rfl) (by omega) rfl rfl (Nat.le_of_ble_eq_true rfl) (m_adds (by omega) hC w1.b l3 (by omega) (by omega) (by omega) (fun z hz h2 m2 e2 => ?_) (fun hz h2 m2 => ?_))
    · rw [ps, pt] at hz
      obtain ⟨a1, a2, a3, a4, a5⟩ := fr h2 m2
      refine x_if_ne_t (tgt := 65) dX12_sums_57 rfl nb1 ?_
      exact x_to (fin h2 (c8 z) c a4 (by rw [a2]; exact w2) (by rw [a2]; exact w3) (by rw [a2]; exact w4) (by rw [a2]; exact w5) a1 (by rw [a3]; exact l4) e2 a5 (by rw [esu, hz]; rfl)) ⟨rfl, trivial⟩
    · rw [ps, pt] at hz
      obtain ⟨a1, a2, a3, a4, a5⟩ := fr h2 (m2.sub (by simp) (by simp))
      have hC := a4.1
      have hC2 := hC.setF (ci := 12) (a := 110) (kf := 27) (v := .int (nI 0)) rfl NF_110_27 (by decide)
      obtain ⟨d1, d2, d3, d4, d5, d6⟩ := mW.f (P := fun _ => True) a4 hC2 (by decide)
      refine x_if_ne_f (tgt := 65) dX12_sums_57 rfl rfl nI_0 ?_
      refine x_aload_n (i := 0) dX12_sums_60 rfl rfl rfl ?_
      refine x_iconst dX12_sums_61 rfl iC_0 ?_
      refine x_putC (a := 110) dX12_sums_62 rfl fX12_292 (fun q hq => by cases hq; rfl) hC rfl ⟨rfl, rfl⟩ ?_
      show xWP G l mX12_sums d (zM G Q) 0 0 65 _ [] (hs h2 110 (112, 0, updV (h2.1 110).2.2 27 (.int (nI 0))))
      generalize hs h2 110 (112, 0, updV (h2.1 110).2.2 27 (.int (nI 0))) = h3 at hC2 d1 d2 d3 d4 d5 d6 ⊢
      refine x_to (fin h3 s false d1 (by rw [d4 28 (by decide), a2]; exact w2) (by rw [d4 25 (by decide), a2]; exact w3) (by rw [d4 26 (by decide), a2]; exact w4) d3 ?_ (by rw [d5 128 (by decide), a3]; exact l4) ?_ (a5.tr (cF.sm hC2 d2 (by simp))) (by rw [esu, hz]; rfl)) ⟨rfl, trivial⟩
      · exact cxOk.kp _ a1 (fun j _ => by rw [d5 125 (by decide)]) (fun j _ => ⟨by rw [d5 126 (by decide)], by rw [d5 127 (by decide)], by rw [d5 128 (by decide)], d6 _, d6 _⟩)
      · rw [d6, m2.pp (by omega) (by simp)]
        exact ps
end MOD

