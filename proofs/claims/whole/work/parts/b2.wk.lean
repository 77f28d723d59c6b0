/-! EightPartsModel: a text is worked: what is open -/
/-- a level: its sum so far, the sign of what comes, its term so far -/
abbrev lvT : Type := Option (Nat → Int32) × Int32 × Option (Nat → Int32)
/-- what is open, the last first: none a mirror, else the level around a bracket -/
abbrev cxT : Type := List (Option lvT)
def lvl : cxT → Nat
  | [] => 0
  | none :: c => lvl c
  | some _ :: c => lvl c + 1
theorem lvl_le : ∀ c : cxT, lvl c ≤ c.length
  | [] => Nat.le_refl _
  | none :: c => by have := lvl_le c; show lvl c ≤ c.length + 1; omega
  | some _ :: c => by have := lvl_le c; show lvl c + 1 ≤ c.length + 1; omega
def bO (o : Option (Nat → Int32)) : Int32 := match o with
  | none => nI 0
  | some _ => nI 1
def lvAt (h : xH) (j : Nat) (r : lvT) : Prop := iv h 126 j = bO r.1 ∧ iv h 127 j = bO r.2.2 ∧ (r.2.1 = 1 ∨ r.2.1 = -1) ∧ iv h 128 j = r.2.1 ∧ (∀ f, r.1 = some f → pl h (24 + j) = f) ∧ ∀ f, r.2.2 = some f → pl h (37 + j) = f
def cxOk (h : xH) : cxT → Prop
  | [] => True
  | none :: c => iv h 125 c.length = nI 1 ∧ cxOk h c
  | some r :: c => iv h 125 c.length = nI 2 ∧ lvAt h (lvl c) r ∧ cxOk h c
abbrev wkT : Type := Nat × cxT × lvT × Bool
def mW (h : xH) (S : St) (X : wkT) : Prop := RM h S ∧ (h.1 110).2.2 28 = .int (nI X.1) ∧ (h.1 110).2.2 25 = .int (nI X.2.1.length) ∧ (h.1 110).2.2 26 = .int (nI (lvl X.2.1)) ∧ (h.1 110).2.2 27 = .int (cnI X.2.2.2) ∧ X.2.1.length ≤ 12 ∧ cxOk h X.2.1 ∧ lvAt h (lvl X.2.1) X.2.2.1
theorem lvAt.kp {h h2 : xH} {j : Nat} {r : lvT} (hl : lvAt h j r) (e6 : iv h2 126 j = iv h 126 j) (e7 : iv h2 127 j = iv h 127 j) (e8 : iv h2 128 j = iv h 128 j) (p4 : pl h2 (24 + j) = pl h (24 + j)) (p7 : pl h2 (37 + j) = pl h (37 + j)) : lvAt h2 j r := by
  obtain ⟨a1, a2, a3, a4, a5, a6⟩ := hl
  exact ⟨e6.trans a1, e7.trans a2, a3, e8.trans a4, fun f hf => p4.trans (a5 f hf), fun f hf => p7.trans (a6 f hf)⟩
theorem cxOk.kp {h h2 : xH} : ∀ c : cxT, cxOk h c → (∀ j, j < c.length → iv h2 125 j = iv h 125 j) → (∀ j, j < lvl c → iv h2 126 j = iv h 126 j ∧ iv h2 127 j = iv h 127 j ∧ iv h2 128 j = iv h 128 j ∧ pl h2 (24 + j) = pl h (24 + j) ∧ pl h2 (37 + j) = pl h (37 + j)) → cxOk h2 c
  | [], _, _, _ => trivial
  | none :: c, ⟨a1, a2⟩, h5, hl => ⟨(h5 c.length (by show c.length < c.length + 1; omega)).trans a1, cxOk.kp c a2 (fun j hj => h5 j (by show j < c.length + 1; omega)) hl⟩
  | some r :: c, ⟨a1, a2, a3⟩, h5, hl => by
    obtain ⟨b1, b2, b3, b4, b5⟩ := hl (lvl c) (by show lvl c < lvl c + 1; omega)
    exact ⟨(h5 c.length (by show c.length < c.length + 1; omega)).trans a1, a2.kp b1 b2 b3 b4 b5, cxOk.kp c a3 (fun j hj => h5 j (by show j < c.length + 1; omega)) (fun j hj => hl j (by show j < lvl c + 1; omega))⟩
/-- nothing that is worked with has changed -/
theorem mW.fr {h h2 : xH} {S : St} {X : wkT} {P C : List Nat} (hw : mW h S X) (hv : mV P C h h2) (hP : ∀ q ∈ P, 9 ≤ q ∧ (q < 24 ∨ 50 ≤ q)) (hC : ∀ q ∈ C, q = 113) : mW h2 S X := by
  obtain ⟨w1, w2, w3, w4, w5, w6, w7, w8⟩ := hw
  have e : ∀ a, a ≠ 112 → a ≠ 113 → h2.1 a = h.1 a := fun a q1 q2 => hv.2.1.2 a (by
    simp only [List.mem_cons, not_or]
    exact ⟨q1, fun z => q2 (hC a z)⟩)
  have e0 := e 110 (by decide) (by decide)
  have i : ∀ a, a ≠ 112 → a ≠ 113 → iv h2 a = iv h a := fun a q1 q2 => by unfold iv; rw [e a q1 q2]
  have p : ∀ x, 24 ≤ x → x < 50 → pl h2 x = pl h x := fun x x1 x2 => hv.2.2.1 x (by omega) (fun z => by have := hP x z; omega)
  have ll := lvl_le X.2.1
  refine ⟨w1.sc hv (fun q hq => (hP q hq).1) (fun q hq => by rw [hC q hq]; unfold mN; omega), by rw [e0]; exact w2, by rw [e0]; exact w3, by rw [e0]; exact w4, by rw [e0]; exact w5, w6, ?_, ?_⟩
  · exact cxOk.kp _ w7 (fun j _ => by rw [i 125 (by decide) (by decide)]) (fun j hj => ⟨by rw [i 126 (by decide) (by decide)], by rw [i 127 (by decide) (by decide)], by rw [i 128 (by decide) (by decide)], p _ (by omega) (by omega), p _ (by omega) (by omega)⟩)
  · exact w8.kp (by rw [i 126 (by decide) (by decide)]) (by rw [i 127 (by decide) (by decide)]) (by rw [i 128 (by decide) (by decide)]) (p _ (by omega) (by omega)) (p _ (by omega) (by omega))
/-- one of its own fields changes -/
theorem mW.f {h : xH} {S : St} {P : xH → Prop} (hR : RM h S) {kf : Nat} {v : Value} (hC : Cs (hs h 110 (112, 0, updV (h.1 110).2.2 kf v))) (hk : kf ≠ 4 ∧ kf ≠ 20 ∧ kf ≠ 32 ∧ kf ≠ 37) : RM (hs h 110 (112, 0, updV (h.1 110).2.2 kf v)) S ∧ xSm [110] h (hs h 110 (112, 0, updV (h.1 110).2.2 kf v)) ∧ ((hs h 110 (112, 0, updV (h.1 110).2.2 kf v)).1 110).2.2 kf = v ∧ (∀ q, q ≠ kf → ((hs h 110 (112, 0, updV (h.1 110).2.2 kf v)).1 110).2.2 q = (h.1 110).2.2 q) ∧ (∀ a, a ≠ 110 → iv (hs h 110 (112, 0, updV (h.1 110).2.2 kf v)) a = iv h a) ∧ ∀ x, pl (hs h 110 (112, 0, updV (h.1 110).2.2 kf v)) x = pl h x := by
  have hv : mV [] [110] h (hs h 110 (112, 0, updV (h.1 110).2.2 kf v)) := mV_o hC xSm.hs1 (by decide)
  refine ⟨hR.fl hv (by simp) (by simp [mNw]) (fv_ne (by omega)) (fv_ne (by omega)) (fv_ne (by omega)) (fv_ne (by omega)), xSm.hs1, fv_eq, fun q hq => fv_ne hq, fun a ha => iv_n ha, fun x => ?_⟩
  unfold pl
  rw [iv_n (by decide)]
/-- one of its own rows changes -/
theorem mW.i {h : xH} {S : St} {a : Nat} {N : Nat} {t : Nat} {g : Nat → Int32} (hR : RM h S) (hC : Cs (hs h a (t, N, xI g))) (ha : a = 125 ∨ a = 126 ∨ a = 127 ∨ a = 128) : RM (hs h a (t, N, xI g)) S ∧ xSm [a] h (hs h a (t, N, xI g)) ∧ (hs h a (t, N, xI g)).1 110 = h.1 110 ∧ iv (hs h a (t, N, xI g)) a = g ∧ (∀ q, q ≠ a → iv (hs h a (t, N, xI g)) q = iv h q) ∧ ∀ x, pl (hs h a (t, N, xI g)) x = pl h x := by
  have hv : mV [] [a] h (hs h a (t, N, xI g)) := mV_o hC xSm.hs1 (by simp; omega)
  have e0 : (hs h a (t, N, xI g)).1 110 = h.1 110 := hs_n (by omega)
  refine ⟨hR.fl hv (by simp) (by simp [mNw]; omega) (by rw [e0]) (by rw [e0]) (by rw [e0]) (by rw [e0]), xSm.hs1, e0, iv_hs, fun q hq => iv_n hq, fun x => ?_⟩
  unfold pl
  rw [iv_n (by omega)]
theorem cF.sm {h h2 : xH} {C : List Nat} (hC : Cs h2) (s : xSm C h h2) (hc : ∀ q ∈ C, 110 ≤ q ∧ q ≤ 133) : cF h h2 := ⟨hC, s.1, fun a ha => s.2 a (fun z => ha (hc a z))⟩
section MOD
variable {G : xG} {l : Launch} {d : Nat} {h : xH} {Q : Option Value → xH → Prop} {S : St}
/-- a field is put, and the machine goes on -/
theorem m_opens1 {a : Nat} {ctx : cxT} {cur : lvT} {c : Bool} (hw : mW h S (a, ctx, cur, c)) (hl : ctx.length < 12) (K : ∀ h2, mW h2 S (a, none :: ctx, cur, c) → cF h h2 → Q none h2) : xCt G l mX12_opens d [.ref 110, .int (nI 1)] h 0 0 Q := by
  obtain ⟨w1, w2, w3, w4, w5, w6, w7, w8⟩ := hw
  change (h.1 110).2.2 25 = .int (nI ctx.length) at w3
  have hC := w1.1
  have v5 := hC.v (a := 125) rfl
  refine xCt_of (by decide) (Nat.le_of_ble_eq_true rfl) ?_
  have hC1 := hC.setI (f := upd (iv h 125) ctx.length (nI 1)) v5 (Or.inl rfl) (by decide)
  obtain ⟨b1, b2, b3, b4, b5, b6⟩ := mW.i w1 hC1 (Or.inl rfl)
  refine x_aload_n (i := 0) dX12_opens_0 rfl rfl rfl ?_
  refine x_getC dX12_opens_1 rfl fX12_62 hC rfl F_110_21 ?_
  refine x_aload_n (i := 0) dX12_opens_4 rfl rfl rfl ?_
  refine x_getM (a := 110) dX12_opens_5 rfl fX12_286 hC rfl w3 ?_
  refine x_iload_n (i := 1) dX12_opens_8 rfl rfl rfl ?_
  refine x_iast dX12_opens_9 rfl v5 rfl (by omega) (by decide) ?_
  show xWP G l mX12_opens d (zM G Q) 0 0 10 _ [] (hs h 125 (0, 12, xI (upd (iv h 125) ctx.length (nI 1))))
  generalize hs h 125 (0, 12, xI (upd (iv h 125) ctx.length (nI 1))) = h1 at hC1 b1 b2 b3 b4 b5 b6 ⊢
  have f25 : (h1.1 110).2.2 25 = .int (nI ctx.length) := by rw [b3]; exact w3
  have hC := hC1
  refine x_aload_n (i := 0) dX12_opens_10 rfl rfl rfl ?_
  refine x_dup dX12_opens_11 rfl rfl ?_
  refine x_getM (a := 110) dX12_opens_12 rfl fX12_286 hC rfl f25 ?_
  refine x_iconst dX12_opens_15 rfl iC_1 ?_
  refine x_iadd dX12_opens_16 rfl ?_
  rw [show nI ctx.length + nI 1 = nI (ctx.length + 1) from nI_add _ 1]
  have hC2 := hC1.setF (ci := 12) (a := 110) (kf := 25) (v := .int (nI (ctx.length + 1))) rfl NF_110_25 (by decide)
  obtain ⟨d1, d2, d3, d4, d5, d6⟩ := mW.f (P := fun _ => True) b1 hC2 (by decide)
  refine x_putC (a := 110) dX12_opens_17 rfl fX12_286 (fun q hq => by cases hq; rfl) hC rfl ⟨rfl, rfl⟩ ?_
  show xWP G l mX12_opens d (zM G Q) 0 0 20 _ [] (hs h1 110 (112, 0, updV (h1.1 110).2.2 25 (.int (nI (ctx.length + 1)))))
  generalize hs h1 110 (112, 0, updV (h1.1 110).2.2 25 (.int (nI (ctx.length + 1)))) = h2 at hC2 d1 d2 d3 d4 d5 d6 ⊢
  refine x_iload_n (i := 1) dX12_opens_20 rfl rfl rfl ?_
  refine x_iconst dX12_opens_21 rfl iC_2 ?_
  refine x_ic_eq_f (tgt := 26) dX12_opens_22 rfl rfl (by decide) ?_
  refine x_return dX12_opens_25 rfl ?_
  have e5 : ∀ j, iv h2 125 j = upd (iv h 125) ctx.length (nI 1) j := fun j => by rw [d5 125 (by decide), b4]
  have eo : ∀ q, q ≠ 110 → q ≠ 125 → iv h2 q = iv h q := fun q q1 q2 => by rw [d5 q q1, b5 q q2]
  have ep : ∀ x, pl h2 x = pl h x := fun x => by rw [d6, b6]
  have eq5 : ∀ j, j < ctx.length → iv h2 125 j = iv h 125 j := fun j hj => by
    rw [e5]
    unfold upd
    rw [if_neg (by omega)]
  refine K h2 ⟨d1, by rw [d4 28 (by decide), b3]; exact w2, d3, by rw [d4 26 (by decide), b3]; exact w4, by rw [d4 27 (by decide), b3]; exact w5, by show ctx.length + 1 ≤ 12; omega, ⟨?_, ?_⟩, ?_⟩ (cF.sm hC2 (b2.tr d2) (by simp))
  · rw [e5]
    unfold upd
    rw [if_pos rfl]
  · exact cxOk.kp _ w7 eq5 (fun j hj => ⟨by rw [eo 126 (by decide) (by decide)], by rw [eo 127 (by decide) (by decide)], by rw [eo 128 (by decide) (by decide)], ep _, ep _⟩)
  · exact w8.kp (by rw [eo 126 (by decide) (by decide)]) (by rw [eo 127 (by decide) (by decide)]) (by rw [eo 128 (by decide) (by decide)]) (ep _) (ep _)
theorem m_opens2 {a : Nat} {ctx : cxT} {cur : lvT} {c : Bool} (hw : mW h S (a, ctx, cur, c)) (hl : ctx.length < 12) (K : ∀ h2, mW h2 S (a, some cur :: ctx, (none, 1, none), c) → cF h h2 → Q none h2) : xCt G l mX12_opens d [.ref 110, .int (nI 2)] h 0 0 Q := by
  obtain ⟨w1, w2, w3, w4, w5, w6, w7, w8⟩ := hw
  change (h.1 110).2.2 25 = .int (nI ctx.length) at w3
  change (h.1 110).2.2 26 = .int (nI (lvl ctx)) at w4
  have ll := lvl_le ctx
  have hC := w1.1
  have v5 := hC.v (a := 125) rfl
  refine xCt_of (by decide) (Nat.le_of_ble_eq_true rfl) ?_
  have hC1 := hC.setI (f := upd (iv h 125) ctx.length (nI 2)) v5 (Or.inl rfl) (by decide)
  obtain ⟨b1, b2, b3, b4, b5, b6⟩ := mW.i w1 hC1 (Or.inl rfl)
  refine x_aload_n (i := 0) dX12_opens_0 rfl rfl rfl ?_
  refine x_getC dX12_opens_1 rfl fX12_62 hC rfl F_110_21 ?_
  refine x_aload_n (i := 0) dX12_opens_4 rfl rfl rfl ?_
  refine x_getM (a := 110) dX12_opens_5 rfl fX12_286 hC rfl w3 ?_
  refine x_iload_n (i := 1) dX12_opens_8 rfl rfl rfl ?_
  refine x_iast dX12_opens_9 rfl v5 rfl (by omega) (by decide) ?_
  show xWP G l mX12_opens d (zM G Q) 0 0 10 _ [] (hs h 125 (0, 12, xI (upd (iv h 125) ctx.length (nI 2))))
  generalize hs h 125 (0, 12, xI (upd (iv h 125) ctx.length (nI 2))) = h1 at hC1 b1 b2 b3 b4 b5 b6 ⊢
  have f25 : (h1.1 110).2.2 25 = .int (nI ctx.length) := by rw [b3]; exact w3
  have hC := hC1
  refine x_aload_n (i := 0) dX12_opens_10 rfl rfl rfl ?_
  refine x_dup dX12_opens_11 rfl rfl ?_
  refine x_getM (a := 110) dX12_opens_12 rfl fX12_286 hC rfl f25 ?_
  refine x_iconst dX12_opens_15 rfl iC_1 ?_
  refine x_iadd dX12_opens_16 rfl ?_
  rw [show nI ctx.length + nI 1 = nI (ctx.length + 1) from nI_add _ 1]
  have hC2 := hC1.setF (ci := 12) (a := 110) (kf := 25) (v := .int (nI (ctx.length + 1))) rfl NF_110_25 (by decide)
  obtain ⟨d1, d2, d3, d4, d5, d6⟩ := mW.f (P := fun _ => True) b1 hC2 (by decide)
  refine x_putC (a := 110) dX12_opens_17 rfl fX12_286 (fun q hq => by cases hq; rfl) hC rfl ⟨rfl, rfl⟩ ?_
  show xWP G l mX12_opens d (zM G Q) 0 0 20 _ [] (hs h1 110 (112, 0, updV (h1.1 110).2.2 25 (.int (nI (ctx.length + 1)))))
  generalize hs h1 110 (112, 0, updV (h1.1 110).2.2 25 (.int (nI (ctx.length + 1)))) = h2 at hC2 d1 d2 d3 d4 d5 d6 ⊢
  have f26 : (h2.1 110).2.2 26 = .int (nI (lvl ctx)) := by rw [d4 26 (by decide), b3]; exact w4
  have hC := hC2
  refine x_iload_n (i := 1) dX12_opens_20 rfl rfl rfl ?_
  refine x_iconst dX12_opens_21 rfl iC_2 ?_
  refine x_ic_eq_t (tgt := 26) dX12_opens_22 rfl rfl ?_
  refine x_aload_n (i := 0) dX12_opens_26 rfl rfl rfl ?_
  refine x_dup dX12_opens_27 rfl rfl ?_
  refine x_getM (a := 110) dX12_opens_28 rfl fX12_289 hC rfl f26 ?_
  refine x_iconst dX12_opens_31 rfl iC_1 ?_
  refine x_iadd dX12_opens_32 rfl ?_
  rw [show nI (lvl ctx) + nI 1 = nI (lvl ctx + 1) from nI_add _ 1]
  have hC3 := hC2.setF (ci := 12) (a := 110) (kf := 26) (v := .int (nI (lvl ctx + 1))) rfl NF_110_26 (by decide)
  obtain ⟨g1, g2, g3, g4, g5, g6⟩ := mW.f (P := fun _ => True) d1 hC3 (by decide)
  refine x_putC (a := 110) dX12_opens_33 rfl fX12_289 (fun q hq => by cases hq; rfl) hC rfl ⟨rfl, rfl⟩ ?_
  show xWP G l mX12_opens d (zM G Q) 0 0 36 _ [] (hs h2 110 (112, 0, updV (h2.1 110).2.2 26 (.int (nI (lvl ctx + 1)))))
  generalize hs h2 110 (112, 0, updV (h2.1 110).2.2 26 (.int (nI (lvl ctx + 1)))) = h3 at hC3 g1 g2 g3 g4 g5 g6 ⊢
  have hC := hC3
  have v6 := hC.z (a := 126) rfl
  have hC4 := hC.setI (f := upd (iv h3 126) (lvl ctx + 1) (nI 0)) v6 (Or.inr (Or.inl rfl)) (by decide)
  obtain ⟨i1, i2, i3, i4, i5, i6⟩ := mW.i g1 hC4 (Or.inr (Or.inl rfl))
  refine x_aload_n (i := 0) dX12_opens_36 rfl rfl rfl ?_
  refine x_getC dX12_opens_37 rfl fX12_65 hC rfl F_110_22 ?_
  refine x_aload_n (i := 0) dX12_opens_40 rfl rfl rfl ?_
  refine x_getM (a := 110) dX12_opens_41 rfl fX12_289 hC rfl g3 ?_
  refine x_iconst dX12_opens_44 rfl iC_0 ?_
  refine x_zast dX12_opens_45 rfl v6 rfl (by omega) (by decide) (by decide) ?_
  show xWP G l mX12_opens d (zM G Q) 0 0 46 _ [] (hs h3 126 (2, 13, xI (upd (iv h3 126) (lvl ctx + 1) (nI 0))))
  generalize hs h3 126 (2, 13, xI (upd (iv h3 126) (lvl ctx + 1) (nI 0))) = h4 at hC4 i1 i2 i3 i4 i5 i6 ⊢
  have hC := hC4
  have v7 := hC.z (a := 127) rfl
  have f26 : (h4.1 110).2.2 26 = .int (nI (lvl ctx + 1)) := by rw [i3]; exact g3
  have hC5 := hC.setI (f := upd (iv h4 127) (lvl ctx + 1) (nI 0)) v7 (Or.inr (Or.inl rfl)) (by decide)
  obtain ⟨j1, j2, j3, j4, j5, j6⟩ := mW.i i1 hC5 (Or.inr (Or.inr (Or.inl rfl)))
  refine x_aload_n (i := 0) dX12_opens_46 rfl rfl rfl ?_
  refine x_getC dX12_opens_47 rfl fX12_68 hC rfl F_110_23 ?_
  refine x_aload_n (i := 0) dX12_opens_50 rfl rfl rfl ?_
  refine x_getM (a := 110) dX12_opens_51 rfl fX12_289 hC rfl f26 ?_
  refine x_iconst dX12_opens_54 rfl iC_0 ?_
  refine x_zast dX12_opens_55 rfl v7 rfl (by omega) (by decide) (by decide) ?_
  show xWP G l mX12_opens d (zM G Q) 0 0 56 _ [] (hs h4 127 (2, 13, xI (upd (iv h4 127) (lvl ctx + 1) (nI 0))))
  generalize hs h4 127 (2, 13, xI (upd (iv h4 127) (lvl ctx + 1) (nI 0))) = h5 at hC5 j1 j2 j3 j4 j5 j6 ⊢
  have hC := hC5
  have v8 := hC.v (a := 128) rfl
  have f26 : (h5.1 110).2.2 26 = .int (nI (lvl ctx + 1)) := by rw [j3, i3]; exact g3
  have hC6 := hC.setI (f := upd (iv h5 128) (lvl ctx + 1) (nI 1)) v8 (Or.inl rfl) (by decide)
  obtain ⟨k1, k2, k3, k4, k5, k6⟩ := mW.i j1 hC6 (Or.inr (Or.inr (Or.inr rfl)))
  refine x_aload_n (i := 0) dX12_opens_56 rfl rfl rfl ?_
  refine x_getC dX12_opens_57 rfl fX12_71 hC rfl F_110_24 ?_
  refine x_aload_n (i := 0) dX12_opens_60 rfl rfl rfl ?_
  refine x_getM (a := 110) dX12_opens_61 rfl fX12_289 hC rfl f26 ?_
  refine x_iconst dX12_opens_64 rfl iC_1 ?_
  refine x_iast dX12_opens_65 rfl v8 rfl (by omega) (by decide) ?_
  show xWP G l mX12_opens d (zM G Q) 0 0 66 _ [] (hs h5 128 (0, 13, xI (upd (iv h5 128) (lvl ctx + 1) (nI 1))))
  generalize hs h5 128 (0, 13, xI (upd (iv h5 128) (lvl ctx + 1) (nI 1))) = h6 at hC6 k1 k2 k3 k4 k5 k6 ⊢
  refine x_return dX12_opens_66 rfl ?_
  have e110 : h6.1 110 = h3.1 110 := k3.trans (j3.trans i3)
  have e5 : iv h6 125 = upd (iv h 125) ctx.length (nI 2) := by rw [k5 125 (by decide), j5 125 (by decide), i5 125 (by decide), g5 125 (by decide), d5 125 (by decide), b4]
  have e6 : iv h6 126 = upd (iv h 126) (lvl ctx + 1) (nI 0) := by rw [k5 126 (by decide), j5 126 (by decide), i4, g5 126 (by decide), d5 126 (by decide), b5 126 (by decide)]
  have e7 : iv h6 127 = upd (iv h 127) (lvl ctx + 1) (nI 0) := by rw [k5 127 (by decide), j4, i5 127 (by decide), g5 127 (by decide), d5 127 (by decide), b5 127 (by decide)]
  have e8 : iv h6 128 = upd (iv h 128) (lvl ctx + 1) (nI 1) := by rw [k4, j5 128 (by decide), i5 128 (by decide), g5 128 (by decide), d5 128 (by decide), b5 128 (by decide)]
  have ep : ∀ x, pl h6 x = pl h x := fun x => by rw [k6, j6, i6, g6, d6, b6]
  have un : ∀ (g : Nat → Int32) (m : Nat) (v : Int32) j, j ≠ m → upd g m v j = g j := fun g m v j hj => by unfold upd; rw [if_neg hj]
  have us : ∀ (g : Nat → Int32) (m : Nat) (v : Int32), upd g m v m = v := fun g m v => by unfold upd; rw [if_pos rfl]
  refine K h6 ⟨k1, by rw [e110, g4 28 (by decide), d4 28 (by decide), b3]; exact w2, by rw [e110, g4 25 (by decide)]; exact d3, by rw [e110]; exact g3, by rw [e110, g4 27 (by decide), d4 27 (by decide), b3]; exact w5, by show ctx.length + 1 ≤ 12; omega, ⟨?_, ?_, ?_⟩, ?_⟩ (cF.sm hC6 (((((b2.tr d2).tr g2).tr i2).tr j2).tr k2) (by simp))
  · rw [e5, us]
  · exact w8.kp (by rw [e6, un _ _ _ _ (by show lvl ctx ≠ lvl ctx + 1; omega)]) (by rw [e7, un _ _ _ _ (by show lvl ctx ≠ lvl ctx + 1; omega)]) (by rw [e8, un _ _ _ _ (by show lvl ctx ≠ lvl ctx + 1; omega)]) (ep _) (ep _)
  · exact cxOk.kp _ w7 (fun j hj => by rw [e5, un _ _ _ _ (by have hj' : j < ctx.length := hj; omega)]) (fun j hj => by
      have hj' : j < lvl ctx := hj
      exact ⟨by rw [e6, un _ _ _ _ (by omega)], by rw [e7, un _ _ _ _ (by omega)], by rw [e8, un _ _ _ _ (by omega)], ep _, ep _⟩)
  · refine ⟨?_, ?_, Or.inl rfl, ?_, (fun f hf => by cases hf), (fun f hf => by cases hf)⟩
    · show iv h6 126 (lvl ctx + 1) = nI 0
      rw [e6, us]
    · show iv h6 127 (lvl ctx + 1) = nI 0
      rw [e7, us]
    · show iv h6 128 (lvl ctx + 1) = 1
      rw [e8, us]
      rfl
end MOD

