/-! EightParts: work -/
theorem zIf_s {p : Prop} {z w : Nat → Int32} (h : zIf p z = some w) : p ∧ z = w := by
  by_cases q : p
  · rw [zIf_t q] at h
    exact ⟨q, Option.some.inj h⟩
  · rw [zIf_f q] at h
    cases h
theorem bdM {f g z : Nat → Int32} (h : oMul f g = some z) : zBd z := by
  obtain ⟨q, e⟩ := zIf_s h
  rw [← e]
  exact zBd_nar q.2
theorem bdA {f g z : Nat → Int32} {s : Int32} (h : oAdd f g s = some z) : zBd z := by
  obtain ⟨q, e⟩ := zIf_s h
  rw [← e]
  exact zBd_nar q
theorem pMy_b {c : Bool} {v : Nat → Int32} {o : zO} (hv : zBd v) (cv : c8 v = v) (ho : ∀ z, o = some z → zBd z) : zBd (pMy c v o).2 ∧ c8 (pMy c v o).2 = (pMy c v o).2 := by
  cases o with
  | none => exact ⟨hv, cv⟩
  | some z => exact ⟨zBd_c8.mpr (ho z rfl), c8_c8 z⟩
/-- what a reading comes to: it has moved on, its number is within bounds -/
def pOk (n a : Nat) (x : pX) : Prop := match x with
  | .inl p => p ≤ n
  | .inr r => a < r.1 ∧ r.1 ≤ n ∧ zBd r.2.2 ∧ c8 r.2.2 = r.2.2
section PRS
variable {n : Nat} {tb : Nat → Int32}
theorem ahd_ge (a : Nat) (ha : a ≤ n) : a ≤ zAhd n tb a := (zSk_le n tb _ a ha).1
theorem k_T {fac : Nat → Bool → pX} (hf : ∀ a c, a ≤ n → pOk n a (fac a c)) (a0 : Nat) : ∀ k a c v, a0 < a → a ≤ n → zBd v → c8 v = v → pOk n a0 (pT n tb fac k a c v)
  | 0, a, c, v, h1, h2, h3, h4 => ⟨h1, h2, h3, h4⟩
  | k + 1, a, c, v, h1, h2, h3, h4 => by
    have g := ahd_ge (tb := tb) a h2
    rw [pT]
    by_cases e : zBy n tb (zAhd n tb a) = nI 42
    · rw [if_pos e]
      have la := zBy_lt e (by decide)
      have key := hf (zAhd n tb a + 1) c (by omega)
      generalize fac (zAhd n tb a + 1) c = x at key ⊢
      match x, key with
      | .inl p, k1 => exact k1
      | .inr r, ⟨k1, k2, k3, k4⟩ =>
        obtain ⟨b1, b2⟩ := pMy_b (c := r.2.1) (v := v) (o := oMul v r.2.2) h3 h4 (fun z hz => bdM hz)
        exact k_T hf a0 k r.1 _ _ (by omega) k2 b1 b2
    · rw [if_neg e]
      exact ⟨by show a0 < zAhd n tb a; omega, zAhd_le h2, h3, h4⟩
theorem k_M {fac : Nat → Bool → pX} (hf : ∀ a c, a ≤ n → pOk n a (fac a c)) (a : Nat) (c : Bool) (ha : a ≤ n) : pOk n a (pM n tb fac a c) := by
  have key := hf a c ha
  unfold pM
  generalize fac a c = x at key ⊢
  match x, key with
  | .inl p, k1 => exact k1
  | .inr r, ⟨k1, k2, k3, k4⟩ => exact k_T hf a n r.1 r.2.1 r.2.2 k1 k2 k3 k4
theorem k_S {fac : Nat → Bool → pX} (hf : ∀ a c, a ≤ n → pOk n a (fac a c)) (a0 : Nat) : ∀ k a c v, a0 < a → a ≤ n → zBd v → c8 v = v → pOk n a0 (pS n tb fac k a c v)
  | 0, a, c, v, h1, h2, h3, h4 => ⟨h1, h2, h3, h4⟩
  | k + 1, a, c, v, h1, h2, h3, h4 => by
    have g := ahd_ge (tb := tb) a h2
    rw [pS]
    by_cases e : zBy n tb (zAhd n tb a) = nI 43 ∨ zBy n tb (zAhd n tb a) = nI 45
    · rw [if_pos e]
      have la : zAhd n tb a < n := by
        rcases e with e | e
        · exact zBy_lt e (by decide)
        · exact zBy_lt e (by decide)
      have key := k_M (tb := tb) hf (zAhd n tb a + 1) c (by omega)
      generalize pM n tb fac (zAhd n tb a + 1) c = x at key ⊢
      generalize (if zBy n tb (zAhd n tb a) = nI 43 then nI 1 else -1) = sg
      match x, key with
      | .inl p, k1 => exact k1
      | .inr r, ⟨k1, k2, k3, k4⟩ =>
        obtain ⟨b1, b2⟩ := pMy_b (c := r.2.1) (v := v) (o := oAdd v r.2.2 sg) h3 h4 (fun z hz => bdA hz)
        exact k_S hf a0 k r.1 _ _ (by omega) k2 b1 b2
    · rw [if_neg e]
      exact ⟨by show a0 < zAhd n tb a; omega, zAhd_le h2, h3, h4⟩
theorem k_U {fac : Nat → Bool → pX} (hf : ∀ a c, a ≤ n → pOk n a (fac a c)) (a : Nat) (c : Bool) (ha : a ≤ n) : pOk n a (pU n tb fac a c) := by
  have key := k_M (tb := tb) hf a c ha
  unfold pU
  generalize pM n tb fac a c = x at key ⊢
  match x, key with
  | .inl p, k1 => exact k1
  | .inr r, ⟨k1, k2, k3, k4⟩ => exact k_S hf a n r.1 r.2.1 r.2.2 k1 k2 k3 k4
theorem bdR {v : Nat} (hv : v ≤ 999) : zBd (zReal v) := by
  intro j hj
  unfold zReal upd
  split
  · rw [nI_toInt (by omega)]; omega
  · show -20000 ≤ (nI 0).toInt ∧ (nI 0).toInt ≤ 20000
    decide
theorem zNum_st {f a v : Nat} (h : a < n ∧ zDig (tb a)) (hv : v ≤ 1000) : a < (zNum n tb (f + 1) a v).1 := by
  rw [zNum, if_pos h]
  have := zNum_le n tb f (a + 1) (min 1000 (v * 10 + dgN (tb a))) (by omega) (by omega)
  omega
theorem k_F {sl : Nat → Nat → Int32} (hsl : ∀ k, k < 8 → zBd (sl k)) {nx : Option (Nat → Bool → pX)} (hx : ∀ fac, nx = some fac → ∀ a c, a ≤ n → pOk n a (fac a c)) (a : Nat) (c : Bool) (ha : a ≤ n) : pOk n a (pF n tb sl nx a c) := by
  have la := zAhd_le (tb := tb) ha
  have g := ahd_ge (tb := tb) a ha
  unfold pF
  by_cases e1 : nI 97 ≤ zBy n tb (zAhd n tb a) ∧ zBy n tb (zAhd n tb a) ≤ nI 104
  · rw [if_pos e1]
    have ll : zAhd n tb a < n := zBy_lt rfl (fun z => by rw [z] at e1; exact absurd e1.1 (by decide))
    exact ⟨by show a < zAhd n tb a + 1; omega, by show zAhd n tb a + 1 ≤ n; omega, zBd_c8.mpr (hsl _ (lt_eq e1.1 e1.2).1), c8_c8 _⟩
  · rw [if_neg e1]
    by_cases e2 : zDig (zBy n tb (zAhd n tb a))
    · rw [if_pos e2]
      have ll : zAhd n tb a < n := zBy_lt rfl (fun z => by rw [z] at e2; exact absurd e2 (by decide))
      have ed : zDig (tb (zAhd n tb a)) := by unfold zBy at e2; rw [if_pos ll] at e2; exact e2
      obtain ⟨z1, z2, z3⟩ := zNum_le n tb (n - zAhd n tb a) (zAhd n tb a) 0 la (by omega)
      by_cases e3 : 999 < (zNum n tb (n - zAhd n tb a) (zAhd n tb a) 0).2
      · rw [if_pos e3]
        exact la
      · rw [if_neg e3]
        refine ⟨?_, z2, zBd_c8.mpr (bdR (by omega)), c8_c8 _⟩
        have := zNum_st (tb := tb) (f := n - zAhd n tb a - 1) (v := 0) ⟨ll, ed⟩ (by omega)
        rw [show n - zAhd n tb a - 1 + 1 = n - zAhd n tb a by omega] at this
        show a < (zNum n tb (n - zAhd n tb a) (zAhd n tb a) 0).1
        omega
    · rw [if_neg e2]
      by_cases e3 : zBy n tb (zAhd n tb a) = nI 126 ∨ zBy n tb (zAhd n tb a) = nI 40
      · rw [if_pos e3]
        have ll : zAhd n tb a < n := by
          rcases e3 with e | e
          · exact zBy_lt e (by decide)
          · exact zBy_lt e (by decide)
        match nx, hx with
        | none, _ => exact la
        | some fac, hx =>
          show pOk n a (if zBy n tb (zAhd n tb a) = nI 126 then _ else _)
          by_cases e4 : zBy n tb (zAhd n tb a) = nI 126
          · rw [if_pos e4]
            have key := hx fac rfl (zAhd n tb a + 1) c (by omega)
            generalize fac (zAhd n tb a + 1) c = x at key ⊢
            match x, key with
            | .inl p, k1 => exact k1
            | .inr r, ⟨k1, k2, k3, k4⟩ => exact ⟨by show a < r.1; omega, k2, zBd_c8.mpr (zBd_mir k3), c8_c8 _⟩
          · rw [if_neg e4]
            have key := k_U (tb := tb) (hx fac rfl) (zAhd n tb a + 1) c (by omega)
            generalize pU n tb fac (zAhd n tb a + 1) c = x at key ⊢
            match x, key with
            | .inl p, k1 => exact k1
            | .inr r, ⟨k1, k2, k3, k4⟩ =>
              show pOk n a (if zBy n tb (zAhd n tb r.1) = nI 41 then _ else _)
              have g2 := ahd_ge (tb := tb) r.1 k2
              by_cases e5 : zBy n tb (zAhd n tb r.1) = nI 41
              · rw [if_pos e5]
                have l2 := zBy_lt e5 (by decide)
                exact ⟨by show a < zAhd n tb r.1 + 1; omega, by show zAhd n tb r.1 + 1 ≤ n; omega, k3, k4⟩
              · rw [if_neg e5]
                exact zAhd_le k2
      · rw [if_neg e3]
        exact la
theorem k_Fc {sl : Nat → Nat → Int32} (hsl : ∀ k, k < 8 → zBd (sl k)) : ∀ f a c, a ≤ n → pOk n a (pFc n tb sl f a c)
  | 0 => k_F hsl (fun fac e => by cases e)
  | f + 1 => k_F hsl (fun fac e => by cases e; exact k_Fc hsl f)
theorem k_Rd {sl : Nat → Nat → Int32} (hsl : ∀ k, k < 8 → zBd (sl k)) : match pRd n tb sl with
    | .inl p => p ≤ n
    | .inr r => r.1 ≤ n ∧ zBd r.2.2 ∧ c8 r.2.2 = r.2.2 := by
  have key := k_U (tb := tb) (k_Fc (n := n) (tb := tb) hsl 12) 0 true (Nat.zero_le _)
  unfold pRd
  generalize pU n tb (pFc n tb sl 12) 0 true = x at key ⊢
  match x, key with
  | .inl p, k1 => exact k1
  | .inr r, ⟨k1, k2, k3, k4⟩ =>
    by_cases e : zBy n tb (zAhd n tb r.1) = -1
    · simp only [e, if_true]
      exact ⟨k2, k3, k4⟩
    · simp only [e, if_false]
      exact zAhd_le k2
end PRS
noncomputable def sp_work (S : St) (a : Int32) : Int32 × St := match sE a with
  | none => (-1, S)
  | some t => match pRd S.2.2.1.1 S.2.2.1.2 S.1 with
    | .inl p => (-4 - nI p, sTp S (0, S.2.2.1.2))
    | .inr r => if r.2.1 then (1, sSet (sTp S (0, S.2.2.1.2)) t r.2.2) else (-2, sTp S (0, S.2.2.1.2))
section PUB
variable {G : xG} {l : Launch} {d : Nat} {h : xH} {Q : Option Value → xH → Prop} {b : Bool} {S : St}
theorem p_work {a : Int32} (hd : 70 ≤ d) (hR : RC b h S) (K : ∀ r S2 h2, sp_work S a = (r, S2) → RC b h2 S2 → mF h h2 → Q (some (.int r)) h2) : xCt G l mX11_work d [.ref 0, .int a] h 0 0 Q := by
  have hC := hR.1
  obtain ⟨t1, t2, t3⟩ := hR.2.1.2.2.1
  refine xCt_of (by decide) (Nat.le_of_ble_eq_true rfl) ?_
  refine x_iload_n (i := 1) dX11_work_0 rfl rfl rfl ?_
  refine x_callS0 (As := [_]) (d2 := d - 1) dX11_work_1 rfl kX11_115 okX11_isEighth (by omega) rfl rfl (Nat.le_of_ble_eq_true rfl) (c_isEighth (fun z => ?_) (fun t ht et qt => ?_))
  · refine x_if_ne_f (tgt := 9) dX11_work_4 rfl rfl nI_0 ?_
    refine x_iconst dX11_work_7 rfl iC_m1 ?_
    refine x_ireturn dX11_work_8 rfl rfl ?_
    exact K _ _ _ (by simp only [sp_work, z]) hR mF.rf
  subst et
  have bS : ∀ k, k < 8 → zBd (S.1 k) := fun k hk => (hR.2.1.2.1 k hk).2
  have rr := r_read (n := S.2.2.1.1) (tb := tpB h) (tb2 := S.2.2.1.2) (sl := fun k => iv h (2 + k)) (sl2 := S.1) t1 (fun j hj => t3 j hj) (fun k hk => by rw [(hR.sl hk).1, ← (hR.sl hk).1, c8_c8]) (fun a => iv h a)
  have kr := k_Rd (n := S.2.2.1.1) (tb := S.2.2.1.2) bS
  have en : sp_work S (nI t) = match pRd S.2.2.1.1 S.2.2.1.2 S.1 with
    | .inl p => (-4 - nI p, sTp S (0, S.2.2.1.2))
    | .inr r => if r.2.1 then (1, sSet (sTp S (0, S.2.2.1.2)) t r.2.2) else (-2, sTp S (0, S.2.2.1.2)) := by simp only [sp_work, qt]
  refine x_if_ne_t (tgt := 9) dX11_work_4 rfl nb1 ?_
  refine x_aload_n (i := 0) dX11_work_9 rfl rfl rfl ?_
  refine x_getC dX11_work_10 rfl fX11_83 hC rfl F_0_9 ?_
  refine x_callV0 (ci := 6) (b := 58) (As := []) (d2 := d - 1) dX11_work_13 rfl kX11_229 okX6_read (hC.o rfl) (fun q hq => by cases hq; rfl) (by omega) rfl rfl (Nat.le_of_ble_eq_true rfl) (c_read (by omega) hC t2 t1 (fun h2 s2 r2 e2 => ?_))
  generalize zRead S.2.2.1.1 (tpB h) (fun k => iv h (2 + k)) (fun a => iv h a) = zr at e2 rr ⊢
  have sq2 := r2.2.1.mn (R := scP) (fun q hq => by unfold rdP at hq; unfold scP; omega)
  have R2 := hR.sc r2.1 sq2
  have m2 : mF h h2 := mF.sq sq2 (fun q hq => by unfold scP at hq; omega)
  have hC := r2.1
  have hC3 := hC.setF (ci := 8) (a := 56) (kf := 1) (v := .int (nI 0)) rfl NF_56_1 (by decide)
  refine x_istore_n (i := 2) dX11_work_16 rfl rfl (by decide) ?_
  refine x_aload_n (i := 0) dX11_work_17 rfl rfl rfl ?_
  refine x_getC dX11_work_18 rfl fX11_74 hC rfl F_0_8 ?_
  refine x_iconst dX11_work_21 rfl iC_0 ?_
  refine x_putC (a := 56) dX11_work_22 rfl fX11_226 (fun q hq => by cases hq; rfl) hC rfl ⟨rfl, rfl⟩ ?_
  obtain ⟨k1, k2⟩ := R2.tape (t := (0, S.2.2.1.2)) hC3 (xSm.hs1.sub (by simp)) ⟨Nat.zero_le _, fv_eq, fun j hj => absurd hj (Nat.not_lt_zero j)⟩
  have r3 : rdH (hs h2 56 (108, 0, updV (h2.1 56).2.2 1 (.int (nI 0)))) (hs h2 56 (108, 0, updV (h2.1 56).2.2 1 (.int (nI 0)))) s2 := by
    obtain ⟨q1, q2, q3, q4, q5, q6⟩ := r2
    refine ⟨hC3, xSq.rf, (fv_n (by decide)).trans q3, (fv_n (by decide)).trans q4, (fv_n (by decide)).trans q5, fun c c1 c2 c3 c4 => ?_⟩
    rw [iv_n (by omega)]
    exact q6 c c1 c2 c3 c4
  have nn : h2.2 = h.2 := r2.2.1.1
  have n3 : (hs h2 56 (108, 0, updV (h2.1 56).2.2 1 (.int (nI 0)))).2 = h2.2 := rfl
  show xWP G l mX11_work d (zM G Q) 0 0 25 _ [] (hs h2 56 (108, 0, updV (h2.1 56).2.2 1 (.int (nI 0))))
  generalize hs h2 56 (108, 0, updV (h2.1 56).2.2 1 (.int (nI 0))) = h3 at k1 k2 r3 hC3 n3 ⊢
  have hC := hC3
  have m3 : mF h h3 := m2.tr k2 (by omega)
  generalize pRd S.2.2.1.1 S.2.2.1.2 S.1 = x at rr kr en
  cases x with
  | inl p =>
    obtain ⟨a1, a2⟩ := rr
    rw [a1]
    refine x_iload_n (i := 2) dX11_work_25 rfl rfl rfl ?_
    refine x_iconst dX11_work_26 rfl iC_m1 ?_
    refine x_ic_eq (tgt := 35) dX11_work_27 rfl rfl (fun c27 => ?_) (fun c27 => ?_)
    · exact absurd c27 (nI_m1 (by omega))
    · refine x_bipush dX11_work_30 rfl bC_m4 ?_
      refine x_iload_n (i := 2) dX11_work_32 rfl rfl rfl ?_
      refine x_isub dX11_work_33 rfl ?_
      refine x_ireturn dX11_work_34 rfl rfl ?_
      exact K _ _ _ en k1 m3
  | inr r =>
    obtain ⟨a1, a2, a3⟩ := rr
    obtain ⟨b1, b2, b3⟩ := kr
    rw [a1]
    have ec : s2.2.2.1 = cnI r.2.1 := by rw [e2]; exact a2
    have ev : c8 (s2.2.2.2 60) = r.2.2 := by rw [e2]; exact a3
    refine x_iload_n (i := 2) dX11_work_25 rfl rfl rfl ?_
    refine x_iconst dX11_work_26 rfl iC_m1 ?_
    refine x_ic_eq_t (tgt := 35) dX11_work_27 rfl rfl ?_
    refine x_aload_n (i := 0) dX11_work_35 rfl rfl rfl ?_
    refine x_getC dX11_work_36 rfl fX11_83 hC rfl F_0_9 ?_
    refine x_aload_n (i := 0) dX11_work_39 rfl rfl rfl ?_
    refine x_getC dX11_work_40 rfl fX11_11 hC rfl F_0_0 ?_
    refine x_iload_n (i := 1) dX11_work_43 rfl rfl rfl ?_
    refine x_aaldC (t := 0) dX11_work_44 rfl hC rfl (by decide) rfl (by omega) (by decide) (csF_slot ht) ?_
    refine x_callV0 (ci := 6) (b := 58) (As := [_]) (d2 := d - 1) dX11_work_45 rfl kX11_233 okX6_layResult (hC.o rfl) (fun q hq => by cases hq; rfl) (by omega) rfl rfl (Nat.le_of_ble_eq_true rfl) (c_layResult (by omega) r3 (csV_slot ht) (by omega) (fun z h4 C4 s4 e4 => ?_) (fun z => ?_) (by rw [ec]; cases r.2.1 <;> decide))
    · have rt : r.2.1 = true := by
        cases hh : r.2.1 with
        | true => rfl
        | false => rw [ec, hh] at z; exact absurd nI_0 z
      rw [ec, rt]
      refine x_callS0 (As := [_]) (d2 := d - 1) dX11_work_48 rfl kX11_151 okX11_told (by omega) rfl rfl (Nat.le_of_ble_eq_true rfl) (c_told1 ?_)
      refine x_ireturn dX11_work_51 rfl rfl ?_
      have R4 := k1.set (z := r.2.2) ht C4 (s4.sq (by intro q hq; simp at hq; exact Or.inr hq)) (by rw [e4, ev, b3]) b2
      refine K _ _ _ ?_ R4 (m3.tr (mF.sq (P := fun q => q = 2 + t) (s4.sq (by intro q hq; simp at hq; exact hq)) (fun q hq => by omega)) (by have := s4.1; omega))
      rw [en]
      show (if r.2.1 then _ else _) = _
      rw [if_pos rt]
      rfl
    · have rf : r.2.1 = false := by
        cases hh : r.2.1 with
        | false => rfl
        | true => rw [ec, hh] at z; exact absurd z nb1
      refine x_callS0 (As := [_]) (d2 := d - 1) dX11_work_48 rfl kX11_151 okX11_told (by omega) rfl rfl (Nat.le_of_ble_eq_true rfl) (c_told0 ?_)
      refine x_ireturn dX11_work_51 rfl rfl ?_
      refine K _ _ _ ?_ k1 m3
      rw [en]
      show (if r.2.1 then _ else _) = _
      rw [rf]
      rfl
end PUB

