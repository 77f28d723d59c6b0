/-! EightParts: told -/
noncomputable def sp_part (S : St) (a b : Int32) : Int32 × St := match sE a with
  | none => (-30000, S)
  | some x => match sE b with
    | none => (-30000, S)
    | some p => (S.1 x p, S)
noncomputable def sp_norm (S : St) (a : Int32) : Int32 × St := match sE a with
  | none => (-1, S)
  | some x => (zCap (zInn (S.1 x) (S.1 x) 8), S)
noncomputable def sp_inner (S : St) (a b : Int32) : Int32 × St := match sE a with
  | none => (-1, S)
  | some x => match sE b with
    | none => (-1, S)
    | some y => (zCap (zInn (S.1 x) (S.1 y) 8), S)
noncomputable def bI (p : Prop) : Int32 := @ite _ p (Classical.propDecidable _) 1 0
theorem bI_t {p : Prop} (h : p) : bI p = 1 := if_pos h
theorem bI_f {p : Prop} (h : ¬ p) : bI p = 0 := if_neg h
noncomputable def sp_same (S : St) (a b : Int32) : Int32 × St := match sE a with
  | none => (-1, S)
  | some x => match sE b with
    | none => (-1, S)
    | some y => (bI (zSame (S.1 x) (S.1 y)), S)
def sp_odd (S : St) (a : Int32) : Int32 × St := match sE a with
  | none => (-1, S)
  | some x => (nI (oddN (S.1 x)), S)
noncomputable def sp_whole (S : St) (a : Int32) : Int32 × St := match sE a with
  | none => (-1, S)
  | some x => (bI (ofO S.2.1 (oddN (S.1 x)) = true), S)
def sp_orders (S : St) (a : Int32) : Int32 × St := match sE a with
  | none => (-1, S)
  | some x => (nI (zSet (fun o => ofO o (oddN (S.1 x))) 8), S)
noncomputable def sp_turned (S : St) (a n i p : Int32) : Int32 × St := match sE a with
  | none => (-30000, S)
  | some x => match eB 0 3 n with
    | none => (-30000, S)
    | some how => match sE i with
      | none => (-30000, S)
      | some j => match sE p with
        | none => (-30000, S)
        | some q => match oTurn (zOne j) (S.1 x) how with
          | none => (-30000, S)
          | some z => (z q, S)
/-- that it is 1, doubled -/
def isO (f : Nat → Int32) : Prop := f 0 = nI 2 ∧ zInn f f 8 = 4
noncomputable def zCy (x : Nat → Int32) : Nat → Nat → Int32
  | 0, _ => -2
  | f + 1, n => match oPow x n with
    | none => -2
    | some z => @ite _ (isO z) (Classical.propDecidable _) (nI n) (zCy x f (n + 1))
noncomputable def sp_cycle (S : St) (a : Int32) : Int32 × St := match sE a with
  | none => (-1, S)
  | some x => (zCy (S.1 x) 60 1, S)
noncomputable def zTc (x u : Nat → Int32) (how : Nat) : Nat → Nat → (Nat → Int32) → Int32
  | 0, _, _ => -2
  | f + 1, n, cur => match oTurn cur u how with
    | none => -2
    | some z => @ite _ (zSame z x) (Classical.propDecidable _) (nI n) (zTc x u how f (n + 1) z)
noncomputable def sp_turnCycle (S : St) (a b n : Int32) : Int32 × St := match sE a with
  | none => (-1, S)
  | some x => match sE b with
    | none => (-1, S)
    | some u => match eB 0 3 n with
      | none => (-1, S)
      | some how => (zTc (S.1 x) (S.1 u) how 60 1 (S.1 x), S)
def zDif (x y : Nat → Int32) : Nat → Int64 := fun j => (x j).toInt64 - (y j).toInt64
noncomputable def sp_alike (S : St) (a b n : Int32) : Int32 × St := match sE a with
  | none => (-1, S)
  | some x => match sE b with
    | none => (-1, S)
    | some y => match eB 1 1000 n with
      | none => (-1, S)
      | some k => (bI (zWB S.2.1 (zDif (S.1 x) (S.1 y)) (nI k).toInt64), S)
noncomputable def sp_laws (S : St) (a b c : Int32) : Int32 × St := match sE a with
  | none => (-1, S)
  | some x => match sE b with
    | none => (-1, S)
    | some y => match sE c with
      | none => (-1, S)
      | some z => (zLaws (S.1 x) (S.1 y) (S.1 z), S)
def sp_shared (S : St) (a b : Int32) : Int32 × St := match sE a with
  | none => (-1, S)
  | some o => match sE b with
    | none => (-1, S)
    | some p => (nI (zSh o p (mwN o)), S)
theorem zSame_e {f f2 g g2 : Nat → Int32} (h1 : c8 f = c8 f2) (h2 : c8 g = c8 g2) : zSame f g ↔ zSame f2 g2 := by
  have e1 := c8_eq.mp h1
  have e2 := c8_eq.mp h2
  unfold zSame
  constructor
  · intro z j hj; rw [← e1 j hj, ← e2 j hj]; exact z j hj
  · intro z j hj; rw [e1 j hj, e2 j hj]; exact z j hj
theorem oddN_e {f g : Nat → Int32} (h : c8 f = c8 g) : oddN f = oddN g := zSet_cong (fun j hj => by rw [c8_eq.mp h j hj])
theorem isO_e {f g : Nat → Int32} (h : c8 f = c8 g) : isO f ↔ isO g := by unfold isO; rw [zInn_e h h, c8_eq.mp h 0 (by decide)]
theorem zWB_e {o : Nat} {w v : Nat → Int64} {n : Int64} (h : ∀ j, j < 8 → w j = v j) : zWB o w n ↔ zWB o v n := by
  have e : zSet (fun j => pL (w j / n)) 8 = zSet (fun j => pL (v j / n)) 8 := zSet_cong (fun j hj => by rw [h j hj])
  unfold zWB
  rw [e]
  constructor
  · rintro ⟨a, b⟩; exact ⟨fun j hj => by rw [← h j hj]; exact a j hj, b⟩
  · rintro ⟨a, b⟩; exact ⟨fun j hj => by rw [h j hj]; exact a j hj, b⟩
theorem oHold_e {k : Nat} {w : Nat → Nat → Int32} {x y z : Nat → Int32} : oHold k w (c8 x) (c8 y) (c8 z) = oHold k w x y z := by
  have e1 := zInn_c x x 8 (Nat.le_refl _)
  have e2 := zInn_c y y 8 (Nat.le_refl _)
  by_cases e : k = 6
  · subst e
    unfold oHold
    rw [e1, e2]
    rfl
  · have el : oLaw k w (c8 x) (c8 y) (c8 z) = oLaw k w x y z := by
      unfold oLaw
      split <;> first | (exact absurd rfl e) | (simp only [oMul_cl, oMul_cr])
    unfold oHold
    rw [el, e1, e2]
theorem zLaws_e (x y z : Nat → Int32) : zLaws (c8 x) (c8 y) (c8 z) = zLaws x y z := by
  have e : ∀ w n, oHolds w (c8 x) (c8 y) (c8 z) n = oHolds w x y z n := by
    intro w n
    induction n with
    | zero => rfl
    | succ n ih => rw [oHolds, oHolds, ih, oHold_e]
  unfold zLaws oPairs
  simp only [oMul_c, e]
section PUB
variable {G : xG} {l : Launch} {d : Nat} {h : xH} {Q : Option Value → xH → Prop} {b : Bool} {S : St}
theorem p_part {a1 a2 : Int32} (hd : 10 ≤ d) (hR : RC b h S) (K : ∀ r S2 h2, sp_part S a1 a2 = (r, S2) → RC b h2 S2 → mF h h2 → Q (some (.int r)) h2) : xCt G l mX11_part d [.ref 0, .int a1, .int a2] h 0 0 Q := by
  have hC := hR.1
  refine xCt_of (by decide) (Nat.le_of_ble_eq_true rfl) ?_
  refine x_iload_n (i := 1) dX11_part_0 rfl rfl rfl ?_
  refine x_callS0 (As := [_]) (d2 := d - 1) dX11_part_1 rfl kX11_115 okX11_isEighth (by omega) rfl rfl (Nat.le_of_ble_eq_true rfl) (c_isEighth (fun z => ?_) (fun x hx ex qx => ?_))
  · refine x_if_eq_t (tgt := 25) dX11_part_4 rfl nI_0 ?_
    refine x_sipush dX11_part_25 rfl sC_m30000 ?_
    refine x_ireturn dX11_part_28 rfl rfl ?_
    exact K _ _ _ (by simp only [sp_part, z] <;> rfl) hR mF.rf
  subst ex
  refine x_if_eq_f (tgt := 25) dX11_part_4 rfl rfl nb1 ?_
  refine x_iload_n (i := 2) dX11_part_7 rfl rfl rfl ?_
  refine x_callS0 (As := [_]) (d2 := d - 1) dX11_part_8 rfl kX11_115 okX11_isEighth (by omega) rfl rfl (Nat.le_of_ble_eq_true rfl) (c_isEighth (fun z => ?_) (fun y hy ey qy => ?_))
  · refine x_if_eq_t (tgt := 25) dX11_part_11 rfl nI_0 ?_
    refine x_sipush dX11_part_25 rfl sC_m30000 ?_
    refine x_ireturn dX11_part_28 rfl rfl ?_
    exact K _ _ _ (by simp only [sp_part, qx, z] <;> rfl) hR mF.rf
  subst ey
  refine x_if_eq_f (tgt := 25) dX11_part_11 rfl rfl nb1 ?_
  have vx := hC.v (csV_slot hx)
  refine x_aload_n (i := 0) dX11_part_14 rfl rfl rfl ?_
  refine x_getC dX11_part_15 rfl fX11_11 hC rfl F_0_0 ?_
  refine x_iload_n (i := 1) dX11_part_18 rfl rfl rfl ?_
  refine x_aaldC (t := 0) dX11_part_19 rfl hC rfl (by decide) rfl (by omega) (by decide) (csF_slot hx) ?_
  refine x_iload_n (i := 2) dX11_part_20 rfl rfl rfl ?_
  refine x_iald dX11_part_21 rfl vx rfl (by omega) (by decide) ?_
  refine x_goto (tgt := 28) dX11_part_22 rfl ?_
  refine x_ireturn dX11_part_28 rfl rfl ?_
  exact K _ _ _ (by simp only [sp_part, qx, qy]; rw [← (hR.sl hx).1, c8_lt hy]) hR mF.rf
theorem p_norm {a1 : Int32} (hd : 10 ≤ d) (hR : RC b h S) (K : ∀ r S2 h2, sp_norm S a1 = (r, S2) → RC b h2 S2 → mF h h2 → Q (some (.int r)) h2) : xCt G l mX11_norm d [.ref 0, .int a1] h 0 0 Q := by
  have hC := hR.1
  refine xCt_of (by decide) (Nat.le_of_ble_eq_true rfl) ?_
  refine x_iload_n (i := 1) dX11_norm_0 rfl rfl rfl ?_
  refine x_callS0 (As := [_]) (d2 := d - 1) dX11_norm_1 rfl kX11_115 okX11_isEighth (by omega) rfl rfl (Nat.le_of_ble_eq_true rfl) (c_isEighth (fun z => ?_) (fun x hx ex qx => ?_))
  · refine x_if_eq_t (tgt := 22) dX11_norm_4 rfl nI_0 ?_
    refine x_iconst dX11_norm_22 rfl iC_m1 ?_
    refine x_ireturn dX11_norm_23 rfl rfl ?_
    exact K _ _ _ (by simp only [sp_norm, z] <;> rfl) hR mF.rf
  subst ex
  refine x_if_eq_f (tgt := 22) dX11_norm_4 rfl rfl nb1 ?_
  refine x_aload_n (i := 0) dX11_norm_7 rfl rfl rfl ?_
  refine x_getC dX11_norm_8 rfl fX11_11 hC rfl F_0_0 ?_
  refine x_iload_n (i := 1) dX11_norm_11 rfl rfl rfl ?_
  refine x_aaldC (t := 0) dX11_norm_12 rfl hC rfl (by decide) rfl (by omega) (by decide) (csF_slot hx) ?_
  refine x_callS0 (As := [_]) (d2 := d - 1) dX11_norm_13 rfl kX11_236 okX5_normBy4 (by omega) rfl rfl (Nat.le_of_ble_eq_true rfl) (c_normBy4 (by omega) (hC.v (csV_slot hx)) ?_)
  refine x_callS0 (As := [_]) (d2 := d - 1) dX11_norm_16 rfl kX11_240 okX11_capped (by omega) rfl rfl (Nat.le_of_ble_eq_true rfl) (c_capped (by omega) ?_)
  refine x_goto (tgt := 23) dX11_norm_19 rfl ?_
  refine x_ireturn dX11_norm_23 rfl rfl ?_
  exact K _ _ _ (by simp only [sp_norm, qx]; rw [zInn_e (hR.c hx) (hR.c hx)]) hR mF.rf
theorem p_inner {a1 a2 : Int32} (hd : 10 ≤ d) (hR : RC b h S) (K : ∀ r S2 h2, sp_inner S a1 a2 = (r, S2) → RC b h2 S2 → mF h h2 → Q (some (.int r)) h2) : xCt G l mX11_inner d [.ref 0, .int a1, .int a2] h 0 0 Q := by
  have hC := hR.1
  refine xCt_of (by decide) (Nat.le_of_ble_eq_true rfl) ?_
  refine x_iload_n (i := 1) dX11_inner_0 rfl rfl rfl ?_
  refine x_iload_n (i := 2) dX11_inner_1 rfl rfl rfl ?_
  refine x_callS0 (As := [_, _]) (d2 := d - 1) dX11_inner_2 rfl kX11_132 okX11_areSlots (by omega) rfl rfl (Nat.le_of_ble_eq_true rfl) (c_areSlots2 (by omega) (fun z => ?_) (fun x y hx hy ex ey qx qy => ?_))
  · refine x_if_eq_t (tgt := 29) dX11_inner_5 rfl nI_0 ?_
    refine x_iconst dX11_inner_29 rfl iC_m1 ?_
    refine x_ireturn dX11_inner_30 rfl rfl ?_
    exact K _ _ _ (by rcases z with z | ⟨i, z0, z⟩; exact (by simp only [sp_inner, z] <;> rfl); exact (by simp only [sp_inner, z0, z] <;> rfl)) hR mF.rf
  subst ex ey
  refine x_if_eq_f (tgt := 29) dX11_inner_5 rfl rfl nb1 ?_
  refine x_aload_n (i := 0) dX11_inner_8 rfl rfl rfl ?_
  refine x_getC dX11_inner_9 rfl fX11_11 hC rfl F_0_0 ?_
  refine x_iload_n (i := 1) dX11_inner_12 rfl rfl rfl ?_
  refine x_aaldC (t := 0) dX11_inner_13 rfl hC rfl (by decide) rfl (by omega) (by decide) (csF_slot hx) ?_
  refine x_aload_n (i := 0) dX11_inner_14 rfl rfl rfl ?_
  refine x_getC dX11_inner_15 rfl fX11_11 hC rfl F_0_0 ?_
  refine x_iload_n (i := 2) dX11_inner_18 rfl rfl rfl ?_
  refine x_aaldC (t := 0) dX11_inner_19 rfl hC rfl (by decide) rfl (by omega) (by decide) (csF_slot hy) ?_
  refine x_callS0 (As := [_, _]) (d2 := d - 1) dX11_inner_20 rfl kX11_284 okX5_innerBy4 (by omega) rfl rfl (Nat.le_of_ble_eq_true rfl) (c_innerBy4 (hC.v (csV_slot hx)) (hC.v (csV_slot hy)) ?_)
  refine x_callS0 (As := [_]) (d2 := d - 1) dX11_inner_23 rfl kX11_240 okX11_capped (by omega) rfl rfl (Nat.le_of_ble_eq_true rfl) (c_capped (by omega) ?_)
  refine x_goto (tgt := 30) dX11_inner_26 rfl ?_
  refine x_ireturn dX11_inner_30 rfl rfl ?_
  exact K _ _ _ (by simp only [sp_inner, qx, qy]; rw [zInn_e (hR.c hx) (hR.c hy)]) hR mF.rf
theorem p_same {a1 a2 : Int32} (hd : 10 ≤ d) (hR : RC b h S) (K : ∀ r S2 h2, sp_same S a1 a2 = (r, S2) → RC b h2 S2 → mF h h2 → Q (some (.int r)) h2) : xCt G l mX11_same d [.ref 0, .int a1, .int a2] h 0 0 Q := by
  have hC := hR.1
  refine xCt_of (by decide) (Nat.le_of_ble_eq_true rfl) ?_
  refine x_iload_n (i := 1) dX11_same_0 rfl rfl rfl ?_
  refine x_iload_n (i := 2) dX11_same_1 rfl rfl rfl ?_
  refine x_callS0 (As := [_, _]) (d2 := d - 1) dX11_same_2 rfl kX11_132 okX11_areSlots (by omega) rfl rfl (Nat.le_of_ble_eq_true rfl) (c_areSlots2 (by omega) (fun z => ?_) (fun x y hx hy ex ey qx qy => ?_))
  · refine x_if_eq_t (tgt := 29) dX11_same_5 rfl nI_0 ?_
    refine x_iconst dX11_same_29 rfl iC_m1 ?_
    refine x_ireturn dX11_same_30 rfl rfl ?_
    exact K _ _ _ (by rcases z with z | ⟨i, z0, z⟩; exact (by simp only [sp_same, z] <;> rfl); exact (by simp only [sp_same, z0, z] <;> rfl)) hR mF.rf
  subst ex ey
  refine x_if_eq_f (tgt := 29) dX11_same_5 rfl rfl nb1 ?_
  have e := zSame_e (hR.c hx) (hR.c hy)
  refine x_aload_n (i := 0) dX11_same_8 rfl rfl rfl ?_
  refine x_getC dX11_same_9 rfl fX11_11 hC rfl F_0_0 ?_
  refine x_iload_n (i := 1) dX11_same_12 rfl rfl rfl ?_
  refine x_aaldC (t := 0) dX11_same_13 rfl hC rfl (by decide) rfl (by omega) (by decide) (csF_slot hx) ?_
  refine x_aload_n (i := 0) dX11_same_14 rfl rfl rfl ?_
  refine x_getC dX11_same_15 rfl fX11_11 hC rfl F_0_0 ?_
  refine x_iload_n (i := 2) dX11_same_18 rfl rfl rfl ?_
  refine x_aaldC (t := 0) dX11_same_19 rfl hC rfl (by decide) rfl (by omega) (by decide) (csF_slot hy) ?_
  refine x_callS0 (As := [_, _]) (d2 := d - 1) dX11_same_20 rfl kX11_273 okX5_areEqual (by omega) rfl rfl (Nat.le_of_ble_eq_true rfl) (c_areEqual (hC.v (csV_slot hx)) (hC.v (csV_slot hy)) (fun z => ?_) (fun z => ?_))
  · refine x_callS0 (As := [_]) (d2 := d - 1) dX11_same_23 rfl kX11_267 okX11_asked (by omega) rfl rfl (Nat.le_of_ble_eq_true rfl) (c_asked1 ?_)
    refine x_goto (tgt := 30) dX11_same_26 rfl ?_
    refine x_ireturn dX11_same_30 rfl rfl ?_
    exact K _ _ _ (by simp only [sp_same, qx, qy]; rw [bI_t (e.mpr z)]; rfl) hR mF.rf
  · refine x_callS0 (As := [_]) (d2 := d - 1) dX11_same_23 rfl kX11_267 okX11_asked (by omega) rfl rfl (Nat.le_of_ble_eq_true rfl) (c_asked0 ?_)
    refine x_goto (tgt := 30) dX11_same_26 rfl ?_
    refine x_ireturn dX11_same_30 rfl rfl ?_
    exact K _ _ _ (by simp only [sp_same, qx, qy]; rw [bI_f (fun q => z (e.mp q))]; rfl) hR mF.rf
theorem p_odd {a1 : Int32} (hd : 10 ≤ d) (hR : RC b h S) (K : ∀ r S2 h2, sp_odd S a1 = (r, S2) → RC b h2 S2 → mF h h2 → Q (some (.int r)) h2) : xCt G l mX11_odd d [.ref 0, .int a1] h 0 0 Q := by
  have hC := hR.1
  refine xCt_of (by decide) (Nat.le_of_ble_eq_true rfl) ?_
  refine x_iload_n (i := 1) dX11_odd_0 rfl rfl rfl ?_
  refine x_callS0 (As := [_]) (d2 := d - 1) dX11_odd_1 rfl kX11_115 okX11_isEighth (by omega) rfl rfl (Nat.le_of_ble_eq_true rfl) (c_isEighth (fun z => ?_) (fun x hx ex qx => ?_))
  · refine x_if_eq_t (tgt := 19) dX11_odd_4 rfl nI_0 ?_
    refine x_iconst dX11_odd_19 rfl iC_m1 ?_
    refine x_ireturn dX11_odd_20 rfl rfl ?_
    exact K _ _ _ (by simp only [sp_odd, z] <;> rfl) hR mF.rf
  subst ex
  refine x_if_eq_f (tgt := 19) dX11_odd_4 rfl rfl nb1 ?_
  refine x_aload_n (i := 0) dX11_odd_7 rfl rfl rfl ?_
  refine x_getC dX11_odd_8 rfl fX11_11 hC rfl F_0_0 ?_
  refine x_iload_n (i := 1) dX11_odd_11 rfl rfl rfl ?_
  refine x_aaldC (t := 0) dX11_odd_12 rfl hC rfl (by decide) rfl (by omega) (by decide) (csF_slot hx) ?_
  refine x_callS0 (As := [_]) (d2 := d - 1) dX11_odd_13 rfl kX11_260 okX5_oddSet (by omega) rfl rfl (Nat.le_of_ble_eq_true rfl) (c_odd (hC.v (csV_slot hx)) ?_)
  refine x_goto (tgt := 20) dX11_odd_16 rfl ?_
  refine x_ireturn dX11_odd_20 rfl rfl ?_
  exact K _ _ _ (by simp only [sp_odd, qx]; rw [oddN_e (hR.c hx)]) hR mF.rf
theorem p_whole {a1 : Int32} (hd : 10 ≤ d) (hR : RC b h S) (K : ∀ r S2 h2, sp_whole S a1 = (r, S2) → RC b h2 S2 → mF h h2 → Q (some (.int r)) h2) : xCt G l mX11_whole d [.ref 0, .int a1] h 0 0 Q := by
  have hC := hR.1
  refine xCt_of (by decide) (Nat.le_of_ble_eq_true rfl) ?_
  refine x_iload_n (i := 1) dX11_whole_0 rfl rfl rfl ?_
  refine x_callS0 (As := [_]) (d2 := d - 1) dX11_whole_1 rfl kX11_115 okX11_isEighth (by omega) rfl rfl (Nat.le_of_ble_eq_true rfl) (c_isEighth (fun z => ?_) (fun x hx ex qx => ?_))
  · refine x_if_eq_t (tgt := 26) dX11_whole_4 rfl nI_0 ?_
    refine x_iconst dX11_whole_26 rfl iC_m1 ?_
    refine x_ireturn dX11_whole_27 rfl rfl ?_
    exact K _ _ _ (by simp only [sp_whole, z] <;> rfl) hR mF.rf
  subst ex
  refine x_if_eq_f (tgt := 26) dX11_whole_4 rfl rfl nb1 ?_
  have e := oddN_e (hR.c hx)
  refine x_aload_n (i := 0) dX11_whole_7 rfl rfl rfl ?_
  refine x_getC dX11_whole_8 rfl fX11_24 hC rfl F_0_2 ?_
  refine x_aload_n (i := 0) dX11_whole_11 rfl rfl rfl ?_
  refine x_getC dX11_whole_12 rfl fX11_11 hC rfl F_0_0 ?_
  refine x_iload_n (i := 1) dX11_whole_15 rfl rfl rfl ?_
  refine x_aaldC (t := 0) dX11_whole_16 rfl hC rfl (by decide) rfl (by omega) (by decide) (csF_slot hx) ?_
  refine x_callV0 (ci := 2) (b := 14) (As := [_]) (d2 := d - 1) dX11_whole_17 rfl kX11_264 okX2_isWhole (hC.o rfl) (fun q hq => by cases hq; rfl) (by omega) rfl rfl (Nat.le_of_ble_eq_true rfl) (c_isWhole (by omega) hC hR.o.2 hR.o.1 (csV_slot hx) (fun z => ?_) (fun z => ?_))
  · refine x_callS0 (As := [_]) (d2 := d - 1) dX11_whole_20 rfl kX11_267 okX11_asked (by omega) rfl rfl (Nat.le_of_ble_eq_true rfl) (c_asked1 ?_)
    refine x_goto (tgt := 27) dX11_whole_23 rfl ?_
    refine x_ireturn dX11_whole_27 rfl rfl ?_
    exact K _ _ _ (by simp only [sp_whole, qx]; rw [e, bI_t z]; rfl) hR mF.rf
  · refine x_callS0 (As := [_]) (d2 := d - 1) dX11_whole_20 rfl kX11_267 okX11_asked (by omega) rfl rfl (Nat.le_of_ble_eq_true rfl) (c_asked0 ?_)
    refine x_goto (tgt := 27) dX11_whole_23 rfl ?_
    refine x_ireturn dX11_whole_27 rfl rfl ?_
    exact K _ _ _ (by simp only [sp_whole, qx]; rw [e, bI_f (by rw [z]; decide)]; rfl) hR mF.rf
theorem or_bit8 {p : Nat → Bool} {i : Nat} (hi : i < 8) : (p i = true → nI (zSet p i) ||| (nI 1 <<< (nI i &&& 31)) = nI (zSet p (i + 1))) ∧ (p i = false → zSet p (i + 1) = zSet p i) := by
  have h1 := zSet_lt p i
  have h2 : 2 ^ i ≤ 128 := by
    have : 2 ^ i ≤ 2 ^ 7 := Nat.pow_le_pow_right (by decide) (by omega)
    exact this
  constructor
  · intro e
    rw [(or_bit i hi _ (by omega) h1).1, zSet, e]
    rfl
  · intro e
    rw [zSet, e]
    rfl
theorem p_orders {a1 : Int32} (hd : 10 ≤ d) (hR : RC b h S) (K : ∀ r S2 h2, sp_orders S a1 = (r, S2) → RC b h2 S2 → mF h h2 → Q (some (.int r)) h2) : xCt G l mX11_orders d [.ref 0, .int a1] h 0 0 Q := by
  have hC := hR.1
  refine xCt_of (by decide) (Nat.le_of_ble_eq_true rfl) ?_
  refine x_iload_n (i := 1) dX11_orders_0 rfl rfl rfl ?_
  refine x_callS0 (As := [_]) (d2 := d - 1) dX11_orders_1 rfl kX11_115 okX11_isEighth (by omega) rfl rfl (Nat.le_of_ble_eq_true rfl) (c_isEighth (fun z => ?_) (fun x hx ex qx => ?_))
  · refine x_if_ne_f (tgt := 9) dX11_orders_4 rfl rfl nI_0 ?_
    refine x_iconst dX11_orders_7 rfl iC_m1 ?_
    refine x_ireturn dX11_orders_8 rfl rfl ?_
    exact K _ _ _ (by simp only [sp_orders, z] <;> rfl) hR mF.rf
  subst ex
  refine x_if_ne_t (tgt := 9) dX11_orders_4 rfl nb1 ?_
  have e := oddN_e (hR.c hx)
  refine x_aload_n (i := 0) dX11_orders_9 rfl rfl rfl ?_
  refine x_getC dX11_orders_10 rfl fX11_11 hC rfl F_0_0 ?_
  refine x_iload_n (i := 1) dX11_orders_13 rfl rfl rfl ?_
  refine x_aaldC (t := 0) dX11_orders_14 rfl hC rfl (by decide) rfl (by omega) (by decide) (csF_slot hx) ?_
  refine x_callS0 (As := [_]) (d2 := d - 1) dX11_orders_15 rfl kX11_260 okX5_oddSet (by omega) rfl rfl (Nat.le_of_ble_eq_true rfl) (c_odd (hC.v (csV_slot hx)) ?_)
  rw [← e]
  refine x_istore_n (i := 2) dX11_orders_18 rfl rfl (by decide) ?_
  refine x_iconst dX11_orders_19 rfl iC_0 ?_
  refine x_istore_n (i := 3) dX11_orders_20 rfl rfl (by decide) ?_
  refine x_iconst dX11_orders_21 rfl iC_0 ?_
  refine x_istore dX11_orders_22 rfl (by decide) ?_
  have key := xloop (P := fun i => xWP G l mX11_orders d (zM G Q) 0 0 24 (xls [(2, .int (nI (oddN (S.1 x)))), (3, .int (nI (zSet (fun o => ofO o (oddN (S.1 x))) i))), (4, .int (nI i))]) [] h) 8 (by
    intro i hi ih
    refine x_iload dX11_orders_24 rfl rfl ?_
    refine x_bipush dX11_orders_26 rfl bC_8 ?_
    refine x_jc_ge (tgt := 53) dX11_orders_28 rfl rfl (by omega) (by omega) (fun c28 => ?_) (fun c28 => ?_)
    · obtain rfl : i = 8 := by omega
      refine x_iload_n (i := 3) dX11_orders_53 rfl rfl rfl ?_
      refine x_ireturn dX11_orders_54 rfl rfl ?_
      exact K _ _ _ (by simp only [sp_orders, qx]) hR mF.rf
    · refine x_iload dX11_orders_31 rfl rfl ?_
      refine x_iload_n (i := 2) dX11_orders_33 rfl rfl rfl ?_
      refine x_callS0 (As := [_, _]) (d2 := d - 1) dX11_orders_34 rfl kX11_270 okX2_mayBeOdd (by omega) rfl rfl (Nat.le_of_ble_eq_true rfl) (c_mayBeOdd (by omega) c28 (oddN_lt _) (fun z => ?_) (fun z => ?_))
      · refine x_if_eq_f (tgt := 47) dX11_orders_37 rfl rfl nb1 ?_
        refine x_iload_n (i := 3) dX11_orders_40 rfl rfl rfl ?_
        refine x_iconst dX11_orders_41 rfl iC_1 ?_
        refine x_iload dX11_orders_42 rfl rfl ?_
        refine x_ishl dX11_orders_44 rfl ?_
        refine x_ior dX11_orders_45 rfl ?_
        rw [(or_bit8 (p := fun o => ofO o (oddN (S.1 x))) c28).1 z]
        refine x_istore_n (i := 3) dX11_orders_46 rfl rfl (by decide) ?_
        refine x_iinc dX11_orders_47 rfl rfl (inc1 _) ?_
        refine x_goto (tgt := 24) dX11_orders_50 rfl ?_
        exact x_to (ih c28) ⟨rfl, rfl, rfl, trivial⟩
      · refine x_if_eq_t (tgt := 47) dX11_orders_37 rfl nI_0 ?_
        refine x_iinc dX11_orders_47 rfl rfl (inc1 _) ?_
        refine x_goto (tgt := 24) dX11_orders_50 rfl ?_
        exact x_to (ih c28) ⟨rfl, by rw [(or_bit8 (p := fun o => ofO o (oddN (S.1 x))) c28).2 z]; rfl, rfl, trivial⟩) 0 (Nat.zero_le _)
  exact x_to key ⟨rfl, rfl, rfl, trivial⟩
theorem p_turned {a1 n a2 a3 : Int32} (hd : 10 ≤ d) (hR : RC b h S) (K : ∀ r S2 h2, sp_turned S a1 n a2 a3 = (r, S2) → RC b h2 S2 → mF h h2 → Q (some (.int r)) h2) : xCt G l mX11_turned d [.ref 0, .int a1, .int n, .int a2, .int a3] h 0 0 Q := by
  have hC := hR.1
  refine xCt_of (by decide) (Nat.le_of_ble_eq_true rfl) ?_
  refine x_iload_n (i := 1) dX11_turned_0 rfl rfl rfl ?_
  refine x_callS0 (As := [_]) (d2 := d - 1) dX11_turned_1 rfl kX11_115 okX11_isEighth (by omega) rfl rfl (Nat.le_of_ble_eq_true rfl) (c_isEighth (fun z => ?_) (fun x hx ex qx => ?_))
  · refine x_if_eq_t (tgt := 29) dX11_turned_4 rfl nI_0 ?_
    refine x_sipush dX11_turned_29 rfl sC_m30000 ?_
    refine x_ireturn dX11_turned_32 rfl rfl ?_
    exact K _ _ _ (by simp only [sp_turned, z] <;> rfl) hR mF.rf
  subst ex
  refine x_if_eq_f (tgt := 29) dX11_turned_4 rfl rfl nb1 ?_
  refine x_iload_n (i := 2) dX11_turned_7 rfl rfl rfl ?_
  refine x_callS0 (As := [_]) (d2 := d - 1) dX11_turned_8 rfl kX11_166 okX11_isTurn (by omega) rfl rfl (Nat.le_of_ble_eq_true rfl) (c_isTurn (fun z => ?_) (fun w hw ew qw => ?_))
  · refine x_if_eq_t (tgt := 29) dX11_turned_11 rfl nI_0 ?_
    refine x_sipush dX11_turned_29 rfl sC_m30000 ?_
    refine x_ireturn dX11_turned_32 rfl rfl ?_
    exact K _ _ _ (by simp only [sp_turned, qx, z] <;> rfl) hR mF.rf
  subst ew
  refine x_if_eq_f (tgt := 29) dX11_turned_11 rfl rfl nb1 ?_
  refine x_iload_n (i := 3) dX11_turned_14 rfl rfl rfl ?_
  refine x_callS0 (As := [_]) (d2 := d - 1) dX11_turned_15 rfl kX11_115 okX11_isEighth (by omega) rfl rfl (Nat.le_of_ble_eq_true rfl) (c_isEighth (fun z => ?_) (fun i hi ei qi => ?_))
  · refine x_if_eq_t (tgt := 29) dX11_turned_18 rfl nI_0 ?_
    refine x_sipush dX11_turned_29 rfl sC_m30000 ?_
    refine x_ireturn dX11_turned_32 rfl rfl ?_
    exact K _ _ _ (by simp only [sp_turned, qx, qw, z] <;> rfl) hR mF.rf
  subst ei
  refine x_if_eq_f (tgt := 29) dX11_turned_18 rfl rfl nb1 ?_
  refine x_iload dX11_turned_21 rfl rfl ?_
  refine x_callS0 (As := [_]) (d2 := d - 1) dX11_turned_23 rfl kX11_115 okX11_isEighth (by omega) rfl rfl (Nat.le_of_ble_eq_true rfl) (c_isEighth (fun z => ?_) (fun p hp ep qp => ?_))
  · refine x_if_ne_f (tgt := 33) dX11_turned_26 rfl rfl nI_0 ?_
    refine x_sipush dX11_turned_29 rfl sC_m30000 ?_
    refine x_ireturn dX11_turned_32 rfl rfl ?_
    exact K _ _ _ (by simp only [sp_turned, qx, qw, qi, z] <;> rfl) hR mF.rf
  subst ep
  refine x_if_ne_t (tgt := 33) dX11_turned_26 rfl nb1 ?_
  have v106 := hC.v (a := 106) rfl
  refine x_aload_n (i := 0) dX11_turned_33 rfl rfl rfl ?_
  refine x_getC dX11_turned_34 rfl fX11_101 hC rfl F_0_12 ?_
  refine x_iload_n (i := 3) dX11_turned_37 rfl rfl rfl ?_
  refine x_callS0 (As := [_, _]) (d2 := d - 1) dX11_turned_38 rfl kX11_119 okX5_layOne (by omega) rfl rfl (Nat.le_of_ble_eq_true rfl) (c_layOne (by omega) hi v106 ?_)
  have hC2 := hC.setI (f := zOne i) v106 (Or.inl rfl) (by decide)
  have q1 : xSq scP h (hs h 106 (0, 8, xI (zOne i))) := xSm.hs1.sc (by intro q hq; simp only [List.mem_cons, List.not_mem_nil, or_false] at hq; unfold scP; omega)
  have e1 : iv (hs h 106 (0, 8, xI (zOne i))) (2 + x) = iv h (2 + x) := iv_n (by omega)
  have e2 : iv (hs h 106 (0, 8, xI (zOne i))) 106 = zOne i := iv_hs
  have e : oTurn (zOne i) (iv h (2 + x)) w = oTurn (zOne i) (S.1 x) w := oTurn_e rfl (hR.c hx).symm
  have hC := hC2
  refine x_aload_n (i := 0) dX11_turned_41 rfl rfl rfl ?_
  refine x_getC dX11_turned_42 rfl fX11_17 hC rfl F_0_1 ?_
  refine x_aload_n (i := 0) dX11_turned_45 rfl rfl rfl ?_
  refine x_getC dX11_turned_46 rfl fX11_101 hC rfl F_0_12 ?_
  refine x_aload_n (i := 0) dX11_turned_49 rfl rfl rfl ?_
  refine x_getC dX11_turned_50 rfl fX11_101 hC rfl F_0_12 ?_
  refine x_aload_n (i := 0) dX11_turned_53 rfl rfl rfl ?_
  refine x_getC dX11_turned_54 rfl fX11_11 hC rfl F_0_0 ?_
  refine x_iload_n (i := 1) dX11_turned_57 rfl rfl rfl ?_
  refine x_aaldC (t := 0) dX11_turned_58 rfl hC rfl (by decide) rfl (by omega) (by decide) (csF_slot hx) ?_
  refine x_iload_n (i := 2) dX11_turned_59 rfl rfl rfl ?_
  refine x_callV0 (ci := 7) (b := 10) (As := [_, _, _, _]) (d2 := d - 1) dX11_turned_60 rfl kX11_169 okX7_turnBy (hC.o rfl) (fun q hq => by cases hq; rfl) (by omega) rfl rfl (Nat.le_of_ble_eq_true rfl) (c_turnBy (by omega) hC (t := 106) rfl (a := 106) rfl (csV_slot hx) hw ⟨by omega, by omega⟩ (by decide) (fun z hz h2 hC2 hS hv => ?_) (fun hz h2 hC2 hS => ?_))
  · rw [e1, e2, e] at hz
    have hC := hC2
    have v106 := hC.v (a := 106) rfl
    have sq := q1.tr (hS.sc (by intro q hq; simp only [List.mem_cons, List.not_mem_nil, or_false] at hq; unfold scP; omega))
    refine x_if_eq_f (tgt := 76) dX11_turned_63 rfl rfl nb1 ?_
    refine x_aload_n (i := 0) dX11_turned_66 rfl rfl rfl ?_
    refine x_getC dX11_turned_67 rfl fX11_101 hC rfl F_0_12 ?_
    refine x_iload dX11_turned_70 rfl rfl ?_
    refine x_iald dX11_turned_72 rfl v106 rfl (by omega) (by decide) ?_
    refine x_goto (tgt := 79) dX11_turned_73 rfl ?_
    refine x_ireturn dX11_turned_79 rfl rfl ?_
    rw [hv]
    exact K _ _ _ (by simp only [sp_turned, qx, qw, qi, qp, hz]) (hR.sc hC2 sq) (mF.sq sq (fun a => scP_lt))
  · rw [e1, e2, e] at hz
    have sq := q1.tr (hS.sc (by intro q hq; simp only [List.mem_cons, List.not_mem_nil, or_false] at hq; unfold scP; omega))
    refine x_if_eq_t (tgt := 76) dX11_turned_63 rfl nI_0 ?_
    refine x_sipush dX11_turned_76 rfl sC_m30000 ?_
    refine x_ireturn dX11_turned_79 rfl rfl ?_
    exact K _ _ _ (by simp only [sp_turned, qx, qw, qi, qp, hz]) (hR.sc hC2 sq) (mF.sq sq (fun a => scP_lt))
theorem p_cycle {a1 : Int32} (hd : 10 ≤ d) (hR : RC b h S) (K : ∀ r S2 h2, sp_cycle S a1 = (r, S2) → RC b h2 S2 → mF h h2 → Q (some (.int r)) h2) : xCt G l mX11_cycle d [.ref 0, .int a1] h 0 0 Q := by
  have hC := hR.1
  refine xCt_of (by decide) (Nat.le_of_ble_eq_true rfl) ?_
  refine x_iload_n (i := 1) dX11_cycle_0 rfl rfl rfl ?_
  refine x_callS0 (As := [_]) (d2 := d - 1) dX11_cycle_1 rfl kX11_115 okX11_isEighth (by omega) rfl rfl (Nat.le_of_ble_eq_true rfl) (c_isEighth (fun z => ?_) (fun x hx ex qx => ?_))
  · refine x_if_ne_f (tgt := 9) dX11_cycle_4 rfl rfl nI_0 ?_
    refine x_iconst dX11_cycle_7 rfl iC_m1 ?_
    refine x_ireturn dX11_cycle_8 rfl rfl ?_
    exact K _ _ _ (by simp only [sp_cycle, z] <;> rfl) hR mF.rf
  subst ex
  refine x_if_ne_t (tgt := 9) dX11_cycle_4 rfl nb1 ?_
  have en : sp_cycle S (nI x) = (zCy (S.1 x) 60 1, S) := by simp only [sp_cycle, qx]
  generalize hz0 : zCy (S.1 x) 60 1 = RR at en
  have v106 := hC.v (a := 106) rfl
  refine x_aload_n (i := 0) dX11_cycle_9 rfl rfl rfl ?_
  refine x_getC dX11_cycle_10 rfl fX11_101 hC rfl F_0_12 ?_
  refine x_iconst dX11_cycle_13 rfl iC_0 ?_
  refine x_callS0 (As := [_, _]) (d2 := d - 1) dX11_cycle_14 rfl kX11_119 okX5_layOne (by omega) rfl rfl (Nat.le_of_ble_eq_true rfl) (c_layOne (by omega) (i := 0) (by decide) v106 ?_)
  refine x_iconst dX11_cycle_17 rfl iC_1 ?_
  refine x_istore_n (i := 2) dX11_cycle_18 rfl rfl (by decide) ?_
  have key := xloop (P := fun k => 1 ≤ k → ∀ h1 f, Cs h1 → xSq scP h h1 → oPow (S.1 x) (k - 1) = some f → iv h1 106 = f → RR = zCy (S.1 x) (61 - k) k → xWP G l mX11_cycle d (zM G Q) 0 0 19 (xls [(0, .ref 0), (1, .int (nI x)), (2, .int (nI k))]) [] h1) 61 (by
    intro k hk ih k1 h1 f hC1 q1 ef e1 ez
    have hC := hC1
    refine x_iload_n (i := 2) dX11_cycle_19 rfl rfl rfl ?_
    refine x_bipush dX11_cycle_20 rfl bC_60 ?_
    refine x_jc_gt (tgt := 70) dX11_cycle_22 rfl rfl (by omega) (by omega) (fun c22 => ?_) (fun c22 => ?_)
    · obtain rfl : k = 61 := by omega
      refine x_bipush dX11_cycle_70 rfl bC_m2 ?_
      refine x_ireturn dX11_cycle_72 rfl rfl ?_
      exact K _ _ _ (by rw [en, ez]; rfl) (hR.sc hC1 q1) (mF.sq q1 (fun a => scP_lt))
    · obtain ⟨m, hm⟩ : ∃ m, 61 - k = m + 1 := ⟨60 - k, by omega⟩
      obtain ⟨k0, hk0⟩ : ∃ k0, k = k0 + 1 := ⟨k - 1, by omega⟩
      rw [hm, zCy] at ez
      refine x_aload_n (i := 0) dX11_cycle_25 rfl rfl rfl ?_
      refine x_getC dX11_cycle_26 rfl fX11_17 hC rfl F_0_1 ?_
      refine x_aload_n (i := 0) dX11_cycle_29 rfl rfl rfl ?_
      refine x_getC dX11_cycle_30 rfl fX11_101 hC rfl F_0_12 ?_
      refine x_aload_n (i := 0) dX11_cycle_33 rfl rfl rfl ?_
      refine x_getC dX11_cycle_34 rfl fX11_101 hC rfl F_0_12 ?_
      refine x_aload_n (i := 0) dX11_cycle_37 rfl rfl rfl ?_
      refine x_getC dX11_cycle_38 rfl fX11_11 hC rfl F_0_0 ?_
      refine x_iload_n (i := 1) dX11_cycle_41 rfl rfl rfl ?_
      refine x_aaldC (t := 0) dX11_cycle_42 rfl hC rfl (by decide) rfl (by omega) (by decide) (csF_slot hx) ?_
      have e2 : oMul (iv h1 106) (iv h1 (2 + x)) = oPow (S.1 x) k := by
        rw [hk0, oPow, show k0 = k - 1 by omega, ef, Option.bind_some, e1]
        exact oMul_e rfl (by rw [q1.iv (by unfold scP; omega)]; exact (hR.c hx).symm)
      refine x_callV0 (ci := 7) (b := 10) (As := [_, _, _]) (d2 := d - 1) dX11_cycle_43 rfl kX11_155 okX7_multiply (hC.o rfl) (fun q hq => by cases hq; rfl) (by omega) rfl rfl (Nat.le_of_ble_eq_true rfl) (c_mul (by omega) hC (t := 106) rfl (a := 106) rfl (csV_slot hx) (fun z hz h2 hC2 hS hv => ?_) (fun hz h2 hC2 hS => ?_))
      · rw [e2] at hz
        rw [hz] at ez
        have sq := q1.tr (hS.sc (by intro q hq; simp only [List.mem_cons, List.not_mem_nil, or_false] at hq; unfold scP; omega))
        have hC := hC2
        have v106 := hC.v (a := 106) rfl
        refine x_if_ne_t (tgt := 52) dX11_cycle_46 rfl nb1 ?_
        refine x_aload_n (i := 0) dX11_cycle_52 rfl rfl rfl ?_
        refine x_getC dX11_cycle_53 rfl fX11_101 hC rfl F_0_12 ?_
        refine x_callS0 (As := [_]) (d2 := d - 1) dX11_cycle_56 rfl kX11_294 okX5_isOne (by omega) rfl rfl (Nat.le_of_ble_eq_true rfl) (c_isOne (by omega) v106 (fun y => ?_) (fun y => ?_))
        · rw [hv] at y
          refine x_if_eq_f (tgt := 64) dX11_cycle_59 rfl rfl nb1 ?_
          refine x_iload_n (i := 2) dX11_cycle_62 rfl rfl rfl ?_
          refine x_ireturn dX11_cycle_63 rfl rfl ?_
          exact K _ _ _ (by rw [en, ez]; exact congrArg (fun q => (q, S)) (if_pos y)) (hR.sc hC2 sq) (mF.sq sq (fun a => scP_lt))
        · rw [hv] at y
          refine x_if_eq_t (tgt := 64) dX11_cycle_59 rfl nI_0 ?_
          refine x_iinc dX11_cycle_64 rfl rfl (inc1 _) ?_
          refine x_goto (tgt := 19) dX11_cycle_67 rfl ?_
          refine x_to (ih (by omega) (by omega) h2 z hC2 sq hz hv ?_) ⟨rfl, rfl, rfl, trivial⟩
          rw [ez, show 61 - (k + 1) = m by omega]
          exact if_neg y
      · rw [e2] at hz
        rw [hz] at ez
        have sq := q1.tr (hS.sc (by intro q hq; simp only [List.mem_cons, List.not_mem_nil, or_false] at hq; unfold scP; omega))
        refine x_if_ne_f (tgt := 52) dX11_cycle_46 rfl rfl nI_0 ?_
        refine x_bipush dX11_cycle_49 rfl bC_m2 ?_
        refine x_ireturn dX11_cycle_51 rfl rfl ?_
        exact K _ _ _ (by rw [en, ez]) (hR.sc hC2 sq) (mF.sq sq (fun a => scP_lt))) 1 (by decide) (Nat.le_refl _)
  exact x_to (key _ (zOne 0) (hC.setI v106 (Or.inl rfl) (by decide)) (xSm.hs1.sc (by intro q hq; simp only [List.mem_cons, List.not_mem_nil, or_false] at hq; unfold scP; omega)) rfl iv_hs hz0.symm) ⟨rfl, rfl, rfl, trivial⟩
theorem p_turnCycle {a1 a2 n : Int32} (hd : 10 ≤ d) (hR : RC b h S) (K : ∀ r S2 h2, sp_turnCycle S a1 a2 n = (r, S2) → RC b h2 S2 → mF h h2 → Q (some (.int r)) h2) : xCt G l mX11_turnCycle d [.ref 0, .int a1, .int a2, .int n] h 0 0 Q := by
  have hC := hR.1
  refine xCt_of (by decide) (Nat.le_of_ble_eq_true rfl) ?_
  refine x_iload_n (i := 1) dX11_turnCycle_0 rfl rfl rfl ?_
  refine x_iload_n (i := 2) dX11_turnCycle_1 rfl rfl rfl ?_
  refine x_callS0 (As := [_, _]) (d2 := d - 1) dX11_turnCycle_2 rfl kX11_132 okX11_areSlots (by omega) rfl rfl (Nat.le_of_ble_eq_true rfl) (c_areSlots2 (by omega) (fun z => ?_) (fun x u hx hu ex eu qx qu => ?_))
  · refine x_if_eq_t (tgt := 15) dX11_turnCycle_5 rfl nI_0 ?_
    refine x_iconst dX11_turnCycle_15 rfl iC_m1 ?_
    refine x_ireturn dX11_turnCycle_16 rfl rfl ?_
    exact K _ _ _ (by rcases z with z | ⟨i, z0, z⟩; exact (by simp only [sp_turnCycle, z] <;> rfl); exact (by simp only [sp_turnCycle, z0, z] <;> rfl)) hR mF.rf
  subst ex eu
  refine x_if_eq_f (tgt := 15) dX11_turnCycle_5 rfl rfl nb1 ?_
  refine x_iload_n (i := 3) dX11_turnCycle_8 rfl rfl rfl ?_
  refine x_callS0 (As := [_]) (d2 := d - 1) dX11_turnCycle_9 rfl kX11_166 okX11_isTurn (by omega) rfl rfl (Nat.le_of_ble_eq_true rfl) (c_isTurn (fun z => ?_) (fun w hw ew qw => ?_))
  · refine x_if_ne_f (tgt := 17) dX11_turnCycle_12 rfl rfl nI_0 ?_
    refine x_iconst dX11_turnCycle_15 rfl iC_m1 ?_
    refine x_ireturn dX11_turnCycle_16 rfl rfl ?_
    exact K _ _ _ (by simp only [sp_turnCycle, qx, qu, z] <;> rfl) hR mF.rf
  subst ew
  refine x_if_ne_t (tgt := 17) dX11_turnCycle_12 rfl nb1 ?_
  have en : sp_turnCycle S (nI x) (nI u) (nI w) = (zTc (S.1 x) (S.1 u) w 60 1 (S.1 x), S) := by simp only [sp_turnCycle, qx, qu, qw]
  generalize hz0 : zTc (S.1 x) (S.1 u) w 60 1 (S.1 x) = RR at en
  have v106 := hC.v (a := 106) rfl
  have vx := hC.v (csV_slot hx)
  refine x_aload_n (i := 0) dX11_turnCycle_17 rfl rfl rfl ?_
  refine x_getC dX11_turnCycle_18 rfl fX11_101 hC rfl F_0_12 ?_
  refine x_aload_n (i := 0) dX11_turnCycle_21 rfl rfl rfl ?_
  refine x_getC dX11_turnCycle_22 rfl fX11_11 hC rfl F_0_0 ?_
  refine x_iload_n (i := 1) dX11_turnCycle_25 rfl rfl rfl ?_
  refine x_aaldC (t := 0) dX11_turnCycle_26 rfl hC rfl (by decide) rfl (by omega) (by decide) (csF_slot hx) ?_
  refine x_callS0 (As := [_, _]) (d2 := d - 1) dX11_turnCycle_27 rfl kX11_136 okX5_lay (by omega) rfl rfl (Nat.le_of_ble_eq_true rfl) (c_lay (by omega) v106 vx ?_)
  refine x_iconst dX11_turnCycle_30 rfl iC_1 ?_
  refine x_istore dX11_turnCycle_31 rfl (by decide) ?_
  have key := xloop (P := fun k => 1 ≤ k → ∀ h1 f, Cs h1 → xSq scP h h1 → c8 (iv h1 106) = c8 f → RR = zTc (S.1 x) (S.1 u) w (61 - k) k f → xWP G l mX11_turnCycle d (zM G Q) 0 0 33 (xls [(0, .ref 0), (1, .int (nI x)), (2, .int (nI u)), (3, .int (nI w)), (4, .int (nI k))]) [] h1) 61 (by
    intro k hk ih k1 h1 f hC1 q1 e1 ez
    have hC := hC1
    refine x_iload dX11_turnCycle_33 rfl rfl ?_
    refine x_bipush dX11_turnCycle_35 rfl bC_60 ?_
    refine x_jc_gt (tgt := 93) dX11_turnCycle_37 rfl rfl (by omega) (by omega) (fun c37 => ?_) (fun c37 => ?_)
    · obtain rfl : k = 61 := by omega
      refine x_bipush dX11_turnCycle_93 rfl bC_m2 ?_
      refine x_ireturn dX11_turnCycle_95 rfl rfl ?_
      exact K _ _ _ (by rw [en, ez]; rfl) (hR.sc hC1 q1) (mF.sq q1 (fun a => scP_lt))
    · obtain ⟨m, hm⟩ : ∃ m, 61 - k = m + 1 := ⟨60 - k, by omega⟩
      rw [hm, zTc] at ez
      refine x_aload_n (i := 0) dX11_turnCycle_40 rfl rfl rfl ?_
      refine x_getC dX11_turnCycle_41 rfl fX11_17 hC rfl F_0_1 ?_
      refine x_aload_n (i := 0) dX11_turnCycle_44 rfl rfl rfl ?_
      refine x_getC dX11_turnCycle_45 rfl fX11_101 hC rfl F_0_12 ?_
      refine x_aload_n (i := 0) dX11_turnCycle_48 rfl rfl rfl ?_
      refine x_getC dX11_turnCycle_49 rfl fX11_101 hC rfl F_0_12 ?_
      refine x_aload_n (i := 0) dX11_turnCycle_52 rfl rfl rfl ?_
      refine x_getC dX11_turnCycle_53 rfl fX11_11 hC rfl F_0_0 ?_
      refine x_iload_n (i := 2) dX11_turnCycle_56 rfl rfl rfl ?_
      refine x_aaldC (t := 0) dX11_turnCycle_57 rfl hC rfl (by decide) rfl (by omega) (by decide) (csF_slot hu) ?_
      refine x_iload_n (i := 3) dX11_turnCycle_58 rfl rfl rfl ?_
      have e2 : oTurn (iv h1 106) (iv h1 (2 + u)) w = oTurn f (S.1 u) w := oTurn_e e1 (by rw [q1.iv (by unfold scP; omega)]; exact (hR.c hu).symm)
      refine x_callV0 (ci := 7) (b := 10) (As := [_, _, _, _]) (d2 := d - 1) dX11_turnCycle_59 rfl kX11_169 okX7_turnBy (hC.o rfl) (fun q hq => by cases hq; rfl) (by omega) rfl rfl (Nat.le_of_ble_eq_true rfl) (c_turnBy (by omega) hC (t := 106) rfl (a := 106) rfl (csV_slot hu) hw ⟨by omega, by omega⟩ (by decide) (fun z hz h2 hC2 hS hv => ?_) (fun hz h2 hC2 hS => ?_))
      · rw [e2] at hz
        rw [hz] at ez
        have sq := q1.tr (hS.sc (by intro q hq; simp only [List.mem_cons, List.not_mem_nil, or_false] at hq; unfold scP; omega))
        have hC := hC2
        have v106 := hC.v (a := 106) rfl
        have vx := hC.v (csV_slot hx)
        have es := zSame_e (f := iv h2 106) (f2 := z) (g := iv h2 (2 + x)) (g2 := S.1 x) (by rw [hv]) (by rw [sq.iv (by unfold scP; omega)]; exact (hR.c hx).symm)
        refine x_if_ne_t (tgt := 68) dX11_turnCycle_62 rfl nb1 ?_
        refine x_aload_n (i := 0) dX11_turnCycle_68 rfl rfl rfl ?_
        refine x_getC dX11_turnCycle_69 rfl fX11_101 hC rfl F_0_12 ?_
        refine x_aload_n (i := 0) dX11_turnCycle_72 rfl rfl rfl ?_
        refine x_getC dX11_turnCycle_73 rfl fX11_11 hC rfl F_0_0 ?_
        refine x_iload_n (i := 1) dX11_turnCycle_76 rfl rfl rfl ?_
        refine x_aaldC (t := 0) dX11_turnCycle_77 rfl hC rfl (by decide) rfl (by omega) (by decide) (csF_slot hx) ?_
        refine x_callS0 (As := [_, _]) (d2 := d - 1) dX11_turnCycle_78 rfl kX11_273 okX5_areEqual (by omega) rfl rfl (Nat.le_of_ble_eq_true rfl) (c_areEqual v106 vx (fun y => ?_) (fun y => ?_))
        · refine x_if_eq_f (tgt := 87) dX11_turnCycle_81 rfl rfl nb1 ?_
          refine x_iload dX11_turnCycle_84 rfl rfl ?_
          refine x_ireturn dX11_turnCycle_86 rfl rfl ?_
          exact K _ _ _ (by rw [en, ez]; exact congrArg (fun q => (q, S)) (if_pos (es.mp y))) (hR.sc hC2 sq) (mF.sq sq (fun a => scP_lt))
        · refine x_if_eq_t (tgt := 87) dX11_turnCycle_81 rfl nI_0 ?_
          refine x_iinc dX11_turnCycle_87 rfl rfl (inc1 _) ?_
          refine x_goto (tgt := 33) dX11_turnCycle_90 rfl ?_
          refine x_to (ih (by omega) (by omega) h2 z hC2 sq (by rw [hv]) ?_) ⟨rfl, rfl, rfl, rfl, rfl, trivial⟩
          rw [ez, show 61 - (k + 1) = m by omega]
          exact if_neg (fun q => y (es.mpr q))
      · rw [e2] at hz
        rw [hz] at ez
        have sq := q1.tr (hS.sc (by intro q hq; simp only [List.mem_cons, List.not_mem_nil, or_false] at hq; unfold scP; omega))
        refine x_if_ne_f (tgt := 68) dX11_turnCycle_62 rfl rfl nI_0 ?_
        refine x_bipush dX11_turnCycle_65 rfl bC_m2 ?_
        refine x_ireturn dX11_turnCycle_67 rfl rfl ?_
        exact K _ _ _ (by rw [en, ez]) (hR.sc hC2 sq) (mF.sq sq (fun a => scP_lt))) 1 (by decide) (Nat.le_refl _)
  exact x_to (key _ (S.1 x) (hC.setI v106 (Or.inl rfl) (by decide)) (xSm.hs1.sc (by intro q hq; simp only [List.mem_cons, List.not_mem_nil, or_false] at hq; unfold scP; omega)) (by rw [iv_hs]; exact (hR.c hx).symm) hz0.symm) ⟨rfl, rfl, rfl, rfl, rfl, trivial⟩
theorem q_areAlike {x y m : Nat} (hd : 5 ≤ d) (hR : RC b h S) (hx : csV x) (hy : csV y) (hm : 1 ≤ m ∧ m ≤ 1000)
    (Kt : zWB S.2.1 (zDif (iv h x) (iv h y)) (nI m).toInt64 → ∀ h2, Cs h2 → xSm [109] h h2 → Q (some (.int (nI 1))) h2) (Kf : ¬ zWB S.2.1 (zDif (iv h x) (iv h y)) (nI m).toInt64 → ∀ h2, Cs h2 → xSm [109] h h2 → Q (some (.int (nI 0))) h2) : xCt G l mX11_areAlike d [.ref 0, .ref x, .ref y, .int (nI m)] h 0 0 Q := by
  have hC := hR.1
  have vx := hC.v hx
  have vy := hC.v hy
  have v109 := hC.j (a := 109) rfl
  have x1 : x ≠ 109 := csV_ne hx (q := (1, 8)) rfl (by decide)
  have y1 : y ≠ 109 := csV_ne hy (q := (1, 8)) rfl (by decide)
  refine xCt_of (by decide) (Nat.le_of_ble_eq_true rfl) ?_
  refine x_iconst dX11_areAlike_0 rfl iC_0 ?_
  refine x_istore dX11_areAlike_1 rfl (by decide) ?_
  have key := xloop (P := fun i => xWP G l mX11_areAlike d (zM G Q) 0 0 3 (xls [(0, .ref 0), (1, .ref x), (2, .ref y), (3, .int (nI m)), (4, .int (nI i))]) [] (hs h 109 (1, 8, xJ (xF (zDif (iv h x) (iv h y)) (jv h 109) i)))) 8 (by
    intro i hi ih
    have hC1 := hC.setJ (f := xF (zDif (iv h x) (iv h y)) (jv h 109) i) v109
    have hC := hC1
    refine x_iload dX11_areAlike_3 rfl rfl ?_
    refine x_bipush dX11_areAlike_5 rfl bC_8 ?_
    refine x_jc_ge (tgt := 34) dX11_areAlike_7 rfl rfl (by omega) (by omega) (fun c7 => ?_) (fun c7 => ?_)
    · obtain rfl : i = 8 := by omega
      refine x_topJ (f2 := zDif (iv h x) (iv h y)) (fun j hj => if_pos hj) (by decide) ?_
      have hC2 := hR.1.setJ (f := zDif (iv h x) (iv h y)) v109
      have ho2 : hOrd (hs h 109 (1, 8, xJ (zDif (iv h x) (iv h y)))) S.2.1 := by unfold hOrd; rw [fv_n (by decide)]; exact hR.o.2
      have hC := hC2
      refine x_aload_n (i := 0) dX11_areAlike_34 rfl rfl rfl ?_
      refine x_getC dX11_areAlike_35 rfl fX11_24 hC rfl F_0_2 ?_
      refine x_aload_n (i := 0) dX11_areAlike_38 rfl rfl rfl ?_
      refine x_getC dX11_areAlike_39 rfl fX11_111 hC rfl F_0_15 ?_
      refine x_iload_n (i := 3) dX11_areAlike_42 rfl rfl rfl ?_
      refine x_i2l dX11_areAlike_43 rfl ?_
      refine x_callV0 (ci := 2) (b := 14) (As := [_, _]) (d2 := d - 1) dX11_areAlike_44 rfl kX11_393 okX2_isWholeBy (hC.o rfl) (fun q hq => by cases hq; rfl) (by omega) rfl rfl (Nat.le_of_ble_eq_true rfl) (c_isWholeBy (by omega) hC ho2 hR.o.1 hs_eq (nI_1le hm.1 hm.2).1 (fun z => ?_) (fun z => ?_))
      · refine x_ireturn dX11_areAlike_47 rfl rfl ?_
        exact Kt z _ hC2 xSm.hs1
      · refine x_ireturn dX11_areAlike_47 rfl rfl ?_
        exact Kf z _ hC2 xSm.hs1
    · have vx1 := hs_ne (c := (1, 8, xJ (xF (zDif (iv h x) (iv h y)) (jv h 109) i))) x1 vx
      have vy1 := hs_ne (c := (1, 8, xJ (xF (zDif (iv h x) (iv h y)) (jv h 109) i))) y1 vy
      refine x_aload_n (i := 0) dX11_areAlike_10 rfl rfl rfl ?_
      refine x_getC dX11_areAlike_11 rfl fX11_111 hC rfl F_0_15 ?_
      refine x_iload dX11_areAlike_14 rfl rfl ?_
      refine x_aload_n (i := 1) dX11_areAlike_16 rfl rfl rfl ?_
      refine x_iload dX11_areAlike_17 rfl rfl ?_
      refine x_iald dX11_areAlike_19 rfl vx1 rfl (by omega) (by decide) ?_
      refine x_i2l dX11_areAlike_20 rfl ?_
      refine x_aload_n (i := 2) dX11_areAlike_21 rfl rfl rfl ?_
      refine x_iload dX11_areAlike_22 rfl rfl ?_
      refine x_iald dX11_areAlike_24 rfl vy1 rfl (by omega) (by decide) ?_
      refine x_i2l dX11_areAlike_25 rfl ?_
      refine x_lsub dX11_areAlike_26 rfl ?_
      refine x_lastT dX11_areAlike_27 rfl rfl (by omega) (by decide) ?_
      rw [show vp_updL (xF (zDif (iv h x) (iv h y)) (jv h 109) i) i ((iv h x i).toInt64 - (iv h y i).toInt64) = xF (zDif (iv h x) (iv h y)) (jv h 109) (i + 1) from xF_updL (zDif (iv h x) (iv h y)) _ i]
      refine x_iinc dX11_areAlike_28 rfl rfl (inc1 _) ?_
      refine x_goto (tgt := 3) dX11_areAlike_31 rfl ?_
      exact x_to (ih c7) ⟨rfl, rfl, rfl, rfl, rfl, trivial⟩) 0 (Nat.zero_le _)
  rw [xF_0, hs_self v109] at key
  exact x_to key ⟨rfl, rfl, rfl, rfl, rfl, trivial⟩
theorem p_alike {a1 a2 n : Int32} (hd : 10 ≤ d) (hR : RC b h S) (K : ∀ r S2 h2, sp_alike S a1 a2 n = (r, S2) → RC b h2 S2 → mF h h2 → Q (some (.int r)) h2) : xCt G l mX11_alike d [.ref 0, .int a1, .int a2, .int n] h 0 0 Q := by
  have hC := hR.1
  refine xCt_of (by decide) (Nat.le_of_ble_eq_true rfl) ?_
  refine x_iload_n (i := 1) dX11_alike_0 rfl rfl rfl ?_
  refine x_iload_n (i := 2) dX11_alike_1 rfl rfl rfl ?_
  refine x_callS0 (As := [_, _]) (d2 := d - 1) dX11_alike_2 rfl kX11_132 okX11_areSlots (by omega) rfl rfl (Nat.le_of_ble_eq_true rfl) (c_areSlots2 (by omega) (fun z => ?_) (fun x y hx hy ex ey qx qy => ?_))
  · refine x_if_eq_t (tgt := 15) dX11_alike_5 rfl nI_0 ?_
    refine x_iconst dX11_alike_15 rfl iC_m1 ?_
    refine x_ireturn dX11_alike_16 rfl rfl ?_
    exact K _ _ _ (by rcases z with z | ⟨i, z0, z⟩; exact (by simp only [sp_alike, z] <;> rfl); exact (by simp only [sp_alike, z0, z] <;> rfl)) hR mF.rf
  subst ex ey
  refine x_if_eq_f (tgt := 15) dX11_alike_5 rfl rfl nb1 ?_
  refine x_iload_n (i := 3) dX11_alike_8 rfl rfl rfl ?_
  refine x_callS0 (As := [_]) (d2 := d - 1) dX11_alike_9 rfl kX11_190 okX11_isDivisor (by omega) rfl rfl (Nat.le_of_ble_eq_true rfl) (c_isDivisor (fun z => ?_) (fun m hm em qm => ?_))
  · refine x_if_ne_f (tgt := 17) dX11_alike_12 rfl rfl nI_0 ?_
    refine x_iconst dX11_alike_15 rfl iC_m1 ?_
    refine x_ireturn dX11_alike_16 rfl rfl ?_
    exact K _ _ _ (by simp only [sp_alike, qx, qy, z] <;> rfl) hR mF.rf
  subst em
  refine x_if_ne_t (tgt := 17) dX11_alike_12 rfl nb1 ?_
  have e := zWB_e (o := S.2.1) (n := (nI m).toInt64) (w := zDif (S.1 x) (S.1 y)) (v := zDif (iv h (2 + x)) (iv h (2 + y))) (fun j hj => by unfold zDif; rw [← (hR.sl hx).1, ← (hR.sl hy).1, c8_lt hj, c8_lt hj])
  refine x_aload_n (i := 0) dX11_alike_17 rfl rfl rfl ?_
  refine x_aload_n (i := 0) dX11_alike_18 rfl rfl rfl ?_
  refine x_getC dX11_alike_19 rfl fX11_11 hC rfl F_0_0 ?_
  refine x_iload_n (i := 1) dX11_alike_22 rfl rfl rfl ?_
  refine x_aaldC (t := 0) dX11_alike_23 rfl hC rfl (by decide) rfl (by omega) (by decide) (csF_slot hx) ?_
  refine x_aload_n (i := 0) dX11_alike_24 rfl rfl rfl ?_
  refine x_getC dX11_alike_25 rfl fX11_11 hC rfl F_0_0 ?_
  refine x_iload_n (i := 2) dX11_alike_28 rfl rfl rfl ?_
  refine x_aaldC (t := 0) dX11_alike_29 rfl hC rfl (by decide) rfl (by omega) (by decide) (csF_slot hy) ?_
  refine x_iload_n (i := 3) dX11_alike_30 rfl rfl rfl ?_
  refine x_callV0 (ci := 11) (b := 0) (As := [_, _, _]) (d2 := d - 1) dX11_alike_31 rfl kX11_288 okX11_areAlike (hC.o rfl) (fun q hq => by cases hq; rfl) (by omega) rfl rfl (Nat.le_of_ble_eq_true rfl) (q_areAlike (by omega) hR (csV_slot hx) (csV_slot hy) hm (fun z h2 hC2 hS => ?_) (fun z h2 hC2 hS => ?_))
  · refine x_callS0 (As := [_]) (d2 := d - 1) dX11_alike_34 rfl kX11_267 okX11_asked (by omega) rfl rfl (Nat.le_of_ble_eq_true rfl) (c_asked1 ?_)
    refine x_ireturn dX11_alike_37 rfl rfl ?_
    have sq := hS.sc (by intro q hq; simp only [List.mem_cons, List.not_mem_nil, or_false] at hq; unfold scP; omega)
    exact K _ _ _ (by simp only [sp_alike, qx, qy, qm]; rw [bI_t (e.mpr z)]; rfl) (hR.sc hC2 sq) (mF.sq sq (fun a => scP_lt))
  · refine x_callS0 (As := [_]) (d2 := d - 1) dX11_alike_34 rfl kX11_267 okX11_asked (by omega) rfl rfl (Nat.le_of_ble_eq_true rfl) (c_asked0 ?_)
    refine x_ireturn dX11_alike_37 rfl rfl ?_
    have sq := hS.sc (by intro q hq; simp only [List.mem_cons, List.not_mem_nil, or_false] at hq; unfold scP; omega)
    exact K _ _ _ (by simp only [sp_alike, qx, qy, qm]; rw [bI_f (fun q => z (e.mp q))]; rfl) (hR.sc hC2 sq) (mF.sq sq (fun a => scP_lt))
theorem p_laws {a1 a2 a3 : Int32} (hd : 10 ≤ d) (hR : RC b h S) (K : ∀ r S2 h2, sp_laws S a1 a2 a3 = (r, S2) → RC b h2 S2 → mF h h2 → Q (some (.int r)) h2) : xCt G l mX11_laws d [.ref 0, .int a1, .int a2, .int a3] h 0 0 Q := by
  have hC := hR.1
  refine xCt_of (by decide) (Nat.le_of_ble_eq_true rfl) ?_
  refine x_iload_n (i := 1) dX11_laws_0 rfl rfl rfl ?_
  refine x_iload_n (i := 2) dX11_laws_1 rfl rfl rfl ?_
  refine x_iload_n (i := 3) dX11_laws_2 rfl rfl rfl ?_
  refine x_callS0 (As := [_, _, _]) (d2 := d - 1) dX11_laws_3 rfl kX11_144 okX11_areSlots_ (by omega) rfl rfl (Nat.le_of_ble_eq_true rfl) (c_areSlots3 (by omega) (fun z => ?_) (fun x y z hx hy hz ex ey ez qx qy qz => ?_))
  · refine x_if_ne_f (tgt := 11) dX11_laws_6 rfl rfl nI_0 ?_
    refine x_iconst dX11_laws_9 rfl iC_m1 ?_
    refine x_ireturn dX11_laws_10 rfl rfl ?_
    exact K _ _ _ (by rcases z with z | ⟨i, z0, z⟩ | ⟨i, i2, z0, z1, z⟩; exact (by simp only [sp_laws, z] <;> rfl); exact (by simp only [sp_laws, z0, z] <;> rfl); exact (by simp only [sp_laws, z0, z1, z] <;> rfl)) hR mF.rf
  subst ex ey ez
  refine x_if_ne_t (tgt := 11) dX11_laws_6 rfl nb1 ?_
  refine x_aload_n (i := 0) dX11_laws_11 rfl rfl rfl ?_
  refine x_getC dX11_laws_12 rfl fX11_60 hC rfl F_0_6 ?_
  refine x_aload_n (i := 0) dX11_laws_15 rfl rfl rfl ?_
  refine x_getC dX11_laws_16 rfl fX11_11 hC rfl F_0_0 ?_
  refine x_iload_n (i := 1) dX11_laws_19 rfl rfl rfl ?_
  refine x_aaldC (t := 0) dX11_laws_20 rfl hC rfl (by decide) rfl (by omega) (by decide) (csF_slot hx) ?_
  refine x_aload_n (i := 0) dX11_laws_21 rfl rfl rfl ?_
  refine x_getC dX11_laws_22 rfl fX11_11 hC rfl F_0_0 ?_
  refine x_iload_n (i := 2) dX11_laws_25 rfl rfl rfl ?_
  refine x_aaldC (t := 0) dX11_laws_26 rfl hC rfl (by decide) rfl (by omega) (by decide) (csF_slot hy) ?_
  refine x_aload_n (i := 0) dX11_laws_27 rfl rfl rfl ?_
  refine x_getC dX11_laws_28 rfl fX11_11 hC rfl F_0_0 ?_
  refine x_iload_n (i := 3) dX11_laws_31 rfl rfl rfl ?_
  refine x_aaldC (t := 0) dX11_laws_32 rfl hC rfl (by decide) rfl (by omega) (by decide) (csF_slot hz) ?_
  refine x_callV0 (ci := 3) (b := 44) (As := [_, _, _]) (d2 := d - 1) dX11_laws_33 rfl kX11_331 okX3_whichHold (hC.o rfl) (fun q hq => by cases hq; rfl) (by omega) rfl rfl (Nat.le_of_ble_eq_true rfl) (c_whichHold (by omega) hC (csV_slot hx) (csV_slot hy) (csV_slot hz) (by simp only [List.mem_cons, List.not_mem_nil, or_false, not_or]; omega) (by simp only [List.mem_cons, List.not_mem_nil, or_false, not_or]; omega) (by simp only [List.mem_cons, List.not_mem_nil, or_false, not_or]; omega) (fun h2 hC2 hS => ?_))
  refine x_ireturn dX11_laws_36 rfl rfl ?_
  have sq := hS.sc (by intro q hq; simp only [List.mem_cons, List.not_mem_nil, or_false] at hq; unfold scP; omega)
  exact K _ _ _ (by simp only [sp_laws, qx, qy, qz]; rw [← zLaws_e (iv h (2 + x)), (hR.sl hx).1, (hR.sl hy).1, (hR.sl hz).1]) (hR.sc hC2 sq) (mF.sq sq (fun a => scP_lt))
theorem p_shared {a1 a2 : Int32} (hd : 10 ≤ d) (hR : RC b h S) (K : ∀ r S2 h2, sp_shared S a1 a2 = (r, S2) → RC b h2 S2 → mF h h2 → Q (some (.int r)) h2) : xCt G l mX11_shared d [.ref 0, .int a1, .int a2] h 0 0 Q := by
  have hC := hR.1
  refine xCt_of (by decide) (Nat.le_of_ble_eq_true rfl) ?_
  refine x_iload_n (i := 1) dX11_shared_0 rfl rfl rfl ?_
  refine x_callS0 (As := [_]) (d2 := d - 1) dX11_shared_1 rfl kX11_115 okX11_isEighth (by omega) rfl rfl (Nat.le_of_ble_eq_true rfl) (c_isEighth (fun z => ?_) (fun x hx ex qx => ?_))
  · refine x_if_eq_t (tgt := 14) dX11_shared_4 rfl nI_0 ?_
    refine x_iconst dX11_shared_14 rfl iC_m1 ?_
    refine x_ireturn dX11_shared_15 rfl rfl ?_
    exact K _ _ _ (by simp only [sp_shared, z] <;> rfl) hR mF.rf
  subst ex
  refine x_if_eq_f (tgt := 14) dX11_shared_4 rfl rfl nb1 ?_
  refine x_iload_n (i := 2) dX11_shared_7 rfl rfl rfl ?_
  refine x_callS0 (As := [_]) (d2 := d - 1) dX11_shared_8 rfl kX11_115 okX11_isEighth (by omega) rfl rfl (Nat.le_of_ble_eq_true rfl) (c_isEighth (fun z => ?_) (fun y hy ey qy => ?_))
  · refine x_if_ne_f (tgt := 16) dX11_shared_11 rfl rfl nI_0 ?_
    refine x_iconst dX11_shared_14 rfl iC_m1 ?_
    refine x_ireturn dX11_shared_15 rfl rfl ?_
    exact K _ _ _ (by simp only [sp_shared, qx, z] <;> rfl) hR mF.rf
  subst ey
  refine x_if_ne_t (tgt := 16) dX11_shared_11 rfl nb1 ?_
  refine x_iload_n (i := 1) dX11_shared_16 rfl rfl rfl ?_
  refine x_iload_n (i := 2) dX11_shared_17 rfl rfl rfl ?_
  refine x_callS0 (As := [_, _]) (d2 := d - 1) dX11_shared_18 rfl kX11_322 okX2_manyUnitsOfBoth (by omega) rfl rfl (Nat.le_of_ble_eq_true rfl) (c_manyUnits (by omega) hx hy ?_)
  refine x_ireturn dX11_shared_21 rfl rfl ?_
  exact K _ _ _ (by simp only [sp_shared, qx, qy]) hR mF.rf
end PUB

