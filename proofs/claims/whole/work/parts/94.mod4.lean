/-! EightPartsModel: its state -/
def lf (norm : Nat) : Nat := ([0, 1, 241, 2401] : List Nat).getD norm 0
def mLs (h : xH) : Prop := ∀ norm, norm < 4 → iv h 116 norm = -1 ∨ ∃ o, o < 8 ∧ iv h 116 norm = nI o ∧ iv h 115 norm = nI (zLst o norm).1 ∧ ∀ k, k < (zLst o norm).1 → ∀ p, p < 8 → iv h 114 (8 * (lf norm + k) + p) = zEl o norm k p
def mTbl (h : xH) : Prop := (h.1 110).2.2 32 = .int (-1) ∨ ∃ o, o < 8 ∧ (h.1 110).2.2 32 = .int (nI o) ∧ ∀ i k, i < (zLst o 1).1 → k < (zLst o 1).1 → iv h 130 (240 * i + k) = zMA o i k
def mTp (h : xH) (t : tpT) : Prop := t.1 ≤ 200 ∧ (h.1 110).2.2 20 = .int (nI t.1) ∧ ∀ j, j < t.1 → iv h 124 j = t.2 j
def mKp (h : xH) (t : kpT) : Prop := t.1 ≤ 6 ∧ (h.1 110).2.2 37 = .int (nI t.1) ∧ ∀ k, k < t.1 → (t.2 k).2 < 8 ∧ iv h 133 (65 * k + 64) = nI (t.2 k).2 ∧ ∀ j, j < 8 → zBd ((t.2 k).1 j) ∧ c8 ((t.2 k).1 j) = (t.2 k).1 j ∧ ∀ p, p < 8 → iv h 133 (65 * k + (8 * j + p)) = (t.2 k).1 j p
def mSl (h : xH) (s : Nat → Nat → Int32) : Prop := ∀ j, j < 8 → pl h j = s j
def RM (h : xH) (S : St) : Prop := Cs h ∧ (S.2.1 < 8 ∧ mRul h S.2.1) ∧ mSl h S.1 ∧ (mB h ∧ pl h 8 = c8 (zOne 0)) ∧ mLs h ∧ mTbl h ∧ mTp h S.2.2.1 ∧ mKp h S.2.2.2
/-- the component's cells are as they were -/
def cF (h h2 : xH) : Prop := Cs h2 ∧ h2.2 = h.2 ∧ ∀ a, ¬ (110 ≤ a ∧ a ≤ 133) → h2.1 a = h.1 a
theorem cF.rf {h : xH} (hC : Cs h) : cF h h := ⟨hC, rfl, fun _ _ => rfl⟩
/-- cells that the model's state stands on, but for the row -/
def mN (a : Nat) : Prop := a = 110 ∨ a = 114 ∨ a = 115 ∨ a = 116 ∨ a = 124 ∨ a = 130 ∨ a = 133
theorem RM.of {h h2 : xH} {S : St} (hR : RM h S) (hC : Cs h2) (ho : mRul h2 S.2.1) (hs : mSl h2 S.1) (hb : mB h2 ∧ pl h2 8 = c8 (zOne 0)) (f32 : (h2.1 110).2.2 32 = (h.1 110).2.2 32) (f20 : (h2.1 110).2.2 20 = (h.1 110).2.2 20) (f37 : (h2.1 110).2.2 37 = (h.1 110).2.2 37) (e : ∀ a, a = 114 ∨ a = 115 ∨ a = 116 ∨ a = 124 ∨ a = 130 ∨ a = 133 → h2.1 a = h.1 a) : RM h2 S := by
  obtain ⟨r1, ⟨r2, r3⟩, r4, r5, r6, r7, ⟨r8, r9, r10⟩, r11, r12, r13⟩ := hR
  have i : ∀ a, a = 114 ∨ a = 115 ∨ a = 116 ∨ a = 124 ∨ a = 130 ∨ a = 133 → iv h2 a = iv h a := fun a ha => by unfold iv; rw [e a ha]
  refine ⟨hC, ⟨r2, ho⟩, hs, hb, ?_, ?_, ⟨r8, f20.trans r9, ?_⟩, r11, f37.trans r12, ?_⟩
  · unfold mLs
    rw [i 114 (by omega), i 115 (by omega), i 116 (by omega)]
    exact r6
  · unfold mTbl
    rw [f32, i 130 (by omega)]
    exact r7
  · rw [i 124 (by omega)]
    exact r10
  · rw [i 133 (by omega)]
    exact r13
theorem RM.sc {h h2 : xH} {S : St} {P C : List Nat} (hR : RM h S) (hv : mV P C h h2) (hP : ∀ q ∈ P, 9 ≤ q) (hC : ∀ q ∈ C, ¬ mN q) : RM h2 S := by
  have k : ∀ a, mN a → h2.1 a = h.1 a := fun a ha => hv.2.1.2 a (by
    simp only [List.mem_cons, not_or]
    exact ⟨by unfold mN at ha; omega, fun z => hC a z ha⟩)
  have k110 := k 110 (by unfold mN; omega)
  refine hR.of hv.1 (by unfold mRul; rw [k110]; exact hR.2.1.2) (fun j hj => ?_) ⟨hv.2.2.2 hR.2.2.2.1.1, ?_⟩ (by rw [k110]) (by rw [k110]) (by rw [k110]) (fun a ha => k a (by unfold mN; omega))
  · rw [hv.2.2.1 j (by omega) (fun z => by have := hP j z; omega)]
    exact hR.2.2.1 j hj
  · rw [hv.2.2.1 8 (by omega) (fun z => by have := hP 8 z; omega)]
    exact hR.2.2.2.1.2
theorem RM.set {h h2 : xH} {S : St} {P C : List Nat} {t : Nat} {z : Nat → Int32} (hR : RM h S) (ht : t < 8) (hv : mV P C h h2) (hP : ∀ q ∈ P, q = t ∨ 9 ≤ q) (hC : ∀ q ∈ C, ¬ mN q) (ez : pl h2 t = c8 z) : RM h2 (sSet S t z) := by
  have k : ∀ a, mN a → h2.1 a = h.1 a := fun a ha => hv.2.1.2 a (by
    simp only [List.mem_cons, not_or]
    exact ⟨by unfold mN at ha; omega, fun z => hC a z ha⟩)
  have k110 := k 110 (by unfold mN; omega)
  have hR2 : RM h2 (pl h2, S.2) := by
    have hR0 : RM h (pl h, S.2) := ⟨hR.1, hR.2.1, fun _ _ => rfl, hR.2.2.2⟩
    obtain ⟨r1, ⟨r2, r3⟩, r4, r5, r6, r7, ⟨r8, r9, r10⟩, r11, r12, r13⟩ := hR0
    have i : ∀ a, a = 114 ∨ a = 115 ∨ a = 116 ∨ a = 124 ∨ a = 130 ∨ a = 133 → iv h2 a = iv h a := fun a ha => by unfold iv; rw [k a (by unfold mN; omega)]
    refine ⟨hv.1, ⟨r2, by unfold mRul; rw [k110]; exact r3⟩, fun _ _ => rfl, ⟨hv.2.2.2 r5.1, ?_⟩, ?_, ?_, ⟨r8, by rw [k110]; exact r9, ?_⟩, r11, by rw [k110]; exact r12, ?_⟩
    · rw [hv.2.2.1 8 (by omega) (fun z => by have := hP 8 z; omega)]
      exact r5.2
    · unfold mLs
      rw [i 114 (by omega), i 115 (by omega), i 116 (by omega)]
      exact r6
    · unfold mTbl
      rw [k110, i 130 (by omega)]
      exact r7
    · rw [i 124 (by omega)]
      exact r10
    · rw [i 133 (by omega)]
      exact r13
  refine ⟨hR2.1, hR2.2.1, fun j hj => ?_, hR2.2.2.2⟩
  show pl h2 j = if j = t then c8 z else S.1 j
  by_cases e : j = t
  · rw [if_pos e, e]
    exact ez
  · rw [if_neg e, hv.2.2.1 j (by omega) (fun z => by have := hP j z; omega)]
    exact hR.2.2.1 j hj
theorem mV.c {P C : List Nat} {h h2 : xH} (hv : mV P C h h2) (hC : ∀ q ∈ C, 110 ≤ q ∧ q ≤ 133) : cF h h2 := ⟨hv.1, hv.2.1.1, fun a ha => hv.2.1.2 a (by
  simp only [List.mem_cons, not_or]
  exact ⟨by omega, fun z => ha (hC a z)⟩)⟩
theorem RM.p {h : xH} {S : St} (hR : RM h S) {j : Nat} (hj : j < 8) : pl h j = S.1 j := hR.2.2.1 j hj
theorem RM.b {h : xH} {S : St} (hR : RM h S) : mB h := hR.2.2.2.1.1
theorem RM.cc {h : xH} {S : St} (hR : RM h S) {j : Nat} (hj : j < 8) : c8 (S.1 j) = S.1 j := by rw [← hR.p hj]; exact pl_c8 h j
section MOD
variable {G : xG} {l : Launch} {d : Nat} {h : xH} {Q : Option Value → xH → Prop} {S : St}
theorem n_put {a1 a2 v : Int32} (hd : 10 ≤ d) (hR : RM h S) (K : ∀ r S2 h2, sp_put S a1 a2 v = (r, S2) → RM h2 S2 → cF h h2 → Q (some (.int r)) h2) : xCt G l mX12_put d [.ref 110, .int a1, .int a2, .int v] h 0 0 Q := by
  have hC := hR.1
  have row := hC.v (a := 112) rfl
  refine xCt_of (by decide) (Nat.le_of_ble_eq_true rfl) ?_
  refine x_iload_n (i := 1) dX12_put_0 rfl rfl rfl ?_
  refine x_callS0 (As := [_]) (d2 := d - 1) dX12_put_1 rfl kX12_165 okX12_isSlot (by omega) rfl rfl (Nat.le_of_ble_eq_true rfl) (m_isSlot (by omega) (fun z => ?_) (fun t ht et qt => ?_))
  · refine x_if_eq_t (tgt := 28) dX12_put_4 rfl nI_0 ?_
    refine x_iconst dX12_put_28 rfl iC_0 ?_
    refine x_ireturn dX12_put_29 rfl rfl ?_
    exact K _ _ _ (by simp only [sp_put, z] <;> rfl) hR (cF.rf hC)
  subst et
  refine x_if_eq_f (tgt := 28) dX12_put_4 rfl rfl nb1 ?_
  refine x_iload_n (i := 2) dX12_put_7 rfl rfl rfl ?_
  refine x_callS0 (As := [_]) (d2 := d - 1) dX12_put_8 rfl kX12_168 okX12_isPart (by omega) rfl rfl (Nat.le_of_ble_eq_true rfl) (m_isPart (by omega) (fun z => ?_) (fun x hx ex qx => ?_))
  · refine x_if_eq_t (tgt := 28) dX12_put_11 rfl nI_0 ?_
    refine x_iconst dX12_put_28 rfl iC_0 ?_
    refine x_ireturn dX12_put_29 rfl rfl ?_
    exact K _ _ _ (by simp only [sp_put, qt, z] <;> rfl) hR (cF.rf hC)
  subst ex
  refine x_if_eq_f (tgt := 28) dX12_put_11 rfl rfl nb1 ?_
  have en : sp_put S (nI t) (nI x) v = if -20000 ≤ v ∧ v ≤ 20000 then (1, sSet S t (upd (S.1 t) x v)) else (0, S) := by simp only [sp_put, qt, qx]
  have e64 : v.toInt64.toInt = v.toInt := Int32.toInt_toInt64 v
  have eq : ((-20000 : Int64) ≤ v.toInt64 ∧ v.toInt64 ≤ 20000) ↔ (-20000 ≤ v ∧ v ≤ 20000) := by
    rw [Int64.le_iff_toInt_le, Int64.le_iff_toInt_le, Int32.le_iff_toInt_le, Int32.le_iff_toInt_le, e64]
    have e1 : (-20000 : Int64).toInt = -20000 := by decide
    have e2 : (20000 : Int64).toInt = 20000 := by decide
    have e3 : (-20000 : Int32).toInt = -20000 := by decide
    have e4 : (20000 : Int32).toInt = 20000 := by decide
    omega
  refine x_iload_n (i := 3) dX12_put_14 rfl rfl rfl ?_
  refine x_i2l dX12_put_15 rfl ?_
  refine x_ldc2 dX12_put_16 rfl cX12_99 ?_
  refine x_ldc2 dX12_put_19 rfl cX12_101 ?_
  refine x_callS0 (As := [_, _, _]) (d2 := d - 1) dX12_put_22 rfl kX12_95 okX12_in (by omega) rfl rfl (Nat.le_of_ble_eq_true rfl) (m_inL (fun z => ?_) (fun z => ?_))
  · refine x_if_ne_f (tgt := 30) dX12_put_25 rfl rfl nI_0 ?_
    refine x_iconst dX12_put_28 rfl iC_0 ?_
    refine x_ireturn dX12_put_29 rfl rfl ?_
    exact K _ _ _ (by rw [en]; exact if_neg (fun q => z (eq.mpr q))) hR (cF.rf hC)
  have z2 := eq.mp z
  refine x_if_ne_t (tgt := 30) dX12_put_25 rfl nb1 ?_
  refine x_aload_n (i := 0) dX12_put_30 rfl rfl rfl ?_
  refine x_getC dX12_put_31 rfl fX12_17 hC rfl F_110_2 ?_
  refine x_bipush dX12_put_34 rfl bC_8 ?_
  refine x_iload_n (i := 1) dX12_put_36 rfl rfl rfl ?_
  refine x_imul dX12_put_37 rfl ?_
  refine x_iload_n (i := 2) dX12_put_38 rfl rfl rfl ?_
  refine x_iadd dX12_put_39 rfl ?_
  rw [nI_8]
  refine x_iload_n (i := 3) dX12_put_40 rfl rfl rfl ?_
  refine x_iast dX12_put_41 rfl row rfl (by omega) (by decide) ?_
  refine x_iconst dX12_put_42 rfl iC_1 ?_
  refine x_ireturn dX12_put_43 rfl rfl ?_
  have eu : upd (iv h 112) (8 * t + x) v = mrow (iv h 112) t (upd (pl h t) x v) 8 := by
    funext j
    unfold upd mrow
    by_cases e : j = 8 * t + x
    · rw [if_pos e, if_pos (by omega)]
      show v = if j - 8 * t = x then v else pl h t (j - 8 * t)
      rw [if_pos (by omega)]
    · rw [if_neg e]
      by_cases q : 8 * t ≤ j ∧ j < 8 * t + 8
      · rw [if_pos q]
        show iv h 112 j = if j - 8 * t = x then v else pl h t (j - 8 * t)
        rw [if_neg (by omega), pl_lt (by omega)]
        congr 1
        omega
      · rw [if_neg q]
  rw [eu]
  obtain ⟨k1, k2⟩ := mV_row (x := t) (f := upd (pl h t) x v) hC (by omega) (fun b => zBd_upd (b t (by omega)) z2.1 z2.2)
  rw [hR.p ht] at k1 k2 ⊢
  exact K _ _ _ (by rw [en, if_pos z2]; rfl) (hR.set ht k1 (by simp) (by simp) k2) (k1.c (by simp))
theorem n_one {a1 a2 : Int32} (hd : 10 ≤ d) (hR : RM h S) (K : ∀ r S2 h2, sp_one S a1 a2 = (r, S2) → RM h2 S2 → cF h h2 → Q (some (.int r)) h2) : xCt G l mX12_one d [.ref 110, .int a1, .int a2] h 0 0 Q := by
  have hC := hR.1
  refine xCt_of (by decide) (Nat.le_of_ble_eq_true rfl) ?_
  refine x_iload_n (i := 1) dX12_one_0 rfl rfl rfl ?_
  refine x_callS0 (As := [_]) (d2 := d - 1) dX12_one_1 rfl kX12_165 okX12_isSlot (by omega) rfl rfl (Nat.le_of_ble_eq_true rfl) (m_isSlot (by omega) (fun z => ?_) (fun t ht et qt => ?_))
  · refine x_if_eq_t (tgt := 14) dX12_one_4 rfl nI_0 ?_
    refine x_iconst dX12_one_14 rfl iC_0 ?_
    refine x_ireturn dX12_one_15 rfl rfl ?_
    exact K _ _ _ (by simp only [sp_one, z] <;> rfl) hR (cF.rf hC)
  subst et
  refine x_if_eq_f (tgt := 14) dX12_one_4 rfl rfl nb1 ?_
  refine x_iload_n (i := 2) dX12_one_7 rfl rfl rfl ?_
  refine x_callS0 (As := [_]) (d2 := d - 1) dX12_one_8 rfl kX12_168 okX12_isPart (by omega) rfl rfl (Nat.le_of_ble_eq_true rfl) (m_isPart (by omega) (fun z => ?_) (fun x hx ex qx => ?_))
  · refine x_if_ne_f (tgt := 16) dX12_one_11 rfl rfl nI_0 ?_
    refine x_iconst dX12_one_14 rfl iC_0 ?_
    refine x_ireturn dX12_one_15 rfl rfl ?_
    exact K _ _ _ (by simp only [sp_one, qt, z] <;> rfl) hR (cF.rf hC)
  subst ex
  refine x_if_ne_t (tgt := 16) dX12_one_11 rfl nb1 ?_
  refine x_aload_n (i := 0) dX12_one_16 rfl rfl rfl ?_
  refine x_iload_n (i := 1) dX12_one_17 rfl rfl rfl ?_
  refine x_callV0 (ci := 12) (b := 110) (As := [_]) (d2 := d - 1) dX12_one_18 rfl kX12_171 okX12_nought (hC.o rfl) (fun q hq => by cases hq; rfl) (by omega) rfl rfl (Nat.le_of_ble_eq_true rfl) (m_nought hC (by omega) (fun h1 hv1 e1 => ?_))
  have hC := hv1.1
  have row := hC.v (a := 112) rfl
  refine x_aload_n (i := 0) dX12_one_21 rfl rfl rfl ?_
  refine x_getC dX12_one_22 rfl fX12_17 hC rfl F_110_2 ?_
  refine x_bipush dX12_one_25 rfl bC_8 ?_
  refine x_iload_n (i := 1) dX12_one_27 rfl rfl rfl ?_
  refine x_imul dX12_one_28 rfl ?_
  refine x_iload_n (i := 2) dX12_one_29 rfl rfl rfl ?_
  refine x_iadd dX12_one_30 rfl ?_
  rw [nI_8]
  refine x_iconst dX12_one_31 rfl iC_2 ?_
  refine x_iast dX12_one_32 rfl row rfl (by omega) (by decide) ?_
  refine x_iconst dX12_one_33 rfl iC_1 ?_
  refine x_ireturn dX12_one_34 rfl rfl ?_
  have eu : upd (iv h1 112) (8 * t + x) (nI 2) = mrow (iv h1 112) t (zOne x) 8 := by
    funext j
    unfold upd mrow zOne
    by_cases e : j = 8 * t + x
    · rw [if_pos e, if_pos (by omega)]
      show nI 2 = if j - 8 * t = x then nI 2 else nI 0
      rw [if_pos (by omega)]
    · rw [if_neg e]
      by_cases q : 8 * t ≤ j ∧ j < 8 * t + 8
      · rw [if_pos q]
        show iv h1 112 j = if j - 8 * t = x then nI 2 else nI 0
        rw [if_neg (by omega)]
        have := congrFun e1 (j - 8 * t)
        rw [pl_lt (by omega), c8_lt (by omega)] at this
        rw [← this]
        congr 1
        omega
      · rw [if_neg q]
  rw [eu]
  obtain ⟨k1, k2⟩ := mV_row (x := t) (f := zOne x) hC (by omega) (fun _ => zBd_one x)
  have kk := (hv1.tr k1).sub (P2 := [t]) (C2 := []) (by simp) (by simp)
  exact K _ _ _ (by simp only [sp_one, qt, qx]; rfl) (hR.set ht kk (by simp) (by simp) k2) (kk.c (by simp))
theorem n_copy {a1 a2 : Int32} (hd : 10 ≤ d) (hR : RM h S) (K : ∀ r S2 h2, sp_copy S a1 a2 = (r, S2) → RM h2 S2 → cF h h2 → Q (some (.int r)) h2) : xCt G l mX12_copy d [.ref 110, .int a1, .int a2] h 0 0 Q := by
  have hC := hR.1
  refine xCt_of (by decide) (Nat.le_of_ble_eq_true rfl) ?_
  refine x_iload_n (i := 1) dX12_copy_0 rfl rfl rfl ?_
  refine x_callS0 (As := [_]) (d2 := d - 1) dX12_copy_1 rfl kX12_165 okX12_isSlot (by omega) rfl rfl (Nat.le_of_ble_eq_true rfl) (m_isSlot (by omega) (fun z => ?_) (fun t ht et qt => ?_))
  · refine x_if_eq_t (tgt := 14) dX12_copy_4 rfl nI_0 ?_
    refine x_iconst dX12_copy_14 rfl iC_0 ?_
    refine x_ireturn dX12_copy_15 rfl rfl ?_
    exact K _ _ _ (by simp only [sp_copy, z] <;> rfl) hR (cF.rf hC)
  subst et
  refine x_if_eq_f (tgt := 14) dX12_copy_4 rfl rfl nb1 ?_
  refine x_iload_n (i := 2) dX12_copy_7 rfl rfl rfl ?_
  refine x_callS0 (As := [_]) (d2 := d - 1) dX12_copy_8 rfl kX12_165 okX12_isSlot (by omega) rfl rfl (Nat.le_of_ble_eq_true rfl) (m_isSlot (by omega) (fun z => ?_) (fun x hx ex qx => ?_))
  · refine x_if_ne_f (tgt := 16) dX12_copy_11 rfl rfl nI_0 ?_
    refine x_iconst dX12_copy_14 rfl iC_0 ?_
    refine x_ireturn dX12_copy_15 rfl rfl ?_
    exact K _ _ _ (by simp only [sp_copy, qt, z] <;> rfl) hR (cF.rf hC)
  subst ex
  refine x_if_ne_t (tgt := 16) dX12_copy_11 rfl nb1 ?_
  refine x_aload_n (i := 0) dX12_copy_16 rfl rfl rfl ?_
  refine x_iload_n (i := 1) dX12_copy_17 rfl rfl rfl ?_
  refine x_iload_n (i := 2) dX12_copy_18 rfl rfl rfl ?_
  refine x_callV0 (ci := 12) (b := 110) (As := [_, _]) (d2 := d - 1) dX12_copy_19 rfl kX12_182 okX12_becomes (hC.o rfl) (fun q hq => by cases hq; rfl) (by omega) rfl rfl (Nat.le_of_ble_eq_true rfl) (m_becomes hC (by omega) (by omega) (fun h1 hv e => ?_))
  refine x_iconst dX12_copy_22 rfl iC_1 ?_
  refine x_ireturn dX12_copy_23 rfl rfl ?_
  exact K _ _ _ (by simp only [sp_copy, qt, qx]; rfl) (hR.set ht hv (by simp) (by simp) (by rw [e, hR.p hx, hR.cc hx])) (hv.c (by simp))
theorem n_order {a1 : Int32} (hd : 10 ≤ d) (hR : RM h S) (K : ∀ r S2 h2, sp_order S a1 = (r, S2) → RM h2 S2 → cF h h2 → Q (some (.int r)) h2) : xCt G l mX12_order d [.ref 110, .int a1] h 0 0 Q := by
  have hC := hR.1
  have ho := hR.2.1.2
  refine xCt_of (by decide) (Nat.le_of_ble_eq_true rfl) ?_
  refine x_iload_n (i := 1) dX12_order_0 rfl rfl rfl ?_
  refine x_i2l dX12_order_1 rfl ?_
  refine x_lconst dX12_order_2 rfl lC_0 ?_
  refine x_ldc2 dX12_order_3 rfl cX12_93 ?_
  refine x_callS0 (As := [_, _, _]) (d2 := d - 1) dX12_order_6 rfl kX12_95 okX12_in (by omega) rfl rfl (Nat.le_of_ble_eq_true rfl) (m_in (lo := 0) (hi := 7) (by decide) (by decide) (by decide) (fun z => ?_) (fun t _ ht et qt => ?_))
  · refine x_if_ne_f (tgt := 14) dX12_order_9 rfl rfl nI_0 ?_
    refine x_iconst dX12_order_12 rfl iC_m1 ?_
    refine x_ireturn dX12_order_13 rfl rfl ?_
    exact K _ _ _ (by unfold sp_order; rw [show sE a1 = none from z]) hR (cF.rf hC)
  subst et
  refine x_if_ne_t (tgt := 14) dX12_order_9 rfl nb1 ?_
  refine x_aload_n (i := 0) dX12_order_14 rfl rfl rfl ?_
  refine x_getM (a := 110) dX12_order_15 rfl fX12_24 hC rfl ho ?_
  refine x_istore_n (i := 2) dX12_order_18 rfl rfl (by decide) ?_
  refine x_aload_n (i := 0) dX12_order_19 rfl rfl rfl ?_
  refine x_iload_n (i := 1) dX12_order_20 rfl rfl rfl ?_
  refine x_putC (a := 110) dX12_order_21 rfl fX12_24 (fun q hq => by cases hq; rfl) hC rfl ⟨rfl, rfl⟩ ?_
  refine x_iload_n (i := 2) dX12_order_24 rfl rfl rfl ?_
  refine x_ireturn dX12_order_25 rfl rfl ?_
  have hC2 := hC.setF (ci := 12) (a := 110) (kf := 4) (v := .int (nI t)) rfl NF_110_4 (by decide)
  have hv : mV [] [110] h (hs h 110 (112, 0, updV (h.1 110).2.2 4 (.int (nI t)))) := mV_o hC2 xSm.hs1 (by decide)
  have k : ∀ a, a ≠ 110 → (hs h 110 (112, 0, updV (h.1 110).2.2 4 (.int (nI t)))).1 a = h.1 a := fun a ha => hs_n ha
  obtain ⟨r1, ⟨r2, r3⟩, r4, r5, r6, r7, ⟨r8, r9, r10⟩, r11, r12, r13⟩ := hR
  refine K (nI S.2.1) (sOrd S t) _ (by unfold sp_order; rw [show sE (nI t) = some t from qt]) ⟨hC2, ⟨by show t < 8; omega, fv_eq⟩, fun j hj => by rw [hv.2.2.1 j (by omega) (by simp)]; exact r4 j hj, ⟨hv.2.2.2 r5.1, by rw [hv.2.2.1 8 (by omega) (by simp)]; exact r5.2⟩, ?_, ?_, ⟨r8, (fv_ne (by decide)).trans r9, ?_⟩, r11, (fv_ne (by decide)).trans r12, ?_⟩ (hv.c (by simp))
  · unfold mLs
    rw [iv_n (by decide), iv_n (by decide), iv_n (by decide)]
    exact r6
  · unfold mTbl
    rw [fv_ne (by decide), iv_n (by decide)]
    exact r7
  · rw [iv_n (by decide)]
    exact r10
  · rw [iv_n (by decide)]
    exact r13
theorem n_sum {a1 a2 a3 : Int32} (hd : 10 ≤ d) (hR : RM h S) (K : ∀ r S2 h2, sp_sum 1 S a1 a2 a3 = (r, S2) → RM h2 S2 → cF h h2 → Q (some (.int r)) h2) : xCt G l mX12_sum d [.ref 110, .int a1, .int a2, .int a3] h 0 0 Q := by
  have hC := hR.1
  refine xCt_of (by decide) (Nat.le_of_ble_eq_true rfl) ?_
  refine x_iload_n (i := 1) dX12_sum_0 rfl rfl rfl ?_
  refine x_iload_n (i := 2) dX12_sum_1 rfl rfl rfl ?_
  refine x_iload_n (i := 3) dX12_sum_2 rfl rfl rfl ?_
  refine x_callS0 (As := [_, _, _]) (d2 := d - 1) dX12_sum_3 rfl kX12_189 okX12_areSlots (by omega) rfl rfl (Nat.le_of_ble_eq_true rfl) (m_areSlots (by omega) (fun z => ?_) (fun t x y ht hx hy et ex ey qt qx qy => ?_))
  · refine x_if_eq_t (tgt := 23) dX12_sum_6 rfl nI_0 ?_
    refine x_iconst dX12_sum_23 rfl iC_m1 ?_
    refine x_ireturn dX12_sum_24 rfl rfl ?_
    exact K _ _ _ (by rcases z with z | ⟨i, z0, z⟩ | ⟨i, i2, z0, z1, z⟩; exact (by simp only [sp_sum, z] <;> rfl); exact (by simp only [sp_sum, z0, z] <;> rfl); exact (by simp only [sp_sum, z0, z1, z] <;> rfl)) hR (cF.rf hC)
  subst et ex ey
  refine x_if_eq_f (tgt := 23) dX12_sum_6 rfl rfl nb1 ?_
  refine x_aload_n (i := 0) dX12_sum_9 rfl rfl rfl ?_
  refine x_iload_n (i := 1) dX12_sum_10 rfl rfl rfl ?_
  refine x_iload_n (i := 2) dX12_sum_11 rfl rfl rfl ?_
  refine x_iload_n (i := 3) dX12_sum_12 rfl rfl rfl ?_
  refine x_iconst dX12_sum_13 rfl iC_1 ?_
  refine x_callV0 (ci := 12) (b := 110) (As := [_, _, _, _]) (d2 := d - 1) dX12_sum_14 rfl kX12_193 okX12_adds (hC.o rfl) (fun q hq => by cases hq; rfl) (by omega) rfl rfl (Nat.le_of_ble_eq_true rfl) (m_adds (by omega) hC hR.b (Or.inl rfl) (by omega) (by omega) (by omega) (fun z hz h2 hv e => ?_) (fun hz h2 hv => ?_))
  · rw [hR.p hx, hR.p hy] at hz
    refine x_callS0 (As := [_]) (d2 := d - 1) dX12_sum_17 rfl kX12_185 okX12_can (by omega) rfl rfl (Nat.le_of_ble_eq_true rfl) (m_can1 ?_)
    refine x_goto (tgt := 24) dX12_sum_20 rfl ?_
    refine x_ireturn dX12_sum_24 rfl rfl ?_
    exact K _ _ _ (by simp only [sp_sum, qt, qx, qy]; exact sMay_some hz) (hR.set ht hv (by simp) (by simp [mN]) e) (hv.c (by simp))
  · rw [hR.p hx, hR.p hy] at hz
    refine x_callS0 (As := [_]) (d2 := d - 1) dX12_sum_17 rfl kX12_185 okX12_can (by omega) rfl rfl (Nat.le_of_ble_eq_true rfl) (m_can0 ?_)
    refine x_goto (tgt := 24) dX12_sum_20 rfl ?_
    refine x_ireturn dX12_sum_24 rfl rfl ?_
    exact K _ _ _ (by simp only [sp_sum, qt, qx, qy]; exact sMay_none hz) (hR.sc hv (by simp) (by simp [mN])) (hv.c (by simp))
theorem n_less {a1 a2 a3 : Int32} (hd : 10 ≤ d) (hR : RM h S) (K : ∀ r S2 h2, sp_sum (-1) S a1 a2 a3 = (r, S2) → RM h2 S2 → cF h h2 → Q (some (.int r)) h2) : xCt G l mX12_less d [.ref 110, .int a1, .int a2, .int a3] h 0 0 Q := by
  have hC := hR.1
  refine xCt_of (by decide) (Nat.le_of_ble_eq_true rfl) ?_
  refine x_iload_n (i := 1) dX12_less_0 rfl rfl rfl ?_
  refine x_iload_n (i := 2) dX12_less_1 rfl rfl rfl ?_
  refine x_iload_n (i := 3) dX12_less_2 rfl rfl rfl ?_
  refine x_callS0 (As := [_, _, _]) (d2 := d - 1) dX12_less_3 rfl kX12_189 okX12_areSlots (by omega) rfl rfl (Nat.le_of_ble_eq_true rfl) (m_areSlots (by omega) (fun z => ?_) (fun t x y ht hx hy et ex ey qt qx qy => ?_))
  · refine x_if_eq_t (tgt := 23) dX12_less_6 rfl nI_0 ?_
    refine x_iconst dX12_less_23 rfl iC_m1 ?_
    refine x_ireturn dX12_less_24 rfl rfl ?_
    exact K _ _ _ (by rcases z with z | ⟨i, z0, z⟩ | ⟨i, i2, z0, z1, z⟩; exact (by simp only [sp_sum, z] <;> rfl); exact (by simp only [sp_sum, z0, z] <;> rfl); exact (by simp only [sp_sum, z0, z1, z] <;> rfl)) hR (cF.rf hC)
  subst et ex ey
  refine x_if_eq_f (tgt := 23) dX12_less_6 rfl rfl nb1 ?_
  refine x_aload_n (i := 0) dX12_less_9 rfl rfl rfl ?_
  refine x_iload_n (i := 1) dX12_less_10 rfl rfl rfl ?_
  refine x_iload_n (i := 2) dX12_less_11 rfl rfl rfl ?_
  refine x_iload_n (i := 3) dX12_less_12 rfl rfl rfl ?_
  refine x_iconst dX12_less_13 rfl iC_m1 ?_
  refine x_callV0 (ci := 12) (b := 110) (As := [_, _, _, _]) (d2 := d - 1) dX12_less_14 rfl kX12_193 okX12_adds (hC.o rfl) (fun q hq => by cases hq; rfl) (by omega) rfl rfl (Nat.le_of_ble_eq_true rfl) (m_adds (by omega) hC hR.b (Or.inr rfl) (by omega) (by omega) (by omega) (fun z hz h2 hv e => ?_) (fun hz h2 hv => ?_))
  · rw [hR.p hx, hR.p hy] at hz
    refine x_callS0 (As := [_]) (d2 := d - 1) dX12_less_17 rfl kX12_185 okX12_can (by omega) rfl rfl (Nat.le_of_ble_eq_true rfl) (m_can1 ?_)
    refine x_goto (tgt := 24) dX12_less_20 rfl ?_
    refine x_ireturn dX12_less_24 rfl rfl ?_
    exact K _ _ _ (by simp only [sp_sum, qt, qx, qy]; exact sMay_some hz) (hR.set ht hv (by simp) (by simp [mN]) e) (hv.c (by simp))
  · rw [hR.p hx, hR.p hy] at hz
    refine x_callS0 (As := [_]) (d2 := d - 1) dX12_less_17 rfl kX12_185 okX12_can (by omega) rfl rfl (Nat.le_of_ble_eq_true rfl) (m_can0 ?_)
    refine x_goto (tgt := 24) dX12_less_20 rfl ?_
    refine x_ireturn dX12_less_24 rfl rfl ?_
    exact K _ _ _ (by simp only [sp_sum, qt, qx, qy]; exact sMay_none hz) (hR.sc hv (by simp) (by simp [mN])) (hv.c (by simp))
theorem n_product {a1 a2 a3 : Int32} (hd : 10 ≤ d) (hR : RM h S) (K : ∀ r S2 h2, sp_product S a1 a2 a3 = (r, S2) → RM h2 S2 → cF h h2 → Q (some (.int r)) h2) : xCt G l mX12_product d [.ref 110, .int a1, .int a2, .int a3] h 0 0 Q := by
  have hC := hR.1
  refine xCt_of (by decide) (Nat.le_of_ble_eq_true rfl) ?_
  refine x_iload_n (i := 1) dX12_product_0 rfl rfl rfl ?_
  refine x_iload_n (i := 2) dX12_product_1 rfl rfl rfl ?_
  refine x_iload_n (i := 3) dX12_product_2 rfl rfl rfl ?_
  refine x_callS0 (As := [_, _, _]) (d2 := d - 1) dX12_product_3 rfl kX12_189 okX12_areSlots (by omega) rfl rfl (Nat.le_of_ble_eq_true rfl) (m_areSlots (by omega) (fun z => ?_) (fun t x y ht hx hy et ex ey qt qx qy => ?_))
  · refine x_if_eq_t (tgt := 22) dX12_product_6 rfl nI_0 ?_
    refine x_iconst dX12_product_22 rfl iC_m1 ?_
    refine x_ireturn dX12_product_23 rfl rfl ?_
    exact K _ _ _ (by rcases z with z | ⟨i, z0, z⟩ | ⟨i, i2, z0, z1, z⟩; exact (by simp only [sp_product, z] <;> rfl); exact (by simp only [sp_product, z0, z] <;> rfl); exact (by simp only [sp_product, z0, z1, z] <;> rfl)) hR (cF.rf hC)
  subst et ex ey
  refine x_if_eq_f (tgt := 22) dX12_product_6 rfl rfl nb1 ?_
  refine x_aload_n (i := 0) dX12_product_9 rfl rfl rfl ?_
  refine x_iload_n (i := 1) dX12_product_10 rfl rfl rfl ?_
  refine x_iload_n (i := 2) dX12_product_11 rfl rfl rfl ?_
  refine x_iload_n (i := 3) dX12_product_12 rfl rfl rfl ?_
  refine x_callV0 (ci := 12) (b := 110) (As := [_, _, _]) (d2 := d - 1) dX12_product_13 rfl kX12_197 okX12_multiplies (hC.o rfl) (fun q hq => by cases hq; rfl) (by omega) rfl rfl (Nat.le_of_ble_eq_true rfl) (m_mul (by omega) hC hR.b (by omega) (by omega) (by omega) (fun z hz h2 hv e => ?_) (fun hz h2 hv => ?_))
  · rw [hR.p hx, hR.p hy] at hz
    refine x_callS0 (As := [_]) (d2 := d - 1) dX12_product_16 rfl kX12_185 okX12_can (by omega) rfl rfl (Nat.le_of_ble_eq_true rfl) (m_can1 ?_)
    refine x_goto (tgt := 23) dX12_product_19 rfl ?_
    refine x_ireturn dX12_product_23 rfl rfl ?_
    exact K _ _ _ (by simp only [sp_product, qt, qx, qy]; exact sMay_some hz) (hR.set ht hv (by simp) (by simp [mN]) e) (hv.c (by simp))
  · rw [hR.p hx, hR.p hy] at hz
    refine x_callS0 (As := [_]) (d2 := d - 1) dX12_product_16 rfl kX12_185 okX12_can (by omega) rfl rfl (Nat.le_of_ble_eq_true rfl) (m_can0 ?_)
    refine x_goto (tgt := 23) dX12_product_19 rfl ?_
    refine x_ireturn dX12_product_23 rfl rfl ?_
    exact K _ _ _ (by simp only [sp_product, qt, qx, qy]; exact sMay_none hz) (hR.sc hv (by simp) (by simp [mN])) (hv.c (by simp))
theorem n_mirror {a1 a2 : Int32} (hd : 10 ≤ d) (hR : RM h S) (K : ∀ r S2 h2, sp_mirror S a1 a2 = (r, S2) → RM h2 S2 → cF h h2 → Q (some (.int r)) h2) : xCt G l mX12_mirror d [.ref 110, .int a1, .int a2] h 0 0 Q := by
  have hC := hR.1
  refine xCt_of (by decide) (Nat.le_of_ble_eq_true rfl) ?_
  refine x_iload_n (i := 1) dX12_mirror_0 rfl rfl rfl ?_
  refine x_callS0 (As := [_]) (d2 := d - 1) dX12_mirror_1 rfl kX12_165 okX12_isSlot (by omega) rfl rfl (Nat.le_of_ble_eq_true rfl) (m_isSlot (by omega) (fun z => ?_) (fun t ht et qt => ?_))
  · refine x_if_eq_t (tgt := 14) dX12_mirror_4 rfl nI_0 ?_
    refine x_iconst dX12_mirror_14 rfl iC_m1 ?_
    refine x_ireturn dX12_mirror_15 rfl rfl ?_
    exact K _ _ _ (by simp only [sp_mirror, z] <;> rfl) hR (cF.rf hC)
  subst et
  refine x_if_eq_f (tgt := 14) dX12_mirror_4 rfl rfl nb1 ?_
  refine x_iload_n (i := 2) dX12_mirror_7 rfl rfl rfl ?_
  refine x_callS0 (As := [_]) (d2 := d - 1) dX12_mirror_8 rfl kX12_165 okX12_isSlot (by omega) rfl rfl (Nat.le_of_ble_eq_true rfl) (m_isSlot (by omega) (fun z => ?_) (fun x hx ex qx => ?_))
  · refine x_if_ne_f (tgt := 16) dX12_mirror_11 rfl rfl nI_0 ?_
    refine x_iconst dX12_mirror_14 rfl iC_m1 ?_
    refine x_ireturn dX12_mirror_15 rfl rfl ?_
    exact K _ _ _ (by simp only [sp_mirror, qt, z] <;> rfl) hR (cF.rf hC)
  subst ex
  refine x_if_ne_t (tgt := 16) dX12_mirror_11 rfl nb1 ?_
  refine x_aload_n (i := 0) dX12_mirror_16 rfl rfl rfl ?_
  refine x_iload_n (i := 1) dX12_mirror_17 rfl rfl rfl ?_
  refine x_iload_n (i := 2) dX12_mirror_18 rfl rfl rfl ?_
  refine x_callV0 (ci := 12) (b := 110) (As := [_, _]) (d2 := d - 1) dX12_mirror_19 rfl kX12_200 okX12_mirrors (hC.o rfl) (fun q hq => by cases hq; rfl) (by omega) rfl rfl (Nat.le_of_ble_eq_true rfl) (m_mirrors hC (by omega) (by omega) (fun h1 hv e => ?_))
  refine x_iconst dX12_mirror_22 rfl iC_1 ?_
  refine x_ireturn dX12_mirror_23 rfl rfl ?_
  exact K _ _ _ (by simp only [sp_mirror, qt, qx]; rfl) (hR.set ht hv (by simp) (by simp) (by rw [e, hR.p hx])) (hv.c (by simp))
theorem n_turn {a1 a2 a3 n : Int32} (hd : 10 ≤ d) (hR : RM h S) (K : ∀ r S2 h2, sp_turn S a1 a2 a3 n = (r, S2) → RM h2 S2 → cF h h2 → Q (some (.int r)) h2) : xCt G l mX12_turn d [.ref 110, .int a1, .int a2, .int a3, .int n] h 0 0 Q := by
  have hC := hR.1
  refine xCt_of (by decide) (Nat.le_of_ble_eq_true rfl) ?_
  refine x_iload_n (i := 1) dX12_turn_0 rfl rfl rfl ?_
  refine x_iload_n (i := 2) dX12_turn_1 rfl rfl rfl ?_
  refine x_iload_n (i := 3) dX12_turn_2 rfl rfl rfl ?_
  refine x_callS0 (As := [_, _, _]) (d2 := d - 1) dX12_turn_3 rfl kX12_189 okX12_areSlots (by omega) rfl rfl (Nat.le_of_ble_eq_true rfl) (m_areSlots (by omega) (fun z => ?_) (fun t x y ht hx hy et ex ey qt qx qy => ?_))
  · refine x_if_eq_t (tgt := 37) dX12_turn_6 rfl nI_0 ?_
    refine x_iconst dX12_turn_37 rfl iC_m1 ?_
    refine x_ireturn dX12_turn_38 rfl rfl ?_
    exact K _ _ _ (by rcases z with z | ⟨i, z0, z⟩ | ⟨i, i2, z0, z1, z⟩; exact (by simp only [sp_turn, z] <;> rfl); exact (by simp only [sp_turn, z0, z] <;> rfl); exact (by simp only [sp_turn, z0, z1, z] <;> rfl)) hR (cF.rf hC)
  subst et ex ey
  refine x_if_eq_f (tgt := 37) dX12_turn_6 rfl rfl nb1 ?_
  refine x_iload dX12_turn_9 rfl rfl ?_
  refine x_callS0 (As := [_]) (d2 := d - 1) dX12_turn_11 rfl kX12_207 okX12_isTurn (by omega) rfl rfl (Nat.le_of_ble_eq_true rfl) (m_isTurn (by omega) (fun z => ?_) (fun w hw ew qw => ?_))
  · refine x_if_eq_t (tgt := 37) dX12_turn_14 rfl nI_0 ?_
    refine x_iconst dX12_turn_37 rfl iC_m1 ?_
    refine x_ireturn dX12_turn_38 rfl rfl ?_
    exact K _ _ _ (by simp only [sp_turn, qt, qx, qy, z] <;> rfl) hR (cF.rf hC)
  subst ew
  refine x_if_eq_f (tgt := 37) dX12_turn_14 rfl rfl nb1 ?_
  refine x_aload_n (i := 0) dX12_turn_17 rfl rfl rfl ?_
  refine x_aload_n (i := 0) dX12_turn_18 rfl rfl rfl ?_
  refine x_bipush dX12_turn_19 rfl bC_9 ?_
  refine x_iload_n (i := 2) dX12_turn_21 rfl rfl rfl ?_
  refine x_iload_n (i := 3) dX12_turn_22 rfl rfl rfl ?_
  refine x_iload dX12_turn_23 rfl rfl ?_
  refine x_callV0 (ci := 12) (b := 110) (As := [_, _, _, _]) (d2 := d - 1) dX12_turn_25 rfl kX12_210 okX12_turns (hC.o rfl) (fun q hq => by cases hq; rfl) (by omega) rfl rfl (Nat.le_of_ble_eq_true rfl) (m_turns (t := 9) (by omega) hC hR.b (by omega) (by omega) (by omega) hw (by omega) (by omega) (by omega) (fun z hz h2 hv e => ?_) (fun hz h2 hv => ?_))
  · rw [hR.p hx, hR.p hy] at hz
    have hC := hv.1
    refine x_iload_n (i := 1) dX12_turn_28 rfl rfl rfl ?_
    refine x_bipush dX12_turn_29 rfl bC_9 ?_
    refine x_callV0 (ci := 12) (b := 110) (As := [_, _, _]) (d2 := d - 1) dX12_turn_31 rfl kX12_213 okX12_ends (hC.o rfl) (fun q hq => by cases hq; rfl) (by omega) rfl rfl (Nat.le_of_ble_eq_true rfl) (m_ends1 (by omega) hC (by omega) (by decide) (fun h3 hv3 e3 => ?_))
    refine x_goto (tgt := 38) dX12_turn_34 rfl ?_
    refine x_ireturn dX12_turn_38 rfl rfl ?_
    have kk := (hv.tr hv3).sub (P2 := [t, 9, 21]) (C2 := [113]) (by simp) (by simp)
    exact K _ _ _ (by simp only [sp_turn, qt, qx, qy, qw]; exact sMay_some hz) (hR.set ht kk (by simp) (by simp [mN]) (by rw [e3, e])) (kk.c (by simp))
  · rw [hR.p hx, hR.p hy] at hz
    have hC := hv.1
    refine x_iload_n (i := 1) dX12_turn_28 rfl rfl rfl ?_
    refine x_bipush dX12_turn_29 rfl bC_9 ?_
    refine x_callV0 (ci := 12) (b := 110) (As := [_, _, _]) (d2 := d - 1) dX12_turn_31 rfl kX12_213 okX12_ends (hC.o rfl) (fun q hq => by cases hq; rfl) (by omega) rfl rfl (Nat.le_of_ble_eq_true rfl) (m_ends0 (by omega) ?_)
    refine x_goto (tgt := 38) dX12_turn_34 rfl ?_
    refine x_ireturn dX12_turn_38 rfl rfl ?_
    exact K _ _ _ (by simp only [sp_turn, qt, qx, qy, qw]; exact sMay_none hz) (hR.sc hv (by simp) (by simp [mN])) (hv.c (by simp))
end MOD

