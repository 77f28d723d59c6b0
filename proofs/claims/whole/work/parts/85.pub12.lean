/-! EightParts: what some units make -/
noncomputable def zKt1 (p : Nat → Prop) (k : Int32) : Nat → Nat → Int32
  | 0, _ => -1
  | f + 1, n => @ite _ (p n) (Classical.propDecidable _) (if nI (cN p n) = k then nI n else zKt1 p k f (n + 1)) (zKt1 p k f (n + 1))
theorem cN_lt {p : Nat → Prop} {u v : Nat} (h : u < v) (hu : p u) : cN p u < cN p v := by
  induction v with
  | zero => omega
  | succ v ih =>
    have hm : cN p v ≤ cN p (v + 1) := by
      by_cases q : p v
      · rw [cN_t q]; omega
      · rw [cN_f q]; exact Nat.le_refl _
    by_cases e : u = v
    · subst e
      rw [cN_t hu]
      omega
    · have := ih (by omega)
      omega
theorem zKt1_at {p : Nat → Prop} {k : Int32} {u : Nat} (hp : p u) (hk : nI (cN p u) = k) (h240 : u < 1000) : ∀ f n, n ≤ u → u < n + f → zKt1 p k f n = nI u := by
  intro f
  induction f with
  | zero => intro n h1 h2; omega
  | succ f ih =>
    intro n h1 h2
    rw [zKt1]
    by_cases e : n = u
    · subst e
      rw [if_pos hp, if_pos hk]
    · have step := ih (n + 1) (by omega) (by omega)
      by_cases q : p n
      · rw [if_pos q]
        have hl := cN_lt (show n < u by omega) q
        have b1 := cN_le p u
        rw [if_neg (fun z => by
          have := (nI_eq (by omega) (by omega)).mp (z.trans hk.symm)
          omega)]
        exact step
      · rw [if_neg q]
        exact step
theorem zKt1_no {p : Nat → Prop} {k : Int32} : ∀ f n, (∀ u, n ≤ u → u < n + f → p u → ¬ nI (cN p u) = k) → zKt1 p k f n = -1 := by
  intro f
  induction f with
  | zero => intro n h; rfl
  | succ f ih =>
    intro n h
    rw [zKt1]
    have step := ih (n + 1) (fun u h1 h2 => h u (by omega) (by omega))
    by_cases q : p n
    · rw [if_pos q, if_neg (h n (Nat.le_refl _) (by omega) q)]
      exact step
    · rw [if_neg q]
      exact step
/-- slots that are asked for hold units -/
def mdOk (S : St) (bits : Int32) : Prop := ∀ j, j < 8 → bitI bits j → zInn (S.1 j) (S.1 j) 8 = 4 ∧ ¬ zFindL S.2.1 1 (S.1 j) = -1
/-- what they make -/
noncomputable def mdS (S : St) (bits : Int32) : mS := clO (T0 S.2.1) (zLst S.2.1 1).1 241 0 (gaS (bitI bits) (fun j => fuN S.2.1 (S.1 j)) 8)
noncomputable def mdA (o : Nat) (s : mS) (what : Nat) : Int32 := match what with
  | 0 => nI s.1
  | 1 => bI (∀ i, i < s.1 → asU o (T0 o) s.1 s.2 (s.2 i))
  | 2 => bI (cN (fun i => ∀ j, j < s.1 → T0 o (s.2 i) (s.2 j) = T0 o (s.2 j) (s.2 i)) s.1 = s.1)
  | 3 => nI (cN (fun i => ∀ j, j < s.1 → T0 o (s.2 i) (s.2 j) = T0 o (s.2 j) (s.2 i)) s.1)
  | _ => nI (cN (fun i => T0 o (s.2 i) (s.2 i) = (zLst o 1).1 - 1) s.1)
noncomputable def sp_made (S : St) (a n : Int32) : Int32 × St := match eB 1 255 a with
  | none => (-1, S)
  | some _ => match eB 0 4 n with
    | none => (-1, S)
    | some w => @ite _ (mdOk S a) (Classical.propDecidable _) (mdA S.2.1 (mdS S a) w, S) (-2, S)
noncomputable def sp_madeAt (S : St) (a k : Int32) : Int32 × St := match eB 1 255 a with
  | none => (-1, S)
  | some _ => if (0 : Int32) ≤ k then @ite _ (mdOk S a) (Classical.propDecidable _) (zKt1 (mIn (mdS S a)) k 240 0, S) (-2, S) else (-1, S)
theorem bits_ex : ∀ m, m < 256 → 1 ≤ m → ∃ j, j < 8 ∧ ¬ (nI m >>> (nI j &&& 31)) &&& nI 1 = 0 := by decide +kernel
theorem gaS_c {bit : Nat → Prop} {f g : Nat → Nat} : ∀ n, (∀ j, j < n → bit j → f j = g j) → gaS bit f n = gaS bit g n
  | 0, _ => rfl
  | n + 1, h => by
    rw [gaS, gaS, gaS_c n (fun j hj => h j (by omega))]
    by_cases c : bit n
    · rw [if_pos c, if_pos c, h n (by omega) c]
    · rw [if_neg c, if_neg c]
section PUB
variable {G : xG} {l : Launch} {d : Nat} {h : xH} {Q : Option Value → xH → Prop} {b : Bool} {S : St}
theorem RX.r34 {b : Bool} {h : xH} {rw0 : Nat → Nat} {mk : Nat → Option Nat} {r p v N c : Nat} {g : Nat → Int32} (hI : RX b h rw0 mk r p v N c g) : ∃ r2, (b = false → r2 = 34) ∧ (b = true → 134 ≤ r2) ∧ RX b h rw0 mk r2 p v N c g := by
  cases b with
  | true => exact ⟨r, (fun e => by cases e), fun _ => hI.2.1.1, hI⟩
  | false => exact ⟨34, fun _ => rfl, (fun e => by cases e), hI.1, hI.2.1, hI.2.2⟩
theorem q_gather {m : Nat} {b2 : Bool} (hd : 20 ≤ d) (hR : RC b h S) (hm : h.2 < 700000) (hz : 16 ≤ (zLst S.2.1 1).1) (hT : tblO S.2.1 (T0 S.2.1)) (hbt : 1 ≤ m ∧ m ≤ 255) (hb2 : b2 = (b || @decide (mdOk S (nI m)) (Classical.propDecidable _)))
    (Kt : mdOk S (nI m) → ∀ h2 r rw1 mk1 p v N c g, b2 = true → RC true h2 S → mF h h2 → RX true h2 rw1 mk1 r p v N c g → uM h2 S.2.1 r rw1 mk1 (mdS S (nI m)).1 (mdS S (nI m)).2 → uI h2 (mdS S (nI m)) → Q (some (.int (nI 1))) h2)
    (Kf : ¬ mdOk S (nI m) → ∀ h2, b2 = b → RC b h2 S → mF h h2 → Q (some (.int (nI 0))) h2) : xCt G l mX9_gather d [.ref 31, .ref 1, .int (nI m)] h (1 + kD b b2) (240 + nD b b2) Q := by
  obtain ⟨rw0, mk, r0, p, v, N, c, g, hI0⟩ := hR.2.2
  obtain ⟨r, r34, r134, hI⟩ := hI0.r34
  obtain ⟨s0, hi0⟩ := hI.2.2.1
  have h134 := hR.1.1
  have e1 : ∀ j, j < 8 → (gaOk h S.2.1 (nI m) j ↔ (bitI (nI m) j → zInn (S.1 j) (S.1 j) 8 = 4 ∧ ¬ zFindL S.2.1 1 (S.1 j) = -1)) := by
    intro j hj
    unfold gaOk
    rw [zInn_e (hR.c hj) (hR.c hj), zFindL_e (hR.c hj)]
  have e2 : (∀ j, j < 8 → gaOk h S.2.1 (nI m) j) ↔ mdOk S (nI m) := ⟨fun z j hj => (e1 j hj).mp (z j hj), fun z j hj => (e1 j hj).mpr (z j hj)⟩
  have e3 : gaU h S.2.1 (nI m) 8 = gaS (bitI (nI m)) (fun j => fuN S.2.1 (S.1 j)) 8 := gaS_c 8 (fun j hj _ => by unfold fuN; rw [zFindL_e (hR.c hj)])
  have hne : b = true → ∀ m, m < 4 → rw0 m ≠ r := by
    intro eb q hq e
    subst eb
    obtain ⟨q1, -, -, pf, gg, -, p5, -⟩ := hI.2.1
    rcases (hI.1.2 q hq).1 with ⟨a1, -⟩ | ⟨a1, -, f, -, -, a4, -⟩
    · omega
    · rw [e, p5] at a4
      have e2 := congrArg (fun z => z.2.1) a4
      exact (zRoom_8 q hq).2 e2.symm
  have r1 : rw0 1 = 25 ∨ 134 ≤ rw0 1 := by
    rcases (hI.1.2 1 (by decide)).1 with ⟨a1, -⟩ | ⟨a1, -⟩
    · exact Or.inl a1
    · exact Or.inr a1
  have r2' : r = 34 ∨ 134 ≤ r := by
    cases b with
    | true => exact Or.inr (r134 rfl)
    | false => exact Or.inl (r34 rfl)
  have hbig : ∀ a, 134 ≤ a → (b = true → a ≠ r) → a ≠ r := by
    intro a a1 a2
    cases b with
    | true => exact a2 rfl
    | false => have := r34 rfl; omega
  refine c_gather (T := T0 S.2.1) (by omega) hR.1 (by omega) hR.o.2 hR.o.1 hI.1 hI.2.1 hi0 hne hT hz (bits_ex m (by omega) hbt.1) (fun ok => ?_) (fun ok h2 r2 rw1 mk1 u1 u2 u3 u4 u5 u6 u7 u8 => ?_) (fun ok h2 s2 rw1 mk1 u1 u2 u3 u4 u5 u6 => ?_)
  · have : b2 = true := by rw [hb2, @decide_eq_true _ (Classical.propDecidable _) (e2.mp ok)]; cases b <;> rfl
    subst this
    exact ⟨Nat.le_refl _, Nat.le_refl _⟩
  · have tb : b2 = true := by rw [hb2, @decide_eq_true _ (Classical.propDecidable _) (e2.mp ok)]; cases b <;> rfl
    rw [e3] at u2 u3
    obtain ⟨k1, k2, -, k4⟩ := hR.mk2 hI u1.1 u1.2.2.2.1 u1.p u2 u4.1 u4.2.1 (by omega) (fun a ha hn => u4.2.2 a (by omega) (by
      unfold unP at hn
      simp only [List.mem_cons, List.not_mem_nil, or_false, not_or]
      omega)) (fun a a1 a2 a3 a4 => u4.2.2 a a2 (by
      have := hbig a a1 a4
      simp only [List.mem_cons, List.not_mem_nil, or_false, not_or]
      omega))
    exact Kt (e2.mp ok) h2 r2 rw1 mk1 _ _ _ _ _ tb k1 k2 k4 ⟨u1, u2.1, u2.2.1, fun j hj => ⟨u3 j hj, (u2.2.2.1 j hj).2⟩⟩ u2
  · have tb : b2 = b := by rw [hb2, @decide_eq_false _ (Classical.propDecidable _) (fun z => ok (e2.mpr z))]; cases b <;> rfl
    have n31 : ∀ q, q ≠ 8 → (h2.1 31).2.2 q = (h.1 31).2.2 q := u6
    have hu2 : uP b h2 r := hI.2.1.keep u4.1 (u6 4 (by decide)) (u6 5 (by decide)) (fun eb q1 q2 => u4.2.2 r q2 (by
      have := hne eb 1 (by decide)
      simp only [List.mem_cons, List.not_mem_nil, or_false, not_or]
      omega))
    obtain ⟨k1, k2, -, -⟩ := hR.mk2 hI u1 u3 hu2 u2 u4.1 u4.2.1 (by omega) (fun a ha hn => u4.2.2 a (by omega) (by
      unfold unP at hn
      simp only [List.mem_cons, List.not_mem_nil, or_false, not_or]
      omega)) (fun a a1 a2 a3 a4 => u4.2.2 a a2 (by
      simp only [List.mem_cons, List.not_mem_nil, or_false, not_or]
      omega))
    exact Kf (fun z => ok (e2.mpr z)) h2 tb k1 k2
theorem RC.aftS {h h2 : xH} {S : St} {rw0 : Nat → Nat} {mk : Nat → Option Nat} {r p v N c cc : Nat} {g : Nat → Int32} {mN : Nat → Nat} (hR : RC true h S) (hI : RX true h rw0 mk r p v N c g) (hU : uM h2 S.2.1 r rw0 mk cc mN) (hs0 : uM h S.2.1 r rw0 mk cc mN) (hS : xSm [11, 31, 32, 33, r] h h2) (f : (h2.1 31).2.2 8 = (h.1 31).2.2 8) : RC true h2 S ∧ mF h h2 := by
  obtain ⟨s, hi⟩ := hI.2.2.1
  have h134 := hR.1.1
  have hr := hI.2.1.1
  have hrl := hI.2.1.2.1
  obtain ⟨k1, k2, -, -⟩ := hR.mk2 hI hU.1.1 hU.1.2.2.2.1 hU.1.p (s2 := s) (hi.keep f (hS.iv (by simp; omega)) (hS.iv (by simp; omega))) (m := 0) (by rw [hS.1]; exact Nat.le_refl _) (by rw [hS.1]; exact Nat.le_refl _) (by omega) (fun a ha hn => hS.2 a (by unfold unP at hn; simp; omega)) (fun a a1 a2 _ a4 => hS.2 a (by have := a4 rfl; simp; omega))
  exact ⟨k1, k2⟩
theorem uM.f8 {h h2 : xH} {o r c : Nat} {rw0 : Nat → Nat} {mk : Nat → Option Nat} {mN : Nat → Nat} (a : uM h o r rw0 mk c mN) (b : uM h2 o r rw0 mk c mN) : (h2.1 31).2.2 8 = (h.1 31).2.2 8 := b.2.1.trans a.2.1.symm
theorem p_made {a n : Int32} {b2 : Bool} (hd : 30 ≤ d) (hR : RC b h S) (hm : h.2 < 700000) (hz : 16 ≤ (zLst S.2.1 1).1) (hT : tblO S.2.1 (T0 S.2.1)) (hb2 : b2 = (b || (decide ((eB 1 255 a).isSome) && decide ((eB 0 4 n).isSome) && @decide (mdOk S a) (Classical.propDecidable _)))) (K : ∀ r S2 h2, sp_made S a n = (r, S2) → RC b2 h2 S2 → mF h h2 → Q (some (.int r)) h2) : xCt G l mX11_made d [.ref 0, .int a, .int n] h (1 + kD b b2) (240 + nD b b2) Q := by
  have hC := hR.1
  refine xCt_of (by decide) (Nat.le_of_ble_eq_true rfl) ?_
  refine x_iload_n (i := 1) dX11_made_0 rfl rfl rfl ?_
  refine x_callS0 (As := [_]) (d2 := d - 1) dX11_made_1 rfl kX11_297 okX11_isSlotSet (by omega) rfl rfl (Nat.le_of_ble_eq_true rfl) (c_isSlotSet (fun z => ?_) (fun m hm1 em qm => ?_))
  · obtain rfl : b2 = b := by rw [hb2, z]; cases b <;> rfl
    refine x_if_eq_t (tgt := 16) dX11_made_4 rfl nI_0 ?_
    refine x_iconst dX11_made_16 rfl iC_m1 ?_
    refine x_ireturn dX11_made_17 rfl rfl ?_
    exact K _ _ _ (by unfold sp_made; rw [z]) hR mF.rf
  subst em
  have no : eB 0 4 n = none → b2 = b ∧ sp_made S (nI m) n = (-1, S) := fun z => ⟨by rw [hb2, qm, z]; cases b <;> rfl, by unfold sp_made; rw [qm, z]⟩
  refine x_if_eq_f (tgt := 16) dX11_made_4 rfl rfl nb1 ?_
  refine x_iload_n (i := 2) dX11_made_7 rfl rfl rfl ?_
  refine x_if_lt (tgt := 16) dX11_made_8 rfl rfl (fun c8 => ?_) (fun c8 => ?_)
  · obtain ⟨rfl, e⟩ := no (eB_lo (by decide) c8)
    refine x_iconst dX11_made_16 rfl iC_m1 ?_
    refine x_ireturn dX11_made_17 rfl rfl ?_
    exact K _ _ _ e hR mF.rf
  refine x_iload_n (i := 2) dX11_made_11 rfl rfl rfl ?_
  refine x_iconst dX11_made_12 rfl iC_4 ?_
  refine x_ic_le (tgt := 18) dX11_made_13 rfl rfl (fun c13 => ?_) (fun c13 => ?_)
  rotate_left
  · obtain ⟨rfl, e⟩ := no (eB_hi (by decide) (Int32.not_le.mp c13))
    refine x_iconst dX11_made_16 rfl iC_m1 ?_
    refine x_ireturn dX11_made_17 rfl rfl ?_
    exact K _ _ _ e hR mF.rf
  obtain ⟨w, -, w4, ew, qw⟩ := eB_in (lo := 0) (hi := 4) (by decide) (by decide) c8 (Int32.not_lt.mpr c13)
  subst ew
  have hb3 : b2 = (b || @decide (mdOk S (nI m)) (Classical.propDecidable _)) := by rw [hb2, qm, qw]; rfl
  have en : sp_made S (nI m) (nI w) = @ite _ (mdOk S (nI m)) (Classical.propDecidable _) (mdA S.2.1 (mdS S (nI m)) w, S) (-2, S) := by unfold sp_made; rw [qm, qw]
  refine x_aload_n (i := 0) dX11_made_18 rfl rfl rfl ?_
  refine x_getC dX11_made_19 rfl fX11_42 hC rfl F_0_4 ?_
  refine x_aload_n (i := 0) dX11_made_22 rfl rfl rfl ?_
  refine x_getC dX11_made_23 rfl fX11_11 hC rfl F_0_0 ?_
  refine x_iload_n (i := 1) dX11_made_26 rfl rfl rfl ?_
  refine x_callV (ci := 9) (b := 31) (As := [_, _]) (d2 := d - 1) (mc2 := 1 + kD b b2) (ms2 := 240 + nD b b2) (k2 := 0) (n2 := 0) dX11_made_27 rfl kX11_300 okX9_gather (hC.o rfl) (fun q hq => by cases hq; rfl) (by omega) rfl rfl (Nat.le_of_ble_eq_true rfl) (by omega) (by omega) (q_gather (by omega) hR hm hz hT hm1 hb3 (fun ok h2 r rw1 mk1 p v N c g tb k1 k2 hI hU hi => ?_) (fun ok h2 tb k1 k2 => ?_))
  rotate_left
  · subst tb
    refine x_if_ne_f (tgt := 36) dX11_made_30 rfl rfl nI_0 ?_
    refine x_bipush dX11_made_33 rfl bC_m2 ?_
    refine x_ireturn dX11_made_35 rfl rfl ?_
    exact K _ _ _ (by rw [en, if_neg ok]) k1 k2
  subst tb
  rw [if_pos ok] at en
  have hC := k1.1
  have fin : ∀ h3, uM h3 S.2.1 r rw1 mk1 (mdS S (nI m)).1 (mdS S (nI m)).2 → xSm [11, 31, 32, 33, r] h2 h3 → RC true h3 S ∧ mF h h3 := by
    intro h3 u3 s3
    obtain ⟨a1, a2⟩ := k1.aftS hI u3 hU s3 (hU.f8 u3)
    exact ⟨a1, k2.tr a2 (by rw [s3.1]; exact k2.2.2)⟩
  have g8 := hU.2.1
  have c240 := hU.2.2.1
  refine x_if_ne_t (tgt := 36) dX11_made_30 rfl nb1 ?_
  refine x_iload_n (i := 2) dX11_made_36 rfl rfl rfl ?_
  rcases (show w = 0 ∨ w = 1 ∨ w = 2 ∨ w = 3 ∨ w = 4 by omega) with rfl | rfl | rfl | rfl | rfl
  · refine x_tabIn (tgt := 68) dX11_made_37 (by decide) (by decide) (off := 31) rfl rfl ?_
    refine x_aload_n (i := 0) dX11_made_68 rfl rfl rfl ?_
    refine x_getC dX11_made_69 rfl fX11_42 hC rfl F_0_4 ?_
    refine x_getM (a := 31) dX11_made_72 rfl fX11_304 hC rfl g8 ?_
    refine x_ireturn dX11_made_75 rfl rfl ?_
    exact K _ _ _ en k1 k2
  · refine x_tabIn (tgt := 76) dX11_made_37 (by decide) (by decide) (off := 39) rfl rfl ?_
    refine x_aload_n (i := 0) dX11_made_76 rfl rfl rfl ?_
    refine x_getC dX11_made_77 rfl fX11_42 hC rfl F_0_4 ?_
    refine x_callV0 (ci := 9) (b := 31) (As := []) (d2 := d - 1) dX11_made_80 rfl kX11_307 okX9_areAssociative (hC.o rfl) (fun q hq => by cases hq; rfl) (by omega) rfl rfl (Nat.le_of_ble_eq_true rfl) (c_areAssoc (by omega) hT hU (fun z h3 u3 s3 => ?_) (fun z h3 u3 s3 => ?_))
    · refine x_callS0 (As := [_]) (d2 := d - 1) dX11_made_83 rfl kX11_267 okX11_asked (by omega) rfl rfl (Nat.le_of_ble_eq_true rfl) (c_asked1 ?_)
      refine x_ireturn dX11_made_86 rfl rfl ?_
      obtain ⟨f1, f2⟩ := fin h3 u3 s3
      exact K _ _ _ (by rw [en]; exact congrArg (fun q => (q, S)) (bI_t z)) f1 f2
    · refine x_callS0 (As := [_]) (d2 := d - 1) dX11_made_83 rfl kX11_267 okX11_asked (by omega) rfl rfl (Nat.le_of_ble_eq_true rfl) (c_asked0 ?_)
      refine x_ireturn dX11_made_86 rfl rfl ?_
      obtain ⟨f1, f2⟩ := fin h3 u3 s3
      exact K _ _ _ (by rw [en]; exact congrArg (fun q => (q, S)) (bI_f z)) f1 f2
  · refine x_tabIn (tgt := 87) dX11_made_37 (by decide) (by decide) (off := 50) rfl rfl ?_
    refine x_aload_n (i := 0) dX11_made_87 rfl rfl rfl ?_
    refine x_getC dX11_made_88 rfl fX11_42 hC rfl F_0_4 ?_
    refine x_callV0 (ci := 9) (b := 31) (As := []) (d2 := d - 1) dX11_made_91 rfl kX11_310 okX9_manyCentral (hC.o rfl) (fun q hq => by cases hq; rfl) (by omega) rfl rfl (Nat.le_of_ble_eq_true rfl) (c_central (by omega) hT hU (fun h3 u3 s3 => ?_))
    have hC := u3.1.1
    have g8 := u3.2.1
    have cl := cN_le (fun i => ∀ j, j < (mdS S (nI m)).1 → T0 S.2.1 ((mdS S (nI m)).2 i) ((mdS S (nI m)).2 j) = T0 S.2.1 ((mdS S (nI m)).2 j) ((mdS S (nI m)).2 i)) (mdS S (nI m)).1
    obtain ⟨f1, f2⟩ := fin h3 u3 s3
    refine x_aload_n (i := 0) dX11_made_94 rfl rfl rfl ?_
    refine x_getC dX11_made_95 rfl fX11_42 hC rfl F_0_4 ?_
    refine x_getM (a := 31) dX11_made_98 rfl fX11_304 hC rfl g8 ?_
    refine x_jc_ne (tgt := 108) dX11_made_101 rfl rfl (by omega) (by omega) (fun c101 => ?_) (fun c101 => ?_)
    · refine x_iconst dX11_made_108 rfl iC_0 ?_
      refine x_callS0 (As := [_]) (d2 := d - 1) dX11_made_109 rfl kX11_267 okX11_asked (by omega) rfl rfl (Nat.le_of_ble_eq_true rfl) (c_asked0 ?_)
      refine x_ireturn dX11_made_112 rfl rfl ?_
      exact K _ _ _ (by rw [en]; exact congrArg (fun q => (q, S)) (bI_f c101)) f1 f2
    · refine x_iconst dX11_made_104 rfl iC_1 ?_
      refine x_goto (tgt := 109) dX11_made_105 rfl ?_
      refine x_callS0 (As := [_]) (d2 := d - 1) dX11_made_109 rfl kX11_267 okX11_asked (by omega) rfl rfl (Nat.le_of_ble_eq_true rfl) (c_asked1 ?_)
      refine x_ireturn dX11_made_112 rfl rfl ?_
      exact K _ _ _ (by rw [en]; exact congrArg (fun q => (q, S)) (bI_t c101)) f1 f2
  · refine x_tabIn (tgt := 113) dX11_made_37 (by decide) (by decide) (off := 76) rfl rfl ?_
    refine x_aload_n (i := 0) dX11_made_113 rfl rfl rfl ?_
    refine x_getC dX11_made_114 rfl fX11_42 hC rfl F_0_4 ?_
    refine x_callV0 (ci := 9) (b := 31) (As := []) (d2 := d - 1) dX11_made_117 rfl kX11_310 okX9_manyCentral (hC.o rfl) (fun q hq => by cases hq; rfl) (by omega) rfl rfl (Nat.le_of_ble_eq_true rfl) (c_central (by omega) hT hU (fun h3 u3 s3 => ?_))
    obtain ⟨f1, f2⟩ := fin h3 u3 s3
    refine x_ireturn dX11_made_120 rfl rfl ?_
    exact K _ _ _ en f1 f2
  · refine x_tabOut (tgt := 121) dX11_made_37 (Or.inr (by decide)) rfl ?_
    refine x_aload_n (i := 0) dX11_made_121 rfl rfl rfl ?_
    refine x_getC dX11_made_122 rfl fX11_42 hC rfl F_0_4 ?_
    refine x_callV0 (ci := 9) (b := 31) (As := []) (d2 := d - 1) dX11_made_125 rfl kX11_313 okX9_manyOwnInverse (hC.o rfl) (fun q hq => by cases hq; rfl) (by omega) rfl rfl (Nat.le_of_ble_eq_true rfl) (c_ownInv (by omega) hT hU (by omega) (fun h3 u3 s3 => ?_))
    obtain ⟨f1, f2⟩ := fin h3 u3 s3
    refine x_ireturn dX11_made_128 rfl rfl ?_
    exact K _ _ _ en f1 f2
theorem p_madeAt {a k : Int32} {b2 : Bool} (hd : 30 ≤ d) (hR : RC b h S) (hm : h.2 < 700000) (hz : 16 ≤ (zLst S.2.1 1).1) (hT : tblO S.2.1 (T0 S.2.1)) (hb2 : b2 = (b || (decide ((eB 1 255 a).isSome) && decide ((0 : Int32) ≤ k) && @decide (mdOk S a) (Classical.propDecidable _)))) (K : ∀ r S2 h2, sp_madeAt S a k = (r, S2) → RC b2 h2 S2 → mF h h2 → Q (some (.int r)) h2) : xCt G l mX11_madeAt d [.ref 0, .int a, .int k] h (1 + kD b b2) (240 + nD b b2) Q := by
  have hC := hR.1
  refine xCt_of (by decide) (Nat.le_of_ble_eq_true rfl) ?_
  refine x_iload_n (i := 1) dX11_madeAt_0 rfl rfl rfl ?_
  refine x_callS0 (As := [_]) (d2 := d - 1) dX11_madeAt_1 rfl kX11_297 okX11_isSlotSet (by omega) rfl rfl (Nat.le_of_ble_eq_true rfl) (c_isSlotSet (fun z => ?_) (fun m hm1 em qm => ?_))
  · obtain rfl : b2 = b := by rw [hb2, z]; cases b <;> rfl
    refine x_if_eq_t (tgt := 11) dX11_madeAt_4 rfl nI_0 ?_
    refine x_iconst dX11_madeAt_11 rfl iC_m1 ?_
    refine x_ireturn dX11_madeAt_12 rfl rfl ?_
    exact K _ _ _ (by unfold sp_madeAt; rw [z]) hR mF.rf
  subst em
  refine x_if_eq_f (tgt := 11) dX11_madeAt_4 rfl rfl nb1 ?_
  refine x_iload_n (i := 2) dX11_madeAt_7 rfl rfl rfl ?_
  refine x_if_ge (tgt := 13) dX11_madeAt_8 rfl rfl (fun c8 => ?_) (fun c8 => ?_)
  rotate_left
  · obtain rfl : b2 = b := by rw [hb2, qm, decide_eq_false c8]; cases b <;> rfl
    refine x_iconst dX11_madeAt_11 rfl iC_m1 ?_
    refine x_ireturn dX11_madeAt_12 rfl rfl ?_
    exact K _ _ _ (by unfold sp_madeAt; rw [qm]; exact if_neg c8) hR mF.rf
  have hb3 : b2 = (b || @decide (mdOk S (nI m)) (Classical.propDecidable _)) := by rw [hb2, qm, decide_eq_true c8]; rfl
  have en : sp_madeAt S (nI m) k = @ite _ (mdOk S (nI m)) (Classical.propDecidable _) (zKt1 (mIn (mdS S (nI m))) k 240 0, S) (-2, S) := by unfold sp_madeAt; rw [qm]; exact if_pos c8
  refine x_aload_n (i := 0) dX11_madeAt_13 rfl rfl rfl ?_
  refine x_getC dX11_madeAt_14 rfl fX11_42 hC rfl F_0_4 ?_
  refine x_aload_n (i := 0) dX11_madeAt_17 rfl rfl rfl ?_
  refine x_getC dX11_madeAt_18 rfl fX11_11 hC rfl F_0_0 ?_
  refine x_iload_n (i := 1) dX11_madeAt_21 rfl rfl rfl ?_
  refine x_callV (ci := 9) (b := 31) (As := [_, _]) (d2 := d - 1) (mc2 := 1 + kD b b2) (ms2 := 240 + nD b b2) (k2 := 0) (n2 := 0) dX11_madeAt_22 rfl kX11_300 okX9_gather (hC.o rfl) (fun q hq => by cases hq; rfl) (by omega) rfl rfl (Nat.le_of_ble_eq_true rfl) (by omega) (by omega) (q_gather (by omega) hR hm hz hT hm1 hb3 (fun ok h2 r rw1 mk1 p v N c g tb k1 k2 hI hU hi => ?_) (fun ok h2 tb k1 k2 => ?_))
  rotate_left
  · subst tb
    refine x_if_ne_f (tgt := 31) dX11_madeAt_25 rfl rfl nI_0 ?_
    refine x_bipush dX11_madeAt_28 rfl bC_m2 ?_
    refine x_ireturn dX11_madeAt_30 rfl rfl ?_
    exact K _ _ _ (by rw [en, if_neg ok]) k1 k2
  subst tb
  rw [if_pos ok] at en
  have hC := k1.1
  have ec : ∀ u, u ≤ 240 → zCnt (iv h2 36) u = cN (mIn (mdS S (nI m))) u := by
    intro u
    induction u with
    | zero => intro _; rfl
    | succ u ih =>
      intro hu
      rw [zCnt, ih (by omega)]
      rcases hi.2.2.2 u (by omega) with ⟨q1, q2⟩ | ⟨q1, q2⟩
      · rw [cN_t q2, if_neg (by rw [q1]; decide)]
      · rw [cN_f q2, if_pos (by rw [q1]; rfl)]
  have em : ∀ u, u < 240 → (¬ iv h2 36 u = 0 ↔ mIn (mdS S (nI m)) u) := by
    intro u hu
    rcases hi.2.2.2 u hu with ⟨q1, q2⟩ | ⟨q1, q2⟩
    · exact ⟨fun _ => q2, fun _ => by rw [q1]; decide⟩
    · exact ⟨fun z => absurd (by rw [q1]; rfl) z, fun z => absurd z q2⟩
  refine x_if_ne_t (tgt := 31) dX11_madeAt_25 rfl nb1 ?_
  refine x_aload_n (i := 0) dX11_madeAt_31 rfl rfl rfl ?_
  refine x_getC dX11_madeAt_32 rfl fX11_42 hC rfl F_0_4 ?_
  refine x_iload_n (i := 2) dX11_madeAt_35 rfl rfl rfl ?_
  refine x_callV0 (ci := 9) (b := 31) (As := [_]) (d2 := d - 1) dX11_madeAt_36 rfl kX11_316 okX9_gatheredAt (hC.o rfl) (fun q hq => by cases hq; rfl) (by omega) rfl rfl (Nat.le_of_ble_eq_true rfl) (c_gatheredAt hC (fun u hu z1 z2 => ?_) (fun z => ?_))
  · refine x_ireturn dX11_madeAt_39 rfl rfl ?_
    rw [ec u (by omega)] at z2
    exact K _ _ _ (by rw [en, zKt1_at ((em u hu).mp z1) z2 (by omega) 240 0 (Nat.zero_le _) (by omega)]) k1 k2
  · refine x_ireturn dX11_madeAt_39 rfl rfl ?_
    exact K _ _ _ (by rw [en, zKt1_no 240 0 (fun u _ h2 h3 h4 => z u (by omega) ((em u (by omega)).mpr h3) (by rw [ec u (by omega)]; exact h4))]) k1 k2
end PUB

