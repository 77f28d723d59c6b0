/-! shared, cycles: pure, and EightPartsModel -/
theorem cN_sh {p : Nat → Prop} : ∀ n, cN p (n + 1) = @ite _ (p 0) (Classical.propDecidable _) 1 0 + cN (fun i => p (i + 1)) n
  | 0 => by
    by_cases q : p 0
    · rw [cN_t q, if_pos q]; rfl
    · rw [cN_f q, if_neg q]; rfl
  | n + 1 => by
    have ih := cN_sh (p := p) n
    by_cases q : p (n + 1)
    · rw [cN_t q, ih, cN_t (p := fun i => p (i + 1)) (n := n) q]; omega
    · rw [cN_f q, ih, cN_f (p := fun i => p (i + 1)) (n := n) q]
theorem cN_ls (q : List Nat → Bool) : ∀ l : List (List Nat), cN (fun i => q (l.getD i []) = true) l.length = l.countP q
  | [] => rfl
  | x :: l => by
    rw [List.length_cons, cN_sh, List.countP_cons]
    have e : (fun i => q ((x :: l).getD (i + 1) []) = true) = fun i => q (l.getD i []) = true := rfl
    rw [e, cN_ls q l]
    by_cases c : q x = true
    · rw [if_pos (show q ((x :: l).getD 0 []) = true from c), if_pos c]; omega
    · rw [if_neg (show ¬ q ((x :: l).getD 0 []) = true from c), if_neg c]; omega
def shN (o p : Nat) : Nat := sumR (fun v => if (ofO o v && ofO p v) = true then cqN 8 v 4 else 0) 256
theorem sh_eq : ∀ o, o < 8 → ∀ p, p < 8 → shN o p = zSh o p (mwN o) := by decide +kernel
theorem sh_cN {o p : Nat} (ho : o < 8) (hp : p < 8) : cN (fun i => ofO p (oddN (zEl o 1 i)) = true) (zLst o 1).1 = zSh o p (mwN o) := by
  rw [← sh_eq o ho p hp, (zLst_n ho (show 1 < 4 by decide)).1]
  have e1 : cN (fun i => ofO p (oddN (zEl o 1 i)) = true) (lnN o 1) = cN (fun i => ofO p (odL ((lsD o 1).getD i [])) = true) (lsD o 1).length := by
    rw [lsD_len]
    refine cN_cong (fun j hj => ?_)
    obtain ⟨l1, l2⟩ := lx_len _ _ _ (lsD_m hj).1
    rw [od8 l1 l2 (fun q hq => zEl_l ho (by decide) hj hq)]
  rw [e1, cN_ls (fun ds => ofO p (odL ds))]
  unfold lsD shN
  rw [List.countP_filter]
  have := cnt_sum (fun v => ofO p v && ofO o v) (lx 8 4) (fun ds hds => by have := odL_lt ds; rw [(lx_len _ _ _ hds).1] at this; exact this)
  show (lx 8 4).countP (fun ds => ofO p (odL ds) && ofO o (odL ds)) = _
  rw [this]
  refine sumR_c (fun v hv => ?_)
  rw [cqN_eq 8 v _ hv, Bool.and_comm]
theorem oPow_c (x : Nat → Int32) : ∀ n, oPow (c8 x) n = oPow x n
  | 0 => rfl
  | n + 1 => by
    have e : (fun f => oMul f (c8 x)) = fun f => oMul f x := funext (fun f => oMul_cr f x)
    rw [oPow, oPow, oPow_c x n, e]
theorem zCy_c (x : Nat → Int32) : ∀ f n, zCy (c8 x) f n = zCy x f n
  | 0, _ => rfl
  | f + 1, n => by rw [zCy, zCy, oPow_c, zCy_c x f (n + 1)]
/-- how often a unit must be taken: by the table, and by products -/
theorem cy_eq {o k : Nat} (ho : o < 8) (hk : k < lnN o 1) : ∀ f n u z, u < lnN o 1 → oPow (zEl o 1 k) n = some z → (∀ p, p < 8 → zEl o 1 u p = z p) → zCy (zEl o 1 k) f n = zCyc (T0 o) k (lnN o 1 - 1) f u n ∨ (zCy (zEl o 1 k) f n = -2 ∧ zCyc (T0 o) k (lnN o 1 - 1) f u n = -1) := by
  intro f
  induction f with
  | zero => exact fun n u z _ _ _ => Or.inr ⟨rfl, rfl⟩
  | succ f ih =>
    intro n u z hu hz hE
    have n16 := ln_16 o ho
    have bz : zBd z := fun p hp => by rw [← hE p hp]; have := el_b ho hu hp; omega
    have is1 : isO z ↔ u = lnN o 1 - 1 := by
      rw [isO_iff bz]
      constructor
      · intro s
        refine el_in ho hu (by omega) (fun p hp => ?_)
        rw [hE p hp, el_1 ho p hp]
        exact s p hp
      · intro e p hp
        rw [← hE p hp, e]
        exact el_1 ho p hp
    rw [zCy, zCyc, hz]
    by_cases c : u = lnN o 1 - 1
    · left
      rw [if_pos c]
      exact if_pos (is1.mpr c)
    · rw [if_neg c]
      show (@ite _ (isO z) (Classical.propDecidable _) (nI n) (zCy (zEl o 1 k) f (n + 1))) = _ ∨ (@ite _ (isO z) (Classical.propDecidable _) (nI n) (zCy (zEl o 1 k) f (n + 1))) = _ ∧ _
      rw [if_neg (fun q => c (is1.mp q))]
      obtain ⟨t1, -, -, z2, t4, -, -, t7⟩ := T0_t ho hu hk
      refine ih (n + 1) (T0 o u k) z2 t1 ?_ t7
      rw [oPow, hz, Option.bind_some, ← t4]
      exact oMul_e (c8_eq.mpr (fun p hp => (hE p hp).symm)) rfl
theorem cy_iff {o k m : Nat} (ho : o < 8) (hk : k < lnN o 1) (hm : m < 2147483648) : zCy (zEl o 1 k) 60 1 = nI m ↔ zCyc (T0 o) k (lnN o 1 - 1) 60 k 1 = nI m := by
  have n16 := ln_16 o ho
  obtain ⟨t1, -, -, z2, t4, -, -, t7⟩ := T0_t ho (show lnN o 1 - 1 < lnN o 1 by omega) hk
  rw [T0_1l ho hk] at t7
  have e1 : oPow (zEl o 1 k) 1 = some z2 := by
    rw [oPow, oPow, Option.bind_some, ← t4]
    exact oMul_e (c8_eq.mpr (fun p hp => (el_1 ho p hp).symm)) rfl
  have ne : ∀ x : Int32, x.toInt < 0 → ¬ x = nI m := fun x hx z => by
    rw [z, nI_toInt hm] at hx
    omega
  rcases cy_eq ho hk 60 1 k z2 hk e1 t7 with q | ⟨q1, q2⟩
  · rw [q]
  · rw [q1, q2]
    exact ⟨fun z => absurd z (ne _ (by decide)), fun z => absurd z (ne _ (by decide))⟩
section MOD
variable {G : xG} {l : Launch} {d : Nat} {h : xH} {Q : Option Value → xH → Prop} {S : St}
theorem n_shared {a b : Int32} (hd : 10 ≤ d) (hR : RM h S) (K : ∀ r S2 h2, sp_shared S a b = (r, S2) → RM h2 S2 → cF h h2 → Q (some (.int r)) h2) : xCt G l mX12_shared d [.ref 110, .int a, .int b] h 0 0 Q := by
  have hC := hR.1
  refine xCt_of (by decide) (Nat.le_of_ble_eq_true rfl) ?_
  refine x_iload_n (i := 1) dX12_shared_0 rfl rfl rfl ?_
  refine x_i2l dX12_shared_1 rfl ?_
  refine x_lconst dX12_shared_2 rfl lC_0 ?_
  refine x_ldc2 dX12_shared_3 rfl cX12_93 ?_
  refine x_callS0 (As := [_, _, _]) (d2 := d - 1) dX12_shared_6 rfl kX12_95 okX12_in (by omega) rfl rfl (Nat.le_of_ble_eq_true rfl) (m_in (lo := 0) (hi := 7) (by decide) (by decide) (by decide) (fun z => ?_) (fun o _ ho eo qo => ?_))
  · refine x_if_eq_t (tgt := 24) dX12_shared_9 rfl nI_0 ?_
    refine x_iconst dX12_shared_24 rfl iC_m1 ?_
    refine x_ireturn dX12_shared_25 rfl rfl ?_
    exact K _ _ _ (by simp only [sp_shared, show sE a = none from z]) hR (cF.rf hC)
  subst eo
  have qo : sE (nI o) = some o := qo
  refine x_if_eq_f (tgt := 24) dX12_shared_9 rfl rfl nb1 ?_
  refine x_iload_n (i := 2) dX12_shared_12 rfl rfl rfl ?_
  refine x_i2l dX12_shared_13 rfl ?_
  refine x_lconst dX12_shared_14 rfl lC_0 ?_
  refine x_ldc2 dX12_shared_15 rfl cX12_93 ?_
  refine x_callS0 (As := [_, _, _]) (d2 := d - 1) dX12_shared_18 rfl kX12_95 okX12_in (by omega) rfl rfl (Nat.le_of_ble_eq_true rfl) (m_in (lo := 0) (hi := 7) (by decide) (by decide) (by decide) (fun z => ?_) (fun t _ ht et qt => ?_))
  · refine x_if_ne_f (tgt := 26) dX12_shared_21 rfl rfl nI_0 ?_
    refine x_iconst dX12_shared_24 rfl iC_m1 ?_
    refine x_ireturn dX12_shared_25 rfl rfl ?_
    exact K _ _ _ (by simp only [sp_shared, qo, show sE b = none from z]) hR (cF.rf hC)
  subst et
  have qt : sE (nI t) = some t := qt
  have ho8 : o < 8 := by omega
  have ht8 : t < 8 := by omega
  obtain ⟨z1, z2, z3⟩ := zLst_1 (o := o) (norm := 1) ho8 (by decide)
  refine x_if_ne_t (tgt := 26) dX12_shared_21 rfl nb1 ?_
  refine x_aload_n (i := 0) dX12_shared_26 rfl rfl rfl ?_
  refine x_iconst dX12_shared_27 rfl iC_1 ?_
  refine x_iload_n (i := 1) dX12_shared_28 rfl rfl rfl ?_
  refine x_callV0 (ci := 12) (b := 110) (As := [_, _]) (d2 := d - 1) dX12_shared_29 rfl kX12_152 okX12_laysList (hC.o rfl) (fun q hq => by cases hq; rfl) (by omega) rfl rfl (Nat.le_of_ble_eq_true rfl) (m_laysList (norm := 1) (by omega) hR (by decide) ho8 (fun h2 r2 c2 s2 e6 e5 e4 => ?_))
  have hC := r2.1
  obtain ⟨p, hp⟩ : ∃ p : Nat → Prop, p = fun k => ofO t (oddN (zEl o 1 k)) = true := ⟨_, rfl⟩
  have en : sp_shared S (nI o) (nI t) = (nI (cN p (zLst o 1).1), S) := by simp only [sp_shared, qo, qt, hp, sh_cN ho8 ht8]
  generalize hN : (zLst o 1).1 = N at *
  refine x_iconst dX12_shared_32 rfl iC_0 ?_
  refine x_istore_n (i := 3) dX12_shared_33 rfl rfl (by decide) ?_
  refine x_iconst dX12_shared_34 rfl iC_0 ?_
  refine x_istore dX12_shared_35 rfl (by decide) ?_
  have key := xloop (P := fun i => ∀ h1, mV [9] [] h2 h1 → xWP G l mX12_shared d (zM G Q) 0 0 37 (xls [(0, .ref 110), (1, .int (nI o)), (2, .int (nI t)), (3, .int (nI (cN p i))), (4, .int (nI i))]) [] h1) N (by
    intro i hi ih h1 m1
    have hC := m1.1
    have v5 := hC.v (a := 115) rfl
    have i5 : iv h1 115 1 = nI N := by rw [m1.2.1.iv (by decide)]; exact e5
    refine x_iload dX12_shared_37 rfl rfl ?_
    refine x_aload_n (i := 0) dX12_shared_39 rfl rfl rfl ?_
    refine x_getC dX12_shared_40 rfl fX12_31 hC rfl F_110_6 ?_
    refine x_iconst dX12_shared_43 rfl iC_1 ?_
    refine x_iald dX12_shared_44 rfl v5 rfl (by omega) (by decide) ?_
    rw [i5]
    refine x_jc_ge (tgt := 79) dX12_shared_45 rfl rfl (by omega) (by omega) (fun c45 => ?_) (fun c45 => ?_)
    · obtain rfl : i = N := by omega
      refine x_iload_n (i := 3) dX12_shared_79 rfl rfl rfl ?_
      refine x_ireturn dX12_shared_80 rfl rfl ?_
      exact K _ _ _ en (r2.sc m1 (by simp) (by simp)) (c2.tr (m1.c (by simp)))
    · have hi2 : i < N := by omega
      have i4 : iv h1 114 = iv h2 114 := m1.2.1.iv (by decide)
      refine x_aload_n (i := 0) dX12_shared_48 rfl rfl rfl ?_
      refine x_bipush dX12_shared_49 rfl bC_9 ?_
      refine x_iconst dX12_shared_51 rfl iC_1 ?_
      refine x_iload dX12_shared_52 rfl rfl ?_
      refine x_callV0 (ci := 12) (b := 110) (As := [_, _, _]) (d2 := d - 1) dX12_shared_54 rfl kX12_178 okX12_brings (hC.o rfl) (fun q hq => by cases hq; rfl) (by omega) rfl rfl (Nat.le_of_ble_eq_true rfl) (m_brings (t := 9) (norm := 1) (by omega) hC (by decide) (by decide) (by omega) (zBd_up _) (fun q hq => by rw [i4]; exact e4 i hi2 q hq) (fun h3 k3 e3 => ?_))
      have hC := k3.1
      have e3 : pl h3 9 = c8 (zEl o 1 i) := e3
      have m3 := (m1.tr k3).sub (P2 := [9]) (C2 := []) (by simp) (by simp)
      refine x_iload_n (i := 2) dX12_shared_57 rfl rfl rfl ?_
      refine x_aload_n (i := 0) dX12_shared_58 rfl rfl rfl ?_
      refine x_bipush dX12_shared_59 rfl bC_9 ?_
      refine x_callV0 (ci := 12) (b := 110) (As := [_]) (d2 := d - 1) dX12_shared_61 rfl kX12_128 okX12_oddOf (hC.o rfl) (fun q hq => by cases hq; rfl) (by omega) rfl rfl (Nat.le_of_ble_eq_true rfl) (m_oddOf hC (x := 9) (by decide) ?_)
      have eo : oddN (pl h3 9) = oddN (zEl o 1 i) := by rw [e3]; exact oddN_e (c8_c8 _)
      rw [eo]
      refine x_callS0 (As := [_, _]) (d2 := d - 1) dX12_shared_64 rfl kX12_131 okX12_isOf (by omega) rfl rfl (Nat.le_of_ble_eq_true rfl) (m_isOf (by omega) ht8 (oddN_lt _) (fun z => ?_) (fun z => ?_))
      · have pi : p i := by rw [hp]; exact z
        refine x_if_eq_f (tgt := 73) dX12_shared_67 rfl rfl nb1 ?_
        refine x_iinc dX12_shared_70 rfl rfl (inc1 _) ?_
        refine x_iinc dX12_shared_73 rfl rfl (inc1 _) ?_
        refine x_goto (tgt := 37) dX12_shared_76 rfl ?_
        exact x_to (ih hi2 h3 m3) ⟨rfl, rfl, rfl, by rw [cN_t (n := i) pi]; rfl, rfl, trivial⟩
      · have pi : ¬ p i := by rw [hp]; exact Bool.eq_false_iff.mp z
        refine x_if_eq_t (tgt := 73) dX12_shared_67 rfl nI_0 ?_
        refine x_iinc dX12_shared_73 rfl rfl (inc1 _) ?_
        refine x_goto (tgt := 37) dX12_shared_76 rfl ?_
        exact x_to (ih hi2 h3 m3) ⟨rfl, rfl, rfl, by rw [cN_f (n := i) pi]; rfl, rfl, trivial⟩) 0 (Nat.zero_le _) h2 ((mV.rf hC).sub (P := []) (C := []) (by simp) (by simp))
  exact x_to key ⟨rfl, rfl, rfl, rfl, rfl, trivial⟩
theorem n_cycles {n : Int32} (hd : 10 ≤ d) (hR : RM h S) (K : ∀ r S2 h2, sp_cycles S n = (r, S2) → RM h2 S2 → cF h h2 → Q (some (.int r)) h2) : xCt G l mX12_cycles d [.ref 110, .int n] h 0 0 Q := by
  have hC := hR.1
  have ho8 := hR.2.1.1
  refine xCt_of (by decide) (Nat.le_of_ble_eq_true rfl) ?_
  refine x_iload_n (i := 1) dX12_cycles_0 rfl rfl rfl ?_
  refine x_i2l dX12_cycles_1 rfl ?_
  refine x_lconst dX12_cycles_2 rfl lC_1 ?_
  refine x_ldc2 dX12_cycles_3 rfl cX12_226 ?_
  refine x_callS0 (As := [_, _, _]) (d2 := d - 1) dX12_cycles_6 rfl kX12_95 okX12_in (by omega) rfl rfl (Nat.le_of_ble_eq_true rfl) (m_in (lo := 1) (hi := 60) (by decide) (by decide) (by decide) (fun z => ?_) (fun w w1 w2 ew qw => ?_))
  · refine x_if_ne_f (tgt := 14) dX12_cycles_9 rfl rfl nI_0 ?_
    refine x_iconst dX12_cycles_12 rfl iC_m1 ?_
    refine x_ireturn dX12_cycles_13 rfl rfl ?_
    exact K _ _ _ (by simp only [sp_cycles, z]) hR (cF.rf hC)
  subst ew
  obtain ⟨z1, z2, z3⟩ := zLst_1 ho8 (norm := 1) (by decide)
  have zl := (zLst_n ho8 (show 1 < 4 by decide)).1
  refine x_if_ne_t (tgt := 14) dX12_cycles_9 rfl nb1 ?_
  refine x_aload_n (i := 0) dX12_cycles_14 rfl rfl rfl ?_
  refine x_iconst dX12_cycles_15 rfl iC_1 ?_
  refine x_callV0 (ci := 12) (b := 110) (As := [_]) (d2 := d - 1) dX12_cycles_16 rfl kX12_158 okX12_listSize (hC.o rfl) (fun q hq => by cases hq; rfl) (by omega) rfl rfl (Nat.le_of_ble_eq_true rfl) (m_listSize (norm := 1) (by omega) hR (by decide) (fun h2 r2 c2 s2 e6 e4 => ?_))
  have hC := r2.1
  obtain ⟨p, hp⟩ : ∃ p : Nat → Prop, p = fun k => zCy (zEl S.2.1 1 k) 60 1 = nI w := ⟨_, rfl⟩
  have en : sp_cycles S (nI w) = (nI (cN p (zLst S.2.1 1).1), S) := by
    simp only [sp_cycles, qw]
    congr 2
    rw [zl]
    refine cN_cong (fun j hj => ?_)
    rw [hp]
    exact (cy_iff ho8 hj (by omega)).symm
  generalize hN : (zLst S.2.1 1).1 = N at *
  refine x_istore_n (i := 2) dX12_cycles_19 rfl rfl (by decide) ?_
  refine x_iconst dX12_cycles_20 rfl iC_0 ?_
  refine x_istore_n (i := 3) dX12_cycles_21 rfl rfl (by decide) ?_
  refine x_iconst dX12_cycles_22 rfl iC_0 ?_
  refine x_istore dX12_cycles_23 rfl (by decide) ?_
  have key := xloop (P := fun i => ∀ h1, mV [9, 10] [113] h2 h1 → xWP G l mX12_cycles d (zM G Q) 0 0 25 (xls [(0, .ref 110), (1, .int (nI w)), (2, .int (nI N)), (3, .int (nI (cN p i))), (4, .int (nI i))]) [] h1) N (by
    intro i hi ih h1 m1
    have hC := m1.1
    refine x_iload dX12_cycles_25 rfl rfl ?_
    refine x_iload_n (i := 2) dX12_cycles_27 rfl rfl rfl ?_
    refine x_jc_ge (tgt := 59) dX12_cycles_28 rfl rfl (by omega) (by omega) (fun c28 => ?_) (fun c28 => ?_)
    · obtain rfl : i = N := by omega
      refine x_iload_n (i := 3) dX12_cycles_59 rfl rfl rfl ?_
      refine x_ireturn dX12_cycles_60 rfl rfl ?_
      exact K _ _ _ en (r2.sc m1 (by simp) (by simp [mN])) (c2.tr (m1.c (by simp)))
    · have hi2 : i < N := by omega
      have i4 : iv h1 114 = iv h2 114 := m1.2.1.iv (by decide)
      refine x_aload_n (i := 0) dX12_cycles_31 rfl rfl rfl ?_
      refine x_bipush dX12_cycles_32 rfl bC_9 ?_
      refine x_iconst dX12_cycles_34 rfl iC_1 ?_
      refine x_iload dX12_cycles_35 rfl rfl ?_
      refine x_callV0 (ci := 12) (b := 110) (As := [_, _, _]) (d2 := d - 1) dX12_cycles_37 rfl kX12_178 okX12_brings (hC.o rfl) (fun q hq => by cases hq; rfl) (by omega) rfl rfl (Nat.le_of_ble_eq_true rfl) (m_brings (t := 9) (norm := 1) (by omega) hC (by decide) (by decide) (by omega) (zBd_up _) (fun q hq => by rw [i4]; exact e4 i hi2 q hq) (fun h3 k3 e3 => ?_))
      have hC := k3.1
      have e3 : pl h3 9 = c8 (zEl S.2.1 1 i) := e3
      have m3 := (m1.tr k3).sub (P2 := [9, 10]) (C2 := [113]) (by simp) (by simp)
      have r3 : RM h3 S := r2.sc m3 (by simp) (by simp [mN])
      have ec : zCy (pl h3 9) 60 1 = zCy (zEl S.2.1 1 i) 60 1 := by rw [e3]; exact zCy_c _ _ _
      refine x_aload_n (i := 0) dX12_cycles_40 rfl rfl rfl ?_
      refine x_bipush dX12_cycles_41 rfl bC_9 ?_
      refine x_callV0 (ci := 12) (b := 110) (As := [_]) (d2 := d - 1) dX12_cycles_43 rfl kX12_361 okX12_cycleOf (hC.o rfl) (fun q hq => by cases hq; rfl) (by omega) rfl rfl (Nat.le_of_ble_eq_true rfl) (m_cycleOf (x := 9) (by omega) hC r3.b r3.2.2.2.1.2 (by decide) (by decide) (fun h4 k4 => ?_))
      rw [ec]
      generalize hz : zCy (zEl S.2.1 1 i) 60 1 = RR at *
      have hC := k4.1
      have m4 := (m3.tr k4).sub (P2 := [9, 10]) (C2 := [113]) (by simp) (by simp)
      refine x_iload_n (i := 1) dX12_cycles_46 rfl rfl rfl ?_
      refine x_ic_ne (tgt := 53) dX12_cycles_47 rfl rfl (fun c47 => ?_) (fun c47 => ?_)
      · have pi : ¬ p i := by rw [hp]; show ¬ zCy (zEl S.2.1 1 i) 60 1 = nI w; rw [hz]; exact c47
        refine x_iinc dX12_cycles_53 rfl rfl (inc1 _) ?_
        refine x_goto (tgt := 25) dX12_cycles_56 rfl ?_
        exact x_to (ih hi2 h4 m4) ⟨rfl, rfl, rfl, by rw [cN_f (n := i) pi]; rfl, rfl, trivial⟩
      · have pi : p i := by
          rw [hp]
          show zCy (zEl S.2.1 1 i) 60 1 = nI w
          rw [hz]
          first
          | exact c47
          | exact Classical.byContradiction (fun z => c47 z)
        refine x_iinc dX12_cycles_50 rfl rfl (inc1 _) ?_
        refine x_iinc dX12_cycles_53 rfl rfl (inc1 _) ?_
        refine x_goto (tgt := 25) dX12_cycles_56 rfl ?_
        exact x_to (ih hi2 h4 m4) ⟨rfl, rfl, rfl, by rw [cN_t (n := i) pi]; rfl, rfl, trivial⟩) 0 (Nat.zero_le _) h2 ((mV.rf hC).sub (P := []) (C := []) (by simp) (by simp))
  exact x_to key ⟨rfl, rfl, rfl, rfl, rfl, trivial⟩
end MOD

