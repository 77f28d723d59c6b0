/-! EightPartsModel: angles -/
theorem zInn_cm (f g : Nat → Int32) : ∀ n, zInn f g n = zInn g f n
  | 0 => rfl
  | n + 1 => by rw [zInn, zInn, zInn_cm f g n, Int64.mul_comm]
section MOD
variable {G : xG} {l : Launch} {d : Nat} {h : xH} {Q : Option Value → xH → Prop} {S : St}
theorem n_angles {a n v : Int32} (hd : 10 ≤ d) (hR : RM h S) (K : ∀ r S2 h2, sp_angles S a n v = (r, S2) → RM h2 S2 → cF h h2 → Q (some (.int r)) h2) : xCt G l mX12_angles d [.ref 110, .int a, .int n, .int v] h 0 0 Q := by
  have hC := hR.1
  refine xCt_of (by decide) (Nat.le_of_ble_eq_true rfl) ?_
  refine x_iload_n (i := 1) dX12_angles_0 rfl rfl rfl ?_
  refine x_callS0 (As := [_]) (d2 := d - 1) dX12_angles_1 rfl kX12_165 okX12_isSlot (by omega) rfl rfl (Nat.le_of_ble_eq_true rfl) (m_isSlot (by omega) (fun z => ?_) (fun x hx ex qx => ?_))
  · refine x_if_eq_t (tgt := 14) dX12_angles_4 rfl nI_0 ?_
    refine x_iconst dX12_angles_14 rfl iC_m1 ?_
    refine x_ireturn dX12_angles_15 rfl rfl ?_
    exact K _ _ _ (by simp only [sp_angles, z]) hR (cF.rf hC)
  subst ex
  refine x_if_eq_f (tgt := 14) dX12_angles_4 rfl rfl nb1 ?_
  refine x_iload_n (i := 2) dX12_angles_7 rfl rfl rfl ?_
  refine x_callS0 (As := [_]) (d2 := d - 1) dX12_angles_8 rfl kX12_175 okX12_isNorm (by omega) rfl rfl (Nat.le_of_ble_eq_true rfl) (m_isNorm (by omega) (fun z => ?_) (fun norm hn en qn => ?_))
  · refine x_if_ne_f (tgt := 16) dX12_angles_11 rfl rfl nI_0 ?_
    refine x_iconst dX12_angles_14 rfl iC_m1 ?_
    refine x_ireturn dX12_angles_15 rfl rfl ?_
    exact K _ _ _ (by simp only [sp_angles, qx, z]) hR (cF.rf hC)
  subst en
  obtain ⟨z1, z2, z3⟩ := zLst_1 hR.2.1.1 hn
  refine x_if_ne_t (tgt := 16) dX12_angles_11 rfl nb1 ?_
  refine x_aload_n (i := 0) dX12_angles_16 rfl rfl rfl ?_
  refine x_iload_n (i := 2) dX12_angles_17 rfl rfl rfl ?_
  refine x_callV0 (ci := 12) (b := 110) (As := [_]) (d2 := d - 1) dX12_angles_18 rfl kX12_158 okX12_listSize (hC.o rfl) (fun q hq => by cases hq; rfl) (by omega) rfl rfl (Nat.le_of_ble_eq_true rfl) (m_listSize (by omega) hR hn (fun h2 r2 c2 s2 e6 e4 => ?_))
  have hC := r2.1
  obtain ⟨p, hp⟩ : ∃ p : Nat → Prop, p = fun k => zCap (zInn (zEl S.2.1 norm k) (S.1 x) 8) = v := ⟨_, rfl⟩
  have en : sp_angles S (nI x) (nI norm) v = (nI (cN p (zLst S.2.1 norm).1), S) := by simp only [sp_angles, qx, qn, hp]
  generalize hN : (zLst S.2.1 norm).1 = N at *
  refine x_istore dX12_angles_21 rfl (by decide) ?_
  refine x_iconst dX12_angles_23 rfl iC_0 ?_
  refine x_istore dX12_angles_24 rfl (by decide) ?_
  refine x_iconst dX12_angles_26 rfl iC_0 ?_
  refine x_istore dX12_angles_27 rfl (by decide) ?_
  have key := xloop (P := fun i => ∀ h1, mV [9] [] h2 h1 → xWP G l mX12_angles d (zM G Q) 0 0 29 (xls [(0, .ref 110), (1, .int (nI x)), (2, .int (nI norm)), (3, .int v), (4, .int (nI N)), (5, .int (nI (cN p i))), (6, .int (nI i))]) [] h1) N (by
    intro i hi ih h1 m1
    have hC := m1.1
    refine x_iload dX12_angles_29 rfl rfl ?_
    refine x_iload dX12_angles_31 rfl rfl ?_
    refine x_jc_ge (tgt := 65) dX12_angles_33 rfl rfl (by omega) (by omega) (fun c33 => ?_) (fun c33 => ?_)
    · obtain rfl : i = N := by omega
      refine x_iload dX12_angles_65 rfl rfl ?_
      refine x_ireturn dX12_angles_67 rfl rfl ?_
      exact K _ _ _ en (r2.sc m1 (by simp) (by simp)) (c2.tr (m1.c (by simp)))
    · have hi2 : i < N := by omega
      have i4 : iv h1 114 = iv h2 114 := m1.2.1.iv (by decide)
      refine x_aload_n (i := 0) dX12_angles_36 rfl rfl rfl ?_
      refine x_bipush dX12_angles_37 rfl bC_9 ?_
      refine x_iload_n (i := 2) dX12_angles_39 rfl rfl rfl ?_
      refine x_iload dX12_angles_40 rfl rfl ?_
      refine x_callV0 (ci := 12) (b := 110) (As := [_, _, _]) (d2 := d - 1) dX12_angles_42 rfl kX12_178 okX12_brings (hC.o rfl) (fun q hq => by cases hq; rfl) (by omega) rfl rfl (Nat.le_of_ble_eq_true rfl) (m_brings (t := 9) (by omega) hC (by decide) hn (by omega) (zBd_up _) (fun q hq => by rw [i4]; exact e4 i hi2 q hq) (fun h3 k3 e3 => ?_))
      have hC := k3.1
      have m3 := (m1.tr k3).sub (P2 := [9]) (C2 := []) (by simp) (by simp)
      have ex : pl h3 x = S.1 x := by rw [m3.pp (by omega) (by simp; omega)]; exact r2.p hx
      refine x_aload_n (i := 0) dX12_angles_45 rfl rfl rfl ?_
      refine x_iload_n (i := 1) dX12_angles_46 rfl rfl rfl ?_
      refine x_bipush dX12_angles_47 rfl bC_9 ?_
      refine x_callV0 (ci := 12) (b := 110) (As := [_, _]) (d2 := d - 1) dX12_angles_49 rfl kX12_352 okX12_innerOf (hC.o rfl) (fun q hq => by cases hq; rfl) (by omega) rfl rfl (Nat.le_of_ble_eq_true rfl) (m_innerOf (by omega) hC (by omega) (y := 9) (by decide) ?_)
      have ev : zCap (zInn (pl h3 x) (pl h3 9) 8) = zCap (zInn (zEl S.2.1 norm i) (S.1 x) 8) := by
        rw [ex, e3, zInn_cm]
        congr 1
      rw [ev]
      refine x_iload_n (i := 3) dX12_angles_52 rfl rfl rfl ?_
      refine x_ic_ne (tgt := 59) dX12_angles_53 rfl rfl (fun c53 => ?_) (fun c53 => ?_)
      · have np : ¬ p i := by rw [hp]; exact c53
        refine x_iinc dX12_angles_59 rfl rfl (inc1 _) ?_
        refine x_goto (tgt := 29) dX12_angles_62 rfl ?_
        exact x_to (ih hi2 h3 m3) ⟨rfl, rfl, rfl, rfl, rfl, by rw [cN_f (n := i) np]; rfl, rfl, trivial⟩
      · have pi : p i := by
          rw [hp]
          first
          | exact c53
          | exact Classical.byContradiction (fun z => c53 z)
        refine x_iinc dX12_angles_56 rfl rfl (inc1 _) ?_
        refine x_iinc dX12_angles_59 rfl rfl (inc1 _) ?_
        refine x_goto (tgt := 29) dX12_angles_62 rfl ?_
        exact x_to (ih hi2 h3 m3) ⟨rfl, rfl, rfl, rfl, rfl, by rw [cN_t (n := i) pi]; rfl, rfl, trivial⟩) 0 (Nat.zero_le _) h2 ((mV.rf hC).sub (P := []) (C := []) (by simp) (by simp))
  exact x_to key ⟨rfl, rfl, rfl, rfl, rfl, rfl, rfl, trivial⟩
end MOD

