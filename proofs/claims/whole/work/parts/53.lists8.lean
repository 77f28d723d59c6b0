/-! EightParts$Lists: find, over any contract of manyOf -/
def zFindL (o norm : Nat) (f : Nat → Int32) : Int32 := if (zLst o norm).1 = 0 then -1 else zFind (zLst o norm).2 (zLst o norm).1 (zPk f 8)
section LISTS
variable {G : xG} {l : Launch} {d : Nat} {h : xH} {Q : Option Value → xH → Prop}
theorem c_lfindN {a : Nat} {f : Nat → Int32} (hd : 2 ≤ d) (hC : Cs h) (ha : h.1 a = (0, 8, xI f)) (hno : 12 < zInn f f 8 ∨ ¬ zInn f f 8 - zInn f f 8 / 4 * 4 = 0) (K : Q (some (.int (-1))) h) : xCt G l mX4_find d [.ref 22, .ref a] h 0 0 Q := by
  refine xCt_of (by decide) (Nat.le_of_ble_eq_true rfl) ?_
  refine x_aload_n (i := 1) dX4_find_0 rfl rfl rfl ?_
  refine x_callS0 (As := [_]) (d2 := d - 1) dX4_find_1 rfl kX4_48 okX5_normBy4 (by omega) rfl rfl (Nat.le_of_ble_eq_true rfl) (c_normBy4 (by omega) ha ?_)
  refine x_lstore_n (i := 2) dX4_find_4 rfl rfl (by decide) ?_
  refine x_lload_n (i := 2) dX4_find_5 rfl rfl rfl ?_
  refine x_ldc2 dX4_find_6 rfl cX4_54 ?_
  refine x_lcmp dX4_find_9 rfl ?_
  refine x_if_gt (tgt := 23) dX4_find_10 rfl rfl (fun c10 => ?_) (fun c10 => ?_)
  · refine x_iconst dX4_find_23 rfl iC_m1 ?_
    refine x_ireturn dX4_find_24 rfl rfl ?_
    exact K
  · refine x_lload_n (i := 2) dX4_find_13 rfl rfl rfl ?_
    refine x_ldc2 dX4_find_14 rfl cX4_56 ?_
    refine x_lrem dX4_find_17 rfl (by decide) ?_
    refine x_lconst dX4_find_18 rfl lC_0 ?_
    refine x_lcmp dX4_find_19 rfl ?_
    refine x_if_eq (tgt := 25) dX4_find_20 rfl rfl (fun c20 => ?_) (fun c20 => ?_)
    · rcases hno with q | q
      · exact absurd ((lg_cmp_gt _ _).mpr q) c10
      · exact absurd ((lg_cmp_eq _ _).mp c20) q
    · refine x_iconst dX4_find_23 rfl iC_m1 ?_
      refine x_ireturn dX4_find_24 rfl rfl ?_
      exact K
theorem c_lfind {a norm o mc ms : Nat} {f : Nat → Int32} {Good : xH → Prop} (hd : 2 ≤ d) (hC : Cs h) (ho8 : o < 8) (hnm : norm < 4) (ha : h.1 a = (0, 8, xI f)) (q1 : ¬ 12 < zInn f f 8) (q2 : zInn f f 8 - zInn f f 8 / 4 * 4 = 0) (q3 : (zInn f f 8 / 4).toInt32 = nI norm)
    (hmo : ∀ Q2 : Option Value → xH → Prop, (∀ h2, Good h2 → Q2 (some (.int (nI (zLst o norm).1))) h2) → xCt G l mX4_manyOf (d - 1) [.ref 22, .int (nI norm)] h mc ms Q2)
    (hgo : ∀ h2, Good h2 → Cs h2 ∧ (∃ rw0 mk, lsC h2 rw0 mk ∧ mk norm = some o) ∧ h2.1 a = (0, 8, xI f))
    (K : ∀ h2, Good h2 → Q (some (.int (zFindL o norm f))) h2) : xCt G l mX4_find d [.ref 22, .ref a] h mc ms Q := by
  refine xCt_of (by decide) (Nat.le_of_ble_eq_true rfl) ?_
  refine x_aload_n (i := 1) dX4_find_0 rfl rfl rfl ?_
  refine x_callS0 (As := [_]) (d2 := d - 1) dX4_find_1 rfl kX4_48 okX5_normBy4 (by omega) rfl rfl (Nat.le_of_ble_eq_true rfl) (c_normBy4 (by omega) ha ?_)
  refine x_lstore_n (i := 2) dX4_find_4 rfl rfl (by decide) ?_
  refine x_lload_n (i := 2) dX4_find_5 rfl rfl rfl ?_
  refine x_ldc2 dX4_find_6 rfl cX4_54 ?_
  refine x_lcmp dX4_find_9 rfl ?_
  refine x_if_gt_f (tgt := 23) dX4_find_10 rfl rfl (fun z => q1 ((lg_cmp_gt _ _).mp z)) ?_
  refine x_lload_n (i := 2) dX4_find_13 rfl rfl rfl ?_
  refine x_ldc2 dX4_find_14 rfl cX4_56 ?_
  refine x_lrem dX4_find_17 rfl (by decide) ?_
  refine x_lconst dX4_find_18 rfl lC_0 ?_
  refine x_lcmp dX4_find_19 rfl ?_
  refine x_if_eq_t (tgt := 25) dX4_find_20 rfl ((lg_cmp_eq _ _).mpr q2) ?_
  refine x_lload_n (i := 2) dX4_find_25 rfl rfl rfl ?_
  refine x_ldc2 dX4_find_26 rfl cX4_56 ?_
  refine x_ldiv dX4_find_29 rfl (by decide) ?_
  refine x_l2i dX4_find_30 rfl ?_
  rw [q3]
  refine x_istore dX4_find_31 rfl (by decide) ?_
  refine x_aload_n (i := 0) dX4_find_33 rfl rfl rfl ?_
  refine x_iload dX4_find_34 rfl rfl ?_
  refine x_callV (ci := 4) (b := 22) (As := [_]) (d2 := d - 1) (mc2 := mc) (ms2 := ms) (k2 := 0) (n2 := 0) dX4_find_36 rfl kX4_40 okX4_manyOf (hC.o rfl) (fun q hq => by cases hq; rfl) (by omega) rfl rfl (Nat.le_of_ble_eq_true rfl) (by omega) (by omega) (hmo _ (fun h2 hg => ?_))
  obtain ⟨hC2, ⟨rw0, mk, hL, hmk⟩, hv⟩ := hgo h2 hg
  have hC := hC2
  have sm := zLst_sm (o := o) hnm
  have sr := zLst_le o norm
  have rl := zRoom_le norm hnm
  have kk := K h2 hg
  unfold zFindL at kk
  rcases (hL.2 norm hnm).1 with ⟨a1, a2, a3⟩ | ⟨a1, a2, g, o', a3, a4, a5, a6, a7, a8⟩
  · rw [a2] at hmk
    cases hmk
  · obtain rfl : o' = o := Option.some.inj (a5.symm.trans hmk)
    have l1 := hL.1
    by_cases z : (zLst o' norm).1 = 0
    · rw [if_pos z] at kk
      refine x_if_le_t (tgt := 52) dX4_find_39 rfl (by rw [z]; decide) ?_
      refine x_iconst dX4_find_52 rfl iC_m1 ?_
      refine x_ireturn dX4_find_53 rfl rfl ?_
      exact kk
    · rw [if_neg z] at kk
      refine x_if_le_f (tgt := 52) dX4_find_39 rfl rfl (nI_nle (by omega) (by omega)) ?_
      refine x_aload_n (i := 0) dX4_find_42 rfl rfl rfl ?_
      refine x_iload dX4_find_43 rfl rfl ?_
      refine x_aload_n (i := 1) dX4_find_45 rfl rfl rfl ?_
      refine x_callV0 (ci := 4) (b := 22) (As := [_, _]) (d2 := d - 1) dX4_find_46 rfl kX4_58 okX4_search (hC.o rfl) (fun q hq => by cases hq; rfl) (by omega) rfl rfl (Nat.le_of_ble_eq_true rfl) (c_search (by omega) hC l1 a4 hnm a7 (by omega) sr (by omega) hv ?_)
      refine x_goto (tgt := 53) dX4_find_49 rfl ?_
      refine x_ireturn dX4_find_53 rfl rfl ?_
      rw [zFind_eq (by omega) a8]
      exact kk
end LISTS

