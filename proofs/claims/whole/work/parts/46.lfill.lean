/-! EightParts$Lists: a list is filled -/
def zRoom (k : Nat) : Nat := ([1, 240, 2160, 6720] : List Nat).getD k 0
theorem zRoom_eq : ∀ k, k < 4 → ([1, 240, 2160, 6720] : List Int32).getD k 0 = nI (zRoom k) := by decide +kernel
theorem zRoom_le : ∀ k, k < 4 → zRoom k ≤ 6720 := by decide
def allW (o : Nat) : Int32 := (nI 1 <<< (nI (mwN o) &&& 31)) - nI 1
/-- the list of a norm in an order, in a row that held g -/
def zList (o norm : Nat) (g : Nat → Int32) : gst := zGr (zRoom norm) (zOw o (mwN o)) 8 (4 * norm) (allW o) (nI 0) (0, g)
section LISTS
variable {G : xG} {l : Launch} {d : Nat} {h : xH} {Q : Option Value → xH → Prop}
theorem w_lfill {norm r o K0 N0 : Nat} {rw0 : Nat → Nat} {g : Nat → Int32} (hd : 9 ≤ d) (hC : Cs h) (ho : hOrd h o) (ho8 : o < 8) (hnm : norm < 4) (hr : 134 ≤ r) (h23 : h.1 23 = (4, 4, xP rw0)) (hrw : rw0 norm = r) (hrow : h.1 r = (0, zRoom norm, xI g))
    (K : ∀ h2, Cs h2 → xSm [28, 29, 30, r] h h2 → iv h2 28 norm = nI (zList o norm g).1 → (∀ j, j ≠ norm → iv h2 28 j = iv h 28 j) → iv h2 29 = upd (iv h 29) norm (nI o) → h2.1 r = (0, zRoom norm, xI (zList o norm g).2) → Q none h2) : xWP G l mX4_fill d (zM G Q) K0 N0 23 (xls [(0, .ref 22), (1, .int (nI norm))]) [] h := by
  refine x_aload_n (i := 0) dX4_fill_23 rfl rfl rfl ?_
  refine x_callV0 (ci := 4) (b := 22) (As := []) (d2 := d - 1) dX4_fill_24 rfl kX4_69 okX4_sortWords (hC.o rfl) (fun q hq => by cases hq; rfl) (by omega) rfl rfl (Nat.le_of_ble_eq_true rfl) (c_sortWords (by omega) hC ho ho8 (fun h1 hC1 hS1 e30 => ?_))
  have hC := hC1
  have v28 := hC.v (a := 28) rfl
  have v29 := hC.v (a := 29) rfl
  have hC2 := hC.setI (f := upd (iv h1 28) norm (nI 0)) v28 (Or.inl rfl) (by decide)
  have hC3 := hC2.setI (f := upd (iv h1 29) norm (nI o)) (hs_ne (by decide) v29) (Or.inl rfl) (by decide)
  have o1 : hOrd h1 o := by unfold hOrd; rw [hS1.2 14 (by decide)]; exact ho
  have o2 : hOrd (hs h1 28 (0, 4, xI (upd (iv h1 28) norm (nI 0)))) o := by unfold hOrd; rw [hs_n (by decide)]; exact o1
  have o3 : hOrd (hs (hs h1 28 (0, 4, xI (upd (iv h1 28) norm (nI 0)))) 29 (0, 4, xI (upd (iv h1 29) norm (nI o)))) o := by unfold hOrd; rw [hs_n (by decide)]; exact o2
  refine x_aload_n (i := 0) dX4_fill_27 rfl rfl rfl ?_
  refine x_getC dX4_fill_28 rfl fX4_16 hC rfl F_22_2 ?_
  refine x_iload_n (i := 1) dX4_fill_31 rfl rfl rfl ?_
  refine x_iconst dX4_fill_32 rfl iC_0 ?_
  refine x_iast dX4_fill_33 rfl (by first | assumption | exact hs_eq | exact hs_ne (by first | assumption | decide | omega) (by first | assumption | exact hs_eq | exact hs_ne (by first | assumption | decide | omega) (by first | assumption | exact hs_eq | exact hs_ne (by first | assumption | decide | omega) (by assumption)))) rfl (by omega) (by decide) ?_
  refine x_aload_n (i := 0) dX4_fill_34 rfl rfl rfl ?_
  refine x_getC dX4_fill_35 rfl fX4_20 hC2 rfl F_22_3 ?_
  refine x_iload_n (i := 1) dX4_fill_38 rfl rfl rfl ?_
  refine x_aload_n (i := 0) dX4_fill_39 rfl rfl rfl ?_
  refine x_getC dX4_fill_40 rfl fX4_26 hC2 rfl F_22_0 ?_
  refine x_getM (a := 14) dX4_fill_43 rfl fX4_30 hC2 rfl o2 ?_
  refine x_iast dX4_fill_46 rfl (hs_ne (by decide) v29) rfl (by omega) (by decide) ?_
  refine x_iconst dX4_fill_47 rfl iC_1 ?_
  refine x_aload_n (i := 0) dX4_fill_48 rfl rfl rfl ?_
  refine x_getC dX4_fill_49 rfl fX4_26 hC3 rfl F_22_0 ?_
  refine x_getM (a := 14) dX4_fill_52 rfl fX4_30 hC3 rfl o3 ?_
  refine x_callS0 (As := [_]) (d2 := d - 1) dX4_fill_55 rfl kX4_72 okX2_manyWords (by omega) rfl rfl (Nat.le_of_ble_eq_true rfl) (c_manyWords ho8 ?_)
  have hS3 : xSm [28, 29, 30] h (hs (hs h1 28 (0, 4, xI (upd (iv h1 28) norm (nI 0)))) 29 (0, 4, xI (upd (iv h1 29) norm (nI o)))) := (hS1.tr xSm.hs2).sub (by simp)
  have e28 : iv (hs (hs h1 28 (0, 4, xI (upd (iv h1 28) norm (nI 0)))) 29 (0, 4, xI (upd (iv h1 29) norm (nI o)))) 28 = upd (iv h 28) norm (nI 0) := by rw [iv_n (by decide), iv_hs, hS1.iv (by decide)]
  have e29 : iv (hs (hs h1 28 (0, 4, xI (upd (iv h1 28) norm (nI 0)))) 29 (0, 4, xI (upd (iv h1 29) norm (nI o)))) 29 = upd (iv h 29) norm (nI o) := by rw [iv_hs, hS1.iv (by decide)]
  have e30' : (hs (hs h1 28 (0, 4, xI (upd (iv h1 28) norm (nI 0)))) 29 (0, 4, xI (upd (iv h1 29) norm (nI o)))).1 30 = (0, 8, xI (zOw o (mwN o))) := by rw [hs_n (by decide), hs_n (by decide)]; exact e30
  show xWP G l mX4_fill d (zM G Q) K0 N0 58 _ (xpush (some (.int (nI (mwN o)))) [.int (nI 1)]) (hs (hs h1 28 (0, 4, xI (upd (iv h1 28) norm (nI 0)))) 29 (0, 4, xI (upd (iv h1 29) norm (nI o))))
  generalize hs (hs h1 28 (0, 4, xI (upd (iv h1 28) norm (nI 0)))) 29 (0, 4, xI (upd (iv h1 29) norm (nI o))) = h3 at hC3 hS3 e28 e29 e30' ⊢
  have hC := hC3
  have f23 : h3.1 23 = (4, 4, xP rw0) := (hS3.2 23 (by decide)).trans h23
  have frow : h3.1 r = (0, zRoom norm, xI g) := (hS3.2 r (by simp; omega)).trans hrow
  have rl := zRoom_le norm hnm
  refine x_ishl dX4_fill_58 rfl ?_
  refine x_iconst dX4_fill_59 rfl iC_1 ?_
  refine x_isub dX4_fill_60 rfl ?_
  refine x_istore_n (i := 2) dX4_fill_61 rfl rfl (by decide) ?_
  refine x_aload_n (i := 0) dX4_fill_62 rfl rfl rfl ?_
  refine x_iload_n (i := 1) dX4_fill_63 rfl rfl rfl ?_
  refine x_iconst dX4_fill_64 rfl iC_0 ?_
  refine x_iconst dX4_fill_65 rfl iC_4 ?_
  refine x_iload_n (i := 1) dX4_fill_66 rfl rfl rfl ?_
  refine x_imul dX4_fill_67 rfl ?_
  refine x_iload_n (i := 2) dX4_fill_68 rfl rfl rfl ?_
  refine x_iconst dX4_fill_69 rfl iC_0 ?_
  rw [show nI 4 * nI norm = nI (4 * norm) from nI_mul8 4 norm]
  refine x_callV0 (ci := 4) (b := 22) (As := [_, _, _, _, _]) (d2 := d - 1) dX4_fill_70 rfl kX4_75 okX4_grow (hC.o rfl) (fun q hq => by cases hq; rfl) (by omega) rfl rfl (Nat.le_of_ble_eq_true rfl) (c_grow (h0 := h3) (r := r) (N := zRoom norm) (norm := norm) (rw0 := rw0) (ow := zOw o (mwN o)) hr (by omega) hnm f23 hrw e30' 8 (by decide) (d - 1) h3 (4 * norm) (allW o) (nI 0) (0, g) _ (by omega) (by omega) (Nat.zero_le _) ⟨hC, xSm.rf.sub (by simp), by rw [e28]; unfold upd; rw [if_pos rfl], fun j hj => rfl, frow⟩ (fun h4 hl4 => ?_))
  obtain ⟨g1, g2, g3, g4, g5⟩ := hl4
  refine x_return dX4_fill_73 rfl ?_
  refine K h4 g1 ((hS3.tr g2).sub (by simp)) g3 (fun j hj => ?_) ?_ g5
  · rw [g4 j hj, e28]
    unfold upd
    rw [if_neg hj]
  · rw [g2.iv (by simp; omega), e29]
end LISTS

