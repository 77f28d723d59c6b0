/-! EightParts$Lists: fill, with its row made or to be made -/
section LISTS
variable {G : xG} {l : Launch} {d : Nat} {h : xH} {Q : Option Value → xH → Prop}
theorem zRoom_pos : ∀ k, k < 4 → 0 < zRoom k := by decide
theorem c_lfill1 {norm r o : Nat} {rw0 : Nat → Nat} {g : Nat → Int32} (hd : 9 ≤ d) (hC : Cs h) (ho : hOrd h o) (ho8 : o < 8) (hnm : norm < 4) (hr : 134 ≤ r) (h23 : h.1 23 = (4, 4, xP rw0)) (hrw : rw0 norm = r) (hrow : h.1 r = (0, zRoom norm, xI g))
    (K : ∀ h2, Cs h2 → xSm [28, 29, 30, r] h h2 → iv h2 28 norm = nI (zList o norm g).1 → (∀ j, j ≠ norm → iv h2 28 j = iv h 28 j) → iv h2 29 = upd (iv h 29) norm (nI o) → h2.1 r = (0, zRoom norm, xI (zList o norm g).2) → Q none h2) : xCt G l mX4_fill d [.ref 22, .int (nI norm)] h 0 0 Q := by
  refine xCt_of (by decide) (Nat.le_of_ble_eq_true rfl) ?_
  have rl := zRoom_le norm hnm
  have rp := zRoom_pos norm hnm
  have hrow' : h.1 (rw0 norm) = (0, zRoom norm, xI g) := by rw [hrw]; exact hrow
  refine x_aload_n (i := 0) dX4_fill_0 rfl rfl rfl ?_
  refine x_getC dX4_fill_1 rfl fX4_11 hC rfl F_22_1 ?_
  refine x_iload_n (i := 1) dX4_fill_4 rfl rfl rfl ?_
  refine x_aald (t := 0)  dX4_fill_5 rfl h23 (by decide) rfl (by omega) (by decide) ?_
  refine x_alen dX4_fill_6 rfl hrow' (by decide) rfl ?_
  refine x_if_ne_t (tgt := 23) dX4_fill_7 rfl (nI_ne0 rp (by omega)) ?_
  exact x_to (w_lfill hd hC ho ho8 hnm hr h23 hrw hrow K) ⟨rfl, rfl, trivial⟩
theorem c_lfill0 {norm o : Nat} {rw0 : Nat → Nat} {F0 : Nat → Value} (hd : 9 ≤ d) (hC : Cs h) (hm0 : h.2 < 900000) (ho : hOrd h o) (ho8 : o < 8) (hnm : norm < 4) (h23 : h.1 23 = (4, 4, xP rw0)) (hrow : h.1 (rw0 norm) = (0, 0, F0))
    (K : ∀ h2, Cs h2 → h2.2 = h.2 + 1 → (∀ a, a < h.2 → a ∉ [23, 28, 29, 30] → h2.1 a = h.1 a) → h2.1 23 = (4, 4, xP (fun j => if j = norm then h.2 else rw0 j)) → iv h2 28 norm = nI (zList o norm (fun _ => 0)).1 → (∀ j, j ≠ norm → iv h2 28 j = iv h 28 j) → iv h2 29 = upd (iv h 29) norm (nI o) → h2.1 h.2 = (0, zRoom norm, xI (zList o norm (fun _ => 0)).2) → Q none h2) : xCt G l mX4_fill d [.ref 22, .int (nI norm)] h 1 (zRoom norm) Q := by
  refine xCt_of (by decide) (Nat.le_of_ble_eq_true rfl) ?_
  have rl := zRoom_le norm hnm
  have h134 := hC.1
  refine x_aload_n (i := 0) dX4_fill_0 rfl rfl rfl ?_
  refine x_getC dX4_fill_1 rfl fX4_11 hC rfl F_22_1 ?_
  refine x_iload_n (i := 1) dX4_fill_4 rfl rfl rfl ?_
  refine x_aald (t := 0)  dX4_fill_5 rfl h23 (by decide) rfl (by omega) (by decide) ?_
  refine x_alen dX4_fill_6 rfl hrow (by decide) rfl ?_
  refine x_if_ne_f (tgt := 23) dX4_fill_7 rfl rfl nI_0 ?_
  refine x_aload_n (i := 0) dX4_fill_10 rfl rfl rfl ?_
  refine x_getC dX4_fill_11 rfl fX4_11 hC rfl F_22_1 ?_
  refine x_iload_n (i := 1) dX4_fill_14 rfl rfl rfl ?_
  refine x_gets dX4_fill_15 rfl sX4_66 ?_
  refine x_iload_n (i := 1) dX4_fill_18 rfl rfl rfl ?_
  refine x_sald dX4_fill_19 rfl rfl rfl hnm (by decide) ?_
  rw [show (List.getD ([1, 240, 2160, 6720] : List Int32) norm 0) = nI (zRoom norm) from zRoom_eq norm hnm]
  show xWP G l mX4_fill d (zM G Q) (1 + 0) (zRoom norm + 0) 20 _ _ h
  refine x_newarr (t := 0) (N := zRoom norm) dX4_fill_20 rfl (by decide) ac_int rfl (by omega) (by omega) ?_
  have n0 : ∀ a, a < h.2 → (hn h (0, zRoom norm, fun _ => defaultValue (xty 0))).1 a = h.1 a := fun a ha => by
    show (if a = h.2 then _ else h.1 a) = h.1 a
    rw [if_neg (by omega)]
  have n1 : (hn h (0, zRoom norm, fun _ => defaultValue (xty 0))).1 h.2 = (0, zRoom norm, xI (fun _ => 0)) := by
    show (if h.2 = h.2 then _ else _) = _
    rw [if_pos rfl]
    rfl
  have n2 : (hn h (0, zRoom norm, fun _ => defaultValue (xty 0))).2 = h.2 + 1 := rfl
  have hC1 : Cs (hn h (0, zRoom norm, fun _ => defaultValue (xty 0))) := by
    refine hC.gr (by rw [n2]; omega) n0 (fun a ha => ?_)
    show xTyp (if a = h.2 then _ else h.1 a)
    split
    · exact ⟨fun _ => 0, rfl⟩
    · exact hC.2.2.1 a
  generalize hn h (0, zRoom norm, fun _ => defaultValue (xty 0)) = h1 at n0 n1 n2 hC1 ⊢
  have f23 : h1.1 23 = (4, 4, xP rw0) := (n0 23 (by omega)).trans h23
  refine x_aast dX4_fill_22 rfl f23 n1 rfl (by omega) (by decide) ?_
  have eF : updV (xP rw0) norm (.ref h.2) = xP (fun j => if j = norm then h.2 else rw0 j) := by
    funext j
    show (if j = norm then Value.ref h.2 else .ref (rw0 j)) = .ref (if j = norm then h.2 else rw0 j)
    split <;> rfl
  rw [eF]
  have hC2 : Cs (hs h1 23 (4, 4, xP (fun j => if j = norm then h.2 else rw0 j))) := hC1.set (by rw [f23]) (by rw [f23]) trivial (fun q hq e => (csA_no (by decide +kernel) q hq e).elim) (by decide)
  have i28 : iv (hs h1 23 (4, 4, xP (fun j => if j = norm then h.2 else rw0 j))) 28 = iv h 28 := by rw [iv_n (by decide)]; unfold iv; rw [n0 28 (by omega)]
  have i29 : iv (hs h1 23 (4, 4, xP (fun j => if j = norm then h.2 else rw0 j))) 29 = iv h 29 := by rw [iv_n (by decide)]; unfold iv; rw [n0 29 (by omega)]
  refine x_to (w_lfill (r := h.2) (g := fun _ => 0) hd hC2 ?_ ho8 hnm h134 hs_eq (if_pos rfl) ?_ (fun h2 k1 k2 k3 k4 k5 k6 => K h2 k1 (k2.1.trans n2) (fun a ha na => ?_) ?_ k3 (fun j hj => ?_) ?_ k6)) ⟨rfl, rfl, trivial⟩
  · unfold hOrd
    rw [hs_n (by decide), n0 14 (by omega)]
    exact ho
  · rw [hs_n (by omega)]
    exact n1
  · simp at na
    rw [k2.2 a (by simp; omega), hs_n (by omega), n0 a ha]
  · rw [k2.2 23 (by simp; omega), hs_eq]
  · rw [k4 j hj, i28]
  · rw [k5, i29]
end LISTS

