/-! EightParts$Parts, and what of the library it calls -/
section PARTS
variable {G : xG} {l : Launch} {d : Nat} {h : xH} {Q : Option Value → xH → Prop}
/-- Arrays.fill(int[], int) -/
theorem c_fill {a N : Nat} {g : Nat → Int32} {v : Int32} (ha : h.1 a = (0, N, xI g)) (hN : N < 2147483648) (K : Q none (hs h a (0, N, xI (fun _ => v)))) : xCt G l mJ7_fill_53178 d [.ref a, .int v] h 0 0 Q := by
  refine xCt_of (by decide) (Nat.le_of_ble_eq_true rfl) ?_
  refine x_iconst dJ7_fill_53178_0 rfl iC_0 ?_
  refine x_istore_n (i := 2) dJ7_fill_53178_1 rfl rfl (by decide) ?_
  refine x_aload_n (i := 0) dJ7_fill_53178_2 rfl rfl rfl ?_
  refine x_alen dJ7_fill_53178_3 rfl (by first | assumption | exact hs_eq | exact hs_ne (by first | assumption | decide | omega) (by first | assumption | exact hs_eq | exact hs_ne (by first | assumption | decide | omega) (by first | assumption | exact hs_eq | exact hs_ne (by first | assumption | decide | omega) (by assumption)))) (by decide) rfl ?_
  refine x_istore_n (i := 3) dJ7_fill_53178_4 rfl rfl (by decide) ?_
  have key := xloop (P := fun i => xWP G l mJ7_fill_53178 d (zM G Q) 0 0 5 (xls [(0, .ref a), (1, .int v), (2, .int (nI i)), (3, .int (nI N))]) [] (hs h a (0, N, xI (xF (fun _ => v) g i)))) N (by
    intro i hi ih
    refine x_iload_n (i := 2) dJ7_fill_53178_5 rfl rfl rfl ?_
    refine x_iload_n (i := 3) dJ7_fill_53178_6 rfl rfl rfl ?_
    refine x_jc_ge (tgt := 20) dJ7_fill_53178_7 rfl rfl (by omega) (by omega) (fun c7 => ?_) (fun c7 => ?_)
    · obtain rfl : i = N := by omega
      refine x_topI (f2 := fun _ => v) (fun j hj => if_pos hj) (by decide) ?_
      refine x_return dJ7_fill_53178_20 rfl ?_
      exact K
    · refine x_aload_n (i := 0) dJ7_fill_53178_10 rfl rfl rfl ?_
      refine x_iload_n (i := 2) dJ7_fill_53178_11 rfl rfl rfl ?_
      refine x_iload_n (i := 1) dJ7_fill_53178_12 rfl rfl rfl ?_
      refine x_iastT dJ7_fill_53178_13 rfl rfl (by omega) hN ?_
      refine x_iinc dJ7_fill_53178_14 rfl rfl (inc1 _) ?_
      refine x_goto (tgt := 5) dJ7_fill_53178_17 rfl ?_
      rw [xF_upd (fun _ => v)]
      exact x_ls _ ⟨rfl, rfl, rfl, rfl, trivial⟩ (ih c7)) 0 (Nat.zero_le _)
  rw [xF_0, hs_self ha] at key
  exact x_ls _ ⟨rfl, rfl, rfl, rfl, trivial⟩ key
/-- lay -/
theorem c_lay {a b : Nat} {f g : Nat → Int32} (hd : 1 ≤ d) (ha : h.1 a = (0, 8, xI g)) (hb : h.1 b = (0, 8, xI f)) (K : Q none (hs h a (0, 8, xI f))) : xCt G l mX5_lay d [.ref a, .ref b] h 0 0 Q := by
  refine xCt_of (by decide) (Nat.le_of_ble_eq_true rfl) ?_
  refine x_aload_n (i := 1) dX5_lay_0 rfl rfl rfl ?_
  refine x_iconst dX5_lay_1 rfl iC_0 ?_
  refine x_aload_n (i := 0) dX5_lay_2 rfl rfl rfl ?_
  refine x_iconst dX5_lay_3 rfl iC_0 ?_
  refine x_bipush dX5_lay_4 rfl bC_8 ?_
  refine x_copy (sp := 0) (dp := 0) (cn := 8) dX5_lay_6 rfl aX5_9 (by decide) hb ha rfl rfl rfl (by decide) (by decide) (by decide) (by decide) (fun i _ => rfl) hd (Nat.le_of_ble_eq_true rfl) ?_
  refine x_topI (f2 := f) (fun j hj => ?_) (by decide) ?_
  · unfold va_cpy
    rw [if_pos (by omega)]
    congr 1
    omega
  refine x_return dX5_lay_9 rfl ?_
  exact K
/-- E(i), doubled -/
def zOne (i : Nat) : Nat → Int32 := fun j => if j = i then nI 2 else nI 0
theorem c_layOne {a i : Nat} {g : Nat → Int32} (hd : 1 ≤ d) (hi : i < 8) (ha : h.1 a = (0, 8, xI g)) (K : Q none (hs h a (0, 8, xI (zOne i)))) : xCt G l mX5_layOne d [.ref a, .int (nI i)] h 0 0 Q := by
  refine xCt_of (by decide) (Nat.le_of_ble_eq_true rfl) ?_
  refine x_aload_n (i := 0) dX5_layOne_0 rfl rfl rfl ?_
  refine x_iconst dX5_layOne_1 rfl iC_0 ?_
  refine x_callS0 (As := [_, _]) (d2 := d - 1) dX5_layOne_2 rfl kX5_15 okJ7_fill_53178 (by omega) rfl rfl (Nat.le_of_ble_eq_true rfl) (c_fill ha (by decide) ?_)
  refine x_aload_n (i := 0) dX5_layOne_5 rfl rfl rfl ?_
  refine x_iload_n (i := 1) dX5_layOne_6 rfl rfl rfl ?_
  refine x_iconst dX5_layOne_7 rfl iC_2 ?_
  refine x_iastT dX5_layOne_8 rfl rfl (by omega) (by decide) ?_
  refine x_return dX5_layOne_9 rfl ?_
  exact K
/-- layMirrored -/
def zMir (f : Nat → Int32) : Nat → Int32 := fun j => if j = 0 then f 0 else -f j
theorem c_layMirrored {a b : Nat} {f g : Nat → Int32} (ha : h.1 a = (0, 8, xI g)) (hb : h.1 b = (0, 8, xI f)) (K : Q none (hs h a (0, 8, xI (zMir f)))) : xCt G l mX5_layMirrored d [.ref a, .ref b] h 0 0 Q := by
  refine xCt_of (by decide) (Nat.le_of_ble_eq_true rfl) ?_
  refine x_aload_n (i := 0) dX5_layMirrored_0 rfl rfl rfl ?_
  refine x_iconst dX5_layMirrored_1 rfl iC_0 ?_
  refine x_aload_n (i := 1) dX5_layMirrored_2 rfl rfl rfl ?_
  refine x_iconst dX5_layMirrored_3 rfl iC_0 ?_
  refine x_iald dX5_layMirrored_4 rfl (by first | assumption | exact hs_eq | exact hs_ne (by first | assumption | decide | omega) (by first | assumption | exact hs_eq | exact hs_ne (by first | assumption | decide | omega) (by first | assumption | exact hs_eq | exact hs_ne (by first | assumption | decide | omega) (by assumption)))) rfl (by omega) (by decide) ?_
  refine x_iast dX5_layMirrored_5 rfl (by first | assumption | exact hs_eq | exact hs_ne (by first | assumption | decide | omega) (by first | assumption | exact hs_eq | exact hs_ne (by first | assumption | decide | omega) (by first | assumption | exact hs_eq | exact hs_ne (by first | assumption | decide | omega) (by assumption)))) rfl (by omega) (by decide) ?_
  have e0 : upd g 0 (f 0) = xF (zMir f) g 1 := by
    rw [← xF_upd (zMir f) g 0, xF_0]
    rfl
  rw [e0]
  refine x_iconst dX5_layMirrored_6 rfl iC_1 ?_
  refine x_istore_n (i := 2) dX5_layMirrored_7 rfl rfl (by decide) ?_
  have key := xloop (P := fun i => 1 ≤ i → xWP G l mX5_layMirrored d (zM G Q) 0 0 8 (xls [(0, .ref a), (1, .ref b), (2, .int (nI i))]) [] (hs h a (0, 8, xI (xF (zMir f) g i)))) 8 (by
    intro i hi ih h1
    refine x_iload_n (i := 2) dX5_layMirrored_8 rfl rfl rfl ?_
    refine x_bipush dX5_layMirrored_9 rfl bC_8 ?_
    refine x_jc_ge (tgt := 27) dX5_layMirrored_11 rfl rfl (by omega) (by omega) (fun c11 => ?_) (fun c11 => ?_)
    · obtain rfl : i = 8 := by omega
      refine x_topI (f2 := zMir f) (fun j hj => if_pos hj) (by decide) ?_
      refine x_return dX5_layMirrored_27 rfl ?_
      exact K
    · have hbi : (hs h a (0, 8, xI (xF (zMir f) g i))).1 b = (0, 8, xI (if b = a then xF (zMir f) f i else f)) := by
        by_cases e : b = a
        · subst e
          rw [hs_eq, if_pos rfl]
          have e2 : xI f = xI g := by
            have := hb.symm.trans ha
            simp only [Prod.mk.injEq] at this
            exact this.2.2
          have e3 : f = g := by
            funext j
            have := congrFun e2 j
            exact Value.int.inj this
          rw [e3]
        · rw [if_neg e]
          exact hs_ne e hb
      refine x_aload_n (i := 0) dX5_layMirrored_14 rfl rfl rfl ?_
      refine x_iload_n (i := 2) dX5_layMirrored_15 rfl rfl rfl ?_
      refine x_aload_n (i := 1) dX5_layMirrored_16 rfl rfl rfl ?_
      refine x_iload_n (i := 2) dX5_layMirrored_17 rfl rfl rfl ?_
      refine x_iald dX5_layMirrored_18 rfl hbi rfl (by omega) (by decide) ?_
      refine x_ineg dX5_layMirrored_19 rfl ?_
      have ev : -(if b = a then xF (zMir f) f i else f) i = zMir f i := by
        have e1 : (if b = a then xF (zMir f) f i else f) i = f i := by
          by_cases e : b = a
          · rw [if_pos e]
            exact if_neg (by omega)
          · rw [if_neg e]
        rw [e1]
        exact (if_neg (by omega)).symm
      rw [ev]
      refine x_iastT dX5_layMirrored_20 rfl rfl (by omega) (by decide) ?_
      rw [xF_upd (zMir f)]
      refine x_iinc dX5_layMirrored_21 rfl rfl (inc1 _) ?_
      refine x_goto (tgt := 8) dX5_layMirrored_24 rfl ?_
      exact x_ls _ ⟨rfl, rfl, rfl, trivial⟩ (ih c11 (by omega))) 1 (by decide) (Nat.le_refl 1)
  exact x_ls _ ⟨rfl, rfl, rfl, trivial⟩ key
end PARTS

