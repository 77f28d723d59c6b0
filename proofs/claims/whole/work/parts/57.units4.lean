/-! EightParts$Units: the k-th member -/
/-- among the first n units: how many are members; the k-th of them -/
def zCnt (im : Nat → Int32) : Nat → Nat
  | 0 => 0
  | n + 1 => if im n = 0 then zCnt im n else zCnt im n + 1
theorem zCnt_le (im : Nat → Int32) : ∀ n, zCnt im n ≤ n := by
  intro n
  induction n with
  | zero => exact Nat.le_refl _
  | succ n ih =>
    rw [zCnt]
    split <;> omega
section UNITS
variable {G : xG} {l : Launch} {d : Nat} {h : xH} {Q : Option Value → xH → Prop}
theorem c_gatheredAt {k : Int32} (hC : Cs h) (Kt : ∀ u, u < 240 → ¬ iv h 36 u = 0 → nI (zCnt (iv h 36) u) = k → Q (some (.int (nI u))) h) (Kf : (∀ u, u < 240 → ¬ iv h 36 u = 0 → ¬ nI (zCnt (iv h 36) u) = k) → Q (some (.int (-1))) h) : xCt G l mX9_gatheredAt d [.ref 31, .int k] h 0 0 Q := by
  have v36 := hC.z (a := 36) rfl
  refine xCt_of (by decide) (Nat.le_of_ble_eq_true rfl) ?_
  refine x_iconst dX9_gatheredAt_0 rfl iC_0 ?_
  refine x_istore_n (i := 2) dX9_gatheredAt_1 rfl rfl (by decide) ?_
  refine x_iconst dX9_gatheredAt_2 rfl iC_0 ?_
  refine x_istore_n (i := 3) dX9_gatheredAt_3 rfl rfl (by decide) ?_
  have key := xloop (P := fun i => (∀ u, u < i → ¬ iv h 36 u = 0 → ¬ nI (zCnt (iv h 36) u) = k) → xWP G l mX9_gatheredAt d (zM G Q) 0 0 4 (xls [(0, .ref 31), (1, .int k), (2, .int (nI (zCnt (iv h 36) i))), (3, .int (nI i))]) [] h) 240 (by
    intro i hi ih hno
    refine x_iload_n (i := 3) dX9_gatheredAt_4 rfl rfl rfl ?_
    refine x_sipush dX9_gatheredAt_5 rfl sC_240 ?_
    refine x_jc_ge (tgt := 36) dX9_gatheredAt_8 rfl rfl (by omega) (by omega) (fun c8 => ?_) (fun c8 => ?_)
    · obtain rfl : i = 240 := by omega
      refine x_iconst dX9_gatheredAt_36 rfl iC_m1 ?_
      refine x_ireturn dX9_gatheredAt_37 rfl rfl ?_
      exact Kf hno
    · refine x_aload_n (i := 0) dX9_gatheredAt_11 rfl rfl rfl ?_
      refine x_getC dX9_gatheredAt_12 rfl fX9_28 hC rfl F_31_7 ?_
      refine x_iload_n (i := 3) dX9_gatheredAt_15 rfl rfl rfl ?_
      refine x_zald dX9_gatheredAt_16 rfl (by first | assumption | exact hs_eq | exact hs_ne (by first | assumption | decide | omega) (by first | assumption | exact hs_eq | exact hs_ne (by first | assumption | decide | omega) (by first | assumption | exact hs_eq | exact hs_ne (by first | assumption | decide | omega) (by assumption)))) rfl (by omega) (by decide) ?_
      refine x_if_eq (tgt := 30) dX9_gatheredAt_17 rfl rfl (fun c17 => ?_) (fun c17 => ?_)
      · refine x_iinc dX9_gatheredAt_30 rfl rfl (inc1 _) ?_
        refine x_goto (tgt := 4) dX9_gatheredAt_33 rfl ?_
        refine x_to (ih c8 (fun u hu hm => ?_)) ⟨rfl, rfl, by rw [zCnt, if_pos c17]; rfl, rfl, trivial⟩
        by_cases e : u = i
        · rw [e] at hm
          exact absurd c17 hm
        · exact hno u (by omega) hm
      · refine x_iload_n (i := 2) dX9_gatheredAt_20 rfl rfl rfl ?_
        refine x_iload_n (i := 1) dX9_gatheredAt_21 rfl rfl rfl ?_
        refine x_ic_ne (tgt := 27) dX9_gatheredAt_22 rfl rfl (fun c22 => ?_) (fun c22 => ?_)
        · refine x_iinc dX9_gatheredAt_27 rfl rfl (inc1 _) ?_
          refine x_iinc dX9_gatheredAt_30 rfl rfl (inc1 _) ?_
          refine x_goto (tgt := 4) dX9_gatheredAt_33 rfl ?_
          refine x_to (ih c8 (fun u hu hm => ?_)) ⟨rfl, rfl, by rw [zCnt, if_neg c17]; rfl, rfl, trivial⟩
          by_cases e : u = i
          · rw [e]
            exact c22
          · exact hno u (by omega) hm
        · refine x_iload_n (i := 3) dX9_gatheredAt_25 rfl rfl rfl ?_
          refine x_ireturn dX9_gatheredAt_26 rfl rfl ?_
          exact Kt i c8 c17 c22) 0 (Nat.zero_le _)
  exact x_to (key (fun u hu => absurd hu (Nat.not_lt_zero u))) ⟨rfl, rfl, rfl, rfl, trivial⟩
end UNITS

