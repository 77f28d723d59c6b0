/-! EightParts$Units: over a table of products that is closed -/
def tblO (o : Nat) (T : Nat → Nat → Nat) : Prop := ∀ i k, i < (zLst o 1).1 → k < (zLst o 1).1 → T i k < (zLst o 1).1 ∧ zMA o i k = nI (T i k)
def uM (h : xH) (o r : Nat) (rw0 : Nat → Nat) (mk : Nat → Option Nat) (c : Nat) (mN : Nat → Nat) : Prop := uG h o r rw0 mk ∧ hGa h c ∧ c ≤ 240 ∧ ∀ j, j < c → mN j < (zLst o 1).1 ∧ iv h 35 j = nI (mN j)
section UNITS
variable {G : xG} {l : Launch} {d : Nat} {h : xH} {Q : Option Value → xH → Prop} {r o c : Nat} {rw0 : Nat → Nat} {mk : Nat → Option Nat} {mN : Nat → Nat} {T : Nat → Nat → Nat}
theorem c_mulT {i k : Nat} (hd : 5 ≤ d) (hT : tblO o T) (hU : uM h o r rw0 mk c mN) (hi : i < (zLst o 1).1) (hk : k < (zLst o 1).1)
    (K : ∀ h2, uM h2 o r rw0 mk c mN → xSm [11, 31, 32, 33, r] h h2 → Q (some (.int (nI (T i k)))) h2) : xCt G l mX9_multiplyAt d [.ref 31, .int (nI i), .int (nI k)] h 0 0 Q := by
  obtain ⟨u1, u2, u3, u4⟩ := hU
  have hr : 134 ≤ r := u1.2.2.2.2.2.1
  refine c_mulAt hd u1 hi hk (fun h2 g1 g2 g3 => ?_)
  rw [(hT i k hi hk).2]
  refine K h2 ⟨g1, (g3 8 (by decide)).trans u2, u3, fun j hj => ⟨(u4 j hj).1, ?_⟩⟩ g2
  rw [g2.iv (by simp; omega)]
  exact (u4 j hj).2
theorem c_commutes {u : Nat} (hd : 6 ≤ d) (hT : tblO o T) (hU : uM h o r rw0 mk c mN) (hu : u < (zLst o 1).1)
    (Kt : (∀ j, j < c → T u (mN j) = T (mN j) u) → ∀ h2, uM h2 o r rw0 mk c mN → xSm [11, 31, 32, 33, r] h h2 → Q (some (.int (nI 1))) h2) (Kf : ¬ (∀ j, j < c → T u (mN j) = T (mN j) u) → ∀ h2, uM h2 o r rw0 mk c mN → xSm [11, 31, 32, 33, r] h h2 → Q (some (.int (nI 0))) h2) : xCt G l mX9_commutesWithAll d [.ref 31, .int (nI u)] h 0 0 Q := by
  have hsN : (zLst o 1).1 ≤ 240 := zLst_le o 1
  refine xCt_of (by decide) (Nat.le_of_ble_eq_true rfl) ?_
  refine x_iconst dX9_commutesWithAll_0 rfl iC_0 ?_
  refine x_istore_n (i := 2) dX9_commutesWithAll_1 rfl rfl (by decide) ?_
  have key := xloop (P := fun i => ∀ h1, uM h1 o r rw0 mk c mN → xSm [11, 31, 32, 33, r] h h1 → (∀ j, j < i → T u (mN j) = T (mN j) u) → xWP G l mX9_commutesWithAll d (zM G Q) 0 0 2 (xls [(0, .ref 31), (1, .int (nI u)), (2, .int (nI i))]) [] h1) c (by
    intro i hi ih h1 hU1 hS1 hall
    have hC := hU1.1.1
    have g8 := hU1.2.1
    have c240 := hU1.2.2.1
    have v35 := hC.v (a := 35) rfl
    refine x_iload_n (i := 2) dX9_commutesWithAll_2 rfl rfl rfl ?_
    refine x_aload_n (i := 0) dX9_commutesWithAll_3 rfl rfl rfl ?_
    refine x_getM (a := 31) dX9_commutesWithAll_4 rfl fX9_32 hC rfl g8 ?_
    refine x_jc_ge (tgt := 43) dX9_commutesWithAll_7 rfl rfl (by omega) (by omega) (fun c7 => ?_) (fun c7 => ?_)
    · obtain rfl : i = c := by omega
      refine x_iconst dX9_commutesWithAll_43 rfl iC_1 ?_
      refine x_ireturn dX9_commutesWithAll_44 rfl rfl ?_
      exact Kt hall h1 hU1 hS1
    · obtain ⟨m1, m2⟩ := hU1.2.2.2 i c7
      have t1 := hT u (mN i) hu m1
      have t2 := hT (mN i) u m1 hu
      refine x_aload_n (i := 0) dX9_commutesWithAll_10 rfl rfl rfl ?_
      refine x_iload_n (i := 1) dX9_commutesWithAll_11 rfl rfl rfl ?_
      refine x_aload_n (i := 0) dX9_commutesWithAll_12 rfl rfl rfl ?_
      refine x_getC dX9_commutesWithAll_13 rfl fX9_25 hC rfl F_31_6 ?_
      refine x_iload_n (i := 2) dX9_commutesWithAll_16 rfl rfl rfl ?_
      refine x_iald dX9_commutesWithAll_17 rfl (by first | assumption | exact hs_eq | exact hs_ne (by first | assumption | decide | omega) (by first | assumption | exact hs_eq | exact hs_ne (by first | assumption | decide | omega) (by first | assumption | exact hs_eq | exact hs_ne (by first | assumption | decide | omega) (by assumption)))) rfl (by omega) (by decide) ?_
      rw [m2]
      refine x_callV0 (ci := 9) (b := 31) (As := [_, _]) (d2 := d - 1) dX9_commutesWithAll_18 rfl kX9_58 okX9_multiplyAt (hC.o rfl) (fun q hq => by cases hq; rfl) (by omega) rfl rfl (Nat.le_of_ble_eq_true rfl) (c_mulT (by omega) hT hU1 hu m1 (fun h2 hU2 hS2 => ?_))
      have hC := hU2.1.1
      have v35 := hC.v (a := 35) rfl
      have m2' := (hU2.2.2.2 i c7).2
      refine x_aload_n (i := 0) dX9_commutesWithAll_21 rfl rfl rfl ?_
      refine x_aload_n (i := 0) dX9_commutesWithAll_22 rfl rfl rfl ?_
      refine x_getC dX9_commutesWithAll_23 rfl fX9_25 hC rfl F_31_6 ?_
      refine x_iload_n (i := 2) dX9_commutesWithAll_26 rfl rfl rfl ?_
      refine x_iald dX9_commutesWithAll_27 rfl (by first | assumption | exact hs_eq | exact hs_ne (by first | assumption | decide | omega) (by first | assumption | exact hs_eq | exact hs_ne (by first | assumption | decide | omega) (by first | assumption | exact hs_eq | exact hs_ne (by first | assumption | decide | omega) (by assumption)))) rfl (by omega) (by decide) ?_
      rw [m2']
      refine x_iload_n (i := 1) dX9_commutesWithAll_28 rfl rfl rfl ?_
      refine x_callV0 (ci := 9) (b := 31) (As := [_, _]) (d2 := d - 1) dX9_commutesWithAll_29 rfl kX9_58 okX9_multiplyAt (hC.o rfl) (fun q hq => by cases hq; rfl) (by omega) rfl rfl (Nat.le_of_ble_eq_true rfl) (c_mulT (by omega) hT hU2 m1 hu (fun h3 hU3 hS3 => ?_))
      have hS := ((hS1.tr hS2).tr hS3).sub (T := [11, 31, 32, 33, r]) (by simp)
      refine x_jc_eq (tgt := 37) dX9_commutesWithAll_32 rfl rfl (by omega) (by omega) (fun c32 => ?_) (fun c32 => ?_)
      · refine x_iinc dX9_commutesWithAll_37 rfl rfl (inc1 _) ?_
        refine x_goto (tgt := 2) dX9_commutesWithAll_40 rfl ?_
        refine x_to (ih c7 h3 hU3 hS (fun j hj => ?_)) ⟨rfl, rfl, rfl, trivial⟩
        by_cases e : j = i
        · rw [e]
          exact c32
        · exact hall j (by omega)
      · refine x_iconst dX9_commutesWithAll_35 rfl iC_0 ?_
        refine x_ireturn dX9_commutesWithAll_36 rfl rfl ?_
        exact Kf (fun z => c32 (z i c7)) h3 hU3 hS) 0 (Nat.zero_le _)
  exact x_to (key h hU (xSm.rf.sub (by simp)) (fun j hj => absurd hj (Nat.not_lt_zero j))) ⟨rfl, rfl, rfl, trivial⟩
end UNITS

