/-! EightParts$Lists: manyOf, when the list is there; EightParts$Units: any two units -/
noncomputable def zMA (o i k : Nat) : Int32 := if ((min i ((zLst o 1).1 - 1 - i) = i ↔ min k ((zLst o 1).1 - 1 - k) = k) ∨ zMN o (min i ((zLst o 1).1 - 1 - i)) (min k ((zLst o 1).1 - 1 - k)) = -1) then zMN o (min i ((zLst o 1).1 - 1 - i)) (min k ((zLst o 1).1 - 1 - k)) else nI ((zLst o 1).1 - 1) - zMN o (min i ((zLst o 1).1 - 1 - i)) (min k ((zLst o 1).1 - 1 - k))
section UNITS
variable {G : xG} {l : Launch} {d : Nat} {h : xH} {Q : Option Value → xH → Prop}
theorem c_lmanyOfC {norm o : Nat} {rw0 : Nat → Nat} {mk : Nat → Option Nat} (hC : Cs h) (ho : hOrd h o) (ho8 : o < 8) (hnm : norm < 4) (hL : lsC h rw0 mk) (hmk : mk norm = some o) (K : Q (some (.int (nI (zLst o norm).1))) h) : xCt G l mX4_manyOf d [.ref 22, .int (nI norm)] h 0 0 Q := by
  have v29 := hC.v (a := 29) rfl
  have v28 := hC.v (a := 28) rfl
  obtain ⟨l1, l2⟩ := hL
  rcases (l2 norm hnm).1 with ⟨a1, a2, a3⟩ | ⟨a1, a2, g, o', a3, a4, a5, a6, a7, a8⟩
  · rw [a2] at hmk
    cases hmk
  · obtain rfl : o' = o := Option.some.inj (a5.symm.trans hmk)
    refine xCt_of (by decide) (Nat.le_of_ble_eq_true rfl) ?_
    refine x_iload_n (i := 1) dX4_manyOf_0 rfl rfl rfl ?_
    refine x_if_lt_f (tgt := 9) dX4_manyOf_1 rfl rfl (nI_pos (by omega)) ?_
    refine x_iload_n (i := 1) dX4_manyOf_4 rfl rfl rfl ?_
    refine x_iconst dX4_manyOf_5 rfl iC_3 ?_
    refine x_jc_le (tgt := 11) dX4_manyOf_6 rfl rfl (by omega) (by omega) (fun c6 => ?_) (fun c6 => ?_)
    · refine x_aload_n (i := 0) dX4_manyOf_11 rfl rfl rfl ?_
      refine x_getC dX4_manyOf_12 rfl fX4_20 hC rfl F_22_3 ?_
      refine x_iload_n (i := 1) dX4_manyOf_15 rfl rfl rfl ?_
      refine x_iald dX4_manyOf_16 rfl v29 rfl (by omega) (by decide) ?_
      rw [a6]
      refine x_aload_n (i := 0) dX4_manyOf_17 rfl rfl rfl ?_
      refine x_getC dX4_manyOf_18 rfl fX4_26 hC rfl F_22_0 ?_
      refine x_getM (a := 14) dX4_manyOf_21 rfl fX4_30 hC rfl ho ?_
      refine x_ic_eq_t (tgt := 32) dX4_manyOf_24 rfl rfl ?_
      refine x_aload_n (i := 0) dX4_manyOf_32 rfl rfl rfl ?_
      refine x_getC dX4_manyOf_33 rfl fX4_16 hC rfl F_22_2 ?_
      refine x_iload_n (i := 1) dX4_manyOf_36 rfl rfl rfl ?_
      refine x_iald dX4_manyOf_37 rfl v28 rfl (by omega) (by decide) ?_
      rw [a7]
      refine x_ireturn dX4_manyOf_38 rfl rfl ?_
      exact K
    · omega
end UNITS

