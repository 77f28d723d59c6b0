/-! EightParts$Lists: take, over any contract of manyOf -/
section LISTS
variable {G : xG} {l : Launch} {d : Nat} {h : xH} {Q : Option Value → xH → Prop}
theorem zLst_sm {o norm : Nat} (hnm : norm < 4) : (zLst o norm).1 ≤ 6720 := Nat.le_trans (zLst_le o norm) (zRoom_le norm hnm)
theorem c_ltake {a norm o mc ms : Nat} {k : Int32} {Good : xH → Prop} (hd : 2 ≤ d) (hC : Cs h) (ho8 : o < 8) (hnm : norm < 4)
    (hmo : ∀ Q2 : Option Value → xH → Prop, (∀ h2, Good h2 → Q2 (some (.int (nI (zLst o norm).1))) h2) → xCt G l mX4_manyOf (d - 1) [.ref 22, .int (nI norm)] h mc ms Q2)
    (hgo : ∀ h2, Good h2 → Cs h2 ∧ (∃ rw0 mk, lsC h2 rw0 mk ∧ mk norm = some o) ∧ ∃ v, h2.1 a = (0, 8, xI v))
    (Kt : ∀ j h2, k = nI j → j < (zLst o norm).1 → Good h2 → Q (some (.int (nI 1))) (hs h2 a (0, 8, xI (zUp ((zLst o norm).2 j))))) (Kf0 : k < 0 → Q (some (.int (nI 0))) h) (Kf1 : ∀ h2, Good h2 → nI (zLst o norm).1 ≤ k → Q (some (.int (nI 0))) h2) : xCt G l mX4_take d [.ref 22, .ref a, .int (nI norm), .int k] h mc ms Q := by
  refine xCt_of (by decide) (Nat.le_of_ble_eq_true rfl) ?_
  refine x_iload_n (i := 3) dX4_take_0 rfl rfl rfl ?_
  refine x_if_lt (tgt := 13) dX4_take_1 rfl rfl (fun c1 => ?_) (fun c1 => ?_)
  · refine x_iconst dX4_take_13 rfl iC_0 ?_
    refine x_ireturn dX4_take_14 rfl rfl ?_
    exact Kf0 c1
  · refine x_iload_n (i := 3) dX4_take_4 rfl rfl rfl ?_
    refine x_aload_n (i := 0) dX4_take_5 rfl rfl rfl ?_
    refine x_iload_n (i := 2) dX4_take_6 rfl rfl rfl ?_
    refine x_callV (ci := 4) (b := 22) (As := [_]) (d2 := d - 1) (mc2 := mc) (ms2 := ms) (k2 := 0) (n2 := 0) dX4_take_7 rfl kX4_40 okX4_manyOf (hC.o rfl) (fun q hq => by cases hq; rfl) (by omega) rfl rfl (Nat.le_of_ble_eq_true rfl) (by omega) (by omega) (hmo _ (fun h2 hg => ?_))
    obtain ⟨hC2, ⟨rw0, mk, hL, hmk⟩, v, hv⟩ := hgo h2 hg
    have hC := hC2
    have sm := zLst_sm (o := o) hnm
    have sr := zLst_le o norm
    have rl := zRoom_le norm hnm
    refine x_ic_lt (tgt := 15) dX4_take_10 rfl rfl (fun c10 => ?_) (fun c10 => ?_)
    · rcases (hL.2 norm hnm).1 with ⟨a1, a2, a3⟩ | ⟨a1, a2, g, o', a3, a4, a5, a6, a7, a8⟩
      · rw [a2] at hmk
        cases hmk
      · obtain rfl : o' = o := Option.some.inj (a5.symm.trans hmk)
        have p0 : 0 ≤ k.toInt := by
          have := Int32.le_iff_toInt_le.mp (Int32.not_lt.mp c1)
          simpa using this
        have p1 : k.toInt < (zLst o' norm).1 := by
          have := Int32.lt_iff_toInt_lt.mp c10
          rwa [nI_toInt (by omega)] at this
        obtain ⟨j, hj⟩ : ∃ j : Nat, k.toInt = j := ⟨k.toInt.toNat, by omega⟩
        have en : k = nI j := by
          apply Int32.toInt_inj.mp
          rw [hj, nI_toInt (by omega)]
        subst en
        have hjl : j < (zLst o' norm).1 := by omega
        have l1 := hL.1
        refine x_aload_n (i := 1) dX4_take_15 rfl rfl rfl ?_
        refine x_aload_n (i := 0) dX4_take_16 rfl rfl rfl ?_
        refine x_getC dX4_take_17 rfl fX4_11 hC rfl F_22_1 ?_
        refine x_iload_n (i := 2) dX4_take_20 rfl rfl rfl ?_
        refine x_aald (t := 0)  dX4_take_21 rfl l1 (by decide) rfl (by omega) (by decide) ?_
        refine x_iload_n (i := 3) dX4_take_22 rfl rfl rfl ?_
        refine x_iald dX4_take_23 rfl a4 rfl (by omega) (by omega) ?_
        rw [a8 j hjl]
        refine x_callS0 (As := [_, _]) (d2 := d - 1) dX4_take_24 rfl kX4_44 okX4_unpack (by omega) rfl rfl (Nat.le_of_ble_eq_true rfl) (c_unpack hv ?_)
        refine x_iconst dX4_take_27 rfl iC_1 ?_
        refine x_ireturn dX4_take_28 rfl rfl ?_
        exact Kt j h2 rfl hjl hg
    · refine x_iconst dX4_take_13 rfl iC_0 ?_
      refine x_ireturn dX4_take_14 rfl rfl ?_
      exact Kf1 h2 hg (Int32.not_lt.mp c10)
end LISTS

