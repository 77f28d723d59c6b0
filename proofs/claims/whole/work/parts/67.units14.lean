/-! EightParts$Units: how often a unit must be taken -/
def zCyc (T : Nat → Nat → Nat) (k one : Nat) : Nat → Nat → Nat → Int32
  | 0, _, _ => -1
  | f + 1, u, n => if u = one then nI n else zCyc T k one f (T u k) (n + 1)
theorem uG.b {h : xH} {o r : Nat} {rw0 : Nat → Nat} {mk : Nat → Option Nat} (hU : uG h o r rw0 mk) : uGb true h o r rw0 mk := hU
section UNITS
variable {G : xG} {l : Launch} {d : Nat} {h : xH} {Q : Option Value → xH → Prop} {r o : Nat} {rw0 : Nat → Nat} {mk : Nat → Option Nat} {T : Nat → Nat → Nat}
/-- behind it, the row is made if it was, or if the unit isn't 1 -/
theorem c_cycleOf {b : Bool} {k : Nat} (hd : 6 ≤ d) (hT : tblO o T) (hU : uGb b h o r rw0 mk) (hk : k < (zLst o 1).1)
    (K1 : k = (zLst o 1).1 - 1 → Q (some (.int (zCyc T k ((zLst o 1).1 - 1) 60 k 1))) h)
    (K2 : ¬ k = (zLst o 1).1 - 1 → ∀ h2, uG h2 o r rw0 mk → xGw [11, 31, 32, 33, r] (kB b) h h2 → (∀ q, q ≠ 4 → q ≠ 5 → (h2.1 31).2.2 q = (h.1 31).2.2 q) → Q (some (.int (zCyc T k ((zLst o 1).1 - 1) 60 k 1))) h2) : xCt G l mX9_cycleOf d [.ref 31, .int (nI k)] h (if k = (zLst o 1).1 - 1 then 0 else kB b) (if k = (zLst o 1).1 - 1 then 0 else nB b) Q := by
  have hsN : (zLst o 1).1 ≤ 240 := zLst_le o 1
  generalize hz : zCyc T k ((zLst o 1).1 - 1) 60 k 1 = RR at K1 K2
  obtain ⟨hC, ho, ho8, hL, hmk, hr, hne⟩ := hU.C
  refine xCt_of (by decide) (Nat.le_of_ble_eq_true rfl) ?_
  refine x_aload_n (i := 0) dX9_cycleOf_0 rfl rfl rfl ?_
  refine x_getC dX9_cycleOf_1 rfl fX9_35 hC rfl F_31_0 ?_
  refine x_iconst dX9_cycleOf_4 rfl iC_1 ?_
  refine x_callV0 (ci := 4) (b := 22) (As := [_]) (d2 := d - 1) dX9_cycleOf_5 rfl kX9_43 okX4_manyOf (hC.o rfl) (fun q hq => by cases hq; rfl) (by omega) rfl rfl (Nat.le_of_ble_eq_true rfl) (c_lmanyOfC (norm := 1) hC ho ho8 (by decide) hL hmk ?_)
  refine x_iconst dX9_cycleOf_8 rfl iC_1 ?_
  refine x_isub dX9_cycleOf_9 rfl ?_
  rw [show nI (zLst o 1).1 - nI 1 = nI ((zLst o 1).1 - 1) from pk_sub (by omega)]
  refine x_istore_n (i := 2) dX9_cycleOf_10 rfl rfl (by decide) ?_
  refine x_iload_n (i := 1) dX9_cycleOf_11 rfl rfl rfl ?_
  refine x_istore_n (i := 3) dX9_cycleOf_12 rfl rfl (by decide) ?_
  refine x_iconst dX9_cycleOf_13 rfl iC_1 ?_
  refine x_istore dX9_cycleOf_14 rfl (by decide) ?_
  refine x_iload dX9_cycleOf_16 rfl rfl ?_
  refine x_bipush dX9_cycleOf_18 rfl bC_60 ?_
  refine x_jc_gt (tgt := 44) dX9_cycleOf_20 rfl rfl (by omega) (by omega) (fun c20 => ?_) (fun c20 => ?_)
  · omega
  · refine x_iload_n (i := 3) dX9_cycleOf_23 rfl rfl rfl ?_
    refine x_iload_n (i := 2) dX9_cycleOf_24 rfl rfl rfl ?_
    refine x_jc_ne (tgt := 31) dX9_cycleOf_25 rfl rfl (by omega) (by omega) (fun c25 => ?_) (fun c25 => ?_)
    · rw [if_neg c25, if_neg c25]
      refine x_aload_n (i := 0) dX9_cycleOf_31 rfl rfl rfl ?_
      refine x_iload_n (i := 3) dX9_cycleOf_32 rfl rfl rfl ?_
      refine x_iload_n (i := 1) dX9_cycleOf_33 rfl rfl rfl ?_
      refine x_callV (ci := 9) (b := 31) (As := [_, _]) (d2 := d - 1) (mc2 := kB b) (ms2 := nB b) (k2 := 0) (n2 := 0) dX9_cycleOf_34 rfl kX9_58 okX9_multiplyAt (hC.o rfl) (fun q hq => by cases hq; rfl) (by omega) rfl rfl (Nat.le_of_ble_eq_true rfl) (by omega) (by omega) (c_mulAtB (by omega) hU hk hk (fun h1 hU1 hS1 f1 => ?_))
      rw [(hT k k hk hk).2]
      refine x_istore_n (i := 3) dX9_cycleOf_37 rfl rfl (by decide) ?_
      refine x_iinc dX9_cycleOf_38 rfl rfl (inc1 _) ?_
      refine x_goto (tgt := 16) dX9_cycleOf_41 rfl ?_
      have key := xloop (P := fun n => 2 ≤ n → ∀ h1 u, u < (zLst o 1).1 → uG h1 o r rw0 mk → xGw [11, 31, 32, 33, r] (kB b) h h1 → (∀ q, q ≠ 4 → q ≠ 5 → (h1.1 31).2.2 q = (h.1 31).2.2 q) → RR = zCyc T k ((zLst o 1).1 - 1) (61 - n) u n → xWP G l mX9_cycleOf d (zM G Q) 0 0 16 (xls [(0, .ref 31), (1, .int (nI k)), (2, .int (nI ((zLst o 1).1 - 1))), (3, .int (nI u)), (4, .int (nI n))]) [] h1) 61 (by
        intro n hn ih h2n h1 u hu hU1 hS1 f1 e
        refine x_iload dX9_cycleOf_16 rfl rfl ?_
        refine x_bipush dX9_cycleOf_18 rfl bC_60 ?_
        refine x_jc_gt (tgt := 44) dX9_cycleOf_20 rfl rfl (by omega) (by omega) (fun c20 => ?_) (fun c20 => ?_)
        · obtain rfl : n = 61 := by omega
          refine x_iconst dX9_cycleOf_44 rfl iC_m1 ?_
          refine x_ireturn dX9_cycleOf_45 rfl rfl ?_
          have kk := K2 c25 h1 hU1 hS1 f1
          rw [e] at kk
          exact kk
        · obtain ⟨m, hm⟩ : ∃ m, 61 - n = m + 1 := ⟨60 - n, by omega⟩
          have kk := K2 c25 h1 hU1 hS1 f1
          rw [e, hm, zCyc] at kk
          rw [hm, zCyc] at e
          refine x_iload_n (i := 3) dX9_cycleOf_23 rfl rfl rfl ?_
          refine x_iload_n (i := 2) dX9_cycleOf_24 rfl rfl rfl ?_
          refine x_jc_ne (tgt := 31) dX9_cycleOf_25 rfl rfl (by omega) (by omega) (fun c25 => ?_) (fun c25 => ?_)
          · refine x_aload_n (i := 0) dX9_cycleOf_31 rfl rfl rfl ?_
            refine x_iload_n (i := 3) dX9_cycleOf_32 rfl rfl rfl ?_
            refine x_iload_n (i := 1) dX9_cycleOf_33 rfl rfl rfl ?_
            have hC := hU1.1
            refine x_callV0 (ci := 9) (b := 31) (As := [_, _]) (d2 := d - 1) dX9_cycleOf_34 rfl kX9_58 okX9_multiplyAt (hC.o rfl) (fun q hq => by cases hq; rfl) (by omega) rfl rfl (Nat.le_of_ble_eq_true rfl) (c_mulAt (by omega) hU1 hu hk (fun h3 hU3 hS3 f3 => ?_))
            rw [(hT u k hu hk).2]
            refine x_istore_n (i := 3) dX9_cycleOf_37 rfl rfl (by decide) ?_
            refine x_iinc dX9_cycleOf_38 rfl rfl (inc1 _) ?_
            refine x_goto (tgt := 16) dX9_cycleOf_41 rfl ?_
            rename ¬ u = _ => cu
            rw [if_neg cu] at e
            refine x_to (ih (by omega) (by omega) h3 (T u k) (hT u k hu hk).1 hU3 ((hS1.tr (hS3.gw)).sub (fun _ z => z) (by omega)) (fun q q4 q5 => (f3 q q5).trans (f1 q q4 q5)) ?_) ⟨rfl, rfl, rfl, rfl, rfl, trivial⟩
            rw [e, show 61 - (n + 1) = m by omega]
          · rename u = _ => cu
            rw [if_pos cu] at kk
            refine x_iload dX9_cycleOf_28 rfl rfl ?_
            refine x_ireturn dX9_cycleOf_30 rfl rfl ?_
            exact kk) 2 (by decide) (Nat.le_refl _)
      refine x_to (key h1 (T k k) (hT k k hk hk).1 hU1 hS1 f1 ?_) ⟨rfl, rfl, rfl, rfl, rfl, trivial⟩
      rw [← hz]
      show zCyc T k _ (59 + 1) k 1 = _
      rw [zCyc, if_neg c25]
    · refine x_iload dX9_cycleOf_28 rfl rfl ?_
      refine x_ireturn dX9_cycleOf_30 rfl rfl ?_
      have kk := K1 c25
      rw [← hz, show (60 : Nat) = 59 + 1 from rfl, zCyc, if_pos c25] at kk
      exact kk
end UNITS

