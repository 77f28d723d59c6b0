/-! EightParts$Units: close -/
section UNITS
variable {G : xG} {l : Launch} {d : Nat} {h : xH} {Q : Option Value → xH → Prop} {r o : Nat} {rw0 : Nat → Nat} {mk : Nat → Option Nat} {T : Nat → Nat → Nat}
abbrev clS (r : Nat) : List Nat := [11, 31, 32, 33, 35, 36, r]
theorem kB_le (b : Bool) : kB b ≤ 1 := by cases b <;> decide
/-- multiplyAt and what a unit is let in by -/
theorem w_mulAdm {M : xM} {pc1 pc2 pc3 i1 i2 d3 : Nat} {L : xL} {b : Bool} {u v : Nat} {s : mS} {Z : List Frame → Array Value → State → Nat → Nat → State → Prop} (hd3 : 6 ≤ d3) (hM : xOkV mX9_multiplyAt 2) (hA : xOkV mX9_admit 1) (l1 : xMl M.1.cls i1 mX9_multiplyAt) (l2 : xMl M.1.cls i2 mX9_admit) (d1 : decode M.2.1 pc1 = .ok (.invokevirtual i1, 3)) (d2 : decode M.2.1 pc2 = .ok (.invokevirtual i2, 3)) (p1 : pc1 + 3 = pc2) (p2 : pc2 + 3 = pc3)
    (hT : tblO o T) (hU : uGb b h o r rw0 mk) (hI : uI h s) (hm : ∀ j, j < s.1 → s.2 j < (zLst o 1).1) (hu : u < (zLst o 1).1) (hv : v < (zLst o 1).1)
    (K : ∀ h2, uG h2 o r rw0 mk → uI h2 (mAdd s (T u v)) → (∀ j, j < (mAdd s (T u v)).1 → (mAdd s (T u v)).2 j < (zLst o 1).1) → xGw (clS r) (kB b) h h2 → (∀ q, q ≠ 4 → q ≠ 5 → q ≠ 8 → (h2.1 31).2.2 q = (h.1 31).2.2 q) → xWP G l M d3 Z 0 0 pc3 L [] h2) : xWP G l M d3 Z (kB b) (nB b) pc1 L [.int (nI v), .int (nI u), .ref 31, .ref 31] h := by
  have hsN : (zLst o 1).1 ≤ 240 := zLst_le o 1
  have hC := hU.C.1
  have hr := hU.C.2.2.2.2.2.1
  refine x_callV (ci := 9) (b := 31) (As := [_, _]) (d2 := d3 - 1) (mc2 := kB b) (ms2 := nB b) (k2 := 0) (n2 := 0) (st := [.ref 31]) d1 p1 l1 hM (hC.o rfl) (fun q hq => by cases hq; rfl) (by omega) rfl rfl (Nat.le_of_ble_eq_true rfl) (by omega) (by omega) (c_mulAtB (by omega) hU hu hv (fun h2 hU2 hS2 f2 => ?_))
  rw [(hT u v hu hv).2]
  have t1 := (hT u v hu hv).1
  have hC2 := hU2.1
  have h134 := hC.1
  have hI2 : uI h2 s := hI.keep (f2 8 (by decide) (by decide)) (hS2.iv (by omega) (by simp; omega)) (hS2.iv (by omega) (by simp; omega))
  refine x_callV0 (ci := 9) (b := 31) (As := [_]) (d2 := d3 - 1) (st := []) d2 p2 l2 hA (hC2.o rfl) (fun q hq => by cases hq; rfl) (by omega) rfl rfl (Nat.le_of_ble_eq_true rfl) (c_admitS hC2 hI2 (by omega) (fun h3 hC3 hI3 hS3 f3 => ?_))
  refine K h3 (uGb.keepU (b := true) hU2 hC3 hS3 f3) hI3 (mAdd_lt t1 hm) ?_ (fun q q4 q5 q8 => (f3 q q8).trans (f2 q q4 q5))
  exact (hS2.sub (T := clS r) (m2 := kB b) (by simp) (Nat.le_refl _)).step hS3.gw (by simp) (by rw [hS3.1]; exact hS2.2.1)
theorem c_close {b : Bool} {s : mS} (hd : 7 ≤ d) (hT : tblO o T) (hU : uGb b h o r rw0 mk) (hI : uI h s) (hm : ∀ j, j < s.1 → s.2 j < (zLst o 1).1) (hs1 : 1 ≤ s.1) (hs2 : s.1 < (zLst o 1).1)
    (K : ∀ h2, uG h2 o r rw0 mk → uI h2 (clO T (zLst o 1).1 241 0 s) → (∀ j, j < (clO T (zLst o 1).1 241 0 s).1 → (clO T (zLst o 1).1 241 0 s).2 j < (zLst o 1).1) → xGw (clS r) 1 h h2 → (∀ q, q ≠ 4 → q ≠ 5 → q ≠ 8 → (h2.1 31).2.2 q = (h.1 31).2.2 q) → Q none h2) : xCt G l mX9_close d [.ref 31] h (kB b) (nB b) Q := by
  have hsN : (zLst o 1).1 ≤ 240 := zLst_le o 1
  refine xCt_of (by decide) (Nat.le_of_ble_eq_true rfl) ?_
  generalize hz : clO T (zLst o 1).1 241 0 s = RR at K
  obtain ⟨hC, ho, ho8, hL, hmk, hr, hne⟩ := hU.C
  refine x_aload_n (i := 0) dX9_close_0 rfl rfl rfl ?_
  refine x_getC dX9_close_1 rfl fX9_35 hC rfl F_31_0 ?_
  refine x_iconst dX9_close_4 rfl iC_1 ?_
  refine x_callV0 (ci := 4) (b := 22) (As := [_]) (d2 := d - 1) dX9_close_5 rfl kX9_43 okX4_manyOf (hC.o rfl) (fun q hq => by cases hq; rfl) (by omega) rfl rfl (Nat.le_of_ble_eq_true rfl) (c_lmanyOfC (norm := 1) hC ho ho8 (by decide) hL hmk ?_)
  refine x_istore_n (i := 1) dX9_close_8 rfl rfl (by decide) ?_
  refine x_iconst dX9_close_9 rfl iC_0 ?_
  refine x_istore_n (i := 2) dX9_close_10 rfl rfl (by decide) ?_
  have key := xloop (P := fun i => ∀ b1 h1 s1, (b1 = true ∨ i = 0) → uGb b1 h1 o r rw0 mk → uI h1 s1 → (∀ j, j < s1.1 → s1.2 j < (zLst o 1).1) → (i = 0 → 1 ≤ s1.1 ∧ s1.1 < (zLst o 1).1) → xGw (clS r) 1 h h1 → h1.2 + kB b1 ≤ h.2 + 1 → (∀ q, q ≠ 4 → q ≠ 5 → q ≠ 8 → (h1.1 31).2.2 q = (h.1 31).2.2 q) → RR = clO T (zLst o 1).1 (241 - i) i s1 → xWP G l mX9_close d (zM G Q) (kB b1) (nB b1) 11 (xls [(0, .ref 31), (1, .int (nI (zLst o 1).1)), (2, .int (nI i))]) [] h1) 240 (by
    intro i hi ih b1 h1 s1 hb1 hU1 hI1 hm1 h01 hS1 hg1 f1 e
    have hC := hU1.C.1
    have g8 := hI1.1
    have c240 := hI1.2.1
    obtain ⟨f, ef⟩ : ∃ f, 241 - i = f + 1 := ⟨240 - i, by omega⟩
    rw [ef, clO] at e
    have fin : ¬ (i < s1.1 ∧ s1.1 < (zLst o 1).1) → xWP G l mX9_close d (zM G Q) (kB b1) (nB b1) 86 (xls [(0, .ref 31)]) [] h1 := by
      intro z
      rw [if_neg z] at e
      obtain rfl : b1 = true := by
        rcases hb1 with q | q
        · exact q
        · have := h01 q
          omega
      refine x_return dX9_close_86 rfl ?_
      rw [e] at K
      exact K h1 hU1 hI1 hm1 hS1 f1
    refine x_iload_n (i := 2) dX9_close_11 rfl rfl rfl ?_
    refine x_aload_n (i := 0) dX9_close_12 rfl rfl rfl ?_
    refine x_getM (a := 31) dX9_close_13 rfl fX9_32 hC rfl g8 ?_
    refine x_jc_ge (tgt := 86) dX9_close_16 rfl rfl (by omega) (by omega) (fun c16 => ?_) (fun c16 => ?_)
    · exact x_to (fin (by omega)) ⟨rfl, trivial⟩
    · refine x_aload_n (i := 0) dX9_close_19 rfl rfl rfl ?_
      refine x_getM (a := 31) dX9_close_20 rfl fX9_32 hC rfl g8 ?_
      refine x_iload_n (i := 1) dX9_close_23 rfl rfl rfl ?_
      refine x_jc_ge (tgt := 86) dX9_close_24 rfl rfl (by omega) (by omega) (fun c24 => ?_) (fun c24 => ?_)
      · exact x_to (fin (by omega)) ⟨rfl, trivial⟩
      · rw [if_pos ⟨c16, c24⟩] at e
        refine x_iconst dX9_close_27 rfl iC_0 ?_
        refine x_istore_n (i := 3) dX9_close_28 rfl rfl (by decide) ?_
        have keyI := xloop (P := fun k => ∀ b2 h2, (b2 = true ∨ k = 0) → uGb b2 h2 o r rw0 mk → uI h2 (clI T i k s1) → (∀ j, j < (clI T i k s1).1 → (clI T i k s1).2 j < (zLst o 1).1) → xGw (clS r) 1 h h2 → h2.2 + kB b2 ≤ h.2 + 1 → (∀ q, q ≠ 4 → q ≠ 5 → q ≠ 8 → (h2.1 31).2.2 q = (h.1 31).2.2 q) → xWP G l mX9_close d (zM G Q) (kB b2) (nB b2) 29 (xls [(0, .ref 31), (1, .int (nI (zLst o 1).1)), (2, .int (nI i)), (3, .int (nI k))]) [] h2) (i + 1) (by
          intro k hk ihk b2 h2 hb2 hU2 hI2 hm2 hS2 hg2 f2
          have hC := hU2.C.1
          have v35 := hC.v (a := 35) rfl
          have ge := clI_ge T i s1 k
          refine x_iload_n (i := 3) dX9_close_29 rfl rfl rfl ?_
          refine x_iload_n (i := 2) dX9_close_30 rfl rfl rfl ?_
          refine x_jc_gt (tgt := 80) dX9_close_31 rfl rfl (by omega) (by omega) (fun c31 => ?_) (fun c31 => ?_)
          · obtain rfl : k = i + 1 := by omega
            refine x_iinc dX9_close_80 rfl rfl (inc1 _) ?_
            refine x_goto (tgt := 11) dX9_close_83 rfl ?_
            refine x_to (ih (by omega) b2 h2 (clI T i (i + 1) s1) (Or.inl (by rcases hb2 with q | q; exact q; omega)) hU2 hI2 hm2 (by omega) hS2 hg2 f2 ?_) ⟨rfl, rfl, rfl, trivial⟩
            rw [e, show 241 - (i + 1) = f by omega]
          · have e1 := (hI2.2.2.1 i (by omega)).2
            have e2 := (hI2.2.2.1 k (by omega)).2
            rw [clI_at T i s1 c16 k] at e1
            rw [clI_at T i s1 (show k < s1.1 by omega) k] at e2
            have u1 := hm1 i c16
            have u2 := hm1 k (by omega)
            refine x_aload_n (i := 0) dX9_close_34 rfl rfl rfl ?_
            refine x_aload_n (i := 0) dX9_close_35 rfl rfl rfl ?_
            refine x_aload_n (i := 0) dX9_close_36 rfl rfl rfl ?_
            refine x_getC dX9_close_37 rfl fX9_25 hC rfl F_31_6 ?_
            refine x_iload_n (i := 2) dX9_close_40 rfl rfl rfl ?_
            refine x_iald dX9_close_41 rfl (by first | assumption | exact hs_eq | exact hs_ne (by first | assumption | decide | omega) (by first | assumption | exact hs_eq | exact hs_ne (by first | assumption | decide | omega) (by first | assumption | exact hs_eq | exact hs_ne (by first | assumption | decide | omega) (by assumption)))) rfl (by omega) (by decide) ?_
            rw [e1]
            refine x_aload_n (i := 0) dX9_close_42 rfl rfl rfl ?_
            refine x_getC dX9_close_43 rfl fX9_25 hC rfl F_31_6 ?_
            refine x_iload_n (i := 3) dX9_close_46 rfl rfl rfl ?_
            refine x_iald dX9_close_47 rfl (by first | assumption | exact hs_eq | exact hs_ne (by first | assumption | decide | omega) (by first | assumption | exact hs_eq | exact hs_ne (by first | assumption | decide | omega) (by first | assumption | exact hs_eq | exact hs_ne (by first | assumption | decide | omega) (by assumption)))) rfl (by omega) (by decide) ?_
            rw [e2]
            refine w_mulAdm (by omega) okX9_multiplyAt okX9_admit kX9_58 kX9_76 dX9_close_48 dX9_close_51 rfl rfl hT hU2 hI2 hm2 u1 u2 (fun h3 hU3 hI3 hm3 hS3 f3 => ?_)
            have hC := hU3.1
            have v35 := hC.v (a := 35) rfl
            have e1' := (hI3.2.2.1 i (by have := mAdd_ge (s := clI T i k s1) (u := T (s1.2 i) (s1.2 k)); omega)).2
            have e2' := (hI3.2.2.1 k (by have := mAdd_ge (s := clI T i k s1) (u := T (s1.2 i) (s1.2 k)); omega)).2
            rw [mAdd_at (by omega), clI_at T i s1 c16 k] at e1'
            rw [mAdd_at (by omega), clI_at T i s1 (show k < s1.1 by omega) k] at e2'
            refine x_aload_n (i := 0) dX9_close_54 rfl rfl rfl ?_
            refine x_aload_n (i := 0) dX9_close_55 rfl rfl rfl ?_
            refine x_aload_n (i := 0) dX9_close_56 rfl rfl rfl ?_
            refine x_getC dX9_close_57 rfl fX9_25 hC rfl F_31_6 ?_
            refine x_iload_n (i := 3) dX9_close_60 rfl rfl rfl ?_
            refine x_iald dX9_close_61 rfl (by first | assumption | exact hs_eq | exact hs_ne (by first | assumption | decide | omega) (by first | assumption | exact hs_eq | exact hs_ne (by first | assumption | decide | omega) (by first | assumption | exact hs_eq | exact hs_ne (by first | assumption | decide | omega) (by assumption)))) rfl (by omega) (by decide) ?_
            rw [e2']
            refine x_aload_n (i := 0) dX9_close_62 rfl rfl rfl ?_
            refine x_getC dX9_close_63 rfl fX9_25 hC rfl F_31_6 ?_
            refine x_iload_n (i := 2) dX9_close_66 rfl rfl rfl ?_
            refine x_iald dX9_close_67 rfl (by first | assumption | exact hs_eq | exact hs_ne (by first | assumption | decide | omega) (by first | assumption | exact hs_eq | exact hs_ne (by first | assumption | decide | omega) (by first | assumption | exact hs_eq | exact hs_ne (by first | assumption | decide | omega) (by assumption)))) rfl (by omega) (by decide) ?_
            rw [e1']
            refine w_mulAdm (b := true) (by omega) okX9_multiplyAt okX9_admit kX9_58 kX9_76 dX9_close_68 dX9_close_71 rfl rfl hT hU3 hI3 hm3 u2 u1 (fun h4 hU4 hI4 hm4 hS4 f4 => ?_)
            refine x_iinc dX9_close_74 rfl rfl (inc1 _) ?_
            refine x_goto (tgt := 29) dX9_close_77 rfl ?_
            have q3 := hS3.2.1
            have q4 := hS4.2.1
            have kt : kB true = 0 := rfl
            refine x_to (ihk (by omega) true h4 (Or.inl rfl) hU4 hI4 hm4 (hS2.step (hS3.step hS4 (fun _ z => z) (n := kB b2) (by omega)) (fun _ z => z) (by omega)) (by omega) (fun q q4 q5 q8 => (f4 q q4 q5 q8).trans ((f3 q q4 q5 q8).trans (f2 q q4 q5 q8)))) ⟨rfl, rfl, rfl, rfl, trivial⟩) 0 (Nat.zero_le _)
        exact x_to (keyI b1 h1 (Or.inr rfl) hU1 hI1 hm1 hS1 hg1 f1) ⟨rfl, rfl, rfl, rfl, trivial⟩) 0 (Nat.zero_le _)
  exact x_to (key b h s (Or.inr rfl) hU hI hm (fun _ => ⟨hs1, hs2⟩) (xGw.rf.sub (fun _ z => z) (by omega)) (by have := kB_le b; omega) (fun _ _ _ _ => rfl) hz.symm) ⟨rfl, rfl, rfl, trivial⟩
end UNITS

