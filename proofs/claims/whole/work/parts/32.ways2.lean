/-! EightParts$Ways: all stretches -/
def wM (k : Nat) : Nat := ([0, 1, 1, 2, 5, 14, 42] : List Nat).getD k 0
def wB (k : Nat) : Nat := ([0, 0, 6, 11, 19, 34, 62] : List Nat).getD k 0
theorem wM_eq : ∀ k, k < 7 → ([0, 1, 1, 2, 5, 14, 42] : List Int32).getD k 0 = nI (wM k) := by decide +kernel
theorem wB_eq : ∀ k, k < 7 → ([0, 0, 6, 11, 19, 34, 62] : List Int32).getD k 0 = nI (wB k) := by decide +kernel
theorem wM_lt : ∀ k, wM k ≤ 42 := by
  intro k
  rcases Nat.lt_or_ge k 7 with q | q
  · have : ∀ k, k < 7 → wM k ≤ 42 := by decide
    exact this k q
  · unfold wM
    rw [List.getD_eq_getElem?_getD, List.getElem?_eq_none (by simpa using q)]
    decide
def wSo (fr len : Nat) : Nat := wB len + fr * wM len
/-- where the next product of a stretch goes, when n splits are through -/
def wAt (fr len : Nat) : Nat → Nat
  | 0 => wSo fr len
  | n + 1 => wAt fr len n + wM (n + 1) * wM (len - (n + 1))
def wyOk (len fr n a b : Nat) : Bool := Nat.ble (wAt fr len n + a * wM (len - (n + 1)) + b) 103 && Nat.ble (wSo fr (n + 1) + a) 103 && Nat.ble (wSo (fr + (n + 1)) (len - (n + 1)) + b) 103
def wyAll : Bool := (List.range 7).all fun len => (List.range 7).all fun fr => (List.range 6).all fun n => !(Nat.ble (fr + len) 6 && Nat.blt (n + 1) len) || ((List.range (wM (n + 1))).all fun a => (List.range (wM (len - (n + 1)))).all fun b => wyOk len fr n a b)
theorem wyAll_t : wyAll = true := by decide +kernel
theorem wy_b {len fr n a b : Nat} (h1 : fr + len ≤ 6) (h2 : n + 1 < len) (ha : a < wM (n + 1)) (hb : b < wM (len - (n + 1))) : wAt fr len n + a * wM (len - (n + 1)) + b < 104 ∧ wSo fr (n + 1) + a < 104 ∧ wSo (fr + (n + 1)) (len - (n + 1)) + b < 104 := by
  have e := wyAll_t
  unfold wyAll at e
  have e1 := List.all_eq_true.mp e len (List.mem_range.mpr (by omega))
  have e2 := List.all_eq_true.mp e1 fr (List.mem_range.mpr (by omega))
  have e3 := List.all_eq_true.mp e2 n (List.mem_range.mpr (by omega))
  have c1 : (Nat.ble (fr + len) 6 && Nat.blt (n + 1) len) = true := by rw [Bool.and_eq_true]; exact ⟨Nat.ble_eq.mpr h1, Nat.ble_eq.mpr h2⟩
  rw [c1] at e3
  have e4 := List.all_eq_true.mp (show ((List.range (wM (n + 1))).all fun a => (List.range (wM (len - (n + 1)))).all fun b => wyOk len fr n a b) = true from e3) a (List.mem_range.mpr ha)
  have e5 := List.all_eq_true.mp e4 b (List.mem_range.mpr hb)
  unfold wyOk at e5
  rw [Bool.and_eq_true, Bool.and_eq_true] at e5
  have q1 := Nat.ble_eq.mp e5.1.1
  have q2 := Nat.ble_eq.mp e5.1.2
  have q3 := Nat.ble_eq.mp e5.2
  omega
noncomputable def vR (V : Nat → zO) (at0 ls rs : Nat) : Nat → Nat → zO
  | 0 => V
  | n + 1 => vUpd (vR V at0 ls rs n) (at0 + n) (vMul (vR V at0 ls rs n ls) (vR V at0 ls rs n (rs + n)))
noncomputable def vL (V : Nat → zO) (at0 ls rs mr : Nat) : Nat → Nat → zO
  | 0 => V
  | n + 1 => vR (vL V at0 ls rs mr n) (at0 + n * mr) (ls + n) rs mr
noncomputable def vS (V : Nat → zO) (fr len : Nat) : Nat → Nat → zO
  | 0 => V
  | n + 1 => vL (vS V fr len n) (wAt fr len n) (wSo fr (n + 1)) (wSo (fr + (n + 1)) (len - (n + 1))) (wM (len - (n + 1))) (wM (n + 1))
def wyH (p : Nat) (h h2 : xH) (V : Nat → zO) : Prop := Cs h2 ∧ wyR h2 p ∧ xSq (wyP p) h h2 ∧ wyV h2 p V
section WAYS
variable {G : xG} {l : Launch} {M : xM} {d : Nat} {Z : List Frame → Array Value → State → Nat → Nat → State → Prop} {k n pc pc2 : Nat} {L : xL} {st : List Value} {h : xH}
theorem x_saM {j : Nat} (hd : decode M.2.1 pc = .ok (.iaload, 1)) (hp : pc + 1 = pc2) (hj : j < 7) (kk : xWP G l M d Z k n pc2 L (.int (nI (wM j)) :: st) h) : xWP G l M d Z k n pc L (.int (nI j) :: .ref (1000000 + 2) :: st) h := by
  refine x_sald hd hp rfl rfl hj (by decide) ?_
  rw [show (List.getD ([0, 1, 1, 2, 5, 14, 42] : List Int32) j 0) = nI (wM j) from wM_eq j hj]
  exact kk
theorem x_saB {j : Nat} (hd : decode M.2.1 pc = .ok (.iaload, 1)) (hp : pc + 1 = pc2) (hj : j < 7) (kk : xWP G l M d Z k n pc2 L (.int (nI (wB j)) :: st) h) : xWP G l M d Z k n pc L (.int (nI j) :: .ref (1000000 + 3) :: st) h := by
  refine x_sald hd hp rfl rfl hj (by decide) ?_
  rw [show (List.getD ([0, 0, 6, 11, 19, 34, 62] : List Int32) j 0) = nI (wB j) from wB_eq j hj]
  exact kk
end WAYS
section WAYS
variable {G : xG} {l : Launch} {d : Nat} {h : xH} {Q : Option Value → xH → Prop}
theorem c_startOf {fr len : Nat} (hl : len < 7) (K : Q (some (.int (nI (wSo fr len)))) h) : xCt G l mX10_startOf d [.int (nI fr), .int (nI len)] h 0 0 Q := by
  refine xCt_of (by decide) (Nat.le_of_ble_eq_true rfl) ?_
  refine x_gets dX10_startOf_0 rfl sX10_42 ?_
  refine x_iload_n (i := 1) dX10_startOf_3 rfl rfl rfl ?_
  refine x_saB dX10_startOf_4 rfl hl ?_
  refine x_iload_n (i := 0) dX10_startOf_5 rfl rfl rfl ?_
  refine x_gets dX10_startOf_6 rfl sX10_24 ?_
  refine x_iload_n (i := 1) dX10_startOf_9 rfl rfl rfl ?_
  refine x_saM dX10_startOf_10 rfl hl ?_
  refine x_imul dX10_startOf_11 rfl ?_
  refine x_iadd dX10_startOf_12 rfl ?_
  rw [show nI (wB len) + nI fr * nI (wM len) = nI (wSo fr len) by rw [nI_mul8, nI_add]; rfl]
  refine x_ireturn dX10_startOf_13 rfl rfl ?_
  exact K
theorem c_fillStretch {p fr len : Nat} {V : Nat → zO} (hd : 3 ≤ d) (hC : Cs h) (hR : wyR h p) (hV : wyV h p V) (hl : 2 ≤ len) (hf : fr + len ≤ 6)
    (K : ∀ h2, wyH p h h2 (vS V fr len (len - 1)) → Q none h2) : xCt G l mX10_fillStretch d [.ref 53, .int (nI fr), .int (nI len)] h 0 0 Q := by
  refine xCt_of (by decide) (Nat.le_of_ble_eq_true rfl) ?_
  refine x_iload_n (i := 1) dX10_fillStretch_0 rfl rfl rfl ?_
  refine x_iload_n (i := 2) dX10_fillStretch_1 rfl rfl rfl ?_
  refine x_callS0 (As := [_, _]) (d2 := d - 1) dX10_fillStretch_2 rfl kX10_53 okX10_startOf (by omega) rfl rfl (Nat.le_of_ble_eq_true rfl) (c_startOf (by omega) ?_)
  refine x_istore_n (i := 3) dX10_fillStretch_5 rfl rfl (by decide) ?_
  refine x_iconst dX10_fillStretch_6 rfl iC_1 ?_
  refine x_istore dX10_fillStretch_7 rfl (by decide) ?_
  have key := xloop (P := fun n => ∀ h1, wyH p h h1 (vS V fr len n) → xWP G l mX10_fillStretch d (zM G Q) 0 0 9 (xls [(0, .ref 53), (1, .int (nI fr)), (2, .int (nI len)), (3, .int (nI (wAt fr len n))), (4, .int (nI (n + 1)))]) [] h1) (len - 1) (by
    intro n hn ih h1 hw
    refine x_iload dX10_fillStretch_9 rfl rfl ?_
    refine x_iload_n (i := 2) dX10_fillStretch_11 rfl rfl rfl ?_
    refine x_jc_ge (tgt := 102) dX10_fillStretch_12 rfl rfl (by omega) (by omega) (fun c12 => ?_) (fun c12 => ?_)
    · obtain rfl : n = len - 1 := by omega
      refine x_return dX10_fillStretch_102 rfl ?_
      exact K h1 hw
    · have ml := wM_lt (n + 1)
      have mr := wM_lt (len - (n + 1))
      refine x_iload_n (i := 1) dX10_fillStretch_15 rfl rfl rfl ?_
      refine x_iload dX10_fillStretch_16 rfl rfl ?_
      refine x_callS0 (As := [_, _]) (d2 := d - 1) dX10_fillStretch_18 rfl kX10_53 okX10_startOf (by omega) rfl rfl (Nat.le_of_ble_eq_true rfl) (c_startOf (by omega) ?_)
      refine x_istore dX10_fillStretch_21 rfl (by decide) ?_
      refine x_iload_n (i := 1) dX10_fillStretch_23 rfl rfl rfl ?_
      refine x_iload dX10_fillStretch_24 rfl rfl ?_
      refine x_iadd dX10_fillStretch_26 rfl ?_
      refine x_iload_n (i := 2) dX10_fillStretch_27 rfl rfl rfl ?_
      refine x_iload dX10_fillStretch_28 rfl rfl ?_
      refine x_isub dX10_fillStretch_30 rfl ?_
      rw [show nI fr + nI (n + 1) = nI (fr + (n + 1)) from nI_add _ _, show nI len - nI (n + 1) = nI (len - (n + 1)) from pk_sub (by omega)]
      refine x_callS0 (As := [_, _]) (d2 := d - 1) dX10_fillStretch_31 rfl kX10_53 okX10_startOf (by omega) rfl rfl (Nat.le_of_ble_eq_true rfl) (c_startOf (by omega) ?_)
      refine x_istore dX10_fillStretch_34 rfl (by decide) ?_
      refine x_iconst dX10_fillStretch_36 rfl iC_0 ?_
      refine x_istore dX10_fillStretch_37 rfl (by decide) ?_
      have keyL := xloop (P := fun a => ∀ h1, wyH p h h1 (vL (vS V fr len n) (wAt fr len n) (wSo fr (n + 1)) (wSo (fr + (n + 1)) (len - (n + 1))) (wM (len - (n + 1))) a) → xWP G l mX10_fillStretch d (zM G Q) 0 0 39 (xls [(0, .ref 53), (1, .int (nI fr)), (2, .int (nI len)), (3, .int (nI (wAt fr len n + a * wM (len - (n + 1))))), (4, .int (nI (n + 1))), (5, .int (nI (wSo fr (n + 1)))), (6, .int (nI (wSo (fr + (n + 1)) (len - (n + 1))))), (7, .int (nI a))]) [] h1) (wM (n + 1)) (by
        intro a ha iha h1 hw
        refine x_iload dX10_fillStretch_39 rfl rfl ?_
        refine x_gets dX10_fillStretch_41 rfl sX10_24 ?_
        refine x_iload dX10_fillStretch_44 rfl rfl ?_
        refine x_saM dX10_fillStretch_46 rfl (by omega) ?_
        refine x_jc_ge (tgt := 96) dX10_fillStretch_47 rfl rfl (by omega) (by omega) (fun c47 => ?_) (fun c47 => ?_)
        · obtain rfl : a = wM (n + 1) := by omega
          refine x_iinc dX10_fillStretch_96 rfl rfl (inc1 _) ?_
          refine x_goto (tgt := 9) dX10_fillStretch_99 rfl ?_
          exact x_to (ih (by omega) h1 hw) ⟨rfl, rfl, rfl, rfl, rfl, trivial⟩
        · refine x_iconst dX10_fillStretch_50 rfl iC_0 ?_
          refine x_istore dX10_fillStretch_51 rfl (by decide) ?_
          have keyR := xloop (P := fun b => ∀ h1, wyH p h h1 (vR (vL (vS V fr len n) (wAt fr len n) (wSo fr (n + 1)) (wSo (fr + (n + 1)) (len - (n + 1))) (wM (len - (n + 1))) a) (wAt fr len n + a * wM (len - (n + 1))) (wSo fr (n + 1) + a) (wSo (fr + (n + 1)) (len - (n + 1))) b) → xWP G l mX10_fillStretch d (zM G Q) 0 0 53 (xls [(0, .ref 53), (1, .int (nI fr)), (2, .int (nI len)), (3, .int (nI (wAt fr len n + a * wM (len - (n + 1)) + b))), (4, .int (nI (n + 1))), (5, .int (nI (wSo fr (n + 1)))), (6, .int (nI (wSo (fr + (n + 1)) (len - (n + 1))))), (7, .int (nI a)), (8, .int (nI b))]) [] h1) (wM (len - (n + 1))) (by
            intro b hb ihb h1 hw
            refine x_iload dX10_fillStretch_53 rfl rfl ?_
            refine x_gets dX10_fillStretch_55 rfl sX10_24 ?_
            refine x_iload_n (i := 2) dX10_fillStretch_58 rfl rfl rfl ?_
            refine x_iload dX10_fillStretch_59 rfl rfl ?_
            refine x_isub dX10_fillStretch_61 rfl ?_
            rw [show nI len - nI (n + 1) = nI (len - (n + 1)) from pk_sub (by omega)]
            refine x_saM dX10_fillStretch_62 rfl (by omega) ?_
            refine x_jc_ge (tgt := 90) dX10_fillStretch_63 rfl rfl (by omega) (by omega) (fun c63 => ?_) (fun c63 => ?_)
            · obtain rfl : b = wM (len - (n + 1)) := by omega
              refine x_iinc dX10_fillStretch_90 rfl rfl (inc1 _) ?_
              refine x_goto (tgt := 39) dX10_fillStretch_93 rfl ?_
              refine x_to (iha c47 h1 hw) ⟨rfl, rfl, rfl, ?_, rfl, rfl, rfl, rfl, trivial⟩
              rw [Nat.add_mul, Nat.one_mul, Nat.add_assoc]
              rfl
            · obtain ⟨b1, b2, b3⟩ := wy_b hf c12 c47 c63
              obtain ⟨hC, hR, hS, hV⟩ := hw
              refine x_aload_n (i := 0) dX10_fillStretch_66 rfl rfl rfl ?_
              refine x_iload_n (i := 3) dX10_fillStretch_67 rfl rfl rfl ?_
              refine x_iload dX10_fillStretch_68 rfl rfl ?_
              refine x_iload dX10_fillStretch_70 rfl rfl ?_
              refine x_iadd dX10_fillStretch_72 rfl ?_
              refine x_iload dX10_fillStretch_73 rfl rfl ?_
              refine x_iload dX10_fillStretch_75 rfl rfl ?_
              refine x_iadd dX10_fillStretch_77 rfl ?_
              rw [show nI (wSo fr (n + 1)) + nI a = nI (wSo fr (n + 1) + a) from nI_add _ _, show nI (wSo (fr + (n + 1)) (len - (n + 1))) + nI b = nI (wSo (fr + (n + 1)) (len - (n + 1)) + b) from nI_add _ _]
              refine x_callV0 (ci := 10) (b := 53) (As := [_, _, _]) (d2 := d - 1) dX10_fillStretch_78 rfl kX10_56 okX10_join (hC.o rfl) (fun q hq => by cases hq; rfl) (by omega) rfl rfl (Nat.le_of_ble_eq_true rfl) (c_join (by omega) hC hR hV b1 b2 b3 (fun h2 hC2 hR2 hS2 hV2 => ?_))
              refine x_iinc dX10_fillStretch_81 rfl rfl (inc1 _) ?_
              refine x_iinc dX10_fillStretch_84 rfl rfl (inc1 _) ?_
              refine x_goto (tgt := 53) dX10_fillStretch_87 rfl ?_
              exact x_to (ihb c63 h2 ⟨hC2, hR2, hS.tr hS2, hV2⟩) ⟨rfl, rfl, rfl, rfl, rfl, rfl, rfl, rfl, rfl, trivial⟩) 0 (Nat.zero_le _)
          exact x_to (keyR h1 hw) ⟨rfl, rfl, rfl, rfl, rfl, rfl, rfl, rfl, rfl, trivial⟩) 0 (Nat.zero_le _)
      refine x_to (keyL h1 hw) ⟨rfl, rfl, rfl, ?_, rfl, rfl, rfl, rfl, trivial⟩
      rw [Nat.zero_mul]
      rfl) 0 (Nat.zero_le _)
  exact x_to (key h ⟨hC, hR, xSq.rf, hV⟩) ⟨rfl, rfl, rfl, rfl, rfl, trivial⟩
end WAYS

