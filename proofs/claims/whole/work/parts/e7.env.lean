/-! THE LAW: what the Statement gives of the start -/
abbrev nrL : List Cond := flatC (Jvm.Cond.and given_1 narrow_1)
abbrev stA (s : State) : Nat → Prop := fun q => s.heap.size ≤ q
theorem st_nr {s : State} {b : Nat} (hgv : (Jvm.Cond.and given_1 narrow_1).before #[Value.ref b] s = true) {w : Cond} (i : Nat) (h : nrL[i]? = some w) : w.before #[Value.ref b] s = true := flat_of_before _ hgv _ (List.mem_of_getElem? h)
theorem st_out {s : State} : ∀ a : Nat, a < s.heap.size → ¬ stA s a := fun _ h q => absurd h (Nat.not_lt.mpr q)
theorem st_row {s : State} {b : Nat} (hgv : (Jvm.Cond.and given_1 narrow_1).before #[Value.ref b] s = true) {C n d : String} {ty : FieldType} {N : Nat} (f : Nat → Int32) (i1 i2 i3 : Nat) (hN : N < 2 ^ 31) (h1 : nrL[i1]? = some (.arrayOf (.static C n d) ty)) (h2 : nrL[i2]? = some (.eq (.length (.static C n d)) (.int (Int32.ofNat N)))) (h3 : ((List.range N).all fun j => decide (nrL[i3 + j]? = some (.eq (.elem (.static C n d) (.int (Int32.ofNat j))) (.int (f j))))) = true) (hl : (Cond.laysStatic C n d).before #[Value.ref b] s = true) (hini : (Cond.initialized C).before #[Value.ref b] s = true) : ∃ t : Nat, va_Z C n d (.ref t) (stA s) s s.heap ∧ va_T ty t N (fun j => .int (f j)) (stA s) s s.heap := by
  obtain ⟨t, ht, hT⟩ := va_Tof (f := fun j => .int (f j)) (A := stA s) hN (st_nr hgv i1 h1) (va_eqt (st_nr hgv i2 h2)) (fun j hj => va_eqt (st_nr hgv (i3 + j) (of_decide_eq_true (List.all_eq_true.mp h3 j (List.mem_range.mpr hj))))) st_out
  exact ⟨t, va_Zref hl hini ht st_out, hT⟩
theorem nr_code1 : nrL[13]? = some (.arrayOf (Jvm.Term.static "EightParts$Lattice" "CODE" "[I") .int) := by decide +kernel
theorem nr_code2 : nrL[14]? = some (.eq (.length (Jvm.Term.static "EightParts$Lattice" "CODE" "[I")) (.int (Int32.ofNat 16))) := by decide +kernel
theorem nr_code3 : ((List.range 16).all fun j => decide (nrL[15 + j]? = some (.eq (.elem (Jvm.Term.static "EightParts$Lattice" "CODE" "[I") (.int (Int32.ofNat j))) (.int ((fun i => ((xST[0]?.map (fun q => q.2.2.2)).getD []).getD i 0) j))))) = true := by decide +kernel
theorem nr_room1 : nrL[6]? = some (.arrayOf (Jvm.Term.static "EightParts$Lists" "ROOM" "[I") .int) := by decide +kernel
theorem nr_room2 : nrL[7]? = some (.eq (.length (Jvm.Term.static "EightParts$Lists" "ROOM" "[I")) (.int (Int32.ofNat 4))) := by decide +kernel
theorem nr_room3 : ((List.range 4).all fun j => decide (nrL[8 + j]? = some (.eq (.elem (Jvm.Term.static "EightParts$Lists" "ROOM" "[I") (.int (Int32.ofNat j))) (.int ((fun i => ((xST[1]?.map (fun q => q.2.2.2)).getD []).getD i 0) j))))) = true := by decide +kernel
theorem nr_many1 : nrL[32]? = some (.arrayOf (Jvm.Term.static "EightParts$Ways" "MANY" "[I") .int) := by decide +kernel
theorem nr_many2 : nrL[33]? = some (.eq (.length (Jvm.Term.static "EightParts$Ways" "MANY" "[I")) (.int (Int32.ofNat 7))) := by decide +kernel
theorem nr_many3 : ((List.range 7).all fun j => decide (nrL[34 + j]? = some (.eq (.elem (Jvm.Term.static "EightParts$Ways" "MANY" "[I") (.int (Int32.ofNat j))) (.int ((fun i => ((xST[2]?.map (fun q => q.2.2.2)).getD []).getD i 0) j))))) = true := by decide +kernel
theorem nr_start1 : nrL[42]? = some (.arrayOf (Jvm.Term.static "EightParts$Ways" "START" "[I") .int) := by decide +kernel
theorem nr_start2 : nrL[43]? = some (.eq (.length (Jvm.Term.static "EightParts$Ways" "START" "[I")) (.int (Int32.ofNat 7))) := by decide +kernel
theorem nr_start3 : ((List.range 7).all fun j => decide (nrL[44 + j]? = some (.eq (.elem (Jvm.Term.static "EightParts$Ways" "START" "[I") (.int (Int32.ofNat j))) (.int ((fun i => ((xST[3]?.map (fun q => q.2.2.2)).getD []).getD i 0) j))))) = true := by decide +kernel
theorem nr_ones1 : nrL[56]? = some (.arrayOf (Jvm.Term.static "java/lang/Integer" "DigitOnes" "[B") .byte) := by decide +kernel
theorem nr_ones2 : nrL[57]? = some (.eq (.length (Jvm.Term.static "java/lang/Integer" "DigitOnes" "[B")) (.int (Int32.ofNat 100))) := by decide +kernel
theorem nr_ones3 : ((List.range 100).all fun j => decide (nrL[58 + j]? = some (.eq (.elem (Jvm.Term.static "java/lang/Integer" "DigitOnes" "[B") (.int (Int32.ofNat j))) (.int ((fun i => nI (48 + i % 10)) j))))) = true := by decide +kernel
theorem nr_tens1 : nrL[159]? = some (.arrayOf (Jvm.Term.static "java/lang/Integer" "DigitTens" "[B") .byte) := by decide +kernel
theorem nr_tens2 : nrL[160]? = some (.eq (.length (Jvm.Term.static "java/lang/Integer" "DigitTens" "[B")) (.int (Int32.ofNat 100))) := by decide +kernel
theorem nr_tens3 : ((List.range 100).all fun j => decide (nrL[161 + j]? = some (.eq (.elem (Jvm.Term.static "java/lang/Integer" "DigitTens" "[B") (.int (Int32.ofNat j))) (.int ((fun i => nI (48 + i / 10)) j))))) = true := by decide +kernel
theorem nr_sex : nrL[261]? = some (Jvm.Cond.exactly (Jvm.Term.string "EightParts" (384 : Nat)) "java/lang/String") := by decide +kernel
theorem nr_sco : nrL[262]? = some (Jvm.Cond.eq (Jvm.Term.field (Jvm.Term.string "EightParts" (384 : Nat)) "java/lang/String" "coder" "B") (Jvm.Term.int (0 : Int32))) := by decide +kernel
theorem nr_sar : nrL[263]? = some (Jvm.Cond.arrayOf (Jvm.Term.field (Jvm.Term.string "EightParts" (384 : Nat)) "java/lang/String" "value" "[B") Jvm.ClassFile.FieldType.byte) := by decide +kernel
theorem nr_sle : nrL[264]? = some (Jvm.Cond.eq (Jvm.Term.length (Jvm.Term.field (Jvm.Term.string "EightParts" (384 : Nat)) "java/lang/String" "value" "[B")) (Jvm.Term.int (2 : Int32))) := by decide +kernel
theorem nr_se0 : nrL[265]? = some (Jvm.Cond.eq (Jvm.Term.elem (Jvm.Term.field (Jvm.Term.string "EightParts" (384 : Nat)) "java/lang/String" "value" "[B") (Jvm.Term.int (0 : Int32))) (Jvm.Term.int (47 : Int32))) := by decide +kernel
theorem nr_se1 : nrL[266]? = some (Jvm.Cond.eq (Jvm.Term.elem (Jvm.Term.field (Jvm.Term.string "EightParts" (384 : Nat)) "java/lang/String" "value" "[B") (Jvm.Term.int (1 : Int32))) (Jvm.Term.int (50 : Int32))) := by decide +kernel
theorem nr_scs : nrL[4]? = some (Jvm.Cond.eq (Jvm.Term.static "java/lang/String" "COMPACT_STRINGS" "Z") (Jvm.Term.int (1 : Int32))) := by decide +kernel
theorem nr_ssf : nrL[51]? = some (Jvm.Cond.isRef (Jvm.Term.static "jdk/internal/util/Preconditions" "SIOOBE_FORMATTER" "Ljava/util/function/BiFunction;")) := by decide +kernel
theorem xcl_in : ∀ (c : Nat) (q : vw_C), xcl[c]? = some q → ∃ n, Cond.instantiable q.1 n ∈ xTT := xcl_cases (P := fun _ q => ∃ n, Cond.instantiable q.1 n ∈ xTT) ⟨_, inX0⟩ ⟨_, inX1⟩ ⟨_, inX2⟩ ⟨_, inX3⟩ ⟨_, inX4⟩ ⟨_, inX7⟩ ⟨_, inX6⟩ ⟨_, inX7⟩ ⟨_, inX8⟩ ⟨_, inX9⟩ ⟨_, inX10⟩ ⟨_, inX11⟩ ⟨_, inX12⟩ ⟨_, inJ4⟩
theorem st_cls {s : State} {b : Nat} (hts : ∀ w ∈ lw_tbl, w.before #[Value.ref b] s = true) : ∃ (dC : Nat → ClassId) (dI : Nat → Nat → Nat), ∀ (c : Nat) (q : vw_C), xcl[c]? = some q → u_Kn s q.1 q.2.1 q.2.2 (dC c) (dI c) := by
  have ht : ∀ w ∈ xTT, w.before #[Value.ref b] s = true := fun w hw => hts w (List.mem_filter.mp hw).1
  have h : ∀ c : Nat, ∃ y : ClassId × (Nat → Nat), ∀ q : vw_C, xcl[c]? = some q → u_Kn s q.1 q.2.1 q.2.2 y.1 y.2 := by
    intro c
    cases hc : xcl[c]? with
    | none => exact ⟨((0 : Nat), fun _ => 0), fun q hq => by cases hq⟩
    | some q =>
      obtain ⟨n, hn⟩ := xcl_in c q hc
      obtain ⟨cC, iS, h⟩ := u_known ht (xcl_ws c q hc) (ht _ hn)
      exact ⟨(cC, iS), fun q' hq' => by cases hq'; exact h⟩
  obtain ⟨y, hy⟩ := Classical.axiomOfChoice h
  exact ⟨fun c => (y c).1, fun c => (y c).2, hy⟩
theorem st_arP {s : State} {b : Nat} {ty : FieldType} (h : (Cond.arrayClass ty).before #[Value.ref b] s = true) : ∃ c : ClassId, ArrOfT s c ty ∧ s.vm.findClass ("[" ++ ty.toString) = some c := by
  obtain ⟨c, k, comp, h1, h2, h3⟩ := Cond.arrayClass_spec h
  exact ⟨c, fun n z => ⟨fun k h => (by cases h), k, h2, comp, h3⟩, h1⟩
theorem st_arO {s : State} {b : Nat} {ty : FieldType} (h : (Cond.arrayOver (.array ty)).before #[Value.ref b] s = true) : ∃ c : ClassId, ArrOfT s c (.array ty) ∧ s.vm.findClass ("[" ++ (FieldType.array ty).toString) = some c := by
  obtain ⟨comp, c, k, h1, h2, h3, h4, h5⟩ := arrayOverA_spec h
  exact ⟨c, fun n z => ⟨fun k h => (by cases h), k, h3, comp, h4⟩, h5⟩
theorem st_arr {s : State} {b : Nat} (hts : ∀ w ∈ lw_tbl, w.before #[Value.ref b] s = true) : ∃ cA : Nat → ClassId, ∀ t, t < 6 → ArrOfT s (cA t) (xty t) ∧ s.vm.findClass ("[" ++ (xty t).toString) = some (cA t) := by
  obtain ⟨c0, h0⟩ := st_arP (hts _ (List.mem_append_right _ (xT1 (List.mem_of_getElem? (i := 52) rfl))))
  obtain ⟨c1, h1⟩ := st_arP (hts _ (List.mem_append_right _ (xT1 (List.mem_of_getElem? (i := 53) rfl))))
  obtain ⟨c2, h2⟩ := st_arP (hts _ (List.mem_append_right _ (xT1 (List.mem_of_getElem? (i := 137) rfl))))
  obtain ⟨c3, h3⟩ := st_arP (hts _ (List.mem_append_right _ (xT2 (List.mem_of_getElem? (i := 5) rfl))))
  obtain ⟨c4, h4⟩ := st_arO (hts _ (List.mem_append_right _ (xT1 (List.mem_of_getElem? (i := 35) rfl))))
  obtain ⟨c5, h5⟩ := st_arO (hts _ (List.mem_append_right _ (xT1 (List.mem_of_getElem? (i := 61) rfl))))
  refine ⟨fun t => match t with | 0 => c0 | 1 => c1 | 2 => c2 | 3 => c3 | 4 => c4 | _ => c5, fun t ht => ?_⟩
  match t, ht with
  | 0, _ => exact h0
  | 1, _ => exact h1
  | 2, _ => exact h2
  | 3, _ => exact h3
  | 4, _ => exact h4
  | 5, _ => exact h5
  | t + 6, h => exact absurd h (by omega)
def adF (t0 t1 t2 t3 t4 t5 t6 t7 t8 t9 a9 : Nat) (xs : Nat → Int32) : Nat → Nat
  | 0 => t0
  | 1 => t1
  | 2 => t2
  | 3 => t3
  | 4 => t4
  | 5 => t5
  | 6 => t6
  | 7 => t7
  | 8 => t8
  | 9 => t9
  | j + 10 => if j = 499990 then a9 else (xs j).toBitVec.toNat
theorem adF_9 {t0 t1 t2 t3 t4 t5 t6 t7 t8 t9 a9 : Nat} {xs : Nat → Int32} : adF t0 t1 t2 t3 t4 t5 t6 t7 t8 t9 a9 xs 500000 = a9 := by
  have e : adF t0 t1 t2 t3 t4 t5 t6 t7 t8 t9 a9 xs (499990 + 10) = if 499990 = 499990 then a9 else (xs 499990).toBitVec.toNat := rfl
  exact e.trans (if_pos rfl)
theorem adF_x {t0 t1 t2 t3 t4 t5 t6 t7 t8 t9 a9 : Nat} {xs : Nat → Int32} {j : Nat} (hj : j < 3072) : nI (adF t0 t1 t2 t3 t4 t5 t6 t7 t8 t9 a9 xs (10 + j)) = xs j := by
  rw [Nat.add_comm 10 j, show adF t0 t1 t2 t3 t4 t5 t6 t7 t8 t9 a9 xs (j + 10) = (xs j).toBitVec.toNat from if_neg (by omega)]
  apply Int32.toBitVec_inj.mp
  show (Int32.ofNat _).toBitVec = _
  rw [Int32.toBitVec_ofNat', BitVec.ofNat_toNat, BitVec.setWidth_eq]
theorem st_str {s : State} {b : Nat} (hgv : (Jvm.Cond.and given_1 narrow_1).before #[Value.ref b] s = true) : ∃ a v : Nat, vk_S 1 [2] [[47, 50]] (fun _ => a) (fun _ => v) (stA s) s s.heap ∧ (Jvm.Term.string "EightParts" (384 : Nat)).eval #[Value.ref b] s none [] s = some (.ref a) := by
  obtain ⟨adK, adV, hS, hE⟩ := vk_Sof (args := #[Value.ref b]) (s := s) (N := 1) (tm := fun _ => Jvm.Term.string "EightParts" (384 : Nat)) (len := [2]) (byt := [[47, 50]]) (A := stA s) (fun i hi => by rw [show i = 0 by omega]; decide) (fun _ _ => st_nr hgv _ nr_sex) (fun _ _ => st_nr hgv _ nr_sco) (fun _ _ => st_nr hgv _ nr_sar) (fun i hi => by rw [show i = 0 by omega]; exact st_nr hgv _ nr_sle) (fun i hi j hj => by
      rw [show i = 0 by omega] at hj ⊢
      have hj : j < 2 := hj
      match j, hj with
      | 0, _ => exact st_nr hgv _ nr_se0
      | 1, _ => exact st_nr hgv _ nr_se1
      | j + 2, h => exact absurd h (by omega)) (fun i j hi hj hne => absurd (show i = j by omega) hne) st_out
  exact ⟨adK 0, adV 0, ⟨fun i hi => by rw [show i = 0 by omega]; exact hS.1 0 (by decide), fun i j hi hj _ => by omega⟩, hE 0 (by decide)⟩
theorem xSE_start {s : State} {b L : Nat} {xs : Nat → Int32} (hts : ∀ w ∈ lw_tbl, w.before #[Value.ref b] s = true) (hX : va_X b L xs s s.heap) (hbl : b < s.heap.size) (hgv : (Jvm.Cond.and given_1 narrow_1).before #[Value.ref b] s = true) (hL : L ≤ 3072) : ∃ G : xG, G.1 = s.heap.size ∧ G.2.1 = s.heap ∧ G.2.2.2.2.2 8 = b ∧ G.2.2.2.2.2 9 = L ∧ xSE G s := by
  obtain ⟨dC, dI, hK⟩ := st_cls hts
  obtain ⟨cA, hA⟩ := st_arr hts
  obtain ⟨t0, z0, r0⟩ := st_row hgv _ _ _ _ (Nat.le_of_ble_eq_true rfl) nr_code1 nr_code2 nr_code3 (hts _ (List.mem_append_right _ (xT2 (List.mem_of_getElem? (i := 185) rfl)))) (hts _ (List.mem_append_right _ (xT1 (List.mem_of_getElem? (i := 3) rfl))))
  obtain ⟨t1, z1, r1⟩ := st_row hgv _ _ _ _ (Nat.le_of_ble_eq_true rfl) nr_room1 nr_room2 nr_room3 (hts _ (List.mem_append_right _ (xT2 (List.mem_of_getElem? (i := 175) rfl)))) (hts _ (List.mem_append_right _ (xT1 (List.mem_of_getElem? (i := 4) rfl))))
  obtain ⟨t2, z2, r2⟩ := st_row hgv _ _ _ _ (Nat.le_of_ble_eq_true rfl) nr_many1 nr_many2 nr_many3 (hts _ (List.mem_append_right _ (xT3 (List.mem_of_getElem? (i := 152) rfl)))) (hts _ (List.mem_append_right _ (xT1 (List.mem_of_getElem? (i := 8) rfl))))
  obtain ⟨t3, z3, r3⟩ := st_row hgv _ _ _ _ (Nat.le_of_ble_eq_true rfl) nr_start1 nr_start2 nr_start3 (hts _ (List.mem_append_right _ (xT3 (List.mem_of_getElem? (i := 167) rfl)))) (hts _ (List.mem_append_right _ (xT1 (List.mem_of_getElem? (i := 8) rfl))))
  obtain ⟨t4, z4, r4⟩ := st_row hgv _ _ _ _ (Nat.le_of_ble_eq_true rfl) nr_ones1 nr_ones2 nr_ones3 (hts _ (List.mem_append_right _ (xT4 (List.mem_of_getElem? (i := 169) rfl)))) (hts _ (List.mem_append_right _ (xT1 (List.mem_of_getElem? (i := 25) rfl))))
  obtain ⟨t5, z5, r5⟩ := st_row hgv _ _ _ _ (Nat.le_of_ble_eq_true rfl) nr_tens1 nr_tens2 nr_tens3 (hts _ (List.mem_append_right _ (xT4 (List.mem_of_getElem? (i := 171) rfl)))) (hts _ (List.mem_append_right _ (xT1 (List.mem_of_getElem? (i := 25) rfl))))
  obtain ⟨t6, t7, hS, hE⟩ := st_str hgv
  have hcs : va_Z "java/lang/String" "COMPACT_STRINGS" "Z" (.int (1 : Int32)) (stA s) s s.heap := va_Zof (hts _ (List.mem_append_right _ (xT2 (List.mem_of_getElem? (i := 68) rfl)))) (hts _ (List.mem_append_right _ (xT1 (List.mem_of_getElem? (i := 14) rfl)))) (va_eqi (st_nr hgv _ nr_scs)) st_out
  obtain ⟨a9, h9⟩ : ∃ a : Nat, va_Z "jdk/internal/util/Preconditions" "SIOOBE_FORMATTER" "Ljava/util/function/BiFunction;" .null (stA s) s s.heap ∨ va_Z "jdk/internal/util/Preconditions" "SIOOBE_FORMATTER" "Ljava/util/function/BiFunction;" (.ref a) (stA s) s s.heap := by
    rcases va_Zqof (A := stA s) (hts _ (List.mem_append_right _ (xT4 (List.mem_of_getElem? (i := 120) rfl)))) (hts _ (List.mem_append_right _ (xT1 (List.mem_of_getElem? (i := 23) rfl)))) (st_nr hgv _ nr_ssf) st_out with h | ⟨t, h⟩
    · exact ⟨0, Or.inl h⟩
    · exact ⟨t, Or.inr h⟩
  have hscr : va_T .int b L (fun i => .int (nI (adF t0 t1 t2 t3 t4 t5 t6 t7 b L a9 xs (10 + i)))) (stA s) s s.heap := by
    obtain ⟨scr, h1, h2, h3, h4, h5⟩ := hX
    exact ⟨scr, h1, h2, h3, Nat.le_of_eq h4.symm, by rw [h4], fun j hj => (h5 j hj).trans (congrArg (fun z => some (Value.int z)) (adF_x (by omega)).symm), st_out b hbl⟩
  refine ⟨(s.heap.size, s.heap, cA, dC, dI, adF t0 t1 t2 t3 t4 t5 t6 t7 b L a9 xs), rfl, rfl, rfl, rfl, hK, hA, fun w hw => ?_, fun j q hq => ?_, (hts _ (List.mem_append_right _ (xT1 (List.mem_of_getElem? (i := 35) rfl)))), (hts _ (List.mem_append_right _ (xT1 (List.mem_of_getElem? (i := 61) rfl)))), hcs, ⟨z4, r4⟩, ⟨z5, r5⟩, vk_R.of (hts _ (List.mem_append_right _ (xT4 (List.mem_of_getElem? (i := 189) rfl)))) hE, hS, hscr, h9.imp id (fun h => ?_)⟩
  · have h1 : xisN w = true := (List.mem_filter.mp hw).2
    have hb := hts w (List.mem_append_right _ (List.mem_filter.mp hw).1)
    cases w <;> first | exact va_Nw.of rfl hb | exact absurd h1 (by simp [xisN])
  · match j, hq with
    | 0, hq => cases hq; exact ⟨z0, r0⟩
    | 1, hq => cases hq; exact ⟨z1, r1⟩
    | 2, hq => cases hq; exact ⟨z2, r2⟩
    | 3, hq => cases hq; exact ⟨z3, r3⟩
    | j + 4, hq => simp [xST] at hq
  · show va_Z _ _ _ (.ref (adF t0 t1 t2 t3 t4 t5 t6 t7 b L a9 xs 500000)) _ _ _
    rw [adF_9]
    exact h

