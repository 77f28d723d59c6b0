/-! THE BUILDER: what it holds, how its row grows -/
section XZ0
variable {G : xG} {l : Launch} {M : xM} {d : Nat} {Z : List Frame → Array Value → State → Nat → Nat → State → Prop} {k n pc pc2 : Nat} {L : xL} {st : List Value} {h : xH}
theorem x_callU0 {N : xM} {np idx d2 b ci NN : Nat} {F : Nat → Value} {As st0 : List Value} (hd : decode M.2.1 pc = .ok (.invokespecial idx, 3)) (hp : pc + 3 = pc2) (hlk : Cond.methodLink M.1.cls idx N.1 ∈ xTT) (hN : xOkB N np) (hin : Cond.instanceMethod N.1 ∈ xTT) (hsm : Cond.sameMethod N.1.cls N.1.cls N.1.name N.1.desc ∈ xTT) (hsu : Cond.superclass M.1.cls N.1.cls ∈ xTT) (hni : N.1.name ≠ "<init>") (hb : h.1 b = (100 + ci, NN, F)) (hdd : d2 + 1 ≤ d) (hA : As.length = np) (hst : st0 = As.reverse ++ .ref b :: st) (hw : (st.map fun v => v.category).sum ≤ 8) (kk : xCt G l N d2 (.ref b :: As) h 0 0 (fun r h2 => xWP G l M d Z k n pc2 L (xpush r st) h2)) : xWP G l M d Z k n pc L st0 h := x_callU hd hp hlk hN hin hsm hsu hni hb hdd hA hst hw (by omega) (by omega) kk
theorem x_callN0 {N : xM} {np idx d2 b ci NN : Nat} {F : Nat → Value} {As st0 : List Value} (hd : decode M.2.1 pc = .ok (.invokevirtual idx, 3)) (hp : pc + 3 = pc2) (hlk : Cond.methodLink M.1.cls idx N.1 ∈ xTT) (hN : xOkB N np) (hin : Cond.instanceMethod N.1 ∈ xTT) (hsm : Cond.sameMethod N.1.cls N.1.cls N.1.name N.1.desc ∈ xTT) (hse : ∀ q, xcl[ci]? = some q → Cond.selects q.1 N.1 N.1 ∈ xTT) (hb : h.1 b = (100 + ci, NN, F)) (hdd : d2 + 1 ≤ d) (hA : As.length = np) (hst : st0 = As.reverse ++ .ref b :: st) (hw : (st.map fun v => v.category).sum ≤ 8) (kk : xCt G l N d2 (.ref b :: As) h 0 0 (fun r h2 => xWP G l M d Z k n pc2 L (xpush r st) h2)) : xWP G l M d Z k n pc L st0 h := x_callN hd hp hlk hN hin hsm hse hb hdd hA hst hw (by omega) (by omega) kk
theorem x_callP0 {N : xM} {np idx d2 b ci NN : Nat} {F : Nat → Value} {As st0 : List Value} (hd : decode M.2.1 pc = .ok (.invokevirtual idx, 3)) (hp : pc + 3 = pc2) (hlk : Cond.methodLink M.1.cls idx N.1 ∈ xTT) (hN : xOkB N np) (hin : Cond.instanceMethod N.1 ∈ xTT) (hpr : Cond.privateMethod N.1 ∈ xNW) (hse : Cond.selects RJ4 yJ5_isLatin1_aae02 yJ5_isLatin1_aae02 ∈ xTT) (hcl : N.1.cls = RJ5) (hb : h.1 b = (100 + ci, NN, F)) (hdd : d2 + 1 ≤ d) (hA : As.length = np) (hst : st0 = As.reverse ++ .ref b :: st) (hw : (st.map fun v => v.category).sum ≤ 8) (kk : xCt G l N d2 (.ref b :: As) h 0 0 (fun r h2 => xWP G l M d Z k n pc2 L (xpush r st) h2)) : xWP G l M d Z k n pc L st0 h := x_callP hd hp hlk hN hin hpr hse hcl hb hdd hA hst hw (by omega) (by omega) kk
end XZ0
/-- how often the row may still grow, what a growth costs -/
def phN (N : Nat) : Nat := if 80 ≤ N then 0 else if 39 ≤ N then 1 else if 19 ≤ N then 2 else 3
def gC (N m : Nat) : Nat := if m ≤ N then 0 else 1
def gZ (N m : Nat) : Nat := if m ≤ N then 0 else 2 * N + 2
def gN (N m : Nat) : Nat := if m ≤ N then N else 2 * N + 2
theorem g_pay {N m : Nat} (hN : 16 ≤ N) (hm : m ≤ 80) : gC N m + phN (gN N m) ≤ phN N ∧ gZ N m + 160 * phN (gN N m) ≤ 160 * phN N := by
  unfold gC gZ gN
  by_cases c : m ≤ N
  · rw [if_pos c, if_pos c, if_pos c]
    omega
  · rw [if_neg c, if_neg c, if_neg c]
    unfold phN
    by_cases c1 : 39 ≤ N
    · rw [if_pos (by omega), if_neg (by omega), if_pos c1]
      omega
    · by_cases c2 : 19 ≤ N
      · rw [if_neg (show ¬ 80 ≤ N by omega), if_neg c1, if_pos c2]
        by_cases c3 : 80 ≤ 2 * N + 2
        · rw [if_pos c3]; omega
        · rw [if_neg c3, if_pos (by omega)]; omega
      · rw [if_neg (show ¬ 80 ≤ N by omega), if_neg c1, if_neg c2, if_neg (by omega), if_neg (by omega), if_pos (by omega)]
        omega
theorem gN_le {N m : Nat} (hm : m ≤ 2 * N + 2) : m ≤ gN N m ∧ N ≤ gN N m := by
  unfold gN
  split
  · omega
  · omega
theorem shl0 (x : Int32) : x <<< (nI 0 &&& 31) = x := by
  rw [show (nI 0 &&& 31 : Int32) = 0 by decide]
  exact Int32.shiftLeft_zero
theorem shr0 (x : Int32) : x >>> (nI 0 &&& 31) = x := by
  rw [show (nI 0 &&& 31 : Int32) = 0 by decide]
  exact Int32.shiftRight_zero
theorem by_all : ((List.range 128).all fun c => decide ((nI c).toInt8.toInt32 = nI c) && fits .byte (.int (nI c)) && decide ((((nI c) &&& nI 255).toUInt32 % 65536).toInt32 = nI c)) = true := by decide +kernel
theorem by_id {c : Nat} (hc : c < 128) : (nI c).toInt8.toInt32 = nI c ∧ fits .byte (.int (nI c)) = true ∧ (((nI c) &&& nI 255).toUInt32 % 65536).toInt32 = nI c := by
  have h := List.all_eq_true.mp by_all c (List.mem_range.mpr hc)
  simp only [Bool.and_eq_true, decide_eq_true_eq] at h
  exact ⟨h.1.1, h.1.2, h.2⟩
/-- the builder holds the text T, in the row v of N bytes -/
def bB (h : xH) (v N : Nat) (T : List Nat) : Prop := Cs h ∧ ((h.1 104).2.2 0 = .ref v ∧ (h.1 104).2.2 1 = .int (nI 0) ∧ (h.1 104).2.2 3 = .int (nI T.length)) ∧ ((v = 105 ∨ 134 ≤ v) ∧ v < h.2) ∧ (∃ g, h.1 v = (3, N, xI g) ∧ (∀ j, j < N → fits .byte (.int (g j)) = true) ∧ ∀ j, j < T.length → g j = nI (T.getD j 0)) ∧ (16 ≤ N ∧ N ≤ 1000 ∧ T.length ≤ N) ∧ (∀ j, T.getD j 0 < 128) ∧ h.2 + phN N ≤ 900010
/-- all but the builder and its row is as it was -/
def bF (h : xH) (v N : Nat) (h2 : xH) (v2 N2 : Nat) : Prop := h.2 ≤ h2.2 ∧ (∀ a, a < h.2 → a ≠ 104 → a ≠ v → h2.1 a = h.1 a) ∧ (v2 = v ∨ h.2 ≤ v2) ∧ h2.2 + phN N2 ≤ h.2 + phN N
theorem bF.rf {h : xH} {v N : Nat} : bF h v N h v N := ⟨Nat.le_refl _, fun _ _ _ _ => rfl, Or.inl rfl, Nat.le_refl _⟩
theorem bF.tr {h h2 h3 : xH} {v N v2 N2 v3 N3 : Nat} (a : bF h v N h2 v2 N2) (b : bF h2 v2 N2 h3 v3 N3) : bF h v N h3 v3 N3 := by
  obtain ⟨a1, a2, a3, a4⟩ := a
  obtain ⟨b1, b2, b3, b4⟩ := b
  refine ⟨by omega, fun q q1 q2 q3 => (b2 q (by omega) q2 (by omega)).trans (a2 q q1 q2 q3), by omega, by omega⟩
section SBC
variable {G : xG} {l : Launch} {d : Nat} {h : xH} {Q : Option Value → xH → Prop} {v N : Nat} {T : List Nat}
theorem c_lat (hC : Cs h) (hc : (h.1 104).2.2 1 = .int (nI 0)) (K : Q (some (.int (nI 1))) h) : xCt G l mJ5_isLatin1_aae02 d [.ref 104] h 0 0 Q := by
  refine xCt_ofF (by decide +kernel) (Nat.le_of_ble_eq_true rfl) ?_
  refine x_getZ (v := .int (nI 1)) dJ5_isLatin1_aae02_0 rfl tJ5_18 (fun s hs => hs.2.2.2.2.2.2.1) ?_
  refine x_if_eq_f (tgt := 17) dJ5_isLatin1_aae02_3 rfl rfl nb1 ?_
  refine x_aload_n (i := 0) dJ5_isLatin1_aae02_6 rfl rfl rfl ?_
  refine x_getM (a := 104) dJ5_isLatin1_aae02_7 rfl fJ5_22 hC rfl hc ?_
  refine x_if_ne_f (tgt := 17) dJ5_isLatin1_aae02_10 rfl rfl nI_0 ?_
  refine x_iconst dJ5_isLatin1_aae02_13 rfl iC_1 ?_
  refine x_goto (tgt := 18) dJ5_isLatin1_aae02_14 rfl ?_
  refine x_ireturn dJ5_isLatin1_aae02_18 rfl rfl ?_
  exact K
theorem c_maxI {a b : Nat} (ha : a < 2147483648) (hb : b < 2147483648) (K : Q (some (.int (nI (max a b)))) h) : xCt G l mJ9_max_7cf53 d [.int (nI a), .int (nI b)] h 0 0 Q := by
  refine xCt_ofF (by decide +kernel) (Nat.le_of_ble_eq_true rfl) ?_
  refine x_iload_n (i := 0) dJ9_max_7cf53_0 rfl rfl rfl ?_
  refine x_iload_n (i := 1) dJ9_max_7cf53_1 rfl rfl rfl ?_
  refine x_jc_lt (tgt := 9) dJ9_max_7cf53_2 rfl rfl (by omega) (by omega) (fun c2 => ?_) (fun c2 => ?_)
  · refine x_iload_n (i := 1) dJ9_max_7cf53_9 rfl rfl rfl ?_
    refine x_ireturn dJ9_max_7cf53_10 rfl rfl ?_
    rw [Nat.max_eq_right (by omega)] at K
    exact K
  · refine x_iload_n (i := 0) dJ9_max_7cf53_5 rfl rfl rfl ?_
    refine x_goto (tgt := 10) dJ9_max_7cf53_6 rfl ?_
    refine x_ireturn dJ9_max_7cf53_10 rfl rfl ?_
    rw [Nat.max_eq_left (by omega)] at K
    exact K
theorem c_newLen {a b c : Nat} (hd : 1 ≤ d) (ha : a < 100000) (hb : b < 100000) (hc : c < 100000) (h1 : 1 ≤ a + max b c) (K : Q (some (.int (nI (a + max b c)))) h) : xCt G l mJ8_newLength_cabcc d [.int (nI a), .int (nI b), .int (nI c)] h 0 0 Q := by
  refine xCt_ofF (by decide +kernel) (Nat.le_of_ble_eq_true rfl) ?_
  refine x_iload_n (i := 0) dJ8_newLength_cabcc_0 rfl rfl rfl ?_
  refine x_iload_n (i := 1) dJ8_newLength_cabcc_1 rfl rfl rfl ?_
  refine x_iload_n (i := 2) dJ8_newLength_cabcc_2 rfl rfl rfl ?_
  refine x_callS0 (As := [_, _]) (d2 := d - 1) dJ8_newLength_cabcc_3 rfl kJ8_194 okJ9_max_7cf53 (by omega) rfl rfl (Nat.le_of_ble_eq_true rfl) (c_maxI (by omega) (by omega) ?_)
  have hm : max b c < 100000 := Nat.max_lt.mpr ⟨hb, hc⟩
  generalize max b c = z at *
  refine x_iadd dJ8_newLength_cabcc_6 rfl ?_
  rw [show nI a + nI z = nI (a + z) from nI_add _ _]
  refine x_istore_n (i := 3) dJ8_newLength_cabcc_7 rfl rfl (by decide) ?_
  refine x_iconst dJ8_newLength_cabcc_8 rfl iC_0 ?_
  refine x_iload_n (i := 3) dJ8_newLength_cabcc_9 rfl rfl rfl ?_
  refine x_jc_ge (tgt := 21) dJ8_newLength_cabcc_10 rfl rfl (by omega) (by omega) (fun c10 => ?_) (fun c10 => ?_)
  · exfalso
    omega
  refine x_iload_n (i := 3) dJ8_newLength_cabcc_13 rfl rfl rfl ?_
  refine x_ldc dJ8_newLength_cabcc_14 rfl cJ8_200 ?_
  rw [show (2147483639 : Int32) = nI 2147483639 by decide]
  refine x_jc_gt (tgt := 21) dJ8_newLength_cabcc_16 rfl rfl (by omega) (by omega) (fun c16 => ?_) (fun c16 => ?_)
  · exfalso
    omega
  refine x_iload_n (i := 3) dJ8_newLength_cabcc_19 rfl rfl rfl ?_
  refine x_ireturn dJ8_newLength_cabcc_20 rfl rfl ?_
  exact K
/-- a copy of a row of bytes, longer than it was -/
theorem c_copyOf {a m : Nat} {g : Nat → Int32} (hd : 1 ≤ d) (hC : Cs h) (ha : h.1 a = (3, N, xI g)) (al : a < h.2) (hN : N < m) (hm : m ≤ 100000) (hh : h.2 < 1000000) (hf : ∀ j, j < N → fits .byte (.int (g j)) = true)
    (K : ∀ h2 f, Cs h2 → h2.2 = h.2 + 1 → (∀ q, q < h.2 → h2.1 q = h.1 q) → h2.1 h.2 = (3, m, xI f) → (∀ j, j < N → f j = g j) → (∀ j, j < m → fits .byte (.int (f j)) = true) → Q (some (.ref h.2)) h2) : xCt G l mJ7_copyOf_9075b d [.ref a, .int (nI m)] h 1 m Q := by
  refine xCt_ofF (by decide +kernel) (Nat.le_of_ble_eq_true rfl) ?_
  refine x_iload_n (i := 1) dJ7_copyOf_9075b_0 rfl rfl rfl ?_
  refine x_aload_n (i := 0) dJ7_copyOf_9075b_1 rfl rfl rfl ?_
  refine x_alen dJ7_copyOf_9075b_2 rfl ha (by decide) rfl ?_
  refine x_jc_ne (tgt := 14) dJ7_copyOf_9075b_3 rfl rfl (by omega) (by omega) (fun c3 => ?_) (fun c3 => ?_)
  rotate_left
  · exfalso
    omega
  refine x_iload_n (i := 1) dJ7_copyOf_9075b_14 rfl rfl rfl ?_
  refine x_newarr (t := 3) (N := m) (k := 0) (n := 0) dJ7_copyOf_9075b_15 rfl (by decide) ac_byte rfl (by omega) hh ?_
  have e1 : (hn h (3, m, fun _ => defaultValue (xty 3))).1 a = (3, N, xI g) := by
    show (if a = h.2 then _ else h.1 a) = _
    rw [if_neg (by omega)]
    exact ha
  have e2 : (hn h (3, m, fun _ => defaultValue (xty 3))).1 h.2 = (3, m, xI (fun _ => 0)) := by
    show (if h.2 = h.2 then _ else _) = _
    rw [if_pos rfl]
    rfl
  have e3 : ∀ q, q < h.2 → (hn h (3, m, fun _ => defaultValue (xty 3))).1 q = h.1 q := by
    intro q hq
    show (if q = h.2 then _ else h.1 q) = _
    rw [if_neg (by omega)]
  have e4 : (hn h (3, m, fun _ => defaultValue (xty 3))).2 = h.2 + 1 := rfl
  have hC1 : Cs (hn h (3, m, fun _ => defaultValue (xty 3))) := by
    refine hC.gr (by rw [e4]; omega) e3 (fun q hq => ?_)
    show xTyp (if q = h.2 then _ else h.1 q)
    split
    · exact ⟨fun _ => 0, rfl⟩
    · exact hC.2.2.1 q
  generalize hn h (3, m, fun _ => defaultValue (xty 3)) = h1 at e1 e2 e3 e4 hC1 ⊢
  refine x_astore_n (i := 2) dJ7_copyOf_9075b_17 rfl rfl (by decide) ?_
  refine x_aload_n (i := 0) dJ7_copyOf_9075b_18 rfl rfl rfl ?_
  refine x_iconst dJ7_copyOf_9075b_19 rfl iC_0 ?_
  refine x_aload_n (i := 2) dJ7_copyOf_9075b_20 rfl rfl rfl ?_
  refine x_iconst dJ7_copyOf_9075b_21 rfl iC_0 ?_
  refine x_aload_n (i := 0) dJ7_copyOf_9075b_22 rfl rfl rfl ?_
  refine x_alen dJ7_copyOf_9075b_23 rfl e1 (by decide) rfl ?_
  refine x_iload_n (i := 1) dJ7_copyOf_9075b_24 rfl rfl rfl ?_
  refine x_callS0 (As := [_, _]) (d2 := d - 1) dJ7_copyOf_9075b_25 rfl kJ7_304 okJ9_min_7cf53 (by omega) rfl rfl (Nat.le_of_ble_eq_true rfl) (c_minI (by omega) (by omega) ?_)
  rw [Nat.min_eq_left (show N ≤ m by omega)]
  refine x_copy (t := 3) (sp := 0) (dp := 0) (cn := N) dJ7_copyOf_9075b_28 rfl aJ7_150 (by decide) e1 e2 rfl rfl rfl (by omega) (by omega) (by omega) (by omega) (fun i hi => by rw [Nat.zero_add]; exact hf i hi) hd (Nat.le_of_ble_eq_true rfl) ?_
  refine x_aload_n (i := 2) dJ7_copyOf_9075b_31 rfl rfl rfl ?_
  refine x_areturn dJ7_copyOf_9075b_32 rfl (Or.inr ⟨_, rfl⟩) ?_
  refine K _ (va_cpy g (fun _ => 0) 0 0 N) (hC1.setI e2 (Or.inr (Or.inr rfl)) (by have := hC.1; omega)) e4 (fun q hq => by rw [hs_n (by omega)]; exact e3 q hq) hs_eq (fun j hj => ?_) (fun j hj => ?_)
  · unfold va_cpy
    rw [if_pos (by omega)]
    congr 1
    omega
  · unfold va_cpy
    split
    · next q => exact hf _ (by omega)
    · show fits .byte (.int 0) = true
      decide
theorem c_newCap {m : Nat} (hd : 3 ≤ d) (hB : bB h v N T) (h1 : N < m) (h2 : m ≤ 2 * N + 2) (K : Q (some (.int (nI (2 * N + 2)))) h) : xCt G l mJ5_newCapacity_0f7a4 d [.ref 104, .int (nI m)] h 0 0 Q := by
  obtain ⟨hC, ⟨f0, f1, f3⟩, ⟨v1, v2⟩, ⟨g, g1, g2, g3⟩, ⟨n1, n2, n3⟩, t1, r1⟩ := hB
  refine xCt_ofF (by decide +kernel) (Nat.le_of_ble_eq_true rfl) ?_
  refine x_aload_n (i := 0) dJ5_newCapacity_0f7a4_0 rfl rfl rfl ?_
  refine x_getM (a := 104) dJ5_newCapacity_0f7a4_1 rfl fJ5_15 hC rfl f0 ?_
  refine x_alen dJ5_newCapacity_0f7a4_4 rfl g1 (by decide) rfl ?_
  refine x_istore_n (i := 2) dJ5_newCapacity_0f7a4_5 rfl rfl (by decide) ?_
  refine x_iload_n (i := 1) dJ5_newCapacity_0f7a4_6 rfl rfl rfl ?_
  refine x_aload_n (i := 0) dJ5_newCapacity_0f7a4_7 rfl rfl rfl ?_
  refine x_getM (a := 104) dJ5_newCapacity_0f7a4_8 rfl fJ5_22 hC rfl f1 ?_
  refine x_ishl dJ5_newCapacity_0f7a4_11 rfl ?_
  rw [shl0]
  refine x_istore_n (i := 3) dJ5_newCapacity_0f7a4_12 rfl rfl (by decide) ?_
  refine x_iload_n (i := 3) dJ5_newCapacity_0f7a4_13 rfl rfl rfl ?_
  refine x_iload_n (i := 2) dJ5_newCapacity_0f7a4_14 rfl rfl rfl ?_
  refine x_isub dJ5_newCapacity_0f7a4_15 rfl ?_
  rw [show nI m - nI N = nI (m - N) from pk_sub (by omega)]
  refine x_istore dJ5_newCapacity_0f7a4_16 rfl (by decide) ?_
  refine x_iload_n (i := 2) dJ5_newCapacity_0f7a4_18 rfl rfl rfl ?_
  refine x_iload dJ5_newCapacity_0f7a4_19 rfl rfl ?_
  refine x_iload_n (i := 2) dJ5_newCapacity_0f7a4_21 rfl rfl rfl ?_
  refine x_iconst dJ5_newCapacity_0f7a4_22 rfl iC_2 ?_
  refine x_aload_n (i := 0) dJ5_newCapacity_0f7a4_23 rfl rfl rfl ?_
  refine x_getM (a := 104) dJ5_newCapacity_0f7a4_24 rfl fJ5_22 hC rfl f1 ?_
  refine x_ishl dJ5_newCapacity_0f7a4_27 rfl ?_
  rw [shl0]
  refine x_iadd dJ5_newCapacity_0f7a4_28 rfl ?_
  rw [show nI N + nI 2 = nI (N + 2) from nI_add _ _]
  refine x_callS0 (As := [_, _, _]) (d2 := d - 1) dJ5_newCapacity_0f7a4_29 rfl kJ5_114 okJ8_newLength_cabcc (by omega) rfl rfl (Nat.le_of_ble_eq_true rfl) (c_newLen (by omega) (by omega) (by omega) (by omega) (by omega) ?_)
  rw [Nat.max_eq_right (show m - N ≤ N + 2 by omega), show N + (N + 2) = 2 * N + 2 by omega]
  refine x_istore dJ5_newCapacity_0f7a4_32 rfl (by decide) ?_
  refine x_iload dJ5_newCapacity_0f7a4_34 rfl rfl ?_
  refine x_ldc dJ5_newCapacity_0f7a4_36 rfl cJ5_39 ?_
  rw [show (2147483647 : Int32) = nI 2147483647 by decide]
  refine x_jc_ne (tgt := 51) dJ5_newCapacity_0f7a4_38 rfl rfl (by omega) (by omega) (fun c38 => ?_) (fun c38 => ?_)
  · refine x_iload dJ5_newCapacity_0f7a4_51 rfl rfl ?_
    refine x_aload_n (i := 0) dJ5_newCapacity_0f7a4_53 rfl rfl rfl ?_
    refine x_getM (a := 104) dJ5_newCapacity_0f7a4_54 rfl fJ5_22 hC rfl f1 ?_
    refine x_ishr dJ5_newCapacity_0f7a4_57 rfl ?_
    rw [shr0]
    refine x_ireturn dJ5_newCapacity_0f7a4_58 rfl rfl ?_
    exact K
  · exfalso
    omega
end SBC

