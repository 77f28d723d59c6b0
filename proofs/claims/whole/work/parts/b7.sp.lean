/-! what is spelled, in pure words; EightPartsModel: spell -/
def dcs (n : Nat) : List Nat := if n < 10 then [48 + n] else if n < 100 then [48 + n / 10, 48 + n % 10] else if n < 1000 then [48 + n / 100, 48 + n / 10 % 10, 48 + n % 10] else if n < 10000 then [48 + n / 1000, 48 + n / 100 % 10, 48 + n / 10 % 10, 48 + n % 10] else [48 + n / 10000, 48 + n / 1000 % 10, 48 + n / 100 % 10, 48 + n / 10 % 10, 48 + n % 10]
theorem dcs_len (n : Nat) : 1 ≤ (dcs n).length ∧ (dcs n).length ≤ 5 := by
  unfold dcs
  repeat' split
  all_goals exact ⟨Nat.le_of_ble_eq_true rfl, Nat.le_of_ble_eq_true rfl⟩
/-- the sign ahead of a part -/
def txS (L : List Nat) (v : Int32) : List Nat := if v < 0 then L ++ [45] else if L.length = 0 then L else L ++ [43]
/-- its size, in wholes or halves -/
def txN (L : List Nat) (s : Nat) : List Nat := if s % 2 = 0 then L ++ dcs (s / 2) else L ++ dcs s ++ [47, 50]
def txP (L : List Nat) (p : Nat) (v : Int32) : List Nat := if v = 0 then L else txN (txS L v) v.toInt.natAbs ++ [101] ++ [48 + p]
def txA (f : Nat → Int32) : Nat → List Nat
  | 0 => []
  | p + 1 => txP (txA f p) p (f p)
def tx (f : Nat → Int32) : List Nat := if (txA f 8).length = 0 then [48] else txA f 8
theorem txP_len (L : List Nat) (p : Nat) (v : Int32) : (txP L p v).length ≤ L.length + 10 := by
  unfold txP
  split
  · omega
  · have h1 : (txS L v).length ≤ L.length + 1 := by
      unfold txS
      split
      · rw [List.length_append]; show L.length + 1 ≤ _; omega
      · split
        · omega
        · rw [List.length_append]; show L.length + 1 ≤ _; omega
    have h2 : ∀ s, (txN (txS L v) s).length ≤ (txS L v).length + 7 := by
      intro s
      have := dcs_len (s / 2)
      have := dcs_len s
      unfold txN
      split
      · rw [List.length_append]; omega
      · rw [List.length_append, List.length_append]; show (txS L v).length + (dcs s).length + 2 ≤ _; omega
    have := h2 v.toInt.natAbs
    rw [List.length_append, List.length_append]
    show _ + 1 + 1 ≤ _
    omega
theorem txA_len (f : Nat → Int32) : ∀ p, (txA f p).length ≤ 10 * p
  | 0 => Nat.le_refl _
  | p + 1 => by
    have := txA_len f p
    have := txP_len (txA f p) p (f p)
    show (txP (txA f p) p (f p)).length ≤ _
    omega
theorem tx_len (f : Nat → Int32) : 1 ≤ (tx f).length ∧ (tx f).length ≤ 80 := by
  have := txA_len f 8
  unfold tx
  split
  · exact ⟨Nat.le_refl _, by decide⟩
  · omega
theorem txA_c {f g : Nat → Int32} : ∀ p, (∀ j, j < p → f j = g j) → txA f p = txA g p
  | 0, _ => rfl
  | p + 1, h => by rw [txA, txA, txA_c p (fun j hj => h j (by omega)), h p (by omega)]
theorem gd_ap {L M : List Nat} {j : Nat} (h : j < L.length) : (L ++ M).getD j 0 = L.getD j 0 := by
  rw [List.getD_eq_getElem?_getD, List.getD_eq_getElem?_getD, List.getElem?_append_left h]
theorem gd_at {L M : List Nat} {j : Nat} : (L ++ M).getD (L.length + j) 0 = M.getD j 0 := by
  rw [List.getD_eq_getElem?_getD, List.getD_eq_getElem?_getD, List.getElem?_append_right (by omega), Nat.add_sub_cancel_left]
theorem remN {a b : Nat} (hb : 0 < b) (ha : a < 2147483648) (hb2 : b < 2147483648) : nI a - nI a / nI b * nI b = nI (a % b) := by
  have h1 : a / b * b ≤ a := Nat.div_mul_le_self a b
  have h2 := Nat.div_add_mod a b
  rw [show nI a / nI b = nI (a / b) from pk_div (by omega) (by omega) (by omega), show nI (a / b) * nI b = nI (a / b * b) from nI_mul8 _ _, pk_sub h1]
  congr 1
  rw [Nat.mul_comm] at h2
  omega
theorem abs_p {v : Int32} (hb : -20000 ≤ v.toInt ∧ v.toInt ≤ 20000) : (v < 0 → -v = nI v.toInt.natAbs) ∧ (¬ v < 0 → v = nI v.toInt.natAbs) ∧ v.toInt.natAbs ≤ 20000 ∧ (v = 0 ↔ v.toInt.natAbs = 0) := by
  have e0 : (0 : Int32).toInt = 0 := rfl
  refine ⟨fun h => ?_, fun h => ?_, by omega, ⟨fun h => by rw [h]; rfl, fun h => Int32.toInt_inj.mp (by rw [e0]; omega)⟩⟩
  · rw [Int32.lt_iff_toInt_lt, e0] at h
    apply Int32.toInt_inj.mp
    rw [nI_toInt (by omega), fb_negI (by omega)]
    omega
  · rw [Int32.lt_iff_toInt_lt, e0] at h
    apply Int32.toInt_inj.mp
    rw [nI_toInt (by omega)]
    omega
noncomputable def sp_spell (S : St) (a i : Int32) : Int32 × St := match sE a with
  | none => (-1, S)
  | some x => if i < -1 then (-1, S) else if i = -1 then (nI (tx (S.1 x)).length, S) else if i < nI (tx (S.1 x)).length then (nI ((tx (S.1 x)).getD i.toInt.toNat 0), S) else (-1, S)
/-- the model's text -/
def mTx (h : xH) (S : St) (L : List Nat) : Prop := RM h S ∧ (h.1 110).2.2 30 = .int (nI L.length) ∧ ∀ j, j < L.length → iv h 129 j = nI (L.getD j 0)
section MOD
variable {G : xG} {l : Launch} {d : Nat} {h : xH} {Q : Option Value → xH → Prop} {S : St}
theorem m_writes {c : Nat} {L : List Nat} (hw : mTx h S L) (hl : L.length < 120) (K : ∀ h2, mTx h2 S (L ++ [c]) → cF h h2 → Q none h2) : xCt G l mX12_writes d [.ref 110, .int (nI c)] h 0 0 Q := by
  obtain ⟨w1, w2, w3⟩ := hw
  have hC := w1.1
  have v9 := hC.v (a := 129) rfl
  refine xCt_of (by decide) (Nat.le_of_ble_eq_true rfl) ?_
  have hC1 := hC.setI (f := upd (iv h 129) L.length (nI c)) v9 (Or.inl rfl) (by decide)
  have hv1 : mV [] [129] h (hs h 129 (0, 120, xI (upd (iv h 129) L.length (nI c)))) := mV_o hC1 xSm.hs1 (by decide)
  have e0 : (hs h 129 (0, 120, xI (upd (iv h 129) L.length (nI c)))).1 110 = h.1 110 := hs_n (by decide)
  have R1 := w1.fl hv1 (by simp) (by simp [mNw]) (by rw [e0]) (by rw [e0]) (by rw [e0]) (by rw [e0])
  have i1 : iv (hs h 129 (0, 120, xI (upd (iv h 129) L.length (nI c)))) 129 = upd (iv h 129) L.length (nI c) := iv_hs
  refine x_aload_n (i := 0) dX12_writes_0 rfl rfl rfl ?_
  refine x_getC dX12_writes_1 rfl fX12_74 hC rfl F_110_29 ?_
  refine x_aload_n (i := 0) dX12_writes_4 rfl rfl rfl ?_
  refine x_getM (a := 110) dX12_writes_5 rfl fX12_325 hC rfl w2 ?_
  refine x_iload_n (i := 1) dX12_writes_8 rfl rfl rfl ?_
  refine x_iast dX12_writes_9 rfl v9 rfl (by omega) (by decide) ?_
  show xWP G l mX12_writes d (zM G Q) 0 0 10 _ [] (hs h 129 (0, 120, xI (upd (iv h 129) L.length (nI c))))
  generalize hs h 129 (0, 120, xI (upd (iv h 129) L.length (nI c))) = h1 at hC1 hv1 e0 R1 i1 ⊢
  have g2 : (h1.1 110).2.2 30 = .int (nI L.length) := by rw [e0]; exact w2
  have hC := hC1
  refine x_aload_n (i := 0) dX12_writes_10 rfl rfl rfl ?_
  refine x_dup dX12_writes_11 rfl rfl ?_
  refine x_getM (a := 110) dX12_writes_12 rfl fX12_325 hC rfl g2 ?_
  refine x_iconst dX12_writes_15 rfl iC_1 ?_
  refine x_iadd dX12_writes_16 rfl ?_
  rw [show nI L.length + nI 1 = nI (L.length + 1) from nI_add _ 1]
  have hC2 := hC.setF (ci := 12) (a := 110) (kf := 30) (v := .int (nI (L.length + 1))) rfl NF_110_30 (by decide)
  obtain ⟨d1, d2, d3, d4, d5, d6⟩ := mW.f (P := fun _ => True) R1 hC2 (by decide)
  refine x_putC (a := 110) dX12_writes_17 rfl fX12_325 (fun q hq => by cases hq; rfl) hC rfl ⟨rfl, rfl⟩ ?_
  show xWP G l mX12_writes d (zM G Q) 0 0 20 _ [] (hs h1 110 (112, 0, updV (h1.1 110).2.2 30 (.int (nI (L.length + 1)))))
  generalize hs h1 110 (112, 0, updV (h1.1 110).2.2 30 (.int (nI (L.length + 1)))) = h2 at hC2 d1 d2 d3 d4 d5 d6 ⊢
  refine x_return dX12_writes_20 rfl ?_
  refine K h2 ⟨d1, by rw [List.length_append]; exact d3, fun j hj => ?_⟩ ((hv1.c (by simp)).tr (cF.sm hC2 d2 (by simp)))
  rw [List.length_append] at hj
  have hj2 : j < L.length + 1 := hj
  rw [d5 129 (by decide), i1]
  unfold upd
  by_cases e : j = L.length
  · rw [if_pos e, e]
    exact congrArg nI (gd_at (L := L) (M := [c]) (j := 0)).symm
  · rw [if_neg e, gd_ap (by omega)]
    exact w3 j (by omega)
theorem m_wrN {v : Nat} {L : List Nat} (hd : 1 ≤ d) (hv : v ≤ 20000) (hw : mTx h S L) (hl : L.length ≤ 110) (K : ∀ h2, mTx h2 S (L ++ dcs v) → cF h h2 → Q none h2) : xCt G l mX12_writesNumber d [.ref 110, .int (nI v)] h 0 0 Q := by
  have hC := hw.1.1
  refine xCt_of (by decide) (Nat.le_of_ble_eq_true rfl) ?_
  have up : ∀ B, 1 ≤ B → B ≤ 10000 → (v / B ≤ 9 → xWP G l mX12_writesNumber d (zM G Q) 0 0 18 (xls [(0, .ref 110), (1, .int (nI v)), (2, .int (nI B))]) [] h) → (9 < v / B → xWP G l mX12_writesNumber d (zM G Q) 0 0 2 (xls [(0, .ref 110), (1, .int (nI v)), (2, .int (nI (B * 10)))]) [] h) → xWP G l mX12_writesNumber d (zM G Q) 0 0 2 (xls [(0, .ref 110), (1, .int (nI v)), (2, .int (nI B))]) [] h := by
    intro B b1 b2 k1 k2
    have hB : ¬ nI B = 0 := fun z => by
      have := (nI_eq (a := B) (b := 0) (by omega) (by decide)).mp (by rw [z, nI_0])
      omega
    have hq : v / B ≤ v := Nat.div_le_self _ _
    refine x_iload_n (i := 1) dX12_writesNumber_2 rfl rfl rfl ?_
    refine x_iload_n (i := 2) dX12_writesNumber_3 rfl rfl rfl ?_
    refine x_idiv dX12_writesNumber_4 rfl hB ?_
    rw [show nI v / nI B = nI (v / B) from pk_div (by omega) (by omega) (by omega)]
    refine x_bipush dX12_writesNumber_5 rfl bC_9 ?_
    refine x_jc_le (tgt := 18) dX12_writesNumber_7 rfl rfl (by omega) (by omega) (fun c7 => ?_) (fun c7 => ?_)
    · exact x_to (k1 c7) ⟨rfl, rfl, rfl, trivial⟩
    · refine x_iload_n (i := 2) dX12_writesNumber_10 rfl rfl rfl ?_
      refine x_bipush dX12_writesNumber_11 rfl bC_10 ?_
      refine x_imul dX12_writesNumber_13 rfl ?_
      rw [show nI B * nI 10 = nI (B * 10) from nI_mul8 _ _]
      refine x_istore_n (i := 2) dX12_writesNumber_14 rfl rfl (by decide) ?_
      refine x_goto (tgt := 2) dX12_writesNumber_15 rfl ?_
      exact x_to (k2 c7) ⟨rfl, rfl, rfl, trivial⟩
  have dn : ∀ B, 1 ≤ B → B ≤ 10000 → ∀ M h1, mTx h1 S M → cF h h1 → M.length < 120 → (∀ h2, mTx h2 S (M ++ [48 + v / B % 10]) → cF h h2 → xWP G l mX12_writesNumber d (zM G Q) 0 0 18 (xls [(0, .ref 110), (1, .int (nI v)), (2, .int (nI (B / 10)))]) [] h2) → xWP G l mX12_writesNumber d (zM G Q) 0 0 18 (xls [(0, .ref 110), (1, .int (nI v)), (2, .int (nI B))]) [] h1 := by
    intro B b1 b2 M h1 w1 c1 hM kk
    have hC := w1.1.1
    have hB : ¬ nI B = 0 := fun z => by
      have := (nI_eq (a := B) (b := 0) (by omega) (by decide)).mp (by rw [z, nI_0])
      omega
    have pos : ¬ nI B ≤ 0 := by
      intro q
      have := (nI_leI (a := B) (b := 0) (by omega) (by decide)).mp (by rw [nI_0]; exact q)
      omega
    have hq : v / B ≤ v := Nat.div_le_self _ _
    refine x_iload_n (i := 2) dX12_writesNumber_18 rfl rfl rfl ?_
    refine x_if_le_f (tgt := 43) dX12_writesNumber_19 rfl rfl pos ?_
    refine x_aload_n (i := 0) dX12_writesNumber_22 rfl rfl rfl ?_
    refine x_bipush dX12_writesNumber_23 rfl bC_48 ?_
    refine x_iload_n (i := 1) dX12_writesNumber_25 rfl rfl rfl ?_
    refine x_iload_n (i := 2) dX12_writesNumber_26 rfl rfl rfl ?_
    refine x_idiv dX12_writesNumber_27 rfl hB ?_
    rw [show nI v / nI B = nI (v / B) from pk_div (by omega) (by omega) (by omega)]
    refine x_bipush dX12_writesNumber_28 rfl bC_10 ?_
    refine x_irem dX12_writesNumber_30 rfl (by decide) ?_
    rw [remN (by decide) (by omega) (by decide)]
    refine x_iadd dX12_writesNumber_31 rfl ?_
    rw [show nI 48 + nI (v / B % 10) = nI (48 + v / B % 10) from nI_add _ _]
    refine x_callV0 (ci := 12) (b := 110) (As := [_]) (d2 := d - 1) dX12_writesNumber_32 rfl kX12_328 okX12_writes (hC.o rfl) (fun q hq => by cases hq; rfl) (by omega) rfl rfl (Nat.le_of_ble_eq_true rfl) (m_writes w1 hM (fun h2 w2 c2 => ?_))
    refine x_iload_n (i := 2) dX12_writesNumber_35 rfl rfl rfl ?_
    refine x_bipush dX12_writesNumber_36 rfl bC_10 ?_
    refine x_idiv dX12_writesNumber_38 rfl (by decide) ?_
    rw [show nI B / nI 10 = nI (B / 10) from pk_div (by omega) (by omega) (by omega)]
    refine x_istore_n (i := 2) dX12_writesNumber_39 rfl rfl (by decide) ?_
    refine x_goto (tgt := 18) dX12_writesNumber_40 rfl ?_
    exact x_to (kk h2 w2 (c1.tr c2)) ⟨rfl, rfl, rfl, trivial⟩
  have nd : ∀ M h1, mTx h1 S M → cF h h1 → M = L ++ dcs v → xWP G l mX12_writesNumber d (zM G Q) 0 0 18 (xls [(0, .ref 110), (1, .int (nI v)), (2, .int (nI 0))]) [] h1 := by
    intro M h1 w1 c1 e
    subst e
    refine x_iload_n (i := 2) dX12_writesNumber_18 rfl rfl rfl ?_
    refine x_if_le_t (tgt := 43) dX12_writesNumber_19 rfl (by decide) ?_
    refine x_return dX12_writesNumber_43 rfl ?_
    exact K h1 w1 c1
  have a1 : ∀ (M : List Nat) x, (M ++ [x]).length = M.length + 1 := fun M x => by rw [List.length_append]; rfl
  refine x_iconst dX12_writesNumber_0 rfl iC_1 ?_
  refine x_istore_n (i := 2) dX12_writesNumber_1 rfl rfl (by decide) ?_
  refine x_to (up 1 (by decide) (by decide) (fun q => ?_) (fun q => ?_)) ⟨rfl, rfl, rfl, trivial⟩
  · have e : dcs v = [48 + v / 1 % 10] := by unfold dcs; rw [if_pos (by omega)]; congr 2; omega
    exact dn 1 (by decide) (by decide) L h hw (cF.rf hC) (by omega) (fun h2 w2 c2 => nd _ h2 w2 c2 (by rw [e]))
  refine up 10 (by decide) (by decide) (fun q2 => ?_) (fun q2 => ?_)
  · have e : dcs v = [48 + v / 10 % 10, 48 + v / 1 % 10] := by
      unfold dcs
      rw [if_neg (by omega), if_pos (by omega), show v / 10 % 10 = v / 10 by omega, show v / 1 % 10 = v % 10 by omega]
    exact dn 10 (by decide) (by decide) L h hw (cF.rf hC) (by omega) (fun h2 w2 c2 => dn 1 (by decide) (by decide) _ h2 w2 c2 (by rw [a1]; omega) (fun h3 w3 c3 => nd _ h3 w3 c3 (by rw [e, List.append_assoc]; rfl)))
  refine up 100 (by decide) (by decide) (fun q3 => ?_) (fun q3 => ?_)
  · have e : dcs v = [48 + v / 100 % 10, 48 + v / 10 % 10, 48 + v / 1 % 10] := by
      unfold dcs
      rw [if_neg (by omega), if_neg (by omega), if_pos (by omega), show v / 100 % 10 = v / 100 by omega, show v / 1 % 10 = v % 10 by omega]
    exact dn 100 (by decide) (by decide) L h hw (cF.rf hC) (by omega) (fun h2 w2 c2 => dn 10 (by decide) (by decide) _ h2 w2 c2 (by rw [a1]; omega) (fun h3 w3 c3 => dn 1 (by decide) (by decide) _ h3 w3 c3 (by rw [a1, a1]; omega) (fun h4 w4 c4 => nd _ h4 w4 c4 (by rw [e, List.append_assoc, List.append_assoc]; rfl))))
  refine up 1000 (by decide) (by decide) (fun q4 => ?_) (fun q4 => ?_)
  · have e : dcs v = [48 + v / 1000 % 10, 48 + v / 100 % 10, 48 + v / 10 % 10, 48 + v / 1 % 10] := by
      unfold dcs
      rw [if_neg (by omega), if_neg (by omega), if_neg (by omega), if_pos (by omega), show v / 1000 % 10 = v / 1000 by omega, show v / 1 % 10 = v % 10 by omega]
    exact dn 1000 (by decide) (by decide) L h hw (cF.rf hC) (by omega) (fun h2 w2 c2 => dn 100 (by decide) (by decide) _ h2 w2 c2 (by rw [a1]; omega) (fun h3 w3 c3 => dn 10 (by decide) (by decide) _ h3 w3 c3 (by rw [a1, a1]; omega) (fun h4 w4 c4 => dn 1 (by decide) (by decide) _ h4 w4 c4 (by rw [a1, a1, a1]; omega) (fun h5 w5 c5 => nd _ h5 w5 c5 (by rw [e, List.append_assoc, List.append_assoc, List.append_assoc]; rfl)))))
  refine up 10000 (by decide) (by decide) (fun q5 => ?_) (fun q5 => by exfalso; omega)
  have e : dcs v = [48 + v / 10000 % 10, 48 + v / 1000 % 10, 48 + v / 100 % 10, 48 + v / 10 % 10, 48 + v / 1 % 10] := by
    unfold dcs
    rw [if_neg (by omega), if_neg (by omega), if_neg (by omega), if_neg (by omega), show v / 10000 % 10 = v / 10000 by omega, show v / 1 % 10 = v % 10 by omega]
  exact dn 10000 (by decide) (by decide) L h hw (cF.rf hC) (by omega) (fun h2 w2 c2 => dn 1000 (by decide) (by decide) _ h2 w2 c2 (by rw [a1]; omega) (fun h3 w3 c3 => dn 100 (by decide) (by decide) _ h3 w3 c3 (by rw [a1, a1]; omega) (fun h4 w4 c4 => dn 10 (by decide) (by decide) _ h4 w4 c4 (by rw [a1, a1, a1]; omega) (fun h5 w5 c5 => dn 1 (by decide) (by decide) _ h5 w5 c5 (by rw [a1, a1, a1, a1]; omega) (fun h6 w6 c6 => nd _ h6 w6 c6 (by rw [e, List.append_assoc, List.append_assoc, List.append_assoc, List.append_assoc]; rfl))))))
theorem m_wrA {x : Nat} (hd : 3 ≤ d) (hR : RM h S) (hx : x < 8) (K : ∀ h2, mTx h2 S (tx (S.1 x)) → cF h h2 → Q none h2) : xCt G l mX12_writesAll d [.ref 110, .int (nI x)] h 0 0 Q := by
  have hC := hR.1
  refine xCt_of (by decide) (Nat.le_of_ble_eq_true rfl) ?_
  have hC2 := hC.setF (ci := 12) (a := 110) (kf := 30) (v := .int (nI 0)) rfl NF_110_30 (by decide)
  obtain ⟨d1, d2, d3, d4, d5, d6⟩ := mW.f (P := fun _ => True) hR hC2 (by decide)
  refine x_aload_n (i := 0) dX12_writesAll_0 rfl rfl rfl ?_
  refine x_iconst dX12_writesAll_1 rfl iC_0 ?_
  refine x_putC (a := 110) dX12_writesAll_2 rfl fX12_325 (fun q hq => by cases hq; rfl) hC rfl ⟨rfl, rfl⟩ ?_
  show xWP G l mX12_writesAll d (zM G Q) 0 0 5 _ [] (hs h 110 (112, 0, updV (h.1 110).2.2 30 (.int (nI 0))))
  generalize hs h 110 (112, 0, updV (h.1 110).2.2 30 (.int (nI 0))) = h1 at hC2 d1 d2 d3 d4 d5 d6 ⊢
  have w0 : mTx h1 S [] := ⟨d1, d3, fun j hj => absurd hj (Nat.not_lt_zero j)⟩
  have cf0 := cF.sm hC2 d2 (by simp)
  refine x_iconst dX12_writesAll_5 rfl iC_0 ?_
  refine x_istore_n (i := 2) dX12_writesAll_6 rfl rfl (by decide) ?_
  have key := xloop (P := fun p => ∀ h2, mTx h2 S (txA (S.1 x) p) → cF h h2 → xWP G l mX12_writesAll d (zM G Q) 0 0 7 (xls [(0, .ref 110), (1, .int (nI x)), (2, .int (nI p))]) [] h2) 8 (by
    intro p hp ih h2 w2 c2
    have hC := w2.1.1
    have ln := txA_len (S.1 x) p
    have f30 := w2.2.1
    refine x_iload_n (i := 2) dX12_writesAll_7 rfl rfl rfl ?_
    refine x_bipush dX12_writesAll_8 rfl bC_8 ?_
    refine x_jc_ge (tgt := 130) dX12_writesAll_10 rfl rfl (by omega) (by omega) (fun c10 => ?_) (fun c10 => ?_)
    · obtain rfl : p = 8 := by omega
      by_cases z : (txA (S.1 x) 8).length = 0
      · have et : tx (S.1 x) = [48] := if_pos z
        have en : txA (S.1 x) 8 = [] := List.eq_nil_of_length_eq_zero z
        rw [et] at K
        rw [z] at f30
        rw [en] at w2
        refine x_aload_n (i := 0) dX12_writesAll_130 rfl rfl rfl ?_
        refine x_getM (a := 110) dX12_writesAll_131 rfl fX12_325 hC rfl f30 ?_
        refine x_if_ne_f (tgt := 143) dX12_writesAll_134 rfl rfl nI_0 ?_
        refine x_aload_n (i := 0) dX12_writesAll_137 rfl rfl rfl ?_
        refine x_bipush dX12_writesAll_138 rfl bC_48 ?_
        refine x_callV0 (ci := 12) (b := 110) (As := [_]) (d2 := d - 1) dX12_writesAll_140 rfl kX12_328 okX12_writes (hC.o rfl) (fun q hq => by cases hq; rfl) (by omega) rfl rfl (Nat.le_of_ble_eq_true rfl) (m_writes w2 (by decide) (fun h3 w3 c3 => ?_))
        refine x_return dX12_writesAll_143 rfl ?_
        exact K h3 w3 (c2.tr c3)
      · have et : tx (S.1 x) = txA (S.1 x) 8 := if_neg z
        have nz : ¬ nI (txA (S.1 x) 8).length = 0 := fun q => by
          have := (nI_eq (b := 0) (by omega) (by decide)).mp (q.trans nI_0.symm)
          exact z this
        rw [et] at K
        refine x_aload_n (i := 0) dX12_writesAll_130 rfl rfl rfl ?_
        refine x_getM (a := 110) dX12_writesAll_131 rfl fX12_325 hC rfl f30 ?_
        refine x_if_ne_t (tgt := 143) dX12_writesAll_134 rfl nz ?_
        refine x_return dX12_writesAll_143 rfl ?_
        exact K h2 w2 c2
    · have row := hC.v (a := 112) rfl
      have hb : -20000 ≤ (S.1 x p).toInt ∧ (S.1 x p).toInt ≤ 20000 := by rw [← w2.1.p hx]; exact w2.1.b x (by omega) p c10
      obtain ⟨ab1, ab2, ab3, ab4⟩ := abs_p hb
      have es : txA (S.1 x) (p + 1) = txP (txA (S.1 x) p) p (S.1 x p) := rfl
      generalize txA (S.1 x) p = L at *
      refine x_aload_n (i := 0) dX12_writesAll_13 rfl rfl rfl ?_
      refine x_getC dX12_writesAll_14 rfl fX12_17 hC rfl F_110_2 ?_
      refine x_bipush dX12_writesAll_17 rfl bC_8 ?_
      refine x_iload_n (i := 1) dX12_writesAll_19 rfl rfl rfl ?_
      refine x_imul dX12_writesAll_20 rfl ?_
      refine x_iload_n (i := 2) dX12_writesAll_21 rfl rfl rfl ?_
      refine x_iadd dX12_writesAll_22 rfl ?_
      rw [nI_8]
      refine x_iald dX12_writesAll_23 rfl row rfl (by omega) (by decide) ?_
      rw [← pl_lt c10, w2.1.p hx]
      generalize S.1 x p = v at *
      refine x_istore_n (i := 3) dX12_writesAll_24 rfl rfl (by decide) ?_
      refine x_iload_n (i := 3) dX12_writesAll_25 rfl rfl rfl ?_
      refine x_if_ne (tgt := 32) dX12_writesAll_26 rfl rfl (fun c26 => ?_) (fun c26 => ?_)
      rotate_left
      · have vz : v = 0 := by
          first
          | exact c26
          | exact Classical.byContradiction (fun z => c26 z)
        have e1 : txP L p v = L := if_pos vz
        refine x_goto (tgt := 124) dX12_writesAll_29 rfl ?_
        refine x_iinc dX12_writesAll_124 rfl rfl (inc1 _) ?_
        refine x_goto (tgt := 7) dX12_writesAll_127 rfl ?_
        exact x_to (ih c10 h2 (by rw [es, e1]; exact w2) c2) ⟨rfl, rfl, rfl, trivial⟩
      have vz : ¬ v = 0 := c26
      have e1 : txP L p v = txN (txS L v) v.toInt.natAbs ++ [101] ++ [48 + p] := if_neg vz
      -- behind the sign
      have beh : ∀ h3, mTx h3 S (txS L v) → cF h h3 → (txS L v).length ≤ 71 → xWP G l mX12_writesAll d (zM G Q) 0 0 58 (xls [(0, .ref 110), (1, .int (nI x)), (2, .int (nI p)), (3, .int v)]) [] h3 := by
        intro h3 w3 c3 l3
        have hC := w3.1.1
        generalize txS L v = M at *
        have siz : ∀ s, s ≤ 20000 → s = v.toInt.natAbs → xWP G l mX12_writesAll d (zM G Q) 0 0 68 (xls [(0, .ref 110), (1, .int (nI x)), (2, .int (nI p)), (3, .int v)]) [.int (nI s)] h3 := by
          intro s hs2 hs3
          rw [← hs3] at e1
          have fin : ∀ h4, mTx h4 S (txN M s) → cF h h4 → (txN M s).length ≤ 80 → xWP G l mX12_writesAll d (zM G Q) 0 0 110 (xls [(0, .ref 110), (1, .int (nI x)), (2, .int (nI p))]) [] h4 := by
            intro h4 w4 c4 l4
            have hC := w4.1.1
            refine x_aload_n (i := 0) dX12_writesAll_110 rfl rfl rfl ?_
            refine x_bipush dX12_writesAll_111 rfl bC_101 ?_
            refine x_callV0 (ci := 12) (b := 110) (As := [_]) (d2 := d - 1) dX12_writesAll_113 rfl kX12_328 okX12_writes (hC.o rfl) (fun q hq => by cases hq; rfl) (by omega) rfl rfl (Nat.le_of_ble_eq_true rfl) (m_writes (c := 101) w4 (by omega) (fun h5 w5 c5 => ?_))
            have hC := w5.1.1
            refine x_aload_n (i := 0) dX12_writesAll_116 rfl rfl rfl ?_
            refine x_bipush dX12_writesAll_117 rfl bC_48 ?_
            refine x_iload_n (i := 2) dX12_writesAll_119 rfl rfl rfl ?_
            refine x_iadd dX12_writesAll_120 rfl ?_
            rw [show nI 48 + nI p = nI (48 + p) from nI_add _ _]
            refine x_callV0 (ci := 12) (b := 110) (As := [_]) (d2 := d - 1) dX12_writesAll_121 rfl kX12_328 okX12_writes (hC.o rfl) (fun q hq => by cases hq; rfl) (by omega) rfl rfl (Nat.le_of_ble_eq_true rfl) (m_writes w5 (by rw [List.length_append]; show _ + 1 < 120; omega) (fun h6 w6 c6 => ?_))
            refine x_iinc dX12_writesAll_124 rfl rfl (inc1 _) ?_
            refine x_goto (tgt := 7) dX12_writesAll_127 rfl ?_
            exact x_to (ih c10 h6 (by rw [es, e1]; exact w6) ((c4.tr c5).tr c6)) ⟨rfl, rfl, rfl, trivial⟩
          refine x_istore dX12_writesAll_68 rfl (by decide) ?_
          refine x_aload_n (i := 0) dX12_writesAll_70 rfl rfl rfl ?_
          refine x_iload dX12_writesAll_71 rfl rfl ?_
          refine x_iconst dX12_writesAll_73 rfl iC_2 ?_
          refine x_irem dX12_writesAll_74 rfl (by decide) ?_
          rw [remN (by decide) (by omega) (by decide)]
          by_cases ev : s % 2 = 0
          · have en : txN M s = M ++ dcs (s / 2) := if_pos ev
            have dl := dcs_len (s / 2)
            rw [ev]
            refine x_if_ne_f (tgt := 85) dX12_writesAll_75 rfl rfl nI_0 ?_
            refine x_iload dX12_writesAll_78 rfl rfl ?_
            refine x_iconst dX12_writesAll_80 rfl iC_2 ?_
            refine x_idiv dX12_writesAll_81 rfl (by decide) ?_
            rw [show nI s / nI 2 = nI (s / 2) from pk_div (by omega) (by omega) (by omega)]
            refine x_goto (tgt := 87) dX12_writesAll_82 rfl ?_
            refine x_callV0 (ci := 12) (b := 110) (As := [_]) (d2 := d - 1) dX12_writesAll_87 rfl kX12_331 okX12_writesNumber (hC.o rfl) (fun q hq => by cases hq; rfl) (by omega) rfl rfl (Nat.le_of_ble_eq_true rfl) (m_wrN (by omega) (by omega) w3 (by omega) (fun h4 w4 c4 => ?_))
            have hC := w4.1.1
            refine x_iload dX12_writesAll_90 rfl rfl ?_
            refine x_iconst dX12_writesAll_92 rfl iC_2 ?_
            refine x_irem dX12_writesAll_93 rfl (by decide) ?_
            rw [remN (by decide) (by omega) (by decide), ev]
            refine x_iconst dX12_writesAll_94 rfl iC_1 ?_
            refine x_ic_ne_t (tgt := 110) dX12_writesAll_95 rfl (by decide) ?_
            exact x_to (fin h4 (by rw [en]; exact w4) (c3.tr c4) (by rw [en, List.length_append]; omega)) ⟨rfl, rfl, rfl, trivial⟩
          · have od : s % 2 = 1 := by omega
            have en : txN M s = M ++ dcs s ++ [47, 50] := if_neg ev
            have dl := dcs_len s
            rw [od]
            refine x_if_ne_t (tgt := 85) dX12_writesAll_75 rfl nb1 ?_
            refine x_iload dX12_writesAll_85 rfl rfl ?_
            refine x_callV0 (ci := 12) (b := 110) (As := [_]) (d2 := d - 1) dX12_writesAll_87 rfl kX12_331 okX12_writesNumber (hC.o rfl) (fun q hq => by cases hq; rfl) (by omega) rfl rfl (Nat.le_of_ble_eq_true rfl) (m_wrN (by omega) (by omega) w3 (by omega) (fun h4 w4 c4 => ?_))
            have hC := w4.1.1
            refine x_iload dX12_writesAll_90 rfl rfl ?_
            refine x_iconst dX12_writesAll_92 rfl iC_2 ?_
            refine x_irem dX12_writesAll_93 rfl (by decide) ?_
            rw [remN (by decide) (by omega) (by decide), od]
            refine x_iconst dX12_writesAll_94 rfl iC_1 ?_
            refine x_ic_ne_f (tgt := 110) dX12_writesAll_95 rfl rfl (by decide) ?_
            refine x_aload_n (i := 0) dX12_writesAll_98 rfl rfl rfl ?_
            refine x_bipush dX12_writesAll_99 rfl bC_47 ?_
            refine x_callV0 (ci := 12) (b := 110) (As := [_]) (d2 := d - 1) dX12_writesAll_101 rfl kX12_328 okX12_writes (hC.o rfl) (fun q hq => by cases hq; rfl) (by omega) rfl rfl (Nat.le_of_ble_eq_true rfl) (m_writes (c := 47) w4 (by rw [List.length_append]; omega) (fun h5 w5 c5 => ?_))
            have hC := w5.1.1
            refine x_aload_n (i := 0) dX12_writesAll_104 rfl rfl rfl ?_
            refine x_bipush dX12_writesAll_105 rfl bC_50 ?_
            refine x_callV0 (ci := 12) (b := 110) (As := [_]) (d2 := d - 1) dX12_writesAll_107 rfl kX12_328 okX12_writes (hC.o rfl) (fun q hq => by cases hq; rfl) (by omega) rfl rfl (Nat.le_of_ble_eq_true rfl) (m_writes (c := 50) w5 (by rw [List.length_append, List.length_append]; show _ + 1 < 120; omega) (fun h6 w6 c6 => ?_))
            refine x_to (fin h6 (by rw [en]; rw [List.append_assoc (M ++ dcs s)] at w6; exact w6) (((c3.tr c4).tr c5).tr c6) (by rw [en, List.length_append, List.length_append]; show _ + 2 ≤ 80; omega)) ⟨rfl, rfl, rfl, trivial⟩
        refine x_iload_n (i := 3) dX12_writesAll_58 rfl rfl rfl ?_
        refine x_if_ge (tgt := 67) dX12_writesAll_59 rfl rfl (fun c59 => ?_) (fun c59 => ?_)
        · have nn : ¬ v < 0 := Int32.not_lt.mpr c59
          have e2 := ab2 nn
          refine x_iload_n (i := 3) dX12_writesAll_67 rfl rfl rfl ?_
          have kz := siz v.toInt.natAbs ab3 rfl
          rw [← e2] at kz
          exact x_to kz ⟨rfl, rfl, rfl, rfl, trivial⟩
        · have nn : v < 0 := Int32.not_le.mp c59
          refine x_iload_n (i := 3) dX12_writesAll_62 rfl rfl rfl ?_
          refine x_ineg dX12_writesAll_63 rfl ?_
          refine x_goto (tgt := 68) dX12_writesAll_64 rfl ?_
          have kz := siz v.toInt.natAbs ab3 rfl
          rw [← ab1 nn] at kz
          exact x_to kz ⟨rfl, rfl, rfl, rfl, trivial⟩
      refine x_iload_n (i := 3) dX12_writesAll_32 rfl rfl rfl ?_
      refine x_if_ge (tgt := 45) dX12_writesAll_33 rfl rfl (fun c33 => ?_) (fun c33 => ?_)
      · have nn : ¬ v < 0 := Int32.not_lt.mpr c33
        by_cases z : L.length = 0
        · have e2 : txS L v = L := by unfold txS; rw [if_neg nn, if_pos z]
          rw [z] at f30
          refine x_aload_n (i := 0) dX12_writesAll_45 rfl rfl rfl ?_
          refine x_getM (a := 110) dX12_writesAll_46 rfl fX12_325 hC rfl f30 ?_
          refine x_if_le_t (tgt := 58) dX12_writesAll_49 rfl (by decide) ?_
          exact x_to (beh h2 (by rw [e2]; exact w2) c2 (by rw [e2]; omega)) ⟨rfl, rfl, rfl, rfl, trivial⟩
        · have e2 : txS L v = L ++ [43] := by unfold txS; rw [if_neg nn, if_neg z]
          have pos : ¬ nI L.length ≤ 0 := by
            intro q
            have := (nI_leI (a := L.length) (b := 0) (by omega) (by decide)).mp (by rw [nI_0]; exact q)
            omega
          refine x_aload_n (i := 0) dX12_writesAll_45 rfl rfl rfl ?_
          refine x_getM (a := 110) dX12_writesAll_46 rfl fX12_325 hC rfl f30 ?_
          refine x_if_le_f (tgt := 58) dX12_writesAll_49 rfl rfl pos ?_
          refine x_aload_n (i := 0) dX12_writesAll_52 rfl rfl rfl ?_
          refine x_bipush dX12_writesAll_53 rfl bC_43 ?_
          refine x_callV0 (ci := 12) (b := 110) (As := [_]) (d2 := d - 1) dX12_writesAll_55 rfl kX12_328 okX12_writes (hC.o rfl) (fun q hq => by cases hq; rfl) (by omega) rfl rfl (Nat.le_of_ble_eq_true rfl) (m_writes (c := 43) w2 (by omega) (fun h3 w3 c3 => ?_))
          exact x_to (beh h3 (by rw [e2]; exact w3) (c2.tr c3) (by rw [e2, List.length_append]; show _ + 1 ≤ 71; omega)) ⟨rfl, rfl, rfl, rfl, trivial⟩
      · have nn : v < 0 := Int32.not_le.mp c33
        have e2 : txS L v = L ++ [45] := if_pos nn
        refine x_aload_n (i := 0) dX12_writesAll_36 rfl rfl rfl ?_
        refine x_bipush dX12_writesAll_37 rfl bC_45 ?_
        refine x_callV0 (ci := 12) (b := 110) (As := [_]) (d2 := d - 1) dX12_writesAll_39 rfl kX12_328 okX12_writes (hC.o rfl) (fun q hq => by cases hq; rfl) (by omega) rfl rfl (Nat.le_of_ble_eq_true rfl) (m_writes (c := 45) w2 (by omega) (fun h3 w3 c3 => ?_))
        refine x_goto (tgt := 58) dX12_writesAll_42 rfl ?_
        exact x_to (beh h3 (by rw [e2]; exact w3) (c2.tr c3) (by rw [e2, List.length_append]; show _ + 1 ≤ 71; omega)) ⟨rfl, rfl, rfl, rfl, trivial⟩) 0 (Nat.zero_le _) h1 w0 cf0
  exact x_to key ⟨rfl, rfl, rfl, trivial⟩
theorem n_spell {a i : Int32} (hd : 10 ≤ d) (hR : RM h S) (K : ∀ r S2 h2, sp_spell S a i = (r, S2) → RM h2 S2 → cF h h2 → Q (some (.int r)) h2) : xCt G l mX12_spell d [.ref 110, .int a, .int i] h 0 0 Q := by
  have hC := hR.1
  refine xCt_of (by decide) (Nat.le_of_ble_eq_true rfl) ?_
  refine x_iload_n (i := 1) dX12_spell_0 rfl rfl rfl ?_
  refine x_callS0 (As := [_]) (d2 := d - 1) dX12_spell_1 rfl kX12_165 okX12_isSlot (by omega) rfl rfl (Nat.le_of_ble_eq_true rfl) (m_isSlot (by omega) (fun z => ?_) (fun x hx ex qx => ?_))
  · refine x_if_eq_t (tgt := 12) dX12_spell_4 rfl nI_0 ?_
    refine x_iconst dX12_spell_12 rfl iC_m1 ?_
    refine x_ireturn dX12_spell_13 rfl rfl ?_
    exact K _ _ _ (by simp only [sp_spell, z]) hR (cF.rf hC)
  subst ex
  refine x_if_eq_f (tgt := 12) dX12_spell_4 rfl rfl nb1 ?_
  refine x_iload_n (i := 2) dX12_spell_7 rfl rfl rfl ?_
  refine x_iconst dX12_spell_8 rfl iC_m1 ?_
  refine x_ic_ge (tgt := 14) dX12_spell_9 rfl rfl (fun c9 => ?_) (fun c9 => ?_)
  rotate_left
  · refine x_iconst dX12_spell_12 rfl iC_m1 ?_
    refine x_ireturn dX12_spell_13 rfl rfl ?_
    exact K _ _ _ (by simp only [sp_spell, qx]; exact if_pos (Int32.not_le.mp c9)) hR (cF.rf hC)
  have i1 : ¬ i < -1 := Int32.not_lt.mpr c9
  have tl := tx_len (S.1 x)
  refine x_aload_n (i := 0) dX12_spell_14 rfl rfl rfl ?_
  refine x_iload_n (i := 1) dX12_spell_15 rfl rfl rfl ?_
  refine x_callV0 (ci := 12) (b := 110) (As := [_]) (d2 := d - 1) dX12_spell_16 rfl kX12_334 okX12_writesAll (hC.o rfl) (fun q hq => by cases hq; rfl) (by omega) rfl rfl (Nat.le_of_ble_eq_true rfl) (m_wrA (by omega) hR hx (fun h2 w2 c2 => ?_))
  obtain ⟨r2, f30, t2⟩ := w2
  have hC := r2.1
  have v9 := hC.v (a := 129) rfl
  have en : sp_spell S (nI x) i = if i = -1 then (nI (tx (S.1 x)).length, S) else if i < nI (tx (S.1 x)).length then (nI ((tx (S.1 x)).getD i.toInt.toNat 0), S) else (-1, S) := by simp only [sp_spell, qx]; exact if_neg i1
  generalize tx (S.1 x) = T at *
  refine x_iload_n (i := 2) dX12_spell_19 rfl rfl rfl ?_
  refine x_iconst dX12_spell_20 rfl iC_m1 ?_
  refine x_ic_ne (tgt := 31) dX12_spell_21 rfl rfl (fun c21 => ?_) (fun c21 => ?_)
  rotate_left
  · have e1 : i = -1 := by
      first
      | exact c21
      | exact Classical.byContradiction (fun z => c21 z)
    refine x_aload_n (i := 0) dX12_spell_24 rfl rfl rfl ?_
    refine x_getM (a := 110) dX12_spell_25 rfl fX12_325 hC rfl f30 ?_
    refine x_goto (tgt := 49) dX12_spell_28 rfl ?_
    refine x_ireturn dX12_spell_49 rfl rfl ?_
    exact K _ _ _ (by rw [en, if_pos e1]) r2 c2
  have ne1 : ¬ i = -1 := c21
  refine x_iload_n (i := 2) dX12_spell_31 rfl rfl rfl ?_
  refine x_aload_n (i := 0) dX12_spell_32 rfl rfl rfl ?_
  refine x_getM (a := 110) dX12_spell_33 rfl fX12_325 hC rfl f30 ?_
  refine x_ic_ge (tgt := 48) dX12_spell_36 rfl rfl (fun c36 => ?_) (fun c36 => ?_)
  · refine x_iconst dX12_spell_48 rfl iC_m1 ?_
    refine x_ireturn dX12_spell_49 rfl rfl ?_
    exact K _ _ _ (by rw [en, if_neg ne1, if_neg (Int32.not_lt.mpr c36)]) r2 c2
  · have lt : i < nI T.length := Int32.not_le.mp c36
    have q1 := Int32.lt_iff_toInt_lt.mp lt
    rw [nI_toInt (by omega)] at q1
    have q2 := Int32.le_iff_toInt_le.mp (Int32.not_lt.mp i1)
    have em : (-1 : Int32).toInt = -1 := rfl
    have q3 : i.toInt ≠ -1 := fun z => ne1 (Int32.toInt_inj.mp (by rw [z, em]))
    obtain ⟨k, hk⟩ : ∃ k : Nat, i.toInt = k := ⟨i.toInt.toNat, by omega⟩
    have ei : i = nI k := Int32.toInt_inj.mp (by rw [nI_toInt (by omega)]; exact hk)
    have ek : i.toInt.toNat = k := by omega
    rw [ek] at en
    rw [ei] at en ne1 lt ⊢
    refine x_aload_n (i := 0) dX12_spell_39 rfl rfl rfl ?_
    refine x_getC dX12_spell_40 rfl fX12_74 hC rfl F_110_29 ?_
    refine x_iload_n (i := 2) dX12_spell_43 rfl rfl rfl ?_
    refine x_iald dX12_spell_44 rfl v9 rfl (by omega) (by decide) ?_
    rw [t2 k (by omega)]
    refine x_goto (tgt := 49) dX12_spell_45 rfl ?_
    refine x_ireturn dX12_spell_49 rfl rfl ?_
    exact K _ _ _ (by rw [ei]; rw [en, if_neg ne1, if_pos lt]) r2 c2
end MOD

