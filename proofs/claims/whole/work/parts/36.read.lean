/-! EightParts$Reader: what is ahead; numbers -/
def rdP (a : Nat) : Prop := a = 11 ∨ a = 58 ∨ (60 ≤ a ∧ a ≤ 100 ∧ a ≠ 73 ∧ a ≠ 87)
/-- a reader: where it is, its fault, whether all could be, its rows -/
abbrev zRd : Type := Nat × Int32 × Int32 × (Nat → Nat → Int32)
def rdH (h0 h : xH) (s : zRd) : Prop := Cs h ∧ xSq rdP h0 h ∧ (h.1 58).2.2 6 = .int (nI s.1) ∧ (h.1 58).2.2 7 = .int s.2.1 ∧ (h.1 58).2.2 8 = .int s.2.2.1 ∧ ∀ a, 60 ≤ a → a ≤ 100 → a ≠ 73 → a ≠ 87 → iv h a = s.2.2.2 a
theorem rdH.at {h0 h : xH} {s : zRd} (r : rdH h0 h s) (a : Nat) : rdH h0 (hs h 58 (106, 0, updV (h.1 58).2.2 6 (.int (nI a)))) (a, s.2) := by
  obtain ⟨r1, r2, r3, r4, r5, r6⟩ := r
  refine ⟨r1.setF (ci := 6) rfl NF_58_6 (by decide), r2.tr (xSm.hs1.sq (by intro b hb; simp at hb; unfold rdP; omega)), fv_eq, (fv_ne (by decide)).trans r4, (fv_ne (by decide)).trans r5, fun b b1 b2 b3 b4 => ?_⟩
  rw [iv_n (by omega)]
  exact r6 b b1 b2 b3 b4
theorem rdH.fault {h0 h : xH} {s : zRd} (r : rdH h0 h s) (f : Int32) : rdH h0 (hs h 58 (106, 0, updV (h.1 58).2.2 7 (.int f))) (s.1, f, s.2.2) := by
  obtain ⟨r1, r2, r3, r4, r5, r6⟩ := r
  refine ⟨r1.setF (ci := 6) rfl NF_58_7 (by decide), r2.tr (xSm.hs1.sq (by intro b hb; simp at hb; unfold rdP; omega)), (fv_ne (by decide)).trans r3, fv_eq, (fv_ne (by decide)).trans r5, fun b b1 b2 b3 b4 => ?_⟩
  rw [iv_n (by omega)]
  exact r6 b b1 b2 b3 b4
theorem rdH.can {h0 h : xH} {s : zRd} (r : rdH h0 h s) (f : Int32) : rdH h0 (hs h 58 (106, 0, updV (h.1 58).2.2 8 (.int f))) (s.1, s.2.1, f, s.2.2.2) := by
  obtain ⟨r1, r2, r3, r4, r5, r6⟩ := r
  refine ⟨r1.setF (ci := 6) rfl NF_58_8 (by decide), r2.tr (xSm.hs1.sq (by intro b hb; simp at hb; unfold rdP; omega)), (fv_ne (by decide)).trans r3, (fv_ne (by decide)).trans r4, fv_eq, fun b b1 b2 b3 b4 => ?_⟩
  rw [iv_n (by omega)]
  exact r6 b b1 b2 b3 b4
def rUpd (R : Nat → Nat → Int32) (a : Nat) (f : Nat → Int32) : Nat → Nat → Int32 := fun b => if b = a then f else R b
/-- a change of one of its rows -/
theorem rdH.row {h0 h h2 : xH} {s : zRd} {a : Nat} {f : Nat → Int32} (r : rdH h0 h s) (hC : Cs h2) (hS : xSm [11, a] h h2) (e : iv h2 a = f) (h1 : 60 ≤ a) (h3 : a ≤ 100) (h4 : a ≠ 73) (h5 : a ≠ 87) : rdH h0 h2 (s.1, s.2.1, s.2.2.1, rUpd s.2.2.2 a f) := by
  obtain ⟨r1, r2, r3, r4, r5, r6⟩ := r
  have e58 : h2.1 58 = h.1 58 := hS.2 58 (by simp; omega)
  refine ⟨hC, r2.tr (hS.sq (by intro b hb; simp at hb; unfold rdP; omega)), by rw [e58]; exact r3, by rw [e58]; exact r4, by rw [e58]; exact r5, fun b b1 b2 b3 b4 => ?_⟩
  show iv h2 b = if b = a then f else s.2.2.2 b
  by_cases q : b = a
  · rw [if_pos q, q]
    exact e
  · rw [if_neg q, hS.iv (by simp; omega)]
    exact r6 b b1 b2 b3 b4
/-- the tape as it is read -/
def tpB (h : xH) : Nat → Int32 := fun j => iv h 57 j &&& nI 255
def zBy (n : Nat) (tb : Nat → Int32) (a : Nat) : Int32 := if a < n then tb a else -1
def zSk (n : Nat) (tb : Nat → Int32) : Nat → Nat → Nat
  | 0, a => a
  | f + 1, a => if a < n ∧ tb a = nI 32 then zSk n tb f (a + 1) else a
def zAhd (n : Nat) (tb : Nat → Int32) (a : Nat) : Nat := zSk n tb (n - a) a
theorem zSk_le (n : Nat) (tb : Nat → Int32) : ∀ f a, a ≤ n → a ≤ zSk n tb f a ∧ zSk n tb f a ≤ n := by
  intro f
  induction f with
  | zero => exact fun a ha => ⟨Nat.le_refl _, ha⟩
  | succ f ih =>
    intro a ha
    rw [zSk]
    split
    · next q =>
      have := ih (a + 1) (by omega)
      omega
    · exact ⟨Nat.le_refl _, ha⟩
abbrev zDig (c : Int32) : Prop := nI 48 ≤ c ∧ c ≤ nI 57
section READ
variable {G : xG} {l : Launch} {d : Nat} {h : xH} {Q : Option Value → xH → Prop}
theorem c_isDigit {c : Int32} (Kt : zDig c → Q (some (.int (nI 1))) h) (Kf : ¬ zDig c → Q (some (.int (nI 0))) h) : xCt G l mX6_isDigit d [.int c] h 0 0 Q := by
  refine xCt_of (by decide) (Nat.le_of_ble_eq_true rfl) ?_
  refine x_iload_n (i := 0) dX6_isDigit_0 rfl rfl rfl ?_
  refine x_bipush dX6_isDigit_1 rfl bC_48 ?_
  refine x_ic_lt (tgt := 16) dX6_isDigit_3 rfl rfl (fun c3 => ?_) (fun c3 => ?_)
  · refine x_iconst dX6_isDigit_16 rfl iC_0 ?_
    refine x_ireturn dX6_isDigit_17 rfl rfl ?_
    exact Kf (fun q => Int32.not_lt.mpr q.1 c3)
  · refine x_iload_n (i := 0) dX6_isDigit_6 rfl rfl rfl ?_
    refine x_bipush dX6_isDigit_7 rfl bC_57 ?_
    refine x_ic_gt (tgt := 16) dX6_isDigit_9 rfl rfl (fun c9 => ?_) (fun c9 => ?_)
    · refine x_iconst dX6_isDigit_16 rfl iC_0 ?_
      refine x_ireturn dX6_isDigit_17 rfl rfl ?_
      exact Kf (fun q => Int32.not_lt.mpr q.2 c9)
    · refine x_iconst dX6_isDigit_12 rfl iC_1 ?_
      refine x_goto (tgt := 17) dX6_isDigit_13 rfl ?_
      refine x_ireturn dX6_isDigit_17 rfl rfl ?_
      exact Kt ⟨Int32.not_lt.mp c3, Int32.not_lt.mp c9⟩
noncomputable def zAnd (a b : Int32) : Int32 := if a = 0 then 0 else if b = 0 then 0 else 1
theorem c_note {h0 : xH} {s : zRd} {b : Int32} (hr : rdH h0 h s) (K : ∀ h2, rdH h0 h2 (s.1, s.2.1, zAnd s.2.2.1 b, s.2.2.2) → Q none h2) : xCt G l mX6_note d [.ref 58, .int b] h 0 0 Q := by
  have hC := hr.1
  have hcan := hr.2.2.2.2.1
  refine xCt_of (by decide) (Nat.le_of_ble_eq_true rfl) ?_
  refine x_aload_n (i := 0) dX6_note_0 rfl rfl rfl ?_
  refine x_aload_n (i := 0) dX6_note_1 rfl rfl rfl ?_
  refine x_getM (a := 58) dX6_note_2 rfl fX6_29 hC rfl hcan ?_
  refine x_if_eq (tgt := 16) dX6_note_5 rfl rfl (fun c5 => ?_) (fun c5 => ?_)
  · refine x_iconst dX6_note_16 rfl iC_0 ?_
    refine x_putC (a := 58) dX6_note_17 rfl fX6_29 (fun q hq => by cases hq; rfl) hC rfl ⟨rfl, rfl⟩ ?_
    refine x_return dX6_note_20 rfl ?_
    refine K _ ?_
    rw [zAnd, if_pos c5]
    exact hr.can 0
  · refine x_iload_n (i := 1) dX6_note_8 rfl rfl rfl ?_
    refine x_if_eq (tgt := 16) dX6_note_9 rfl rfl (fun c9 => ?_) (fun c9 => ?_)
    · refine x_iconst dX6_note_16 rfl iC_0 ?_
      refine x_putC (a := 58) dX6_note_17 rfl fX6_29 (fun q hq => by cases hq; rfl) hC rfl ⟨rfl, rfl⟩ ?_
      refine x_return dX6_note_20 rfl ?_
      refine K _ ?_
      rw [zAnd, if_neg c5, if_pos c9]
      exact hr.can 0
    · refine x_iconst dX6_note_12 rfl iC_1 ?_
      refine x_goto (tgt := 17) dX6_note_13 rfl ?_
      refine x_putC (a := 58) dX6_note_17 rfl fX6_29 (fun q hq => by cases hq; rfl) hC rfl ⟨rfl, rfl⟩ ?_
      refine x_return dX6_note_20 rfl ?_
      refine K _ ?_
      rw [zAnd, if_neg c5, if_neg c9]
      exact hr.can 1
theorem c_ahead {h0 : xH} {s : zRd} {n : Nat} (hd : 1 ≤ d) (hr : rdH h0 h s) (hn : hTl h0 n) (hn2 : n ≤ 200) (ha : s.1 ≤ n)
    (K : ∀ h2, rdH h0 h2 (zAhd n (tpB h0) s.1, s.2) → Q (some (.int (zBy n (tpB h0) (zAhd n (tpB h0) s.1)))) h2) : xCt G l mX6_ahead d [.ref 58] h 0 0 Q := by
  refine xCt_of (by decide) (Nat.le_of_ble_eq_true rfl) ?_
  have key := xloop (P := fun i => ∀ h1, rdH h0 h1 (s.1 + i, s.2) → zAhd n (tpB h0) s.1 = zSk n (tpB h0) (n - (s.1 + i)) (s.1 + i) → xWP G l mX6_ahead d (zM G Q) 0 0 0 (xls [(0, .ref 58)]) [] h1) (n - s.1) (by
    intro i hi ih h1 hr1 e
    have hC := hr1.1
    have hat : (h1.1 58).2.2 6 = .int (nI (s.1 + i)) := hr1.2.2.1
    have e56 : h1.1 56 = h0.1 56 := hr1.2.1.2 56 (by unfold rdP; omega)
    have e57 : iv h1 57 = iv h0 57 := hr1.2.1.iv (by unfold rdP; omega)
    have hn1 : hTl h1 n := by unfold hTl; rw [e56]; exact hn
    have fin : zAhd n (tpB h0) s.1 = s.1 + i → xWP G l mX6_ahead d (zM G Q) 0 0 43 (xls [(0, .ref 58)]) [] h1 := by
      intro ee
      rw [ee] at K
      refine x_aload_n (i := 0) dX6_ahead_43 rfl rfl rfl ?_
      refine x_getC dX6_ahead_44 rfl fX6_33 hC rfl F_58_0 ?_
      refine x_aload_n (i := 0) dX6_ahead_47 rfl rfl rfl ?_
      refine x_getM (a := 58) dX6_ahead_48 rfl fX6_22 hC rfl hat ?_
      refine x_callV0 (ci := 8) (b := 56) (As := [_]) (d2 := d - 1) dX6_ahead_51 rfl kX6_63 okX8_byteAt (hC.o rfl) (fun q hq => by cases hq; rfl) (by omega) rfl rfl (Nat.le_of_ble_eq_true rfl) (c_byteAt hC hn1 hn2 (by omega) (fun q => ?_) (fun q => ?_))
      · refine x_ireturn dX6_ahead_54 rfl rfl ?_
        have := K h1 hr1
        rw [zBy, if_pos q] at this
        unfold tpB at this
        rw [e57]
        exact this
      · refine x_ireturn dX6_ahead_54 rfl rfl ?_
        have := K h1 hr1
        rw [zBy, if_neg (by omega)] at this
        exact this
    refine x_aload_n (i := 0) dX6_ahead_0 rfl rfl rfl ?_
    refine x_getM (a := 58) dX6_ahead_1 rfl fX6_22 hC rfl hat ?_
    refine x_aload_n (i := 0) dX6_ahead_4 rfl rfl rfl ?_
    refine x_getC dX6_ahead_5 rfl fX6_33 hC rfl F_58_0 ?_
    refine x_getM (a := 56) dX6_ahead_8 rfl fX6_58 hC rfl hn1 ?_
    refine x_jc_ge (tgt := 43) dX6_ahead_11 rfl rfl (by omega) (by omega) (fun c11 => ?_) (fun c11 => ?_)
    · refine x_to (fin ?_) ⟨rfl, trivial⟩
      rw [e, show n - (s.1 + i) = 0 by omega]
      rfl
    · obtain ⟨f, hf⟩ : ∃ f, n - (s.1 + i) = f + 1 := ⟨n - (s.1 + i) - 1, by omega⟩
      rw [hf, zSk] at e
      refine x_aload_n (i := 0) dX6_ahead_14 rfl rfl rfl ?_
      refine x_getC dX6_ahead_15 rfl fX6_33 hC rfl F_58_0 ?_
      refine x_aload_n (i := 0) dX6_ahead_18 rfl rfl rfl ?_
      refine x_getM (a := 58) dX6_ahead_19 rfl fX6_22 hC rfl hat ?_
      refine x_callV0 (ci := 8) (b := 56) (As := [_]) (d2 := d - 1) dX6_ahead_22 rfl kX6_63 okX8_byteAt (hC.o rfl) (fun q hq => by cases hq; rfl) (by omega) rfl rfl (Nat.le_of_ble_eq_true rfl) (c_byteAt hC hn1 hn2 (by omega) (fun q => ?_) (fun q => ?_))
      · refine x_bipush dX6_ahead_25 rfl bC_32 ?_
        refine x_ic_ne (tgt := 43) dX6_ahead_27 rfl rfl (fun c27 => ?_) (fun c27 => ?_)
        · rw [if_neg (fun z => c27 (by have := z.2; unfold tpB at this; rw [e57]; exact this))] at e
          exact x_to (fin e) ⟨rfl, trivial⟩
        · rw [if_pos ⟨c11, by unfold tpB; rw [← e57]; exact c27⟩] at e
          refine x_aload_n (i := 0) dX6_ahead_30 rfl rfl rfl ?_
          refine x_dup dX6_ahead_31 rfl rfl ?_
          refine x_getM (a := 58) dX6_ahead_32 rfl fX6_22 hC rfl hat ?_
          refine x_iconst dX6_ahead_35 rfl iC_1 ?_
          refine x_iadd dX6_ahead_36 rfl ?_
          rw [show nI (s.1 + i) + nI 1 = nI (s.1 + (i + 1)) from nI_add _ 1]
          refine x_putC (a := 58) dX6_ahead_37 rfl fX6_22 (fun q hq => by cases hq; rfl) hC rfl ⟨rfl, rfl⟩ ?_
          refine x_goto (tgt := 0) dX6_ahead_40 rfl ?_
          refine x_to (ih (by omega) _ (hr1.at (s.1 + (i + 1))) ?_) ⟨rfl, trivial⟩
          rw [e, show n - (s.1 + (i + 1)) = f by omega]
          rfl
      · omega) 0 (Nat.zero_le _)
  exact x_to (key h hr rfl) ⟨rfl, trivial⟩
end READ

