/-! EightParts: the tape and what is kept -/
theorem b8 (x : Int32) : x.toInt8.toInt32 &&& nI 255 = x &&& nI 255 := by
  rw [pk_and _ (m := nI 255) 8 (by decide), pk_and _ (m := nI 255) 8 (by decide)]
  congr 1
  have e : x.toInt8.toInt32.toBitVec = (x.toBitVec.signExtend 8).signExtend 32 := rfl
  rw [e, BitVec.signExtend_eq_setWidth_of_le x.toBitVec (show 8 ≤ 32 by decide), BitVec.toNat_signExtend, BitVec.toNat_setWidth, BitVec.toNat_setWidth]
  have h1 : x.toBitVec.toNat < 2 ^ 32 := x.toBitVec.isLt
  split <;> omega
theorem tB_and (w : Int32) (s : Nat) : tB w s &&& nI 255 = (w >>> (nI s &&& 31)) &&& nI 255 := by
  unfold tB
  rw [b8, b8]
theorem zApp_at (g : Nat → Int32) (n : Nat) (w : Int32) (j : Nat) : zApp g n w j = if n ≤ j ∧ j < n + 4 then tB w (24 - 8 * (j - n)) else g j := by
  unfold zApp upd
  by_cases e3 : j = n + 3
  · rw [if_pos e3, if_pos (by omega), show 24 - 8 * (j - n) = 0 by omega]
  rw [if_neg e3]
  by_cases e2 : j = n + 2
  · rw [if_pos e2, if_pos (by omega), show 24 - 8 * (j - n) = 8 by omega]
  rw [if_neg e2]
  by_cases e1 : j = n + 1
  · rw [if_pos e1, if_pos (by omega), show 24 - 8 * (j - n) = 16 by omega]
  rw [if_neg e1]
  by_cases e0 : j = n
  · rw [if_pos e0, if_pos (by omega), show 24 - 8 * (j - n) = 24 by omega]
  rw [if_neg e0, if_neg (by omega)]
def w5 (a b c d e : Int32) : Nat → Int32 := fun k => match k with
  | 0 => a
  | 1 => b
  | 2 => c
  | 3 => d
  | _ => e
/-- a tape with twenty bytes more -/
def fdT (t : tpT) (w : Nat → Int32) : tpT := (t.1 + 20, fun j => if t.1 ≤ j ∧ j < t.1 + 20 then (w ((j - t.1) / 4) >>> (nI (24 - 8 * ((j - t.1) % 4)) &&& 31)) &&& nI 255 else t.2 j)
def sTp (S : St) (t : tpT) : St := (S.1, S.2.1, t, S.2.2.2)
def sp_feed (S : St) (a b c d e : Int32) : Int32 × St := if S.2.2.1.1 + 20 ≤ 200 then (nI (S.2.2.1.1 + 20), sTp S (fdT S.2.2.1 (w5 a b c d e))) else (-1, S)
def sp_back (S : St) (n : Int32) : Int32 × St := match eB 0 S.2.2.1.1 n with
  | none => (-1, S)
  | some k => (nI (S.2.2.1.1 - k), sTp S (S.2.2.1.1 - k, S.2.2.1.2))
def sp_keep (S : St) : Int32 × St := if S.2.2.2.1 < 6 then (nI (S.2.2.2.1 + 1), (S.1, S.2.1, S.2.2.1, S.2.2.2.1 + 1, fun k => if k = S.2.2.2.1 then (S.1, S.2.1) else S.2.2.2.2 k)) else (-1, S)
def sp_restore (S : St) : Int32 × St := if S.2.2.2.1 = 0 then (-1, S) else (nI (S.2.2.2.1 - 1), ((S.2.2.2.2 (S.2.2.2.1 - 1)).1, (S.2.2.2.2 (S.2.2.2.1 - 1)).2, S.2.2.1, S.2.2.2.1 - 1, S.2.2.2.2))
section PUB
variable {G : xG} {l : Launch} {d : Nat} {h : xH} {Q : Option Value → xH → Prop} {b : Bool} {S : St}
theorem RC.tape {b : Bool} {h h2 : xH} {S : St} {t : tpT} (hR : RC b h S) (hC : Cs h2) (hS : xSm [57, 56] h h2) (hT : tpR h2 t) : RC b h2 (sTp S t) ∧ mF h h2 := by
  obtain ⟨r1, ⟨⟨s1, s2⟩, s3, s4, s7, s8, s9⟩, r3⟩ := hR
  have k : ∀ a, a ≠ 56 → a ≠ 57 → h2.1 a = h.1 a := fun a q1 q2 => hS.2 a (by simp; omega)
  have i102 : iv h2 102 = iv h 102 := by unfold iv; rw [k 102 (by decide) (by decide)]
  have i103 : iv h2 103 = iv h 103 := by unfold iv; rw [k 103 (by decide) (by decide)]
  refine ⟨⟨hC, ⟨⟨s1, by unfold hOrd; rw [k 14 (by decide) (by decide)]; exact s2⟩, fun j hj => ?_, hT, s7, by unfold hKp; rw [k 101 (by decide) (by decide)]; exact s8, by rw [i102, i103]; exact s9⟩, r3.keep r1.1 (by rw [hS.1]; exact Nat.le_refl _) (fun a _ ha => k a (fun z => ha (by unfold riN; omega)) (fun z => ha (by unfold riN; omega)))⟩, ⟨fun a a1 a2 => k a (by omega) (by omega), by rw [hS.1]; exact Nat.le_refl _, by rw [hS.1]; omega⟩⟩
  have : iv h2 (2 + j) = iv h (2 + j) := by unfold iv; rw [k (2 + j) (by omega) (by omega)]
  rw [this]
  exact s3 j hj
theorem p_feed {a1 a2 a3 a4 a5 : Int32} (hd : 10 ≤ d) (hR : RC b h S) (K : ∀ r S2 h2, sp_feed S a1 a2 a3 a4 a5 = (r, S2) → RC b h2 S2 → mF h h2 → Q (some (.int r)) h2) : xCt G l mX11_feed d [.ref 0, .int a1, .int a2, .int a3, .int a4, .int a5] h 0 0 Q := by
  have hC := hR.1
  obtain ⟨t1, t2, t3⟩ := hR.2.1.2.2.1
  refine xCt_of (by decide) (Nat.le_of_ble_eq_true rfl) ?_
  refine x_aload_n (i := 0) dX11_feed_0 rfl rfl rfl ?_
  refine x_getC dX11_feed_1 rfl fX11_74 hC rfl F_0_8 ?_
  refine x_callV0 (ci := 8) (b := 56) (As := []) (d2 := d - 1) dX11_feed_4 rfl kX11_218 okX8_hasRoom (hC.o rfl) (fun q hq => by cases hq; rfl) (by omega) rfl rfl (Nat.le_of_ble_eq_true rfl) (c_hasRoom hC t2 t1 (fun z => ?_) (fun z => ?_))
  rotate_left
  · refine x_if_ne_f (tgt := 12) dX11_feed_7 rfl rfl nI_0 ?_
    refine x_iconst dX11_feed_10 rfl iC_m1 ?_
    refine x_ireturn dX11_feed_11 rfl rfl ?_
    exact K _ _ _ (if_neg z) hR mF.rf
  refine x_if_ne_t (tgt := 12) dX11_feed_7 rfl nb1 ?_
  refine x_aload_n (i := 0) dX11_feed_12 rfl rfl rfl ?_
  refine x_getC dX11_feed_13 rfl fX11_74 hC rfl F_0_8 ?_
  refine x_iload_n (i := 1) dX11_feed_16 rfl rfl rfl ?_
  refine x_callV0 (ci := 8) (b := 56) (As := [_]) (d2 := d - 1) dX11_feed_17 rfl kX11_222 okX8_append (hC.o rfl) (fun q hq => by cases hq; rfl) (by omega) rfl rfl (Nat.le_of_ble_eq_true rfl) (c_append hC t2 (by omega) (fun h1 hC1 hS1 n1 e1 => ?_))
  have hC := hC1
  refine x_aload_n (i := 0) dX11_feed_20 rfl rfl rfl ?_
  refine x_getC dX11_feed_21 rfl fX11_74 hC rfl F_0_8 ?_
  refine x_iload_n (i := 2) dX11_feed_24 rfl rfl rfl ?_
  refine x_callV0 (ci := 8) (b := 56) (As := [_]) (d2 := d - 1) dX11_feed_25 rfl kX11_222 okX8_append (hC.o rfl) (fun q hq => by cases hq; rfl) (by omega) rfl rfl (Nat.le_of_ble_eq_true rfl) (c_append hC n1 (by omega) (fun h2 hC2 hS2 n2 e2 => ?_))
  have hC := hC2
  refine x_aload_n (i := 0) dX11_feed_28 rfl rfl rfl ?_
  refine x_getC dX11_feed_29 rfl fX11_74 hC rfl F_0_8 ?_
  refine x_iload_n (i := 3) dX11_feed_32 rfl rfl rfl ?_
  refine x_callV0 (ci := 8) (b := 56) (As := [_]) (d2 := d - 1) dX11_feed_33 rfl kX11_222 okX8_append (hC.o rfl) (fun q hq => by cases hq; rfl) (by omega) rfl rfl (Nat.le_of_ble_eq_true rfl) (c_append hC n2 (by omega) (fun h3 hC3 hS3 n3 e3 => ?_))
  have hC := hC3
  refine x_aload_n (i := 0) dX11_feed_36 rfl rfl rfl ?_
  refine x_getC dX11_feed_37 rfl fX11_74 hC rfl F_0_8 ?_
  refine x_iload dX11_feed_40 rfl rfl ?_
  refine x_callV0 (ci := 8) (b := 56) (As := [_]) (d2 := d - 1) dX11_feed_42 rfl kX11_222 okX8_append (hC.o rfl) (fun q hq => by cases hq; rfl) (by omega) rfl rfl (Nat.le_of_ble_eq_true rfl) (c_append hC n3 (by omega) (fun h4 hC4 hS4 n4 e4 => ?_))
  have hC := hC4
  refine x_aload_n (i := 0) dX11_feed_45 rfl rfl rfl ?_
  refine x_getC dX11_feed_46 rfl fX11_74 hC rfl F_0_8 ?_
  refine x_iload dX11_feed_49 rfl rfl ?_
  refine x_callV0 (ci := 8) (b := 56) (As := [_]) (d2 := d - 1) dX11_feed_51 rfl kX11_222 okX8_append (hC.o rfl) (fun q hq => by cases hq; rfl) (by omega) rfl rfl (Nat.le_of_ble_eq_true rfl) (c_append hC n4 (by omega) (fun h5 hC5 hS5 n5 e5 => ?_))
  have hC := hC5
  have hS := ((((hS1.tr hS2).tr hS3).tr hS4).tr hS5).sub (T := [57, 56]) (by simp)
  refine x_aload_n (i := 0) dX11_feed_54 rfl rfl rfl ?_
  refine x_getC dX11_feed_55 rfl fX11_74 hC rfl F_0_8 ?_
  refine x_getM (a := 56) dX11_feed_58 rfl fX11_226 hC rfl n5 ?_
  refine x_ireturn dX11_feed_61 rfl rfl ?_
  have hT : tpR h5 (fdT S.2.2.1 (w5 a1 a2 a3 a4 a5)) := by
    refine ⟨by show S.2.2.1.1 + 20 ≤ 200; omega, n5, fun j hj => ?_⟩
    have hj' : j < S.2.2.1.1 + 20 := hj
    show _ = if S.2.2.1.1 ≤ j ∧ j < S.2.2.1.1 + 20 then (w5 a1 a2 a3 a4 a5 ((j - S.2.2.1.1) / 4) >>> (nI (24 - 8 * ((j - S.2.2.1.1) % 4)) &&& 31)) &&& nI 255 else S.2.2.1.2 j
    rw [e5, e4, e3, e2, e1]
    simp only [zApp_at]
    generalize S.2.2.1.1 = n at *
    by_cases q0 : n ≤ j
    · rw [if_pos (c := n ≤ j ∧ j < n + 20) ⟨q0, hj'⟩]
      by_cases q5 : n + 16 ≤ j
      · rw [if_pos (by omega), tB_and, show (j - n) / 4 = 4 by omega, show (j - n) % 4 = j - (n + 4 + 4 + 4 + 4) by omega]
        rfl
      rw [if_neg (by omega)]
      by_cases q4 : n + 12 ≤ j
      · rw [if_pos (by omega), tB_and, show (j - n) / 4 = 3 by omega, show (j - n) % 4 = j - (n + 4 + 4 + 4) by omega]
        rfl
      rw [if_neg (by omega)]
      by_cases q3 : n + 8 ≤ j
      · rw [if_pos (by omega), tB_and, show (j - n) / 4 = 2 by omega, show (j - n) % 4 = j - (n + 4 + 4) by omega]
        rfl
      rw [if_neg (by omega)]
      by_cases q2 : n + 4 ≤ j
      · rw [if_pos (by omega), tB_and, show (j - n) / 4 = 1 by omega, show (j - n) % 4 = j - (n + 4) by omega]
        rfl
      rw [if_neg (by omega), if_pos (by omega), tB_and, show (j - n) / 4 = 0 by omega, show (j - n) % 4 = j - n by omega]
      rfl
    · rw [if_neg (by omega), if_neg (by omega), if_neg (by omega), if_neg (by omega), if_neg (by omega), if_neg (by omega)]
      exact t3 j (by omega)
  obtain ⟨k1, k2⟩ := hR.tape hC5 hS hT
  exact K _ _ _ (if_pos z) k1 k2
theorem p_back {n : Int32} (hd : 10 ≤ d) (hR : RC b h S) (K : ∀ r S2 h2, sp_back S n = (r, S2) → RC b h2 S2 → mF h h2 → Q (some (.int r)) h2) : xCt G l mX11_back d [.ref 0, .int n] h 0 0 Q := by
  have hC := hR.1
  obtain ⟨t1, t2, t3⟩ := hR.2.1.2.2.1
  refine xCt_of (by decide) (Nat.le_of_ble_eq_true rfl) ?_
  refine x_iload_n (i := 1) dX11_back_0 rfl rfl rfl ?_
  refine x_if_lt (tgt := 15) dX11_back_1 rfl rfl (fun c1 => ?_) (fun c1 => ?_)
  · refine x_iconst dX11_back_15 rfl iC_m1 ?_
    refine x_ireturn dX11_back_16 rfl rfl ?_
    exact K _ _ _ (by unfold sp_back; rw [eB_lo (lo := 0) (by decide) c1]) hR mF.rf
  refine x_iload_n (i := 1) dX11_back_4 rfl rfl rfl ?_
  refine x_aload_n (i := 0) dX11_back_5 rfl rfl rfl ?_
  refine x_getC dX11_back_6 rfl fX11_74 hC rfl F_0_8 ?_
  refine x_getM (a := 56) dX11_back_9 rfl fX11_226 hC rfl t2 ?_
  refine x_ic_le (tgt := 17) dX11_back_12 rfl rfl (fun c12 => ?_) (fun c12 => ?_)
  rotate_left
  · refine x_iconst dX11_back_15 rfl iC_m1 ?_
    refine x_ireturn dX11_back_16 rfl rfl ?_
    exact K _ _ _ (by unfold sp_back; rw [eB_hi (by omega) (Int32.not_le.mp c12)]) hR mF.rf
  obtain ⟨m, -, m2, em, qm⟩ := eB_in (lo := 0) (hi := S.2.2.1.1) (by decide) (by omega) c1 (Int32.not_lt.mpr c12)
  subst em
  refine x_aload_n (i := 0) dX11_back_17 rfl rfl rfl ?_
  refine x_getC dX11_back_18 rfl fX11_74 hC rfl F_0_8 ?_
  refine x_dup dX11_back_21 rfl rfl ?_
  refine x_getM (a := 56) dX11_back_22 rfl fX11_226 hC rfl t2 ?_
  refine x_iload_n (i := 1) dX11_back_25 rfl rfl rfl ?_
  refine x_isub dX11_back_26 rfl ?_
  rw [show nI S.2.2.1.1 - nI m = nI (S.2.2.1.1 - m) from pk_sub m2]
  have hC2 := hC.setF (ci := 8) (a := 56) (kf := 1) (v := .int (nI (S.2.2.1.1 - m))) rfl NF_56_1 (by decide)
  have n2 : hTl (hs h 56 (108, 0, updV (h.1 56).2.2 1 (.int (nI (S.2.2.1.1 - m))))) (S.2.2.1.1 - m) := fv_eq
  refine x_putC (a := 56) dX11_back_27 rfl fX11_226 (fun q hq => by cases hq; rfl) hC rfl ⟨rfl, rfl⟩ ?_
  have hC := hC2
  refine x_aload_n (i := 0) dX11_back_30 rfl rfl rfl ?_
  refine x_getC dX11_back_31 rfl fX11_74 hC rfl F_0_8 ?_
  refine x_getM (a := 56) dX11_back_34 rfl fX11_226 hC rfl n2 ?_
  refine x_ireturn dX11_back_37 rfl rfl ?_
  obtain ⟨k1, k2⟩ := hR.tape (t := (S.2.2.1.1 - m, S.2.2.1.2)) hC2 (xSm.hs1.sub (by simp)) ⟨by show S.2.2.1.1 - m ≤ 200; omega, n2, fun j hj => by rw [iv_n (by decide)]; exact t3 j (by have hj' : j < S.2.2.1.1 - m := hj; omega)⟩
  exact K _ _ _ (by unfold sp_back; rw [qm]) k1 k2
theorem p_keep (hd : 10 ≤ d) (hR : RC b h S) (K : ∀ r S2 h2, sp_keep S = (r, S2) → RC b h2 S2 → mF h h2 → Q (some (.int r)) h2) : xCt G l mX11_keep d [.ref 0] h 0 0 Q := by
  have hC := hR.1
  have hR0 := hR
  have ho := hR.o.2
  obtain ⟨r1, ⟨⟨s1, s2⟩, s3, s4, s7, s8, s9⟩, r3⟩ := hR
  refine xCt_of (by decide) (Nat.le_of_ble_eq_true rfl) ?_
  refine x_aload_n (i := 0) dX11_keep_0 rfl rfl rfl ?_
  refine x_getC dX11_keep_1 rfl fX11_90 hC rfl F_0_10 ?_
  refine x_aload_n (i := 0) dX11_keep_4 rfl rfl rfl ?_
  refine x_getC dX11_keep_5 rfl fX11_11 hC rfl F_0_0 ?_
  refine x_aload_n (i := 0) dX11_keep_8 rfl rfl rfl ?_
  refine x_getC dX11_keep_9 rfl fX11_24 hC rfl F_0_2 ?_
  refine x_getM (a := 14) dX11_keep_12 rfl fX11_140 hC rfl ho ?_
  refine x_callV0 (ci := 1) (b := 101) (As := [_, _]) (d2 := d - 1) dX11_keep_15 rfl kX11_349 okX1_push (hC.o rfl) (fun q hq => by cases hq; rfl) (by omega) rfl rfl (Nat.le_of_ble_eq_true rfl) (c_push (by omega) hC s8 s7 (fun z h2 hC2 hS n2 e1 e2 => ?_) (fun z => ?_))
  rotate_left
  · refine x_if_eq_t (tgt := 31) dX11_keep_18 rfl nI_0 ?_
    refine x_iconst dX11_keep_31 rfl iC_m1 ?_
    refine x_ireturn dX11_keep_32 rfl rfl ?_
    exact K _ _ _ (if_neg (by omega)) hR0 mF.rf
  have hC := hC2
  refine x_if_eq_f (tgt := 31) dX11_keep_18 rfl rfl nb1 ?_
  refine x_aload_n (i := 0) dX11_keep_21 rfl rfl rfl ?_
  refine x_getC dX11_keep_22 rfl fX11_90 hC rfl F_0_10 ?_
  refine x_getM (a := 101) dX11_keep_25 rfl fX11_352 hC rfl n2 ?_
  refine x_goto (tgt := 32) dX11_keep_28 rfl ?_
  refine x_ireturn dX11_keep_32 rfl rfl ?_
  have k : ∀ a, a ≠ 101 → a ≠ 102 → a ≠ 103 → h2.1 a = h.1 a := fun a q1 q2 q3 => hS.2 a (by simp; omega)
  refine K _ _ _ (if_pos z) ⟨hC2, ⟨⟨s1, by unfold hOrd; rw [k 14 (by decide) (by decide) (by decide)]; exact s2⟩, fun j hj => ?_, ⟨s4.1, by unfold hTl; rw [k 56 (by decide) (by decide) (by decide)]; exact s4.2.1, ?_⟩, by show S.2.2.2.1 + 1 ≤ 6; omega, n2, fun q hq => ?_⟩, r3.keep r1.1 (by rw [hS.1]; exact Nat.le_refl _) (fun a _ ha => k a (fun z => ha (by unfold riN; omega)) (fun z => ha (by unfold riN; omega)) (fun z => ha (by unfold riN; omega)))⟩ ⟨fun a a1 a2 => k a (by omega) (by omega) (by omega), by rw [hS.1]; exact Nat.le_refl _, by rw [hS.1]; omega⟩
  · have : iv h2 (2 + j) = iv h (2 + j) := by unfold iv; rw [k (2 + j) (by omega) (by omega) (by omega)]
    rw [this]
    exact s3 j hj
  · have : iv h2 57 = iv h 57 := by unfold iv; rw [k 57 (by decide) (by decide) (by decide)]
    rw [this]
    exact s4.2.2
  · have hq' : q < S.2.2.2.1 + 1 := hq
    rw [e1, e2]
    show upd (iv h 102) S.2.2.2.1 (nI S.2.1) q = nI (if q = S.2.2.2.1 then (S.1, S.2.1) else S.2.2.2.2 q).2 ∧ (if q = S.2.2.2.1 then (S.1, S.2.1) else S.2.2.2.2 q).2 < 8 ∧ ∀ j, j < 8 → (∀ p, p < 8 → kpF (iv h 103) S.2.2.2.1 (fun s => iv h (2 + s)) 8 (64 * q + 8 * j + p) = (if q = S.2.2.2.1 then (S.1, S.2.1) else S.2.2.2.2 q).1 j p) ∧ zBd ((if q = S.2.2.2.1 then (S.1, S.2.1) else S.2.2.2.2 q).1 j) ∧ c8 ((if q = S.2.2.2.1 then (S.1, S.2.1) else S.2.2.2.2 q).1 j) = (if q = S.2.2.2.1 then (S.1, S.2.1) else S.2.2.2.2 q).1 j
    unfold upd kpF
    by_cases e : q = S.2.2.2.1
    · simp only [if_pos e]
      refine ⟨trivial, s1, fun j hj => ⟨fun p hp => ?_, (s3 j hj).2, by rw [← (s3 j hj).1, c8_c8]⟩⟩
      rw [if_pos (by omega), ← (s3 j hj).1, c8_lt hp, show (64 * q + 8 * j + p - 64 * S.2.2.2.1) / 8 = j by omega, show (64 * q + 8 * j + p - 64 * S.2.2.2.1) % 8 = p by omega]
    · simp only [if_neg e]
      obtain ⟨a1, a2, a3⟩ := s9 q (by omega)
      refine ⟨a1, a2, fun j hj => ⟨fun p hp => ?_, (a3 j hj).2⟩⟩
      rw [if_neg (by omega)]
      exact (a3 j hj).1 p hp
theorem p_restore (hd : 10 ≤ d) (hR : RC b h S) (K : ∀ r S2 h2, sp_restore S = (r, S2) → RC b h2 S2 → mF h h2 → Q (some (.int r)) h2) : xCt G l mX11_restore d [.ref 0] h 0 0 Q := by
  have hC := hR.1
  have hR0 := hR
  obtain ⟨r1, ⟨⟨s1, s2⟩, s3, s4, s7, s8, s9⟩, r3⟩ := hR
  refine xCt_of (by decide) (Nat.le_of_ble_eq_true rfl) ?_
  refine x_aload_n (i := 0) dX11_restore_0 rfl rfl rfl ?_
  refine x_getC dX11_restore_1 rfl fX11_90 hC rfl F_0_10 ?_
  refine x_aload_n (i := 0) dX11_restore_4 rfl rfl rfl ?_
  refine x_getC dX11_restore_5 rfl fX11_11 hC rfl F_0_0 ?_
  refine x_callV0 (ci := 1) (b := 101) (As := [_]) (d2 := d - 1) dX11_restore_8 rfl kX11_355 okX1_pop (hC.o rfl) (fun q hq => by cases hq; rfl) (by omega) rfl rfl (Nat.le_of_ble_eq_true rfl) (c_pop (by omega) hC s8 s7 (fun m em h2 hC2 hS n2 e1 => ?_) (fun z => ?_))
  rotate_left
  · refine x_istore_n (i := 1) dX11_restore_11 rfl rfl (by decide) ?_
    refine x_iload_n (i := 1) dX11_restore_12 rfl rfl rfl ?_
    refine x_iconst dX11_restore_13 rfl iC_m1 ?_
    refine x_ic_ne_f (tgt := 19) dX11_restore_14 rfl rfl rfl ?_
    refine x_iconst dX11_restore_17 rfl iC_m1 ?_
    refine x_ireturn dX11_restore_18 rfl rfl ?_
    exact K _ _ _ (if_pos z) hR0 mF.rf
  obtain ⟨a1, a2, a3⟩ := s9 m (by omega)
  have hne : ¬ nI (S.2.2.2.2 m).2 = -1 := by
    have q : ∀ o, o < 8 → ¬ nI o = (-1 : Int32) := by decide
    exact q _ a2
  rw [a1]
  have hC := hC2
  have hC3 := hC.setF (ci := 2) (a := 14) (kf := 0) (v := .int (nI (S.2.2.2.2 m).2)) rfl NF_14_0 (by decide)
  have n3 : hKp (hs h2 14 (102, 0, updV (h2.1 14).2.2 0 (.int (nI (S.2.2.2.2 m).2)))) m := (fv_n (by decide)).trans n2
  refine x_istore_n (i := 1) dX11_restore_11 rfl rfl (by decide) ?_
  refine x_iload_n (i := 1) dX11_restore_12 rfl rfl rfl ?_
  refine x_iconst dX11_restore_13 rfl iC_m1 ?_
  refine x_ic_ne_t (tgt := 19) dX11_restore_14 rfl hne ?_
  refine x_aload_n (i := 0) dX11_restore_19 rfl rfl rfl ?_
  refine x_getC dX11_restore_20 rfl fX11_24 hC rfl F_0_2 ?_
  refine x_iload_n (i := 1) dX11_restore_23 rfl rfl rfl ?_
  refine x_putC (a := 14) dX11_restore_24 rfl fX11_140 (fun q hq => by cases hq; rfl) hC rfl ⟨rfl, rfl⟩ ?_
  have hC := hC3
  refine x_aload_n (i := 0) dX11_restore_27 rfl rfl rfl ?_
  refine x_getC dX11_restore_28 rfl fX11_90 hC rfl F_0_10 ?_
  refine x_getM (a := 101) dX11_restore_31 rfl fX11_352 hC rfl n3 ?_
  refine x_ireturn dX11_restore_34 rfl rfl ?_
  have k : ∀ a, a ∉ kpS → a ≠ 14 → (hs h2 14 (102, 0, updV (h2.1 14).2.2 0 (.int (nI (S.2.2.2.2 m).2)))).1 a = h.1 a := fun a q1 q2 => by rw [hs_n q2]; exact hS.2 a q1
  have i57 : iv (hs h2 14 (102, 0, updV (h2.1 14).2.2 0 (.int (nI (S.2.2.2.2 m).2)))) 57 = iv h 57 := by unfold iv; rw [k 57 (by decide) (by decide)]
  have i102 : iv (hs h2 14 (102, 0, updV (h2.1 14).2.2 0 (.int (nI (S.2.2.2.2 m).2)))) 102 = iv h 102 := by unfold iv; rw [k 102 (by decide) (by decide)]
  have i103 : iv (hs h2 14 (102, 0, updV (h2.1 14).2.2 0 (.int (nI (S.2.2.2.2 m).2)))) 103 = iv h 103 := by unfold iv; rw [k 103 (by decide) (by decide)]
  refine K (nI m) ((S.2.2.2.2 m).1, (S.2.2.2.2 m).2, S.2.2.1, m, S.2.2.2.2) _ (by unfold sp_restore; rw [if_neg (by omega), show S.2.2.2.1 - 1 = m by omega]) ⟨hC3, ⟨⟨a2, fv_eq⟩, fun j hj => ?_, ⟨s4.1, by unfold hTl; rw [k 56 (by decide) (by decide)]; exact s4.2.1, by rw [i57]; exact s4.2.2⟩, by show m ≤ 6; omega, n3, fun q hq => by rw [i102, i103]; exact s9 q (by have hq' : q < m := hq; omega)⟩, r3.keep r1.1 (by rw [show (hs h2 14 (102, 0, updV (h2.1 14).2.2 0 (.int (nI (S.2.2.2.2 m).2)))).2 = h2.2 from rfl, hS.1]; exact Nat.le_refl _) (fun a _ ha => k a (fun z => ha (by unfold riN; simp at z; omega)) (fun z => ha (by unfold riN; omega)))⟩ ⟨fun a a1 a2 => k a (by simp; omega) (by omega), by rw [show (hs h2 14 (102, 0, updV (h2.1 14).2.2 0 (.int (nI (S.2.2.2.2 m).2)))).2 = h2.2 from rfl, hS.1]; exact Nat.le_refl _, by rw [show (hs h2 14 (102, 0, updV (h2.1 14).2.2 0 (.int (nI (S.2.2.2.2 m).2)))).2 = h2.2 from rfl, hS.1]; omega⟩
  obtain ⟨b1, b2, b3⟩ := a3 j hj
  rw [iv_n (by omega), e1 j hj]
  refine ⟨?_, b2⟩
  show c8 (fun p => iv h 103 (64 * m + 8 * j + p)) = (S.2.2.2.2 m).1 j
  rw [← b3]
  exact c8_eq.mpr b1
end PUB

