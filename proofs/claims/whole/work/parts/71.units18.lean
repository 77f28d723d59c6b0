/-! EightParts$Units: gather -/
section UNITS
variable {G : xG} {l : Launch} {d : Nat} {h : xH} {Q : Option Value → xH → Prop} {r o : Nat} {rw0 : Nat → Nat} {mk : Nat → Option Nat} {T : Nat → Nat → Nat}
/-- a slot that is asked for holds a unit of the order -/
def gaOk (h : xH) (o : Nat) (bits : Int32) (j : Nat) : Prop := bitI bits j → zInn (iv h (2 + j)) (iv h (2 + j)) 8 = 4 ∧ ¬ zFindL o 1 (iv h (2 + j)) = -1
noncomputable def gaU (h : xH) (o : Nat) (bits : Int32) : Nat → mS := gaS (bitI bits) (fun j => fuN o (iv h (2 + j)))
/-- a state on the way -/
def gaH (h : xH) (o r : Nat) (b : Bool) (rw0 : Nat → Nat) (mk : Nat → Option Nat) (a : Bool) (s : mS) (h1 : xH) : Prop := Cs h1 ∧ uI h1 s ∧ (∀ j, j < s.1 → s.2 j < (zLst o 1).1) ∧ xGw [23, 28, 29, 30, 31, 35, 36, rw0 1] 1 h h1 ∧ h1.2 + kL a ≤ h.2 + 1 ∧ (∀ q, q ≠ 8 → (h1.1 31).2.2 q = (h.1 31).2.2 q) ∧ ∃ rw1 mk1, lsC h1 rw1 mk1 ∧ (a = true → mk1 1 = some o) ∧ ∀ m, m < 4 → (m ≠ 1 → mk1 m = mk m ∧ rw1 m = rw0 m) ∧ (rw1 m = rw0 m ∨ (rw1 m = h.2 ∧ m = 1 ∧ h1.2 = h.2 + 1))
theorem gaH.rw {h h1 : xH} {b a : Bool} {s : mS} (g : gaH h o r b rw0 mk a s h1) (h134 : 134 ≤ h.2) (hL : lsC h rw0 mk) (hne : ∀ m, m < 4 → rw0 m ≠ r) (hr : r < h.2) : ∀ rw1 : Nat → Nat, (∀ m, m < 4 → (rw1 m = rw0 m ∨ (rw1 m = h.2 ∧ m = 1 ∧ h1.2 = h.2 + 1))) → ∀ m, m < 4 → rw1 m ≠ r := by
  intro rw1 e m hm
  rcases e m hm with z | ⟨z, -⟩
  · rw [z]; exact hne m hm
  · omega
theorem c_gather {b : Bool} {bits : Int32} {s0 : mS} {X Y : Nat} (hd : 12 ≤ d) (hC : Cs h) (hm0 : h.2 < 800000) (ho : hOrd h o) (ho8 : o < 8) (hL : lsC h rw0 mk) (hP : uP b h r) (hI : uI h s0) (hne : b = true → ∀ m, m < 4 → rw0 m ≠ r) (hT : tblO o T) (hz : 16 ≤ (zLst o 1).1) (hbit : ∃ j, j < 8 ∧ bitI bits j)
    (hX : (∀ j, j < 8 → gaOk h o bits j) → kB b ≤ X ∧ nB b ≤ Y)
    (Kt : (∀ j, j < 8 → gaOk h o bits j) → ∀ h2 r2 rw1 mk1, uG h2 o r2 rw1 mk1 → uI h2 (clO T (zLst o 1).1 241 0 (gaU h o bits 8)) → (∀ j, j < (clO T (zLst o 1).1 241 0 (gaU h o bits 8)).1 → (clO T (zLst o 1).1 241 0 (gaU h o bits 8)).2 j < (zLst o 1).1) → xGw [11, 32, 33, 23, 28, 29, 30, 31, 35, 36, rw0 1, r] 2 h h2 → (b = true → r2 = r) → (b = false → h.2 ≤ r2) → (∀ m, m < 4 → (rw1 m = rw0 m ∨ h.2 ≤ rw1 m)) → (∀ q, q ≠ 4 → q ≠ 5 → q ≠ 8 → (h2.1 31).2.2 q = (h.1 31).2.2 q) → Q (some (.int (nI 1))) h2)
    (Kf : (¬ ∀ j, j < 8 → gaOk h o bits j) → ∀ h2 s2 rw1 mk1, Cs h2 → uI h2 s2 → lsC h2 rw1 mk1 → xGw [23, 28, 29, 30, 31, 35, 36, rw0 1] 1 h h2 → (∀ m, m < 4 → (rw1 m = rw0 m ∨ h.2 ≤ rw1 m)) → (∀ q, q ≠ 8 → (h2.1 31).2.2 q = (h.1 31).2.2 q) → Q (some (.int (nI 0))) h2) : xCt G l mX9_gather d [.ref 31, .ref 1, .int bits] h (1 + X) (240 + Y) Q := by
  have hsN : (zLst o 1).1 ≤ 240 := zLst_le o 1
  have h134 := hC.1
  have r1 : rw0 1 = 25 ∨ 134 ≤ rw0 1 := by
    rcases (hL.2 1 (by decide)).1 with ⟨a1, -⟩ | ⟨a1, -⟩
    · exact Or.inl a1
    · exact Or.inr a1
  refine xCt_of (by decide) (Nat.le_of_ble_eq_true rfl) ?_
  refine x_aload_n (i := 0) dX9_gather_0 rfl rfl rfl ?_
  obtain ⟨i1, i2, i3, i4⟩ := hI
  refine x_callV0 (ci := 9) (b := 31) (As := []) (d2 := d - 1) dX9_gather_1 rfl kX9_61 okX9_forgetMembers (hC.o rfl) (fun q hq => by cases hq; rfl) (by omega) rfl rfl (Nat.le_of_ble_eq_true rfl) (c_forget (mN := s0.2) hC i1 i2 i3 (fun u hu hn => ?_) (fun h0 hC0 hS0 g0 f0 z0 => ?_))
  · rcases i4 u hu with ⟨-, j, q1, q2⟩ | ⟨q1, -⟩
    · exact absurd q2 (hn j q1)
    · exact q1
  · refine x_iconst dX9_gather_4 rfl iC_0 ?_
    refine x_istore_n (i := 3) dX9_gather_5 rfl rfl (by decide) ?_
    have hI0 : uI h0 (gaU h o bits 0) := ⟨g0, by show 0 ≤ 240; omega, fun j hj => absurd hj (Nat.not_lt_zero j), fun u hu => Or.inr ⟨z0 u hu, fun ⟨j, hj, _⟩ => absurd hj (Nat.not_lt_zero j)⟩⟩
    have L0 : lsC h0 rw0 mk := hL.keep h134 (by rw [hS0.1]; exact Nat.le_refl _) (hS0.2 23 (by decide)) (hS0.2 28 (by decide)) (hS0.2 29 (by decide)) (fun m hm q1 q2 => hS0.2 (rw0 m) (by simp; omega))
    have start : gaH h o r b rw0 mk false (gaU h o bits 0) h0 := ⟨hC0, hI0, fun j hj => absurd hj (Nat.not_lt_zero j), (hS0.gw).sub (by simp) (by omega), by rw [hS0.1]; exact Nat.le_refl _, f0, rw0, mk, L0, (fun e => by cases e), fun m hm => ⟨fun _ => ⟨rfl, rfl⟩, Or.inl rfl⟩⟩
    have key := xloop (P := fun j => ∀ a h1, gaH h o r b rw0 mk a (gaU h o bits j) h1 → (a = true ∨ ∀ i, i < j → ¬ bitI bits i) → (∀ i, i < j → gaOk h o bits i) → xWP G l mX9_gather d (zM G Q) (kL a + X) (nL a 1 + Y) 6 (xls [(0, .ref 31), (1, .ref 1), (2, .int bits), (3, .int (nI j))]) [] h1) 8 (by
      intro j hj ih a h1 hg ha hok
      obtain ⟨hC1, hI1, hm1, hS1, hg1, f1, rw1, mk1, hL1, hmk1, hrw1⟩ := hg
      have hC := hC1
      have ho1 : hOrd h1 o := by unfold hOrd; rw [hS1.2.2 14 (by omega) (by simp; omega)]; exact ho
      refine x_iload_n (i := 3) dX9_gather_6 rfl rfl rfl ?_
      refine x_bipush dX9_gather_7 rfl bC_8 ?_
      refine x_jc_ge (tgt := 67) dX9_gather_9 rfl rfl (by omega) (by omega) (fun c9 => ?_) (fun c9 => ?_)
      · obtain rfl : j = 8 := by omega
        have okA : ∀ i, i < 8 → gaOk h o bits i := fun i hi => hok i (by omega)
        obtain ⟨x1, x2⟩ := hX okA
        obtain ⟨jb, jb8, jbb⟩ := hbit
        obtain rfl : a = true := by
          rcases ha with z | z
          · exact z
          · exact absurd jbb (z jb (by omega))
        have hne1 : b = true → ∀ m, m < 4 → rw1 m ≠ r := by
          intro eb m hm
          subst eb
          rcases (hrw1 m hm).2 with z | ⟨z, -⟩
          · rw [z]; exact hne rfl m hm
          · have := hP.2.1
            omega
        have hP1 : uP b h1 r := hP.keep hS1.1 (f1 4 (by decide)) (f1 5 (by decide)) (fun eb q1 q2 => hS1.2.2 r q2 (by have := hne eb 1 (by decide); simp; omega))
        have hB := hP1.gb hC ho1 ho8 hL1 (hmk1 rfl) (by have := hS1.2.1; omega) hne1
        refine x_aload_n (i := 0) dX9_gather_67 rfl rfl rfl ?_
        refine x_callV (ci := 9) (b := 31) (As := []) (d2 := d - 1) (mc2 := kB b) (ms2 := nB b) (k2 := 0) (n2 := 0) dX9_gather_68 rfl kX9_80 okX9_close (hC.o rfl) (fun q hq => by cases hq; rfl) (by omega) rfl rfl (Nat.le_of_ble_eq_true rfl) (by omega) (by omega) (c_close (by omega) hT hB hI1 hm1 (gaS_pos jb8 (by decide) jbb) (by have := gaS_le (bitI bits) (fun j => fuN o (iv h (2 + j))) 8; show (gaS _ _ 8).1 < _; omega) (fun h2 hU2 hI2 hm2 hS2 f2 => ?_))
        refine x_iconst dX9_gather_71 rfl iC_1 ?_
        refine x_ireturn dX9_gather_72 rfl rfl ?_
        have q2 := hS2.2.1
        have q1 := hS1.2.1
        refine Kt okA h2 (rB b h1 r) rw1 mk1 hU2 hI2 hm2 ⟨Nat.le_trans hS1.1 hS2.1, by omega, fun x hx hn => ?_⟩ (fun eb => by unfold rB; rw [if_pos eb]) (fun eb => by unfold rB; rw [eb]; exact hS1.1) (fun m hm => ?_) (fun q q4 q5 q8 => (f2 q q4 q5 q8).trans (f1 q q8))
        · have hn' : x ∉ [11, 32, 33, 23, 28, 29, 30, 31, 35, 36, rw0 1, r] := hn
          simp at hn'
          have hrb : x ≠ rB b h1 r := by
            unfold rB
            split
            · omega
            · have := hS1.1
              omega
          rw [hS2.2.2 x (by have := hS1.1; omega) (by simp; omega)]
          exact hS1.2.2 x hx (by simp; omega)
        · rcases (hrw1 m hm).2 with z | ⟨z, -⟩
          · exact Or.inl z
          · exact Or.inr (by omega)
      · have vs := hC.v (csV_slot c9)
        have es : iv h1 (2 + j) = iv h (2 + j) := hS1.iv (by omega) (by simp; omega)
        have bad : ¬ gaOk h o bits j → ∀ h2, gaH h o r b rw0 mk a (gaU h o bits j) h2 ∨ gaH h o r b rw0 mk true (gaU h o bits j) h2 → Q (some (.int (nI 0))) h2 := by
          intro nb h2 hh
          have : ∃ a, gaH h o r b rw0 mk a (gaU h o bits j) h2 := by rcases hh with z | z; exact ⟨_, z⟩; exact ⟨_, z⟩
          obtain ⟨a2, y1, y2, y3, y4, y5, y6, rw2, mk2, y7, y8, y9⟩ := this
          exact Kf (fun z => nb (z j c9)) h2 _ rw2 mk2 y1 y2 y7 y4 (fun m hm => by rcases (y9 m hm).2 with z | ⟨z, -⟩; exact Or.inl z; exact Or.inr (by omega)) y6
        refine x_iload_n (i := 2) dX9_gather_12 rfl rfl rfl ?_
        refine x_iload_n (i := 3) dX9_gather_13 rfl rfl rfl ?_
        refine x_ishr dX9_gather_14 rfl ?_
        refine x_iconst dX9_gather_15 rfl iC_1 ?_
        refine x_iand dX9_gather_16 rfl ?_
        refine x_if_eq (tgt := 61) dX9_gather_17 rfl rfl (fun c17 => ?_) (fun c17 => ?_)
        · refine x_iinc dX9_gather_61 rfl rfl (inc1 _) ?_
          refine x_goto (tgt := 6) dX9_gather_64 rfl ?_
          have nb : ¬ bitI bits j := fun z => z c17
          have eg : gaU h o bits (j + 1) = gaU h o bits j := if_neg nb
          refine x_to (ih c9 a h1 (by rw [eg]; exact ⟨hC1, hI1, hm1, hS1, hg1, f1, rw1, mk1, hL1, hmk1, hrw1⟩) ?_ (fun i hi => ?_)) ⟨rfl, rfl, rfl, rfl, trivial⟩
          · rcases ha with z | z
            · exact Or.inl z
            · refine Or.inr (fun i hi => ?_)
              by_cases e : i = j
              · rw [e]; exact nb
              · exact z i (by omega)
          · by_cases e : i = j
            · rw [e]; exact fun z => absurd z nb
            · exact hok i (by omega)
        · have yb : bitI bits j := c17
          refine x_aload_n (i := 1) dX9_gather_20 rfl rfl rfl ?_
          refine x_iload_n (i := 3) dX9_gather_21 rfl rfl rfl ?_
          refine x_aaldC (t := 0) dX9_gather_22 rfl hC rfl (by decide) rfl (by omega) (by decide) (csF_slot c9) ?_
          refine x_callS0 (As := [_]) (d2 := d - 1) dX9_gather_23 rfl kX9_64 okX5_normBy4 (by omega) rfl rfl (Nat.le_of_ble_eq_true rfl) (c_normBy4 (by omega) vs ?_)
          rw [es]
          refine x_ldc2 dX9_gather_26 rfl cX9_70 ?_
          refine x_lcmp dX9_gather_29 rfl ?_
          refine x_if_eq (tgt := 35) dX9_gather_30 rfl rfl (fun c30 => ?_) (fun c30 => ?_)
          · have n4 := (lg_cmp_eq _ _).mp c30
            refine x_aload_n (i := 0) dX9_gather_35 rfl rfl rfl ?_
            refine x_getC dX9_gather_36 rfl fX9_35 hC rfl F_31_0 ?_
            refine x_aload_n (i := 1) dX9_gather_39 rfl rfl rfl ?_
            refine x_iload_n (i := 3) dX9_gather_40 rfl rfl rfl ?_
            refine x_aaldC (t := 0) dX9_gather_41 rfl hC rfl (by decide) rfl (by omega) (by decide) (csF_slot c9) ?_
            rw [← es] at n4
            refine x_callV (ci := 4) (b := 22) (As := [_]) (d2 := d - 1) (mc2 := kL a) (ms2 := nL a 1) (k2 := X) (n2 := Y) dX9_gather_42 rfl kX9_72 okX4_find (hC.o rfl) (fun q hq => by cases hq; rfl) (by omega) rfl rfl (Nat.le_of_ble_eq_true rfl) (by omega) (by omega) (c_findA (a := a) (rw0 := rw1) (mk := mk1) (by omega) hC (by have := hS1.2.1; omega) ho1 ho8 hL1 hmk1 vs (by omega) (by omega) n4 (fun h2 gl => ?_))
            obtain ⟨hC2, rw2, mk2, hL2, hmk2, hrw2, hS2⟩ := gl
            rw [es] at n4
            rw [es]
            have q1 := hS1.2.1
            have q2 := hS2.2.1
            have s2 : xGw [23, 28, 29, 30, 31, 35, 36, rw0 1] 1 h h2 := by
              refine ⟨Nat.le_trans hS1.1 hS2.1, by omega, fun x hx hn => ?_⟩
              have hn' : x ∉ [23, 28, 29, 30, 31, 35, 36, rw0 1] := hn
              simp at hn'
              have hr1 : x ≠ rw1 1 := by
                rcases (hrw1 1 (by decide)).2 with z | ⟨z, -⟩
                · omega
                · omega
              rw [hS2.2.2 x (by have := hS1.1; omega) (by simp; omega)]
              exact hS1.2.2 x hx (by simp; omega)
            have lt1 : ∀ x, x < 134 → x ∉ [23, 28, 29, 30] → x ≠ 25 → h2.1 x = h1.1 x := by
              intro x hx hn h25
              simp at hn
              have hr1 : x ≠ rw1 1 := by
                rcases (hrw1 1 (by decide)).2 with z | ⟨z, -⟩
                · omega
                · omega
              exact hS2.2.2 x (by have := hC1.1; omega) (by simp; omega)
            have hI2 : uI h2 (gaU h o bits j) := hI1.keep (by rw [lt1 31 (by decide) (by decide) (by decide)]) (by unfold iv; rw [lt1 35 (by decide) (by decide) (by decide)]) (by unfold iv; rw [lt1 36 (by decide) (by decide) (by decide)])
            have f2 : ∀ q, q ≠ 8 → (h2.1 31).2.2 q = (h.1 31).2.2 q := fun q hq => by rw [lt1 31 (by decide) (by decide) (by decide)]; exact f1 q hq
            have rwx : ∀ m, m < 4 → (m ≠ 1 → mk2 m = mk m ∧ rw2 m = rw0 m) ∧ (rw2 m = rw0 m ∨ (rw2 m = h.2 ∧ m = 1 ∧ h2.2 = h.2 + 1)) := by
              intro m hm
              refine ⟨fun e => ⟨((hrw2 m hm).1 e).1.trans ((hrw1 m hm).1 e).1, ((hrw2 m hm).1 e).2.trans ((hrw1 m hm).1 e).2⟩, ?_⟩
              rcases (hrw2 m hm).2 with z | ⟨z1, z2, z3⟩
              · rcases (hrw1 m hm).2 with y | ⟨y1, y2, y3⟩
                · exact Or.inl (z.trans y)
                · have := hS2.1
                  exact Or.inr ⟨z.trans y1, y2, by omega⟩
              · have e0 : h1.2 = h.2 := by
                  have := hS1.1
                  have : kL a = 1 := by
                    cases a with
                    | false => rfl
                    | true => have : kL true = 0 := rfl; omega
                  omega
                exact Or.inr ⟨by omega, z2, by omega⟩
            have g2 : gaH h o r b rw0 mk true (gaU h o bits j) h2 := ⟨hC2, hI2, hm1, s2, by show h2.2 + 0 ≤ _; omega, f2, rw2, mk2, hL2, fun _ => hmk2, rwx⟩
            have hC := hC2
            refine x_istore dX9_gather_45 rfl (by decide) ?_
            refine x_iload dX9_gather_47 rfl rfl ?_
            refine x_iconst dX9_gather_49 rfl iC_m1 ?_
            refine x_ic_ne (tgt := 55) dX9_gather_50 rfl rfl (fun c50 => ?_) (fun c50 => ?_)
            · have c50 : ¬ zFindL o 1 (iv h (2 + j)) = -1 := by assumption
              obtain ⟨u1, u2⟩ := fuN_eq c50
              refine x_aload_n (i := 0) dX9_gather_55 rfl rfl rfl ?_
              refine x_iload dX9_gather_56 rfl rfl ?_
              rw [u2]
              refine x_callV0 (ci := 9) (b := 31) (As := [_]) (d2 := d - 1) dX9_gather_58 rfl kX9_76 okX9_admit (hC.o rfl) (fun q hq => by cases hq; rfl) (by omega) rfl rfl (Nat.le_of_ble_eq_true rfl) (c_admitS hC2 hI2 (by omega) (fun h3 hC3 hI3 hS3 f3 => ?_))
              refine x_iinc dX9_gather_61 rfl rfl (inc1 _) ?_
              refine x_goto (tgt := 6) dX9_gather_64 rfl ?_
              have eg : gaU h o bits (j + 1) = mAdd (gaU h o bits j) (fuN o (iv h (2 + j))) := if_pos yb
              have r2s : ∀ m, m < 4 → 134 ≤ rw2 m → h3.1 (rw2 m) = h2.1 (rw2 m) := fun m hm q => hS3.2 _ (by simp; omega)
              refine x_less (k2 := kL true + X) (n2 := nL true 1 + Y) (by show 0 + X ≤ X; omega) (by show 0 + Y ≤ Y; omega) ?_
              refine x_to (ih c9 true h3 (by rw [eg]; exact ⟨hC3, hI3, mAdd_lt u1 hm1, s2.step hS3.gw (by simp) (by rw [hS3.1]; omega), by rw [hS3.1]; show h2.2 + 0 ≤ _; omega, fun q hq => (f3 q hq).trans (f2 q hq), rw2, mk2, hL2.keep hC2.1 (by rw [hS3.1]; exact Nat.le_refl _) (hS3.2 23 (by decide)) (hS3.2 28 (by decide)) (hS3.2 29 (by decide)) (fun m hm q _ => r2s m hm q), fun _ => hmk2, by rw [hS3.1]; exact rwx⟩) (Or.inl rfl) (fun i hi => ?_)) ⟨rfl, rfl, rfl, rfl, trivial⟩
              by_cases e : i = j
              · rw [e]; exact fun _ => ⟨n4, c50⟩
              · exact hok i (by omega)
            · refine x_iconst dX9_gather_53 rfl iC_0 ?_
              refine x_ireturn dX9_gather_54 rfl rfl ?_
              exact bad (fun z => (z yb).2 (by assumption)) h2 (Or.inr g2)
          · refine x_iconst dX9_gather_33 rfl iC_0 ?_
            refine x_ireturn dX9_gather_34 rfl rfl ?_
            exact bad (fun z => c30 ((lg_cmp_eq _ _).mpr (z yb).1)) h1 (Or.inl ⟨hC1, hI1, hm1, hS1, hg1, f1, rw1, mk1, hL1, hmk1, hrw1⟩)) 0 (Nat.zero_le _)
    exact x_to (key false h0 start (Or.inr (fun i hi => absurd hi (Nat.not_lt_zero i))) (fun i hi => absurd hi (Nat.not_lt_zero i))) ⟨rfl, rfl, rfl, rfl, trivial⟩
end UNITS

