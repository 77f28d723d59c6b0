/-! EightPartsModel: divide, last, rests -/
theorem RM.go {h h2 : xH} {S : St} {P C : List Nat} (hR : RM h S) (hv : mV P C h h2) (hP : ∀ q ∈ P, 9 ≤ q) (hC : ∀ q ∈ C, q = 110 ∨ ¬ mN q) (f : ∀ q, q < 12 ∨ 16 ≤ q → (h2.1 110).2.2 q = (h.1 110).2.2 q) : RM h2 S := by
  refine RM.of hR hv.1 ((f 4 (by omega)).trans hR.2.1.2) (fun j hj => (hv.2.2.1 j (by omega) (fun z => by have := hP j z; omega)).trans (hR.p hj)) ⟨hv.2.2.2 hR.b, (hv.2.2.1 8 (by omega) (fun z => by have := hP 8 z; omega)).trans hR.2.2.2.1.2⟩ (f 32 (by omega)) (f 20 (by omega)) (f 37 (by omega)) (fun a ha => hv.2.1.2 a ?_)
  intro z
  rcases List.mem_cons.mp z with e | e
  · omega
  · rcases hC a e with q | q
    · omega
    · exact q (by unfold mN; omega)
section MOD
variable {G : xG} {l : Launch} {d : Nat} {h : xH} {Q : Option Value → xH → Prop} {S : St}
theorem n_divide {a1 a2 a3 a4 : Int32} (hd : 10 ≤ d) (hR : RM h S) (K : ∀ r S2 h2, sp_divide S a1 a2 a3 a4 = (r, S2) → RM h2 S2 → cF h h2 → Q (some (.int r)) h2) : xCt G l mX12_divide d [.ref 110, .int a1, .int a2, .int a3, .int a4] h 0 0 Q := by
  have hC := hR.1
  refine xCt_of (by decide) (Nat.le_of_ble_eq_true rfl) ?_
  refine x_iload_n (i := 1) dX12_divide_0 rfl rfl rfl ?_
  refine x_iload_n (i := 2) dX12_divide_1 rfl rfl rfl ?_
  refine x_iload_n (i := 3) dX12_divide_2 rfl rfl rfl ?_
  refine x_callS0 (As := [_, _, _]) (d2 := d - 1) dX12_divide_3 rfl kX12_189 okX12_areSlots (by omega) rfl rfl (Nat.le_of_ble_eq_true rfl) (m_areSlots (by omega) (fun z => ?_) (fun q r x hq hr hx eq er ex qq qr qx => ?_))
  · refine x_if_eq_t (tgt := 17) dX12_divide_6 rfl nI_0 ?_
    refine x_iconst dX12_divide_17 rfl iC_m1 ?_
    refine x_ireturn dX12_divide_18 rfl rfl ?_
    exact K _ _ _ (by rcases z with z | ⟨i, z0, z⟩ | ⟨i, i2, z0, z1, z⟩; exact (by simp only [sp_divide, z] <;> rfl); exact (by simp only [sp_divide, z0, z] <;> rfl); exact (by simp only [sp_divide, z0, z1, z] <;> rfl)) hR (cF.rf hC)
  subst eq er ex
  refine x_if_eq_f (tgt := 17) dX12_divide_6 rfl rfl nb1 ?_
  refine x_iload dX12_divide_9 rfl rfl ?_
  refine x_callS0 (As := [_]) (d2 := d - 1) dX12_divide_11 rfl kX12_165 okX12_isSlot (by omega) rfl rfl (Nat.le_of_ble_eq_true rfl) (m_isSlot (by omega) (fun z => ?_) (fun y hy ey qy => ?_))
  · refine x_if_ne_f (tgt := 19) dX12_divide_14 rfl rfl nI_0 ?_
    refine x_iconst dX12_divide_17 rfl iC_m1 ?_
    refine x_ireturn dX12_divide_18 rfl rfl ?_
    exact K _ _ _ (by simp only [sp_divide, qq, qr, qx, z] <;> rfl) hR (cF.rf hC)
  subst ey
  refine x_if_ne_t (tgt := 19) dX12_divide_14 rfl nb1 ?_
  refine x_aload_n (i := 0) dX12_divide_19 rfl rfl rfl ?_
  refine x_iload_n (i := 3) dX12_divide_20 rfl rfl rfl ?_
  refine x_iload dX12_divide_21 rfl rfl ?_
  refine x_callV0 (ci := 12) (b := 110) (As := [_, _]) (d2 := d - 1) dX12_divide_23 rfl kX12_245 okX12_divides (hC.o rfl) (fun q hq => by cases hq; rfl) (by omega) rfl rfl (Nat.le_of_ble_eq_true rfl) (m_divides (by omega) hC hR.2.1.2 hR.2.1.1 hR.b (by omega) (by omega) (by omega) (by omega) (fun q1 r1 hz h2 hv e6 e7 => ?_) (fun hz h2 hv => ?_))
  · rw [hR.p hx, hR.p hy] at hz
    have hC := hv.1
    refine x_if_ne_t (tgt := 32) dX12_divide_26 rfl nb1 ?_
    refine x_aload_n (i := 0) dX12_divide_32 rfl rfl rfl ?_
    refine x_iload_n (i := 1) dX12_divide_33 rfl rfl rfl ?_
    refine x_bipush dX12_divide_34 rfl bC_16 ?_
    refine x_callV0 (ci := 12) (b := 110) (As := [_, _]) (d2 := d - 1) dX12_divide_36 rfl kX12_182 okX12_becomes (hC.o rfl) (fun q hq => by cases hq; rfl) (by omega) rfl rfl (Nat.le_of_ble_eq_true rfl) (m_becomes hC (by omega) (x := 16) (by decide) (fun h3 k3 e3 => ?_))
    have hC := k3.1
    have k4 := (hv.tr k3).sub (P2 := [16, 17, q]) (C2 := [113, 119, 120]) (by simp) (by simp)
    have r3 := hR.set hq k4 (by simp) (by simp [mN]) (e3.trans e6)
    refine x_aload_n (i := 0) dX12_divide_39 rfl rfl rfl ?_
    refine x_iload_n (i := 2) dX12_divide_40 rfl rfl rfl ?_
    refine x_bipush dX12_divide_41 rfl bC_17 ?_
    refine x_callV0 (ci := 12) (b := 110) (As := [_, _]) (d2 := d - 1) dX12_divide_43 rfl kX12_182 okX12_becomes (hC.o rfl) (fun q hq => by cases hq; rfl) (by omega) rfl rfl (Nat.le_of_ble_eq_true rfl) (m_becomes hC (by omega) (x := 17) (by decide) (fun h5 k5 e5 => ?_))
    have e9 : pl h5 r = c8 r1 := by rw [e5, k3.2.2.1 17 (by decide) (by simp; omega), e7]
    refine x_iconst dX12_divide_46 rfl iC_1 ?_
    refine x_ireturn dX12_divide_47 rfl rfl ?_
    exact K _ _ _ (by simp only [sp_divide, qq, qr, qx, qy, hz]; rfl) (r3.set hr k5 (by simp) (by simp) e9) ((k4.c (by simp)).tr (k5.c (by simp)))
  · rw [hR.p hx, hR.p hy] at hz
    refine x_if_ne_f (tgt := 32) dX12_divide_26 rfl rfl nI_0 ?_
    refine x_bipush dX12_divide_29 rfl bC_m2 ?_
    refine x_ireturn dX12_divide_31 rfl rfl ?_
    exact K _ _ _ (by simp only [sp_divide, qq, qr, qx, qy, hz]) (hR.sc hv (by simp) (by simp [mN])) (hv.c (by simp))
/-- the state of the walk -/
def goP (h h1 : xH) (k : Nat) (s : zW) : Prop := mV [16, 17, 18, 19, 20] [113, 119, 120, 110] h h1 ∧ (∀ q, q < 12 ∨ 16 ≤ q → (h1.1 110).2.2 q = (h.1 110).2.2 q) ∧ (h1.1 110).2.2 12 = .int (nI k) ∧ (k = 0 ∨ (h1.1 110).2.2 13 = .long (zInn s.2.1 s.2.1 8)) ∧ (h1.1 110).2.2 14 = .long s.2.2 ∧ ((¬ isZ (wkL (s, k)) ∧ (h1.1 110).2.2 15 = .int (nI 1)) ∨ (isZ (wkL (s, k)) ∧ (h1.1 110).2.2 15 = .int (nI 0))) ∧ pl h1 18 = c8 s.1 ∧ pl h1 19 = c8 s.2.1 ∧ pl h1 20 = c8 (wkL (s, k))
theorem wkL_t {s : zW} {k : Nat} (h : isZ s.2.1) : wkL (s, k) = s.1 := if_pos h
theorem wkL_f {s : zW} {k : Nat} (h : ¬ isZ s.2.1) : wkL (s, k) = s.2.1 := if_neg h
theorem isZ_n {f : Nat → Int32} (h : isZ f) : zInn f f 8 = 0 := by
  have : ∀ i, i ≤ 8 → zInn f f i = 0 := by
    intro i
    induction i with
    | zero => exact fun _ => rfl
    | succ n ih =>
      intro hn
      rw [zInn, ih (by omega), h n (by omega)]
      rfl
  exact this 8 (Nat.le_refl _)
theorem mF_set {h : xH} {kf : Nat} {v : Value} (hC : Cs (hs h 110 (112, 0, updV (h.1 110).2.2 kf v))) : mV [] [110] h (hs h 110 (112, 0, updV (h.1 110).2.2 kf v)) ∧ ((hs h 110 (112, 0, updV (h.1 110).2.2 kf v)).1 110).2.2 kf = v ∧ ∀ q, q ≠ kf → ((hs h 110 (112, 0, updV (h.1 110).2.2 kf v)).1 110).2.2 q = (h.1 110).2.2 q := ⟨mV_o hC xSm.hs1 (by decide), fv_eq, fun _ hq => fv_ne hq⟩
theorem mV.f {P C : List Nat} {h h2 : xH} (hv : mV P C h h2) (hn : 110 ∉ C) : ∀ q, (h2.1 110).2.2 q = (h.1 110).2.2 q := fun q => by rw [hv.2.1.2 110 (by simp [hn])]
theorem mV.pp {P C : List Nat} {h h2 : xH} (hv : mV P C h h2) {y : Nat} (hy : y < 155) (hn : y ∉ P) : pl h2 y = pl h y := hv.2.2.1 y hy hn
theorem oSplit_n0 {o : Nat} {f g : Nat → Int32} {z : (Nat → Int32) × (Nat → Int32)} (h : oSplit o f g = some z) : ¬ zInn g g 8 = 0 := by
  intro e
  unfold oSplit at h
  rw [if_pos (Or.inl e)] at h
  cases h
theorem nrm_pos {g : Nat → Int32} (hg : zBd g) (h0 : ¬ zInn g g 8 = 0) : ¬ zInn g g 8 ≤ 0 := by
  obtain ⟨e1, hb⟩ := nrm8 hg
  intro z
  rw [e1, Int64.le_iff_toInt_le, pk_lT (by omega)] at z
  have e0 : (0 : Int64).toInt = 0 := rfl
  have : nrmN g 8 = 0 := by omega
  rw [this] at e1
  exact h0 e1
theorem m_goesOn {x y o : Nat} (hd : 7 ≤ d) (hC : Cs h) (ho : mRul h o) (ho8 : o < 8) (hB : mB h) (hx : x < 155) (hy : y < 16)
    (K : ∀ h2 s k, zRun o 60 (pl h x, pl h y, 0) 0 = (s, k) → k ≤ 60 → goP h h2 k s → Q none h2) : xCt G l mX12_goesOn d [.ref 110, .int (nI x), .int (nI y)] h 0 0 Q := by
  refine xCt_of (by decide) (Nat.le_of_ble_eq_true rfl) ?_
  obtain ⟨RR, hRR⟩ : ∃ RR, zRun o 60 (pl h x, pl h y, 0) 0 = RR := ⟨_, rfl⟩
  rw [hRR] at K
  have key := xloop (P := fun k => ∀ h1 s, goP h h1 k s → zBd s.2.1 → RR = zRun o (60 - k) s k → xWP G l mX12_goesOn d (zM G Q) 0 0 80 (xls [(0, .ref 110), (3, .int (nI 1))]) [] h1) 60 (by
    intro k hk ih h1 s hg hsb er
    have hg0 := hg
    obtain ⟨g1, g2, g3, g4, g5, g6, g7, g8, g9⟩ := hg
    have hC := g1.1
    refine x_iload_n (i := 3) dX12_goesOn_80 rfl rfl rfl ?_
    refine x_if_eq_f (tgt := 201) dX12_goesOn_81 rfl rfl nb1 ?_
    refine x_aload_n (i := 0) dX12_goesOn_84 rfl rfl rfl ?_
    refine x_getM (a := 110) dX12_goesOn_85 rfl fX12_248 hC rfl g3 ?_
    refine x_bipush dX12_goesOn_88 rfl bC_60 ?_
    refine x_jc_ge (tgt := 201) dX12_goesOn_90 rfl rfl (by omega) (by omega) (fun c90 => ?_) (fun c90 => ?_)
    · obtain rfl : k = 60 := by omega
      refine x_return dX12_goesOn_201 rfl ?_
      exact K h1 s 60 (er.trans rfl) (Nat.le_refl _) hg0
    · have ho1 : mRul h1 o := (g2 4 (by omega)).trans ho
      obtain ⟨m, em⟩ : ∃ m, 60 - k = m + 1 := ⟨60 - k - 1, by omega⟩
      rw [em] at er
      have b1 := g1.2.2.2 hB
      refine x_aload_n (i := 0) dX12_goesOn_93 rfl rfl rfl ?_
      refine x_bipush dX12_goesOn_94 rfl bC_18 ?_
      refine x_bipush dX12_goesOn_96 rfl bC_19 ?_
      refine x_callV0 (ci := 12) (b := 110) (As := [_, _]) (d2 := d - 1) dX12_goesOn_98 rfl kX12_245 okX12_divides (hC.o rfl) (fun q hq => by cases hq; rfl) (by omega) rfl rfl (Nat.le_of_ble_eq_true rfl) (m_divides (x := 18) (y := 19) (by omega) hC ho1 ho8 b1 (by decide) (by decide) (by decide) (by decide) (fun q0 r0 hz h2 hv e6 e7 => ?_) (fun hz h2 hv => ?_))
      rotate_left
      · have qz := oSplit_e (o := o) (f := pl h1 18) (f2 := s.1) (g := pl h1 19) (g2 := s.2.1) (by rw [g7, c8_c8]) (by rw [g8, c8_c8])
        have hq := q8_none qz hz
        refine x_istore_n (i := 3) dX12_goesOn_101 rfl rfl (by decide) ?_
        refine x_iload_n (i := 3) dX12_goesOn_102 rfl rfl rfl ?_
        refine x_if_ne_f (tgt := 107) dX12_goesOn_103 rfl rfl nI_0 ?_
        refine x_return dX12_goesOn_106 rfl ?_
        rw [zRun, hq] at er
        have ff := hv.f (by decide)
        exact K h2 s k er (by omega) ⟨(g1.tr hv).sub (by simp) (by simp), fun q hq => (ff q).trans (g2 q hq), by rw [ff]; exact g3, by rw [ff]; exact g4, by rw [ff]; exact g5, by rw [ff]; exact g6, by rw [hv.pp (by decide) (by decide)]; exact g7, by rw [hv.pp (by decide) (by decide)]; exact g8, by rw [hv.pp (by decide) (by decide)]; exact g9⟩
      · have qz := oSplit_e (o := o) (f := pl h1 18) (f2 := s.1) (g := pl h1 19) (g2 := s.2.1) (by rw [g7, c8_c8]) (by rw [g8, c8_c8])
        obtain ⟨⟨q1, r1⟩, hq, -, er1⟩ := q8_some qz hz
        have er1 : c8 r0 = c8 r1 := er1
        rw [er1] at e7
        have n0 := oSplit_n0 hq
        have np := nrm_pos hsb n0
        have yz : ¬ isZ s.2.1 := fun z => n0 (isZ_n z)
        rw [zRun, hq] at er
        have ff := hv.f (by decide)
        have hC := hv.1
        have w1 := (g1.tr hv).sub (P2 := [16, 17, 18, 19, 20]) (C2 := [113, 119, 120, 110]) (by simp) (by simp)
        have f12 : (h2.1 110).2.2 12 = .int (nI k) := (ff 12).trans g3
        refine x_istore_n (i := 3) dX12_goesOn_101 rfl rfl (by decide) ?_
        refine x_iload_n (i := 3) dX12_goesOn_102 rfl rfl rfl ?_
        refine x_if_ne_t (tgt := 107) dX12_goesOn_103 rfl nb1 ?_
        refine x_aload_n (i := 0) dX12_goesOn_107 rfl rfl rfl ?_
        refine x_dup dX12_goesOn_108 rfl rfl ?_
        refine x_getM (a := 110) dX12_goesOn_109 rfl fX12_248 hC rfl f12 ?_
        refine x_iconst dX12_goesOn_112 rfl iC_1 ?_
        refine x_iadd dX12_goesOn_113 rfl ?_
        rw [show nI k + nI 1 = nI (k + 1) from nI_add k 1]
        obtain ⟨a1, a2, a3⟩ := mF_set (hC.setF (ci := 12) (a := 110) (kf := 12) (v := .int (nI (k + 1))) rfl NF_110_12 (by decide))
        refine x_putC (a := 110) dX12_goesOn_114 rfl fX12_248 (fun q hq => by cases hq; rfl) hC rfl ⟨rfl, rfl⟩ ?_
        show xWP G l mX12_goesOn d (zM G Q) 0 0 117 _ [] (hs h2 110 (112, 0, updV (h2.1 110).2.2 12 (.int (nI (k + 1)))))
        generalize hs h2 110 (112, 0, updV (h2.1 110).2.2 12 (.int (nI (k + 1)))) = h3 at a1 a2 a3 ⊢
        have hC := a1.1
        refine x_aload_n (i := 0) dX12_goesOn_117 rfl rfl rfl ?_
        refine x_aload_n (i := 0) dX12_goesOn_118 rfl rfl rfl ?_
        refine x_bipush dX12_goesOn_119 rfl bC_17 ?_
        refine x_callV0 (ci := 12) (b := 110) (As := [_]) (d2 := d - 1) dX12_goesOn_121 rfl kX12_137 okX12_normOf (hC.o rfl) (fun q hq => by cases hq; rfl) (by omega) rfl rfl (Nat.le_of_ble_eq_true rfl) (m_normOf hC (x := 17) (by decide) ?_)
        have p17 : pl h3 17 = c8 r1 := by rw [a1.pp (by decide) (by decide), e7]
        have p19 : pl h3 19 = c8 s.2.1 := by rw [a1.pp (by decide) (by decide), hv.pp (by decide) (by decide), g8]
        rw [p17, zInn_c r1 r1 8 (Nat.le_refl _)]
        obtain ⟨b1', b2, b3⟩ := mF_set (hC.setF (ci := 12) (a := 110) (kf := 13) (v := .long (zInn r1 r1 8)) rfl NF_110_13 (by decide))
        refine x_putC (a := 110) dX12_goesOn_124 rfl fX12_251 (fun q hq => by cases hq; rfl) hC rfl ⟨rfl, rfl⟩ ?_
        show xWP G l mX12_goesOn d (zM G Q) 0 0 127 _ [] (hs h3 110 (112, 0, updV (h3.1 110).2.2 13 (.long (zInn r1 r1 8))))
        generalize hs h3 110 (112, 0, updV (h3.1 110).2.2 13 (.long (zInn r1 r1 8))) = h4 at b1' b2 b3 ⊢
        have hC := b1'.1
        have p19' : pl h4 19 = c8 s.2.1 := by rw [b1'.pp (by decide) (by decide), p19]
        have f14 : (h4.1 110).2.2 14 = .long s.2.2 := by rw [b3 14 (by decide), a3 14 (by decide), ff, g5]
        refine x_ldc2 dX12_goesOn_127 rfl cX12_265 ?_
        refine x_aload_n (i := 0) dX12_goesOn_130 rfl rfl rfl ?_
        refine x_getM (a := 110) dX12_goesOn_131 rfl fX12_251 hC rfl b2 ?_
        refine x_lmul dX12_goesOn_134 rfl ?_
        refine x_aload_n (i := 0) dX12_goesOn_135 rfl rfl rfl ?_
        refine x_bipush dX12_goesOn_136 rfl bC_19 ?_
        refine x_callV0 (ci := 12) (b := 110) (As := [_]) (d2 := d - 1) dX12_goesOn_138 rfl kX12_137 okX12_normOf (hC.o rfl) (fun q hq => by cases hq; rfl) (by omega) rfl rfl (Nat.le_of_ble_eq_true rfl) (m_normOf hC (x := 19) (by decide) ?_)
        rw [p19', zInn_c s.2.1 s.2.1 8 (Nat.le_refl _)]
        have fin : ∀ h5 L, mV [] [110] h4 h5 → (∀ q, q ≠ 14 → (h5.1 110).2.2 q = (h4.1 110).2.2 q) → (h5.1 110).2.2 14 = .long (zShr s.2.2 r1 s.2.1) → L 0 = some (.ref 110) → L 3 = some (.int (nI 1)) → xWP G l mX12_goesOn d (zM G Q) 0 0 160 L [] h5 := by
          intro h5 L c1 c2 c3 l0 l3
          refine x_to (r := [(0, .ref 110), (3, .int (nI 1))]) ?_ ⟨l0, l3, trivial⟩
          have hC := c1.1
          have w5 := (((w1.tr a1).tr b1').tr c1).sub (P2 := [16, 17, 18, 19, 20]) (C2 := [113, 119, 120, 110]) (by simp) (by simp)
          have ff5 : ∀ q, q < 12 ∨ 16 ≤ q ∨ q = 15 → (h5.1 110).2.2 q = (h2.1 110).2.2 q := fun q hq => by rw [c2 q (by omega), b3 q (by omega), a3 q (by omega)]
          have f12 : (h5.1 110).2.2 12 = .int (nI (k + 1)) := by rw [c2 12 (by decide), b3 12 (by decide), a2]
          have f13 : (h5.1 110).2.2 13 = .long (zInn r1 r1 8) := by rw [c2 13 (by decide), b2]
          have f15 : (h5.1 110).2.2 15 = (h1.1 110).2.2 15 := by rw [ff5 15 (by omega), ff]
          have p19 : pl h5 19 = c8 s.2.1 := by rw [c1.pp (by decide) (by decide), p19']
          have p17 : pl h5 17 = c8 r1 := by rw [c1.pp (by decide) (by decide), b1'.pp (by decide) (by decide), p17]
          have p20 : pl h5 20 = c8 (wkL (s, k)) := by rw [c1.pp (by decide) (by decide), b1'.pp (by decide) (by decide), a1.pp (by decide) (by decide), hv.pp (by decide) (by decide), g9]
          have g2' : ∀ q, q < 12 ∨ 16 ≤ q → (h5.1 110).2.2 q = (h.1 110).2.2 q := fun q hq => by rw [ff5 q (by omega), ff, g2 q hq]
          rw [wkL_f yz] at p20 g6
          refine x_aload_n (i := 0) dX12_goesOn_160 rfl rfl rfl ?_
          refine x_bipush dX12_goesOn_161 rfl bC_18 ?_
          refine x_bipush dX12_goesOn_163 rfl bC_19 ?_
          refine x_callV0 (ci := 12) (b := 110) (As := [_, _]) (d2 := d - 1) dX12_goesOn_165 rfl kX12_182 okX12_becomes (hC.o rfl) (fun q hq => by cases hq; rfl) (by omega) rfl rfl (Nat.le_of_ble_eq_true rfl) (m_becomes hC (t := 18) (x := 19) (by decide) (by decide) (fun h6 v6 e6 => ?_))
          have hC := v6.1
          refine x_aload_n (i := 0) dX12_goesOn_168 rfl rfl rfl ?_
          refine x_bipush dX12_goesOn_169 rfl bC_19 ?_
          refine x_bipush dX12_goesOn_171 rfl bC_17 ?_
          refine x_callV0 (ci := 12) (b := 110) (As := [_, _]) (d2 := d - 1) dX12_goesOn_173 rfl kX12_182 okX12_becomes (hC.o rfl) (fun q hq => by cases hq; rfl) (by omega) rfl rfl (Nat.le_of_ble_eq_true rfl) (m_becomes hC (t := 19) (x := 17) (by decide) (by decide) (fun h7 v7 e7 => ?_))
          have hC := v7.1
          have w7 := ((w5.tr v6).tr v7).sub (P2 := [16, 17, 18, 19, 20]) (C2 := [113, 119, 120, 110]) (by simp) (by simp)
          have ff7 : ∀ q, (h7.1 110).2.2 q = (h5.1 110).2.2 q := fun q => by rw [v7.f (by decide), v6.f (by decide)]
          have q17 : pl h7 17 = c8 r1 := by rw [v7.pp (by decide) (by decide), v6.pp (by decide) (by decide), p17]
          have q18 : pl h7 18 = c8 s.2.1 := by rw [v7.pp (by decide) (by decide), e6, p19]
          have q19 : pl h7 19 = c8 r1 := by rw [e7, v6.pp (by decide) (by decide), p17]
          have q20 : pl h7 20 = c8 s.2.1 := by rw [v7.pp (by decide) (by decide), v6.pp (by decide) (by decide), p20]
          refine x_aload_n (i := 0) dX12_goesOn_176 rfl rfl rfl ?_
          refine x_bipush dX12_goesOn_177 rfl bC_17 ?_
          refine x_callV0 (ci := 12) (b := 110) (As := [_]) (d2 := d - 1) dX12_goesOn_179 rfl kX12_258 okX12_isNought (hC.o rfl) (fun q hq => by cases hq; rfl) (by omega) rfl rfl (Nat.le_of_ble_eq_true rfl) (m_isNought hC (x := 17) (by decide) (fun z => ?_) (fun z => ?_))
          · rw [q17, isZ_e (g := r1) (by rw [c8_c8])] at z
            refine x_if_ne_t (tgt := 198) dX12_goesOn_182 rfl nb1 ?_
            refine x_goto (tgt := 80) dX12_goesOn_198 rfl ?_
            refine x_to (ih (by omega) h7 (s.2.1, r1, zShr s.2.2 r1 s.2.1) ⟨w7, fun q hq => by rw [ff7, g2' q hq], by rw [ff7, f12], Or.inr (by rw [ff7, f13]), by rw [ff7, c3], ?_, q18, q19, by rw [wkL_t z]; exact q20⟩ (oSplit_bd hq).2 (by rw [er, show 60 - (k + 1) = m by omega])) ⟨rfl, rfl, trivial⟩
            rw [wkL_t z, ff7, f15]
            exact g6
          · rw [q17, isZ_e (g := r1) (by rw [c8_c8])] at z
            obtain ⟨d1, d2, d3⟩ := mF_set (hC.setF (ci := 12) (a := 110) (kf := 15) (v := .int (nI 1)) rfl NF_110_15 (by decide))
            refine x_if_ne_f (tgt := 198) dX12_goesOn_182 rfl rfl nI_0 ?_
            refine x_aload_n (i := 0) dX12_goesOn_185 rfl rfl rfl ?_
            refine x_iconst dX12_goesOn_186 rfl iC_1 ?_
            refine x_putC (a := 110) dX12_goesOn_187 rfl fX12_261 (fun q hq => by cases hq; rfl) hC rfl ⟨rfl, rfl⟩ ?_
            show xWP G l mX12_goesOn d (zM G Q) 0 0 190 _ [] (hs h7 110 (112, 0, updV (h7.1 110).2.2 15 (.int (nI 1))))
            generalize hs h7 110 (112, 0, updV (h7.1 110).2.2 15 (.int (nI 1))) = h8 at d1 d2 d3 ⊢
            have hC := d1.1
            refine x_aload_n (i := 0) dX12_goesOn_190 rfl rfl rfl ?_
            refine x_bipush dX12_goesOn_191 rfl bC_20 ?_
            refine x_bipush dX12_goesOn_193 rfl bC_17 ?_
            refine x_callV0 (ci := 12) (b := 110) (As := [_, _]) (d2 := d - 1) dX12_goesOn_195 rfl kX12_182 okX12_becomes (hC.o rfl) (fun q hq => by cases hq; rfl) (by omega) rfl rfl (Nat.le_of_ble_eq_true rfl) (m_becomes hC (t := 20) (x := 17) (by decide) (by decide) (fun h9 v9 e9 => ?_))
            have ff9 := v9.f (by decide)
            refine x_goto (tgt := 80) dX12_goesOn_198 rfl ?_
            refine x_to (ih (by omega) h9 (s.2.1, r1, zShr s.2.2 r1 s.2.1) ⟨((w7.tr d1).tr v9).sub (by simp) (by simp), fun q hq => by rw [ff9, d3 q (by omega), ff7, g2' q hq], by rw [ff9, d3 _ (by decide), ff7, f12], Or.inr (by rw [ff9, d3 _ (by decide), ff7, f13]), by rw [ff9, d3 _ (by decide), ff7, c3], Or.inl ⟨by rw [wkL_f z]; exact z, by rw [ff9, d2]⟩, by rw [v9.pp (by decide) (by decide), d1.pp (by decide) (by decide), q18], by rw [v9.pp (by decide) (by decide), d1.pp (by decide) (by decide), q19], by rw [wkL_f z, e9, d1.pp (by decide) (by decide), q17]⟩ (oSplit_bd hq).2 (by rw [er, show 60 - (k + 1) = m by omega])) ⟨rfl, rfl, trivial⟩
        have es : zShr s.2.2 r1 s.2.1 = zMaxL s.2.2 (100 * zInn r1 r1 8 / zInn s.2.1 s.2.1 8) := if_neg np
        refine x_ldiv dX12_goesOn_141 rfl n0 ?_
        refine x_lstore dX12_goesOn_142 rfl (by decide) ?_
        refine x_lload dX12_goesOn_144 rfl rfl ?_
        refine x_aload_n (i := 0) dX12_goesOn_146 rfl rfl rfl ?_
        refine x_getM (a := 110) dX12_goesOn_147 rfl fX12_255 hC rfl f14 ?_
        refine x_lcmp dX12_goesOn_150 rfl ?_
        refine x_if_le (tgt := 160) dX12_goesOn_151 rfl rfl (fun c151 => ?_) (fun c151 => ?_)
        · have cc := (lg_cmp_le _ _).mp c151
          refine fin h4 _ (mV.rf hC) (fun q _ => rfl) ?_ rfl rfl
          rw [es, zMaxL_f (fun z => by rw [Int64.lt_iff_toInt_lt] at z; rw [Int64.le_iff_toInt_le] at cc; omega)]
          exact f14
        · have cc := mt (lg_cmp_le _ _).mpr c151
          obtain ⟨d1, d2, d3⟩ := mF_set (hC.setF (ci := 12) (a := 110) (kf := 14) (v := .long (100 * zInn r1 r1 8 / zInn s.2.1 s.2.1 8)) rfl NF_110_14 (by decide))
          refine x_aload_n (i := 0) dX12_goesOn_154 rfl rfl rfl ?_
          refine x_lload dX12_goesOn_155 rfl rfl ?_
          refine x_putC (a := 110) dX12_goesOn_157 rfl fX12_255 (fun q hq => by cases hq; rfl) hC rfl ⟨rfl, rfl⟩ ?_
          refine fin _ _ d1 d3 ?_ rfl rfl
          rw [es, zMaxL_t (by rw [Int64.lt_iff_toInt_lt]; rw [Int64.le_iff_toInt_le] at cc; omega)]
          exact d2) 0 (Nat.zero_le _)
  refine x_aload_n (i := 0) dX12_goesOn_0 rfl rfl rfl ?_
  refine x_bipush dX12_goesOn_1 rfl bC_18 ?_
  refine x_iload_n (i := 1) dX12_goesOn_3 rfl rfl rfl ?_
  refine x_callV0 (ci := 12) (b := 110) (As := [_, _]) (d2 := d - 1) dX12_goesOn_4 rfl kX12_182 okX12_becomes (hC.o rfl) (fun q hq => by cases hq; rfl) (by omega) rfl rfl (Nat.le_of_ble_eq_true rfl) (m_becomes hC (t := 18) (by decide) hx (fun h1 v1 e1 => ?_))
  have hC := v1.1
  refine x_aload_n (i := 0) dX12_goesOn_7 rfl rfl rfl ?_
  refine x_bipush dX12_goesOn_8 rfl bC_19 ?_
  refine x_iload_n (i := 2) dX12_goesOn_10 rfl rfl rfl ?_
  refine x_callV0 (ci := 12) (b := 110) (As := [_, _]) (d2 := d - 1) dX12_goesOn_11 rfl kX12_182 okX12_becomes (hC.o rfl) (fun q hq => by cases hq; rfl) (by omega) rfl rfl (Nat.le_of_ble_eq_true rfl) (m_becomes hC (t := 19) (by decide) (by omega) (fun h2 v2 e2 => ?_))
  have hC := v2.1
  have w2 := (v1.tr v2).sub (P2 := [16, 17, 18, 19, 20]) (C2 := [113, 119, 120, 110]) (by simp) (by simp)
  have p18 : pl h2 18 = pl h x := by rw [v2.pp (by decide) (by decide), e1]
  have p19 : pl h2 19 = pl h y := by rw [e2, v1.pp (by omega) (by simp; omega)]
  have ff2 : ∀ q, (h2.1 110).2.2 q = (h.1 110).2.2 q := fun q => by rw [v2.f (by decide), v1.f (by decide)]
  obtain ⟨a1, a2, a3⟩ := mF_set (hC.setF (ci := 12) (a := 110) (kf := 12) (v := .int (nI 0)) rfl NF_110_12 (by decide))
  refine x_aload_n (i := 0) dX12_goesOn_14 rfl rfl rfl ?_
  refine x_iconst dX12_goesOn_15 rfl iC_0 ?_
  refine x_putC (a := 110) dX12_goesOn_16 rfl fX12_248 (fun q hq => by cases hq; rfl) hC rfl ⟨rfl, rfl⟩ ?_
  show xWP G l mX12_goesOn d (zM G Q) 0 0 19 _ [] (hs h2 110 (112, 0, updV (h2.1 110).2.2 12 (.int (nI 0))))
  generalize hs h2 110 (112, 0, updV (h2.1 110).2.2 12 (.int (nI 0))) = h3 at a1 a2 a3 ⊢
  have hC := a1.1
  obtain ⟨b1, b2, b3⟩ := mF_set (hC.setF (ci := 12) (a := 110) (kf := 13) (v := .long 0) rfl NF_110_13 (by decide))
  refine x_aload_n (i := 0) dX12_goesOn_19 rfl rfl rfl ?_
  refine x_lconst dX12_goesOn_20 rfl lC_0 ?_
  refine x_putC (a := 110) dX12_goesOn_21 rfl fX12_251 (fun q hq => by cases hq; rfl) hC rfl ⟨rfl, rfl⟩ ?_
  show xWP G l mX12_goesOn d (zM G Q) 0 0 24 _ [] (hs h3 110 (112, 0, updV (h3.1 110).2.2 13 (.long 0)))
  generalize hs h3 110 (112, 0, updV (h3.1 110).2.2 13 (.long 0)) = h4 at b1 b2 b3 ⊢
  have hC := b1.1
  obtain ⟨c1, c2, c3⟩ := mF_set (hC.setF (ci := 12) (a := 110) (kf := 14) (v := .long 0) rfl NF_110_14 (by decide))
  refine x_aload_n (i := 0) dX12_goesOn_24 rfl rfl rfl ?_
  refine x_lconst dX12_goesOn_25 rfl lC_0 ?_
  refine x_putC (a := 110) dX12_goesOn_26 rfl fX12_255 (fun q hq => by cases hq; rfl) hC rfl ⟨rfl, rfl⟩ ?_
  show xWP G l mX12_goesOn d (zM G Q) 0 0 29 _ [] (hs h4 110 (112, 0, updV (h4.1 110).2.2 14 (.long 0)))
  generalize hs h4 110 (112, 0, updV (h4.1 110).2.2 14 (.long 0)) = h5 at c1 c2 c3 ⊢
  have hC := c1.1
  have w5 := (((w2.tr a1).tr b1).tr c1).sub (P2 := [16, 17, 18, 19, 20]) (C2 := [113, 119, 120, 110]) (by simp) (by simp)
  have p18 : pl h5 18 = pl h x := by rw [c1.pp (by decide) (by decide), b1.pp (by decide) (by decide), a1.pp (by decide) (by decide), p18]
  have p19 : pl h5 19 = pl h y := by rw [c1.pp (by decide) (by decide), b1.pp (by decide) (by decide), a1.pp (by decide) (by decide), p19]
  have f5 : ∀ q, q < 12 ∨ 15 ≤ q → (h5.1 110).2.2 q = (h.1 110).2.2 q := fun q hq => by rw [c3 q (by omega), b3 q (by omega), a3 q (by omega), ff2]
  have f12 : (h5.1 110).2.2 12 = .int (nI 0) := by rw [c3 _ (by decide), b3 _ (by decide), a2]
  have rest : ∀ n, ((n = 1 ∧ ¬ isZ (wkL ((pl h x, pl h y, 0), 0))) ∨ (n = 0 ∧ isZ (wkL ((pl h x, pl h y, 0), 0)))) → ∀ L, L 0 = some (.ref 110) → xWP G l mX12_goesOn d (zM G Q) 0 0 53 L [.int (nI n), .ref 110] h5 := by
    intro n hn L l0
    refine x_to (r := [(0, .ref 110)]) ?_ ⟨l0, trivial⟩
    obtain ⟨d1, d2, d3⟩ := mF_set (hC.setF (ci := 12) (a := 110) (kf := 15) (v := .int (nI n)) rfl NF_110_15 (by decide))
    refine x_putC (a := 110) dX12_goesOn_53 rfl fX12_261 (fun q hq => by cases hq; rfl) hC rfl (by rcases hn with ⟨e, -⟩ | ⟨e, -⟩ <;> rw [e] <;> exact ⟨rfl, rfl⟩) ?_
    show xWP G l mX12_goesOn d (zM G Q) 0 0 56 _ [] (hs h5 110 (112, 0, updV (h5.1 110).2.2 15 (.int (nI n))))
    generalize hs h5 110 (112, 0, updV (h5.1 110).2.2 15 (.int (nI n))) = h6 at d1 d2 d3 ⊢
    have hC := d1.1
    have p19' : pl h6 19 = pl h y := by rw [d1.pp (by decide) (by decide), p19]
    have p18' : pl h6 18 = pl h x := by rw [d1.pp (by decide) (by decide), p18]
    have end' : ∀ h7 L, mV [20] [] h6 h7 → pl h7 20 = c8 (wkL ((pl h x, pl h y, 0), 0)) → L 0 = some (.ref 110) → xWP G l mX12_goesOn d (zM G Q) 0 0 78 L [] h7 := by
      intro h7 L v7 e7 l0
      refine x_to (r := [(0, .ref 110)]) ?_ ⟨l0, trivial⟩
      have hC := v7.1
      have ff7 := v7.f (by decide)
      refine x_iconst dX12_goesOn_78 rfl iC_1 ?_
      refine x_istore_n (i := 3) dX12_goesOn_79 rfl rfl (by decide) ?_
      refine x_to (key h7 (pl h x, pl h y, 0) ⟨((w5.tr d1).tr v7).sub (by simp) (by simp), fun q hq => by rw [ff7, d3 q (by omega), f5 q (by omega)], by rw [ff7, d3 _ (by decide), f12], Or.inl rfl, by rw [ff7, d3 _ (by decide), c2], ?_, by rw [v7.pp (by decide) (by decide), p18', pl_c8], by rw [v7.pp (by decide) (by decide), p19', pl_c8], e7⟩ (hB y (by omega)) hRR.symm) ⟨rfl, rfl, trivial⟩
      rw [ff7, d2]
      rcases hn with ⟨e, z⟩ | ⟨e, z⟩
      · exact Or.inl ⟨z, by rw [e]⟩
      · exact Or.inr ⟨z, by rw [e]⟩
    refine x_aload_n (i := 0) dX12_goesOn_56 rfl rfl rfl ?_
    refine x_bipush dX12_goesOn_57 rfl bC_20 ?_
    refine x_aload_n (i := 0) dX12_goesOn_59 rfl rfl rfl ?_
    refine x_bipush dX12_goesOn_60 rfl bC_19 ?_
    refine x_callV0 (ci := 12) (b := 110) (As := [_]) (d2 := d - 1) dX12_goesOn_62 rfl kX12_258 okX12_isNought (hC.o rfl) (fun q hq => by cases hq; rfl) (by omega) rfl rfl (Nat.le_of_ble_eq_true rfl) (m_isNought hC (x := 19) (by decide) (fun z => ?_) (fun z => ?_))
    · rw [p19'] at z
      refine x_if_eq_f (tgt := 73) dX12_goesOn_65 rfl rfl nb1 ?_
      refine x_bipush dX12_goesOn_68 rfl bC_18 ?_
      refine x_goto (tgt := 75) dX12_goesOn_70 rfl ?_
      refine x_callV0 (ci := 12) (b := 110) (As := [_, _]) (d2 := d - 1) dX12_goesOn_75 rfl kX12_182 okX12_becomes (hC.o rfl) (fun q hq => by cases hq; rfl) (by omega) rfl rfl (Nat.le_of_ble_eq_true rfl) (m_becomes hC (t := 20) (x := 18) (by decide) (by decide) (fun h7 v7 e7 => ?_))
      exact end' h7 _ v7 (by rw [wkL_t z, e7, p18', pl_c8]) rfl
    · rw [p19'] at z
      refine x_if_eq_t (tgt := 73) dX12_goesOn_65 rfl nI_0 ?_
      refine x_bipush dX12_goesOn_73 rfl bC_19 ?_
      refine x_callV0 (ci := 12) (b := 110) (As := [_, _]) (d2 := d - 1) dX12_goesOn_75 rfl kX12_182 okX12_becomes (hC.o rfl) (fun q hq => by cases hq; rfl) (by omega) rfl rfl (Nat.le_of_ble_eq_true rfl) (m_becomes hC (t := 20) (x := 19) (by decide) (by decide) (fun h7 v7 e7 => ?_))
      exact end' h7 _ v7 (by rw [wkL_f z, e7, p19', pl_c8]) rfl
  refine x_aload_n (i := 0) dX12_goesOn_29 rfl rfl rfl ?_
  refine x_aload_n (i := 0) dX12_goesOn_30 rfl rfl rfl ?_
  refine x_bipush dX12_goesOn_31 rfl bC_18 ?_
  refine x_callV0 (ci := 12) (b := 110) (As := [_]) (d2 := d - 1) dX12_goesOn_33 rfl kX12_258 okX12_isNought (hC.o rfl) (fun q hq => by cases hq; rfl) (by omega) rfl rfl (Nat.le_of_ble_eq_true rfl) (m_isNought hC (x := 18) (by decide) (fun z => ?_) (fun z => ?_))
  · rw [p18] at z
    refine x_if_eq_f (tgt := 48) dX12_goesOn_36 rfl rfl nb1 ?_
    refine x_aload_n (i := 0) dX12_goesOn_39 rfl rfl rfl ?_
    refine x_bipush dX12_goesOn_40 rfl bC_19 ?_
    refine x_callV0 (ci := 12) (b := 110) (As := [_]) (d2 := d - 1) dX12_goesOn_42 rfl kX12_258 okX12_isNought (hC.o rfl) (fun q hq => by cases hq; rfl) (by omega) rfl rfl (Nat.le_of_ble_eq_true rfl) (m_isNought hC (x := 19) (by decide) (fun z2 => ?_) (fun z2 => ?_))
    · rw [p19] at z2
      refine x_if_ne_t (tgt := 52) dX12_goesOn_45 rfl nb1 ?_
      refine x_iconst dX12_goesOn_52 rfl iC_0 ?_
      exact rest 0 (Or.inr ⟨rfl, by rw [wkL_t z2]; exact z⟩) _ rfl
    · rw [p19] at z2
      refine x_if_ne_f (tgt := 52) dX12_goesOn_45 rfl rfl nI_0 ?_
      refine x_iconst dX12_goesOn_48 rfl iC_1 ?_
      refine x_goto (tgt := 53) dX12_goesOn_49 rfl ?_
      exact rest 1 (Or.inl ⟨rfl, by rw [wkL_f z2]; exact z2⟩) _ rfl
  · rw [p18] at z
    refine x_if_eq_t (tgt := 48) dX12_goesOn_36 rfl nI_0 ?_
    refine x_iconst dX12_goesOn_48 rfl iC_1 ?_
    refine x_goto (tgt := 53) dX12_goesOn_49 rfl ?_
    refine rest 1 (Or.inl ⟨rfl, ?_⟩) _ rfl
    by_cases z2 : isZ (pl h y)
    · rw [wkL_t z2]; exact z
    · rw [wkL_f z2]; exact z2
theorem n_last {a1 a2 a3 : Int32} (hd : 10 ≤ d) (hR : RM h S) (K : ∀ r S2 h2, sp_last S a1 a2 a3 = (r, S2) → RM h2 S2 → cF h h2 → Q (some (.int r)) h2) : xCt G l mX12_last d [.ref 110, .int a1, .int a2, .int a3] h 0 0 Q := by
  have hC := hR.1
  refine xCt_of (by decide) (Nat.le_of_ble_eq_true rfl) ?_
  refine x_iload_n (i := 1) dX12_last_0 rfl rfl rfl ?_
  refine x_iload_n (i := 2) dX12_last_1 rfl rfl rfl ?_
  refine x_iload_n (i := 3) dX12_last_2 rfl rfl rfl ?_
  refine x_callS0 (As := [_, _, _]) (d2 := d - 1) dX12_last_3 rfl kX12_189 okX12_areSlots (by omega) rfl rfl (Nat.le_of_ble_eq_true rfl) (m_areSlots (by omega) (fun z => ?_) (fun t x y ht hx hy et ex ey qt qx qy => ?_))
  · refine x_if_ne_f (tgt := 11) dX12_last_6 rfl rfl nI_0 ?_
    refine x_iconst dX12_last_9 rfl iC_m1 ?_
    refine x_ireturn dX12_last_10 rfl rfl ?_
    exact K _ _ _ (by rcases z with z | ⟨i, z0, z⟩ | ⟨i, i2, z0, z1, z⟩; exact (by simp only [sp_last, z] <;> rfl); exact (by simp only [sp_last, z0, z] <;> rfl); exact (by simp only [sp_last, z0, z1, z] <;> rfl)) hR (cF.rf hC)
  subst et ex ey
  refine x_if_ne_t (tgt := 11) dX12_last_6 rfl nb1 ?_
  obtain ⟨W, hW⟩ : ∃ W, wkR S x y = W := ⟨_, rfl⟩
  refine x_aload_n (i := 0) dX12_last_11 rfl rfl rfl ?_
  refine x_iload_n (i := 2) dX12_last_12 rfl rfl rfl ?_
  refine x_iload_n (i := 3) dX12_last_13 rfl rfl rfl ?_
  refine x_callV0 (ci := 12) (b := 110) (As := [_, _]) (d2 := d - 1) dX12_last_14 rfl kX12_267 okX12_goesOn (hC.o rfl) (fun q hq => by cases hq; rfl) (by omega) rfl rfl (Nat.le_of_ble_eq_true rfl) (m_goesOn (by omega) hC hR.2.1.2 hR.2.1.1 hR.b (by omega) (by omega) (fun h2 s k er hk hg => ?_))
  rw [hR.p hx, hR.p hy] at er
  have e0 : W = (s, k) := hW.symm.trans er
  subst e0
  obtain ⟨g1, g2, g3, g4, g5, g6, g7, g8, g9⟩ := hg
  have hC := g1.1
  have r2 : RM h2 S := hR.go g1 (by simp) (by simp [mN]) g2
  rcases g6 with ⟨z, f15⟩ | ⟨z, f15⟩
  · refine x_aload_n (i := 0) dX12_last_17 rfl rfl rfl ?_
    refine x_aload_n (i := 0) dX12_last_18 rfl rfl rfl ?_
    refine x_getM (a := 110) dX12_last_19 rfl fX12_261 hC rfl f15 ?_
    refine x_iload_n (i := 1) dX12_last_22 rfl rfl rfl ?_
    refine x_bipush dX12_last_23 rfl bC_20 ?_
    refine x_callV0 (ci := 12) (b := 110) (As := [_, _, _]) (d2 := d - 1) dX12_last_25 rfl kX12_213 okX12_ends (hC.o rfl) (fun q hq => by cases hq; rfl) (by omega) rfl rfl (Nat.le_of_ble_eq_true rfl) (m_ends1 (by omega) hC (by omega) (x := 20) (by decide) (fun h3 v3 e3 => ?_))
    refine x_ireturn dX12_last_28 rfl rfl ?_
    rw [← hW] at z g9
    exact K (nI 1) (sSet S t (wkL (wkR S x y))) _ (by simp only [sp_last, qt, qx, qy]; exact if_neg z) (r2.set ht v3 (by simp) (by simp) (by rw [e3, g9])) ((g1.c (by simp)).tr (v3.c (by simp)))
  · refine x_aload_n (i := 0) dX12_last_17 rfl rfl rfl ?_
    refine x_aload_n (i := 0) dX12_last_18 rfl rfl rfl ?_
    refine x_getM (a := 110) dX12_last_19 rfl fX12_261 hC rfl f15 ?_
    refine x_iload_n (i := 1) dX12_last_22 rfl rfl rfl ?_
    refine x_bipush dX12_last_23 rfl bC_20 ?_
    refine x_callV0 (ci := 12) (b := 110) (As := [_, _, _]) (d2 := d - 1) dX12_last_25 rfl kX12_213 okX12_ends (hC.o rfl) (fun q hq => by cases hq; rfl) (by omega) rfl rfl (Nat.le_of_ble_eq_true rfl) (m_ends0 (by omega) ?_)
    refine x_ireturn dX12_last_28 rfl rfl ?_
    rw [← hW] at z
    exact K _ _ _ (by simp only [sp_last, qt, qx, qy]; exact if_pos z) r2 (g1.c (by simp))
theorem n_rests {a1 a2 n : Int32} (hd : 10 ≤ d) (hR : RM h S) (K : ∀ r S2 h2, sp_rests S a1 a2 n = (r, S2) → RM h2 S2 → cF h h2 → Q (some (.int r)) h2) : xCt G l mX12_rests d [.ref 110, .int a1, .int a2, .int n] h 0 0 Q := by
  have hC := hR.1
  refine xCt_of (by decide) (Nat.le_of_ble_eq_true rfl) ?_
  refine x_iload_n (i := 1) dX12_rests_0 rfl rfl rfl ?_
  refine x_callS0 (As := [_]) (d2 := d - 1) dX12_rests_1 rfl kX12_165 okX12_isSlot (by omega) rfl rfl (Nat.le_of_ble_eq_true rfl) (m_isSlot (by omega) (fun z => ?_) (fun x hx ex qx => ?_))
  · refine x_if_eq_t (tgt := 26) dX12_rests_4 rfl nI_0 ?_
    refine x_iconst dX12_rests_26 rfl iC_m1 ?_
    refine x_ireturn dX12_rests_27 rfl rfl ?_
    exact K _ _ _ (by simp only [sp_rests, z] <;> rfl) hR (cF.rf hC)
  subst ex
  refine x_if_eq_f (tgt := 26) dX12_rests_4 rfl rfl nb1 ?_
  refine x_iload_n (i := 2) dX12_rests_7 rfl rfl rfl ?_
  refine x_callS0 (As := [_]) (d2 := d - 1) dX12_rests_8 rfl kX12_165 okX12_isSlot (by omega) rfl rfl (Nat.le_of_ble_eq_true rfl) (m_isSlot (by omega) (fun z => ?_) (fun y hy ey qy => ?_))
  · refine x_if_eq_t (tgt := 26) dX12_rests_11 rfl nI_0 ?_
    refine x_iconst dX12_rests_26 rfl iC_m1 ?_
    refine x_ireturn dX12_rests_27 rfl rfl ?_
    exact K _ _ _ (by simp only [sp_rests, qx, z] <;> rfl) hR (cF.rf hC)
  subst ey
  refine x_if_eq_f (tgt := 26) dX12_rests_11 rfl rfl nb1 ?_
  refine x_iload_n (i := 3) dX12_rests_14 rfl rfl rfl ?_
  refine x_i2l dX12_rests_15 rfl ?_
  refine x_lconst dX12_rests_16 rfl lC_0 ?_
  refine x_ldc2 dX12_rests_17 rfl cX12_103 ?_
  refine x_callS0 (As := [_, _, _]) (d2 := d - 1) dX12_rests_20 rfl kX12_95 okX12_in (by omega) rfl rfl (Nat.le_of_ble_eq_true rfl) (m_in (lo := 0) (hi := 2) (by decide) (by decide) (by decide) (fun z => ?_) (fun m lm hm em qm => ?_))
  · refine x_if_ne_f (tgt := 28) dX12_rests_23 rfl rfl nI_0 ?_
    refine x_iconst dX12_rests_26 rfl iC_m1 ?_
    refine x_ireturn dX12_rests_27 rfl rfl ?_
    exact K _ _ _ (by simp only [sp_rests, qx, qy, z] <;> rfl) hR (cF.rf hC)
  subst em
  refine x_if_ne_t (tgt := 28) dX12_rests_23 rfl nb1 ?_
  obtain ⟨W, hW⟩ : ∃ W, wkR S x y = W := ⟨_, rfl⟩
  refine x_aload_n (i := 0) dX12_rests_28 rfl rfl rfl ?_
  refine x_iload_n (i := 1) dX12_rests_29 rfl rfl rfl ?_
  refine x_iload_n (i := 2) dX12_rests_30 rfl rfl rfl ?_
  refine x_callV0 (ci := 12) (b := 110) (As := [_, _]) (d2 := d - 1) dX12_rests_31 rfl kX12_267 okX12_goesOn (hC.o rfl) (fun q hq => by cases hq; rfl) (by omega) rfl rfl (Nat.le_of_ble_eq_true rfl) (m_goesOn (by omega) hC hR.2.1.2 hR.2.1.1 hR.b (by omega) (by omega) (fun h2 s k er hk hg => ?_))
  rw [hR.p hx, hR.p hy] at er
  have e0 : W = (s, k) := hW.symm.trans er
  subst e0
  obtain ⟨g1, g2, g3, g4, g5, g6, g7, g8, g9⟩ := hg
  have hC := g1.1
  have r2 : RM h2 S := hR.go g1 (by simp) (by simp [mN]) g2
  rcases (show m = 0 ∨ m = 1 ∨ m = 2 by omega) with rfl | rfl | rfl
  · refine x_iload_n (i := 3) dX12_rests_34 rfl rfl rfl ?_
    refine x_if_ne_f (tgt := 45) dX12_rests_35 rfl rfl nI_0 ?_
    refine x_aload_n (i := 0) dX12_rests_38 rfl rfl rfl ?_
    refine x_getM (a := 110) dX12_rests_39 rfl fX12_248 hC rfl g3 ?_
    refine x_goto (tgt := 78) dX12_rests_42 rfl ?_
    refine x_ireturn dX12_rests_78 rfl rfl ?_
    exact K _ _ _ (by simp only [sp_rests, qx, qy, qm, hW]) r2 (g1.c (by simp))
  · refine x_iload_n (i := 3) dX12_rests_34 rfl rfl rfl ?_
    refine x_if_ne_t (tgt := 45) dX12_rests_35 rfl nb1 ?_
    refine x_iload_n (i := 3) dX12_rests_45 rfl rfl rfl ?_
    refine x_iconst dX12_rests_46 rfl iC_1 ?_
    refine x_ic_ne_f (tgt := 71) dX12_rests_47 rfl rfl rfl ?_
    refine x_aload_n (i := 0) dX12_rests_50 rfl rfl rfl ?_
    refine x_getM (a := 110) dX12_rests_51 rfl fX12_248 hC rfl g3 ?_
    by_cases k0 : k = 0
    · subst k0
      refine x_if_ne_f (tgt := 61) dX12_rests_54 rfl rfl nI_0 ?_
      refine x_iconst dX12_rests_57 rfl iC_m1 ?_
      refine x_goto (tgt := 78) dX12_rests_58 rfl ?_
      refine x_ireturn dX12_rests_78 rfl rfl ?_
      exact K _ _ _ (by simp only [sp_rests, qx, qy, qm, hW]; rfl) r2 (g1.c (by simp))
    · have f13 := g4.resolve_left k0
      refine x_if_ne_t (tgt := 61) dX12_rests_54 rfl (fun e => k0 ((nI_eq (by omega) (by omega)).mp (e.trans nI_0.symm))) ?_
      refine x_aload_n (i := 0) dX12_rests_61 rfl rfl rfl ?_
      refine x_getM (a := 110) dX12_rests_62 rfl fX12_251 hC rfl f13 ?_
      refine x_callS0 (As := [_]) (d2 := d - 1) dX12_rests_65 rfl kX12_270 okX12_held (by omega) rfl rfl (Nat.le_of_ble_eq_true rfl) (m_held ?_)
      refine x_goto (tgt := 78) dX12_rests_68 rfl ?_
      refine x_ireturn dX12_rests_78 rfl rfl ?_
      exact K _ _ _ (by simp only [sp_rests, qx, qy, qm, hW]; rw [if_neg k0]) r2 (g1.c (by simp))
  · refine x_iload_n (i := 3) dX12_rests_34 rfl rfl rfl ?_
    refine x_if_ne_t (tgt := 45) dX12_rests_35 rfl (by decide) ?_
    refine x_iload_n (i := 3) dX12_rests_45 rfl rfl rfl ?_
    refine x_iconst dX12_rests_46 rfl iC_1 ?_
    refine x_ic_ne_t (tgt := 71) dX12_rests_47 rfl (by decide) ?_
    refine x_aload_n (i := 0) dX12_rests_71 rfl rfl rfl ?_
    refine x_getM (a := 110) dX12_rests_72 rfl fX12_255 hC rfl g5 ?_
    refine x_callS0 (As := [_]) (d2 := d - 1) dX12_rests_75 rfl kX12_270 okX12_held (by omega) rfl rfl (Nat.le_of_ble_eq_true rfl) (m_held ?_)
    refine x_ireturn dX12_rests_78 rfl rfl ?_
    exact K _ _ _ (by simp only [sp_rests, qx, qy, qm, hW]) r2 (g1.c (by simp))
end MOD

