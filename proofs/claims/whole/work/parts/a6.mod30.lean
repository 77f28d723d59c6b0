/-! EightPartsModel: what units make is laid -/
theorem RM.fl {h h2 : xH} {S : St} {P C : List Nat} (hR : RM h S) (hv : mV P C h h2) (hP : ∀ q ∈ P, 9 ≤ q) (hC : ∀ q ∈ C, ¬ mNw q ∧ q ≠ 130) (f4 : (h2.1 110).2.2 4 = (h.1 110).2.2 4) (f20 : (h2.1 110).2.2 20 = (h.1 110).2.2 20) (f32 : (h2.1 110).2.2 32 = (h.1 110).2.2 32) (f37 : (h2.1 110).2.2 37 = (h.1 110).2.2 37) : RM h2 S := by
  refine (hR.w.sc hv hP (fun q hq => (hC q hq).1) f4 f20 f37).m ?_
  have e : iv h2 130 = iv h 130 := hv.2.1.iv (by
    simp only [List.mem_cons, not_or]
    exact ⟨by omega, fun z => (hC 130 z).2 rfl⟩)
  unfold mTbl
  rw [f32, e]
  exact hR.2.2.2.2.2.1
def uJ (h : xH) (s : mS) : Prop := (h.1 110).2.2 35 = .int (nI s.1) ∧ s.1 ≤ 240 ∧ (∀ j, j < s.1 → s.2 j < 240 ∧ iv h 132 j = nI (s.2 j)) ∧ ∀ u, u < 240 → (iv h 131 u = nI 1 ∧ mIn s u) ∨ (iv h 131 u = nI 0 ∧ ¬ mIn s u)
theorem uJ.keep {h h2 : xH} {s : mS} (hJ : uJ h s) (f : (h2.1 110).2.2 35 = (h.1 110).2.2 35) (e1 : iv h2 131 = iv h 131) (e2 : iv h2 132 = iv h 132) : uJ h2 s := by
  obtain ⟨j1, j2, j3, j4⟩ := hJ
  exact ⟨f.trans j1, j2, by rw [e2]; exact j3, by rw [e1]; exact j4⟩
/-- what stays while units are added -/
def mK (h0 h : xH) (S : St) : Prop := RM h S ∧ cF h0 h ∧ mTb h S.2.1
theorem mK.ad {h0 h h2 : xH} {S : St} (k : mK h0 h S) (hC : Cs h2) (s : xSm [131, 132, 110] h h2) (f : ∀ q, q ≠ 35 → (h2.1 110).2.2 q = (h.1 110).2.2 q) : mK h0 h2 S := by
  have hv : mV [] [131, 132, 110] h h2 := mV_o hC s (by decide)
  refine ⟨k.1.fl hv (by simp) (by simp [mNw]) (f 4 (by decide)) (f 20 (by decide)) (f 32 (by decide)) (f 37 (by decide)), k.2.1.tr (hv.c (by simp)), ?_⟩
  unfold mTb
  rw [s.iv (by decide)]
  exact k.2.2
section MOD
variable {G : xG} {l : Launch} {d : Nat} {h : xH} {Q : Option Value → xH → Prop} {S : St}
theorem m_adds1 {u : Nat} {s : mS} (hC : Cs h) (hJ : uJ h s) (hu : u < 240) (hf : s.1 = 240 → mIn s u) (K : ∀ h2, Cs h2 → uJ h2 (mAdd s u) → xSm [131, 132, 110] h h2 → (∀ q, q ≠ 35 → (h2.1 110).2.2 q = (h.1 110).2.2 q) → Q none h2) : xCt G l mX12_adds_ d [.ref 110, .int (nI u)] h 0 0 Q := by
  have v1 := hC.z (a := 131) rfl
  have v2 := hC.v (a := 132) rfl
  have hJ0 := hJ
  obtain ⟨j1, j2, j3, j4⟩ := hJ
  refine xCt_of (by decide) (Nat.le_of_ble_eq_true rfl) ?_
  refine x_aload_n (i := 0) dX12_adds__0 rfl rfl rfl ?_
  refine x_getC dX12_adds__1 rfl fX12_84 hC rfl F_110_33 ?_
  refine x_iload_n (i := 1) dX12_adds__4 rfl rfl rfl ?_
  refine x_zald dX12_adds__5 rfl (by first | assumption | exact hs_eq | exact hs_ne (by first | assumption | decide | omega) (by first | assumption | exact hs_eq | exact hs_ne (by first | assumption | decide | omega) (by first | assumption | exact hs_eq | exact hs_ne (by first | assumption | decide | omega) (by assumption)))) rfl (by omega) (by decide) ?_
  refine x_if_eq (tgt := 10) dX12_adds__6 rfl rfl (fun c6 => ?_) (fun c6 => ?_)
  rotate_left
  · have hy : mIn s u := by
      rcases j4 u hu with ⟨q1, q2⟩ | ⟨q1, q2⟩
      · exact q2
      · exact absurd (q1.trans nI_0) c6
    refine x_return dX12_adds__9 rfl ?_
    exact K h hC (by rw [mAdd_n (Or.inr hy)]; exact hJ0) (xSm.rf.sub (by simp)) (fun _ _ => rfl)
  have ny : ¬ mIn s u := by
    rcases j4 u hu with ⟨q1, q2⟩ | ⟨q1, q2⟩
    · rw [q1] at c6
      exact absurd c6 nb1
    · exact q2
  have hn : ¬ (s.1 = 240 ∨ mIn s u) := by
    rintro (z | z)
    · exact ny (hf z)
    · exact ny z
  have l240 : s.1 < 240 := by
    have : ¬ s.1 = 240 := fun z => hn (Or.inl z)
    omega
  have hC1 := hC.setI (f := upd (iv h 131) u (nI 1)) v1 (Or.inr (Or.inl rfl)) (by decide)
  have hC2 := hC1.setI (f := upd (iv h 132) s.1 (nI u)) (hs_ne (by decide) v2) (Or.inl rfl) (by decide)
  have g1 : ((hs h 131 (2, 240, xI (upd (iv h 131) u (nI 1)))).1 110).2.2 35 = .int (nI s.1) := (fv_n (by decide)).trans j1
  have g2 : ((hs (hs h 131 (2, 240, xI (upd (iv h 131) u (nI 1)))) 132 (0, 240, xI (upd (iv h 132) s.1 (nI u)))).1 110).2.2 35 = .int (nI s.1) := (fv_n (by decide)).trans g1
  refine x_aload_n (i := 0) dX12_adds__10 rfl rfl rfl ?_
  refine x_getC dX12_adds__11 rfl fX12_84 hC rfl F_110_33 ?_
  refine x_iload_n (i := 1) dX12_adds__14 rfl rfl rfl ?_
  refine x_iconst dX12_adds__15 rfl iC_1 ?_
  refine x_zast dX12_adds__16 rfl (by first | assumption | exact hs_eq | exact hs_ne (by first | assumption | decide | omega) (by first | assumption | exact hs_eq | exact hs_ne (by first | assumption | decide | omega) (by first | assumption | exact hs_eq | exact hs_ne (by first | assumption | decide | omega) (by assumption)))) rfl (by omega) (by decide) (by decide) ?_
  refine x_aload_n (i := 0) dX12_adds__17 rfl rfl rfl ?_
  refine x_getC dX12_adds__18 rfl fX12_87 hC1 rfl F_110_34 ?_
  refine x_aload_n (i := 0) dX12_adds__21 rfl rfl rfl ?_
  refine x_getM (a := 110) dX12_adds__22 rfl fX12_367 hC1 rfl g1 ?_
  refine x_iload_n (i := 1) dX12_adds__25 rfl rfl rfl ?_
  refine x_iast dX12_adds__26 rfl (hs_ne (by decide) v2) rfl (by omega) (by decide) ?_
  refine x_aload_n (i := 0) dX12_adds__27 rfl rfl rfl ?_
  refine x_dup dX12_adds__28 rfl rfl ?_
  refine x_getM (a := 110) dX12_adds__29 rfl fX12_367 hC2 rfl g2 ?_
  refine x_iconst dX12_adds__32 rfl iC_1 ?_
  refine x_iadd dX12_adds__33 rfl ?_
  rw [show nI s.1 + nI 1 = nI (s.1 + 1) from nI_add _ 1]
  refine x_putC (a := 110) dX12_adds__34 rfl fX12_367 (fun q hq => by cases hq; rfl) hC2 rfl ⟨rfl, rfl⟩ ?_
  refine x_return dX12_adds__37 rfl ?_
  refine K _ (hC2.setF (ci := 12) rfl NF_110_35 (by decide)) ⟨?_, mAdd_le j2, fun j hj => ⟨mAdd_lt hu (fun j hj => (j3 j hj).1) j hj, ?_⟩, fun v hv => ?_⟩ (xSm.hs2.tr xSm.hs1) (fun k hk => ?_)
  · rw [mAdd_y hn]
    exact fv_eq
  · rw [mAdd_y hn] at hj ⊢
    have hj' : j < s.1 + 1 := hj
    rw [iv_n (by decide), iv_hs]
    show upd (iv h 132) s.1 (nI u) j = nI (if j = s.1 then u else s.2 j)
    unfold upd
    split
    · rfl
    · exact (j3 j (by omega)).2
  · rw [iv_n (by decide), iv_n (by decide), iv_hs]
    unfold upd
    split
    · next e => exact Or.inl ⟨rfl, (mAdd_in hn).mpr (Or.inr e)⟩
    · next e =>
      rcases j4 v hv with ⟨q1, q2⟩ | ⟨q1, q2⟩
      · exact Or.inl ⟨q1, (mAdd_in hn).mpr (Or.inl q2)⟩
      · exact Or.inr ⟨q1, fun z => by rcases (mAdd_in hn).mp z with y | y; exact q2 y; exact e y⟩
  · rw [fv_ne hk, fv_n (by decide), fv_n (by decide)]
/-- the members, as they rise -/
def uK (h : xH) (o : Nat) (s : mS) : Prop := (h.1 110).2.2 35 = .int (nI s.1) ∧ gS (lnN o 1) s ∧ ∀ u, u < 240 → mIn s u → iv h 132 (cN (mIn s) u) = nI u
/-- from where the units of the slots are laid -/
theorem w_close {s : mS} {F : mS} {h0 : xH} (hd : 1 ≤ d) (hF : gS (lnN S.2.1 1) F → ∀ h2, mK h0 h2 S → uK h2 S.2.1 F → Q (some (.int (nI 1))) h2) (hk : mK h0 h S) (hJ : uJ h s) (hg : gS (lnN S.2.1 1) s) (eF : clO (T0 S.2.1) (lnN S.2.1 1) 241 0 s = F) : xWP G l mX12_laysMade d (zM G Q) 0 0 96 (xls [(0, .ref 110), (2, .int (nI 0))]) [] h := by
  have ho8 := hk.1.2.1.1
  have n240 := ln_room S.2.1 ho8 1 (by decide)
  have r1 : zRoom 1 = 240 := rfl
  have zl := (zLst_n ho8 (show 1 < 4 by decide)).1
  have hT : ∀ a b, a < lnN S.2.1 1 → b < lnN S.2.1 1 → T0 S.2.1 a b < lnN S.2.1 1 := fun a b ha hb => (T0_t ho8 ha hb).1
  -- the members rise
  have rise : ∀ h1 s1, mK h0 h1 S → uJ h1 s1 → gS (lnN S.2.1 1) s1 → s1 = F → xWP G l mX12_laysMade d (zM G Q) 0 0 175 (xls [(0, .ref 110)]) [] h1 := by
    intro h1 s1 k1 J1 g1 e1
    subst e1
    have hC := k1.1.1
    have J14 := J1.2.2.2
    have v2 := hC.v (a := 132) rfl
    refine x_iconst dX12_laysMade_175 rfl iC_0 ?_
    refine x_istore_n (i := 2) dX12_laysMade_176 rfl rfl (by decide) ?_
    refine x_iconst dX12_laysMade_177 rfl iC_0 ?_
    refine x_istore_n (i := 3) dX12_laysMade_178 rfl rfl (by decide) ?_
    have key := xloop (P := fun k => ∀ f, (∀ u, u < k → mIn s1 u → f (cN (mIn s1) u) = nI u) → xWP G l mX12_laysMade d (zM G Q) 0 0 179 (xls [(0, .ref 110), (2, .int (nI (cN (mIn s1) k))), (3, .int (nI k))]) [] (hs h1 132 (0, 240, xI f))) 240 (by
      intro k hk ih f hf
      have hC2 := hC.setI (f := f) v2 (Or.inl rfl) (by decide)
      have v1 := hC2.z (a := 131) rfl
      have i1 : iv (hs h1 132 (0, 240, xI f)) 131 = iv h1 131 := iv_n (by decide)
      have cl := cN_le (mIn s1) k
      have hC := hC2
      refine x_iload_n (i := 3) dX12_laysMade_179 rfl rfl rfl ?_
      refine x_sipush dX12_laysMade_180 rfl sC_240 ?_
      refine x_jc_ge (tgt := 214) dX12_laysMade_183 rfl rfl (by omega) (by omega) (fun c183 => ?_) (fun c183 => ?_)
      · obtain rfl : k = 240 := by omega
        refine x_iconst dX12_laysMade_214 rfl iC_1 ?_
        refine x_ireturn dX12_laysMade_215 rfl rfl ?_
        refine hF g1 _ (k1.ad hC2 (xSm.hs1.sub (by simp)) (fun q _ => fv_n (by decide))) ⟨(fv_n (by decide)).trans J1.1, g1, fun u hu q => ?_⟩
        rw [iv_hs]
        exact hf u hu q
      · refine x_aload_n (i := 0) dX12_laysMade_186 rfl rfl rfl ?_
        refine x_getC dX12_laysMade_187 rfl fX12_84 hC rfl F_110_33 ?_
        refine x_iload_n (i := 3) dX12_laysMade_190 rfl rfl rfl ?_
        refine x_zald dX12_laysMade_191 rfl v1 rfl c183 (by decide) ?_
        rw [i1]
        rcases J14 k c183 with ⟨q1, q2⟩ | ⟨q1, q2⟩
        · rw [q1]
          refine x_if_ne_t (tgt := 198) dX12_laysMade_192 rfl nb1 ?_
          refine x_aload_n (i := 0) dX12_laysMade_198 rfl rfl rfl ?_
          refine x_getC dX12_laysMade_199 rfl fX12_87 hC rfl F_110_34 ?_
          refine x_iload_n (i := 2) dX12_laysMade_202 rfl rfl rfl ?_
          refine x_iload_n (i := 3) dX12_laysMade_203 rfl rfl rfl ?_
          refine x_iastT dX12_laysMade_204 rfl rfl (by omega) (by decide) ?_
          refine x_iinc dX12_laysMade_205 rfl rfl (inc1 _) ?_
          refine x_iinc dX12_laysMade_208 rfl rfl (inc1 _) ?_
          refine x_goto (tgt := 179) dX12_laysMade_211 rfl ?_
          refine x_to (ih c183 _ (fun u hu m => ?_)) ⟨rfl, by rw [cN_t q2]; rfl, rfl, trivial⟩
          unfold upd
          by_cases e : u = k
          · rw [e, if_pos rfl]
          · have := cN_lt (show u < k by omega) m
            rw [if_neg (by omega)]
            exact hf u (by omega) m
        · rw [q1]
          refine x_if_ne_f (tgt := 198) dX12_laysMade_192 rfl rfl nI_0 ?_
          refine x_goto (tgt := 208) dX12_laysMade_195 rfl ?_
          refine x_iinc dX12_laysMade_208 rfl rfl (inc1 _) ?_
          refine x_goto (tgt := 179) dX12_laysMade_211 rfl ?_
          refine x_to (ih c183 f (fun u hu m => ?_)) ⟨rfl, by rw [cN_f q2]; rfl, rfl, trivial⟩
          by_cases e : u = k
          · rw [e] at m; exact absurd m q2
          · exact hf u (by omega) m) 0 (Nat.zero_le _) (iv h1 132) (fun u hu => absurd hu (Nat.not_lt_zero u))
    rw [hs_self v2] at key
    exact x_to key ⟨rfl, rfl, rfl, trivial⟩
  have key := xloop (P := fun i => ∀ h1 s1, mK h0 h1 S → uJ h1 s1 → gS (lnN S.2.1 1) s1 → clO (T0 S.2.1) (lnN S.2.1 1) (241 - i) i s1 = F → xWP G l mX12_laysMade d (zM G Q) 0 0 96 (xls [(0, .ref 110), (2, .int (nI i))]) [] h1) 240 (by
    intro i hi ih h1 s1 k1 J1 g1 e1
    have hC := k1.1.1
    have j1 := J1.1
    have sl := gS_le g1
    refine x_iload_n (i := 2) dX12_laysMade_96 rfl rfl rfl ?_
    refine x_aload_n (i := 0) dX12_laysMade_97 rfl rfl rfl ?_
    refine x_getM (a := 110) dX12_laysMade_98 rfl fX12_367 hC rfl j1 ?_
    refine x_jc_ge (tgt := 175) dX12_laysMade_101 rfl rfl (by omega) (by omega) (fun c101 => ?_) (fun c101 => ?_)
    · exact x_to (rise h1 s1 k1 J1 g1 (by rw [← e1, clO_en (by omega)])) ⟨rfl, trivial⟩
    · have hi1 : i < s1.1 := by omega
      have st := clO_st hT g1 hi1 (240 - i)
      rw [show 240 - i + 1 = 241 - i by omega, e1] at st
      refine x_iconst dX12_laysMade_104 rfl iC_0 ?_
      refine x_istore_n (i := 3) dX12_laysMade_105 rfl rfl (by decide) ?_
      have keyI := xloop (P := fun k => ∀ h2, mK h0 h2 S → uJ h2 (clI (T0 S.2.1) i k s1) → xWP G l mX12_laysMade d (zM G Q) 0 0 106 (xls [(0, .ref 110), (2, .int (nI i)), (3, .int (nI k))]) [] h2) (i + 1) (by
        intro k hk ihI h2 k2 J2
        have hC := k2.1.1
        refine x_iload_n (i := 3) dX12_laysMade_106 rfl rfl rfl ?_
        refine x_iload_n (i := 2) dX12_laysMade_107 rfl rfl rfl ?_
        refine x_jc_gt (tgt := 169) dX12_laysMade_108 rfl rfl (by omega) (by omega) (fun c108 => ?_) (fun c108 => ?_)
        · obtain rfl : k = i + 1 := by omega
          refine x_iinc dX12_laysMade_169 rfl rfl (inc1 _) ?_
          refine x_goto (tgt := 96) dX12_laysMade_172 rfl ?_
          exact x_to (ih (by omega) h2 _ k2 J2 (gS_clI hT g1 hi1 (i + 1) (Nat.le_refl _)) (by rw [show 241 - (i + 1) = 240 - i by omega]; exact st)) ⟨rfl, rfl, trivial⟩
        · have hk1 : k < s1.1 := by omega
          have g2 := gS_clI hT g1 hi1 k (by omega)
          have ge := clI_ge (T0 S.2.1) i s1 k
          have v130 := hC.v (a := 130) rfl
          have v132 := hC.v (a := 132) rfl
          have a1 : iv h2 132 i = nI (s1.2 i) := by rw [(J2.2.2.1 i (by omega)).2, clI_at _ _ _ hi1]
          have a2 : iv h2 132 k = nI (s1.2 k) := by rw [(J2.2.2.1 k (by omega)).2, clI_at _ _ _ hk1]
          have b1 := g1.1 i hi1
          have b2 := g1.1 k hk1
          have t1 := (T0_t ho8 b1 b2).1
          have t2 := (T0_t ho8 b2 b1).1
          refine x_aload_n (i := 0) dX12_laysMade_111 rfl rfl rfl ?_
          refine x_aload_n (i := 0) dX12_laysMade_112 rfl rfl rfl ?_
          refine x_getC dX12_laysMade_113 rfl fX12_78 hC rfl F_110_31 ?_
          refine x_sipush dX12_laysMade_116 rfl sC_240 ?_
          refine x_aload_n (i := 0) dX12_laysMade_119 rfl rfl rfl ?_
          refine x_getC dX12_laysMade_120 rfl fX12_87 hC rfl F_110_34 ?_
          refine x_iload_n (i := 2) dX12_laysMade_123 rfl rfl rfl ?_
          refine x_iald dX12_laysMade_124 rfl v132 rfl (by omega) (by decide) ?_
          rw [a1]
          refine x_imul dX12_laysMade_125 rfl ?_
          refine x_aload_n (i := 0) dX12_laysMade_126 rfl rfl rfl ?_
          refine x_getC dX12_laysMade_127 rfl fX12_87 hC rfl F_110_34 ?_
          refine x_iload_n (i := 3) dX12_laysMade_130 rfl rfl rfl ?_
          refine x_iald dX12_laysMade_131 rfl v132 rfl (by omega) (by decide) ?_
          rw [a2]
          refine x_iadd dX12_laysMade_132 rfl ?_
          rw [show nI 240 * nI (s1.2 i) + nI (s1.2 k) = nI (240 * s1.2 i + s1.2 k) by rw [nI_mul8, nI_add]]
          refine x_iald dX12_laysMade_133 rfl v130 rfl (by omega) (by decide) ?_
          rw [k2.2.2 _ _ (by rw [zl]; exact b1) (by rw [zl]; exact b2), (T0_t ho8 b1 b2).2.1]
          refine x_callV0 (ci := 12) (b := 110) (As := [_]) (d2 := d - 1) dX12_laysMade_134 rfl kX12_373 okX12_adds_ (hC.o rfl) (fun q hq => by cases hq; rfl) (by omega) rfl rfl (Nat.le_of_ble_eq_true rfl) (m_adds1 hC J2 (by omega) (fun z => gS_fu g2 (by have := gS_le g2; omega) t1) (fun h3 C3 J3 s3 f3 => ?_))
          have k3 := k2.ad C3 s3 f3
          have hC := C3
          have g3 := gS_add g2 t1
          have v130 := hC.v (a := 130) rfl
          have v132 := hC.v (a := 132) rfl
          have ge3 := @mAdd_ge (clI (T0 S.2.1) i k s1) (T0 S.2.1 (s1.2 i) (s1.2 k))
          have a1 : iv h3 132 i = nI (s1.2 i) := by rw [(J3.2.2.1 i (by omega)).2, mAdd_at (by omega), clI_at _ _ _ hi1]
          have a2 : iv h3 132 k = nI (s1.2 k) := by rw [(J3.2.2.1 k (by omega)).2, mAdd_at (by omega), clI_at _ _ _ hk1]
          refine x_aload_n (i := 0) dX12_laysMade_137 rfl rfl rfl ?_
          refine x_aload_n (i := 0) dX12_laysMade_138 rfl rfl rfl ?_
          refine x_getC dX12_laysMade_139 rfl fX12_78 hC rfl F_110_31 ?_
          refine x_sipush dX12_laysMade_142 rfl sC_240 ?_
          refine x_aload_n (i := 0) dX12_laysMade_145 rfl rfl rfl ?_
          refine x_getC dX12_laysMade_146 rfl fX12_87 hC rfl F_110_34 ?_
          refine x_iload_n (i := 3) dX12_laysMade_149 rfl rfl rfl ?_
          refine x_iald dX12_laysMade_150 rfl v132 rfl (by omega) (by decide) ?_
          rw [a2]
          refine x_imul dX12_laysMade_151 rfl ?_
          refine x_aload_n (i := 0) dX12_laysMade_152 rfl rfl rfl ?_
          refine x_getC dX12_laysMade_153 rfl fX12_87 hC rfl F_110_34 ?_
          refine x_iload_n (i := 2) dX12_laysMade_156 rfl rfl rfl ?_
          refine x_iald dX12_laysMade_157 rfl v132 rfl (by omega) (by decide) ?_
          rw [a1]
          refine x_iadd dX12_laysMade_158 rfl ?_
          rw [show nI 240 * nI (s1.2 k) + nI (s1.2 i) = nI (240 * s1.2 k + s1.2 i) by rw [nI_mul8, nI_add]]
          refine x_iald dX12_laysMade_159 rfl v130 rfl (by omega) (by decide) ?_
          rw [k3.2.2 _ _ (by rw [zl]; exact b2) (by rw [zl]; exact b1), (T0_t ho8 b2 b1).2.1]
          refine x_callV0 (ci := 12) (b := 110) (As := [_]) (d2 := d - 1) dX12_laysMade_160 rfl kX12_373 okX12_adds_ (hC.o rfl) (fun q hq => by cases hq; rfl) (by omega) rfl rfl (Nat.le_of_ble_eq_true rfl) (m_adds1 hC J3 (by omega) (fun z => gS_fu g3 (by have := gS_le g3; omega) t2) (fun h4 C4 J4 s4 f4 => ?_))
          have k4 := k3.ad C4 s4 f4
          have hC := C4
          refine x_iinc dX12_laysMade_163 rfl rfl (inc1 _) ?_
          refine x_goto (tgt := 106) dX12_laysMade_166 rfl ?_
          exact x_to (ihI (by omega) h4 k4 J4) ⟨rfl, rfl, rfl, trivial⟩) 0 (Nat.zero_le _) h1 k1 J1
      exact x_to keyI ⟨rfl, rfl, rfl, trivial⟩) 0 (Nat.zero_le _) h s hk hJ hg eF
  exact x_to key ⟨rfl, rfl, trivial⟩
end MOD

