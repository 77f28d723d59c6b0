/-! EightPartsModel: joins -/
def mAt (h : xH) (p : Nat) (x : zO) : Prop := (∃ f, x = some f ∧ pl h p = c8 f ∧ iv h 123 p = nI 1) ∨ (x = none ∧ iv h 123 p = nI 0)
def jF (lo n : Nat) (h h2 : xH) : Prop := mV (List.range' lo n) [113, 123] h h2 ∧ ∀ y, ¬ (lo ≤ y ∧ y < lo + n) → iv h2 123 y = iv h 123 y
theorem mem_r {m s n : Nat} : m ∈ List.range' s n ↔ s ≤ m ∧ m < s + n := List.mem_range'_1
theorem jF.rf {lo : Nat} {h : xH} (hC : Cs h) : jF lo 0 h h := ⟨(mV.rf hC).sub (P := []) (C := []) (by simp) (by simp), fun _ _ => rfl⟩
theorem jF.tr {lo n m : Nat} {h h2 h3 : xH} (a : jF lo n h h2) (b : jF (lo + n) m h2 h3) : jF lo (n + m) h h3 := by
  refine ⟨(a.1.tr b.1).sub ?_ (by simp), fun y hy => ?_⟩
  · intro q hq
    rcases List.mem_append.mp hq with e | e
    · rw [mem_r] at e ⊢; omega
    · rw [mem_r] at e ⊢; omega
  · rw [b.2 y (by omega), a.2 y (by omega)]
theorem mAt.fr {lo n p : Nat} {h h2 : xH} {x : zO} (a : jF lo n h h2) (hp : p < 155) (hn : ¬ (lo ≤ p ∧ p < lo + n)) (m : mAt h p x) : mAt h2 p x := by
  have e1 : pl h2 p = pl h p := a.1.pp hp (by rw [mem_r]; exact hn)
  unfold mAt at *
  rw [e1, a.2 p hn]
  exact m
section MOD
variable {G : xG} {l : Launch} {d : Nat} {h : xH} {Q : Option Value → xH → Prop} {S : St}
theorem m_joins {at0 il ir fl ml fr mr : Nat} {X Y : Nat → zO} (hd : 3 ≤ d) (hC : Cs h) (hB : mB h) (hil : il < 42) (hir : ir < 42) (e1 : iv h 121 il = nI fl) (e2 : iv h 122 il = nI ml) (e3 : iv h 121 ir = nI fr) (e4 : iv h 122 ir = nI mr) (hmr : 0 < mr) (hl : fl + ml ≤ at0) (hr : fr + mr ≤ at0) (hat : at0 + ml * mr ≤ 155)
    (hX : ∀ a, a < ml → mAt h (fl + a) (X a)) (hY : ∀ b, b < mr → mAt h (fr + b) (Y b))
    (K : ∀ h2, jF at0 (ml * mr) h h2 → (∀ q, q < ml * mr → mAt h2 (at0 + q) (vMul (X (q / mr)) (Y (q % mr)))) → Q (some (.int (nI (at0 + ml * mr)))) h2) : xCt G l mX12_joins d [.ref 110, .int (nI at0), .int (nI il), .int (nI ir)] h 0 0 Q := by
  have c12 : ∀ h1 n, jF at0 n h h1 → Cs h1 ∧ h1.1 121 = (0, 42, xI (iv h 121)) ∧ h1.1 122 = (0, 42, xI (iv h 122)) := fun h1 n j => ⟨j.1.1, (j.1.2.1.2 121 (by decide)).trans (hC.v rfl), (j.1.2.1.2 122 (by decide)).trans (hC.v rfl)⟩
  have hC0 := hC
  have step : ∀ h1 a b, a < ml → b < mr → jF at0 (a * mr + b) h h1 → (∀ q, q < a * mr + b → mAt h1 (at0 + q) (vMul (X (q / mr)) (Y (q % mr)))) → (∀ h2, jF at0 (a * mr + b + 1) h h2 → (∀ q, q < a * mr + b + 1 → mAt h2 (at0 + q) (vMul (X (q / mr)) (Y (q % mr)))) → xWP G l mX12_joins d (zM G Q) 0 0 100 (xls [(0, .ref 110), (1, .int (nI at0)), (2, .int (nI il)), (3, .int (nI ir)), (4, .int (nI (at0 + (a * mr + b)))), (5, .int (nI (fl + a))), (6, .int (nI (fr + b)))]) [] h2) → xWP G l mX12_joins d (zM G Q) 0 0 55 (xls [(0, .ref 110), (1, .int (nI at0)), (2, .int (nI il)), (3, .int (nI ir)), (4, .int (nI (at0 + (a * mr + b)))), (5, .int (nI (fl + a))), (6, .int (nI (fr + b)))]) [] h1 := by
    intro h1 a b ha hb j1 r1 kk
    have hC := j1.1.1
    have hlt : a * mr + b + 1 ≤ ml * mr := by
      have : (a + 1) * mr ≤ ml * mr := Nat.mul_le_mul_right _ ha
      rw [Nat.succ_mul] at this
      omega
    have qd : (a * mr + b) / mr = a := by rw [Nat.mul_comm, Nat.mul_add_div hmr, Nat.div_eq_of_lt hb, Nat.add_zero]
    have qm : (a * mr + b) % mr = b := by rw [Nat.mul_comm, Nat.mul_add_mod, Nat.mod_eq_of_lt hb]
    generalize hN : a * mr + b = N at *
    have xa := (hX a ha).fr j1 (by omega) (by omega)
    have yb := (hY b hb).fr j1 (by omega) (by omega)
    have v3 := hC.z (a := 123) rfl
    have fin : ∀ h2 v, mV [at0 + N] [113] h1 h2 → ((∃ f, vMul (X a) (Y b) = some f ∧ pl h2 (at0 + N) = c8 f ∧ v = 1) ∨ (vMul (X a) (Y b) = none ∧ v = 0)) → jF at0 (N + 1) h (hs h2 123 (2, 155, xI (upd (iv h1 123) (at0 + N) (nI v)))) ∧ ∀ q, q < N + 1 → mAt (hs h2 123 (2, 155, xI (upd (iv h1 123) (at0 + N) (nI v)))) (at0 + q) (vMul (X (q / mr)) (Y (q % mr))) := by
      intro h2 v hv hx
      have v3 := hv.1.z (a := 123) rfl
      have i3 : iv h2 123 = iv h1 123 := hv.2.1.iv (by decide)
      have hC3 := hv.1.setI (f := upd (iv h1 123) (at0 + N) (nI v)) v3 (Or.inr (Or.inl rfl)) (by decide)
      have jj : jF (at0 + N) 1 h1 (hs h2 123 (2, 155, xI (upd (iv h1 123) (at0 + N) (nI v)))) := by
        refine ⟨(hv.tr (mV_o hC3 xSm.hs1 (by decide))).sub (by intro q hq; rw [mem_r]; simp at hq; omega) (by simp), fun y hy => ?_⟩
        rw [iv_hs]
        unfold upd
        rw [if_neg (by omega)]
      refine ⟨j1.tr jj, fun q hq => ?_⟩
      by_cases e : q = N
      · subst e
        rw [qd, qm]
        have ep : pl (hs h2 123 (2, 155, xI (upd (iv h1 123) (at0 + q) (nI v)))) (at0 + q) = pl h2 (at0 + q) := by unfold pl; rw [iv_n (by decide)]
        have ei : iv (hs h2 123 (2, 155, xI (upd (iv h1 123) (at0 + q) (nI v)))) 123 (at0 + q) = nI v := by rw [iv_hs]; unfold upd; rw [if_pos rfl]
        unfold mAt
        rw [ep, ei]
        rcases hx with ⟨f, x1, x2, x3⟩ | ⟨x1, x2⟩
        · exact Or.inl ⟨f, x1, x2, by rw [x3]⟩
        · exact Or.inr ⟨x1, by rw [x2]⟩
      · exact (r1 q (by omega)).fr jj (by omega) (by omega)
    have zero : ∀ h2, mV [at0 + N] [113] h1 h2 → vMul (X a) (Y b) = none → xWP G l mX12_joins d (zM G Q) 0 0 98 (xls [(0, .ref 110), (1, .int (nI at0)), (2, .int (nI il)), (3, .int (nI ir)), (4, .int (nI (at0 + N))), (5, .int (nI (fl + a))), (6, .int (nI (fr + b)))]) [.int (nI (at0 + N)), .ref 123] h2 := by
      intro h2 hv hn
      obtain ⟨g1, g2⟩ := fin h2 0 hv (Or.inr ⟨hn, rfl⟩)
      have hC := hv.1
      have v3 := hC.z (a := 123) rfl
      rw [hv.2.1.iv (a := 123) (by decide)] at v3
      refine x_iconst dX12_joins_98 rfl iC_0 ?_
      refine x_zast dX12_joins_99 rfl v3 rfl (by omega) (by decide) (by decide) ?_
      exact kk _ g1 g2
    have rf1 : mV [at0 + N] [113] h1 h1 := (mV.rf hC).sub (P := []) (C := []) (by simp) (by simp)
    rcases xa with ⟨f, x1, x2, x3⟩ | ⟨x1, x2⟩
    · rcases yb with ⟨g, y1, y2, y3⟩ | ⟨y1, y2⟩
      · rw [x1, y1, vMul_ss] at fin zero
        refine x_aload_n (i := 0) dX12_joins_55 rfl rfl rfl ?_
        refine x_getC dX12_joins_56 rfl fX12_55 hC rfl F_110_18 ?_
        refine x_iload dX12_joins_59 rfl rfl ?_
        refine x_aload_n (i := 0) dX12_joins_61 rfl rfl rfl ?_
        refine x_getC dX12_joins_62 rfl fX12_55 hC rfl F_110_18 ?_
        refine x_iload dX12_joins_65 rfl rfl ?_
        refine x_zald dX12_joins_67 rfl v3 rfl (by omega) (by decide) ?_
        refine x_if_eq_f (tgt := 98) dX12_joins_68 rfl rfl (by rw [x3]; exact nb1) ?_
        refine x_aload_n (i := 0) dX12_joins_71 rfl rfl rfl ?_
        refine x_getC dX12_joins_72 rfl fX12_55 hC rfl F_110_18 ?_
        refine x_iload dX12_joins_75 rfl rfl ?_
        refine x_zald dX12_joins_77 rfl v3 rfl (by omega) (by decide) ?_
        refine x_if_eq_f (tgt := 98) dX12_joins_78 rfl rfl (by rw [y3]; exact nb1) ?_
        refine x_aload_n (i := 0) dX12_joins_81 rfl rfl rfl ?_
        refine x_iload dX12_joins_82 rfl rfl ?_
        refine x_iload dX12_joins_84 rfl rfl ?_
        refine x_iload dX12_joins_86 rfl rfl ?_
        refine x_callV0 (ci := 12) (b := 110) (As := [_, _, _]) (d2 := d - 1) dX12_joins_88 rfl kX12_197 okX12_multiplies (hC.o rfl) (fun q hq => by cases hq; rfl) (by omega) rfl rfl (Nat.le_of_ble_eq_true rfl) (m_mulE (by omega) hC (j1.1.2.2.2 hB) (by omega) (by omega) (by omega) x2 y2 (fun z hz h2 k2 e2 => ?_) (fun hz h2 k2 => ?_))
        · obtain ⟨g1, g2⟩ := fin h2 1 k2 (Or.inl ⟨z, hz, e2, rfl⟩)
          have hC := k2.1
          have v3 := hC.z (a := 123) rfl
          rw [k2.2.1.iv (a := 123) (by decide)] at v3
          refine x_if_eq_f (tgt := 98) dX12_joins_91 rfl rfl nb1 ?_
          refine x_iconst dX12_joins_94 rfl iC_1 ?_
          refine x_goto (tgt := 99) dX12_joins_95 rfl ?_
          refine x_zast dX12_joins_99 rfl v3 rfl (by omega) (by decide) (by decide) ?_
          exact kk _ g1 g2
        · refine x_if_eq_t (tgt := 98) dX12_joins_91 rfl nI_0 ?_
          exact zero h2 (k2.sub (by simp) (by simp)) hz
      · refine x_aload_n (i := 0) dX12_joins_55 rfl rfl rfl ?_
        refine x_getC dX12_joins_56 rfl fX12_55 hC rfl F_110_18 ?_
        refine x_iload dX12_joins_59 rfl rfl ?_
        refine x_aload_n (i := 0) dX12_joins_61 rfl rfl rfl ?_
        refine x_getC dX12_joins_62 rfl fX12_55 hC rfl F_110_18 ?_
        refine x_iload dX12_joins_65 rfl rfl ?_
        refine x_zald dX12_joins_67 rfl v3 rfl (by omega) (by decide) ?_
        refine x_if_eq_f (tgt := 98) dX12_joins_68 rfl rfl (by rw [x3]; exact nb1) ?_
        refine x_aload_n (i := 0) dX12_joins_71 rfl rfl rfl ?_
        refine x_getC dX12_joins_72 rfl fX12_55 hC rfl F_110_18 ?_
        refine x_iload dX12_joins_75 rfl rfl ?_
        refine x_zald dX12_joins_77 rfl v3 rfl (by omega) (by decide) ?_
        refine x_if_eq_t (tgt := 98) dX12_joins_78 rfl (by rw [y2]; exact nI_0) ?_
        exact zero h1 rf1 (by rw [x1, y1, vMul_sn])
    · refine x_aload_n (i := 0) dX12_joins_55 rfl rfl rfl ?_
      refine x_getC dX12_joins_56 rfl fX12_55 hC rfl F_110_18 ?_
      refine x_iload dX12_joins_59 rfl rfl ?_
      refine x_aload_n (i := 0) dX12_joins_61 rfl rfl rfl ?_
      refine x_getC dX12_joins_62 rfl fX12_55 hC rfl F_110_18 ?_
      refine x_iload dX12_joins_65 rfl rfl ?_
      refine x_zald dX12_joins_67 rfl v3 rfl (by omega) (by decide) ?_
      refine x_if_eq_t (tgt := 98) dX12_joins_68 rfl (by rw [x2]; exact nI_0) ?_
      exact zero h1 rf1 (by rw [x1, vMul_n])
  refine xCt_of (by decide) (Nat.le_of_ble_eq_true rfl) ?_
  have outer := xloop (P := fun a => ∀ h1, jF at0 (a * mr) h h1 → (∀ q, q < a * mr → mAt h1 (at0 + q) (vMul (X (q / mr)) (Y (q % mr)))) → xWP G l mX12_joins d (zM G Q) 0 0 11 (xls [(0, .ref 110), (1, .int (nI at0)), (2, .int (nI il)), (3, .int (nI ir)), (4, .int (nI (at0 + a * mr))), (5, .int (nI (fl + a)))]) [] h1) ml (by
    intro a ha ih h1 j1 r1
    obtain ⟨hC, v1, v2⟩ := c12 h1 _ j1
    have hle : a * mr ≤ ml * mr := Nat.mul_le_mul_right _ ha
    refine x_iload dX12_joins_11 rfl rfl ?_
    refine x_aload_n (i := 0) dX12_joins_13 rfl rfl rfl ?_
    refine x_getC dX12_joins_14 rfl fX12_49 hC rfl F_110_16 ?_
    refine x_iload_n (i := 2) dX12_joins_17 rfl rfl rfl ?_
    refine x_iald dX12_joins_18 rfl v1 rfl (by omega) (by decide) ?_
    rw [e1]
    refine x_aload_n (i := 0) dX12_joins_19 rfl rfl rfl ?_
    refine x_getC dX12_joins_20 rfl fX12_52 hC rfl F_110_17 ?_
    refine x_iload_n (i := 2) dX12_joins_23 rfl rfl rfl ?_
    refine x_iald dX12_joins_24 rfl v2 rfl (by omega) (by decide) ?_
    rw [e2]
    refine x_iadd dX12_joins_25 rfl ?_
    rw [show nI fl + nI ml = nI (fl + ml) from nI_add fl ml]
    refine x_jc_ge (tgt := 115) dX12_joins_26 rfl rfl (by omega) (by omega) (fun c26 => ?_) (fun c26 => ?_)
    · obtain rfl : a = ml := by omega
      refine x_iload dX12_joins_115 rfl rfl ?_
      refine x_ireturn dX12_joins_117 rfl rfl ?_
      exact K h1 j1 r1
    · have ha2 : a < ml := by omega
      refine x_aload_n (i := 0) dX12_joins_29 rfl rfl rfl ?_
      refine x_getC dX12_joins_30 rfl fX12_49 hC rfl F_110_16 ?_
      refine x_iload_n (i := 3) dX12_joins_33 rfl rfl rfl ?_
      refine x_iald dX12_joins_34 rfl v1 rfl (by omega) (by decide) ?_
      rw [e3]
      refine x_istore dX12_joins_35 rfl (by decide) ?_
      have inner := xloop (P := fun b => ∀ h1, jF at0 (a * mr + b) h h1 → (∀ q, q < a * mr + b → mAt h1 (at0 + q) (vMul (X (q / mr)) (Y (q % mr)))) → xWP G l mX12_joins d (zM G Q) 0 0 37 (xls [(0, .ref 110), (1, .int (nI at0)), (2, .int (nI il)), (3, .int (nI ir)), (4, .int (nI (at0 + (a * mr + b)))), (5, .int (nI (fl + a))), (6, .int (nI (fr + b)))]) [] h1) mr (by
        intro b hb ih2 h1 j1 r1
        obtain ⟨hC, v1, v2⟩ := c12 h1 _ j1
        have hlt : a * mr + mr ≤ ml * mr := by
          have : (a + 1) * mr ≤ ml * mr := Nat.mul_le_mul_right _ ha2
          rw [Nat.succ_mul] at this
          omega
        refine x_iload dX12_joins_37 rfl rfl ?_
        refine x_aload_n (i := 0) dX12_joins_39 rfl rfl rfl ?_
        refine x_getC dX12_joins_40 rfl fX12_49 hC rfl F_110_16 ?_
        refine x_iload_n (i := 3) dX12_joins_43 rfl rfl rfl ?_
        refine x_iald dX12_joins_44 rfl v1 rfl (by omega) (by decide) ?_
        rw [e3]
        refine x_aload_n (i := 0) dX12_joins_45 rfl rfl rfl ?_
        refine x_getC dX12_joins_46 rfl fX12_52 hC rfl F_110_17 ?_
        refine x_iload_n (i := 3) dX12_joins_49 rfl rfl rfl ?_
        refine x_iald dX12_joins_50 rfl v2 rfl (by omega) (by decide) ?_
        rw [e4]
        refine x_iadd dX12_joins_51 rfl ?_
        rw [show nI fr + nI mr = nI (fr + mr) from nI_add fr mr]
        refine x_jc_ge (tgt := 109) dX12_joins_52 rfl rfl (by omega) (by omega) (fun c52 => ?_) (fun c52 => ?_)
        · obtain rfl : b = mr := by omega
          refine x_iinc dX12_joins_109 rfl rfl (inc1 _) ?_
          refine x_goto (tgt := 11) dX12_joins_112 rfl ?_
          refine x_to (ih (by omega) h1 (by rw [Nat.succ_mul]; exact j1) (by rw [Nat.succ_mul]; exact r1)) ⟨rfl, rfl, rfl, rfl, ?_, rfl, trivial⟩
          rw [Nat.succ_mul]
          rfl
        · have hb2 : b < mr := by omega
          refine step h1 a b ha2 hb2 j1 r1 (fun h2 j2 r2 => ?_)
          have hC := j2.1.1
          refine x_iinc dX12_joins_100 rfl rfl (inc1 _) ?_
          refine x_iinc dX12_joins_103 rfl rfl (inc1 _) ?_
          refine x_goto (tgt := 37) dX12_joins_106 rfl ?_
          exact x_to (ih2 hb2 h2 j2 r2) ⟨rfl, rfl, rfl, rfl, rfl, rfl, rfl, trivial⟩) 0 (Nat.zero_le _) h1 j1 r1
      exact x_to inner ⟨rfl, rfl, rfl, rfl, rfl, rfl, rfl, trivial⟩) 0 (Nat.zero_le _) h (by rw [Nat.zero_mul]; exact jF.rf hC0) (by rw [Nat.zero_mul]; exact fun q hq => absurd hq (Nat.not_lt_zero q))
  have v1 := hC.v (a := 121) rfl
  refine x_iload_n (i := 1) dX12_joins_0 rfl rfl rfl ?_
  refine x_istore dX12_joins_1 rfl (by decide) ?_
  refine x_aload_n (i := 0) dX12_joins_3 rfl rfl rfl ?_
  refine x_getC dX12_joins_4 rfl fX12_49 hC rfl F_110_16 ?_
  refine x_iload_n (i := 2) dX12_joins_7 rfl rfl rfl ?_
  refine x_iald dX12_joins_8 rfl v1 rfl (by omega) (by decide) ?_
  rw [e1]
  refine x_istore dX12_joins_9 rfl (by decide) ?_
  refine x_to outer ⟨rfl, rfl, rfl, rfl, ?_, rfl, trivial⟩
  rw [Nat.zero_mul]
  rfl
end MOD

