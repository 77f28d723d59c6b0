/-! products of units -/
abbrev tI (f : Nat → Int32) : Nat → Int := fun i => (f i).toInt
theorem of32 (x : Int32) : Int64.ofInt x.toInt = x.toInt64 := by
  apply Int64.toInt_inj.mp
  have := fb_rng x
  rw [Int64.toInt_ofInt, Int32.toInt_toInt64, fb_bmodL (by omega) (by omega)]
theorem zM4_I (f g : Nat → Int32) {p : Nat} (hp : p < 8) : zM4 f g p = Int64.ofInt (mI (tI f) (tI g) p) := by
  rcases lt8 hp with rfl | rfl | rfl | rfl | rfl | rfl | rfl | rfl <;> simp only [zM4, mI, tI, Int64.ofInt_add, Int64.ofInt_sub, Int64.ofInt_mul, of32]
theorem pI_m (x : Int32) : pI x = decide (x.toInt % 2 = 1) := by
  have ea : x &&& nI 1 = nI (x.toBitVec.toNat % 2) := pk_and x (m := nI 1) 1 (by decide)
  have eb : x.toInt % 2 = ((x.toBitVec.toNat % 2 : Nat) : Int) := by
    show x.toBitVec.toInt % 2 = _
    rw [BitVec.toInt_eq_toNat_cond]
    split <;> omega
  unfold pI
  rw [ea]
  rcases (show x.toBitVec.toNat % 2 = 0 ∨ x.toBitVec.toNat % 2 = 1 by omega) with e | e
  · rw [e] at eb ⊢
    rw [decide_eq_false (by decide), decide_eq_false (by omega)]
  · rw [e] at eb ⊢
    rw [decide_eq_true (by decide), decide_eq_true (by omega)]
theorem oddN_s (f : Nat → Int32) : oddN f = sM (tI f) := zSet_cong (fun j _ => pI_m _)
theorem sum8 {n0 n1 n2 n3 n4 n5 n6 n7 : Nat} {x0 x1 x2 x3 x4 x5 x6 x7 : Int} (h0 : (n0 : Int) = x0) (h1 : (n1 : Int) = x1) (h2 : (n2 : Int) = x2) (h3 : (n3 : Int) = x3) (h4 : (n4 : Int) = x4) (h5 : (n5 : Int) = x5) (h6 : (n6 : Int) = x6) (h7 : (n7 : Int) = x7) : ((0 + n0 + n1 + n2 + n3 + n4 + n5 + n6 + n7 : Nat) : Int) = x0 + x1 + x2 + x3 + x4 + x5 + x6 + x7 := by omega
theorem sqa (x : Int) : ((x.natAbs * x.natAbs : Nat) : Int) = x * x := Int.natAbs_mul_self
theorem nrm_I (f : Nat → Int32) : ((nrmN f 8 : Nat) : Int) = tI f 0 * tI f 0 + tI f 1 * tI f 1 + tI f 2 * tI f 2 + tI f 3 * tI f 3 + tI f 4 * tI f 4 + tI f 5 * tI f 5 + tI f 6 * tI f 6 + tI f 7 * tI f 7 := by
  simp only [nrmN]
  exact sum8 (sqa _) (sqa _) (sqa _) (sqa _) (sqa _) (sqa _) (sqa _) (sqa _)
theorem q2 {a m : Int} (h : 2 * a = m) : m * m = 4 * (a * a) := by
  rw [← h, Int.mul_assoc, Int.mul_left_comm a 2 a, ← Int.mul_assoc]
  rfl
theorem sq_4 {x : Int} {n : Nat} (h : ((n : Nat) : Int) = x * x) (hn : n ≤ 16) : -4 ≤ x ∧ x ≤ 4 := by
  have e := sqa x
  have h2 : x.natAbs ≤ 4 := by
    refine Classical.byContradiction (fun z => ?_)
    have := Nat.mul_le_mul (show 5 ≤ x.natAbs by omega) (show 5 ≤ x.natAbs by omega)
    rw [← h] at e
    have := Int.ofNat.inj e
    omega
  omega
theorem unit_mul {o : Nat} (ho : o < 8) {f g : Nat → Int32} (hf : ofO o (oddN f) = true) (hg : ofO o (oddN g) = true) (nf : nrmN f 8 = 4) (ng : nrmN g 8 = 4) : ∃ z, oMul f g = some z ∧ ofO o (oddN z) = true ∧ nrmN z 8 = 4 ∧ ∀ p, p < 8 → 2 * (z p).toInt = mI (tI f) (tI g) p := by
  rw [oddN_s] at hf hg
  obtain ⟨c1, c2⟩ := cl_par ho hf hg
  have d := degenF (tI f) (tI g)
  rw [← nrm_I f, ← nrm_I g, nf, ng] at d
  obtain ⟨M, hM⟩ : ∃ M, M = mI (tI f) (tI g) := ⟨_, rfl⟩
  have hm : ∀ p, p < 8 → zM4 f g p = Int64.ofInt (M p) := fun p hp => by rw [hM]; exact zM4_I f g hp
  rw [← hM] at c1 c2 d ⊢
  have s8 := sum8 (sqa (M 0)) (sqa (M 1)) (sqa (M 2)) (sqa (M 3)) (sqa (M 4)) (sqa (M 5)) (sqa (M 6)) (sqa (M 7))
  rw [d] at s8
  have b : ∀ p, p < 8 → -4 ≤ M p ∧ M p ≤ 4 := by
    intro p hp
    refine sq_4 (sqa (M p)) ?_
    rcases lt8 hp with rfl | rfl | rfl | rfl | rfl | rfl | rfl | rfl <;> omega
  have t : ∀ p, p < 8 → (zM4 f g p).toInt = M p := fun p hp => by
    have := b p hp
    rw [hm p hp, Int64.toInt_ofInt, fb_bmodL (by omega) (by omega)]
  have t2 : ∀ p, p < 8 → (zHalf (zM4 f g) p).toInt = M p / 2 := fun p hp => by
    have b1 := b p hp
    have c := c1 p hp
    obtain ⟨e, -, -⟩ := dv_t (a := zM4 f g p) (b := 2) (by rw [t p hp]; omega) (by decide)
    rw [t p hp, show (2 : Int64).toInt = 2 from rfl] at e
    obtain ⟨-, -, k3, k4, k5, -⟩ := td_fl (a := M p) (b := 2) (by decide)
    show (zM4 f g p / 2).toInt = _
    rw [e]
    omega
  have can : zCan f g := by
    refine ⟨fun p hp => (and1v _).mpr (by rw [t p hp]; exact c1 p hp), fun p hp => ?_⟩
    have b1 := b p hp
    rw [Int64.lt_iff_toInt_lt, Int64.le_iff_toInt_le, t2 p hp, show (-20000 : Int64).toInt = -20000 by decide, show (20000 : Int64).toInt = 20000 by decide]
    omega
  have hz : ∀ p, p < 8 → (zMul f g p).toInt = M p / 2 := fun p hp => by
    have b1 := b p hp
    show (zHalf (zM4 f g) p).toInt32.toInt = _
    rw [Int64.toInt_toInt32, t2 p hp, fb_bmod (by omega) (by omega)]
  have hz2 : ∀ p, p < 8 → 2 * (zMul f g p).toInt = M p := fun p hp => by
    rw [hz p hp]
    have := c1 p hp
    omega
  refine ⟨zMul f g, zIf_t can, ?_, ?_, hz2⟩
  · rw [oddN_s, sM_c (x := fun p => M p / 2) (fun p hp => by show ((zMul f g p).toInt - M p / 2) % 2 = 0; rw [hz p hp]; omega)]
    exact c2
  · have n := nrm_I (zMul f g)
    have e0 := q2 (hz2 0 (by decide))
    have e1 := q2 (hz2 1 (by decide))
    have e2 := q2 (hz2 2 (by decide))
    have e3 := q2 (hz2 3 (by decide))
    have e4 := q2 (hz2 4 (by decide))
    have e5 := q2 (hz2 5 (by decide))
    have e6 := q2 (hz2 6 (by decide))
    have e7 := q2 (hz2 7 (by decide))
    rw [e0, e1, e2, e3, e4, e5, e6, e7] at d
    unfold tI at n
    omega
theorem ds8 {ds : List Nat} (hl : ds.length = 8) : ∃ d0 d1 d2 d3 d4 d5 d6 d7, ds = [d0, d1, d2, d3, d4, d5, d6, d7] := by
  match ds, hl with
  | [d0, d1, d2, d3, d4, d5, d6, d7], _ => exact ⟨d0, d1, d2, d3, d4, d5, d6, d7, rfl⟩
theorem ds_f {f : Nat → Int32} {ds : List Nat} (hl : ds.length = 8) (h7 : ∀ i ∈ ds, i < 7) (e : ∀ j, j < 8 → f j = vv (ds.getD j 0)) : nrmN f 8 = sqS ds ∧ dg f = ds := by
  obtain ⟨d0, d1, d2, d3, d4, d5, d6, d7, rfl⟩ := ds8 hl
  simp only [List.mem_cons, List.not_mem_nil, or_false, forall_eq_or_imp, forall_eq] at h7
  obtain ⟨a0, a1, a2, a3, a4, a5, a6, a7⟩ := h7
  have e0 : f 0 = vv d0 := e 0 (by decide)
  have e1 : f 1 = vv d1 := e 1 (by decide)
  have e2 : f 2 = vv d2 := e 2 (by decide)
  have e3 : f 3 = vv d3 := e 3 (by decide)
  have e4 : f 4 = vv d4 := e 4 (by decide)
  have e5 : f 5 = vv d5 := e 5 (by decide)
  have e6 : f 6 = vv d6 := e 6 (by decide)
  have e7 : f 7 = vv d7 := e 7 (by decide)
  have q : ∀ d, d < 7 → (vv d).toInt.natAbs * (vv d).toInt.natAbs = sqN d ∧ ((vv d).toInt + 3).toNat = d := fun d hd => by
    rw [vv_toI d hd, sq_abs d hd]
    exact ⟨rfl, by omega⟩
  constructor
  · simp only [nrmN, sqS, e0, e1, e2, e3, e4, e5, e6, e7, (q d0 a0).1, (q d1 a1).1, (q d2 a2).1, (q d3 a3).1, (q d4 a4).1, (q d5 a5).1, (q d6 a6).1, (q d7 a7).1]
    omega
  · simp only [dg, dgX, e0, e1, e2, e3, e4, e5, e6, e7, (q d0 a0).2, (q d1 a1).2, (q d2 a2).2, (q d3 a3).2, (q d4 a4).2, (q d5 a5).2, (q d6 a6).2, (q d7 a7).2]
theorem el_u {o k : Nat} (ho : o < 8) (hk : k < lnN o 1) : ofO o (oddN (zEl o 1 k)) = true ∧ nrmN (zEl o 1 k) 8 = 4 ∧ dg (zEl o 1 k) = (lsD o 1).getD k [] ∧ sqS ((lsD o 1).getD k []) = 4 := by
  obtain ⟨m1, m2⟩ := lsD_m hk
  obtain ⟨l1, l2⟩ := lx_len _ _ _ m1
  have s := lx_sum _ _ _ m1
  have e := fun j hj => zEl_l ho (show 1 < 4 by decide) hk (p := j) hj
  obtain ⟨a, b⟩ := ds_f l1 l2 e
  refine ⟨?_, by rw [a, s], b, s⟩
  rw [od8 l1 l2 e]
  exact m2
theorem un_ix {o : Nat} {z : Nat → Int32} (ho : o < 8) (hz : ofO o (oddN z) = true) (nz : nrmN z 8 = 4) : ∃ t, t < lnN o 1 ∧ zFindL o 1 z = nI t ∧ ∀ p, p < 8 → zEl o 1 t p = z p := by
  obtain ⟨a1, a2, a3, a4, a5, a6⟩ := dg_all (f := z) (by omega)
  obtain ⟨t, t1, t2, t3⟩ := zFindL_t (norm := 1) ho (by decide) a5 a1 a2 (by rw [a4, nz]) (by rw [← a6]; exact hz)
  refine ⟨t, t1, t3, fun p hp => ?_⟩
  rw [zEl_l ho (by decide) t1 hp, t2]
  exact (a3 p hp).symm
theorem dg_e {f g : Nat → Int32} (h : ∀ p, p < 8 → f p = g p) : dg f = dg g := by
  unfold dg dgX
  rw [h 0 (by decide), h 1 (by decide), h 2 (by decide), h 3 (by decide), h 4 (by decide), h 5 (by decide), h 6 (by decide), h 7 (by decide)]
theorem lsP_in {o j k : Nat} (hj : j < lnN o 1) (hk : k < lnN o 1) (e : lsP o 1 j = lsP o 1 k) : j = k := by
  rcases Nat.lt_trichotomy j k with q | q | q
  · have := lsP_lt q hk
    omega
  · exact q
  · have := lsP_lt q hj
    omega
theorem el_in {o j k : Nat} (ho : o < 8) (hj : j < lnN o 1) (hk : k < lnN o 1) (e : ∀ p, p < 8 → zEl o 1 j p = zEl o 1 k p) : j = k := by
  have := dg_e e
  rw [(el_u ho hj).2.2.1, (el_u ho hk).2.2.1] at this
  exact lsP_in hj hk (by unfold lsP; rw [this])
theorem ng_I {x : Int32} (h : -20000 ≤ x.toInt ∧ x.toInt ≤ 20000) : (-x).toInt = -x.toInt := fb_negI (by omega)
theorem el_b {o k : Nat} (ho : o < 8) (hk : k < lnN o 1) {p : Nat} (hp : p < 8) : -3 ≤ (zEl o 1 k p).toInt ∧ (zEl o 1 k p).toInt ≤ 3 := nrm_3 (by rw [(el_u ho hk).2.1]; decide) hp
theorem pk_sum {ds es : List Nat} (h1 : ds.length = 8) (h2 : es.length = 8) (h : ∀ j, j < 8 → ds.getD j 0 + es.getD j 0 = 6) : pkN 0 ds + pkN 0 es = 2290649224 := by
  obtain ⟨d0, d1, d2, d3, d4, d5, d6, d7, rfl⟩ := ds8 h1
  obtain ⟨e0, e1, e2, e3, e4, e5, e6, e7, rfl⟩ := ds8 h2
  have a0 : d0 + e0 = 6 := h 0 (by decide)
  have a1 : d1 + e1 = 6 := h 1 (by decide)
  have a2 : d2 + e2 = 6 := h 2 (by decide)
  have a3 : d3 + e3 = 6 := h 3 (by decide)
  have a4 : d4 + e4 = 6 := h 4 (by decide)
  have a5 : d5 + e5 = 6 := h 5 (by decide)
  have a6 : d6 + e6 = 6 := h 6 (by decide)
  have a7 : d7 + e7 = 6 := h 7 (by decide)
  simp only [pkN]
  omega
/-- the list turned round, with the other sign -/
theorem el_ng {o : Nat} (ho : o < 8) : ∀ k, k < lnN o 1 → ∀ p, p < 8 → zEl o 1 (lnN o 1 - 1 - k) p = -(zEl o 1 k p) := by
  have ex : ∀ k, ∃ t, k < lnN o 1 → t < lnN o 1 ∧ (∀ p, p < 8 → zEl o 1 t p = -(zEl o 1 k p)) ∧ lsP o 1 t + lsP o 1 k = 2290649224 := by
    intro k
    by_cases hk : k < lnN o 1
    · obtain ⟨u1, u2, u3, u4⟩ := el_u ho hk
      have nz : ∀ p, p < 8 → (-(zEl o 1 k p)).toInt = -(zEl o 1 k p).toInt := fun p hp => ng_I (by have := el_b ho hk hp; omega)
      have hz : ofO o (oddN (fun p => -(zEl o 1 k p))) = true := by
        rw [oddN_s, sM_c (x := tI (zEl o 1 k)) (fun p hp => by show ((-(zEl o 1 k p)).toInt - (zEl o 1 k p).toInt) % 2 = 0; rw [nz p hp]; omega), ← oddN_s]
        exact u1
      have hn : nrmN (fun p => -(zEl o 1 k p)) 8 = 4 := by
        have q : ∀ p, p < 8 → (-(zEl o 1 k p)).toInt.natAbs = (zEl o 1 k p).toInt.natAbs := fun p hp => by rw [nz p hp, Int.natAbs_neg]
        rw [← u2]
        simp only [nrmN, q 0 (by decide), q 1 (by decide), q 2 (by decide), q 3 (by decide), q 4 (by decide), q 5 (by decide), q 6 (by decide), q 7 (by decide)]
      obtain ⟨t, t1, t2, t3⟩ := un_ix ho hz hn
      refine ⟨t, fun _ => ⟨t1, t3, ?_⟩⟩
      obtain ⟨v1, v2, v3, v4⟩ := el_u ho t1
      unfold lsP
      rw [← v3, ← u3]
      refine pk_sum rfl rfl (fun j hj => ?_)
      rw [dg_at _ j hj, dg_at _ j hj]
      unfold dgX
      rw [t3 j hj, nz j hj]
      have := el_b ho hk hj
      omega
    · exact ⟨0, fun z => absurd z hk⟩
  obtain ⟨s, hs⟩ := Classical.skolem.mp ex
  have dn : ∀ j k, j < k → k < lnN o 1 → s k < s j := by
    intro j k hjk hk
    obtain ⟨a1, -, a3⟩ := hs j (by omega)
    obtain ⟨b1, -, b3⟩ := hs k hk
    have := lsP_lt hjk hk
    rcases Nat.lt_trichotomy (s k) (s j) with q | q | q
    · exact q
    · rw [q] at b3; omega
    · have := lsP_lt q b1
      omega
  have up : ∀ k, k < lnN o 1 → s k + k ≤ lnN o 1 - 1 := by
    intro k
    induction k with
    | zero => intro hk; have := (hs 0 hk).1; omega
    | succ k ih => intro hk; have := ih (by omega); have := dn k (k + 1) (by omega) hk; omega
  have lo : ∀ j, j < lnN o 1 → j ≤ s (lnN o 1 - 1 - j) := by
    intro j
    induction j with
    | zero => intro _; exact Nat.zero_le _
    | succ j ih =>
      intro hj
      have := ih (by omega)
      have := dn (lnN o 1 - 1 - (j + 1)) (lnN o 1 - 1 - j) (by omega) (by omega)
      omega
  intro k hk p hp
  have e : s k = lnN o 1 - 1 - k := by
    have a := up k hk
    have b := lo (lnN o 1 - 1 - k) (by omega)
    rw [show lnN o 1 - 1 - (lnN o 1 - 1 - k) = k by omega] at b
    omega
  rw [← e]
  exact (hs k hk).2.1 p hp
theorem sq_t : ∀ d, d < 7 → (sqN d = 0 ↔ d = 3) ∧ (sqN d ≤ 4 → d ≤ 5) ∧ (d = 5 → sqN d = 4) := by decide +kernel
theorem pk_max {ds : List Nat} (hl : ds.length = 8) (h7 : ∀ i ∈ ds, i < 7) (hs : sqS ds = 4) : pkN 0 ds ≤ pkN 0 [5, 3, 3, 3, 3, 3, 3, 3] := by
  obtain ⟨d0, d1, d2, d3, d4, d5, d6, d7, rfl⟩ := ds8 hl
  simp only [List.mem_cons, List.not_mem_nil, or_false, forall_eq_or_imp, forall_eq] at h7
  obtain ⟨a0, a1, a2, a3, a4, a5, a6, a7⟩ := h7
  simp only [sqS] at hs
  simp only [pkN]
  have q0 := sq_t d0 a0
  have q1 := sq_t d1 a1
  have q2 := sq_t d2 a2
  have q3 := sq_t d3 a3
  have q4 := sq_t d4 a4
  have q5 := sq_t d5 a5
  have q6 := sq_t d6 a6
  have q7 := sq_t d7 a7
  have h5 := q0.2.1 (by omega)
  by_cases e : d0 = 5
  · have := q0.2.2 e
    have := q1.1.mp (by omega)
    have := q2.1.mp (by omega)
    have := q3.1.mp (by omega)
    have := q4.1.mp (by omega)
    have := q5.1.mp (by omega)
    have := q6.1.mp (by omega)
    have := q7.1.mp (by omega)
    omega
  · omega
/-- 1 is the last unit -/
theorem el_1 {o : Nat} (ho : o < 8) : ∀ p, p < 8 → zEl o 1 (lnN o 1 - 1) p = zOne 0 p := by
  have n16 := ln_16 o ho
  have hz : ofO o (oddN (zOne 0)) = true := by rw [show oddN (zOne 0) = 0 by decide +kernel]; exact of_0 o ho
  obtain ⟨t, t1, t2, t3⟩ := un_ix ho hz (by decide +kernel)
  have e : t = lnN o 1 - 1 := by
    refine Classical.byContradiction (fun z => ?_)
    have h1 := lsP_lt (o := o) (norm := 1) (show t < t + 1 by omega) (by omega)
    have d1 : dg (zEl o 1 t) = [5, 3, 3, 3, 3, 3, 3, 3] := by rw [dg_e t3]; decide +kernel
    obtain ⟨m1, m2⟩ := lsD_m (show t + 1 < lnN o 1 by omega)
    obtain ⟨l1, l2⟩ := lx_len _ _ _ m1
    have h2 := pk_max l1 l2 (lx_sum _ _ _ m1)
    have h3 := (el_u ho t1).2.2.1
    rw [d1] at h3
    unfold lsP at h1
    rw [← h3] at h1
    omega
  rw [← e]
  exact t3

