theorem hs_hs (h : xH) (a : Nat) (c c2 : xC) : hs (hs h a c) a c2 = hs h a c2 := by
  refine Prod.ext (funext fun j => ?_) rfl
  show (if j = a then c2 else if j = a then c else h.1 j) = if j = a then c2 else h.1 j
  by_cases e : j = a
  · rw [if_pos e, if_pos e]
  · rw [if_neg e, if_neg e, if_neg e]
theorem hs_comm (h : xH) {a b : Nat} (hab : a ≠ b) (c c2 : xC) : hs (hs h a c) b c2 = hs (hs h b c2) a c := by
  refine Prod.ext (funext fun j => ?_) rfl
  show (if j = b then c2 else if j = a then c else h.1 j) = if j = a then c else if j = b then c2 else h.1 j
  by_cases e1 : j = a
  · by_cases e2 : j = b
    · exact absurd (e1.symm.trans e2) hab
    · rw [if_neg e2]
      rw [if_pos e1, if_pos e1]
  · by_cases e2 : j = b
    · rw [if_pos e2, if_neg e1, if_pos e2]
    · rw [if_neg e2, if_neg e1, if_neg e1, if_neg e2]
theorem hs_self {h : xH} {a : Nat} {c : xC} (ha : h.1 a = c) : hs h a c = h := by
  show (xup h.1 a c, h.2) = h
  have e : xup h.1 a c = h.1 := by
    funext j
    unfold xup
    split
    · next e => rw [e, ha]
    · rfl
  rw [e]
theorem xne {h : xH} {a b : Nat} {c d : xC} (ha : h.1 a = c) (hb : h.1 b = d) (hcd : c.1 ≠ d.1) : a ≠ b := fun e => hcd (by rw [← ha, ← hb, e])
/-- filled up to i -/
def xF {α : Type} (f t : Nat → α) (i : Nat) : Nat → α := fun j => if j < i then f j else t j
theorem xF_0 {α : Type} (f t : Nat → α) : xF f t 0 = t := by
  funext j
  exact if_neg (Nat.not_lt_zero j)
theorem xF_upd (f t : Nat → Int32) (i : Nat) : upd (xF f t i) i (f i) = xF f t (i + 1) := by
  funext j
  unfold upd xF
  by_cases e : j = i
  · rw [if_pos e, if_pos (by omega), e]
  · rw [if_neg e]
    by_cases e2 : j < i
    · rw [if_pos e2, if_pos (by omega)]
    · rw [if_neg e2, if_neg (by omega)]
theorem xF_updL (f t : Nat → Int64) (i : Nat) : vp_updL (xF f t i) i (f i) = xF f t (i + 1) := by
  funext j
  unfold vp_updL xF
  by_cases e : j = i
  · rw [if_pos e, if_pos (by omega), e]
  · rw [if_neg e]
    by_cases e2 : j < i
    · rw [if_pos e2, if_pos (by omega)]
    · rw [if_neg e2, if_neg (by omega)]
theorem inc1 (i : Nat) : nI i + Int32.ofInt 1 = nI (i + 1) := by
  rw [show Int32.ofInt 1 = 1 by decide]
  exact nI_1 i
section XMR
variable {G : xG} {l : Launch} {M : xM} {d : Nat} {Z : List Frame → Array Value → State → Nat → Nat → State → Prop} {k n pc pc2 : Nat} {L : xL} {st : List Value} {h : xH}
/-- a static row of numbers, as a class's constant pool names it -/
def xSl (own : String) (idx j : Nat) : Prop := ∃ q : String × String × Nat × List Int32, xST[j]? = some q ∧ (Cond.fieldLink own idx q.1 q.2.1 "[I" ∈ xTT ∨ ∃ host : String, Cond.fieldLinkNest own idx q.1 q.2.1 "[I" host ∈ xNW)
theorem x_gets {idx j : Nat} (hd : decode M.2.1 pc = .ok (.getstatic idx, 3)) (hp : pc + 3 = pc2) (hlk : xSl M.1.cls idx j) (kk : xWP G l M d Z k n pc2 L (.ref (1000000 + j) :: st) h) : xWP G l M d Z k n pc L st h := by
  intro p e R s m args below meth c H locs cells slots mc ms ls hO hR hS hk hn hl
  subst hp
  have hts := hO.2.2.2.2.2.2.2.1
  have hSE := hO.2.2.2.2.2.2.2.2.1
  obtain ⟨q, hq, hlk⟩ := hlk
  obtain ⟨⟨cf, kf, fi, f, a, cell, h1, h2, h3, h4, h5, h6, h7, h8⟩, -⟩ := hSE.2.2.2.1 j q hq
  have ha : a < G.1 := Nat.lt_of_not_le h8
  have e9 : xtv G (.ref (1000000 + j)) = .ref (G.2.2.2.2.2 j) := by
    show Value.ref (xad G (1000000 + j)) = _
    unfold xad
    rw [if_neg (by omega), show 1000000 + j - 1000000 = j by omega]
  have kk2 := kk p e R s m args below meth c H locs cells slots mc ms ls hO hR hS hk hn hl
  rw [List.map_cons, e9] at kk2
  rcases hlk with hlk | ⟨host, hlk⟩
  · exact W.gets hO.1 hO.2.1 hO.2.2.2.2.2.2.1 (hts _ hlk) h1 h2 h3 h4 (by rw [hR.2.2.1 a ha]; exact h5) (fun e => by rw [e] at h6; cases h6) h7 rfl hd kk2
  · exact va_WgetsN hO.1 hO.2.1 hO.2.2.2.2.2.2.1 (va_Nw.use rfl (hSE.2.2.1 _ hlk)) h1 h2 h3 h4 (by rw [hR.2.2.1 a ha]; exact h5) (fun e => by rw [e] at h6; cases h6) h7 rfl hd kk2
theorem x_sald {j i2 : Nat} {i : Int32} {q : String × String × Nat × List Int32} (hd : decode M.2.1 pc = .ok (.iaload, 1)) (hp : pc + 1 = pc2) (hq : xST[j]? = some q) (hi : i = nI i2) (hj : i2 < q.2.2.1) (hN : q.2.2.1 < 2147483648) (kk : xWP G l M d Z k n pc2 L (.int (q.2.2.2.getD i2 0) :: st) h) : xWP G l M d Z k n pc L (.int i :: .ref (1000000 + j) :: st) h := by
  intro p e R s m args below meth c H locs cells slots mc ms ls hO hR hS hk hn hl
  subst hp
  have hSE := hO.2.2.2.2.2.2.2.2.1
  obtain ⟨-, cell, h1, h2, h3, h4, h5, h6, h7⟩ := hSE.2.2.2.1 j q hq
  have ha : G.2.2.2.2.2 j < G.1 := Nat.lt_of_not_le h7
  have e9 : xtv G (.ref (1000000 + j)) = .ref (G.2.2.2.2.2 j) := by
    show Value.ref (xad G (1000000 + j)) = _
    unfold xad
    rw [if_neg (by omega), show 1000000 + j - 1000000 = j by omega]
  obtain ⟨i1, i2'⟩ := x_in hi hj hN
  rw [List.map_cons, List.map_cons, e9]
  refine W.iald hO.1 hO.2.1 (cell := cell) (by rw [hR.2.2.1 _ ha]; exact h1) h2 h3 ?_ (v := .int (q.2.2.2.getD i2 0)) (by rw [i2']; exact h6 i2 hj) rfl rfl hd (kk p e R s m args below meth c H locs cells slots mc ms ls hO hR hS hk hn hl)
  rintro (q9 | q9)
  · exact i1 (Or.inl q9)
  · exact i1 (Or.inr (Nat.le_trans h4 q9))
theorem x_mna {t N K : Nat} {i j : Int32} {idx : Nat} (hd : decode M.2.1 pc = .ok (.multianewarray idx 2, 4)) (hp : pc + 4 = pc2) (ht : t < 2) (hlk : Cond.classLink M.1.cls idx ("[" ++ (FieldType.array (xty t)).toString) ∈ xTT) (har : Cond.arrayClass (xty t) ∈ xTT) (hi : i = nI N) (hj : j = nI K) (hN : N ≤ 1000) (hK : K ≤ 1000) (hm : h.2 + N < 1000000) (kk : xWP G l M d Z k n pc2 L (.ref h.2 :: st) (fun a => if a = h.2 then (4 + t, N, xP (fun q => h.2 + 1 + q)) else if h.2 < a ∧ a < h.2 + 1 + N then (t, K, fun _ => defaultValue (xty t)) else h.1 a, h.2 + 1 + N)) : xWP G l M d Z (1 + N + k) (N + N * K + n) pc L (.int j :: .int i :: st) h := by
  intro p e R s m args below meth c H locs cells slots mc ms ls hO hR hS hk hn hl
  subst hp
  subst hi
  subst hj
  have hts := hO.2.2.2.2.2.2.2.1
  have hSE := hO.2.2.2.2.2.2.2.2.1
  obtain ⟨hfr, hlo, hrc, hrs, hz⟩ := hO.2.2.2.2.2.2.2.2.2
  have hov : (Cond.arrayOver (.array (xty t))).before args s = true := by
    rcases (show t = 0 ∨ t = 1 by omega) with rfl | rfl
    · exact hSE.2.2.2.2.1
    · exact hSE.2.2.2.2.2.1
  have cN : (nI N).toNatClampNeg = N := nI_clamp (by omega)
  have cK : (nI K).toNatClampNeg = K := nI_clamp (by omega)
  have hc8 : componentBytes (xty t) ≤ 8 := by
    match t, ht with
    | 0, _ => decide
    | 1, _ => decide
  have ed : (fun j : Nat => xtv G (defaultValue (xty t))) = fun _ => defaultValue (xty t) := by
    match t, ht with
    | 0, _ => rfl
    | 1, _ => rfl
  intro T hT X
  obtain ⟨vm₁, cA, comp, -, fA, fC, hOO, -, X', step⟩ := Jvm.Stand.multianewarray2F X hO.1 hO.2.2.2.2.2.2.1 (hts _ hlk) hov (hts _ har) (g := F0 m pc ls ((Value.int (nI K) :: .int (nI N) :: st).map (xtv G))) rfl (by rw [hO.2.1]; exact hd) rfl (nI_pos (by omega)) (nI_pos (by omega)) (by rw [cN]; omega) (by rw [cK]; exact Nat.le_trans (Nat.mul_le_mul hK hc8) (by decide)) (by rw [cK]; omega) (by match t, ht with
    | 0, _ => rfl
    | 1, _ => rfl) (by match t, ht with
    | 0, _ => rfl
    | 1, _ => rfl) (by rw [cN]; omega) (by rw [cN, cK]; omega)
  rw [cN, cK] at X' step
  have hcA : cA = G.2.2.1 (4 + t) := by
    refine Option.some.inj (fA.symm.trans ?_)
    have h9 := (hSE.2.1 (4 + t) (by omega)).2
    rcases (show t = 0 ∨ t = 1 by omega) with rfl | rfl
    · exact h9
    · exact h9
  have hcC : comp = G.2.2.1 t := by
    refine Option.some.inj (fC.symm.trans ?_)
    have h9 := (hSE.2.1 t (by omega)).2
    rcases (show t = 0 ∨ t = 1 by omega) with rfl | rfl
    · exact h9
    · exact h9
  subst hcA
  subst hcC
  generalize hF : Jvm.Free.Multi.fill (T.setVm vm₁) (G.2.2.1 (4 + t)) (G.2.2.1 t) N K (defaultValue (xty t)) N = F at X' step
  have hTh : (T.setVm vm₁).heap = H := hT
  obtain ⟨f1, f2, -, -⟩ := Jvm.Free.Multi.fill_facts (T.setVm vm₁) (G.2.2.1 (4 + t)) (G.2.2.1 t) N K (defaultValue (xty t)) N
  rw [hF, hTh] at f1 f2
  have hold : ∀ x : Nat, x < H.size → F.heap[x]? = H[x]? := fun x hx => by
    have := Jvm.Free.Multi.fill_old (T.setVm vm₁) (G.2.2.1 (4 + t)) (G.2.2.1 t) N K (defaultValue (xty t)) (a := x) (by rw [hTh]; exact hx) N
    rw [hF, hTh] at this
    exact this
  have hrow : ∀ j : Nat, j < N → F.heap[H.size + 1 + j]? = some (arrV (G.2.2.1 t) K (fun _ => defaultValue (xty t))) := fun j hj => by
    have := Jvm.Free.Multi.fill_inner (T.setVm vm₁) (G.2.2.1 (4 + t)) (G.2.2.1 t) N K (defaultValue (xty t)) N j hj
    rw [hF, hTh] at this
    rw [this, ← arrV_new]
    rfl
  have hout : ∀ i : Nat, Jvm.Free.Multi.outerC (G.2.2.1 (4 + t)) N H.size i = arrV (G.2.2.1 (4 + t)) N (fun j => if j < i then .ref (H.size + 1 + j) else .null) := by
    intro i
    induction i with
    | zero =>
      show ({ cls := G.2.2.1 (4 + t), slots := Array.replicate N .null, vm := .none } : Cell) = _
      rw [arrV_new]
      refine congrArg (arrV (G.2.2.1 (4 + t)) N) (funext fun j => ?_)
      simp
    | succ i ih =>
      show (Jvm.Free.Multi.outerC (G.2.2.1 (4 + t)) N H.size i).setSlot i (.ref (H.size + 1 + i)) = _
      rw [ih, arrV_store]
      refine congrArg (arrV (G.2.2.1 (4 + t)) N) (funext fun j => ?_)
      by_cases e : j = i
      · subst e
        simp [updV]
      · by_cases h9 : j < i
        · simp [updV, e, h9, Nat.lt_succ_of_lt h9]
        · simp [updV, e, h9, show ¬ j < i + 1 by omega]
  rw [hout N] at f2
  have e1 : H.size = G.1 + h.2 := hR.1
  have hR2 : xR G (fun a => if a = h.2 then (4 + t, N, xP (fun q => h.2 + 1 + q)) else if h.2 < a ∧ a < h.2 + 1 + N then (t, K, fun _ => defaultValue (xty t)) else h.1 a, h.2 + 1 + N) F.heap := by
    refine ⟨by rw [f1, e1]; show G.1 + h.2 + 1 + N = G.1 + (h.2 + 1 + N); omega, fun a ha => ?_, fun q hq => by rw [hold q (by omega)]; exact hR.2.2.1 q hq, fun a ha => ?_, by show h.2 + 1 + N ≤ _; omega⟩
    · have ha2 : a < h.2 + 1 + N := ha
      show xAt G (if a = h.2 then (4 + t, N, xP (fun q => h.2 + 1 + q)) else if h.2 < a ∧ a < h.2 + 1 + N then (t, K, fun _ => defaultValue (xty t)) else h.1 a) (G.1 + a) F.heap
      by_cases c1 : a = h.2
      · rw [if_pos c1]
        subst c1
        refine xAt_arr (by omega) (f := fun j => xtv G (xP (fun q => h.2 + 1 + q) j)) rfl ?_
        rw [← e1, f2]
        congr 1
        unfold arrV
        congr 1
        congr 1
        funext j
        show (if j.val < N then Value.ref (H.size + 1 + j.val) else .null) = .ref (xad G (h.2 + 1 + j.val))
        rw [if_pos j.isLt]
        unfold xad
        rw [if_pos (by have := j.isLt; omega)]
        have e5 : H.size + 1 + j.val = G.1 + (h.2 + 1 + j.val) := by omega
        exact congrArg Value.ref e5
      · rw [if_neg c1]
        by_cases c2 : h.2 < a ∧ a < h.2 + 1 + N
        · rw [if_pos c2]
          refine xAt_arr (by omega) ed ?_
          have := hrow (a - (h.2 + 1)) (by omega)
          rw [show H.size + 1 + (a - (h.2 + 1)) = G.1 + a by omega] at this
          exact this
        · rw [if_neg c2]
          have ha3 : a < h.2 := by omega
          have h1 := hR.2.1 a ha3
          have e2 : F.heap[G.1 + a]? = H[G.1 + a]? := hold _ (by omega)
          unfold xAt at h1 ⊢
          split
          · next q => rw [if_pos q] at h1; rw [e2]; exact h1
          · next q =>
            rw [if_neg q] at h1
            obtain ⟨r, r1, r2⟩ := h1
            exact ⟨r, r1, r2.kept e2⟩
    · have ha2 : h.2 + 1 + N ≤ a := ha
      show (if a = h.2 then (4 + t, N, xP (fun q => h.2 + 1 + q)) else if h.2 < a ∧ a < h.2 + 1 + N then (t, K, fun _ => defaultValue (xty t)) else h.1 a).1 = 99
      rw [if_neg (by omega), if_neg (by omega)]
      exact hR.2.2.2.1 a (by omega)
  have hS2 : va_S (xA G) s.heap F.heap locs := ⟨by rw [f1]; have := hS.1; omega, fun x h1 h2 => (hold x (Nat.lt_of_lt_of_le h1 hS.1)).trans (hS.2.1 x h1 h2), hS.2.2⟩
  have kk2 := kk p e R s m args below meth c F.heap locs (cells + 1 + N) (slots + N + N * K) mc ms ls hO hR2 hS2 (by omega) (by omega) hl F rfl X'
  obtain ⟨t2, a1, b1⟩ := kk2
  refine ⟨t2, step t2 ?_, b1⟩
  have e3 : xtv G (.ref h.2) = .ref T.heap.size := by
    show Value.ref (xad G h.2) = _
    unfold xad
    rw [if_pos (by omega), hT, e1]
  rw [List.map_cons, e3] at a1
  exact a1
end XMR
theorem acp_s : Cond.static arraycopyName ∈ xTT := xIn2 207 rfl rfl
theorem acp_n : Cond.native arraycopyName ∈ xTT := xIn2 208 rfl rfl
section XCP
variable {G : xG} {l : Launch} {M : xM} {d : Nat} {Z : List Frame → Array Value → State → Nat → Nat → State → Prop} {k n pc pc2 : Nat} {L : xL} {st : List Value} {h : xH}
theorem x_copy {t a0 a1 n0 n1 sp dp cn idx : Nat} {f g : Nat → Int32} {isp idp ic : Int32} (hd : decode M.2.1 pc = .ok (.invokestatic idx, 3)) (hp : pc + 3 = pc2) (hlk : Cond.methodLink M.1.cls idx arraycopyName ∈ xTT) (ht : t < 4) (h0 : h.1 a0 = (t, n0, xI f)) (h1 : h.1 a1 = (t, n1, xI g)) (e1 : isp = nI sp) (e2 : idp = nI dp) (e3 : ic = nI cn) (b1 : sp + cn ≤ n0) (b2 : dp + cn ≤ n1) (b3 : n0 < 2147483648) (b4 : n1 < 2147483648) (hfit : ∀ i, i < cn → fits (xty t) (.int (f (sp + i))) = true) (hdd : 1 ≤ d) (hw : (st.map fun v => v.category).sum ≤ 8) (kk : xWP G l M d Z k n pc2 L st (hs h a1 (t, n1, xI (va_cpy f g sp dp cn)))) : xWP G l M d Z k n pc L (.int ic :: .int idp :: .ref a1 :: .int isp :: .ref a0 :: st) h := by
  intro p e R s m args below meth c H locs cells slots mc ms ls hO hR hS hk hn hl
  subst hp
  subst e1
  subst e2
  subst e3
  have hts := hO.2.2.2.2.2.2.2.1
  have hSE := hO.2.2.2.2.2.2.2.2.1
  obtain ⟨hfr, hlo, hrc, hrs, hz⟩ := hO.2.2.2.2.2.2.2.2.2
  have cs : (nI sp).toNatClampNeg = sp := nI_clamp (by omega)
  have cd : (nI dp).toNatClampNeg = dp := nI_clamp (by omega)
  have cc : (nI cn).toNatClampNeg = cn := nI_clamp (by omega)
  have ts : (nI sp).toInt = sp := nI_toInt (by omega)
  have td : (nI dp).toInt = dp := nI_toInt (by omega)
  have tc : (nI cn).toInt = cn := nI_toInt (by omega)
  have hprim : refKind (xty t) = false := by
    match t, ht with
    | 0, _ => rfl
    | 1, _ => rfl
    | 2, _ => rfl
    | 3, _ => rfl
  have hc0 : H[xad G a0]? = some (arrV (G.2.2.1 t) n0 (fun j => .int (f j))) := hR.arr h0 (by omega)
  have hc1 : H[xad G a1]? = some (arrV (G.2.2.1 t) n1 (fun j => .int (g j))) := hR.arr h1 (by omega)
  have hlt := hR.lt h1 (by omega)
  intro T hT X
  obtain ⟨-, k0, hk0, cm0, hkk0⟩ := (hSE.2.1 t (by omega)).1 n0 (fun j => .int (f j))
  obtain ⟨-, k1, hk1, cm1, hkk1⟩ := (hSE.2.1 t (by omega)).1 n1 (fun j => .int (g j))
  have hlr : 2 * (F0 m pc ls ((Value.int (nI cn) :: .int (nI dp) :: .ref a1 :: .int (nI sp) :: .ref a0 :: st).map (xtv G))).monitorRoom + ((st.map (xtv G)).map fun v => v.category).sum ≤ 8 := lv_room (by rw [xsum_cat]; exact hw)
  have e9 : nativeFrameWords "java/lang/System" "arraycopy" 5 ≤ 7 := by decide
  obtain ⟨vm', X', step⟩ := X.arraycopy hO.1 hO.2.2.2.2.2.2.1 (hts _ hlk) (hts _ acp_n) (hts _ acp_s) (hts (.initialized "java/lang/System") (xIn1 19 rfl rfl)) (src := xad G a0) (dst := xad G a1) (cs := arrV (G.2.2.1 t) n0 (fun j => .int (f j))) (cd := arrV (G.2.2.1 t) n1 (fun j => .int (g j))) (srcPos := nI sp) (destPos := nI dp) (n := nI cn) (by rw [hT]; exact hc0) (by rw [hT]; exact hc1)
    (fun _ h => by cases h) (fun _ h => by cases h) (fun h => by cases h) (fun h => by cases h) hk0 hk1 hkk0 hkk1 (by simp [hprim]) (nI_pos (by omega)) (nI_pos (by omega)) (nI_pos (by omega))
    (by rw [ts, tc, arrV_size]; omega)
    (by rw [td, tc, arrV_size]; omega)
    (fun vm₁ _ i hi => by
      rw [cc] at hi
      have e : (arrV (G.2.2.1 t) n0 (fun j => .int (f j))).slots.getD ((nI sp).toNatClampNeg + i) .null = .int (f (sp + i)) := by
        rw [cs, Array.getD_eq_getD_getElem?, arrV_read _ _ (by omega)]
        rfl
      refine ⟨?_, ?_⟩
      · rw [e]
        exact hfit i hi
      · rw [e]
        exact trivial)
    (g := F0 m pc ls ((Value.int (nI cn) :: .int (nI dp) :: .ref a1 :: .int (nI sp) :: .ref a0 :: st).map (xtv G))) rfl (by rw [hO.2.2.1]; exact hl.1) (rest := st.map (xtv G)) rfl (by rw [hO.2.1]; exact hd) (by omega) (by omega)
  have e1 : copied (arrV (G.2.2.1 t) n0 (fun j => .int (f j))) (arrV (G.2.2.1 t) n1 (fun j => .int (g j))) (nI sp) (nI dp) (nI cn) = arrV (G.2.2.1 t) n1 (fun j => .int (va_cpy f g (nI sp).toNatClampNeg (nI dp).toNatClampNeg (nI cn).toNatClampNeg j)) := va_copied (fun z => .int z) _ _ f g (by rw [cs, cc]; exact b1)
  rw [cs, cd, cc] at e1
  rw [e1] at X' step
  have hl2 : xad G a1 < H.size := (Array.getElem?_eq_some_iff.mp hc1).1
  have hheap : ((T.setVm vm').setCell (xad G a1) (arrV (G.2.2.1 t) n1 (fun j => .int (va_cpy f g sp dp cn j)))).heap = H.setIfInBounds (xad G a1) (arrV (G.2.2.1 t) n1 (fun j => .int (va_cpy f g sp dp cn j))) := by rw [← hT]; rfl
  have oq : ∀ q : Nat, q ≠ xad G a1 → (H.setIfInBounds (xad G a1) (arrV (G.2.2.1 t) n1 (fun j => .int (va_cpy f g sp dp cn j))))[q]? = H[q]? := fun q hq => by simp [Array.getElem?_setIfInBounds, Ne.symm hq]
  have hsz : (H.setIfInBounds (xad G a1) (arrV (G.2.2.1 t) n1 (fun j => .int (va_cpy f g sp dp cn j)))).size = H.size := by simp
  obtain ⟨t2, a2, b2⟩ := kk p e R s m args below meth c _ _ cells slots mc ms ls hO (hR.set hlt (xAt_arr (by omega) (f := fun j => .int (va_cpy f g sp dp cn j)) rfl (show (H.setIfInBounds (xad G a1) _)[xad G a1]? = some _ by simp [Array.getElem?_setIfInBounds, hl2])) hsz oq) ⟨by rw [hsz]; exact hS.1, fun q g1 g2 => by
      rw [oq q (fun e => g2 (by rw [e]; exact hR.in hlt))]
      exact hS.2.1 q g1 g2, fun q hq => by
      rcases List.mem_append.mp hq with h | h
      · exact hS.2.2 q h
      · obtain ⟨z, -, hz⟩ := List.mem_map.mp h
        rw [← hz]
        exact hR.in hlt⟩ hk hn hl _ hheap X'
  exact ⟨t2, step t2 a2, b2⟩
end XCP
