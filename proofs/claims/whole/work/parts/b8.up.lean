/-! STATIC VALUES, THE TEXT, CALLS UP AND PRIVATE CALLS: more rules -/
section XZR
variable {G : xG} {l : Launch} {M : xM} {d : Nat} {Z : List Frame → Array Value → State → Nat → Nat → State → Prop} {k n pc pc2 : Nat} {L : xL} {st : List Value} {h : xH}
theorem xtv_st (G : xG) (j : Nat) : xtv G (.ref (1000000 + j)) = .ref (G.2.2.2.2.2 j) := by
  show Value.ref (xad G (1000000 + j)) = _
  unfold xad
  rw [if_neg (by omega), show 1000000 + j - 1000000 = j by omega]
/-- a static value -/
theorem x_getZ {idx : Nat} {C nm ds : String} {v : Value} (hd : decode M.2.1 pc = .ok (.getstatic idx, 3)) (hp : pc + 3 = pc2) (hlk : Cond.fieldLink M.1.cls idx C nm ds ∈ xTT) (hz : ∀ s, xSE G s → va_Z C nm ds (xtv G v) (xA G) s G.2.1) (kk : xWP G l M d Z k n pc2 L (v :: st) h) : xWP G l M d Z k n pc L st h := by
  intro p e R s m args below meth c H locs cells slots mc ms ls hO hR hS hk hn hl
  subst hp
  have hts := hO.2.2.2.2.2.2.2.1
  have hSE := hO.2.2.2.2.2.2.2.2.1
  obtain ⟨cf, kf, fi, f, a, cell, h1, h2, h3, h4, h5, h6, h7, h8⟩ := hz s hSE
  have ha : a < G.1 := Nat.lt_of_not_le h8
  have kk2 := kk p e R s m args below meth c H locs cells slots mc ms ls hO hR hS hk hn hl
  rw [List.map_cons] at kk2
  exact W.gets hO.1 hO.2.1 hO.2.2.2.2.2.2.1 (hts _ hlk) h1 h2 h3 h4 (by rw [hR.2.2.1 a ha]; exact h5) (fun e => by rw [e] at h6; cases h6) h7 rfl hd kk2
/-- a static reference of which nothing is known -/
theorem x_getQ {idx : Nat} (hd : decode M.2.1 pc = .ok (.getstatic idx, 3)) (hp : pc + 3 = pc2) (hlk : Cond.fieldLink M.1.cls idx "jdk/internal/util/Preconditions" "SIOOBE_FORMATTER" "Ljava/util/function/BiFunction;" ∈ xTT) (kk : ∀ v : Value, v.category = 1 → xWP G l M d Z k n pc2 L (v :: st) h) : xWP G l M d Z k n pc L st h := by
  intro p e R s m args below meth c H locs cells slots mc ms ls hO hR hS hk hn hl
  subst hp
  have hts := hO.2.2.2.2.2.2.2.1
  have hSE := hO.2.2.2.2.2.2.2.2.1
  have fin : ∀ v : Value, v.category = 1 → va_Z "jdk/internal/util/Preconditions" "SIOOBE_FORMATTER" "Ljava/util/function/BiFunction;" (xtv G v) (xA G) s G.2.1 → W p l e R s m args below meth c H locs cells slots (Z below args s mc ms) (F0 m pc ls (st.map (xtv G))) := by
    intro v hv hz
    obtain ⟨cf, kf, fi, f, a, cell, h1, h2, h3, h4, h5, h6, h7, h8⟩ := hz
    have ha : a < G.1 := Nat.lt_of_not_le h8
    have kk2 := kk v hv p e R s m args below meth c H locs cells slots mc ms ls hO hR hS hk hn hl
    rw [List.map_cons] at kk2
    exact W.gets hO.1 hO.2.1 hO.2.2.2.2.2.2.1 (hts _ hlk) h1 h2 h3 h4 (by rw [hR.2.2.1 a ha]; exact h5) (fun e => by rw [e] at h6; cases h6) h7 rfl hd kk2
  rcases hSE.2.2.2.2.2.2.2.2.2.2.2.2 with hz | hz
  · exact fin .null rfl hz
  · exact fin (.ref (1000000 + 500000)) rfl (by rw [xtv_st]; exact hz)
/-- a static row of bytes -/
theorem x_sbald {j N i2 : Nat} {i x : Int32} {f : Nat → Value} (hd : decode M.2.1 pc = .ok (.baload, 1)) (hp : pc + 1 = pc2) (hz : ∀ s, xSE G s → va_T .byte (G.2.2.2.2.2 j) N f (xA G) s G.2.1) (hi : i = nI i2) (hj : i2 < N) (hN : N < 2147483648) (hx : f i2 = .int x) (kk : xWP G l M d Z k n pc2 L (.int x :: st) h) : xWP G l M d Z k n pc L (.int i :: .ref (1000000 + j) :: st) h := by
  intro p e R s m args below meth c H locs cells slots mc ms ls hO hR hS hk hn hl
  subst hp
  obtain ⟨cell, h1, h2, h3, h4, h5, h6, h7⟩ := hz s hO.2.2.2.2.2.2.2.2.1
  have ha : G.2.2.2.2.2 j < G.1 := Nat.lt_of_not_le h7
  obtain ⟨i1, i2'⟩ := x_in hi hj hN
  rw [List.map_cons, List.map_cons, xtv_st]
  refine W.bald hO.1 hO.2.1 (cell := cell) (by rw [hR.2.2.1 _ ha]; exact h1) h2 h3 ?_ (v := .int x) (by rw [i2', ← hx]; exact h6 i2 hj) rfl rfl hd (kk p e R s m args below meth c H locs cells slots mc ms ls hO hR hS hk hn hl)
  rintro (q9 | q9)
  · exact i1 (Or.inl q9)
  · exact i1 (Or.inr (Nat.le_trans h4 q9))
/-- a static row of ints -/
theorem x_siald {j N i2 : Nat} {i x : Int32} {f : Nat → Value} (hd : decode M.2.1 pc = .ok (.iaload, 1)) (hp : pc + 1 = pc2) (hz : ∀ s, xSE G s → va_T .int (G.2.2.2.2.2 j) N f (xA G) s G.2.1) (hi : i = nI i2) (hj : i2 < N) (hN : N < 2147483648) (hx : f i2 = .int x) (kk : xWP G l M d Z k n pc2 L (.int x :: st) h) : xWP G l M d Z k n pc L (.int i :: .ref (1000000 + j) :: st) h := by
  intro p e R s m args below meth c H locs cells slots mc ms ls hO hR hS hk hn hl
  subst hp
  obtain ⟨cell, h1, h2, h3, h4, h5, h6, h7⟩ := hz s hO.2.2.2.2.2.2.2.2.1
  have ha : G.2.2.2.2.2 j < G.1 := Nat.lt_of_not_le h7
  obtain ⟨i1, i2'⟩ := x_in hi hj hN
  rw [List.map_cons, List.map_cons, xtv_st]
  refine W.iald hO.1 hO.2.1 (cell := cell) (by rw [hR.2.2.1 _ ha]; exact h1) h2 h3 ?_ (v := .int x) (by rw [i2', ← hx]; exact h6 i2 hj) rfl rfl hd (kk p e R s m args below meth c H locs cells slots mc ms ls hO hR hS hk hn hl)
  rintro (q9 | q9)
  · exact i1 (Or.inl q9)
  · exact i1 (Or.inr (Nat.le_trans h4 q9))
theorem x_salen {ty : FieldType} {j N : Nat} {v : Int32} {f : Nat → Value} (hd : decode M.2.1 pc = .ok (.arraylength, 1)) (hp : pc + 1 = pc2) (hz : ∀ s, xSE G s → va_T ty (G.2.2.2.2.2 j) N f (xA G) s G.2.1) (hv : nI N = v) (kk : xWP G l M d Z k n pc2 L (.int v :: st) h) : xWP G l M d Z k n pc L (.ref (1000000 + j) :: st) h := by
  intro p e R s m args below meth c H locs cells slots mc ms ls hO hR hS hk hn hl
  subst hp
  obtain ⟨cell, h1, h2, h3, h4, h5, h6, h7⟩ := hz s hO.2.2.2.2.2.2.2.2.1
  have ha : G.2.2.2.2.2 j < G.1 := Nat.lt_of_not_le h7
  rw [List.map_cons, xtv_st]
  exact W.alen hO.1 hO.2.1 (cell := cell) (by rw [hR.2.2.1 _ ha]; exact h1) h2 (n := v) (h5.trans hv) rfl rfl hd (kk p e R s m args below meth c H locs cells slots mc ms ls hO hR hS hk hn hl)
/-- the text's place -/
theorem x_ldcT {idx : Nat} (hd : decode M.2.1 pc = .ok (.ldc_w idx, 3)) (hp : pc + 3 = pc2) (hcl : M.1.cls = "EightParts") (hi : idx = 384) (kk : xWP G l M d Z k n pc2 L (.ref (1000000 + 6) :: st) h) : xWP G l M d Z k n pc L st h := by
  intro p e R s m args below meth c H locs cells slots mc ms ls hO hR hS hk hn hl
  subst hp
  subst hi
  have hSE := hO.2.2.2.2.2.2.2.2.1
  have hZ := hSE.2.2.2.2.2.2.2.2.2.1
  have kk2 := kk p e R s m args below meth c H locs cells slots mc ms ls hO hR hS hk hn hl
  rw [List.map_cons, xtv_st] at kk2
  intro T hT X
  obtain ⟨t, a1, b1⟩ := kk2 T hT X
  exact ⟨t, X.ldcStringW hO.1 (own := "EightParts") (by rw [← hcl]; exact hO.2.2.2.2.2.2.1) (text := "/2") (a := G.2.2.2.2.2 6) hZ.1 hZ.2 (g := F0 m pc ls (st.map (xtv G))) rfl (by rw [hO.2.1]; exact hd) t a1, b1⟩
/-- a field of the text -/
theorem x_getT {idx : Nat} {nm ds : String} {v : Value} (hd : decode M.2.1 pc = .ok (.getfield idx, 3)) (hp : pc + 3 = pc2) (hlk : Cond.fieldLink M.1.cls idx "java/lang/String" nm ds ∈ xTT) (hz : ∀ s, xSE G s → va_OF "java/lang/String" nm ds (xtv G v) (G.2.2.2.2.2 6) (xA G) s G.2.1) (kk : xWP G l M d Z k n pc2 L (v :: st) h) : xWP G l M d Z k n pc L (.ref (1000000 + 6) :: st) h := by
  intro p e R s m args below meth c H locs cells slots mc ms ls hO hR hS hk hn hl
  subst hp
  have hts := hO.2.2.2.2.2.2.2.1
  obtain ⟨cf, kf, fi, f, cell, h1, h2, h3, h4, h5, h6⟩ := hz s hO.2.2.2.2.2.2.2.2.1
  have ha : G.2.2.2.2.2 6 < G.1 := Nat.lt_of_not_le h6
  have kk2 := kk p e R s m args below meth c H locs cells slots mc ms ls hO hR hS hk hn hl
  rw [List.map_cons] at kk2
  rw [List.map_cons, xtv_st]
  exact W.getf hO.1 hO.2.1 hO.2.2.2.2.2.2.1 (hts _ hlk) h1 h2 (by rw [hR.2.2.1 _ ha]; exact h3) h4 (v := xtv G v) h5 rfl rfl hd kk2
theorem x_nonnull {x : Nat} {off : Int} {tgt : Nat} (hd : decode M.2.1 pc = .ok (.ifnonnull off, 3)) (ht : (pc : Int) + off = (tgt : Int)) (kk : xWP G l M d Z k n tgt L st h) : xWP G l M d Z k n pc L (.ref x :: st) h := by
  intro p e R s m args below meth c H locs cells slots mc ms ls hO hR hS hk hn hl
  exact lv_ifnonnull hO.1 hO.2.1 hd ht (kk p e R s m args below meth c H locs cells slots mc ms ls hO hR hS hk hn hl)
/-- super.m(..) -/
theorem x_callU {N : xM} {np idx d2 k2 n2 mc2 ms2 b ci NN : Nat} {F : Nat → Value} {As st0 : List Value} (hd : decode M.2.1 pc = .ok (.invokespecial idx, 3)) (hp : pc + 3 = pc2) (hlk : Cond.methodLink M.1.cls idx N.1 ∈ xTT) (hN : xOkB N np) (hin : Cond.instanceMethod N.1 ∈ xTT) (hsm : Cond.sameMethod N.1.cls N.1.cls N.1.name N.1.desc ∈ xTT) (hsu : Cond.superclass M.1.cls N.1.cls ∈ xTT) (hni : N.1.name ≠ "<init>") (hb : h.1 b = (100 + ci, NN, F)) (hdd : d2 + 1 ≤ d) (hA : As.length = np) (hst : st0 = As.reverse ++ .ref b :: st) (hw : (st.map fun v => v.category).sum ≤ 8) (hk2 : mc2 + k2 ≤ k) (hn2 : ms2 + n2 ≤ n) (kk : xCt G l N d2 (.ref b :: As) h mc2 ms2 (fun r h2 => xWP G l M d Z k2 n2 pc2 L (xpush r st) h2)) : xWP G l M d Z k n pc L st0 h := by
  intro p e R s m args below meth c H locs cells slots mc ms ls hO hR hS hk hn hl
  subst hp
  subst hst
  have hts := hO.2.2.2.2.2.2.2.1
  have hSE := hO.2.2.2.2.2.2.2.2.1
  obtain ⟨hfr, hlo, hrc, hrs, hz⟩ := hO.2.2.2.2.2.2.2.2.2
  have hmap : (As.reverse ++ .ref b :: st).map (xtv G) = (As.map (xtv G)).reverse ++ .ref (xad G b) :: st.map (xtv G) := by simp [xtv]
  rw [hmap]
  obtain ⟨q, hq, cell, q1, q2, q3, q4⟩ := hR.obj hb
  have hKn := (hSE.1 ci q hq).2
  have hpre : PreV s H q.1 (xad G b) (xPre G (.ref b :: As) h) (As.map (xtv G)) := ⟨xPre_blind G _ h, ⟨cell, q1, by rw [q3]; rfl, by rw [q2]; exact hKn.1⟩, fun U hU hW => ⟨rfl, xSE_warm hW hSE, by rw [hU]; exact hR⟩⟩
  have hlr : 2 * (F0 m pc ls ((As.map (xtv G)).reverse ++ .ref (xad G b) :: st.map (xtv G))).monitorRoom + ((st.map (xtv G)).map fun v => v.category).sum ≤ 8 := lv_room (by rw [xsum_cat]; exact hw)
  have hgd : GoodIn xTT (va_wsSU M.1.cls idx N.1 (xws N)) := by
    intro w hw
    unfold va_wsSU at hw
    rcases List.mem_append.mp hw with h9 | h9
    · have h8 : w ∈ xTT := by
        simp only [List.mem_cons, List.not_mem_nil, or_false] at h9
        rcases h9 with rfl | rfl | rfl | rfl | rfl
        · exact hlk
        · exact hsm
        · exact hsu
        · exact hin
        · exact hN.2.1
      exact ⟨h8, good_of_word (List.mem_filter.mp h8).2⟩
    · exact xgood N hN w h9
  refine x_after (Q := Z below args s mc ms) (mc := mc2) (ms := ms2) (Q' := fun r h2 => xWP G l M d Z k2 n2 (pc + 3) L (xpush r st) h2) (va_runSU (Ts := xTT) (own := M.1.cls) (C := q.1) hKn ⟨hO.1, hO.2.1, hO.2.2.1, hO.2.2.2.2.2.2.1, hts⟩ kk (va_cwSU (Ts := xTT) np hts hgd rfl rfl rfl ⟨hni, hN.2.2.2.2.2⟩ ⟨by show d2 + 1 ≤ _; omega, by show 8 + (N.2.2.1 + 11) + 100 * d2 ≤ _; have := hN.2.2.1; omega⟩) hpre rfl (by rw [List.length_map]; exact hA) hl.1 rfl hlr hd ⟨by omega, by omega⟩) hS (fun r h2 H1 locs1 hq hR1 hS1 => by
    rw [← xmap_ret]
    exact hq p e R s m args below meth c H1 locs1 (cells + mc2) (slots + ms2) mc ms ls hO hR1 hS1 (by omega) (by omega) hl)
/-- a method that the receiver's class inherits -/
theorem x_callN {N : xM} {np idx d2 k2 n2 mc2 ms2 b ci NN : Nat} {F : Nat → Value} {As st0 : List Value} (hd : decode M.2.1 pc = .ok (.invokevirtual idx, 3)) (hp : pc + 3 = pc2) (hlk : Cond.methodLink M.1.cls idx N.1 ∈ xTT) (hN : xOkB N np) (hin : Cond.instanceMethod N.1 ∈ xTT) (hsm : Cond.sameMethod N.1.cls N.1.cls N.1.name N.1.desc ∈ xTT) (hse : ∀ q, xcl[ci]? = some q → Cond.selects q.1 N.1 N.1 ∈ xTT) (hb : h.1 b = (100 + ci, NN, F)) (hdd : d2 + 1 ≤ d) (hA : As.length = np) (hst : st0 = As.reverse ++ .ref b :: st) (hw : (st.map fun v => v.category).sum ≤ 8) (hk2 : mc2 + k2 ≤ k) (hn2 : ms2 + n2 ≤ n) (kk : xCt G l N d2 (.ref b :: As) h mc2 ms2 (fun r h2 => xWP G l M d Z k2 n2 pc2 L (xpush r st) h2)) : xWP G l M d Z k n pc L st0 h := by
  intro p e R s m args below meth c H locs cells slots mc ms ls hO hR hS hk hn hl
  subst hp
  subst hst
  have hts := hO.2.2.2.2.2.2.2.1
  have hSE := hO.2.2.2.2.2.2.2.2.1
  obtain ⟨hfr, hlo, hrc, hrs, hz⟩ := hO.2.2.2.2.2.2.2.2.2
  have hmap : (As.reverse ++ .ref b :: st).map (xtv G) = (As.map (xtv G)).reverse ++ .ref (xad G b) :: st.map (xtv G) := by simp [xtv]
  rw [hmap]
  obtain ⟨q, hq, cell, q1, q2, q3, q4⟩ := hR.obj hb
  have hKn := (hSE.1 ci q hq).2
  have hpre : PreV s H q.1 (xad G b) (xPre G (.ref b :: As) h) (As.map (xtv G)) := ⟨xPre_blind G _ h, ⟨cell, q1, by rw [q3]; rfl, by rw [q2]; exact hKn.1⟩, fun U hU hW => ⟨rfl, xSE_warm hW hSE, by rw [hU]; exact hR⟩⟩
  have hlr : 2 * (F0 m pc ls ((As.map (xtv G)).reverse ++ .ref (xad G b) :: st.map (xtv G))).monitorRoom + ((st.map (xtv G)).map fun v => v.category).sum ≤ 8 := lv_room (by rw [xsum_cat]; exact hw)
  have hgd : GoodIn xTT (va_wsU M.1.cls idx q.1 N.1.cls N.1 N.1 (xws N)) := by
    intro w hw
    unfold va_wsU at hw
    rcases List.mem_append.mp hw with h9 | h9
    · have h8 : w ∈ xTT := by
        simp only [List.mem_cons, List.not_mem_nil, or_false] at h9
        rcases h9 with rfl | rfl | rfl | rfl | rfl
        · exact hlk
        · exact hsm
        · exact hse q hq
        · exact hin
        · exact hN.2.1
      exact ⟨h8, good_of_word (List.mem_filter.mp h8).2⟩
    · exact xgood N hN w h9
  refine x_after (Q := Z below args s mc ms) (mc := mc2) (ms := ms2) (Q' := fun r h2 => xWP G l M d Z k2 n2 (pc + 3) L (xpush r st) h2) (va_runU (Ts := xTT) (own := M.1.cls) (C := q.1) (owner := N.1.cls) ⟨hO.1, hO.2.1, hO.2.2.1, hO.2.2.2.2.2.2.1, hts⟩ kk (va_cwU (Ts := xTT) np hts hgd rfl rfl rfl rfl ⟨hN.2.2.2.1, hN.2.2.2.2.1, hN.2.2.2.2.2⟩ ⟨by show d2 + 1 ≤ _; omega, by show 8 + (N.2.2.1 + 11) + 100 * d2 ≤ _; have := hN.2.2.1; omega⟩) hpre rfl (by rw [List.length_map]; exact hA) hl.1 rfl hlr hd ⟨by omega, by omega⟩) hS (fun r h2 H1 locs1 hq hR1 hS1 => by
    rw [← xmap_ret]
    exact hq p e R s m args below meth c H1 locs1 (cells + mc2) (slots + ms2) mc ms ls hO hR1 hS1 (by omega) (by omega) hl)
/-- a private method of the receiver's superclass -/
theorem x_callP {N : xM} {np idx d2 k2 n2 mc2 ms2 b ci NN : Nat} {F : Nat → Value} {As st0 : List Value} (hd : decode M.2.1 pc = .ok (.invokevirtual idx, 3)) (hp : pc + 3 = pc2) (hlk : Cond.methodLink M.1.cls idx N.1 ∈ xTT) (hN : xOkB N np) (hin : Cond.instanceMethod N.1 ∈ xTT) (hpr : Cond.privateMethod N.1 ∈ xNW) (hse : Cond.selects RJ4 yJ5_isLatin1_aae02 yJ5_isLatin1_aae02 ∈ xTT) (hcl : N.1.cls = RJ5) (hb : h.1 b = (100 + ci, NN, F)) (hdd : d2 + 1 ≤ d) (hA : As.length = np) (hst : st0 = As.reverse ++ .ref b :: st) (hw : (st.map fun v => v.category).sum ≤ 8) (hk2 : mc2 + k2 ≤ k) (hn2 : ms2 + n2 ≤ n) (kk : xCt G l N d2 (.ref b :: As) h mc2 ms2 (fun r h2 => xWP G l M d Z k2 n2 pc2 L (xpush r st) h2)) : xWP G l M d Z k n pc L st0 h := by
  intro p e R s m args below meth c H locs cells slots mc ms ls hO hR hS hk hn hl
  subst hp
  subst hst
  have hts := hO.2.2.2.2.2.2.2.1
  have hSE := hO.2.2.2.2.2.2.2.2.1
  obtain ⟨hfr, hlo, hrc, hrs, hz⟩ := hO.2.2.2.2.2.2.2.2.2
  have hmap : (As.reverse ++ .ref b :: st).map (xtv G) = (As.map (xtv G)).reverse ++ .ref (xad G b) :: st.map (xtv G) := by simp [xtv]
  rw [hmap]
  obtain ⟨q, hq, cell, q1, q2, q3, q4⟩ := hR.obj hb
  have hlr : 2 * (F0 m pc ls ((As.map (xtv G)).reverse ++ .ref (xad G b) :: st.map (xtv G))).monitorRoom + ((st.map (xtv G)).map fun v => v.category).sum ≤ 8 := lv_room (by rw [xsum_cat]; exact hw)
  have hpv : s.PrivateAt N.1 := Cond.privateMethod_at (args := #[]) (hSE.2.2.1 _ hpr)
  obtain ⟨c2, r2, m2, -, -, p3, -, kP, hkP, hkPi⟩ := Cond.selects_spec (hts _ hse)
  have hfc : s.vm.findClass N.1.cls = some m2.cls := by
    rw [hcl]
    exact findClass_of_methodNamed p3
  have hself : (Cond.selects N.1.cls N.1 N.1).before args s = true := Jvm.Stand.selects_self_of_private hfc hkP hkPi hpv (hts _ hin) ⟨hN.2.2.2.1, hN.2.2.2.2.1⟩
  have cw := callB_of (R := R) (own := M.1.cls) (index := idx) (y := N.1) (bytes := N.2.1) (maxL := N.2.2.1) (ret := N.2.2.2) (rm := { frames := d2, cells := mc2, slots := ms2, locals := 100 * d2 }) (Ts := xTT) np hts (xgood N hN) rfl rfl rfl (hts _ hN.2.1) (hts _ hlk) ⟨hN.2.2.2.1, hN.2.2.2.2.1, hN.2.2.2.2.2⟩ ⟨by show d2 + 1 ≤ _; omega, by show 8 + (N.2.2.1 + 11) + 100 * d2 ≤ _; have := hN.2.2.1; omega⟩
  have hK := callBack (p := p) (e := e) (below := below) cw kk (xPre_blind G _ h)
  obtain ⟨-, -, -, -, -, -, hcode, -, hy, hlen, hlq⟩ := cw
  refine x_after (Q := Z below args s mc ms) (mc := mc2) (ms := ms2) (a := (Value.ref (xad G b) :: As.map (xtv G)).toArray) (rest := st.map (xtv G)) (Q' := fun r h2 => xWP G l M d Z k2 n2 (pc + 3) L (xpush r st) h2) (fun T hT X => ?_) hS (fun r h2 H1 locs1 hq hR1 hS1 => by
    rw [← xmap_ret]
    exact hq p e R s m args below meth c H1 locs1 (cells + mc2) (slots + ms2) mc ms ls hO hR1 hS1 (by omega) (by omega) hl)
  obtain ⟨v, vm₁, ⟨U', l2, c2, s2⟩, hW₁, X', ⟨g', mk, t, L, e1, e2, hq, h1, hL, h2, h3⟩, st9⟩ := X.privateBack hO.1 hO.2.2.2.2.2.2.1 hlq (hts _ hin) hself hpv hcode hy hK (g := F0 m pc ls ((As.map (xtv G)).reverse ++ .ref (xad G b) :: st.map (xtv G))) rfl (by rw [hO.2.2.1]; exact hl.1) (s₀ := T.setTop (F0 m pc ls ((As.map (xtv G)).reverse ++ .ref (xad G b) :: st.map (xtv G)))) (Steps.refl _) (a := xad G b) (cell := cell) (by rw [hT]; exact q1) (fun z hz => by rw [q3] at hz; cases hz) (argsL := As.map (xtv G)) (rest := st.map (xtv G)) (fun sig h => by rw [List.length_map]; exact hA.trans (hlen sig h)) rfl hlr (by rw [hO.2.1]; exact hd)
    (fun vm₁ hW₁ => ⟨by show cells + mc2 ≤ _; omega, by show slots + ms2 ≤ _; omega, rfl, xSE_warm (U := T.setVm vm₁) hW₁ hSE, by show xR G h T.heap; rw [hT]; exact hR⟩)
  dsimp only [Pt.U, Pt.locs, Pt.cells, Pt.slots] at X' e1 e2 h1 h2 h3 st9
  subst h1; subst h2; subst h3
  exact ⟨v, (T.setVm vm₁).calling g' mk (Value.ref (xad G b) :: As.map (xtv G)).toArray, t, U', L, hT, X', hL, e1, e2, hq, fun target h => st9.trans h⟩
/-- a method of the text -/
theorem x_callT {N : xM} {np idx d2 : Nat} {As st0 : List Value} (hd : decode M.2.1 pc = .ok (.invokevirtual idx, 3)) (hp : pc + 3 = pc2) (hlk : Cond.methodLink M.1.cls idx N.1 ∈ xTT) (hN : xOkV N np) (hcl : N.1.cls = "java/lang/String") (hdd : d2 + 1 ≤ d) (hA : As.length = np) (hst : st0 = As.reverse ++ .ref (1000000 + 6) :: st) (hw : (st.map fun v => v.category).sum ≤ 8) (kk : xCt G l N d2 (.ref (1000000 + 6) :: As) h 0 0 (fun r h2 => xWP G l M d Z k n pc2 L (xpush r st) h2)) : xWP G l M d Z k n pc L st0 h := by
  intro p e R s m args below meth c H locs cells slots mc ms ls hO hR hS hk hn hl
  subst hp
  subst hst
  have hts := hO.2.2.2.2.2.2.2.1
  have hSE := hO.2.2.2.2.2.2.2.2.1
  obtain ⟨hfr, hlo, hrc, hrs, hz⟩ := hO.2.2.2.2.2.2.2.2.2
  obtain ⟨⟨b1, b2, b3, b4, b5, b6⟩, b7, b8⟩ := hN
  have hmap : (As.reverse ++ .ref (1000000 + 6) :: st).map (xtv G) = (As.map (xtv G)).reverse ++ .ref (G.2.2.2.2.2 6) :: st.map (xtv G) := by
    rw [List.map_append, List.map_cons, xtv_st, List.map_reverse]
  have hm2 : (Value.ref (1000000 + 6) :: As).map (xtv G) = .ref (G.2.2.2.2.2 6) :: As.map (xtv G) := by
    rw [List.map_cons, xtv_st]
  rw [hmap]
  obtain ⟨⟨cell, q1, q2, q3, q4⟩, -⟩ := hSE.2.2.2.2.2.2.2.2.2.2.1.1 0 (by omega)
  have ha : G.2.2.2.2.2 6 < G.1 := Nat.lt_of_not_le q4
  have hpre : PreV s H N.1.cls (G.2.2.2.2.2 6) (xPre G (.ref (1000000 + 6) :: As) h) (As.map (xtv G)) := ⟨xPre_blind G _ h, ⟨cell, by rw [hR.2.2.1 _ ha]; exact q1, q2, by rw [hcl]; exact q3⟩, fun U hU hW => ⟨by rw [hm2], xSE_warm hW hSE, by rw [hU]; exact hR⟩⟩
  have hlr : 2 * (F0 m pc ls ((As.map (xtv G)).reverse ++ .ref (G.2.2.2.2.2 6) :: st.map (xtv G))).monitorRoom + ((st.map (xtv G)).map fun v => v.category).sum ≤ 8 := lv_room (by rw [xsum_cat]; exact hw)
  exact x_after (Q := Z below args s mc ms) (mc := 0) (ms := 0) (Q' := fun r h2 => xWP G l M d Z k n (pc + 3) L (xpush r st) h2) (va_runV (Ts := xTT) (own := M.1.cls) (C := N.1.cls) ⟨hO.1, hO.2.1, hO.2.2.1, hO.2.2.2.2.2.2.1, hts⟩ kk ⟨callB_of (Ts := xTT) np hts (xgood N ⟨b1, b2, b3, b4, b5, b6⟩) rfl rfl rfl (hts _ b2) (hts _ hlk) ⟨b4, b5, b6⟩ ⟨by show d2 + 1 ≤ _; omega, by show 8 + (N.2.2.1 + 11) + 100 * d2 ≤ _; omega⟩, hts _ b7, hts _ b8⟩ hpre rfl (by rw [List.length_map]; exact hA) hl.1 rfl hlr hd ⟨by omega, by omega⟩) hS (fun r h2 H1 locs1 hq hR1 hS1 => by
    rw [← xmap_ret]
    exact hq p e R s m args below meth c H1 locs1 (cells + 0) (slots + 0) mc ms ls hO hR1 hS1 (by omega) (by omega) hl)
/-- bytes of the text into a row of ours -/
theorem x_copyT {j a1 n0 n1 sp dp cn idx : Nat} {f g : Nat → Int32} {isp idp ic : Int32} (hd : decode M.2.1 pc = .ok (.invokestatic idx, 3)) (hp : pc + 3 = pc2) (hlk : Cond.methodLink M.1.cls idx arraycopyName ∈ xTT) (h0 : ∀ s, xSE G s → va_T .byte (G.2.2.2.2.2 j) n0 (fun i => .int (f i)) (xA G) s G.2.1) (h1 : h.1 a1 = (3, n1, xI g)) (e1 : isp = nI sp) (e2 : idp = nI dp) (e3 : ic = nI cn) (b1 : sp + cn ≤ n0) (b2 : dp + cn ≤ n1) (b3 : n0 < 2147483648) (b4 : n1 < 2147483648) (hfit : ∀ i, i < cn → fits .byte (.int (f (sp + i))) = true) (hdd : 1 ≤ d) (hw : (st.map fun v => v.category).sum ≤ 8) (kk : xWP G l M d Z k n pc2 L st (hs h a1 (3, n1, xI (va_cpy f g sp dp cn)))) : xWP G l M d Z k n pc L (.int ic :: .int idp :: .ref a1 :: .int isp :: .ref (1000000 + j) :: st) h := by
  intro p e R s m args below meth c H locs cells slots mc ms ls hO hR hS hk hn hl
  subst hp
  subst e1
  subst e2
  subst e3
  have hts := hO.2.2.2.2.2.2.2.1
  have hSE := hO.2.2.2.2.2.2.2.2.1
  obtain ⟨hfr, hlo, hrc, hrs, hz⟩ := hO.2.2.2.2.2.2.2.2.2
  have cs : (nI sp).toNatClampNeg = sp := nI_clamp (by omega)
  have cd : (nI dp).toNatClampNeg = dp := nI_clamp (by omega)
  have cc : (nI cn).toNatClampNeg = cn := nI_clamp (by omega)
  have ts : (nI sp).toInt = sp := nI_toInt (by omega)
  have td : (nI dp).toInt = dp := nI_toInt (by omega)
  have tc : (nI cn).toInt = cn := nI_toInt (by omega)
  obtain ⟨scr, hs1, hs2, hs3, hs4, -, hs5, hs7⟩ := h0 s hSE
  have ha : G.2.2.2.2.2 j < G.1 := Nat.lt_of_not_le hs7
  have hc0 : H[G.2.2.2.2.2 j]? = some scr := by rw [hR.2.2.1 _ ha]; exact hs1
  have hc1 : H[xad G a1]? = some (arrV (G.2.2.1 3) n1 (fun j => .int (g j))) := hR.arr h1 (by omega)
  have hlt := hR.lt h1 (by omega)
  have em : (Value.int (nI cn) :: .int (nI dp) :: .ref a1 :: .int (nI sp) :: .ref (1000000 + j) :: st).map (xtv G) = Value.int (nI cn) :: .int (nI dp) :: .ref (xad G a1) :: .int (nI sp) :: .ref (G.2.2.2.2.2 j) :: st.map (xtv G) := by
    rw [List.map_cons, List.map_cons, List.map_cons, List.map_cons, List.map_cons, xtv_st]
    rfl
  rw [em]
  intro T hT X
  obtain ⟨hs6, k0, hk0, cm0, hkk0⟩ := hs2
  obtain ⟨-, k1, hk1, cm1, hkk1⟩ := (hSE.2.1 3 (by omega)).1 n1 (fun j => .int (g j))
  have hlr : 2 * (F0 m pc ls (Value.int (nI cn) :: .int (nI dp) :: .ref (xad G a1) :: .int (nI sp) :: .ref (G.2.2.2.2.2 j) :: st.map (xtv G))).monitorRoom + ((st.map (xtv G)).map fun v => v.category).sum ≤ 8 := lv_room (by rw [xsum_cat]; exact hw)
  have e9 : nativeFrameWords "java/lang/System" "arraycopy" 5 ≤ 7 := by decide
  obtain ⟨vm', X', step⟩ := X.arraycopy hO.1 hO.2.2.2.2.2.2.1 (hts _ hlk) (hts _ acp_n) (hts _ acp_s) (hts (.initialized "java/lang/System") (xIn1 19 rfl rfl)) (src := G.2.2.2.2.2 j) (dst := xad G a1) (cs := scr) (cd := arrV (G.2.2.1 3) n1 (fun j => .int (g j))) (srcPos := nI sp) (destPos := nI dp) (n := nI cn) (by rw [hT]; exact hc0) (by rw [hT]; exact hc1)
    hs6 (fun _ h => by cases h) hs3 (fun h => by cases h) hk0 hk1 hkk0 hkk1 (by simp [refKind, xty]) (nI_pos (by omega)) (nI_pos (by omega)) (nI_pos (by omega))
    (by rw [ts, tc]; omega)
    (by rw [td, tc, arrV_size]; omega)
    (fun vm₁ _ i hi => by
      rw [cc] at hi
      have e : scr.slots.getD ((nI sp).toNatClampNeg + i) .null = .int (f (sp + i)) := by
        rw [cs, Array.getD_eq_getD_getElem?, hs5 _ (by omega)]
        rfl
      refine ⟨?_, ?_⟩
      · rw [e]
        exact hfit i hi
      · rw [e]
        exact trivial)
    (g := F0 m pc ls (Value.int (nI cn) :: .int (nI dp) :: .ref (xad G a1) :: .int (nI sp) :: .ref (G.2.2.2.2.2 j) :: st.map (xtv G))) rfl (by rw [hO.2.2.1]; exact hl.1) (rest := st.map (xtv G)) rfl (by rw [hO.2.1]; exact hd) (by omega) (by omega)
  have e1 : copied scr (arrV (G.2.2.1 3) n1 (fun j => .int (g j))) (nI sp) (nI dp) (nI cn) = arrV (G.2.2.1 3) n1 (fun j => .int (va_cpy f g (nI sp).toNatClampNeg (nI dp).toNatClampNeg (nI cn).toNatClampNeg j)) := va_copiedX (fun z => .int z) scr _ f g hs5 (by rw [cs, cc]; exact b1)
  rw [cs, cd, cc] at e1
  rw [e1] at X' step
  have hl2 : xad G a1 < H.size := (Array.getElem?_eq_some_iff.mp hc1).1
  have hheap : ((T.setVm vm').setCell (xad G a1) (arrV (G.2.2.1 3) n1 (fun j => .int (va_cpy f g sp dp cn j)))).heap = H.setIfInBounds (xad G a1) (arrV (G.2.2.1 3) n1 (fun j => .int (va_cpy f g sp dp cn j))) := by rw [← hT]; rfl
  have oq : ∀ q : Nat, q ≠ xad G a1 → (H.setIfInBounds (xad G a1) (arrV (G.2.2.1 3) n1 (fun j => .int (va_cpy f g sp dp cn j))))[q]? = H[q]? := fun q hq => by simp [Array.getElem?_setIfInBounds, Ne.symm hq]
  have hsz : (H.setIfInBounds (xad G a1) (arrV (G.2.2.1 3) n1 (fun j => .int (va_cpy f g sp dp cn j)))).size = H.size := by simp
  obtain ⟨t2, a2, b2⟩ := kk p e R s m args below meth c _ _ cells slots mc ms ls hO (hR.set hlt (xAt_arr (by omega) (f := fun j => .int (va_cpy f g sp dp cn j)) rfl (show (H.setIfInBounds (xad G a1) _)[xad G a1]? = some _ by simp [Array.getElem?_setIfInBounds, hl2])) hsz oq) ⟨by rw [hsz]; exact hS.1, fun q g1 g2 => by
      rw [oq q (fun e => g2 (by rw [e]; exact hR.in hlt))]
      exact hS.2.1 q g1 g2, fun q hq => by
      rcases List.mem_append.mp hq with h | h
      · exact hS.2.2 q h
      · obtain ⟨z, -, hz⟩ := List.mem_map.mp h
        rw [← hz]
        exact hR.in hlt⟩ hk hn hl _ hheap X'
  exact ⟨t2, step t2 a2, b2⟩
end XZR

