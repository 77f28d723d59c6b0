/-! rules that read and change cells, make them, and call -/
def xI (g : Nat → Int32) : Nat → Value := fun j => .int (g j)
def xJ (g : Nat → Int64) : Nat → Value := fun j => .long (g j)
def xP (g : Nat → Nat) : Nat → Value := fun j => .ref (g j)
theorem xI_upd (g : Nat → Int32) (j : Nat) (x : Int32) : updV (xI g) j (.int x) = xI (upd g j x) := by
  funext i
  unfold updV xI upd
  split <;> rfl
theorem xJ_upd (g : Nat → Int64) (j : Nat) (x : Int64) : updV (xJ g) j (.long x) = xJ (vp_updL g j x) := by
  funext i
  unfold updV xJ vp_updL
  split <;> rfl
theorem xP_upd (g : Nat → Nat) (j : Nat) (x : Nat) : updV (xP g) j (.ref x) = xP (fun i => if i = j then x else g i) := by
  funext i
  by_cases e : i = j
  · simp [updV, xP, e]
  · simp [updV, xP, e]
theorem xtv_updV (G : xG) (F : Nat → Value) (k : Nat) (v : Value) : (fun j => xtv G (updV F k v j)) = updV (fun j => xtv G (F j)) k (xtv G v) := by
  funext j
  unfold updV
  split <;> rfl
theorem xR.lt {G : xG} {h : xH} {H : Heap} (hR : xR G h H) {a t N : Nat} {F : Nat → Value} (ha : h.1 a = (t, N, F)) (ht : t ≠ 99) : a < h.2 := by
  rcases Nat.lt_or_ge a h.2 with q | q
  · exact q
  · have h1 := hR.2.2.2.1 a q
    rw [ha] at h1
    exact absurd h1 ht
theorem xR.ad {G : xG} {h : xH} {H : Heap} (hR : xR G h H) {a : Nat} (ha : a < h.2) : xad G a = G.1 + a := if_pos (Nat.lt_of_lt_of_le ha hR.2.2.2.2)
theorem xR.arr {G : xG} {h : xH} {H : Heap} (hR : xR G h H) {a t N : Nat} {F : Nat → Value} (ha : h.1 a = (t, N, F)) (ht : t < 99) : H[xad G a]? = some (arrV (G.2.2.1 t) N (fun j => xtv G (F j))) := by
  have hlt := hR.lt ha (by omega)
  have h1 := hR.2.1 a hlt
  rw [ha] at h1
  unfold xAt at h1
  rw [if_pos (show t < 100 by omega)] at h1
  rw [hR.ad hlt]
  exact h1
theorem xR.obj {G : xG} {h : xH} {H : Heap} (hR : xR G h H) {a ci N : Nat} {F : Nat → Value} (ha : h.1 a = (100 + ci, N, F)) : ∃ q : vw_C, xcl[ci]? = some q ∧ t_OB (xad G a) (G.2.2.2.1 ci) q.2.2 (G.2.2.2.2.1 ci) H (fun k => xtv G (F k)) := by
  have hlt := hR.lt ha (by omega)
  have h1 := hR.2.1 a hlt
  rw [ha] at h1
  unfold xAt at h1
  rw [if_neg (show ¬ 100 + ci < 100 by omega)] at h1
  rw [hR.ad hlt]
  have e : (100 + ci, N, F).1 - 100 = ci := by show 100 + ci - 100 = ci; omega
  rw [e] at h1
  exact h1
/-- a cell of ours is changed -/
theorem xR.set {G : xG} {h : xH} {H H1 : Heap} (hR : xR G h H) {a : Nat} {c : xC} (ha : a < h.2) (hc : xAt G c (xad G a) H1) (hz : H1.size = H.size) (oq : ∀ q, q ≠ xad G a → H1[q]? = H[q]?) : xR G (hs h a c) H1 := by
  have ea := hR.ad ha
  refine ⟨hz.trans hR.1, fun k hk => ?_, fun q hq => ?_, fun k hk => ?_, hR.2.2.2.2⟩
  · by_cases e : k = a
    · subst e
      rw [hs_eq, ← ea]
      exact hc
    · rw [hs_n e]
      have h1 := hR.2.1 k hk
      have e1 : H1[G.1 + k]? = H[G.1 + k]? := oq _ (by rw [ea]; omega)
      unfold xAt at h1 ⊢
      split
      · next q => rw [if_pos q] at h1; rw [e1]; exact h1
      · next q =>
        rw [if_neg q] at h1
        obtain ⟨r, r1, r2⟩ := h1
        exact ⟨r, r1, r2.kept e1⟩
  · rw [oq q (by rw [ea]; omega)]
    exact hR.2.2.1 q hq
  · rw [hs_n (by have : h.2 ≤ k := hk; omega)]
    exact hR.2.2.2.1 k hk
/-- a cell comes -/
theorem xR.push {G : xG} {h : xH} {H H1 : Heap} (hR : xR G h H) {c : xC} (hm : h.2 < 1000000) (hc : xAt G c (G.1 + h.2) H1) (hz : H1.size = H.size + 1) (oq : ∀ q, q < H.size → H1[q]? = H[q]?) : xR G (hn h c) H1 := by
  refine ⟨by rw [hz, hR.1]; rfl, fun k hk => ?_, fun q hq => ?_, fun k hk => ?_, hm⟩
  · by_cases e : k = h.2
    · subst e
      have e1 : (hn h c).1 h.2 = c := if_pos rfl
      rw [e1]
      exact hc
    · have e2 : (hn h c).1 k = h.1 k := if_neg e
      rw [e2]
      have hk2 : k < h.2 := by have : k < h.2 + 1 := hk; omega
      have h1 := hR.2.1 k hk2
      have e1 : H1[G.1 + k]? = H[G.1 + k]? := oq _ (by rw [hR.1]; omega)
      unfold xAt at h1 ⊢
      split
      · next q => rw [if_pos q] at h1; rw [e1]; exact h1
      · next q =>
        rw [if_neg q] at h1
        obtain ⟨r, r1, r2⟩ := h1
        exact ⟨r, r1, r2.kept e1⟩
  · rw [oq q (by rw [hR.1]; omega)]
    exact hR.2.2.1 q hq
  · have hk2 : h.2 + 1 ≤ k := hk
    have e2 : (hn h c).1 k = h.1 k := if_neg (by omega)
    rw [e2]
    exact hR.2.2.2.1 k (by omega)
theorem xR.in {G : xG} {h : xH} {H : Heap} (hR : xR G h H) {a : Nat} (ha : a < h.2) : xA G (xad G a) := by
  show G.1 ≤ xad G a
  rw [hR.ad ha]
  omega
theorem va_S.push {A : Nat → Prop} {H0 H H1 : Heap} {locs : List Loc} (h : va_S A H0 H locs) (hz : H1.size = H.size + 1) (oq : ∀ q : Nat, q < H.size → H1[q]? = H[q]?) : va_S A H0 H1 locs :=
  ⟨by rw [hz]; exact Nat.le_succ_of_le h.1, fun q h1 h2 => by rw [oq q (Nat.lt_of_lt_of_le h1 h.1)]; exact h.2.1 q h1 h2, h.2.2⟩
/-- a field of a class of ours, by its number, as a class's constant pool names it -/
def xFl (own : String) (idx ci kf : Nat) : Prop := ∃ q : vw_C, xcl[ci]? = some q ∧ kf < q.2.2 ∧ (Cond.fieldLink own idx (q.2.1 kf).1 (q.2.1 kf).2.1 (q.2.1 kf).2.2.1 ∈ xTT ∨ ∃ host : String, Cond.fieldLinkNest own idx (q.2.1 kf).1 (q.2.1 kf).2.1 (q.2.1 kf).2.2.1 host ∈ xNW)
def xtys (ci : Nat) : Nat → FieldType := match ci with
  | 0 => tyX0
  | 1 => tyX1
  | 2 => tyX2
  | 3 => tyX3
  | 4 => tyX4
  | 5 => tyX5
  | 6 => tyX6
  | 7 => tyX7
  | 8 => tyX8
  | 9 => tyX9
  | 10 => tyX10
  | 11 => tyX11
  | 12 => tyX12
  | _ => tyJ4
theorem xcl_cases {P : Nat → vw_C → Prop} (h0 : P 0 (RX0, TX0, 10)) (h1 : P 1 (RX1, TX1, 3)) (h2 : P 2 (RX2, TX2, 4)) (h3 : P 3 (RX3, TX3, 9)) (h4 : P 4 (RX4, TX4, 5)) (h5 : P 5 (RX7, TX7, 0)) (h6 : P 6 (RX6, TX6, 9)) (h7 : P 7 (RX7, TX7, 3)) (h8 : P 8 (RX8, TX8, 2)) (h9 : P 9 (RX9, TX9, 9)) (h10 : P 10 (RX10, TX10, 3)) (h11 : P 11 (RX11, TX11, 16)) (h12 : P 12 (RX12, TX12, 38)) (h13 : P 13 (RJ4, TJ4, 4)) : ∀ (c : Nat) (q : vw_C), xcl[c]? = some q → P c q := by
  intro c q hq
  match c, hq with
  | 0, hq => cases hq; exact h0
  | 1, hq => cases hq; exact h1
  | 2, hq => cases hq; exact h2
  | 3, hq => cases hq; exact h3
  | 4, hq => cases hq; exact h4
  | 5, hq => cases hq; exact h5
  | 6, hq => cases hq; exact h6
  | 7, hq => cases hq; exact h7
  | 8, hq => cases hq; exact h8
  | 9, hq => cases hq; exact h9
  | 10, hq => cases hq; exact h10
  | 11, hq => cases hq; exact h11
  | 12, hq => cases hq; exact h12
  | 13, hq => cases hq; exact h13
  | k + 14, hq => simp [xcl] at hq
theorem xcl_ty : ∀ (c : Nat) (q : vw_C), xcl[c]? = some q → ∀ k, k < q.2.2 → parseFieldDescriptor (q.2.1 k).2.2.1 = some (xtys c k) := xcl_cases tyX0_ok tyX1_ok tyX2_ok tyX3_ok tyX4_ok (fun _ h => absurd h (Nat.not_lt_zero _)) tyX6_ok tyX7_ok tyX8_ok tyX9_ok tyX10_ok tyX11_ok tyX12_ok tyJ4_ok
theorem xcl_nm : ∀ (c : Nat) (q : vw_C), xcl[c]? = some q → ∀ a, a < q.2.2 → ∀ b, b < q.2.2 → a ≠ b → (q.2.1 a).2.1 ≠ (q.2.1 b).2.1 := xcl_cases nmX0 nmX1 nmX2 nmX3 nmX4 (fun _ h => absurd h (Nat.not_lt_zero _)) nmX6 nmX7 nmX8 nmX9 nmX10 nmX11 nmX12 nmJ4
def xwsIn (C : String) (T : u_T) (N : Nat) : Bool := (u_ws C T N).all (fun w => lw_tbl.contains w && goodWord w)
theorem xwsIn_ok {C : String} {T : u_T} {N : Nat} (h : xwsIn C T N = true) : ∀ w ∈ u_ws C T N, w ∈ xTT := by
  intro w hw
  have h1 := List.all_eq_true.mp h w hw
  simp only [Bool.and_eq_true] at h1
  exact List.mem_filter.mpr ⟨List.contains_iff_mem.mp h1.1, h1.2⟩
theorem xcl_ws : ∀ (c : Nat) (q : vw_C), xcl[c]? = some q → ∀ w ∈ u_ws q.1 q.2.1 q.2.2, w ∈ xTT := xcl_cases (xwsIn_ok (by decide +kernel)) (xwsIn_ok (by decide +kernel)) (xwsIn_ok (by decide +kernel)) (xwsIn_ok (by decide +kernel)) (xwsIn_ok (by decide +kernel)) (xwsIn_ok (by decide +kernel)) (xwsIn_ok (by decide +kernel)) (xwsIn_ok (by decide +kernel)) (xwsIn_ok (by decide +kernel)) (xwsIn_ok (by decide +kernel)) (xwsIn_ok (by decide +kernel)) (xwsIn_ok (by decide +kernel)) (xwsIn_ok (by decide +kernel)) (xwsIn_ok (by decide +kernel))
theorem xSE_apart {G : xG} {s : State} {args : Array Value} (hts : ∀ w ∈ xTT, w.before args s = true) (hSE : xSE G s) {ci : Nat} {q : vw_C} (hq : xcl[ci]? = some q) : ∀ x y, x < q.2.2 → y < q.2.2 → x ≠ y → G.2.2.2.2.1 ci x ≠ G.2.2.2.2.1 ci y := by
  intro x y hx hy hne
  obtain ⟨hS, -⟩ := hSE.1 ci q hq
  obtain ⟨_, _, _, fa, hia, ea⟩ := hS x hx
  obtain ⟨_, _, _, fb, hib, eb⟩ := hS y hy
  rw [← ea, ← eb]
  refine u_apart (u_lays hts (xcl_ws ci q hq) hx) (u_lays hts (xcl_ws ci q hq) hy) hia hib ?_
  rw [(State.fieldFound?_type hia (xcl_ty ci q hq x hx)).1, (State.fieldFound?_type hib (xcl_ty ci q hq y hy)).1]
  exact xcl_nm ci q hq x hx y hy hne
theorem xtv_narrow {G : xG} {ty : FieldType} {v : Value} (hv : narrow ty v = v) : narrow ty (xtv G v) = xtv G v := by
  cases v <;> first | exact hv | (cases ty <;> rfl)
theorem xtv_fits {G : xG} {ty : FieldType} {v : Value} (hv : fits ty v = true) : fits ty (xtv G v) = true := by
  cases v <;> first | exact hv | (cases ty <;> first | rfl | exact hv)
section XHR
variable {G : xG} {l : Launch} {M : xM} {d : Nat} {Z : List Frame → Array Value → State → Nat → Nat → State → Prop} {k n pc pc2 : Nat} {L : xL} {st : List Value} {h : xH}
theorem x_get {a idx ci kf N : Nat} {F : Nat → Value} {v : Value} (hd : decode M.2.1 pc = .ok (.getfield idx, 3)) (hp : pc + 3 = pc2) (hf : xFl M.1.cls idx ci kf) (ha : h.1 a = (100 + ci, N, F)) (hv : F kf = v) (kk : xWP G l M d Z k n pc2 L (v :: st) h) : xWP G l M d Z k n pc L (.ref a :: st) h := by
  intro p e R s m args below meth c H locs cells slots mc ms ls hO hR hS hk hn hl
  subst hp
  subst hv
  obtain ⟨q, hq, hkf, hlk⟩ := hf
  obtain ⟨q2, hq2, cell, q1, q2', q3, q4⟩ := hR.obj ha
  cases hq.symm.trans hq2
  have hts := hO.2.2.2.2.2.2.2.1
  have hSE := hO.2.2.2.2.2.2.2.2.1
  obtain ⟨hSl, hfc, kC, hkC, hkind⟩ := hSE.1 ci q hq
  obtain ⟨cf, kf', fi, f, hi, hsl⟩ := hSl kf hkf
  have hst := (u_facts hfc hkC (u_lays hts (xcl_ws ci q hq) hkf) hi).1
  have hslot : cell.slots[f.slot]? = some (xtv G (F kf)) := by rw [hsl]; exact q4 kf hkf
  rcases hlk with hlk | ⟨host, hlk⟩
  · exact W.getf hO.1 hO.2.1 hO.2.2.2.2.2.2.1 (hts _ hlk) hi hst q1 (by rw [q3]; exact fun h => by cases h) hslot rfl rfl hd (kk p e R s m args below meth c H locs cells slots mc ms ls hO hR hS hk hn hl)
  · exact va_Wgetf hO.1 hO.2.1 hO.2.2.2.2.2.2.1 (va_Nw.use rfl (hSE.2.2.1 _ hlk)) hi hst q1 (by rw [q3]; exact fun h => by cases h) hslot rfl rfl hd (kk p e R s m args below meth c H locs cells slots mc ms ls hO hR hS hk hn hl)
/-- what a store of a field asks of the value -/
def xFv (ci kf : Nat) (v : Value) : Prop := narrow (xtys ci kf) v = v ∧ fits (xtys ci kf) v = true
theorem x_put {a idx ci kf N : Nat} {F : Nat → Value} {v : Value} (hd : decode M.2.1 pc = .ok (.putfield idx, 3)) (hp : pc + 3 = pc2) (hf : xFl M.1.cls idx ci kf) (hfin : ∀ q, xcl[ci]? = some q → (q.2.1 kf).2.2.2 = false) (ha : h.1 a = (100 + ci, N, F)) (hv : xFv ci kf v) (kk : xWP G l M d Z k n pc2 L st (hs h a (100 + ci, N, updV F kf v))) : xWP G l M d Z k n pc L (v :: .ref a :: st) h := by
  intro p e R s m args below meth c H locs cells slots mc ms ls hO hR hS hk hn hl
  subst hp
  obtain ⟨q, hq, hkf, hlk⟩ := hf
  have hfin := hfin q hq
  obtain ⟨q2, hq2, cell, q1, q2', q3, q4⟩ := hR.obj ha
  cases hq.symm.trans hq2
  have hts := hO.2.2.2.2.2.2.2.1
  have hSE := hO.2.2.2.2.2.2.2.2.1
  have hlt := hR.lt ha (by omega)
  have hap := xSE_apart hts hSE hq
  obtain ⟨hSl, hfc, kC, hkC, hkind⟩ := hSE.1 ci q hq
  obtain ⟨cf, kf', fi, f, hi, hsl⟩ := hSl kf hkf
  have hst := (u_facts hfc hkC (u_lays hts (xcl_ws ci q hq) hkf) hi).1
  have hlay := hts _ (xcl_ws ci q hq _ (u_in_lay hkf))
  unfold u_lay at hlay
  rw [if_neg (by rw [hfin]; decide)] at hlay
  have h6 := u_store hfc hkC hkind hlay hi (xcl_ty ci q hq kf hkf) (xtv_narrow (G := G) hv.1) (xtv_fits (G := G) hv.2)
  have fin : ∀ H' : Heap, H'[xad G a]? = some (cell.setSlot f.slot (xtv G v)) → H'.size = H.size → (∀ q, q ≠ xad G a → H'[q]? = H[q]?) → W p l e R s m args below meth c H' (locs ++ [⟨xad G a, f.slot⟩]) cells slots (Z below args s mc ms) (F0 m (pc + 3) ls (st.map (xtv G))) := by
    intro H' e1 e2 e3
    rw [hsl] at e1 ⊢
    refine kk p e R s m args below meth c H' _ cells slots mc ms ls hO (hR.set hlt ?_ e2 e3) (hS.put e2 e3 (hR.in hlt)) hk hn hl
    unfold xAt
    rw [if_neg (show ¬ 100 + ci < 100 by omega)]
    have e9 : (100 + ci, N, updV F kf v).1 - 100 = ci := by show 100 + ci - 100 = ci; omega
    rw [e9]
    refine ⟨q, hq, ?_⟩
    show t_OB (xad G a) (G.2.2.2.1 ci) q.2.2 (G.2.2.2.2.1 ci) H' (fun k => xtv G (updV F kf v k))
    rw [xtv_updV]
    exact ⟨_, e1, q2', q3, t_set q4 hap hkf (xtv G v)⟩
  rcases hlk with hlk | ⟨host, hlk⟩
  · exact W.putK hO.1 hO.2.1 (f := f) ⟨hO.2.2.2.2.2.2.1, hts _ hlk, ⟨_, _, _, hi⟩, hst⟩ (by rw [q2']; exact h6) q1 q3 (by rw [hsl]; exact k2_hasslot (q4 kf hkf)) rfl rfl hd fin
  · exact va_WputK hO.1 hO.2.1 (f := f) hO.2.2.2.2.2.2.1 (va_Nw.use rfl (hSE.2.2.1 _ hlk)) hi hst (by rw [q2']; exact h6) q1 q3 (by rw [hsl]; exact k2_hasslot (q4 kf hkf)) rfl rfl hd fin
/-- a final field, in its class's constructor -/
theorem x_putF {a idx ci kf N : Nat} {F : Nat → Value} {v : Value} (hd : decode M.2.1 pc = .ok (.putfield idx, 3)) (hp : pc + 3 = pc2) (hf : xFl M.1.cls idx ci kf) (hnf : ∀ q, xcl[ci]? = some q → (q.2.1 kf).2.2.2 = true ∧ (q.2.1 kf).1 = M.1.cls ∧ Cond.fieldLink M.1.cls idx (q.2.1 kf).1 (q.2.1 kf).2.1 (q.2.1 kf).2.2.1 ∈ xTT) (hin : M.1.name = "<init>") (ha : h.1 a = (100 + ci, N, F)) (hv : xFv ci kf v) (kk : xWP G l M d Z k n pc2 L st (hs h a (100 + ci, N, updV F kf v))) : xWP G l M d Z k n pc L (v :: .ref a :: st) h := by
  intro p e R s m args below meth c H locs cells slots mc ms ls hO hR hS hk hn hl
  subst hp
  obtain ⟨q, hq, hkf, -⟩ := hf
  obtain ⟨hfin, hdecl, hlk⟩ := hnf q hq
  obtain ⟨q2, hq2, cell, q1, q2', q3, q4⟩ := hR.obj ha
  cases hq.symm.trans hq2
  have hts := hO.2.2.2.2.2.2.2.1
  have hSE := hO.2.2.2.2.2.2.2.2.1
  have hown := hO.2.2.2.2.2.2.1
  have hlt := hR.lt ha (by omega)
  have hap := xSE_apart hts hSE hq
  obtain ⟨hSl, hfc, kC, hkC, hkind⟩ := hSE.1 ci q hq
  obtain ⟨cf, kf', fi, f, hi, hsl⟩ := hSl kf hkf
  have hst := (u_facts hfc hkC (u_lays hts (xcl_ws ci q hq) hkf) hi).1
  have hlay := hts _ (xcl_ws ci q hq _ (u_in_lay hkf))
  unfold u_lay at hlay
  rw [if_pos hfin] at hlay
  have hcf : m.cls = cf := by
    obtain ⟨_, _, c', _, _, _, -, -, hf', -, -, -, hown2, -⟩ := Cond.laysFinal_spec hlay
    have e1 : c' = cf := by have := hi.symm.trans hf'; simp at this; exact this.1.symm
    rw [hdecl] at hown2
    rw [← e1]; exact Option.some.inj (hown.symm.trans hown2)
  have h6 := u_fits hfc hkC hkind (Or.inr hlay) hi (xcl_ty ci q hq kf hkf) (xtv_narrow (G := G) hv.1) (xtv_fits (G := G) hv.2)
  refine W.putFinK hO.1 hO.2.1 hown (hts _ hlk) hi hst hcf (hO.2.2.2.2.2.1.trans hin) (by rw [q2']; exact h6) q1 q3 (by rw [hsl]; exact k2_hasslot (q4 kf hkf)) rfl rfl hd fun H' e1 e2 e3 => ?_
  rw [hsl] at e1 ⊢
  refine kk p e R s m args below meth c H' _ cells slots mc ms ls hO (hR.set hlt ?_ e2 e3) (hS.put e2 e3 (hR.in hlt)) hk hn hl
  unfold xAt
  rw [if_neg (show ¬ 100 + ci < 100 by omega)]
  have e9 : (100 + ci, N, updV F kf v).1 - 100 = ci := by show 100 + ci - 100 = ci; omega
  rw [e9]
  refine ⟨q, hq, ?_⟩
  show t_OB (xad G a) (G.2.2.2.1 ci) q.2.2 (G.2.2.2.2.1 ci) H' (fun k => xtv G (updV F kf v k))
  rw [xtv_updV]
  exact ⟨_, e1, q2', q3, t_set q4 hap hkf (xtv G v)⟩
theorem x_in {i : Int32} {j N : Nat} (hi : i = nI j) (hj : j < N) (hN : N < 2147483648) : ¬ (i < 0 ∨ N ≤ i.toNatClampNeg) ∧ i.toNatClampNeg = j := by
  subst hi
  exact ⟨nI_in hj hN, nI_clamp (by omega)⟩
theorem x_iald {a N j : Nat} {i : Int32} {g : Nat → Int32} (hd : decode M.2.1 pc = .ok (.iaload, 1)) (hp : pc + 1 = pc2) (ha : h.1 a = (0, N, xI g)) (hi : i = nI j) (hj : j < N) (hN : N < 2147483648) (kk : xWP G l M d Z k n pc2 L (.int (g j) :: st) h) : xWP G l M d Z k n pc L (.int i :: .ref a :: st) h := by
  intro p e R s m args below meth c H locs cells slots mc ms ls hO hR hS hk hn hl
  subst hp
  obtain ⟨i1, i2⟩ := x_in hi hj hN
  exact W.iald hO.1 hO.2.1 (hR.arr ha (by omega)) ((hO.2.2.2.2.2.2.2.2.1.2.1 0 (by omega)).1 _ _) (fun q => by cases q) (by rw [arrV_size]; exact i1) (v := .int (g j)) (by rw [i2, arrV_read _ _ hj]; rfl) rfl rfl hd (kk p e R s m args below meth c H locs cells slots mc ms ls hO hR hS hk hn hl)
theorem x_lald {a N j : Nat} {i : Int32} {g : Nat → Int64} (hd : decode M.2.1 pc = .ok (.laload, 1)) (hp : pc + 1 = pc2) (ha : h.1 a = (1, N, xJ g)) (hi : i = nI j) (hj : j < N) (hN : N < 2147483648) (kk : xWP G l M d Z k n pc2 L (.long (g j) :: st) h) : xWP G l M d Z k n pc L (.int i :: .ref a :: st) h := by
  intro p e R s m args below meth c H locs cells slots mc ms ls hO hR hS hk hn hl
  subst hp
  obtain ⟨i1, i2⟩ := x_in hi hj hN
  exact W.lald hO.1 hO.2.1 (hR.arr ha (by omega)) ((hO.2.2.2.2.2.2.2.2.1.2.1 1 (by omega)).1 _ _) (fun q => by cases q) (by rw [arrV_size]; exact i1) (v := .long (g j)) (by rw [i2, arrV_read _ _ hj]; rfl) rfl rfl hd (kk p e R s m args below meth c H locs cells slots mc ms ls hO hR hS hk hn hl)
theorem x_zald {a N j : Nat} {i : Int32} {g : Nat → Int32} (hd : decode M.2.1 pc = .ok (.baload, 1)) (hp : pc + 1 = pc2) (ha : h.1 a = (2, N, xI g)) (hi : i = nI j) (hj : j < N) (hN : N < 2147483648) (kk : xWP G l M d Z k n pc2 L (.int (g j) :: st) h) : xWP G l M d Z k n pc L (.int i :: .ref a :: st) h := by
  intro p e R s m args below meth c H locs cells slots mc ms ls hO hR hS hk hn hl
  subst hp
  obtain ⟨i1, i2⟩ := x_in hi hj hN
  exact W.zald hO.1 hO.2.1 (hR.arr ha (by omega)) ((hO.2.2.2.2.2.2.2.2.1.2.1 2 (by omega)).1 _ _) (fun q => by cases q) (by rw [arrV_size]; exact i1) (v := .int (g j)) (by rw [i2, arrV_read _ _ hj]; rfl) rfl rfl hd (kk p e R s m args below meth c H locs cells slots mc ms ls hO hR hS hk hn hl)
theorem x_bald {a N j : Nat} {i : Int32} {g : Nat → Int32} (hd : decode M.2.1 pc = .ok (.baload, 1)) (hp : pc + 1 = pc2) (ha : h.1 a = (3, N, xI g)) (hi : i = nI j) (hj : j < N) (hN : N < 2147483648) (kk : xWP G l M d Z k n pc2 L (.int (g j) :: st) h) : xWP G l M d Z k n pc L (.int i :: .ref a :: st) h := by
  intro p e R s m args below meth c H locs cells slots mc ms ls hO hR hS hk hn hl
  subst hp
  obtain ⟨i1, i2⟩ := x_in hi hj hN
  exact W.bald hO.1 hO.2.1 (hR.arr ha (by omega)) ((hO.2.2.2.2.2.2.2.2.1.2.1 3 (by omega)).1 _ _) (fun q => by cases q) (by rw [arrV_size]; exact i1) (v := .int (g j)) (by rw [i2, arrV_read _ _ hj]; rfl) rfl rfl hd (kk p e R s m args below meth c H locs cells slots mc ms ls hO hR hS hk hn hl)
theorem x_aald {a N j t : Nat} {i : Int32} {g : Nat → Nat} (hd : decode M.2.1 pc = .ok (.aaload, 1)) (hp : pc + 1 = pc2) (ha : h.1 a = (4 + t, N, xP g)) (ht : t < 2) (hi : i = nI j) (hj : j < N) (hN : N < 2147483648) (kk : xWP G l M d Z k n pc2 L (.ref (g j) :: st) h) : xWP G l M d Z k n pc L (.int i :: .ref a :: st) h := by
  intro p e R s m args below meth c H locs cells slots mc ms ls hO hR hS hk hn hl
  subst hp
  obtain ⟨i1, i2⟩ := x_in hi hj hN
  exact W.aald hO.1 hO.2.1 (hR.arr ha (by omega)) ((hO.2.2.2.2.2.2.2.2.1.2.1 (4 + t) (by omega)).1 _ _) (by rcases (show t = 0 ∨ t = 1 by omega) with rfl | rfl <;> rfl) (fun q => by cases q) (by rw [arrV_size]; exact i1) (v := .ref (xad G (g j))) (by rw [i2, arrV_read _ _ hj]; rfl) rfl rfl hd (kk p e R s m args below meth c H locs cells slots mc ms ls hO hR hS hk hn hl)
theorem x_alen {a t N : Nat} {F : Nat → Value} {v : Int32} (hd : decode M.2.1 pc = .ok (.arraylength, 1)) (hp : pc + 1 = pc2) (ha : h.1 a = (t, N, F)) (ht : t < 6) (hv : nI N = v) (kk : xWP G l M d Z k n pc2 L (.int v :: st) h) : xWP G l M d Z k n pc L (.ref a :: st) h := by
  intro p e R s m args below meth c H locs cells slots mc ms ls hO hR hS hk hn hl
  subst hp
  exact W.alen hO.1 hO.2.1 (hR.arr ha (by omega)) ((hO.2.2.2.2.2.2.2.2.1.2.1 t ht).1 _ _) (n := v) (by rw [arrV_size]; exact hv) rfl rfl hd (kk p e R s m args below meth c H locs cells slots mc ms ls hO hR hS hk hn hl)
theorem xAt_arr {t N : Nat} {F : Nat → Value} {H1 : Heap} {a : Nat} (ht : t < 99) {f : Nat → Value} (hf : (fun j => xtv G (F j)) = f) (h1 : H1[a]? = some (arrV (G.2.2.1 t) N f)) : xAt G (t, N, F) a H1 := by
  unfold xAt
  rw [if_pos (show t < 100 by omega)]
  rw [h1, ← hf]
theorem x_iast {a N j : Nat} {i x : Int32} {g : Nat → Int32} (hd : decode M.2.1 pc = .ok (.iastore, 1)) (hp : pc + 1 = pc2) (ha : h.1 a = (0, N, xI g)) (hi : i = nI j) (hj : j < N) (hN : N < 2147483648) (kk : xWP G l M d Z k n pc2 L st (hs h a (0, N, xI (upd g j x)))) : xWP G l M d Z k n pc L (.int x :: .int i :: .ref a :: st) h := by
  intro p e R s m args below meth c H locs cells slots mc ms ls hO hR hS hk hn hl
  subst hp
  obtain ⟨i1, i2⟩ := x_in hi hj hN
  have hlt := hR.lt ha (by omega)
  refine W.iast hO.1 hO.2.1 (hR.arr ha (by omega)) ((hO.2.2.2.2.2.2.2.2.1.2.1 0 (by omega)).1 _ _) (fun q => by cases q) (by rw [arrV_size]; exact i1) rfl rfl hd (fun H' e1 e2 e3 => kk p e R s m args below meth c H' _ cells slots mc ms ls hO (hR.set hlt (xAt_arr (by omega) ?_ (by rw [i2, arrV_store] at e1; exact e1)) e2 e3) (hS.put e2 e3 (hR.in hlt)) hk hn hl)
  rw [← xI_upd, xtv_updV]; rfl
theorem x_last {a N j : Nat} {i : Int32} {x : Int64} {g : Nat → Int64} (hd : decode M.2.1 pc = .ok (.lastore, 1)) (hp : pc + 1 = pc2) (ha : h.1 a = (1, N, xJ g)) (hi : i = nI j) (hj : j < N) (hN : N < 2147483648) (kk : xWP G l M d Z k n pc2 L st (hs h a (1, N, xJ (vp_updL g j x)))) : xWP G l M d Z k n pc L (.long x :: .int i :: .ref a :: st) h := by
  intro p e R s m args below meth c H locs cells slots mc ms ls hO hR hS hk hn hl
  subst hp
  obtain ⟨i1, i2⟩ := x_in hi hj hN
  have hlt := hR.lt ha (by omega)
  refine W.last hO.1 hO.2.1 (hR.arr ha (by omega)) ((hO.2.2.2.2.2.2.2.2.1.2.1 1 (by omega)).1 _ _) (fun q => by cases q) (by rw [arrV_size]; exact i1) rfl rfl hd (fun H' e1 e2 e3 => kk p e R s m args below meth c H' _ cells slots mc ms ls hO (hR.set hlt (xAt_arr (by omega) ?_ (by rw [i2, arrV_store] at e1; exact e1)) e2 e3) (hS.put e2 e3 (hR.in hlt)) hk hn hl)
  rw [← xJ_upd, xtv_updV]; rfl
theorem x_zast {a N j : Nat} {i x : Int32} {g : Nat → Int32} (hd : decode M.2.1 pc = .ok (.bastore, 1)) (hp : pc + 1 = pc2) (ha : h.1 a = (2, N, xI g)) (hi : i = nI j) (hj : j < N) (hN : N < 2147483648) (hx : x &&& 1 = x) (kk : xWP G l M d Z k n pc2 L st (hs h a (2, N, xI (upd g j x)))) : xWP G l M d Z k n pc L (.int x :: .int i :: .ref a :: st) h := by
  intro p e R s m args below meth c H locs cells slots mc ms ls hO hR hS hk hn hl
  subst hp
  obtain ⟨i1, i2⟩ := x_in hi hj hN
  have hlt := hR.lt ha (by omega)
  refine W.zast hO.1 hO.2.1 (hR.arr ha (by omega)) ((hO.2.2.2.2.2.2.2.2.1.2.1 2 (by omega)).1 _ _) (fun q => by cases q) (by rw [arrV_size]; exact i1) rfl rfl hd (fun H' e1 e2 e3 => kk p e R s m args below meth c H' _ cells slots mc ms ls hO (hR.set hlt (xAt_arr (by omega) ?_ (by rw [i2, show narrow .boolean (.int x) = .int x by show Value.int (x &&& 1) = _; rw [hx], arrV_store] at e1; exact e1)) e2 e3) (hS.put e2 e3 (hR.in hlt)) hk hn hl)
  rw [← xI_upd, xtv_updV]; rfl
theorem x_bast {a N j : Nat} {i x : Int32} {g : Nat → Int32} (hd : decode M.2.1 pc = .ok (.bastore, 1)) (hp : pc + 1 = pc2) (ha : h.1 a = (3, N, xI g)) (hi : i = nI j) (hj : j < N) (hN : N < 2147483648) (kk : xWP G l M d Z k n pc2 L st (hs h a (3, N, xI (upd g j x.toInt8.toInt32)))) : xWP G l M d Z k n pc L (.int x :: .int i :: .ref a :: st) h := by
  intro p e R s m args below meth c H locs cells slots mc ms ls hO hR hS hk hn hl
  subst hp
  obtain ⟨i1, i2⟩ := x_in hi hj hN
  have hlt := hR.lt ha (by omega)
  refine W.bast hO.1 hO.2.1 (hR.arr ha (by omega)) ((hO.2.2.2.2.2.2.2.2.1.2.1 3 (by omega)).1 _ _) (fun q => by cases q) (by rw [arrV_size]; exact i1) rfl rfl hd (fun H' e1 e2 e3 => kk p e R s m args below meth c H' _ cells slots mc ms ls hO (hR.set hlt (xAt_arr (by omega) ?_ (by rw [i2, narrow_byte, arrV_store] at e1; exact e1)) e2 e3) (hS.put e2 e3 (hR.in hlt)) hk hn hl)
  rw [← xI_upd, xtv_updV]; rfl
end XHR
