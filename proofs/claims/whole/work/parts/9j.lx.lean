/-! the lists, in pure words: all rows of eight digits (a digit i stands for the part i - 3) in their order -/
def lx : Nat → Nat → List (List Nat)
  | 0, rest => if rest = 0 then [[]] else []
  | k + 1, rest => (List.range 7).flatMap (fun i => if sqN i ≤ rest then (lx k (rest - sqN i)).map (fun ds => i :: ds) else [])
def gd (ow : Nat → Int32) : Nat → Int32 → List Nat → Bool
  | _, _, [] => true
  | part, w, i :: ds => (if zFit ow part w i = 0 then false else gd ow (part + 1) (zFit ow part w i) ds)
def pkl (p : Int32) : List Nat → Int32
  | [] => p
  | i :: ds => pkl (p <<< (nI 4 &&& 31) ||| (vv i + nI 4)) ds
def app (N : Nat) (s : gst) (l : List Int32) : gst := l.foldl (fun s p => if s.1 < N then (s.1 + 1, upd s.2 s.1 p) else s) s
theorem app_nil (N : Nat) (s : gst) : app N s [] = s := rfl
theorem app_app (N : Nat) (s : gst) (l m : List Int32) : app N s (l ++ m) = app N (app N s l) m := by unfold app; rw [List.foldl_append]
theorem app_1 (N : Nat) (s : gst) (p : Int32) : app N s [p] = if s.1 < N then (s.1 + 1, upd s.2 s.1 p) else s := rfl
theorem zGr_lx {N : Nat} {ow : Nat → Int32} : ∀ k, k ≤ 8 → ∀ rest w p s, zGr N ow k rest w p s = app N s (((lx k rest).filter (gd ow (8 - k) w)).map (pkl p)) := by
  intro k
  induction k with
  | zero =>
    intro _ rest w p s
    rw [zGr, lx]
    by_cases e : rest = 0
    · rw [if_pos e]
      show _ = app N s [p]
      rw [app_1]
      by_cases q : s.1 < N
      · rw [if_pos ⟨e, q⟩, if_pos q]
      · rw [if_neg (fun z => q z.2), if_neg q]
    · rw [if_neg e, if_neg (fun z => e z.1)]
      rfl
  | succ k ih =>
    intro hk rest w p s
    rw [zGr, lx]
    have e8 : 8 - (k + 1) = 7 - k := by omega
    rw [e8]
    have gen : ∀ (is : List Nat) (s : gst), is.foldl (fun s i => if sqN i ≤ rest ∧ ¬ zFit ow (7 - k) w i = 0 then zGr N ow k (rest - sqN i) (zFit ow (7 - k) w i) (p <<< (nI 4 &&& 31) ||| (vv i + nI 4)) s else s) s = app N s (((is.flatMap (fun i => if sqN i ≤ rest then (lx k (rest - sqN i)).map (fun ds => i :: ds) else [])).filter (gd ow (7 - k) w)).map (pkl p)) := by
      intro is
      induction is with
      | nil => exact fun s => rfl
      | cons i is ihs =>
        intro s
        rw [List.foldl_cons, List.flatMap_cons, List.filter_append, List.map_append, app_app, ihs]
        congr 1
        by_cases c : sqN i ≤ rest
        · rw [if_pos c, List.filter_map, List.map_map]
          by_cases z : zFit ow (7 - k) w i = 0
          · rw [if_neg (fun q => q.2 z)]
            have : ((lx k (rest - sqN i)).filter (gd ow (7 - k) w ∘ fun ds => i :: ds)) = [] := by
              rw [List.filter_eq_nil_iff]
              intro ds _
              show ¬ (gd ow (7 - k) w (i :: ds) = true)
              rw [gd, if_pos z]
              decide
            rw [this]
            rfl
          · rw [if_pos ⟨c, z⟩, ih (by omega)]
            have e1 : (gd ow (7 - k) w ∘ fun ds => i :: ds) = gd ow (8 - k) (zFit ow (7 - k) w i) := by
              funext ds
              show gd ow (7 - k) w (i :: ds) = _
              rw [gd, if_neg z, show 7 - k + 1 = 8 - k by omega]
            rw [e1]
            rfl
        · rw [if_neg c, if_neg (fun q => c q.1)]
          rfl
    exact gen (List.range 7) s
theorem lx_len : ∀ k rest ds, ds ∈ lx k rest → ds.length = k ∧ ∀ i ∈ ds, i < 7 := by
  intro k
  induction k with
  | zero =>
    intro rest ds h
    rw [lx] at h
    split at h
    · rw [List.mem_singleton.mp h]
      exact ⟨rfl, fun i hi => by cases hi⟩
    · cases h
  | succ k ih =>
    intro rest ds h
    rw [lx, List.mem_flatMap] at h
    obtain ⟨i, hi, h⟩ := h
    split at h
    · obtain ⟨es, he, rfl⟩ := List.mem_map.mp h
      obtain ⟨h1, h2⟩ := ih _ _ he
      refine ⟨by rw [List.length_cons, h1], fun j hj => ?_⟩
      rcases List.mem_cons.mp hj with e | e
      · rw [e]; exact List.mem_range.mp hi
      · exact h2 j e
    · cases h
/-- the odd parts of a row of digits -/
def odL : List Nat → Nat
  | [] => 0
  | i :: ds => (if i % 2 = 0 then 1 else 0) + 2 * odL ds
theorem odL_lt : ∀ ds, odL ds < 2 ^ ds.length
  | [] => by decide
  | i :: ds => by
    have := odL_lt ds
    rw [odL, List.length_cons, Nat.pow_succ]
    split <;> omega
def gdV (ow : Nat → Int32) : Nat → Nat → Int32 → Nat → Bool
  | 0, _, _, _ => true
  | k + 1, part, w, v => (if zFit ow part w (if v % 2 = 1 then 4 else 3) = 0 then false else gdV ow k (part + 1) (zFit ow part w (if v % 2 = 1 then 4 else 3)) (v / 2))
theorem vv_par : ∀ i, i < 7 → (vv i &&& nI 1 = 0 ↔ ¬ i % 2 = 0) := by decide +kernel
theorem zFit_par {ow : Nat → Int32} {part : Nat} {w : Int32} {i : Nat} (hi : i < 7) : zFit ow part w i = zFit ow part w (if i % 2 = 0 then 4 else 3) := by
  unfold zFit
  by_cases e : i % 2 = 0
  · rw [if_pos e, if_neg (fun z => (vv_par i hi).mp z e), if_neg (by decide)]
  · rw [if_neg e, if_pos ((vv_par i hi).mpr e), if_pos (by decide)]
theorem gd_V {ow : Nat → Int32} : ∀ (ds : List Nat) part w, (∀ i ∈ ds, i < 7) → gd ow part w ds = gdV ow ds.length part w (odL ds)
  | [], _, _, _ => rfl
  | i :: ds, part, w, h => by
    have hi := h i (List.mem_cons_self ..)
    have e : (if odL (i :: ds) % 2 = 1 then 4 else 3) = (if i % 2 = 0 then 4 else 3) := by
      rw [odL]
      by_cases q : i % 2 = 0
      · rw [if_pos q, if_pos q, if_pos (by omega)]
      · rw [if_neg q, if_neg q, if_neg (by omega)]
    have e2 : odL (i :: ds) / 2 = odL ds := by
      rw [odL]
      split <;> omega
    rw [gd, List.length_cons, gdV, e, e2, ← zFit_par hi, gd_V ds _ _ (fun j hj => h j (List.mem_cons_of_mem _ hj))]
theorem gd_o : ∀ o, o < 8 → ∀ v, v < 256 → gdV (zOw o (mwN o)) 8 0 (allW o) v = ofO o v := by decide +kernel
/-- the rows of a list -/
def lsD (o norm : Nat) : List (List Nat) := (lx 8 (4 * norm)).filter (fun ds => ofO o (odL ds))
theorem zLst_app {o norm : Nat} (ho : o < 8) : zLst o norm = app (zRoom norm) (0, fun _ => 0) ((lsD o norm).map (pkl (nI 0))) := by
  show zGr (zRoom norm) (zOw o (mwN o)) 8 (4 * norm) (allW o) (nI 0) (0, fun _ => 0) = _
  rw [zGr_lx 8 (Nat.le_refl _)]
  unfold lsD
  congr 2
  refine List.filter_congr (fun ds hds => ?_)
  obtain ⟨h1, h2⟩ := lx_len _ _ _ hds
  have := odL_lt ds
  rw [h1] at this
  rw [gd_V ds _ _ h2, h1]
  exact gd_o o ho _ this
theorem app_full {N : Nat} : ∀ (l : List Int32) (s : gst), s.1 + l.length ≤ N → (app N s l).1 = s.1 + l.length ∧ (∀ j, j < s.1 → (app N s l).2 j = s.2 j) ∧ ∀ j, j < l.length → (app N s l).2 (s.1 + j) = l.getD j 0
  | [], s, _ => ⟨rfl, fun _ _ => rfl, fun j hj => absurd hj (Nat.not_lt_zero j)⟩
  | p :: l, s, h => by
    rw [List.length_cons] at h
    have e : app N s (p :: l) = app N (s.1 + 1, upd s.2 s.1 p) l := by
      show app N (if s.1 < N then (s.1 + 1, upd s.2 s.1 p) else s) l = _
      rw [if_pos (by omega)]
    obtain ⟨h1, h2, h3⟩ := app_full l (s.1 + 1, upd s.2 s.1 p) (by show s.1 + 1 + l.length ≤ N; omega)
    rw [e]
    refine ⟨by rw [h1, List.length_cons]; show s.1 + 1 + l.length = _; omega, fun j hj => ?_, fun j hj => ?_⟩
    · rw [h2 j (by show j < s.1 + 1; omega)]
      show upd s.2 s.1 p j = s.2 j
      unfold upd
      rw [if_neg (by omega)]
    · rw [List.length_cons] at hj
      cases j with
      | zero =>
        show (app N (s.1 + 1, upd s.2 s.1 p) l).2 s.1 = p
        rw [h2 s.1 (by show s.1 < s.1 + 1; omega)]
        show upd s.2 s.1 p s.1 = p
        unfold upd
        rw [if_pos rfl]
      | succ j =>
        rw [show s.1 + (j + 1) = s.1 + 1 + j by omega]
        exact h3 j (by omega)

