/-! MY OWN LOGIC OVER THE KIT: an abstract heap (cells at numerals), a frame over all the concrete states that stand for it -/
/-- what is fixed over a run: the first address of ours, the law's start heap, array classes by number, object classes by number, their slots, the addresses of static cells -/
abbrev xG : Type := Nat × Heap × (Nat → ClassId) × (Nat → ClassId) × (Nat → Nat → Nat) × (Nat → Nat)
/-- a cell: tag (below 100 an array of that type number, from 100 on an object of class tag - 100), length, contents -/
abbrev xC : Type := Nat × Nat × (Nat → Value)
abbrev xH : Type := (Nat → xC) × Nat
def xad (G : xG) (k : Nat) : Nat := if k < 1000000 then G.1 + k else G.2.2.2.2.2 (k - 1000000)
def xtv (G : xG) (v : Value) : Value := match v with
  | .ref k => .ref (xad G k)
  | w => w
theorem xtv_cat (G : xG) (v : Value) : (xtv G v).category = v.category := by cases v <;> rfl
def xty (t : Nat) : FieldType := match t with
  | 0 => .int
  | 1 => .long
  | 2 => .boolean
  | 3 => .byte
  | 4 => .array .int
  | _ => .array .long
/-- the classes of our objects -/
def xcl : List vw_C := [(RX0, TX0, 10), (RX1, TX1, 3), (RX2, TX2, 4), (RX3, TX3, 9), (RX4, TX4, 5), (RX7, TX7, 0), (RX6, TX6, 9), (RX7, TX7, 3), (RX8, TX8, 2), (RX9, TX9, 9), (RX10, TX10, 3), (RX11, TX11, 16), (RX12, TX12, 38), (RJ4, TJ4, 4)]
def xA (G : xG) : Nat → Prop := fun q => G.1 ≤ q
def xAt (G : xG) (c : xC) (a : Nat) (H : Heap) : Prop := if c.1 < 100 then H[a]? = some (arrV (G.2.2.1 c.1) c.2.1 (fun j => xtv G (c.2.2 j))) else ∃ q : vw_C, xcl[c.1 - 100]? = some q ∧ t_OB a (G.2.2.2.1 (c.1 - 100)) q.2.2 (G.2.2.2.2.1 (c.1 - 100)) H (fun k => xtv G (c.2.2 k))
def xR (G : xG) (h : xH) (H : Heap) : Prop := H.size = G.1 + h.2 ∧ (∀ k, k < h.2 → xAt G (h.1 k) (G.1 + k) H) ∧ (∀ q, q < G.1 → H[q]? = G.2.1[q]?) ∧ (∀ k, h.2 ≤ k → (h.1 k).1 = 99) ∧ h.2 ≤ 1000000
def xup (f : Nat → xC) (a : Nat) (c : xC) : Nat → xC := fun j => if j = a then c else f j
/-- a cell is another one -/
def hs (h : xH) (a : Nat) (c : xC) : xH := (xup h.1 a c, h.2)
/-- a new cell -/
def hn (h : xH) (c : xC) : xH := (xup h.1 h.2 c, h.2 + 1)
theorem hs_eq {h : xH} {a : Nat} {c : xC} : (hs h a c).1 a = c := if_pos rfl
theorem hs_ne {h : xH} {a b : Nat} {c d : xC} (hb : b ≠ a) (hd : h.1 b = d) : (hs h a c).1 b = d := (if_neg hb).trans hd
theorem hs_n {h : xH} {a b : Nat} {c : xC} (hb : b ≠ a) : (hs h a c).1 b = h.1 b := if_neg hb
/-- words of nest mates' private members -/
def xisN (w : Cond) : Bool := match w with
  | .fieldLinkNest .. => true
  | .methodLinkNest .. => true
  | .privateMethod _ => true
  | _ => false
def xNW : List Cond := tables_1.filter xisN
/-- the static cells: the class, the field, its descriptor; the type of its elements, how many, what they are -/
def xST : List (String × String × Nat × List Int32) := [("EightParts$Lattice", "CODE", 16, [0, 255, 15, 240, 51, 204, 195, 60, 85, 170, 165, 90, 153, 102, 105, 150]), ("EightParts$Lists", "ROOM", 4, [1, 240, 2160, 6720]), ("EightParts$Ways", "MANY", 7, [0, 1, 1, 2, 5, 14, 42]), ("EightParts$Ways", "START", 7, [0, 0, 6, 11, 19, 34, 62])]
def xStat (G : xG) (s : State) : Prop := ∀ (j : Nat) (q : String × String × Nat × List Int32), xST[j]? = some q → va_Z q.1 q.2.1 "[I" (.ref (G.2.2.2.2.2 j)) (xA G) s G.2.1 ∧ va_T .int (G.2.2.2.2.2 j) q.2.2.1 (fun i => .int (q.2.2.2.getD i 0)) (xA G) s G.2.1
/-- an array of arrays can be made -/
def xAO (t : FieldType) (U : State) : Prop := (Cond.arrayOver (.array t)).before #[] U = true
theorem xAO.moved {t : FieldType} {u U : State} (hvm : u.vm.Alike U.vm) (h : xAO t u) : xAO t U := by
  obtain ⟨comp, c, k, h1, h2, h3, h4, h5⟩ := arrayOverA_spec h
  obtain ⟨k', hk', he⟩ := hvm.2.2 _ _ h3
  have hi : (U.vm.classes.findIdx? fun (x : Class) => match x.kind with | .array component _ => component == comp | _ => false) = some c := by
    rw [hvm.findIdx?_eq _ (fun _ => rfl)]
    exact h2
  have hkind : k'.kind = .array comp (.array t) := by rw [he]; exact h4
  have f1 : U.vm.findClass (FieldType.array t).toString = some comp := by rw [hvm.findClass]; exact h1
  have f2 : U.vm.findClass ("[" ++ (FieldType.array t).toString) = some c := by rw [hvm.findClass]; exact h5
  unfold xAO Cond.before Cond.holds
  simp only [Cond.value]
  rw [f1, Option.bind_some]
  refine (congrArg (fun o : Option Nat => (o.bind (fun c => (U.vm.classes[c]?).map fun (k : Class) => match k.kind with | .array _ ty => decide (ty = FieldType.array t) && decide (U.vm.findClass ("[" ++ (FieldType.array t).toString) = some c) | _ => false) == some true)) hi).trans ?_
  simp [hk', hkind, f2]
/-- what is static beside: Latin-1 texts, the digits of numbers below 100, the text "/2", the script (its address, length and numbers as G tells them) -/
def xSt2 (G : xG) (s : State) : Prop := va_Z "java/lang/String" "COMPACT_STRINGS" "Z" (.int 1) (xA G) s G.2.1 ∧ (va_Z "java/lang/Integer" "DigitOnes" "[B" (.ref (G.2.2.2.2.2 4)) (xA G) s G.2.1 ∧ va_T .byte (G.2.2.2.2.2 4) 100 (fun i => .int (nI (48 + i % 10))) (xA G) s G.2.1) ∧ (va_Z "java/lang/Integer" "DigitTens" "[B" (.ref (G.2.2.2.2.2 5)) (xA G) s G.2.1 ∧ va_T .byte (G.2.2.2.2.2 5) 100 (fun i => .int (nI (48 + i / 10))) (xA G) s G.2.1) ∧ vk_R "EightParts" 384 "/2" (G.2.2.2.2.2 6) s ∧ vk_S 1 [2] [[47, 50]] (fun _ => G.2.2.2.2.2 6) (fun _ => G.2.2.2.2.2 7) (xA G) s G.2.1 ∧ va_T .int (G.2.2.2.2.2 8) (G.2.2.2.2.2 9) (fun i => .int (nI (G.2.2.2.2.2 (10 + i)))) (xA G) s G.2.1 ∧ (va_Z "jdk/internal/util/Preconditions" "SIOOBE_FORMATTER" "Ljava/util/function/BiFunction;" .null (xA G) s G.2.1 ∨ va_Z "jdk/internal/util/Preconditions" "SIOOBE_FORMATTER" "Ljava/util/function/BiFunction;" (.ref (G.2.2.2.2.2 500000)) (xA G) s G.2.1)
theorem xSt2_al {G : xG} {u U : State} (hvm : u.vm.Alike U.vm) (hk : vk_R "EightParts" 384 "/2" (G.2.2.2.2.2 6) U) (h : xSt2 G u) : xSt2 G U := ⟨va_Z.moved hvm h.1, ⟨va_Z.moved hvm h.2.1.1, va_T.moved hvm h.2.1.2⟩, ⟨va_Z.moved hvm h.2.2.1.1, va_T.moved hvm h.2.2.1.2⟩, hk, vk_S.moved hvm h.2.2.2.2.1, va_T.moved hvm h.2.2.2.2.2.1, h.2.2.2.2.2.2.imp (va_Z.moved hvm) (va_Z.moved hvm)⟩
def xSE (G : xG) (s : State) : Prop :=
  (∀ (c : Nat) (q : vw_C), xcl[c]? = some q → u_Kn s q.1 q.2.1 q.2.2 (G.2.2.2.1 c) (G.2.2.2.2.1 c)) ∧ (∀ t, t < 6 → ArrOfT s (G.2.2.1 t) (xty t) ∧ s.vm.findClass ("[" ++ (xty t).toString) = some (G.2.2.1 t)) ∧ (∀ w ∈ xNW, va_Nw w s) ∧ xStat G s ∧ xAO .int s ∧ xAO .long s ∧ xSt2 G s
theorem xNW_warm {s U : State} (hW : s.WarmedH U.vm) {w : Cond} (hw : w ∈ xNW) (h : va_Nw w s) : va_Nw w U := by
  have h1 : xisN w = true := (List.mem_filter.mp hw).2
  cases w <;> first | exact va_Nw.warmF hW h | exact va_Nw.warmM hW h | exact Cond.privateMethod_warm hW h | (exact absurd h1 (by simp [xisN]))
theorem xNW_same {u U : State} (hv : u.vm = U.vm) {w : Cond} (hw : w ∈ xNW) (h : va_Nw w u) : va_Nw w U := by
  have h1 : xisN w = true := (List.mem_filter.mp hw).2
  cases w <;> first | exact va_Nw.same rfl hv h | (exact absurd h1 (by simp [xisN]))
theorem xSE_al {G : xG} {u U : State} (hvm : u.vm.Alike U.vm) (hn : ∀ w ∈ xNW, va_Nw w U) (hk : vk_R "EightParts" 384 "/2" (G.2.2.2.2.2 6) U) (h : xSE G u) : xSE G U :=
  ⟨fun c q hq => u_Kn_moved hvm (h.1 c q hq), fun t ht => ⟨arrOfT_moved hvm (h.2.1 t ht).1, by rw [hvm.findClass]; exact (h.2.1 t ht).2⟩, hn, fun j q hq => ⟨va_Z.moved hvm (h.2.2.2.1 j q hq).1, va_T.moved hvm (h.2.2.2.1 j q hq).2⟩, h.2.2.2.2.1.moved hvm, h.2.2.2.2.2.1.moved hvm, xSt2_al hvm hk h.2.2.2.2.2.2⟩
theorem xSE_warm {G : xG} {s U : State} (hW : s.WarmedH U.vm) (h : xSE G s) : xSE G U := xSE_al hW.alike (fun w hw => xNW_warm hW hw (h.2.2.1 w hw)) (vk_R.warm hW h.2.2.2.2.2.2.2.2.2.1) h
theorem xSE_same {G : xG} {u U : State} (hv : u.vm = U.vm) (h : xSE G u) : xSE G U := xSE_al (hv ▸ Vm.Alike.refl u.vm) (fun w hw => xNW_same hv hw (h.2.2.1 w hw)) (vk_R.same hv.symm h.2.2.2.2.2.2.2.2.2.1) h
/-- locals, as a function that may not know -/
abbrev xL : Type := Nat → Option Value
def xls : List (Nat × Value) → xL
  | [], _ => none
  | q :: r, i => if i = q.1 then some q.2 else xls r i
def xst (L : xL) (i : Nat) (v : Value) : xL := fun j => if j = i then some v else if j + 1 = i then (match L j with
  | some w => if w.category = 2 then none else some w
  | none => none) else L j
def xst2 (L : xL) (i : Nat) (v : Value) : xL := fun j => if j = i then some v else if j = i + 1 then none else if j + 1 = i then (match L j with
  | some w => if w.category = 2 then none else some w
  | none => none) else L j
def xLs (G : xG) (ls : Array Slot) (nL : Nat) (L : xL) : Prop := ls.size = nL ∧ lv_wf ls ∧ ∀ i v, L i = some v → ls[i]? = some (.val (xtv G v))
theorem xls_mem : ∀ {l : List (Nat × Value)} {i : Nat} {v : Value}, xls l i = some v → (i, v) ∈ l
  | [], i, v, h => by simp [xls] at h
  | q :: r, i, v, h => by
    unfold xls at h
    split at h
    · next e =>
      cases h
      subst e
      exact List.mem_cons_self
    · exact List.mem_cons_of_mem _ (xls_mem h)
theorem xargs_map (G : xG) : ∀ (vs : List Value) (i : Nat), lv_args i (vs.map (xtv G)) = (lv_args i vs).map (fun q => (q.1, xtv G q.2))
  | [], i => rfl
  | v :: vs, i => by
    show (i, xtv G v) :: lv_args (if (xtv G v).category = 2 then i + 2 else i + 1) (vs.map (xtv G)) = _
    rw [xtv_cat, xargs_map G vs]
    rfl
/-- the known locals, listed -/
def xll (G : xG) (nL : Nat) (L : xL) : List (Nat × Value) := (List.range nL).filterMap (fun i => (L i).map (fun v => (i, xtv G v)))
theorem xll_mem {G : xG} {nL : Nat} {L : xL} {i : Nat} {v : Value} (hi : i < nL) (h : L i = some v) : (i, xtv G v) ∈ xll G nL L := List.mem_filterMap.mpr ⟨i, List.mem_range.mpr hi, by rw [h]; rfl⟩
theorem xLs.has {G : xG} {ls : Array Slot} {nL : Nat} {L : xL} (h : xLs G ls nL L) : lv_has ls nL (xll G nL L) := by
  refine ⟨h.1, h.2.1, fun q hq => ?_⟩
  obtain ⟨i, -, hi⟩ := List.mem_filterMap.mp hq
  cases hL : L i with
  | none => rw [hL] at hi; cases hi
  | some v =>
    rw [hL] at hi
    cases hi
    exact h.2.2 i v hL
theorem xLs.lt {G : xG} {ls : Array Slot} {nL : Nat} {L : xL} (h : xLs G ls nL L) {i : Nat} {v : Value} (hi : L i = some v) : i < nL := by
  rw [← h.1]
  exact lv_lt (h.2.2 i v hi)
theorem xLs_st {G : xG} {ls ls' : Array Slot} {nL : Nat} {L : xL} {i : Nat} {v : Value} (h : xLs G ls nL L) (h' : lv_has ls' nL ((i, xtv G v) :: (xll G nL L).filter (fun q => !(q.1 == i) && !(q.1 + 1 == i && q.2.category == 2)))) : xLs G ls' nL (xst L i v) := by
  refine ⟨h'.1, h'.2.1, fun j w hj => ?_⟩
  unfold xst at hj
  split at hj
  · next e =>
    cases hj
    subst e
    exact h'.2.2 _ List.mem_cons_self
  · next e =>
    split at hj
    · next e2 =>
      split at hj
      · next w' hw' =>
        split at hj
        · cases hj
        · next hc =>
          cases hj
          exact h'.2.2 (j, xtv G w) (List.mem_cons_of_mem _ (List.mem_filter.mpr ⟨xll_mem (h.lt hw') hw', by simp [e, xtv_cat, hc]⟩))
      · cases hj
    · next e2 => exact h'.2.2 (j, xtv G w) (List.mem_cons_of_mem _ (List.mem_filter.mpr ⟨xll_mem (h.lt hj) hj, by simp [e, e2]⟩))
theorem xLs_st2 {G : xG} {ls ls' : Array Slot} {nL : Nat} {L : xL} {i : Nat} {v : Value} (h : xLs G ls nL L) (h' : lv_has ls' nL ((i, xtv G v) :: (xll G nL L).filter (fun q => !(q.1 == i) && (!(q.1 == i + 1) && !(q.1 + 1 == i && q.2.category == 2))))) : xLs G ls' nL (xst2 L i v) := by
  refine ⟨h'.1, h'.2.1, fun j w hj => ?_⟩
  unfold xst2 at hj
  split at hj
  · next e =>
    cases hj
    subst e
    exact h'.2.2 _ List.mem_cons_self
  · next e =>
    split at hj
    · cases hj
    · next e1 =>
      split at hj
      · next e2 =>
        split at hj
        · next w' hw' =>
          split at hj
          · cases hj
          · next hc =>
            cases hj
            exact h'.2.2 (j, xtv G w) (List.mem_cons_of_mem _ (List.mem_filter.mpr ⟨xll_mem (h.lt hw') hw', by simp [e, e1, xtv_cat, hc]⟩))
        · cases hj
      · next e2 => exact h'.2.2 (j, xtv G w) (List.mem_cons_of_mem _ (List.mem_filter.mpr ⟨xll_mem (h.lt hj) hj, by simp [e, e1, e2]⟩))
/-- what stands about a frame -/
def xOK (G : xG) (M : xM) (d : Nat) (p : Program) (R : Room) (s : State) (m : MethodId) (args : Array Value) (meth : Method) (c : Code) (mc ms : Nat) : Prop :=
  p.tables.exec = Jvm.exec ∧ c.code = M.2.1 ∧ c.maxLocals = M.2.2.1 ∧ meth.sig.returnType = M.2.2.2 ∧ meth.locks = false ∧ meth.name = M.1.name ∧ s.vm.findClass M.1.cls = some m.cls ∧ (∀ w ∈ xTT, w.before args s = true) ∧ xSE G s ∧ d ≤ R.frames ∧ 100 * d ≤ R.locals ∧ R.cells = mc ∧ R.slots = ms ∧ G.1 ≤ s.heap.size
/-- the frame of method M at pc, k cells and n slots still to make, d frames deep at most, comes to Z -/
def xWP (G : xG) (l : Launch) (M : xM) (d : Nat) (Z : List Frame → Array Value → State → Nat → Nat → State → Prop) (k n pc : Nat) (L : xL) (st : List Value) (h : xH) : Prop :=
  ∀ (p : Program) (e : Env) (R : Room) (s : State) (m : MethodId) (args : Array Value) (below : List Frame) (meth : Method) (c : Code) (H : Heap) (locs : List Loc) (cells slots mc ms : Nat) (ls : Array Slot),
    xOK G M d p R s m args meth c mc ms → xR G h H → va_S (xA G) s.heap H locs → cells + k ≤ mc → slots + n ≤ ms → xLs G ls M.2.2.1 L →
    W p l e R s m args below meth c H locs cells slots (Z below args s mc ms) (F0 m pc ls (st.map (xtv G)))
def xPost (G : xG) (Q : Option Value → xH → Prop) : Array Value → State → Outcome → State → Prop := fun _ st oc t => (∃ (r : Option Value) (h' : xH), oc = .returned (r.map (xtv G)) ∧ Q r h' ∧ xR G h' t.heap) ∧ va_F (xA G) st t
def zM (G : xG) (Q : Option Value → xH → Prop) : List Frame → Array Value → State → Nat → Nat → State → Prop := fun below args s mc ms => MQ below (xPost G Q) args s mc ms (xA G)
def xPre (G : xG) (as : List Value) (h : xH) : Array Value → State → Prop := fun v U => v = (as.map (xtv G)).toArray ∧ xSE G U ∧ xR G h U.heap
abbrev xws (M : xM) : List Cond := Cond.code M.1 M.2.1 M.2.2.1 M.2.2.2 :: xTT
/-- a contract: method M on these arguments and this heap -/
def xCt (G : xG) (l : Launch) (M : xM) (d : Nat) (as : List Value) (h : xH) (mc ms : Nat) (Q : Option Value → xH → Prop) : Prop :=
  Met l M.1 (xws M) { frames := d, cells := mc, slots := ms, locals := 100 * d } (xPre G as h) (xPost G Q) mc ms (xA G)
theorem xPre_blind (G : xG) (as : List Value) (h : xH) : FrameBlind (xPre G as h) := by
  intro a U g mk q
  obtain ⟨q0, q1, q2⟩ := q
  exact ⟨q0, xSE_same (u := U) (U := U.calling g mk a) rfl q1, q2⟩
theorem xCt_of {G : xG} {l : Launch} {N : xM} {d : Nat} {as : List Value} {h : xH} {mc ms : Nat} {Q : Option Value → xH → Prop} (hpl : plainName N.1.cls = true) (hlen : (lg_sl (as.map (xtv G))).length ≤ N.2.2.1) (w : xWP G l N d (zM G Q) mc ms 0 (xls (lv_args 0 as)) [] h) : xCt G l N d as h mc ms Q := by
  refine Met.ofW (cc := N.2.1) (maxL := N.2.2.1) (ret := N.2.2.2) hpl rfl ?_
  intro p e s m args' below meth c s₁ B hml hv
  obtain ⟨rfl, hSE, hR⟩ := hv
  have hts := atoms_spec (ws := xws N) B.pre
  have hl := lv_entry (as.map (xtv G)) hlen
  rw [lg_entry_eq]
  refine w p e _ s m _ below meth c s.heap [] 0 0 mc ms _ ⟨B.exec, B.bytes, hml, B.returns, B.notSynchronized, (name_of_methodNamed B.named B.method).1, findClass_of_methodNamed B.named, fun w hw => hts w (List.mem_cons_of_mem _ hw), hSE, Nat.le_refl _, Nat.le_refl _, rfl, rfl, by rw [hR.1]; exact Nat.le_add_right _ _⟩ hR va_S.rf (by omega) (by omega) ⟨hl.1, hl.2.1, fun i v hi => ?_⟩
  have hm := xls_mem hi
  refine hl.2.2 (i, xtv G v) ?_
  rw [xargs_map]
  exact List.mem_map.mpr ⟨(i, v), hm, rfl⟩
/-- behind a call -/
theorem x_after {p : Program} {l : Launch} {e : Env} {R : Room} {s : State} {m : MethodId} {args : Array Value} {below : List Frame} {meth : Method} {c : Code} {H : Heap} {locs : List Loc} {cells slots mc ms pc : Nat} {Q : State → Prop} {ls : Array Slot} {st0 rest : List Value} {G : xG} {Q' : Option Value → xH → Prop} {a : Array Value}
    (hr : va_Run p l e R s m args below meth c H locs cells slots mc ms (F0 m pc ls st0) rest (xPost G Q' a) (xA G)) (hS : va_S (xA G) s.heap H locs)
    (kk : ∀ (r : Option Value) (h' : xH) (H1 : Heap) (locs1 : List Loc), Q' r h' → xR G h' H1 → va_S (xA G) s.heap H1 locs1 → W p l e R s m args below meth c H1 locs1 (cells + mc) (slots + ms) Q (F0 m (pc + 3) ls ((r.map (xtv G)).toList ++ rest))) : W p l e R s m args below meth c H locs cells slots Q (F0 m pc ls st0) := by
  intro T hT X
  obtain ⟨v, st₀, t, T', L, h0, X', hL, e1, e2, ⟨⟨r, h', hv, hq, hR⟩, hz, hk⟩, st⟩ := hr T hT X
  cases hv
  rw [h0] at hz hk
  obtain ⟨t2, a1, b1⟩ := kk r h' T'.heap (locs ++ L) hq (by rw [e1]; exact hR)
    ⟨Nat.le_trans hS.1 (by rw [e1]; exact hz), fun q h1 h2 => by rw [e1, hk q (Nat.lt_of_lt_of_le h1 hS.1) h2]; exact hS.2.1 q h1 h2, fun q hq => by
      rcases List.mem_append.mp hq with h | h
      · exact hS.2.2 q h
      · exact hL q h⟩ T' rfl X'
  exact ⟨t2, st t2 a1, b1⟩
