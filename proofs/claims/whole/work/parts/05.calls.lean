/-! calls, new cells, static cells, arraycopy -/
def xOkB (N : xM) (np : Nat) : Prop := Cond.code N.1 N.2.1 N.2.2.1 N.2.2.2 ∈ xTT ∧ Cond.initialized N.1.cls ∈ xTT ∧ N.2.2.1 ≤ 80 ∧ N.1.cls ≠ "java/lang/invoke/MethodHandle" ∧ N.1.cls ≠ "java/lang/invoke/VarHandle" ∧ (parseMethodDescriptor N.1.desc).map (fun d => d.parameters.length) = some np
def xOkS (N : xM) (np : Nat) : Prop := xOkB N np ∧ Cond.static N.1 ∈ xTT
def xOkV (N : xM) (np : Nat) : Prop := xOkB N np ∧ Cond.instanceMethod N.1 ∈ xTT ∧ Cond.selects N.1.cls N.1 N.1 ∈ xTT
def xOkI (N : xM) (np : Nat) : Prop := xOkB N np ∧ Cond.instanceMethod N.1 ∈ xTT ∧ N.1.name = "<init>" ∧ N.2.2.2 = none
/-- a method as a class's constant pool names it -/
def xMl (own : String) (idx : Nat) (N : xM) : Prop := Cond.methodLink own idx N.1 ∈ xTT ∨ ∃ host : String, Cond.methodLinkNest own idx N.1 host ∈ xNW
theorem xgood (N : xM) {np : Nat} (hN : xOkB N np) : GoodIn xTT (xws N) := by
  intro w hw
  have h1 : w ∈ xTT := by
    rcases List.mem_cons.mp hw with rfl | h
    · exact hN.1
    · exact h
  exact ⟨h1, good_of_word (List.mem_filter.mp h1).2⟩
/-- what a call leaves on the stack -/
def xpush (r : Option Value) (st : List Value) : List Value := match r with
  | none => st
  | some v => v :: st
theorem xmap_ret (G : xG) (r : Option Value) (st : List Value) : (xpush r st).map (xtv G) = (r.map (xtv G)).toList ++ st.map (xtv G) := by
  cases r <;> rfl
theorem xsum_cat (G : xG) (st : List Value) : ((st.map (xtv G)).map fun v => v.category).sum = (st.map fun v => v.category).sum := by
  rw [List.map_map]
  congr 1
  exact List.map_congr_left (fun v _ => xtv_cat G v)
section XCR
variable {G : xG} {l : Launch} {M : xM} {d : Nat} {Z : List Frame → Array Value → State → Nat → Nat → State → Prop} {k n pc pc2 : Nat} {L : xL} {st : List Value} {h : xH}
theorem x_callS {N : xM} {np idx d2 k2 n2 mc2 ms2 : Nat} {As st0 : List Value} (hd : decode M.2.1 pc = .ok (.invokestatic idx, 3)) (hp : pc + 3 = pc2) (hlk : xMl M.1.cls idx N) (hN : xOkS N np) (hdd : d2 + 1 ≤ d) (hA : As.length = np) (hst : st0 = As.reverse ++ st) (hw : (st.map fun v => v.category).sum ≤ 8) (hk2 : mc2 + k2 ≤ k) (hn2 : ms2 + n2 ≤ n) (kk : xCt G l N d2 As h mc2 ms2 (fun r h2 => xWP G l M d Z k2 n2 pc2 L (xpush r st) h2)) : xWP G l M d Z k n pc L st0 h := by
  intro p e R s m args below meth c H locs cells slots mc ms ls hO hR hS hk hn hl
  subst hp
  subst hst
  have hts := hO.2.2.2.2.2.2.2.1
  have hSE := hO.2.2.2.2.2.2.2.2.1
  obtain ⟨hfr, hlo, hrc, hrs, hz⟩ := hO.2.2.2.2.2.2.2.2.2
  obtain ⟨⟨b1, b2, b3, b4, b5, b6⟩, b7⟩ := hN
  have hmap : (As.reverse ++ st).map (xtv G) = (As.map (xtv G)).reverse ++ st.map (xtv G) := by simp
  rw [hmap]
  have hpre : PreS s H (xPre G As h) (As.map (xtv G)) := ⟨xPre_blind G As h, fun U hU hW => ⟨rfl, xSE_warm hW hSE, by rw [hU]; exact hR⟩⟩
  have fin := fun (hr : va_Run p l e R s m args below meth c H locs cells slots mc2 ms2 (F0 m pc ls ((As.map (xtv G)).reverse ++ st.map (xtv G))) (st.map (xtv G)) (xPost G (fun r h2 => xWP G l M d Z k2 n2 (pc + 3) L (xpush r st) h2) (As.map (xtv G)).toArray) (xA G)) => x_after (Q := Z below args s mc ms) hr hS (fun r h2 H1 locs1 hq hR1 hS1 => by
    rw [← xmap_ret]
    exact hq p e R s m args below meth c H1 locs1 (cells + mc2) (slots + ms2) mc ms ls hO hR1 hS1 (by omega) (by omega) hl)
  have hlr : 2 * (F0 m pc ls ((As.map (xtv G)).reverse ++ st.map (xtv G))).monitorRoom + ((st.map (xtv G)).map fun v => v.category).sum ≤ 8 := lv_room (by rw [xsum_cat]; exact hw)
  rcases hlk with hlk | ⟨host, hlk⟩
  · exact fin (va_runS (Ts := xTT) (own := M.1.cls) ⟨hO.1, hO.2.1, hO.2.2.1, hO.2.2.2.2.2.2.1, hts⟩ kk ⟨callB_of (Ts := xTT) np hts (xgood N ⟨b1, b2, b3, b4, b5, b6⟩) rfl rfl rfl (hts _ b2) (hts _ hlk) ⟨b4, b5, b6⟩ ⟨by show d2 + 1 ≤ _; omega, by show 8 + (N.2.2.1 + 11) + 100 * d2 ≤ _; omega⟩, hts _ b7⟩ hpre rfl (by rw [List.length_map]; exact hA) hl.1 rfl hlr hd ⟨by omega, by omega⟩)
  · exact fin (va_runSN (Ts := xTT) (own := M.1.cls) ⟨hO.1, hO.2.1, hO.2.2.1, hO.2.2.2.2.2.2.1, hts⟩ kk ⟨va_cnB (Ts := xTT) np hts (xgood N ⟨b1, b2, b3, b4, b5, b6⟩) rfl rfl rfl (hSE.2.2.1 _ hlk) (hts _ b2) ⟨b4, b5, b6⟩ ⟨by show d2 + 1 ≤ _; omega, by show 8 + (N.2.2.1 + 11) + 100 * d2 ≤ _; omega⟩, hts _ b7, trivial⟩ hpre rfl (by rw [List.length_map]; exact hA) hl.1 rfl hlr hd ⟨by omega, by omega⟩)
theorem x_callV {N : xM} {np idx d2 k2 n2 mc2 ms2 b ci NN : Nat} {F : Nat → Value} {As st0 : List Value} (hd : decode M.2.1 pc = .ok (.invokevirtual idx, 3)) (hp : pc + 3 = pc2) (hlk : xMl M.1.cls idx N) (hN : xOkV N np) (hb : h.1 b = (100 + ci, NN, F)) (hci : ∀ q, xcl[ci]? = some q → q.1 = N.1.cls) (hdd : d2 + 1 ≤ d) (hA : As.length = np) (hst : st0 = As.reverse ++ .ref b :: st) (hw : (st.map fun v => v.category).sum ≤ 8) (hk2 : mc2 + k2 ≤ k) (hn2 : ms2 + n2 ≤ n) (kk : xCt G l N d2 (.ref b :: As) h mc2 ms2 (fun r h2 => xWP G l M d Z k2 n2 pc2 L (xpush r st) h2)) : xWP G l M d Z k n pc L st0 h := by
  intro p e R s m args below meth c H locs cells slots mc ms ls hO hR hS hk hn hl
  subst hp
  subst hst
  have hts := hO.2.2.2.2.2.2.2.1
  have hSE := hO.2.2.2.2.2.2.2.2.1
  obtain ⟨hfr, hlo, hrc, hrs, hz⟩ := hO.2.2.2.2.2.2.2.2.2
  obtain ⟨⟨b1, b2, b3, b4, b5, b6⟩, b7, b8⟩ := hN
  have hmap : (As.reverse ++ .ref b :: st).map (xtv G) = (As.map (xtv G)).reverse ++ .ref (xad G b) :: st.map (xtv G) := by simp [xtv]
  rw [hmap]
  obtain ⟨q, hq, cell, q1, q2, q3, q4⟩ := hR.obj hb
  have hcn := hci q hq
  obtain ⟨-, hfc, -⟩ := hSE.1 ci q hq
  have hpre : PreV s H N.1.cls (xad G b) (xPre G (.ref b :: As) h) (As.map (xtv G)) := ⟨xPre_blind G _ h, ⟨cell, q1, by rw [q3]; rfl, by rw [q2, ← hcn]; exact hfc⟩, fun U hU hW => ⟨rfl, xSE_warm hW hSE, by rw [hU]; exact hR⟩⟩
  have fin := fun (hr : va_Run p l e R s m args below meth c H locs cells slots mc2 ms2 (F0 m pc ls ((As.map (xtv G)).reverse ++ .ref (xad G b) :: st.map (xtv G))) (st.map (xtv G)) (xPost G (fun r h2 => xWP G l M d Z k2 n2 (pc + 3) L (xpush r st) h2) (Value.ref (xad G b) :: As.map (xtv G)).toArray) (xA G)) => x_after (Q := Z below args s mc ms) hr hS (fun r h2 H1 locs1 hq hR1 hS1 => by
    rw [← xmap_ret]
    exact hq p e R s m args below meth c H1 locs1 (cells + mc2) (slots + ms2) mc ms ls hO hR1 hS1 (by omega) (by omega) hl)
  have hlr : 2 * (F0 m pc ls ((As.map (xtv G)).reverse ++ .ref (xad G b) :: st.map (xtv G))).monitorRoom + ((st.map (xtv G)).map fun v => v.category).sum ≤ 8 := lv_room (by rw [xsum_cat]; exact hw)
  rcases hlk with hlk | ⟨host, hlk⟩
  · exact fin (va_runV (Ts := xTT) (own := M.1.cls) (C := N.1.cls) ⟨hO.1, hO.2.1, hO.2.2.1, hO.2.2.2.2.2.2.1, hts⟩ kk ⟨callB_of (Ts := xTT) np hts (xgood N ⟨b1, b2, b3, b4, b5, b6⟩) rfl rfl rfl (hts _ b2) (hts _ hlk) ⟨b4, b5, b6⟩ ⟨by show d2 + 1 ≤ _; omega, by show 8 + (N.2.2.1 + 11) + 100 * d2 ≤ _; omega⟩, hts _ b7, hts _ b8⟩ hpre rfl (by rw [List.length_map]; exact hA) hl.1 rfl hlr hd ⟨by omega, by omega⟩)
  · exact fin (va_runVN (Ts := xTT) (own := M.1.cls) (C := N.1.cls) ⟨hO.1, hO.2.1, hO.2.2.1, hO.2.2.2.2.2.2.1, hts⟩ kk ⟨va_cnB (Ts := xTT) np hts (xgood N ⟨b1, b2, b3, b4, b5, b6⟩) rfl rfl rfl (hSE.2.2.1 _ hlk) (hts _ b2) ⟨b4, b5, b6⟩ ⟨by show d2 + 1 ≤ _; omega, by show 8 + (N.2.2.1 + 11) + 100 * d2 ≤ _; omega⟩, hts _ b7, hts _ b8⟩ hpre rfl (by rw [List.length_map]; exact hA) hl.1 rfl hlr hd ⟨by omega, by omega⟩)
theorem x_callI {N : xM} {np idx d2 k2 n2 mc2 ms2 b : Nat} {As st0 : List Value} (hd : decode M.2.1 pc = .ok (.invokespecial idx, 3)) (hp : pc + 3 = pc2) (hlk : xMl M.1.cls idx N) (hN : xOkI N np) (hdd : d2 + 1 ≤ d) (hA : As.length = np) (hst : st0 = As.reverse ++ .ref b :: st) (hw : (st.map fun v => v.category).sum ≤ 8) (hk2 : mc2 + k2 ≤ k) (hn2 : ms2 + n2 ≤ n) (kk : xCt G l N d2 (.ref b :: As) h mc2 ms2 (fun r h2 => xWP G l M d Z k2 n2 pc2 L (xpush r st) h2)) : xWP G l M d Z k n pc L st0 h := by
  intro p e R s m args below meth c H locs cells slots mc ms ls hO hR hS hk hn hl
  subst hp
  subst hst
  have hts := hO.2.2.2.2.2.2.2.1
  have hSE := hO.2.2.2.2.2.2.2.2.1
  obtain ⟨hfr, hlo, hrc, hrs, hz⟩ := hO.2.2.2.2.2.2.2.2.2
  obtain ⟨⟨b1, b2, b3, b4, b5, b6⟩, b7, b8, b9⟩ := hN
  have hmap : (As.reverse ++ .ref b :: st).map (xtv G) = (As.map (xtv G)).reverse ++ .ref (xad G b) :: st.map (xtv G) := by simp [xtv]
  rw [hmap]
  have hpre : PreS s H (xPre G (.ref b :: As) h) (.ref (xad G b) :: As.map (xtv G)) := ⟨xPre_blind G _ h, fun U hU hW => ⟨rfl, xSE_warm hW hSE, by rw [hU]; exact hR⟩⟩
  have fin := fun (hr : va_Run p l e R s m args below meth c H locs cells slots mc2 ms2 (F0 m pc ls ((As.map (xtv G)).reverse ++ .ref (xad G b) :: st.map (xtv G))) (st.map (xtv G)) (xPost G (fun r h2 => xWP G l M d Z k2 n2 (pc + 3) L (xpush r st) h2) (Value.ref (xad G b) :: As.map (xtv G)).toArray) (xA G)) => x_after (Q := Z below args s mc ms) hr hS (fun r h2 H1 locs1 hq hR1 hS1 => by
    rw [← xmap_ret]
    exact hq p e R s m args below meth c H1 locs1 (cells + mc2) (slots + ms2) mc ms ls hO hR1 hS1 (by omega) (by omega) hl)
  have hlr : 2 * (F0 m pc ls ((As.map (xtv G)).reverse ++ .ref (xad G b) :: st.map (xtv G))).monitorRoom + ((st.map (xtv G)).map fun v => v.category).sum ≤ 8 := lv_room (by rw [xsum_cat]; exact hw)
  rcases hlk with hlk | ⟨host, hlk⟩
  · exact fin (va_runI (Ts := xTT) (own := M.1.cls) ⟨hO.1, hO.2.1, hO.2.2.1, hO.2.2.2.2.2.2.1, hts⟩ kk ⟨b9 ▸ callB_of (Ts := xTT) np hts (xgood N ⟨b1, b2, b3, b4, b5, b6⟩) rfl rfl rfl (hts _ b2) (hts _ hlk) ⟨b4, b5, b6⟩ ⟨by show d2 + 1 ≤ _; omega, by show 8 + (N.2.2.1 + 11) + 100 * d2 ≤ _; omega⟩, b8, hts _ b7⟩ hpre rfl (by rw [List.length_map]; exact hA) hl.1 rfl hlr hd ⟨by omega, by omega⟩)
  · exact fin (va_runIN (Ts := xTT) (own := M.1.cls) ⟨hO.1, hO.2.1, hO.2.2.1, hO.2.2.2.2.2.2.1, hts⟩ kk ⟨b9 ▸ va_cnB (Ts := xTT) np hts (xgood N ⟨b1, b2, b3, b4, b5, b6⟩) rfl rfl rfl (hSE.2.2.1 _ hlk) (hts _ b2) ⟨b4, b5, b6⟩ ⟨by show d2 + 1 ≤ _; omega, by show 8 + (N.2.2.1 + 11) + 100 * d2 ≤ _; omega⟩, b8, hts _ b7⟩ hpre rfl (by rw [List.length_map]; exact hA) hl.1 rfl hlr hd ⟨by omega, by omega⟩)
theorem x_callS0 {N : xM} {np idx d2 : Nat} {As st0 : List Value} (hd : decode M.2.1 pc = .ok (.invokestatic idx, 3)) (hp : pc + 3 = pc2) (hlk : xMl M.1.cls idx N) (hN : xOkS N np) (hdd : d2 + 1 ≤ d) (hA : As.length = np) (hst : st0 = As.reverse ++ st) (hw : (st.map fun v => v.category).sum ≤ 8) (kk : xCt G l N d2 As h 0 0 (fun r h2 => xWP G l M d Z k n pc2 L (xpush r st) h2)) : xWP G l M d Z k n pc L st0 h := x_callS hd hp hlk hN hdd hA hst hw (by omega) (by omega) kk
theorem x_callV0 {N : xM} {np idx d2 b ci NN : Nat} {F : Nat → Value} {As st0 : List Value} (hd : decode M.2.1 pc = .ok (.invokevirtual idx, 3)) (hp : pc + 3 = pc2) (hlk : xMl M.1.cls idx N) (hN : xOkV N np) (hb : h.1 b = (100 + ci, NN, F)) (hci : ∀ q, xcl[ci]? = some q → q.1 = N.1.cls) (hdd : d2 + 1 ≤ d) (hA : As.length = np) (hst : st0 = As.reverse ++ .ref b :: st) (hw : (st.map fun v => v.category).sum ≤ 8) (kk : xCt G l N d2 (.ref b :: As) h 0 0 (fun r h2 => xWP G l M d Z k n pc2 L (xpush r st) h2)) : xWP G l M d Z k n pc L st0 h := x_callV hd hp hlk hN hb hci hdd hA hst hw (by omega) (by omega) kk
theorem x_callI0 {N : xM} {np idx d2 b : Nat} {As st0 : List Value} (hd : decode M.2.1 pc = .ok (.invokespecial idx, 3)) (hp : pc + 3 = pc2) (hlk : xMl M.1.cls idx N) (hN : xOkI N np) (hdd : d2 + 1 ≤ d) (hA : As.length = np) (hst : st0 = As.reverse ++ .ref b :: st) (hw : (st.map fun v => v.category).sum ≤ 8) (kk : xCt G l N d2 (.ref b :: As) h 0 0 (fun r h2 => xWP G l M d Z k n pc2 L (xpush r st) h2)) : xWP G l M d Z k n pc L st0 h := x_callI hd hp hlk hN hdd hA hst hw (by omega) (by omega) kk
/-- Object's constructor -/
theorem x_objInit {idx a : Nat} (hd : decode M.2.1 pc = .ok (.invokespecial idx, 3)) (hp : pc + 3 = pc2) (h1 : Cond.methodLink M.1.cls idx objectInit ∈ xTT) (h2 : Cond.instanceMethod objectInit ∈ xTT) (h3 : Cond.code objectInit ⟨#[0xb1]⟩ 1 none ∈ xTT) (hdd : 1 ≤ d) (hw : (st.map fun v => v.category).sum ≤ 8) (kk : xWP G l M d Z k n pc2 L st h) : xWP G l M d Z k n pc L (.ref a :: st) h := by
  intro p e R s m args below meth c H locs cells slots mc ms ls hO hR hS hk hn hl
  subst hp
  have hts := hO.2.2.2.2.2.2.2.1
  obtain ⟨hfr, hlo, hrc, hrs, hz⟩ := hO.2.2.2.2.2.2.2.2.2
  refine W.objInit hO.1 hO.2.1 hO.2.2.2.2.2.2.1 (hts _ h1) (hts _ h2) (hts _ h3) rfl (by rw [hO.2.2.1]; exact hl.1) rfl hd (by omega) ?_ (kk p e R s m args below meth c H locs cells slots mc ms ls hO hR hS hk hn hl)
  have hlr : 2 * (F0 m pc ls (.ref (xad G a) :: st.map (xtv G))).monitorRoom + ((st.map (xtv G)).map fun v => v.category).sum ≤ 8 := lv_room (by rw [xsum_cat]; exact hw)
  have e9 : (List.map (xtv G) (Value.ref a :: st)) = .ref (xad G a) :: st.map (xtv G) := rfl
  rw [e9]
  omega
theorem x_new {idx ci : Nat} {q : vw_C} (hd : decode M.2.1 pc = .ok (.new idx, 3)) (hp : pc + 3 = pc2) (hq : xcl[ci]? = some q) (h1 : Cond.classLink M.1.cls idx q.1 ∈ xTT) (h2 : Cond.instantiable q.1 q.2.2 ∈ xTT) (h3 : Cond.initialized q.1 ∈ xTT) (hm : h.2 < 1000000) (kk : xWP G l M d Z k n pc2 L (.ref h.2 :: st) (hn h (100 + ci, 0, fun j => defaultValue (xtys ci j)))) : xWP G l M d Z (1 + k) (q.2.2 + n) pc L st h := by
  intro p e R s m args below meth c H locs cells slots mc ms ls hO hR hS hk hn hl
  subst hp
  have hts := hO.2.2.2.2.2.2.2.1
  have hSE := hO.2.2.2.2.2.2.2.2.1
  obtain ⟨hfr, hlo, hrc, hrs, hz⟩ := hO.2.2.2.2.2.2.2.2.2
  have hKn := hSE.1 ci q hq
  obtain ⟨hSl, hfc, kC, hkC, hkind⟩ := id hKn
  refine W.newcK hO.1 hO.2.1 hO.2.2.2.2.2.2.1 (hts _ h1) (hts _ h2) (hts _ h3) rfl hd (by omega) (by omega) hfc rfl (fun H' kC' hkC' e1 e2 e3 => ?_)
  have hob := u_born (o := H.size) (H := H') (xtys ci) hts (xcl_ws ci q hq) hKn hkC' e1 (xcl_ty ci q hq)
  have hR' : xR G (_root_.Jvm.Pilot.@@N@@.hn h (100 + ci, 0, fun j => defaultValue (xtys ci j))) H' := by
    refine hR.push hm ?_ e2 e3
    unfold xAt
    rw [if_neg (show ¬ 100 + ci < 100 by omega)]
    have e9 : ((100 + ci, 0, fun j => defaultValue (xtys ci j)) : xC).1 - 100 = ci := by show 100 + ci - 100 = ci; omega
    rw [e9]
    refine ⟨q, hq, ?_⟩
    rw [← hR.1]
    refine hob.to (fun j _ => ?_)
    show defaultValue (xtys ci j) = xtv G (defaultValue (xtys ci j))
    cases xtys ci j <;> rfl
  have ea : Value.ref H.size :: List.map (xtv G) st = List.map (xtv G) (.ref h.2 :: st) := by
    show _ = Value.ref (xad G h.2) :: _
    rw [show xad G h.2 = H.size by unfold xad; rw [if_pos hm, hR.1]]
  show W p l e R s m args below meth c H' locs (cells + 1) (slots + q.2.2) (Z below args s mc ms) (F0 m (pc + 3) ls (Value.ref H.size :: List.map (xtv G) st))
  rw [ea]
  exact kk p e R s m args below meth c H' locs (cells + 1) (slots + q.2.2) mc ms ls hO hR' (hS.push e2 e3) (by omega) (by omega) hl
def xat (t : Nat) : ArrayType := match t with
  | 0 => .int
  | 1 => .long
  | 2 => .boolean
  | _ => .byte
theorem x_newarr {t N : Nat} {i : Int32} (hd : decode M.2.1 pc = .ok (.newarray (xat t), 2)) (hp : pc + 2 = pc2) (ht : t < 4) (h1 : Cond.arrayClass (xty t) ∈ xTT) (hi : i = nI N) (hN : N ≤ 1000000) (hm : h.2 < 1000000) (kk : xWP G l M d Z k n pc2 L (.ref h.2 :: st) (hn h (t, N, fun _ => defaultValue (xty t)))) : xWP G l M d Z (1 + k) (N + n) pc L (.int i :: st) h := by
  intro p e R s m args below meth c H locs cells slots mc ms ls hO hR hS hk hn hl
  subst hp
  have hts := hO.2.2.2.2.2.2.2.1
  have hSE := hO.2.2.2.2.2.2.2.2.1
  obtain ⟨hfr, hlo, hrc, hrs, hz⟩ := hO.2.2.2.2.2.2.2.2.2
  have ety : newarray.typeOf (xat t) = xty t := by
    match t, ht with
    | 0, _ => rfl
    | 1, _ => rfl
    | 2, _ => rfl
    | 3, _ => rfl
  have hc8 : componentBytes (xty t) ≤ 8 := by
    match t, ht with
    | 0, _ => decide
    | 1, _ => decide
    | 2, _ => decide
    | 3, _ => decide
  refine va_newaK hO.1 hO.2.1 (by rw [ety]; exact hts _ h1) rfl hd (n := i) (N := N) (rest := st.map (xtv G)) rfl (by rw [hi]; exact nI_pos (by omega)) (by rw [hi]; exact nI_clamp (by omega)) (by rw [ety]; exact Nat.le_trans (Nat.mul_le_mul hN hc8) (by decide)) (by omega) (by omega) rfl (fun H' cA e1 e2 e3 e4 e5 => ?_)
  rw [ety] at e1 e5
  have hcA : cA = G.2.2.1 t := Option.some.inj (e5.symm.trans (hSE.2.1 t (by omega)).2)
  subst hcA
  have hR' : xR G (_root_.Jvm.Pilot.@@N@@.hn h (t, N, fun _ => defaultValue (xty t))) H' := by
    refine hR.push hm (xAt_arr (by omega) ?_ (by rw [← hR.1]; exact e1)) e2 e3
    funext j
    show xtv G (defaultValue (xty t)) = defaultValue (xty t)
    match t, ht with
    | 0, _ => rfl
    | 1, _ => rfl
    | 2, _ => rfl
    | 3, _ => rfl
  have ea : Value.ref H.size :: List.map (xtv G) st = List.map (xtv G) (.ref h.2 :: st) := by
    show _ = Value.ref (xad G h.2) :: _
    rw [show xad G h.2 = H.size by unfold xad; rw [if_pos hm, hR.1]]
  show W p l e R s m args below meth c H' locs (cells + 1) (slots + N) (Z below args s mc ms) (F0 m (pc + 2) ls (Value.ref H.size :: List.map (xtv G) st))
  rw [ea]
  exact kk p e R s m args below meth c H' locs (cells + 1) (slots + N) mc ms ls hO hR' (hS.push e2 e3) (by omega) (by omega) hl
end XCR
