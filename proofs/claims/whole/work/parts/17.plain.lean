/-- a contract of a method of a class that has natives, itself none -/
theorem xCt_ofF {G : xG} {l : Launch} {N : xM} {d : Nat} {as : List Value} {h : xH} {mc ms : Nat} {Q : Option Value → xH → Prop} (hpl : plainFor N.1 = true) (hlen : (lg_sl (as.map (xtv G))).length ≤ N.2.2.1) (w : xWP G l N d (zM G Q) mc ms 0 (xls (lv_args 0 as)) [] h) : xCt G l N d as h mc ms Q := by
  unfold xCt Met
  refine MetFree.of_bodySF (code := N.2.1) (maxLocals := N.2.2.1) (ret := N.2.2.2) hpl ?_ ?_
  · intro args s m hq hn
    obtain ⟨meth, c, h1, h2, h3, h4, h5, h6, -, -⟩ := Cond.code_spec hn (atoms_spec (ws := xws N) hq _ List.mem_cons_self)
    exact ⟨meth, c, h1, h2, h3, h4, h5, h6⟩
  · intro p e s m args' below meth c s₁ B hml hv _
    have hh0 : s₁.heap = s.heap := by rw [B.state]; rfl
    obtain ⟨rfl, hSE, hR⟩ := hv
    have hts := atoms_spec (ws := xws N) B.pre
    have hl := lv_entry (as.map (xtv G)) hlen
    have body : W p l e (headSpec (xws N) { frames := d, cells := mc, slots := ms, locals := 100 * d }).room s m (as.map (xtv G)).toArray below meth c s.heap [] 0 0 (MQ below (xPost G Q) (as.map (xtv G)).toArray s mc ms (xA G)) (entryFrame m (as.map (xtv G)).toArray N.2.2.1) := by
      rw [lg_entry_eq]
      refine w p e _ s m _ below meth c s.heap [] 0 0 mc ms _ ⟨B.exec, B.bytes, hml, B.returns, B.notSynchronized, (name_of_methodNamed B.named B.method).1, findClass_of_methodNamed B.named, fun w hw => hts w (List.mem_cons_of_mem _ hw), hSE, Nat.le_refl _, Nat.le_refl _, rfl, rfl, by rw [hR.1]; exact Nat.le_add_right _ _⟩ hR va_S.rf (by omega) (by omega) ⟨hl.1, hl.2.1, fun i v hi => ?_⟩
      have hm := xls_mem hi
      refine hl.2.2 (i, xtv G v) ?_
      rw [xargs_map]
      exact List.mem_map.mpr ⟨(i, v), hm, rfl⟩
    obtain ⟨t, a1, o, b1, b2, b3⟩ := body s₁ hh0 (Stand.of_body B)
    exact ⟨t, o, a1, b1, b2, ⟨b3.1, b3.2⟩⟩
theorem pf_floorDiv : plainFor yJ9_floorDiv_f86c9 = true := by decide +kernel
theorem pf_maxI : plainFor yJ9_max_7cf53 = true := by decide +kernel
theorem pf_maxL : plainFor yJ9_max_f86c9 = true := by decide +kernel
theorem pf_minI : plainFor yJ9_min_7cf53 = true := by decide +kernel
theorem pf_minL : plainFor yJ9_min_f86c9 = true := by decide +kernel
theorem pf_abs : plainFor yJ9_abs_0f7a4 = true := by decide +kernel

