/-! contracts hold with more room, and say less -/
theorem roomUp {s : State} {pl : Platform} {r r' : Room} (hf : r.frames ≤ r'.frames) (hl : r.locals ≤ r'.locals) (hc : r.cells ≤ r'.cells) (hs : r.slots ≤ r'.slots) (h : s.hasRoom pl r' = true) : s.hasRoom pl r = true := by
  simp only [State.hasRoom, Bool.and_eq_true, decide_eq_true_eq] at h ⊢
  obtain ⟨⟨⟨⟨y, a, b, c, d, e⟩, f⟩, g⟩, i⟩ := h
  exact ⟨⟨⟨⟨by omega, by omega, by omega, by omega, by omega, e⟩, by omega⟩, by omega⟩, i⟩
theorem xCt_wk {G : xG} {l : Launch} {M : xM} {d d2 mc ms mc2 ms2 : Nat} {as : List Value} {h : xH} {Q : Option Value → xH → Prop} (hd : d ≤ d2) (h1 : mc ≤ mc2) (h2 : ms ≤ ms2) (hx : xCt G l M d as h mc ms Q) : xCt G l M d2 as h mc2 ms2 Q := by
  intro p e ha hcs hk s m args below hfr happ hP hK
  obtain ⟨a1, a2, a3, a4, a5, a6, a7, a8⟩ := (Spec.appliesLoose_iff hfr).mp happ
  obtain ⟨n, o, b1, b2, b3, b4, L, b5, b6⟩ := hx p e ha hcs hk s m args below hfr ((Spec.appliesLoose_iff hfr).mpr ⟨a1, a2, a3, a4, a5, a6, roomUp (r := { frames := d, cells := mc, slots := ms, locals := 100 * d }) (r' := { frames := d2, cells := mc2, slots := ms2, locals := 100 * d2 }) hd (by show 100 * d ≤ 100 * d2; omega) h1 h2 a7, a8⟩) hP hK
  exact ⟨n, o, b1, b2, b3, b4, L, ⟨b5.1, b5.2.1, b5.2.2.mono h1 h2⟩, b6⟩
theorem xCt_mono {G : xG} {l : Launch} {M : xM} {d mc ms : Nat} {as : List Value} {h : xH} {Q Q2 : Option Value → xH → Prop} (hq : ∀ r h2, Q r h2 → Q2 r h2) (hx : xCt G l M d as h mc ms Q) : xCt G l M d as h mc ms Q2 := by
  intro p e ha hcs hk s m args below hfr happ hP hK
  obtain ⟨n, o, b1, b2, b3, ⟨⟨r, h', c1, c2, c3⟩, c4⟩, b5⟩ := hx p e ha hcs hk s m args below hfr happ hP hK
  exact ⟨n, o, b1, b2, b3, ⟨⟨r, h', c1, hq r h' c2, c3⟩, c4⟩, b5⟩

