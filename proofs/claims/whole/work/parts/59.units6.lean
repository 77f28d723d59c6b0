/-! EightParts$Units: multiplyNegative, when its row is made -/
section UNITS
variable {G : xG} {l : Launch} {d : Nat} {h : xH} {Q : Option Value → xH → Prop}
theorem c_mulNeg1 {r o i k : Nat} {pf : Int32} {rw0 : Nat → Nat} {g gl : Nat → Int32} (hd : 4 ≤ d) (hC : Cs h) (ho : hOrd h o) (hr : 134 ≤ r) (h4 : (h.1 31).2.2 4 = .ref r) (h5 : (h.1 31).2.2 5 = .int pf) (hrow : h.1 r = (0, 14400, xI g)) (h23 : h.1 23 = (4, 4, xP rw0)) (hlr : 134 ≤ rw0 1) (hne : rw0 1 ≠ r) (hlist : h.1 (rw0 1) = (0, 240, xI gl)) (hsz : iv h 28 1 = nI (zLst o 1).1) (hgl : ∀ j, j < (zLst o 1).1 → gl j = (zLst o 1).2 j) (hV : pf = nI o → ucV o g) (hi : i < 120) (hk : k < 120)
    (K : ∀ h2 g2, Cs h2 → xSm [11, 31, 32, 33, r] h h2 → (h2.1 31).2.2 5 = .int (nI o) → (∀ q, q ≠ 5 → (h2.1 31).2.2 q = (h.1 31).2.2 q) → h2.1 r = (0, 14400, xI g2) → ucV o g2 → Q (some (.int (zMN o i k))) h2) : xCt G l mX9_multiplyNegative d [.ref 31, .int (nI i), .int (nI k)] h 0 0 Q := by
  refine xCt_of (by decide) (Nat.le_of_ble_eq_true rfl) ?_
  refine x_aload_n (i := 0) dX9_multiplyNegative_0 rfl rfl rfl ?_
  refine x_callV0 (ci := 9) (b := 31) (As := []) (d2 := d - 1) dX9_multiplyNegative_1 rfl kX9_93 okX9_makeRoom (hC.o rfl) (fun q hq => by cases hq; rfl) (by omega) rfl rfl (Nat.le_of_ble_eq_true rfl) (c_room1 (by omega) hC ho hr h4 h5 hrow (fun e => ?_) (fun e h1 hC1 hS1 f5 fo e1 => ?_))
  · refine x_to (w_mulNeg (by omega) hC hr h4 hrow h23 hlr hne hlist hsz hgl (hV e) hi hk (fun h2 g2 k1 k2 k3 k4 => K h2 g2 k1 (k2.sub (by simp)) ?_ (fun q hq => ?_) k3 k4)) ⟨rfl, rfl, rfl, trivial⟩
    · rw [k2.2 31 (by simp; omega), h5, e]
    · rw [k2.2 31 (by simp; omega)]
  · refine x_to (w_mulNeg (by omega) hC1 hr ((fo 4 (by decide)).trans h4) e1 ((hS1.2 23 (by simp; omega)).trans h23) hlr hne ((hS1.2 (rw0 1) (by simp; omega)).trans hlist) (by rw [hS1.iv (by simp; omega)]; exact hsz) hgl (fun i k _ _ => Or.inl rfl) hi hk (fun h2 g2 k1 k2 k3 k4 => K h2 g2 k1 ((hS1.tr k2).sub (by simp)) ?_ (fun q hq => ?_) k3 k4)) ⟨rfl, rfl, rfl, trivial⟩
    · rw [k2.2 31 (by simp; omega)]
      exact f5
    · rw [k2.2 31 (by simp; omega)]
      exact fo q hq
end UNITS

