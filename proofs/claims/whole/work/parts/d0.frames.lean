/-! THE LAW: what each side keeps of the other's; heaps as lists -/
theorem RM.cp {h h2 : xH} {S : St} (hR : RM h S) (hC : Cs h2) (hF : mF h h2) : RM h2 S := by
  have e : ∀ a, 110 ≤ a → a ≤ 133 → h2.1 a = h.1 a := hF.1
  have e0 := e 110 (by decide) (by decide)
  have pe : ∀ y, pl h2 y = pl h y := fun y => by
    unfold pl
    funext p
    have : iv h2 112 = iv h 112 := by unfold iv; rw [e 112 (by decide) (by decide)]
    rw [this]
  refine hR.of hC (by unfold mRul; rw [e0]; exact hR.2.1.2) (fun j hj => (pe j).trans (hR.2.2.1 j hj)) ⟨fun y hy => by rw [pe]; exact hR.2.2.2.1.1 y hy, (pe 8).trans hR.2.2.2.1.2⟩ (by rw [e0]) (by rw [e0]) (by rw [e0]) (fun a ha => e a (by omega) (by omega))
theorem RC.md {b : Bool} {h h2 : xH} {S : St} (hR : RC b h S) (hF : cF h h2) : RC b h2 S := by
  obtain ⟨r1, r2, r3⟩ := hR
  have k : ∀ a, a < 110 → h2.1 a = h.1 a := fun a ha => hF.2.2 a (by omega)
  exact ⟨hF.1, r2.keep (k 14 (by decide)) (fun j hj => k _ (by omega)) (k 56 (by decide)) (k 57 (by decide)) (k 101 (by decide)) (k 102 (by decide)) (k 103 (by decide)), r3.keep r1.1 (by rw [hF.2.1]; exact Nat.le_refl _) (fun a _ ha => hF.2.2 a (fun z => ha (by unfold riN; omega)))⟩
theorem cF.m {h h2 h3 : xH} (hF : mF h h2) (hG : cF h2 h3) : h3.2 = h2.2 ∧ h2.2 ≤ h.2 + 200 := ⟨hG.2.1, hF.2.2⟩
/-- a heap as a list of cells -/
def lhD : xC := (99, 0, fun _ => .null)
def lh (cs : List xC) : xH := (fun q => cs.getD q lhD, cs.length)
theorem lh_sz (cs t : List xC) : (lh (cs ++ t)).2 = cs.length + t.length := List.length_append
theorem lh_nw (cs : List xC) (c : xC) : hn (lh cs) c = lh (cs ++ [c]) := by
  refine Prod.ext (funext fun q => ?_) ?_
  · show (if q = cs.length then c else cs.getD q lhD) = (cs ++ [c]).getD q lhD
    rw [List.getD_eq_getElem?_getD, List.getD_eq_getElem?_getD]
    by_cases e : q = cs.length
    · rw [if_pos e, e, List.getElem?_append_right (Nat.le_refl _), Nat.sub_self]
      rfl
    · rw [if_neg e]
      rcases Nat.lt_or_ge q cs.length with z | z
      · rw [List.getElem?_append_left z]
      · rw [List.getElem?_eq_none z, List.getElem?_eq_none (by rw [List.length_append]; show cs.length + 1 ≤ q; omega)]
  · show cs.length + 1 = (cs ++ [c]).length
    rw [List.length_append]
    rfl
theorem lh_at (cs t : List xC) (i : Nat) : (lh (cs ++ t)).1 (cs.length + i) = t.getD i lhD := by
  show (cs ++ t).getD (cs.length + i) lhD = _
  rw [List.getD_eq_getElem?_getD, List.getD_eq_getElem?_getD, List.getElem?_append_right (by omega), Nat.add_sub_cancel_left]
theorem lh_at0 (cs t : List xC) : (lh (cs ++ t)).1 cs.length = t.getD 0 lhD := lh_at cs t 0
theorem lh_st (cs t : List xC) (i : Nat) (c : xC) (hi : i < t.length) : hs (lh (cs ++ t)) (cs.length + i) c = lh (cs ++ t.set i c) := by
  refine Prod.ext (funext fun q => ?_) ?_
  · show (if q = cs.length + i then c else (cs ++ t).getD q lhD) = (cs ++ t.set i c).getD q lhD
    rw [List.getD_eq_getElem?_getD, List.getD_eq_getElem?_getD]
    rcases Nat.lt_or_ge q cs.length with z | z
    · rw [if_neg (by omega), List.getElem?_append_left z, List.getElem?_append_left z]
    · rw [List.getElem?_append_right z, List.getElem?_append_right z, List.getElem?_set]
      by_cases e : q = cs.length + i
      · rw [if_pos e, if_pos (by omega), if_pos (by omega)]
        rfl
      · rw [if_neg e, if_neg (by omega)]
  · show (cs ++ t).length = (cs ++ t.set i c).length
    rw [List.length_append, List.length_append, List.length_set]
theorem lh_st0 (cs t : List xC) (c : xC) (hi : 0 < t.length) : hs (lh (cs ++ t)) cs.length c = lh (cs ++ t.set 0 c) := lh_st cs t 0 c hi
/-- rows of rows -/
theorem lh_mna (cs : List xC) (t N K : Nat) : ((fun a => if a = (lh cs).2 then (4 + t, N, xP (fun q => (lh cs).2 + 1 + q)) else if (lh cs).2 < a ∧ a < (lh cs).2 + 1 + N then (t, K, fun _ => defaultValue (xty t)) else (lh cs).1 a, (lh cs).2 + 1 + N) : xH) = lh (cs ++ (4 + t, N, xP (fun q => cs.length + 1 + q)) :: List.replicate N (t, K, fun _ => defaultValue (xty t))) := by
  refine Prod.ext (funext fun q => ?_) ?_
  · show (if q = cs.length then _ else if cs.length < q ∧ q < cs.length + 1 + N then _ else cs.getD q lhD) = (cs ++ _).getD q lhD
    rw [List.getD_eq_getElem?_getD, List.getD_eq_getElem?_getD]
    rcases Nat.lt_or_ge q cs.length with z | z
    · rw [if_neg (by omega), if_neg (by omega), List.getElem?_append_left z]
    · rw [List.getElem?_append_right z]
      by_cases e : q = cs.length
      · rw [if_pos e, e, Nat.sub_self]
        rfl
      · obtain ⟨i, hi⟩ : ∃ i, q - cs.length = i + 1 := ⟨q - cs.length - 1, by omega⟩
        rw [if_neg e, hi, List.getElem?_cons_succ, List.getElem?_replicate]
        by_cases e2 : i < N
        · rw [if_pos (by omega), if_pos e2]
          rfl
        · rw [if_neg (by omega), if_neg e2, List.getElem?_eq_none z]
  · show cs.length + 1 + N = (cs ++ _).length
    rw [List.length_append, List.length_cons, List.length_replicate]
    omega

