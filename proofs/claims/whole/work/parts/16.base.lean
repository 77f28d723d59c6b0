/-! loops, comparisons of small numbers, other contents of the same cells -/
theorem xloop {P : Nat → Prop} (N : Nat) (hs : ∀ i, i ≤ N → (i < N → P (i + 1)) → P i) : ∀ i, i ≤ N → P i := by
  have key : ∀ k i, i + k = N → P i := by
    intro k
    induction k with
    | zero =>
      intro i hi
      exact hs i (by omega) (fun h => by omega)
    | succ k ih =>
      intro i hi
      exact hs i (by omega) (fun _ => ih (i + 1) (by omega))
  intro i hi
  exact key (N - i) i (by omega)
section XB
variable {G : xG} {l : Launch} {M : xM} {d : Nat} {Z : List Frame → Array Value → State → Nat → Nat → State → Prop} {k n pc pc2 : Nat} {L : xL} {st : List Value} {h : xH}
theorem x_jc_ge {a b : Nat} {off : Int} {tgt : Nat} (hd : decode M.2.1 pc = .ok (.if_icmp .ge off, 3)) (ht : (pc : Int) + off = (tgt : Int)) (hp : pc + 3 = pc2) (ha : a < 2147483648) (hb : b < 2147483648) (kt : b ≤ a → xWP G l M d Z k n tgt L st h) (kf : a < b → xWP G l M d Z k n pc2 L st h) : xWP G l M d Z k n pc L (.int (nI b) :: .int (nI a) :: st) h := x_ic_ge hd ht hp (fun q => kt ((nI_leI hb ha).mp q)) (fun q => kf (Nat.lt_of_not_le (fun z => q ((nI_leI hb ha).mpr z))))
theorem x_jc_gt {a b : Nat} {off : Int} {tgt : Nat} (hd : decode M.2.1 pc = .ok (.if_icmp .gt off, 3)) (ht : (pc : Int) + off = (tgt : Int)) (hp : pc + 3 = pc2) (ha : a < 2147483648) (hb : b < 2147483648) (kt : b < a → xWP G l M d Z k n tgt L st h) (kf : a ≤ b → xWP G l M d Z k n pc2 L st h) : xWP G l M d Z k n pc L (.int (nI b) :: .int (nI a) :: st) h := x_ic_gt hd ht hp (fun q => kt ((nI_ltI hb ha).mp q)) (fun q => kf (Nat.le_of_not_lt (fun z => q ((nI_ltI hb ha).mpr z))))
theorem x_jc_le {a b : Nat} {off : Int} {tgt : Nat} (hd : decode M.2.1 pc = .ok (.if_icmp .le off, 3)) (ht : (pc : Int) + off = (tgt : Int)) (hp : pc + 3 = pc2) (ha : a < 2147483648) (hb : b < 2147483648) (kt : a ≤ b → xWP G l M d Z k n tgt L st h) (kf : b < a → xWP G l M d Z k n pc2 L st h) : xWP G l M d Z k n pc L (.int (nI b) :: .int (nI a) :: st) h := x_ic_le hd ht hp (fun q => kt ((nI_leI ha hb).mp q)) (fun q => kf (Nat.lt_of_not_le (fun z => q ((nI_leI ha hb).mpr z))))
theorem x_jc_lt {a b : Nat} {off : Int} {tgt : Nat} (hd : decode M.2.1 pc = .ok (.if_icmp .lt off, 3)) (ht : (pc : Int) + off = (tgt : Int)) (hp : pc + 3 = pc2) (ha : a < 2147483648) (hb : b < 2147483648) (kt : a < b → xWP G l M d Z k n tgt L st h) (kf : b ≤ a → xWP G l M d Z k n pc2 L st h) : xWP G l M d Z k n pc L (.int (nI b) :: .int (nI a) :: st) h := x_ic_lt hd ht hp (fun q => kt ((nI_ltI ha hb).mp q)) (fun q => kf (Nat.le_of_not_lt (fun z => q ((nI_ltI ha hb).mpr z))))
theorem x_jc_eq {a b : Nat} {off : Int} {tgt : Nat} (hd : decode M.2.1 pc = .ok (.if_icmp .eq off, 3)) (ht : (pc : Int) + off = (tgt : Int)) (hp : pc + 3 = pc2) (ha : a < 2147483648) (hb : b < 2147483648) (kt : a = b → xWP G l M d Z k n tgt L st h) (kf : ¬ a = b → xWP G l M d Z k n pc2 L st h) : xWP G l M d Z k n pc L (.int (nI b) :: .int (nI a) :: st) h := x_ic_eq hd ht hp (fun q => kt ((nI_eq ha hb).mp q)) (fun q => kf (fun z => q (by rw [z])))
theorem x_jc_ne {a b : Nat} {off : Int} {tgt : Nat} (hd : decode M.2.1 pc = .ok (.if_icmp .ne off, 3)) (ht : (pc : Int) + off = (tgt : Int)) (hp : pc + 3 = pc2) (ha : a < 2147483648) (hb : b < 2147483648) (kt : ¬ a = b → xWP G l M d Z k n tgt L st h) (kf : a = b → xWP G l M d Z k n pc2 L st h) : xWP G l M d Z k n pc L (.int (nI b) :: .int (nI a) :: st) h := x_ic_ne hd ht hp (fun q => kt (fun z => q (by rw [z]))) (fun q => kf ((nI_eq ha hb).mp q))
theorem x_to {r : List (Nat × Value)} (kk : xWP G l M d Z k n pc (xls r) st h) (ha : xall L r) : xWP G l M d Z k n pc L st h := x_ls r ha kk
/-- the same heap, otherwise written -/
def xeq (h h2 : xH) : Prop := h.2 = h2.2 ∧ ∀ a, (h.1 a).1 = (h2.1 a).1 ∧ (h.1 a).2.1 = (h2.1 a).2.1 ∧ ∀ j, ((h.1 a).1 < 100 → j < (h.1 a).2.1) → (h.1 a).2.2 j = (h2.1 a).2.2 j
theorem xeq_R {h h2 : xH} (he : xeq h h2) {H : Heap} (hR : xR G h H) : xR G h2 H := by
  obtain ⟨e1, e2⟩ := he
  refine ⟨by rw [← e1]; exact hR.1, fun a ha => ?_, hR.2.2.1, fun a ha => by rw [← (e2 a).1]; exact hR.2.2.2.1 a (by rw [e1]; exact ha), by rw [← e1]; exact hR.2.2.2.2⟩
  have h1 := hR.2.1 a (by rw [e1]; exact ha)
  obtain ⟨f1, f2, f3⟩ := e2 a
  unfold xAt at h1 ⊢
  by_cases c : (h.1 a).1 < 100
  · rw [if_pos c] at h1
    rw [if_pos (by rw [← f1]; exact c), h1, ← f1, ← f2]
    unfold arrV
    congr 2
    congr 1
    funext j
    exact congrArg (xtv G) (f3 j.val (fun _ => j.isLt))
  · rw [if_neg c] at h1
    rw [if_neg (by rw [← f1]; exact c), ← f1]
    obtain ⟨r, r1, r2⟩ := h1
    exact ⟨r, r1, r2.to (fun j _ => by rw [f3 j (fun q => absurd q c)])⟩
theorem x_eqv {h2 : xH} (he : xeq h h2) (kk : xWP G l M d Z k n pc L st h2) : xWP G l M d Z k n pc L st h := by
  intro p e R s m args below meth c H locs cells slots mc ms ls hO hR hS hk hn hl
  exact kk p e R s m args below meth c H locs cells slots mc ms ls hO (xeq_R he hR) hS hk hn hl
theorem xeq_top {a t N : Nat} {F F2 : Nat → Value} (hF : ∀ j, j < N → F j = F2 j) (ht : t < 100) : xeq (hs h a (t, N, F)) (hs h a (t, N, F2)) := by
  refine ⟨rfl, fun b => ?_⟩
  by_cases e : b = a
  · subst e
    rw [hs_eq, hs_eq]
    exact ⟨rfl, rfl, fun j hj => hF j (hj ht)⟩
  · rw [hs_n e, hs_n e]
    exact ⟨rfl, rfl, fun _ _ => rfl⟩
theorem x_topI {a t N : Nat} {f f2 : Nat → Int32} (hf : ∀ j, j < N → f j = f2 j) (ht : t < 100) (kk : xWP G l M d Z k n pc L st (hs h a (t, N, xI f2))) : xWP G l M d Z k n pc L st (hs h a (t, N, xI f)) := x_eqv (xeq_top (fun j hj => by show Value.int _ = Value.int _; rw [hf j hj]) ht) kk
theorem x_topJ {a t N : Nat} {f f2 : Nat → Int64} (hf : ∀ j, j < N → f j = f2 j) (ht : t < 100) (kk : xWP G l M d Z k n pc L st (hs h a (t, N, xJ f2))) : xWP G l M d Z k n pc L st (hs h a (t, N, xJ f)) := x_eqv (xeq_top (fun j hj => by show Value.long _ = Value.long _; rw [hf j hj]) ht) kk
/-- a store to the cell that was changed last -/
theorem x_iastT {a N j : Nat} {i x : Int32} {g : Nat → Int32} (hd : decode M.2.1 pc = .ok (.iastore, 1)) (hp : pc + 1 = pc2) (hi : i = nI j) (hj : j < N) (hN : N < 2147483648) (kk : xWP G l M d Z k n pc2 L st (hs h a (0, N, xI (upd g j x)))) : xWP G l M d Z k n pc L (.int x :: .int i :: .ref a :: st) (hs h a (0, N, xI g)) := x_iast hd hp hs_eq hi hj hN (by rw [hs_hs]; exact kk)
theorem x_lastT {a N j : Nat} {i : Int32} {x : Int64} {g : Nat → Int64} (hd : decode M.2.1 pc = .ok (.lastore, 1)) (hp : pc + 1 = pc2) (hi : i = nI j) (hj : j < N) (hN : N < 2147483648) (kk : xWP G l M d Z k n pc2 L st (hs h a (1, N, xJ (vp_updL g j x)))) : xWP G l M d Z k n pc L (.long x :: .int i :: .ref a :: st) (hs h a (1, N, xJ g)) := x_last hd hp hs_eq hi hj hN (by rw [hs_hs]; exact kk)
end XB

