/-! THE LAW: what it comes to; rules of its frame -/
def zLw (G : xG) : List Frame → Array Value → State → Nat → Nat → State → Prop := fun below _ s mc ms t => s.heap.size = G.1 → ∃ o, t.status = .running ∧ Ended t below o ∧ (o = .returned (some (.int 1)) ∧ Framed s o t [] mc ms)
section XLW
variable {G : xG} {l : Launch} {d : Nat} {Z : List Frame → Array Value → State → Nat → Nat → State → Prop} {k n pc pc2 : Nat} {L : xL} {st : List Value} {h : xH}
theorem xw_end : xWP G l mL_law d (zLw G) k n 2348 L [.int 1] h := by
  intro p e R s m args below meth c H locs cells slots mc ms ls hO hR hS hk hn hl
  have hx := hO.1
  have hb : c.code = code := hO.2.1
  have hr : meth.sig.returnType = ret := hO.2.2.2.1
  have hlocks : meth.locks = false := hO.2.2.2.2.1
  show W p l e R s m args below meth c H locs cells slots (zLw G below args s mc ms) (F0 m 2348 ls [.int 1])
  by_cases hz : s.heap.size = G.1
  · refine va_forget (fun q hq => by rw [hz]; exact hS.2.2 q hq) ?_
    refine W.widen (k := mc) (n := ms) (by omega) (by omega) ?_
    intro T hT X
    obtain ⟨fs, hret, hrun, hended, hW, hframe⟩ := X.leave (v := some (.int 1)) (hlocks := hlocks) (fun h => by rw [hr] at h; cases h)
    have hmeth' : T.vm.method? m = some meth := X.method'
    refine ⟨T.setFrames fs, ?_, fun _ => ⟨.returned (some (.int 1)), hrun, hended, rfl, ⟨_, rfl⟩, hW, hframe⟩⟩
    jvm_step X.here [X.here.top, hx, hb, dL_law_2348, hmeth', hr, ret, narrow_b1]
    (try refine ⟨rfl, ?_⟩); (try refine ⟨rfl, ?_⟩)
    first | (intro acts; rw [hret _ acts rfl rfl rfl]) | rw [hret _ _ rfl rfl rfl]
    exact Steps.refl _
  · intro T hT X
    exact ⟨_, Steps.refl _, fun z => absurd z hz⟩
theorem xw_mono {M : xM} {k2 n2 : Nat} (h1 : k2 ≤ k) (h2 : n2 ≤ n) (kk : xWP G l M d Z k2 n2 pc L st h) : xWP G l M d Z k n pc L st h := by
  intro p e R s m args below meth c H locs cells slots mc ms ls hO hR hS hk hn hl
  exact kk p e R s m args below meth c H locs cells slots mc ms ls hO hR hS (by omega) (by omega) hl
/-- the law's locals: the script, the class, the model, where it reads -/
abbrev xL0 (i : Nat) : xL := xls [(0, .ref (1000000 + 8)), (1, .ref 0), (2, .ref 110), (3, .int (nI i))]
def scA (G : xG) (j : Nat) : Int32 := nI (G.2.2.2.2.2 (10 + j))
theorem scH : ∀ s, xSE G s → va_T .int (G.2.2.2.2.2 8) (G.2.2.2.2.2 9) (fun i => .int (nI (G.2.2.2.2.2 (10 + i)))) (xA G) s G.2.1 := fun s hs => hs.2.2.2.2.2.2.2.2.2.2.2.1
theorem w_arg {i j : Nat} {c : Int} (h0 : decode code pc = .ok (.aload_n 0, 1)) (h1 : decode code (pc + 1) = .ok (.iload_n 3, 1)) (h2 : decode code (pc + 2) = .ok (.iconst c, 1)) (h3 : decode code (pc + 3) = .ok (.iadd, 1)) (h4 : decode code (pc + 4) = .ok (.iaload, 1)) (hc : Int32.ofInt c = nI j) (hj : i + j < G.2.2.2.2.2 9) (hL : G.2.2.2.2.2 9 ≤ 3072) (kk : xWP G l mL_law d Z k n (pc + 5) (xL0 i) (.int (scA G (i + j)) :: st) h) : xWP G l mL_law d Z k n pc (xL0 i) st h := by
  refine x_aload_n (i := 0) h0 rfl rfl rfl ?_
  refine x_iload_n (i := 3) h1 rfl rfl rfl ?_
  refine x_iconst h2 rfl hc ?_
  refine x_iadd h3 rfl ?_
  refine x_siald (j := 8) (i2 := i + j) h4 rfl scH (nI_add i j) hj (by omega) rfl ?_
  exact kk
theorem inc6 (i : Nat) : nI i + Int32.ofInt 6 = nI (i + 6) := by
  rw [show Int32.ofInt 6 = nI 6 by decide]
  exact nI_add i 6
theorem lw_gt {N i : Nat} (hN : N ≤ 3072) (hi : i ≤ 4000) : nI N - nI 6 < nI i ↔ N < i + 6 := by
  rw [Int32.lt_iff_toInt_lt, Int32.toInt_sub, nI_toInt (by omega), nI_toInt (by omega), nI_toInt (by omega), Int.bmod_def]
  omega
/-- the law's choice -/
theorem and63 (x : Int32) : ∃ j, j < 64 ∧ x &&& nI 63 = nI j := by
  refine ⟨(x &&& nI 63).toBitVec.toNat, ?_, ?_⟩
  · have e : (x &&& nI 63).toBitVec = x.toBitVec &&& 63#32 := rfl
    rw [e, BitVec.toNat_and]
    exact Nat.lt_of_le_of_lt Nat.and_le_right (by decide)
  · apply Int32.toBitVec_inj.mp
    show _ = (Int32.ofNat _).toBitVec
    rw [Int32.toBitVec_ofNat', BitVec.ofNat_toNat, BitVec.setWidth_eq]
/-- how a step goes on -/
def wK (G : xG) (l : Launch) (d : Nat) (Z : List Frame → Array Value → State → Nat → Nat → State → Prop) (k n i : Nat) (h : xH) : Prop := ∀ b2 S2 h2, RC b2 h2 S2 → RM h2 S2 → h2.2 ≤ h.2 + 200 → xWP G l mL_law d Z (k + kB b2) (n + nB b2) 2341 (xL0 i) [] h2
theorem wk_le {h2 h3 : xH} (hF : mF h h2) (hG : cF h2 h3) : h3.2 ≤ h.2 + 200 := by rw [hG.2.1]; exact hF.2.2
theorem kB_or (b x : Bool) : kB (b || x) ≤ kB b := by cases b <;> cases x <;> decide
theorem nB_or (b x : Bool) : nB (b || x) ≤ nB b := by cases b <;> cases x <;> decide
theorem wk_k (b x : Bool) : 1 + kD b (b || x) + (k + kB (b || x)) ≤ 200 + k + kB b := by
  have := kB_or b x
  unfold kD
  omega
theorem wk_n (b x : Bool) : 240 + nD b (b || x) + (n + nB (b || x)) ≤ 7000 + n + nB b := by
  have := nB_or b x
  unfold nD
  omega
theorem wk_z {b : Bool} {S : St} (hR : RC b h S) : 16 ≤ (zLst S.2.1 1).1 := by
  rw [(zLst_n hR.o.1 (by decide)).1]
  exact ln_16 _ hR.o.1
theorem wk_b {b : Bool} {S : St} (hR : RC b h S) : ∀ j, j < S.2.2.1.1 → ¬ S.2.2.1.2 j = -1 := by
  intro j hj e
  have h1 := hR.2.1.2.2.1.2.2 j hj
  rw [e] at h1
  have h2 := congrArg (fun z : Int32 => z.toBitVec.getLsbD 31) h1
  have h3 : (iv h 57 j &&& nI 255).toBitVec = (iv h 57 j).toBitVec &&& 255#32 := rfl
  simp only [h3, BitVec.getLsbD_and] at h2
  rw [show (255#32).getLsbD 31 = false by decide, Bool.and_false] at h2
  exact absurd h2 (by decide)
end XLW

