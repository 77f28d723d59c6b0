/-! EightPartsModel: the lists, small methods -/
theorem vv_pI : ∀ i, i < 7 → pI (vv i) = (i % 2 == 0) := by decide +kernel
theorem od8 {f : Nat → Int32} {ds : List Nat} (hl : ds.length = 8) (h7 : ∀ i ∈ ds, i < 7) (e : ∀ j, j < 8 → f j = vv (ds.getD j 0)) : oddN f = odL ds := by
  have hb : ∀ j, j < 8 → ds.getD j 0 < 7 := by
    intro j hj
    rw [List.getD_eq_getElem?_getD, List.getElem?_eq_getElem (by omega)]
    exact h7 _ (List.getElem_mem _)
  have e1 : oddN f = zSet (fun j => ds.getD j 0 % 2 == 0) 8 := zSet_cong (fun j hj => by rw [e j hj, vv_pI _ (hb j hj)])
  rw [e1]
  match ds, hl with
  | [a, b, c, d, e, f, g, h], _ =>
    show 0 + (if (a % 2 == 0) = true then 2 ^ 0 else 0) + (if (b % 2 == 0) = true then 2 ^ 1 else 0) + (if (c % 2 == 0) = true then 2 ^ 2 else 0) + (if (d % 2 == 0) = true then 2 ^ 3 else 0) + (if (e % 2 == 0) = true then 2 ^ 4 else 0) + (if (f % 2 == 0) = true then 2 ^ 5 else 0) + (if (g % 2 == 0) = true then 2 ^ 6 else 0) + (if (h % 2 == 0) = true then 2 ^ 7 else 0) = _
    simp only [odL, beq_iff_eq]
    have sp : ∀ (p : Prop) [Decidable p] (n : Nat), (if p then n else 0) = n * (if p then 1 else 0) := fun p _ n => by split <;> omega
    rw [sp (a % 2 = 0) (2 ^ 0), sp (b % 2 = 0) (2 ^ 1), sp (c % 2 = 0) (2 ^ 2), sp (d % 2 = 0) (2 ^ 3), sp (e % 2 = 0) (2 ^ 4), sp (f % 2 = 0) (2 ^ 5), sp (g % 2 = 0) (2 ^ 6), sp (h % 2 = 0) (2 ^ 7)]
    omega
section MOD
variable {G : xG} {l : Launch} {d : Nat} {h : xH} {Q : Option Value → xH → Prop} {S : St}
theorem m_oddIn {a : Nat} {f : Nat → Int32} (ha : h.1 a = (0, 8, xI f)) (K : Q (some (.int (nI (oddN f)))) h) : xCt G l mX12_oddIn d [.ref a] h 0 0 Q := by
  refine xCt_of (by decide) (Nat.le_of_ble_eq_true rfl) ?_
  refine x_iconst dX12_oddIn_0 rfl iC_0 ?_
  refine x_istore_n (i := 1) dX12_oddIn_1 rfl rfl (by decide) ?_
  refine x_iconst dX12_oddIn_2 rfl iC_0 ?_
  refine x_istore_n (i := 2) dX12_oddIn_3 rfl rfl (by decide) ?_
  have key := xloop (P := fun i => xWP G l mX12_oddIn d (zM G Q) 0 0 4 (xls [(0, .ref a), (1, .int (nI (zSet (fun j => pI (f j)) i))), (2, .int (nI i))]) [] h) 8 (by
    intro i hi ih
    refine x_iload_n (i := 2) dX12_oddIn_4 rfl rfl rfl ?_
    refine x_bipush dX12_oddIn_5 rfl bC_8 ?_
    refine x_jc_ge (tgt := 30) dX12_oddIn_7 rfl rfl (by omega) (by omega) (fun c7 => ?_) (fun c7 => ?_)
    · obtain rfl : i = 8 := by omega
      refine x_iload_n (i := 1) dX12_oddIn_30 rfl rfl rfl ?_
      refine x_ireturn dX12_oddIn_31 rfl rfl ?_
      exact K
    · refine x_aload_n (i := 0) dX12_oddIn_10 rfl rfl rfl ?_
      refine x_iload_n (i := 2) dX12_oddIn_11 rfl rfl rfl ?_
      refine x_iald dX12_oddIn_12 rfl ha rfl (by omega) (by decide) ?_
      refine x_iconst dX12_oddIn_13 rfl iC_2 ?_
      refine x_irem dX12_oddIn_14 rfl (by decide) ?_
      refine x_if_eq (tgt := 24) dX12_oddIn_15 rfl rfl (fun c15 => ?_) (fun c15 => ?_)
      · have z : ¬ pI (f i) = true := fun z => (rem2p _).mpr z c15
        refine x_iinc dX12_oddIn_24 rfl rfl (inc1 _) ?_
        refine x_goto (tgt := 4) dX12_oddIn_27 rfl ?_
        exact x_to (ih c7) ⟨rfl, by rw [(or_bit8 (p := fun j => pI (f j)) c7).2 (Bool.eq_false_iff.mpr z)]; rfl, rfl, trivial⟩
      · have z : pI (f i) = true := (rem2p _).mp c15
        refine x_iload_n (i := 1) dX12_oddIn_18 rfl rfl rfl ?_
        refine x_iconst dX12_oddIn_19 rfl iC_1 ?_
        refine x_iload_n (i := 2) dX12_oddIn_20 rfl rfl rfl ?_
        refine x_ishl dX12_oddIn_21 rfl ?_
        refine x_ior dX12_oddIn_22 rfl ?_
        rw [(or_bit8 (p := fun j => pI (f j)) c7).1 z]
        refine x_istore_n (i := 1) dX12_oddIn_23 rfl rfl (by decide) ?_
        refine x_iinc dX12_oddIn_24 rfl rfl (inc1 _) ?_
        refine x_goto (tgt := 4) dX12_oddIn_27 rfl ?_
        exact x_to (ih c7) ⟨rfl, rfl, rfl, trivial⟩) 0 (Nat.zero_le _)
  exact x_to key ⟨rfl, rfl, rfl, trivial⟩
theorem m_listFrom {norm : Nat} (hn : norm < 4) (K : Q (some (.int (nI (lf norm)))) h) : xCt G l mX12_listFrom d [.int (nI norm)] h 0 0 Q := by
  refine xCt_of (by decide) (Nat.le_of_ble_eq_true rfl) ?_
  rcases (show norm = 0 ∨ norm = 1 ∨ norm = 2 ∨ norm = 3 by omega) with rfl | rfl | rfl | rfl
  · refine x_iload_n (i := 0) dX12_listFrom_0 rfl rfl rfl ?_
    refine x_if_ne_f (tgt := 8) dX12_listFrom_1 rfl rfl nI_0 ?_
    refine x_iconst dX12_listFrom_4 rfl iC_0 ?_
    refine x_goto (tgt := 31) dX12_listFrom_5 rfl ?_
    refine x_ireturn dX12_listFrom_31 rfl rfl ?_
    exact K
  · refine x_iload_n (i := 0) dX12_listFrom_0 rfl rfl rfl ?_
    refine x_if_ne_t (tgt := 8) dX12_listFrom_1 rfl nb1 ?_
    refine x_iload_n (i := 0) dX12_listFrom_8 rfl rfl rfl ?_
    refine x_iconst dX12_listFrom_9 rfl iC_1 ?_
    refine x_ic_ne_f (tgt := 17) dX12_listFrom_10 rfl rfl rfl ?_
    refine x_iconst dX12_listFrom_13 rfl iC_1 ?_
    refine x_goto (tgt := 31) dX12_listFrom_14 rfl ?_
    refine x_ireturn dX12_listFrom_31 rfl rfl ?_
    exact K
  · refine x_iload_n (i := 0) dX12_listFrom_0 rfl rfl rfl ?_
    refine x_if_ne_t (tgt := 8) dX12_listFrom_1 rfl (by decide) ?_
    refine x_iload_n (i := 0) dX12_listFrom_8 rfl rfl rfl ?_
    refine x_iconst dX12_listFrom_9 rfl iC_1 ?_
    refine x_ic_ne_t (tgt := 17) dX12_listFrom_10 rfl (by decide) ?_
    refine x_iload_n (i := 0) dX12_listFrom_17 rfl rfl rfl ?_
    refine x_iconst dX12_listFrom_18 rfl iC_2 ?_
    refine x_ic_ne_f (tgt := 28) dX12_listFrom_19 rfl rfl rfl ?_
    refine x_sipush dX12_listFrom_22 rfl sC_241 ?_
    refine x_goto (tgt := 31) dX12_listFrom_25 rfl ?_
    refine x_ireturn dX12_listFrom_31 rfl rfl ?_
    exact K
  · refine x_iload_n (i := 0) dX12_listFrom_0 rfl rfl rfl ?_
    refine x_if_ne_t (tgt := 8) dX12_listFrom_1 rfl (by decide) ?_
    refine x_iload_n (i := 0) dX12_listFrom_8 rfl rfl rfl ?_
    refine x_iconst dX12_listFrom_9 rfl iC_1 ?_
    refine x_ic_ne_t (tgt := 17) dX12_listFrom_10 rfl (by decide) ?_
    refine x_iload_n (i := 0) dX12_listFrom_17 rfl rfl rfl ?_
    refine x_iconst dX12_listFrom_18 rfl iC_2 ?_
    refine x_ic_ne_t (tgt := 28) dX12_listFrom_19 rfl (by decide) ?_
    refine x_sipush dX12_listFrom_28 rfl sC_2401 ?_
    refine x_ireturn dX12_listFrom_31 rfl rfl ?_
    exact K
end MOD
/-- what is listed below a place, from the digit c on -/
def lxT (o i c rest : Nat) (pre : List Nat) : List (List Nat) := (List.range' c (7 - c)).flatMap (fun d => if sqN d ≤ rest then ((lx (7 - i) (rest - sqN d)).map (fun ds => pre ++ d :: ds)).filter (fun ds => ofO o (odL ds)) else [])
theorem lxT_7 (o i rest : Nat) (pre : List Nat) : lxT o i 7 rest pre = [] := rfl
theorem lxT_s {o i c rest : Nat} {pre : List Nat} (hc : c < 7) : lxT o i c rest pre = (if sqN c ≤ rest then ((lx (7 - i) (rest - sqN c)).map (fun ds => pre ++ c :: ds)).filter (fun ds => ofO o (odL ds)) else []) ++ lxT o i (c + 1) rest pre := by
  unfold lxT
  rw [show 7 - c = 7 - (c + 1) + 1 by omega, List.range'_succ, List.flatMap_cons]
theorem lxT_0 {o i rest : Nat} {pre : List Nat} (hi : i ≤ 7) : lxT o i 0 rest pre = ((lx (8 - i) rest).map (fun ds => pre ++ ds)).filter (fun ds => ofO o (odL ds)) := by
  rw [show 8 - i = 7 - i + 1 by omega, lx]
  have e : List.range' 0 (7 - 0) = List.range 7 := rfl
  unfold lxT
  rw [e]
  generalize List.range 7 = is
  induction is with
  | nil => rfl
  | cons a is ih =>
    rw [List.flatMap_cons, List.flatMap_cons, List.map_append, List.filter_append, ih]
    congr 1
    by_cases c : sqN a ≤ rest
    · rw [if_pos c, if_pos c, List.map_map]
      rfl
    · rw [if_neg c, if_neg c]
      rfl
/-- too much for this digit, and so for all greater ones -/
theorem lxT_n {o i rest : Nat} {pre : List Nat} : ∀ c, 4 ≤ c → c ≤ 7 → (∀ d, c ≤ d → d < 7 → rest < sqN d) → lxT o i c rest pre = []
  | c, h4, h7, h => by
    unfold lxT
    rw [List.flatMap_eq_nil_iff]
    intro d hd
    rw [List.mem_range'_1] at hd
    rw [if_neg (by have := h d hd.1 (by omega); omega)]
theorem sqN_m : ∀ c, c < 7 → ∀ d, d < 7 → 4 ≤ c → c ≤ d → sqN c ≤ sqN d := by decide
theorem lsD_T {o norm : Nat} : lxT o 0 0 (4 * norm) [] = lsD o norm := by
  rw [lxT_0 (by omega)]
  unfold lsD
  congr 1
  exact List.map_id' _

