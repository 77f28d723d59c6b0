/-! rules over heaps as lists: a part that is there, what a constructor makes behind it -/
section YLH
variable {G : xG} {l : Launch} {M : xM} {d : Nat} {Z : List Frame → Array Value → State → Nat → Nat → State → Prop} {k n pc pc2 : Nat} {L : xL} {st : List Value} {cs t : List xC}
theorem y_newarr (t2 : List xC) {ty N m : Nat} {i : Int32} (hd : decode M.2.1 pc = .ok (.newarray (xat ty), 2)) (hp : pc + 2 = pc2) (hty : ty < 4) (h1 : Cond.arrayClass (xty ty) ∈ xTT) (hi : i = nI N) (hN : N ≤ 1000000) (hz : cs.length ≤ 500000) (hm : t.length = m) (hm2 : m ≤ 1000) (ht : t ++ [(ty, N, fun _ => defaultValue (xty ty))] = t2) (kk : xWP G l M d Z k n pc2 L (.ref (cs.length + m) :: st) (lh (cs ++ t2))) : xWP G l M d Z (1 + k) (N + n) pc L (.int i :: st) (lh (cs ++ t)) := by
  subst hm
  subst ht
  refine x_newarr hd hp hty h1 hi hN (by rw [lh_sz]; omega) ?_
  rw [lh_sz, lh_nw, List.append_assoc]
  exact kk
theorem y_mna (t2 : List xC) {ty N K m : Nat} {i j : Int32} {idx : Nat} (hd : decode M.2.1 pc = .ok (.multianewarray idx 2, 4)) (hp : pc + 4 = pc2) (hty : ty < 2) (hlk : Cond.classLink M.1.cls idx ("[" ++ (FieldType.array (xty ty)).toString) ∈ xTT) (har : Cond.arrayClass (xty ty) ∈ xTT) (hi : i = nI N) (hj : j = nI K) (hN : N ≤ 1000) (hK : K ≤ 1000) (hz : cs.length ≤ 500000) (hm : t.length = m) (hm2 : m ≤ 1000) (ht : t ++ (4 + ty, N, xP (fun q => cs.length + m + 1 + q)) :: List.replicate N (ty, K, fun _ => defaultValue (xty ty)) = t2) (kk : xWP G l M d Z k n pc2 L (.ref (cs.length + m) :: st) (lh (cs ++ t2))) : xWP G l M d Z (1 + N + k) (N + N * K + n) pc L (.int j :: .int i :: st) (lh (cs ++ t)) := by
  subst hm
  subst ht
  refine x_mna hd hp hty hlk har hi hj hN hK (by rw [lh_sz]; omega) ?_
  rw [lh_mna, lh_sz, List.length_append, List.append_assoc]
  exact kk
theorem y_new (t2 : List xC) {idx ci m : Nat} {q : vw_C} (hd : decode M.2.1 pc = .ok (.new idx, 3)) (hp : pc + 3 = pc2) (hq : xcl[ci]? = some q) (h1 : Cond.classLink M.1.cls idx q.1 ∈ xTT) (h2 : Cond.instantiable q.1 q.2.2 ∈ xTT) (h3 : Cond.initialized q.1 ∈ xTT) (hz : cs.length ≤ 500000) (hm : t.length = m) (hm2 : m ≤ 1000) (ht : t ++ [(100 + ci, 0, fun j => defaultValue (xtys ci j))] = t2) (kk : xWP G l M d Z k n pc2 L (.ref (cs.length + m) :: st) (lh (cs ++ t2))) : xWP G l M d Z (1 + k) (q.2.2 + n) pc L st (lh (cs ++ t)) := by
  subst hm
  subst ht
  refine x_new hd hp hq h1 h2 h3 (by rw [lh_sz]; omega) ?_
  rw [lh_sz, lh_nw, List.append_assoc]
  exact kk
theorem y_putF (t2 : List xC) {idx ci kf N i : Nat} {F : Nat → Value} {v : Value} (hd : decode M.2.1 pc = .ok (.putfield idx, 3)) (hp : pc + 3 = pc2) (hf : xFl M.1.cls idx ci kf) (hnf : ∀ q, xcl[ci]? = some q → (q.2.1 kf).2.2.2 = true ∧ (q.2.1 kf).1 = M.1.cls ∧ Cond.fieldLink M.1.cls idx (q.2.1 kf).1 (q.2.1 kf).2.1 (q.2.1 kf).2.2.1 ∈ xTT) (hin : M.1.name = "<init>") (hi : i < t.length) (ha : t.getD i lhD = (100 + ci, N, F)) (hv : xFv ci kf v) (ht : t.set i (100 + ci, N, updV F kf v) = t2) (kk : xWP G l M d Z k n pc2 L st (lh (cs ++ t2))) : xWP G l M d Z k n pc L (v :: .ref (cs.length + i) :: st) (lh (cs ++ t)) := by
  subst ht
  refine x_putF hd hp hf hnf hin ((lh_at cs t i).trans ha) hv ?_
  rw [lh_st cs t i _ hi]
  exact kk
theorem y_put (t2 : List xC) {idx ci kf N i : Nat} {F : Nat → Value} {v : Value} (hd : decode M.2.1 pc = .ok (.putfield idx, 3)) (hp : pc + 3 = pc2) (hf : xFl M.1.cls idx ci kf) (hfin : ∀ q, xcl[ci]? = some q → (q.2.1 kf).2.2.2 = false) (hi : i < t.length) (ha : t.getD i lhD = (100 + ci, N, F)) (hv : xFv ci kf v) (ht : t.set i (100 + ci, N, updV F kf v) = t2) (kk : xWP G l M d Z k n pc2 L st (lh (cs ++ t2))) : xWP G l M d Z k n pc L (v :: .ref (cs.length + i) :: st) (lh (cs ++ t)) := by
  subst ht
  refine x_put hd hp hf hfin ((lh_at cs t i).trans ha) hv ?_
  rw [lh_st cs t i _ hi]
  exact kk
theorem y_get {idx ci kf N i : Nat} {F : Nat → Value} {v : Value} (hd : decode M.2.1 pc = .ok (.getfield idx, 3)) (hp : pc + 3 = pc2) (hf : xFl M.1.cls idx ci kf) (ha : t.getD i lhD = (100 + ci, N, F)) (hv : F kf = v) (kk : xWP G l M d Z k n pc2 L (v :: st) (lh (cs ++ t))) : xWP G l M d Z k n pc L (.ref (cs.length + i) :: st) (lh (cs ++ t)) := x_get hd hp hf ((lh_at cs t i).trans ha) hv kk
theorem y_iast (t2 : List xC) {N j i : Nat} {x y : Int32} {g : Nat → Int32} (hd : decode M.2.1 pc = .ok (.iastore, 1)) (hp : pc + 1 = pc2) (hi : i < t.length) (ha : t.getD i lhD = (0, N, xI g)) (hx : y = nI j) (hj : j < N) (hN : N < 2147483648) (ht : t.set i (0, N, xI (upd g j x)) = t2) (kk : xWP G l M d Z k n pc2 L st (lh (cs ++ t2))) : xWP G l M d Z k n pc L (.int x :: .int y :: .ref (cs.length + i) :: st) (lh (cs ++ t)) := by
  subst ht
  refine x_iast hd hp ((lh_at cs t i).trans ha) hx hj hN ?_
  rw [lh_st cs t i _ hi]
  exact kk
end YLH

