/-! EightParts$Lists: packed numbers, words by parts -/
def zPk (f : Nat → Int32) : Nat → Int32
  | 0 => nI 0
  | i + 1 => zPk f i <<< (nI 4 &&& 31) ||| ((f i + nI 4) &&& nI 15)
def zUp (p : Int32) : Nat → Int32 := fun j => ((p >>> ((nI 28 - nI 4 * nI j) &&& 31)) &&& nI 15) - nI 4
section LISTS
variable {G : xG} {l : Launch} {d : Nat} {h : xH} {Q : Option Value → xH → Prop}
theorem c_pack {a : Nat} {f : Nat → Int32} (ha : h.1 a = (0, 8, xI f)) (K : Q (some (.int (zPk f 8))) h) : xCt G l mX4_pack d [.ref a] h 0 0 Q := by
  refine xCt_of (by decide) (Nat.le_of_ble_eq_true rfl) ?_
  refine x_iconst dX4_pack_0 rfl iC_0 ?_
  refine x_istore_n (i := 1) dX4_pack_1 rfl rfl (by decide) ?_
  refine x_iconst dX4_pack_2 rfl iC_0 ?_
  refine x_istore_n (i := 2) dX4_pack_3 rfl rfl (by decide) ?_
  have key := xloop (P := fun i => xWP G l mX4_pack d (zM G Q) 0 0 4 (xls [(0, .ref a), (1, .int (zPk f i)), (2, .int (nI i))]) [] h) 8 (by
    intro i hi ih
    refine x_iload_n (i := 2) dX4_pack_4 rfl rfl rfl ?_
    refine x_bipush dX4_pack_5 rfl bC_8 ?_
    refine x_jc_ge (tgt := 29) dX4_pack_7 rfl rfl (by omega) (by omega) (fun c7 => ?_) (fun c7 => ?_)
    · obtain rfl : i = 8 := by omega
      refine x_iload_n (i := 1) dX4_pack_29 rfl rfl rfl ?_
      refine x_ireturn dX4_pack_30 rfl rfl ?_
      exact K
    · refine x_iload_n (i := 1) dX4_pack_10 rfl rfl rfl ?_
      refine x_iconst dX4_pack_11 rfl iC_4 ?_
      refine x_ishl dX4_pack_12 rfl ?_
      refine x_aload_n (i := 0) dX4_pack_13 rfl rfl rfl ?_
      refine x_iload_n (i := 2) dX4_pack_14 rfl rfl rfl ?_
      refine x_iald dX4_pack_15 rfl (by first | assumption | exact hs_eq | exact hs_ne (by first | assumption | decide | omega) (by first | assumption | exact hs_eq | exact hs_ne (by first | assumption | decide | omega) (by first | assumption | exact hs_eq | exact hs_ne (by first | assumption | decide | omega) (by assumption)))) rfl (by omega) (by decide) ?_
      refine x_iconst dX4_pack_16 rfl iC_4 ?_
      refine x_iadd dX4_pack_17 rfl ?_
      refine x_bipush dX4_pack_18 rfl bC_15 ?_
      refine x_iand dX4_pack_20 rfl ?_
      refine x_ior dX4_pack_21 rfl ?_
      refine x_istore_n (i := 1) dX4_pack_22 rfl rfl (by decide) ?_
      refine x_iinc dX4_pack_23 rfl rfl (inc1 _) ?_
      refine x_goto (tgt := 4) dX4_pack_26 rfl ?_
      exact x_to (ih c7) ⟨rfl, rfl, rfl, trivial⟩) 0 (Nat.zero_le _)
  exact x_to key ⟨rfl, rfl, rfl, trivial⟩
theorem c_unpack {a : Nat} {g : Nat → Int32} {p : Int32} (ha : h.1 a = (0, 8, xI g)) (K : Q none (hs h a (0, 8, xI (zUp p)))) : xCt G l mX4_unpack d [.ref a, .int p] h 0 0 Q := by
  refine xCt_of (by decide) (Nat.le_of_ble_eq_true rfl) ?_
  refine x_iconst dX4_unpack_0 rfl iC_0 ?_
  refine x_istore_n (i := 2) dX4_unpack_1 rfl rfl (by decide) ?_
  have key := xloop (P := fun i => xWP G l mX4_unpack d (zM G Q) 0 0 2 (xls [(0, .ref a), (1, .int p), (2, .int (nI i))]) [] (hs h a (0, 8, xI (xF (zUp p) g i)))) 8 (by
    intro i hi ih
    refine x_iload_n (i := 2) dX4_unpack_2 rfl rfl rfl ?_
    refine x_bipush dX4_unpack_3 rfl bC_8 ?_
    refine x_jc_ge (tgt := 30) dX4_unpack_5 rfl rfl (by omega) (by omega) (fun c5 => ?_) (fun c5 => ?_)
    · obtain rfl : i = 8 := by omega
      refine x_topI (f2 := zUp p) (fun j hj => ?_) (by decide) ?_
      · unfold xF
        rw [if_pos hj]
      refine x_return dX4_unpack_30 rfl ?_
      exact K
    · refine x_aload_n (i := 0) dX4_unpack_8 rfl rfl rfl ?_
      refine x_iload_n (i := 2) dX4_unpack_9 rfl rfl rfl ?_
      refine x_iload_n (i := 1) dX4_unpack_10 rfl rfl rfl ?_
      refine x_bipush dX4_unpack_11 rfl bC_28 ?_
      refine x_iconst dX4_unpack_13 rfl iC_4 ?_
      refine x_iload_n (i := 2) dX4_unpack_14 rfl rfl rfl ?_
      refine x_imul dX4_unpack_15 rfl ?_
      refine x_isub dX4_unpack_16 rfl ?_
      refine x_ishr dX4_unpack_17 rfl ?_
      refine x_bipush dX4_unpack_18 rfl bC_15 ?_
      refine x_iand dX4_unpack_20 rfl ?_
      refine x_iconst dX4_unpack_21 rfl iC_4 ?_
      refine x_isub dX4_unpack_22 rfl ?_
      refine x_iastT dX4_unpack_23 rfl rfl (by omega) (by decide) ?_
      rw [show upd (xF (zUp p) g i) i (((p >>> ((nI 28 - nI 4 * nI i) &&& 31)) &&& nI 15) - nI 4) = xF (zUp p) g (i + 1) from xF_upd (zUp p) g i]
      refine x_iinc dX4_unpack_24 rfl rfl (inc1 _) ?_
      refine x_goto (tgt := 2) dX4_unpack_27 rfl ?_
      exact x_to (ih c5) ⟨rfl, rfl, rfl, trivial⟩) 0 (Nat.zero_le _)
  rw [xF_0, hs_self ha] at key
  exact x_to key ⟨rfl, rfl, rfl, trivial⟩
end LISTS

