/-! EightPartsModel' constructor, made by gend4.py -/
set_option maxRecDepth 8000
theorem flX12_13 : Cond.fieldLink RX12 13 "EightPartsModel" "signs" "[I" ∈ xTT := (xIn6 89 rfl rfl)
theorem flX12_17 : Cond.fieldLink RX12 17 "EightPartsModel" "row" "[I" ∈ xTT := (xIn6 90 rfl rfl)
theorem flX12_20 : Cond.fieldLink RX12 20 "EightPartsModel" "wide" "[J" ∈ xTT := (xIn6 91 rfl rfl)
theorem flX12_28 : Cond.fieldLink RX12 28 "EightPartsModel" "lists" "[I" ∈ xTT := (xIn6 93 rfl rfl)
theorem flX12_31 : Cond.fieldLink RX12 31 "EightPartsModel" "listMany" "[I" ∈ xTT := (xIn6 94 rfl rfl)
theorem flX12_34 : Cond.fieldLink RX12 34 "EightPartsModel" "listOrder" "[I" ∈ xTT := (xIn6 95 rfl rfl)
theorem flX12_37 : Cond.fieldLink RX12 37 "EightPartsModel" "now" "[I" ∈ xTT := (xIn6 96 rfl rfl)
theorem flX12_40 : Cond.fieldLink RX12 40 "EightPartsModel" "left" "[I" ∈ xTT := (xIn6 97 rfl rfl)
theorem flX12_43 : Cond.fieldLink RX12 43 "EightPartsModel" "best" "[J" ∈ xTT := (xIn6 98 rfl rfl)
theorem flX12_46 : Cond.fieldLink RX12 46 "EightPartsModel" "trial" "[J" ∈ xTT := (xIn6 99 rfl rfl)
theorem flX12_49 : Cond.fieldLink RX12 49 "EightPartsModel" "wayFrom" "[I" ∈ xTT := (xIn6 104 rfl rfl)
theorem flX12_52 : Cond.fieldLink RX12 52 "EightPartsModel" "wayMany" "[I" ∈ xTT := (xIn6 105 rfl rfl)
theorem flX12_55 : Cond.fieldLink RX12 55 "EightPartsModel" "wayIs" "[Z" ∈ xTT := (xIn6 106 rfl rfl)
theorem flX12_59 : Cond.fieldLink RX12 59 "EightPartsModel" "tape" "[I" ∈ xTT := (xIn6 107 rfl rfl)
theorem flX12_62 : Cond.fieldLink RX12 62 "EightPartsModel" "opened" "[I" ∈ xTT := (xIn6 109 rfl rfl)
theorem flX12_65 : Cond.fieldLink RX12 65 "EightPartsModel" "hasSum" "[Z" ∈ xTT := (xIn6 110 rfl rfl)
theorem flX12_68 : Cond.fieldLink RX12 68 "EightPartsModel" "hasTerm" "[Z" ∈ xTT := (xIn6 111 rfl rfl)
theorem flX12_71 : Cond.fieldLink RX12 71 "EightPartsModel" "comesBy" "[I" ∈ xTT := (xIn6 112 rfl rfl)
theorem flX12_74 : Cond.fieldLink RX12 74 "EightPartsModel" "text" "[I" ∈ xTT := (xIn6 117 rfl rfl)
theorem flX12_78 : Cond.fieldLink RX12 78 "EightPartsModel" "joined" "[I" ∈ xTT := (xIn6 119 rfl rfl)
theorem flX12_84 : Cond.fieldLink RX12 84 "EightPartsModel" "isMade" "[Z" ∈ xTT := (xIn6 121 rfl rfl)
theorem flX12_87 : Cond.fieldLink RX12 87 "EightPartsModel" "makes" "[I" ∈ xTT := (xIn6 122 rfl rfl)
theorem flX12_90 : Cond.fieldLink RX12 90 "EightPartsModel" "kept" "[I" ∈ xTT := (xIn6 124 rfl rfl)
def bX12_0 (n : Nat) : xC := (112, 0, (fun j => defaultValue (xtys 12 j)))
def rX12_0 (n : Nat) : List xC := []
theorem rlX12_0 (n : Nat) : (rX12_0 n).length = 0 := rfl
def rX12_1 (n : Nat) : List xC := rX12_0 n ++ [(0, 64, fun _ => defaultValue (xty 0))]
theorem rlX12_1 (n : Nat) : (rX12_1 n).length = 1 := by rw [rX12_1, List.length_append, rlX12_0]; rfl
def bX12_1 (n : Nat) : xC := (112, 0, updV (bX12_0 n).2.2 1 (.ref (n + 1)))
def rX12_2 (n : Nat) : List xC := rX12_1 n ++ [(0, 1240, fun _ => defaultValue (xty 0))]
theorem rlX12_2 (n : Nat) : (rX12_2 n).length = 2 := by rw [rX12_2, List.length_append, rlX12_1]; rfl
def bX12_2 (n : Nat) : xC := (112, 0, updV (bX12_1 n).2.2 2 (.ref (n + 2)))
def rX12_3 (n : Nat) : List xC := rX12_2 n ++ [(1, 8, fun _ => defaultValue (xty 1))]
theorem rlX12_3 (n : Nat) : (rX12_3 n).length = 3 := by rw [rX12_3, List.length_append, rlX12_2]; rfl
def bX12_3 (n : Nat) : xC := (112, 0, updV (bX12_2 n).2.2 3 (.ref (n + 3)))
def bX12_4 (n : Nat) : xC := (112, 0, updV (bX12_3 n).2.2 4 (.int (nI 1)))
def rX12_4 (n : Nat) : List xC := rX12_3 n ++ [(0, 72968, fun _ => defaultValue (xty 0))]
theorem rlX12_4 (n : Nat) : (rX12_4 n).length = 4 := by rw [rX12_4, List.length_append, rlX12_3]; rfl
def bX12_5 (n : Nat) : xC := (112, 0, updV (bX12_4 n).2.2 5 (.ref (n + 4)))
def rX12_5 (n : Nat) : List xC := rX12_4 n ++ [(0, 4, fun _ => defaultValue (xty 0))]
theorem rlX12_5 (n : Nat) : (rX12_5 n).length = 5 := by rw [rX12_5, List.length_append, rlX12_4]; rfl
def bX12_6 (n : Nat) : xC := (112, 0, updV (bX12_5 n).2.2 6 (.ref (n + 5)))
def rX12_6 (n : Nat) : List xC := rX12_5 n ++ [(0, 4, fun _ => defaultValue (xty 0))]
theorem rlX12_6 (n : Nat) : (rX12_6 n).length = 6 := by rw [rX12_6, List.length_append, rlX12_5]; rfl
def rX12_7 (n : Nat) : List xC := rX12_5 n ++ [(0, 4, xI (upd (fun _ => 0) 0 ((-1))))]
theorem rlX12_7 (n : Nat) : (rX12_7 n).length = 6 := by rw [rX12_7, List.length_append, rlX12_5]; rfl
def rX12_8 (n : Nat) : List xC := rX12_5 n ++ [(0, 4, xI (upd (upd (fun _ => 0) 0 ((-1))) 1 ((-1))))]
theorem rlX12_8 (n : Nat) : (rX12_8 n).length = 6 := by rw [rX12_8, List.length_append, rlX12_5]; rfl
def rX12_9 (n : Nat) : List xC := rX12_5 n ++ [(0, 4, xI (upd (upd (upd (fun _ => 0) 0 ((-1))) 1 ((-1))) 2 ((-1))))]
theorem rlX12_9 (n : Nat) : (rX12_9 n).length = 6 := by rw [rX12_9, List.length_append, rlX12_5]; rfl
def rX12_10 (n : Nat) : List xC := rX12_5 n ++ [(0, 4, xI (upd (upd (upd (upd (fun _ => 0) 0 ((-1))) 1 ((-1))) 2 ((-1))) 3 ((-1))))]
theorem rlX12_10 (n : Nat) : (rX12_10 n).length = 6 := by rw [rX12_10, List.length_append, rlX12_5]; rfl
def bX12_7 (n : Nat) : xC := (112, 0, updV (bX12_6 n).2.2 7 (.ref (n + 6)))
def rX12_11 (n : Nat) : List xC := rX12_10 n ++ [(0, 8, fun _ => defaultValue (xty 0))]
theorem rlX12_11 (n : Nat) : (rX12_11 n).length = 7 := by rw [rX12_11, List.length_append, rlX12_10]; rfl
def bX12_8 (n : Nat) : xC := (112, 0, updV (bX12_7 n).2.2 8 (.ref (n + 7)))
def rX12_12 (n : Nat) : List xC := rX12_11 n ++ [(0, 8, fun _ => defaultValue (xty 0))]
theorem rlX12_12 (n : Nat) : (rX12_12 n).length = 8 := by rw [rX12_12, List.length_append, rlX12_11]; rfl
def bX12_9 (n : Nat) : xC := (112, 0, updV (bX12_8 n).2.2 9 (.ref (n + 8)))
def rX12_13 (n : Nat) : List xC := rX12_12 n ++ [(1, 8, fun _ => defaultValue (xty 1))]
theorem rlX12_13 (n : Nat) : (rX12_13 n).length = 9 := by rw [rX12_13, List.length_append, rlX12_12]; rfl
def bX12_10 (n : Nat) : xC := (112, 0, updV (bX12_9 n).2.2 10 (.ref (n + 9)))
def rX12_14 (n : Nat) : List xC := rX12_13 n ++ [(1, 8, fun _ => defaultValue (xty 1))]
theorem rlX12_14 (n : Nat) : (rX12_14 n).length = 10 := by rw [rX12_14, List.length_append, rlX12_13]; rfl
def bX12_11 (n : Nat) : xC := (112, 0, updV (bX12_10 n).2.2 11 (.ref (n + 10)))
def rX12_15 (n : Nat) : List xC := rX12_14 n ++ [(0, 42, fun _ => defaultValue (xty 0))]
theorem rlX12_15 (n : Nat) : (rX12_15 n).length = 11 := by rw [rX12_15, List.length_append, rlX12_14]; rfl
def bX12_12 (n : Nat) : xC := (112, 0, updV (bX12_11 n).2.2 16 (.ref (n + 11)))
def rX12_16 (n : Nat) : List xC := rX12_15 n ++ [(0, 42, fun _ => defaultValue (xty 0))]
theorem rlX12_16 (n : Nat) : (rX12_16 n).length = 12 := by rw [rX12_16, List.length_append, rlX12_15]; rfl
def bX12_13 (n : Nat) : xC := (112, 0, updV (bX12_12 n).2.2 17 (.ref (n + 12)))
def rX12_17 (n : Nat) : List xC := rX12_16 n ++ [(2, 155, fun _ => defaultValue (xty 2))]
theorem rlX12_17 (n : Nat) : (rX12_17 n).length = 13 := by rw [rX12_17, List.length_append, rlX12_16]; rfl
def bX12_14 (n : Nat) : xC := (112, 0, updV (bX12_13 n).2.2 18 (.ref (n + 13)))
def rX12_18 (n : Nat) : List xC := rX12_17 n ++ [(0, 200, fun _ => defaultValue (xty 0))]
theorem rlX12_18 (n : Nat) : (rX12_18 n).length = 14 := by rw [rX12_18, List.length_append, rlX12_17]; rfl
def bX12_15 (n : Nat) : xC := (112, 0, updV (bX12_14 n).2.2 19 (.ref (n + 14)))
def rX12_19 (n : Nat) : List xC := rX12_18 n ++ [(0, 12, fun _ => defaultValue (xty 0))]
theorem rlX12_19 (n : Nat) : (rX12_19 n).length = 15 := by rw [rX12_19, List.length_append, rlX12_18]; rfl
def bX12_16 (n : Nat) : xC := (112, 0, updV (bX12_15 n).2.2 21 (.ref (n + 15)))
def rX12_20 (n : Nat) : List xC := rX12_19 n ++ [(2, 13, fun _ => defaultValue (xty 2))]
theorem rlX12_20 (n : Nat) : (rX12_20 n).length = 16 := by rw [rX12_20, List.length_append, rlX12_19]; rfl
def bX12_17 (n : Nat) : xC := (112, 0, updV (bX12_16 n).2.2 22 (.ref (n + 16)))
def rX12_21 (n : Nat) : List xC := rX12_20 n ++ [(2, 13, fun _ => defaultValue (xty 2))]
theorem rlX12_21 (n : Nat) : (rX12_21 n).length = 17 := by rw [rX12_21, List.length_append, rlX12_20]; rfl
def bX12_18 (n : Nat) : xC := (112, 0, updV (bX12_17 n).2.2 23 (.ref (n + 17)))
def rX12_22 (n : Nat) : List xC := rX12_21 n ++ [(0, 13, fun _ => defaultValue (xty 0))]
theorem rlX12_22 (n : Nat) : (rX12_22 n).length = 18 := by rw [rX12_22, List.length_append, rlX12_21]; rfl
def bX12_19 (n : Nat) : xC := (112, 0, updV (bX12_18 n).2.2 24 (.ref (n + 18)))
def rX12_23 (n : Nat) : List xC := rX12_22 n ++ [(0, 120, fun _ => defaultValue (xty 0))]
theorem rlX12_23 (n : Nat) : (rX12_23 n).length = 19 := by rw [rX12_23, List.length_append, rlX12_22]; rfl
def bX12_20 (n : Nat) : xC := (112, 0, updV (bX12_19 n).2.2 29 (.ref (n + 19)))
def rX12_24 (n : Nat) : List xC := rX12_23 n ++ [(0, 57600, fun _ => defaultValue (xty 0))]
theorem rlX12_24 (n : Nat) : (rX12_24 n).length = 20 := by rw [rX12_24, List.length_append, rlX12_23]; rfl
def bX12_21 (n : Nat) : xC := (112, 0, updV (bX12_20 n).2.2 31 (.ref (n + 20)))
def bX12_22 (n : Nat) : xC := (112, 0, updV (bX12_21 n).2.2 32 (.int (-1)))
def rX12_25 (n : Nat) : List xC := rX12_24 n ++ [(2, 240, fun _ => defaultValue (xty 2))]
theorem rlX12_25 (n : Nat) : (rX12_25 n).length = 21 := by rw [rX12_25, List.length_append, rlX12_24]; rfl
def bX12_23 (n : Nat) : xC := (112, 0, updV (bX12_22 n).2.2 33 (.ref (n + 21)))
def rX12_26 (n : Nat) : List xC := rX12_25 n ++ [(0, 240, fun _ => defaultValue (xty 0))]
theorem rlX12_26 (n : Nat) : (rX12_26 n).length = 22 := by rw [rX12_26, List.length_append, rlX12_25]; rfl
def bX12_24 (n : Nat) : xC := (112, 0, updV (bX12_23 n).2.2 34 (.ref (n + 22)))
def rX12_27 (n : Nat) : List xC := rX12_26 n ++ [(0, 390, fun _ => defaultValue (xty 0))]
theorem rlX12_27 (n : Nat) : (rX12_27 n).length = 23 := by rw [rX12_27, List.length_append, rlX12_26]; rfl
def bX12_25 (n : Nat) : xC := (112, 0, updV (bX12_24 n).2.2 36 (.ref (n + 23)))
theorem w_X12a {G : xG} {l : Launch} {d : Nat} {Q : Option Value → xH → Prop} {cs : List xC} (hd : 1 ≤ d) (hz : cs.length ≤ 500000) (K : xWP G l mX12_init d (zM G Q) 0 0 218 (xls [(0, .ref cs.length)]) [] (lh (cs ++ (bX12_25 cs.length :: rX12_27 cs.length)))) : xCt G l mX12_init d [.ref cs.length] (lh (cs ++ [(112, 0, fun j => defaultValue (xtys 12 j))])) 23 133400 Q := by
  refine xCt_of (by decide) (Nat.le_of_ble_eq_true rfl) ?_
  refine x_aload_n (i := 0) dX12_init_0 rfl rfl rfl ?_
  refine x_objInit dX12_init_1 rfl oX12_7 oi_i oi_c hd (Nat.le_of_ble_eq_true rfl) ?_
  change xWP G l mX12_init d (zM G Q) 23 133400 _ _ _ (lh (cs ++ (bX12_0 cs.length :: rX12_0 cs.length)))
  refine x_aload_n (i := 0) dX12_init_4 rfl rfl rfl ?_
  refine x_bipush dX12_init_5 rfl bC_64 ?_
  refine y_newarr (t := (bX12_0 cs.length :: rX12_0 cs.length)) (bX12_0 cs.length :: rX12_1 cs.length) (ty := 0) (N := 64) (m := 1) (k := 22) (n := 133336) dX12_init_7 rfl (by decide) ac_int rfl (by decide) hz (congrArg (fun z => z + 1) (rlX12_0 cs.length)) (by decide) rfl ?_
  refine y_putF (t := (bX12_0 cs.length :: rX12_1 cs.length)) (bX12_1 cs.length :: rX12_1 cs.length) (i := 0) (N := 0) (F := (bX12_0 cs.length).2.2) dX12_init_9 rfl fX12_13 (fun q hq => by cases hq; exact ⟨rfl, rfl, flX12_13⟩) rfl (Nat.succ_pos _) rfl ⟨rfl, rfl⟩ rfl ?_
  refine x_aload_n (i := 0) dX12_init_12 rfl rfl rfl ?_
  refine x_sipush dX12_init_13 rfl sC_1240 ?_
  refine y_newarr (t := (bX12_1 cs.length :: rX12_1 cs.length)) (bX12_1 cs.length :: rX12_2 cs.length) (ty := 0) (N := 1240) (m := 2) (k := 21) (n := 132096) dX12_init_16 rfl (by decide) ac_int rfl (by decide) hz (congrArg (fun z => z + 1) (rlX12_1 cs.length)) (by decide) rfl ?_
  refine y_putF (t := (bX12_1 cs.length :: rX12_2 cs.length)) (bX12_2 cs.length :: rX12_2 cs.length) (i := 0) (N := 0) (F := (bX12_1 cs.length).2.2) dX12_init_18 rfl fX12_17 (fun q hq => by cases hq; exact ⟨rfl, rfl, flX12_17⟩) rfl (Nat.succ_pos _) rfl ⟨rfl, rfl⟩ rfl ?_
  refine x_aload_n (i := 0) dX12_init_21 rfl rfl rfl ?_
  refine x_bipush dX12_init_22 rfl bC_8 ?_
  refine y_newarr (t := (bX12_2 cs.length :: rX12_2 cs.length)) (bX12_2 cs.length :: rX12_3 cs.length) (ty := 1) (N := 8) (m := 3) (k := 20) (n := 132088) dX12_init_24 rfl (by decide) ac_long rfl (by decide) hz (congrArg (fun z => z + 1) (rlX12_2 cs.length)) (by decide) rfl ?_
  refine y_putF (t := (bX12_2 cs.length :: rX12_3 cs.length)) (bX12_3 cs.length :: rX12_3 cs.length) (i := 0) (N := 0) (F := (bX12_2 cs.length).2.2) dX12_init_26 rfl fX12_20 (fun q hq => by cases hq; exact ⟨rfl, rfl, flX12_20⟩) rfl (Nat.succ_pos _) rfl ⟨rfl, rfl⟩ rfl ?_
  refine x_aload_n (i := 0) dX12_init_29 rfl rfl rfl ?_
  refine x_iconst dX12_init_30 rfl iC_1 ?_
  refine y_put (t := (bX12_3 cs.length :: rX12_3 cs.length)) (bX12_4 cs.length :: rX12_3 cs.length) (i := 0) (N := 0) (F := (bX12_3 cs.length).2.2) dX12_init_31 rfl fX12_24 (fun q hq => by cases hq; rfl) (Nat.succ_pos _) rfl ⟨rfl, rfl⟩ rfl ?_
  refine x_aload_n (i := 0) dX12_init_34 rfl rfl rfl ?_
  refine x_ldc dX12_init_35 rfl cX12_27 ?_
  refine y_newarr (t := (bX12_4 cs.length :: rX12_3 cs.length)) (bX12_4 cs.length :: rX12_4 cs.length) (ty := 0) (N := 72968) (m := 4) (k := 19) (n := 59120) dX12_init_37 rfl (by decide) ac_int (by decide) (by decide) hz (congrArg (fun z => z + 1) (rlX12_3 cs.length)) (by decide) rfl ?_
  refine y_putF (t := (bX12_4 cs.length :: rX12_4 cs.length)) (bX12_5 cs.length :: rX12_4 cs.length) (i := 0) (N := 0) (F := (bX12_4 cs.length).2.2) dX12_init_39 rfl fX12_28 (fun q hq => by cases hq; exact ⟨rfl, rfl, flX12_28⟩) rfl (Nat.succ_pos _) rfl ⟨rfl, rfl⟩ rfl ?_
  refine x_aload_n (i := 0) dX12_init_42 rfl rfl rfl ?_
  refine x_iconst dX12_init_43 rfl iC_4 ?_
  refine y_newarr (t := (bX12_5 cs.length :: rX12_4 cs.length)) (bX12_5 cs.length :: rX12_5 cs.length) (ty := 0) (N := 4) (m := 5) (k := 18) (n := 59116) dX12_init_44 rfl (by decide) ac_int rfl (by decide) hz (congrArg (fun z => z + 1) (rlX12_4 cs.length)) (by decide) rfl ?_
  refine y_putF (t := (bX12_5 cs.length :: rX12_5 cs.length)) (bX12_6 cs.length :: rX12_5 cs.length) (i := 0) (N := 0) (F := (bX12_5 cs.length).2.2) dX12_init_46 rfl fX12_31 (fun q hq => by cases hq; exact ⟨rfl, rfl, flX12_31⟩) rfl (Nat.succ_pos _) rfl ⟨rfl, rfl⟩ rfl ?_
  refine x_aload_n (i := 0) dX12_init_49 rfl rfl rfl ?_
  refine x_iconst dX12_init_50 rfl iC_4 ?_
  refine y_newarr (t := (bX12_6 cs.length :: rX12_5 cs.length)) (bX12_6 cs.length :: rX12_6 cs.length) (ty := 0) (N := 4) (m := 6) (k := 17) (n := 59112) dX12_init_51 rfl (by decide) ac_int rfl (by decide) hz (congrArg (fun z => z + 1) (rlX12_5 cs.length)) (by decide) rfl ?_
  refine x_dup dX12_init_53 rfl rfl ?_
  refine x_iconst dX12_init_54 rfl iC_0 ?_
  refine x_iconst dX12_init_55 rfl iC_m1 ?_
  refine y_iast (t := (bX12_6 cs.length :: rX12_6 cs.length)) (bX12_6 cs.length :: rX12_7 cs.length) (N := 4) (j := 0) (i := 6) (g := fun _ => 0) dX12_init_56 rfl (Nat.le_of_ble_eq_true rfl) rfl rfl (by decide) (by decide) rfl ?_
  refine x_dup dX12_init_57 rfl rfl ?_
  refine x_iconst dX12_init_58 rfl iC_1 ?_
  refine x_iconst dX12_init_59 rfl iC_m1 ?_
  refine y_iast (t := (bX12_6 cs.length :: rX12_7 cs.length)) (bX12_6 cs.length :: rX12_8 cs.length) (N := 4) (j := 1) (i := 6) (g := upd (fun _ => 0) 0 ((-1))) dX12_init_60 rfl (Nat.le_of_ble_eq_true rfl) rfl rfl (by decide) (by decide) rfl ?_
  refine x_dup dX12_init_61 rfl rfl ?_
  refine x_iconst dX12_init_62 rfl iC_2 ?_
  refine x_iconst dX12_init_63 rfl iC_m1 ?_
  refine y_iast (t := (bX12_6 cs.length :: rX12_8 cs.length)) (bX12_6 cs.length :: rX12_9 cs.length) (N := 4) (j := 2) (i := 6) (g := upd (upd (fun _ => 0) 0 ((-1))) 1 ((-1))) dX12_init_64 rfl (Nat.le_of_ble_eq_true rfl) rfl rfl (by decide) (by decide) rfl ?_
  refine x_dup dX12_init_65 rfl rfl ?_
  refine x_iconst dX12_init_66 rfl iC_3 ?_
  refine x_iconst dX12_init_67 rfl iC_m1 ?_
  refine y_iast (t := (bX12_6 cs.length :: rX12_9 cs.length)) (bX12_6 cs.length :: rX12_10 cs.length) (N := 4) (j := 3) (i := 6) (g := upd (upd (upd (fun _ => 0) 0 ((-1))) 1 ((-1))) 2 ((-1))) dX12_init_68 rfl (Nat.le_of_ble_eq_true rfl) rfl rfl (by decide) (by decide) rfl ?_
  refine y_putF (t := (bX12_6 cs.length :: rX12_10 cs.length)) (bX12_7 cs.length :: rX12_10 cs.length) (i := 0) (N := 0) (F := (bX12_6 cs.length).2.2) dX12_init_69 rfl fX12_34 (fun q hq => by cases hq; exact ⟨rfl, rfl, flX12_34⟩) rfl (Nat.succ_pos _) rfl ⟨rfl, rfl⟩ rfl ?_
  refine x_aload_n (i := 0) dX12_init_72 rfl rfl rfl ?_
  refine x_bipush dX12_init_73 rfl bC_8 ?_
  refine y_newarr (t := (bX12_7 cs.length :: rX12_10 cs.length)) (bX12_7 cs.length :: rX12_11 cs.length) (ty := 0) (N := 8) (m := 7) (k := 16) (n := 59104) dX12_init_75 rfl (by decide) ac_int rfl (by decide) hz (congrArg (fun z => z + 1) (rlX12_10 cs.length)) (by decide) rfl ?_
  refine y_putF (t := (bX12_7 cs.length :: rX12_11 cs.length)) (bX12_8 cs.length :: rX12_11 cs.length) (i := 0) (N := 0) (F := (bX12_7 cs.length).2.2) dX12_init_77 rfl fX12_37 (fun q hq => by cases hq; exact ⟨rfl, rfl, flX12_37⟩) rfl (Nat.succ_pos _) rfl ⟨rfl, rfl⟩ rfl ?_
  refine x_aload_n (i := 0) dX12_init_80 rfl rfl rfl ?_
  refine x_bipush dX12_init_81 rfl bC_8 ?_
  refine y_newarr (t := (bX12_8 cs.length :: rX12_11 cs.length)) (bX12_8 cs.length :: rX12_12 cs.length) (ty := 0) (N := 8) (m := 8) (k := 15) (n := 59096) dX12_init_83 rfl (by decide) ac_int rfl (by decide) hz (congrArg (fun z => z + 1) (rlX12_11 cs.length)) (by decide) rfl ?_
  refine y_putF (t := (bX12_8 cs.length :: rX12_12 cs.length)) (bX12_9 cs.length :: rX12_12 cs.length) (i := 0) (N := 0) (F := (bX12_8 cs.length).2.2) dX12_init_85 rfl fX12_40 (fun q hq => by cases hq; exact ⟨rfl, rfl, flX12_40⟩) rfl (Nat.succ_pos _) rfl ⟨rfl, rfl⟩ rfl ?_
  refine x_aload_n (i := 0) dX12_init_88 rfl rfl rfl ?_
  refine x_bipush dX12_init_89 rfl bC_8 ?_
  refine y_newarr (t := (bX12_9 cs.length :: rX12_12 cs.length)) (bX12_9 cs.length :: rX12_13 cs.length) (ty := 1) (N := 8) (m := 9) (k := 14) (n := 59088) dX12_init_91 rfl (by decide) ac_long rfl (by decide) hz (congrArg (fun z => z + 1) (rlX12_12 cs.length)) (by decide) rfl ?_
  refine y_putF (t := (bX12_9 cs.length :: rX12_13 cs.length)) (bX12_10 cs.length :: rX12_13 cs.length) (i := 0) (N := 0) (F := (bX12_9 cs.length).2.2) dX12_init_93 rfl fX12_43 (fun q hq => by cases hq; exact ⟨rfl, rfl, flX12_43⟩) rfl (Nat.succ_pos _) rfl ⟨rfl, rfl⟩ rfl ?_
  refine x_aload_n (i := 0) dX12_init_96 rfl rfl rfl ?_
  refine x_bipush dX12_init_97 rfl bC_8 ?_
  refine y_newarr (t := (bX12_10 cs.length :: rX12_13 cs.length)) (bX12_10 cs.length :: rX12_14 cs.length) (ty := 1) (N := 8) (m := 10) (k := 13) (n := 59080) dX12_init_99 rfl (by decide) ac_long rfl (by decide) hz (congrArg (fun z => z + 1) (rlX12_13 cs.length)) (by decide) rfl ?_
  refine y_putF (t := (bX12_10 cs.length :: rX12_14 cs.length)) (bX12_11 cs.length :: rX12_14 cs.length) (i := 0) (N := 0) (F := (bX12_10 cs.length).2.2) dX12_init_101 rfl fX12_46 (fun q hq => by cases hq; exact ⟨rfl, rfl, flX12_46⟩) rfl (Nat.succ_pos _) rfl ⟨rfl, rfl⟩ rfl ?_
  refine x_aload_n (i := 0) dX12_init_104 rfl rfl rfl ?_
  refine x_bipush dX12_init_105 rfl bC_42 ?_
  refine y_newarr (t := (bX12_11 cs.length :: rX12_14 cs.length)) (bX12_11 cs.length :: rX12_15 cs.length) (ty := 0) (N := 42) (m := 11) (k := 12) (n := 59038) dX12_init_107 rfl (by decide) ac_int rfl (by decide) hz (congrArg (fun z => z + 1) (rlX12_14 cs.length)) (by decide) rfl ?_
  refine y_putF (t := (bX12_11 cs.length :: rX12_15 cs.length)) (bX12_12 cs.length :: rX12_15 cs.length) (i := 0) (N := 0) (F := (bX12_11 cs.length).2.2) dX12_init_109 rfl fX12_49 (fun q hq => by cases hq; exact ⟨rfl, rfl, flX12_49⟩) rfl (Nat.succ_pos _) rfl ⟨rfl, rfl⟩ rfl ?_
  refine x_aload_n (i := 0) dX12_init_112 rfl rfl rfl ?_
  refine x_bipush dX12_init_113 rfl bC_42 ?_
  refine y_newarr (t := (bX12_12 cs.length :: rX12_15 cs.length)) (bX12_12 cs.length :: rX12_16 cs.length) (ty := 0) (N := 42) (m := 12) (k := 11) (n := 58996) dX12_init_115 rfl (by decide) ac_int rfl (by decide) hz (congrArg (fun z => z + 1) (rlX12_15 cs.length)) (by decide) rfl ?_
  refine y_putF (t := (bX12_12 cs.length :: rX12_16 cs.length)) (bX12_13 cs.length :: rX12_16 cs.length) (i := 0) (N := 0) (F := (bX12_12 cs.length).2.2) dX12_init_117 rfl fX12_52 (fun q hq => by cases hq; exact ⟨rfl, rfl, flX12_52⟩) rfl (Nat.succ_pos _) rfl ⟨rfl, rfl⟩ rfl ?_
  refine x_aload_n (i := 0) dX12_init_120 rfl rfl rfl ?_
  refine x_sipush dX12_init_121 rfl sC_155 ?_
  refine y_newarr (t := (bX12_13 cs.length :: rX12_16 cs.length)) (bX12_13 cs.length :: rX12_17 cs.length) (ty := 2) (N := 155) (m := 13) (k := 10) (n := 58841) dX12_init_124 rfl (by decide) ac_boolean rfl (by decide) hz (congrArg (fun z => z + 1) (rlX12_16 cs.length)) (by decide) rfl ?_
  refine y_putF (t := (bX12_13 cs.length :: rX12_17 cs.length)) (bX12_14 cs.length :: rX12_17 cs.length) (i := 0) (N := 0) (F := (bX12_13 cs.length).2.2) dX12_init_126 rfl fX12_55 (fun q hq => by cases hq; exact ⟨rfl, rfl, flX12_55⟩) rfl (Nat.succ_pos _) rfl ⟨rfl, rfl⟩ rfl ?_
  refine x_aload_n (i := 0) dX12_init_129 rfl rfl rfl ?_
  refine x_sipush dX12_init_130 rfl sC_200 ?_
  refine y_newarr (t := (bX12_14 cs.length :: rX12_17 cs.length)) (bX12_14 cs.length :: rX12_18 cs.length) (ty := 0) (N := 200) (m := 14) (k := 9) (n := 58641) dX12_init_133 rfl (by decide) ac_int rfl (by decide) hz (congrArg (fun z => z + 1) (rlX12_17 cs.length)) (by decide) rfl ?_
  refine y_putF (t := (bX12_14 cs.length :: rX12_18 cs.length)) (bX12_15 cs.length :: rX12_18 cs.length) (i := 0) (N := 0) (F := (bX12_14 cs.length).2.2) dX12_init_135 rfl fX12_59 (fun q hq => by cases hq; exact ⟨rfl, rfl, flX12_59⟩) rfl (Nat.succ_pos _) rfl ⟨rfl, rfl⟩ rfl ?_
  refine x_aload_n (i := 0) dX12_init_138 rfl rfl rfl ?_
  refine x_bipush dX12_init_139 rfl bC_12 ?_
  refine y_newarr (t := (bX12_15 cs.length :: rX12_18 cs.length)) (bX12_15 cs.length :: rX12_19 cs.length) (ty := 0) (N := 12) (m := 15) (k := 8) (n := 58629) dX12_init_141 rfl (by decide) ac_int rfl (by decide) hz (congrArg (fun z => z + 1) (rlX12_18 cs.length)) (by decide) rfl ?_
  refine y_putF (t := (bX12_15 cs.length :: rX12_19 cs.length)) (bX12_16 cs.length :: rX12_19 cs.length) (i := 0) (N := 0) (F := (bX12_15 cs.length).2.2) dX12_init_143 rfl fX12_62 (fun q hq => by cases hq; exact ⟨rfl, rfl, flX12_62⟩) rfl (Nat.succ_pos _) rfl ⟨rfl, rfl⟩ rfl ?_
  refine x_aload_n (i := 0) dX12_init_146 rfl rfl rfl ?_
  refine x_bipush dX12_init_147 rfl bC_13 ?_
  refine y_newarr (t := (bX12_16 cs.length :: rX12_19 cs.length)) (bX12_16 cs.length :: rX12_20 cs.length) (ty := 2) (N := 13) (m := 16) (k := 7) (n := 58616) dX12_init_149 rfl (by decide) ac_boolean rfl (by decide) hz (congrArg (fun z => z + 1) (rlX12_19 cs.length)) (by decide) rfl ?_
  refine y_putF (t := (bX12_16 cs.length :: rX12_20 cs.length)) (bX12_17 cs.length :: rX12_20 cs.length) (i := 0) (N := 0) (F := (bX12_16 cs.length).2.2) dX12_init_151 rfl fX12_65 (fun q hq => by cases hq; exact ⟨rfl, rfl, flX12_65⟩) rfl (Nat.succ_pos _) rfl ⟨rfl, rfl⟩ rfl ?_
  refine x_aload_n (i := 0) dX12_init_154 rfl rfl rfl ?_
  refine x_bipush dX12_init_155 rfl bC_13 ?_
  refine y_newarr (t := (bX12_17 cs.length :: rX12_20 cs.length)) (bX12_17 cs.length :: rX12_21 cs.length) (ty := 2) (N := 13) (m := 17) (k := 6) (n := 58603) dX12_init_157 rfl (by decide) ac_boolean rfl (by decide) hz (congrArg (fun z => z + 1) (rlX12_20 cs.length)) (by decide) rfl ?_
  refine y_putF (t := (bX12_17 cs.length :: rX12_21 cs.length)) (bX12_18 cs.length :: rX12_21 cs.length) (i := 0) (N := 0) (F := (bX12_17 cs.length).2.2) dX12_init_159 rfl fX12_68 (fun q hq => by cases hq; exact ⟨rfl, rfl, flX12_68⟩) rfl (Nat.succ_pos _) rfl ⟨rfl, rfl⟩ rfl ?_
  refine x_aload_n (i := 0) dX12_init_162 rfl rfl rfl ?_
  refine x_bipush dX12_init_163 rfl bC_13 ?_
  refine y_newarr (t := (bX12_18 cs.length :: rX12_21 cs.length)) (bX12_18 cs.length :: rX12_22 cs.length) (ty := 0) (N := 13) (m := 18) (k := 5) (n := 58590) dX12_init_165 rfl (by decide) ac_int rfl (by decide) hz (congrArg (fun z => z + 1) (rlX12_21 cs.length)) (by decide) rfl ?_
  refine y_putF (t := (bX12_18 cs.length :: rX12_22 cs.length)) (bX12_19 cs.length :: rX12_22 cs.length) (i := 0) (N := 0) (F := (bX12_18 cs.length).2.2) dX12_init_167 rfl fX12_71 (fun q hq => by cases hq; exact ⟨rfl, rfl, flX12_71⟩) rfl (Nat.succ_pos _) rfl ⟨rfl, rfl⟩ rfl ?_
  refine x_aload_n (i := 0) dX12_init_170 rfl rfl rfl ?_
  refine x_bipush dX12_init_171 rfl bC_120 ?_
  refine y_newarr (t := (bX12_19 cs.length :: rX12_22 cs.length)) (bX12_19 cs.length :: rX12_23 cs.length) (ty := 0) (N := 120) (m := 19) (k := 4) (n := 58470) dX12_init_173 rfl (by decide) ac_int rfl (by decide) hz (congrArg (fun z => z + 1) (rlX12_22 cs.length)) (by decide) rfl ?_
  refine y_putF (t := (bX12_19 cs.length :: rX12_23 cs.length)) (bX12_20 cs.length :: rX12_23 cs.length) (i := 0) (N := 0) (F := (bX12_19 cs.length).2.2) dX12_init_175 rfl fX12_74 (fun q hq => by cases hq; exact ⟨rfl, rfl, flX12_74⟩) rfl (Nat.succ_pos _) rfl ⟨rfl, rfl⟩ rfl ?_
  refine x_aload_n (i := 0) dX12_init_178 rfl rfl rfl ?_
  refine x_ldc dX12_init_179 rfl cX12_77 ?_
  refine y_newarr (t := (bX12_20 cs.length :: rX12_23 cs.length)) (bX12_20 cs.length :: rX12_24 cs.length) (ty := 0) (N := 57600) (m := 20) (k := 3) (n := 870) dX12_init_181 rfl (by decide) ac_int (by decide) (by decide) hz (congrArg (fun z => z + 1) (rlX12_23 cs.length)) (by decide) rfl ?_
  refine y_putF (t := (bX12_20 cs.length :: rX12_24 cs.length)) (bX12_21 cs.length :: rX12_24 cs.length) (i := 0) (N := 0) (F := (bX12_20 cs.length).2.2) dX12_init_183 rfl fX12_78 (fun q hq => by cases hq; exact ⟨rfl, rfl, flX12_78⟩) rfl (Nat.succ_pos _) rfl ⟨rfl, rfl⟩ rfl ?_
  refine x_aload_n (i := 0) dX12_init_186 rfl rfl rfl ?_
  refine x_iconst dX12_init_187 rfl iC_m1 ?_
  refine y_put (t := (bX12_21 cs.length :: rX12_24 cs.length)) (bX12_22 cs.length :: rX12_24 cs.length) (i := 0) (N := 0) (F := (bX12_21 cs.length).2.2) dX12_init_188 rfl fX12_81 (fun q hq => by cases hq; rfl) (Nat.succ_pos _) rfl ⟨rfl, rfl⟩ rfl ?_
  refine x_aload_n (i := 0) dX12_init_191 rfl rfl rfl ?_
  refine x_sipush dX12_init_192 rfl sC_240 ?_
  refine y_newarr (t := (bX12_22 cs.length :: rX12_24 cs.length)) (bX12_22 cs.length :: rX12_25 cs.length) (ty := 2) (N := 240) (m := 21) (k := 2) (n := 630) dX12_init_195 rfl (by decide) ac_boolean rfl (by decide) hz (congrArg (fun z => z + 1) (rlX12_24 cs.length)) (by decide) rfl ?_
  refine y_putF (t := (bX12_22 cs.length :: rX12_25 cs.length)) (bX12_23 cs.length :: rX12_25 cs.length) (i := 0) (N := 0) (F := (bX12_22 cs.length).2.2) dX12_init_197 rfl fX12_84 (fun q hq => by cases hq; exact ⟨rfl, rfl, flX12_84⟩) rfl (Nat.succ_pos _) rfl ⟨rfl, rfl⟩ rfl ?_
  refine x_aload_n (i := 0) dX12_init_200 rfl rfl rfl ?_
  refine x_sipush dX12_init_201 rfl sC_240 ?_
  refine y_newarr (t := (bX12_23 cs.length :: rX12_25 cs.length)) (bX12_23 cs.length :: rX12_26 cs.length) (ty := 0) (N := 240) (m := 22) (k := 1) (n := 390) dX12_init_204 rfl (by decide) ac_int rfl (by decide) hz (congrArg (fun z => z + 1) (rlX12_25 cs.length)) (by decide) rfl ?_
  refine y_putF (t := (bX12_23 cs.length :: rX12_26 cs.length)) (bX12_24 cs.length :: rX12_26 cs.length) (i := 0) (N := 0) (F := (bX12_23 cs.length).2.2) dX12_init_206 rfl fX12_87 (fun q hq => by cases hq; exact ⟨rfl, rfl, flX12_87⟩) rfl (Nat.succ_pos _) rfl ⟨rfl, rfl⟩ rfl ?_
  refine x_aload_n (i := 0) dX12_init_209 rfl rfl rfl ?_
  refine x_sipush dX12_init_210 rfl sC_390 ?_
  refine y_newarr (t := (bX12_24 cs.length :: rX12_26 cs.length)) (bX12_24 cs.length :: rX12_27 cs.length) (ty := 0) (N := 390) (m := 23) (k := 0) (n := 0) dX12_init_213 rfl (by decide) ac_int rfl (by decide) hz (congrArg (fun z => z + 1) (rlX12_26 cs.length)) (by decide) rfl ?_
  refine y_putF (t := (bX12_24 cs.length :: rX12_27 cs.length)) (bX12_25 cs.length :: rX12_27 cs.length) (i := 0) (N := 0) (F := (bX12_24 cs.length).2.2) dX12_init_215 rfl fX12_90 (fun q hq => by cases hq; exact ⟨rfl, rfl, flX12_90⟩) rfl (Nat.succ_pos _) rfl ⟨rfl, rfl⟩ rfl ?_
  exact x_to K ⟨rfl, trivial⟩
def kX12s (n : Nat) (f r : Nat → Int32) : List xC := [(112, 0, updV (updV (updV (updV (updV (updV (updV (updV (updV (updV (updV (updV (updV (updV (updV (updV (updV (updV (updV (updV (updV (updV (updV (updV (updV ((fun j => defaultValue (xtys 12 j))) 1 (.ref (n + 1))) 2 (.ref (n + 2))) 3 (.ref (n + 3))) 4 (.int (nI 1))) 5 (.ref (n + 4))) 6 (.ref (n + 5))) 7 (.ref (n + 6))) 8 (.ref (n + 7))) 9 (.ref (n + 8))) 10 (.ref (n + 9))) 11 (.ref (n + 10))) 16 (.ref (n + 11))) 17 (.ref (n + 12))) 18 (.ref (n + 13))) 19 (.ref (n + 14))) 21 (.ref (n + 15))) 22 (.ref (n + 16))) 23 (.ref (n + 17))) 24 (.ref (n + 18))) 29 (.ref (n + 19))) 31 (.ref (n + 20))) 32 (.int (-1))) 33 (.ref (n + 21))) 34 (.ref (n + 22))) 36 (.ref (n + 23))), (0, 64, xI f), (0, 1240, xI r), (1, 8, fun _ => defaultValue (xty 1)), (0, 72968, fun _ => defaultValue (xty 0)), (0, 4, fun _ => defaultValue (xty 0)), (0, 4, xI (upd (upd (upd (upd (fun _ => 0) 0 ((-1))) 1 ((-1))) 2 ((-1))) 3 ((-1)))), (0, 8, fun _ => defaultValue (xty 0)), (0, 8, fun _ => defaultValue (xty 0)), (1, 8, fun _ => defaultValue (xty 1)), (1, 8, fun _ => defaultValue (xty 1)), (0, 42, fun _ => defaultValue (xty 0)), (0, 42, fun _ => defaultValue (xty 0)), (2, 155, fun _ => defaultValue (xty 2)), (0, 200, fun _ => defaultValue (xty 0)), (0, 12, fun _ => defaultValue (xty 0)), (2, 13, fun _ => defaultValue (xty 2)), (2, 13, fun _ => defaultValue (xty 2)), (0, 13, fun _ => defaultValue (xty 0)), (0, 120, fun _ => defaultValue (xty 0)), (0, 57600, fun _ => defaultValue (xty 0)), (2, 240, fun _ => defaultValue (xty 2)), (0, 240, fun _ => defaultValue (xty 0)), (0, 390, fun _ => defaultValue (xty 0))]
/-- the signs, as the constructor reckons them -/
def sg1 (a i j : Nat) (f : Nat → Int32) : Nat → Int32 := upd (upd (upd f (8 * i + a + j) (f (8 * j + i))) (8 * (a + i) + j) (upd f (8 * i + a + j) (f (8 * j + i)) (8 * i + j) * (if j = 0 then nI 1 else -1))) (8 * (a + i) + a + j) (-(upd (upd f (8 * i + a + j) (f (8 * j + i))) (8 * (a + i) + j) (upd f (8 * i + a + j) (f (8 * j + i)) (8 * i + j) * (if j = 0 then nI 1 else -1)) (8 * j + i)) * (if j = 0 then nI 1 else -1))
def sgJ (a i : Nat) (f : Nat → Int32) : Nat → Nat → Int32
  | 0 => f
  | j + 1 => sg1 a i j (sgJ a i f j)
def sgI (a : Nat) (f : Nat → Int32) : Nat → Nat → Int32
  | 0 => f
  | i + 1 => sgJ a i (sgI a f i) a
def sg0 : Nat → Int32 := upd (fun _ => 0) 0 (nI 1)
def sgF : Nat → Int32 := sgI 4 (sgI 2 (sgI 1 sg0 1) 2) 4
theorem sgF_b : ((List.range 64).all fun j => decide (sgF j = csS.getD j 0)) = true := by decide +kernel
theorem sgF_eq {j : Nat} (hj : j < 64) : sgF j = csS.getD j 0 := of_decide_eq_true (List.all_eq_true.mp sgF_b j (List.mem_range.mpr hj))
section Y12
variable {G : xG} {l : Launch} {M : xM} {d : Nat} {Z : List Frame → Array Value → State → Nat → Nat → State → Prop} {k n pc pc2 : Nat} {L : xL} {st : List Value} {cs t : List xC}
theorem y_iald {N j i : Nat} {x : Int32} {g : Nat → Int32} (hd : decode M.2.1 pc = .ok (.iaload, 1)) (hp : pc + 1 = pc2) (ha : t.getD i lhD = (0, N, xI g)) (hx : x = nI j) (hj : j < N) (hN : N < 2147483648) (kk : xWP G l M d Z k n pc2 L (.int (g j) :: st) (lh (cs ++ t))) : xWP G l M d Z k n pc L (.int x :: .ref (cs.length + i) :: st) (lh (cs ++ t)) := x_iald hd hp ((lh_at cs t i).trans ha) hx hj hN kk
end Y12
def kX12 (n : Nat) : List xC := kX12s n sgF (upd (fun _ => 0) 64 (nI 2))
theorem w_X12s {G : xG} {l : Launch} {d : Nat} {Q : Option Value → xH → Prop} {cs : List xC} (K : Q none (lh (cs ++ kX12 cs.length))) : xWP G l mX12_init d (zM G Q) 0 0 218 (xls [(0, .ref cs.length)]) [] (lh (cs ++ kX12s cs.length (fun _ => 0) (fun _ => 0))) := by
  have bod : ∀ a i j f s, a ≤ 4 → i < a → j < a → s = (if j = 0 then nI 1 else -1) → xWP G l mX12_init d (zM G Q) 0 0 242 (xls [(0, .ref cs.length), (1, .int (nI a)), (2, .int (nI i)), (3, .int (nI (j + 1)))]) [] (lh (cs ++ kX12s cs.length (sg1 a i j f) (fun _ => 0))) → xWP G l mX12_init d (zM G Q) 0 0 258 (xls [(0, .ref cs.length), (1, .int (nI a)), (2, .int (nI i)), (3, .int (nI j)), (4, .int s)]) [] (lh (cs ++ kX12s cs.length f (fun _ => 0))) := by
    intro a i j f s ha hi hj es kk
    unfold sg1 at kk
    rw [← es] at kk
    refine x_aload_n (i := 0) dX12_init_258 rfl rfl rfl ?_
    refine y_get (i := 0) (v := .ref (cs.length + 1)) dX12_init_259 rfl fX12_13 rfl rfl ?_
    refine x_bipush dX12_init_262 rfl bC_8 ?_
    refine x_iload_n (i := 2) dX12_init_264 rfl rfl rfl ?_
    refine x_imul dX12_init_265 rfl ?_
    refine x_iload_n (i := 1) dX12_init_266 rfl rfl rfl ?_
    refine x_iadd dX12_init_267 rfl ?_
    refine x_iload_n (i := 3) dX12_init_268 rfl rfl rfl ?_
    refine x_iadd dX12_init_269 rfl ?_
    refine x_aload_n (i := 0) dX12_init_270 rfl rfl rfl ?_
    refine y_get (i := 0) (v := .ref (cs.length + 1)) dX12_init_271 rfl fX12_13 rfl rfl ?_
    refine x_bipush dX12_init_274 rfl bC_8 ?_
    refine x_iload_n (i := 3) dX12_init_276 rfl rfl rfl ?_
    refine x_imul dX12_init_277 rfl ?_
    refine x_iload_n (i := 2) dX12_init_278 rfl rfl rfl ?_
    refine x_iadd dX12_init_279 rfl ?_
    refine y_iald (N := 64) (i := 1) (j := 8 * j + i) (g := f) dX12_init_280 rfl rfl (by simp only [nI_mul8, nI_add]) (by omega) (by decide) ?_
    refine y_iast (kX12s cs.length (upd f (8 * i + a + j) (f (8 * j + i))) (fun _ => 0)) (N := 64) (i := 1) (j := 8 * i + a + j) (g := f) dX12_init_281 rfl (Nat.le_of_ble_eq_true rfl) rfl (by simp only [nI_mul8, nI_add]) (by omega) (by decide) rfl ?_
    refine x_aload_n (i := 0) dX12_init_282 rfl rfl rfl ?_
    refine y_get (i := 0) (v := .ref (cs.length + 1)) dX12_init_283 rfl fX12_13 rfl rfl ?_
    refine x_bipush dX12_init_286 rfl bC_8 ?_
    refine x_iload_n (i := 1) dX12_init_288 rfl rfl rfl ?_
    refine x_iload_n (i := 2) dX12_init_289 rfl rfl rfl ?_
    refine x_iadd dX12_init_290 rfl ?_
    refine x_imul dX12_init_291 rfl ?_
    refine x_iload_n (i := 3) dX12_init_292 rfl rfl rfl ?_
    refine x_iadd dX12_init_293 rfl ?_
    refine x_aload_n (i := 0) dX12_init_294 rfl rfl rfl ?_
    refine y_get (i := 0) (v := .ref (cs.length + 1)) dX12_init_295 rfl fX12_13 rfl rfl ?_
    refine x_bipush dX12_init_298 rfl bC_8 ?_
    refine x_iload_n (i := 2) dX12_init_300 rfl rfl rfl ?_
    refine x_imul dX12_init_301 rfl ?_
    refine x_iload_n (i := 3) dX12_init_302 rfl rfl rfl ?_
    refine x_iadd dX12_init_303 rfl ?_
    refine y_iald (N := 64) (i := 1) (j := 8 * i + j) (g := upd f (8 * i + a + j) (f (8 * j + i))) dX12_init_304 rfl rfl (by simp only [nI_mul8, nI_add]) (by omega) (by decide) ?_
    refine x_iload dX12_init_305 rfl rfl ?_
    refine x_imul dX12_init_307 rfl ?_
    refine y_iast (kX12s cs.length (upd (upd f (8 * i + a + j) (f (8 * j + i))) (8 * (a + i) + j) ((upd f (8 * i + a + j) (f (8 * j + i))) (8 * i + j) * s)) (fun _ => 0)) (N := 64) (i := 1) (j := 8 * (a + i) + j) (g := upd f (8 * i + a + j) (f (8 * j + i))) dX12_init_308 rfl (Nat.le_of_ble_eq_true rfl) rfl (by simp only [nI_mul8, nI_add]) (by omega) (by decide) rfl ?_
    refine x_aload_n (i := 0) dX12_init_309 rfl rfl rfl ?_
    refine y_get (i := 0) (v := .ref (cs.length + 1)) dX12_init_310 rfl fX12_13 rfl rfl ?_
    refine x_bipush dX12_init_313 rfl bC_8 ?_
    refine x_iload_n (i := 1) dX12_init_315 rfl rfl rfl ?_
    refine x_iload_n (i := 2) dX12_init_316 rfl rfl rfl ?_
    refine x_iadd dX12_init_317 rfl ?_
    refine x_imul dX12_init_318 rfl ?_
    refine x_iload_n (i := 1) dX12_init_319 rfl rfl rfl ?_
    refine x_iadd dX12_init_320 rfl ?_
    refine x_iload_n (i := 3) dX12_init_321 rfl rfl rfl ?_
    refine x_iadd dX12_init_322 rfl ?_
    refine x_aload_n (i := 0) dX12_init_323 rfl rfl rfl ?_
    refine y_get (i := 0) (v := .ref (cs.length + 1)) dX12_init_324 rfl fX12_13 rfl rfl ?_
    refine x_bipush dX12_init_327 rfl bC_8 ?_
    refine x_iload_n (i := 3) dX12_init_329 rfl rfl rfl ?_
    refine x_imul dX12_init_330 rfl ?_
    refine x_iload_n (i := 2) dX12_init_331 rfl rfl rfl ?_
    refine x_iadd dX12_init_332 rfl ?_
    refine y_iald (N := 64) (i := 1) (j := 8 * j + i) (g := upd (upd f (8 * i + a + j) (f (8 * j + i))) (8 * (a + i) + j) ((upd f (8 * i + a + j) (f (8 * j + i))) (8 * i + j) * s)) dX12_init_333 rfl rfl (by simp only [nI_mul8, nI_add]) (by omega) (by decide) ?_
    refine x_ineg dX12_init_334 rfl ?_
    refine x_iload dX12_init_335 rfl rfl ?_
    refine x_imul dX12_init_337 rfl ?_
    refine y_iast (kX12s cs.length (upd (upd (upd f (8 * i + a + j) (f (8 * j + i))) (8 * (a + i) + j) ((upd f (8 * i + a + j) (f (8 * j + i))) (8 * i + j) * s)) (8 * (a + i) + a + j) (-((upd (upd f (8 * i + a + j) (f (8 * j + i))) (8 * (a + i) + j) ((upd f (8 * i + a + j) (f (8 * j + i))) (8 * i + j) * s)) (8 * j + i)) * s)) (fun _ => 0)) (N := 64) (i := 1) (j := 8 * (a + i) + a + j) (g := upd (upd f (8 * i + a + j) (f (8 * j + i))) (8 * (a + i) + j) ((upd f (8 * i + a + j) (f (8 * j + i))) (8 * i + j) * s)) dX12_init_338 rfl (Nat.le_of_ble_eq_true rfl) rfl (by simp only [nI_mul8, nI_add]) (by omega) (by decide) rfl ?_
    refine x_iinc dX12_init_339 rfl rfl (inc1 _) ?_
    refine x_goto (tgt := 242) dX12_init_342 rfl ?_
    exact x_to kk ⟨rfl, rfl, rfl, rfl, trivial⟩
  have lj : ∀ a i f, a ≤ 4 → i < a → xWP G l mX12_init d (zM G Q) 0 0 345 (xls [(0, .ref cs.length), (1, .int (nI a)), (2, .int (nI i))]) [] (lh (cs ++ kX12s cs.length (sgJ a i f a) (fun _ => 0))) → xWP G l mX12_init d (zM G Q) 0 0 242 (xls [(0, .ref cs.length), (1, .int (nI a)), (2, .int (nI i)), (3, .int (nI 0))]) [] (lh (cs ++ kX12s cs.length f (fun _ => 0))) := by
    intro a i f ha hi kk
    have key := xloop (P := fun j => xWP G l mX12_init d (zM G Q) 0 0 242 (xls [(0, .ref cs.length), (1, .int (nI a)), (2, .int (nI i)), (3, .int (nI j))]) [] (lh (cs ++ kX12s cs.length (sgJ a i f j) (fun _ => 0)))) a (by
      intro j hj ih
      refine x_iload_n (i := 3) dX12_init_242 rfl rfl rfl ?_
      refine x_iload_n (i := 1) dX12_init_243 rfl rfl rfl ?_
      refine x_jc_ge (tgt := 345) dX12_init_244 rfl rfl (by omega) (by omega) (fun c244 => ?_) (fun c244 => ?_)
      · obtain rfl : j = a := by omega
        exact x_to kk ⟨rfl, rfl, rfl, trivial⟩
      · by_cases z : j = 0
        · subst z
          refine x_iload_n (i := 3) dX12_init_247 rfl rfl rfl ?_
          refine x_if_ne_f (tgt := 255) dX12_init_248 rfl rfl nI_0 ?_
          refine x_iconst dX12_init_251 rfl iC_1 ?_
          refine x_goto (tgt := 256) dX12_init_252 rfl ?_
          refine x_istore dX12_init_256 rfl (by decide) ?_
          exact x_to (bod a i 0 _ (nI 1) ha hi c244 (if_pos rfl).symm (ih c244)) ⟨rfl, rfl, rfl, rfl, rfl, trivial⟩
        · have nz : ¬ nI j = 0 := fun q => by
            have := (nI_eq (b := 0) (by omega) (by decide)).mp (q.trans nI_0.symm)
            exact z this
          refine x_iload_n (i := 3) dX12_init_247 rfl rfl rfl ?_
          refine x_if_ne_t (tgt := 255) dX12_init_248 rfl nz ?_
          refine x_iconst dX12_init_255 rfl iC_m1 ?_
          refine x_istore dX12_init_256 rfl (by decide) ?_
          exact x_to (bod a i j _ (-1) ha hi c244 (if_neg z).symm (ih c244)) ⟨rfl, rfl, rfl, rfl, rfl, trivial⟩) 0 (Nat.zero_le _)
    exact key
  have li : ∀ a f, a ≤ 4 → xWP G l mX12_init d (zM G Q) 0 0 351 (xls [(0, .ref cs.length), (1, .int (nI a))]) [] (lh (cs ++ kX12s cs.length (sgI a f a) (fun _ => 0))) → xWP G l mX12_init d (zM G Q) 0 0 233 (xls [(0, .ref cs.length), (1, .int (nI a))]) [] (lh (cs ++ kX12s cs.length f (fun _ => 0))) := by
    intro a f ha kk
    have key := xloop (P := fun i => xWP G l mX12_init d (zM G Q) 0 0 235 (xls [(0, .ref cs.length), (1, .int (nI a)), (2, .int (nI i))]) [] (lh (cs ++ kX12s cs.length (sgI a f i) (fun _ => 0)))) a (by
      intro i hi ih
      refine x_iload_n (i := 2) dX12_init_235 rfl rfl rfl ?_
      refine x_iload_n (i := 1) dX12_init_236 rfl rfl rfl ?_
      refine x_jc_ge (tgt := 351) dX12_init_237 rfl rfl (by omega) (by omega) (fun c237 => ?_) (fun c237 => ?_)
      · obtain rfl : i = a := by omega
        exact x_to kk ⟨rfl, rfl, trivial⟩
      · refine x_iconst dX12_init_240 rfl iC_0 ?_
        refine x_istore_n (i := 3) dX12_init_241 rfl rfl (by decide) ?_
        refine x_to (lj a i _ ha c237 ?_) ⟨rfl, rfl, rfl, rfl, trivial⟩
        refine x_iinc dX12_init_345 rfl rfl (inc1 _) ?_
        refine x_goto (tgt := 235) dX12_init_348 rfl ?_
        exact x_to (ih c237) ⟨rfl, rfl, rfl, trivial⟩) 0 (Nat.zero_le _)
    refine x_iconst dX12_init_233 rfl iC_0 ?_
    refine x_istore_n (i := 2) dX12_init_234 rfl rfl (by decide) ?_
    exact x_to key ⟨rfl, rfl, rfl, trivial⟩
  have la : ∀ a f, a ≤ 4 → xWP G l mX12_init d (zM G Q) 0 0 227 (xls [(0, .ref cs.length), (1, .int (nI (a * 2)))]) [] (lh (cs ++ kX12s cs.length (sgI a f a) (fun _ => 0))) → xWP G l mX12_init d (zM G Q) 0 0 227 (xls [(0, .ref cs.length), (1, .int (nI a))]) [] (lh (cs ++ kX12s cs.length f (fun _ => 0))) := by
    intro a f ha kk
    refine x_iload_n (i := 1) dX12_init_227 rfl rfl rfl ?_
    refine x_bipush dX12_init_228 rfl bC_8 ?_
    refine x_jc_ge (tgt := 358) dX12_init_230 rfl rfl (by omega) (by omega) (fun c230 => ?_) (fun c230 => ?_)
    · exfalso
      omega
    refine x_to (li a f ha ?_) ⟨rfl, rfl, trivial⟩
    refine x_iload_n (i := 1) dX12_init_351 rfl rfl rfl ?_
    refine x_iconst dX12_init_352 rfl iC_2 ?_
    refine x_imul dX12_init_353 rfl ?_
    rw [show nI a * nI 2 = nI (a * 2) from nI_mul8 _ _]
    refine x_istore_n (i := 1) dX12_init_354 rfl rfl (by decide) ?_
    refine x_goto (tgt := 227) dX12_init_355 rfl ?_
    exact x_to kk ⟨rfl, rfl, trivial⟩
  have fin : xWP G l mX12_init d (zM G Q) 0 0 227 (xls [(0, .ref cs.length), (1, .int (nI 8))]) [] (lh (cs ++ kX12s cs.length sgF (fun _ => 0))) := by
    refine x_iload_n (i := 1) dX12_init_227 rfl rfl rfl ?_
    refine x_bipush dX12_init_228 rfl bC_8 ?_
    refine x_jc_ge (tgt := 358) dX12_init_230 rfl rfl (by omega) (by omega) (fun c230 => ?_) (fun c230 => ?_)
    rotate_left
    · exfalso
      omega
    refine x_aload_n (i := 0) dX12_init_358 rfl rfl rfl ?_
    refine y_get (i := 0) (v := .ref (cs.length + 2)) dX12_init_359 rfl fX12_17 rfl rfl ?_
    refine x_bipush dX12_init_362 rfl bC_64 ?_
    refine x_iconst dX12_init_364 rfl iC_2 ?_
    refine y_iast (kX12 cs.length) (N := 1240) (i := 2) (j := 64) (g := fun _ => 0) dX12_init_365 rfl (Nat.le_of_ble_eq_true rfl) rfl rfl (by decide) (by decide) rfl ?_
    refine x_return dX12_init_366 rfl ?_
    exact K
  refine x_aload_n (i := 0) dX12_init_218 rfl rfl rfl ?_
  refine y_get (i := 0) (v := .ref (cs.length + 1)) dX12_init_219 rfl fX12_13 rfl rfl ?_
  refine x_iconst dX12_init_222 rfl iC_0 ?_
  refine x_iconst dX12_init_223 rfl iC_1 ?_
  refine y_iast (kX12s cs.length sg0 (fun _ => 0)) (N := 64) (i := 1) (j := 0) (g := fun _ => 0) dX12_init_224 rfl (Nat.le_of_ble_eq_true rfl) rfl rfl (by decide) (by decide) rfl ?_
  refine x_iconst dX12_init_225 rfl iC_1 ?_
  refine x_istore_n (i := 1) dX12_init_226 rfl rfl (by decide) ?_
  exact x_to (la 1 _ (by decide) (la 2 _ (by decide) (la 4 _ (by decide) fin))) ⟨rfl, rfl, trivial⟩
theorem X12_eq (n : Nat) : bX12_25 n :: rX12_27 n = kX12s n (fun _ => 0) (fun _ => 0) := by
  simp only [rX12_0, rX12_1, rX12_2, rX12_3, rX12_4, rX12_5, rX12_6, rX12_7, rX12_8, rX12_9, rX12_10, rX12_11, rX12_12, rX12_13, rX12_14, rX12_15, rX12_16, rX12_17, rX12_18, rX12_19, rX12_20, rX12_21, rX12_22, rX12_23, rX12_24, rX12_25, rX12_26, rX12_27, List.nil_append, List.cons_append]
  rfl
theorem i_X12 {G : xG} {l : Launch} {d : Nat} {Q : Option Value → xH → Prop} {cs : List xC} (hd : 1 ≤ d) (hz : cs.length ≤ 500000) (K : Q none (lh (cs ++ kX12 cs.length))) : xCt G l mX12_init d [.ref cs.length] (lh (cs ++ [(112, 0, fun j => defaultValue (xtys 12 j))])) 23 133400 Q := w_X12a hd hz (by rw [X12_eq]; exact w_X12s K)

