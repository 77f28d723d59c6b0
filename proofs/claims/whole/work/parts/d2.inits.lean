/-! the small constructors, made by gend2.py -/
set_option maxRecDepth 4000
theorem flX7_9 : Cond.fieldLink RX7 9 "EightParts$Reckoner" "result" "[J" ∈ xTT := (xIn1 42 rfl rfl)
theorem flX7_15 : Cond.fieldLink RX7 15 "EightParts$Reckoner" "middle" "[I" ∈ xTT := (xIn1 43 rfl rfl)
theorem flX7_19 : Cond.fieldLink RX7 19 "EightParts$Reckoner" "mirrored" "[I" ∈ xTT := (xIn1 44 rfl rfl)
def kX7 (n : Nat) : List xC := [(107, 0, updV (updV (updV ((fun j => defaultValue (xtys 7 j))) 0 (.ref (n + 1))) 1 (.ref (n + 2))) 2 (.ref (n + 3))), (1, 8, fun _ => defaultValue (xty 1)), (0, 8, fun _ => defaultValue (xty 0)), (0, 8, fun _ => defaultValue (xty 0))]
theorem klX7 (n : Nat) : (kX7 n).length = 4 := rfl
theorem i_X7 {G : xG} {l : Launch} {d : Nat} {Q : Option Value → xH → Prop} {cs : List xC} (hd : 1 ≤ d) (hz : cs.length ≤ 500000) (K : Q none (lh (cs ++ kX7 cs.length))) : xCt G l mX7_init d [.ref cs.length] (lh (cs ++ [(107, 0, fun j => defaultValue (xtys 7 j))])) 3 24 Q := by
  refine xCt_of (by decide) (Nat.le_of_ble_eq_true rfl) ?_
  refine x_aload_n (i := 0) dX7_init_0 rfl rfl rfl ?_
  refine x_objInit dX7_init_1 rfl oX7_3 oi_i oi_c hd (Nat.le_of_ble_eq_true rfl) ?_
  refine x_aload_n (i := 0) dX7_init_4 rfl rfl rfl ?_
  refine x_bipush dX7_init_5 rfl bC_8 ?_
  refine y_newarr _ (ty := 1) (N := 8) (m := 1) (k := 2) (n := 16) dX7_init_7 rfl (by decide) ac_long rfl (by decide) hz rfl (by decide) rfl ?_
  refine y_putF _ (i := 0) dX7_init_9 rfl fX7_9 (fun q hq => by cases hq; exact ⟨rfl, rfl, flX7_9⟩) rfl (Nat.le_of_ble_eq_true rfl) rfl ⟨rfl, rfl⟩ rfl ?_
  refine x_aload_n (i := 0) dX7_init_12 rfl rfl rfl ?_
  refine x_bipush dX7_init_13 rfl bC_8 ?_
  refine y_newarr _ (ty := 0) (N := 8) (m := 2) (k := 1) (n := 8) dX7_init_15 rfl (by decide) ac_int rfl (by decide) hz rfl (by decide) rfl ?_
  refine y_putF _ (i := 0) dX7_init_17 rfl fX7_15 (fun q hq => by cases hq; exact ⟨rfl, rfl, flX7_15⟩) rfl (Nat.le_of_ble_eq_true rfl) rfl ⟨rfl, rfl⟩ rfl ?_
  refine x_aload_n (i := 0) dX7_init_20 rfl rfl rfl ?_
  refine x_bipush dX7_init_21 rfl bC_8 ?_
  refine y_newarr _ (ty := 0) (N := 8) (m := 3) (k := 0) (n := 0) dX7_init_23 rfl (by decide) ac_int rfl (by decide) hz rfl (by decide) rfl ?_
  refine y_putF _ (i := 0) dX7_init_25 rfl fX7_19 (fun q hq => by cases hq; exact ⟨rfl, rfl, flX7_19⟩) rfl (Nat.le_of_ble_eq_true rfl) rfl ⟨rfl, rfl⟩ rfl ?_
  refine x_return dX7_init_28 rfl ?_
  exact K
theorem flX2_17 : Cond.fieldLink RX2 17 "EightParts$Lattice" "near" "[[J" ∈ xTT := (xIn1 66 rfl rfl)
theorem flX2_20 : Cond.fieldLink RX2 20 "EightParts$Lattice" "misses" "[[J" ∈ xTT := (xIn1 67 rfl rfl)
theorem flX2_23 : Cond.fieldLink RX2 23 "EightParts$Lattice" "chosen" "[J" ∈ xTT := (xIn1 68 rfl rfl)
def kX2 (n : Nat) : List xC := [(102, 0, updV (updV (updV (updV ((fun j => defaultValue (xtys 2 j))) 0 (.int (nI 1))) 1 (.ref (n + 1))) 2 (.ref (n + 4))) 3 (.ref (n + 7))), (5, 2, xP (fun q => n + 1 + 1 + q)), (1, 8, fun _ => defaultValue (xty 1)), (1, 8, fun _ => defaultValue (xty 1)), (5, 2, xP (fun q => n + 4 + 1 + q)), (1, 8, fun _ => defaultValue (xty 1)), (1, 8, fun _ => defaultValue (xty 1)), (1, 8, fun _ => defaultValue (xty 1))]
theorem klX2 (n : Nat) : (kX2 n).length = 8 := rfl
theorem i_X2 {G : xG} {l : Launch} {d : Nat} {Q : Option Value → xH → Prop} {cs : List xC} (hd : 1 ≤ d) (hz : cs.length ≤ 500000) (K : Q none (lh (cs ++ kX2 cs.length))) : xCt G l mX2_init d [.ref cs.length] (lh (cs ++ [(102, 0, fun j => defaultValue (xtys 2 j))])) 7 44 Q := by
  refine xCt_of (by decide) (Nat.le_of_ble_eq_true rfl) ?_
  refine x_aload_n (i := 0) dX2_init_0 rfl rfl rfl ?_
  refine x_objInit dX2_init_1 rfl oX2_3 oi_i oi_c hd (Nat.le_of_ble_eq_true rfl) ?_
  refine x_aload_n (i := 0) dX2_init_4 rfl rfl rfl ?_
  refine x_iconst dX2_init_5 rfl iC_1 ?_
  refine y_put _ (i := 0) dX2_init_6 rfl fX2_9 (fun q hq => by cases hq; rfl) (Nat.le_of_ble_eq_true rfl) rfl ⟨rfl, rfl⟩ rfl ?_
  refine x_aload_n (i := 0) dX2_init_9 rfl rfl rfl ?_
  refine x_iconst dX2_init_10 rfl iC_2 ?_
  refine x_bipush dX2_init_11 rfl bC_8 ?_
  refine y_mna _ (ty := 1) (N := 2) (K := 8) (m := 1) (k := 4) (n := 26) dX2_init_13 rfl (by decide) lX2_15 ac_long rfl rfl (by decide) (by decide) hz rfl (by decide) rfl ?_
  refine y_putF _ (i := 0) dX2_init_17 rfl fX2_17 (fun q hq => by cases hq; exact ⟨rfl, rfl, flX2_17⟩) rfl (Nat.le_of_ble_eq_true rfl) rfl ⟨rfl, rfl⟩ rfl ?_
  refine x_aload_n (i := 0) dX2_init_20 rfl rfl rfl ?_
  refine x_iconst dX2_init_21 rfl iC_2 ?_
  refine x_bipush dX2_init_22 rfl bC_8 ?_
  refine y_mna _ (ty := 1) (N := 2) (K := 8) (m := 4) (k := 1) (n := 8) dX2_init_24 rfl (by decide) lX2_15 ac_long rfl rfl (by decide) (by decide) hz rfl (by decide) rfl ?_
  refine y_putF _ (i := 0) dX2_init_28 rfl fX2_20 (fun q hq => by cases hq; exact ⟨rfl, rfl, flX2_20⟩) rfl (Nat.le_of_ble_eq_true rfl) rfl ⟨rfl, rfl⟩ rfl ?_
  refine x_aload_n (i := 0) dX2_init_31 rfl rfl rfl ?_
  refine x_bipush dX2_init_32 rfl bC_8 ?_
  refine y_newarr _ (ty := 1) (N := 8) (m := 7) (k := 0) (n := 0) dX2_init_34 rfl (by decide) ac_long rfl (by decide) hz rfl (by decide) rfl ?_
  refine y_putF _ (i := 0) dX2_init_36 rfl fX2_23 (fun q hq => by cases hq; exact ⟨rfl, rfl, flX2_23⟩) rfl (Nat.le_of_ble_eq_true rfl) rfl ⟨rfl, rfl⟩ rfl ?_
  refine x_return dX2_init_39 rfl ?_
  exact K
theorem flX4_11 : Cond.fieldLink RX4 11 "EightParts$Lists" "rows" "[[I" ∈ xTT := (xIn1 87 rfl rfl)
theorem flX4_16 : Cond.fieldLink RX4 16 "EightParts$Lists" "sizes" "[I" ∈ xTT := (xIn1 88 rfl rfl)
theorem flX4_20 : Cond.fieldLink RX4 20 "EightParts$Lists" "madeFor" "[I" ∈ xTT := (xIn1 89 rfl rfl)
theorem flX4_23 : Cond.fieldLink RX4 23 "EightParts$Lists" "oddWords" "[I" ∈ xTT := (xIn1 90 rfl rfl)
theorem flX4_26 : Cond.fieldLink RX4 26 "EightParts$Lists" "lattice" "LEightParts$Lattice;" ∈ xTT := (xIn1 85 rfl rfl)
def kX4 (n a1 : Nat) : List xC := [(104, 0, updV (updV (updV (updV (updV ((fun j => defaultValue (xtys 4 j))) 1 (.ref (n + 1))) 2 (.ref (n + 6))) 3 (.ref (n + 7))) 4 (.ref (n + 8))) 0 (.ref a1)), (4, 4, xP (fun q => n + 1 + 1 + q)), (0, 0, fun _ => defaultValue (xty 0)), (0, 0, fun _ => defaultValue (xty 0)), (0, 0, fun _ => defaultValue (xty 0)), (0, 0, fun _ => defaultValue (xty 0)), (0, 4, fun _ => defaultValue (xty 0)), (0, 4, xI (upd (upd (upd (upd (fun _ => 0) 0 ((-1))) 1 ((-1))) 2 ((-1))) 3 ((-1)))), (0, 8, fun _ => defaultValue (xty 0))]
theorem klX4 (n a1 : Nat) : (kX4 n a1).length = 9 := rfl
theorem i_X4 {G : xG} {l : Launch} {d : Nat} {Q : Option Value → xH → Prop} {cs : List xC} {a1 : Nat} (hd : 1 ≤ d) (hz : cs.length ≤ 500000) (K : Q none (lh (cs ++ kX4 cs.length a1))) : xCt G l mX4_init d [.ref cs.length, .ref a1] (lh (cs ++ [(104, 0, fun j => defaultValue (xtys 4 j))])) 8 20 Q := by
  refine xCt_of (by decide) (Nat.le_of_ble_eq_true rfl) ?_
  refine x_aload_n (i := 0) dX4_init_0 rfl rfl rfl ?_
  refine x_objInit dX4_init_1 rfl oX4_3 oi_i oi_c hd (Nat.le_of_ble_eq_true rfl) ?_
  refine x_aload_n (i := 0) dX4_init_4 rfl rfl rfl ?_
  refine x_iconst dX4_init_5 rfl iC_4 ?_
  refine x_iconst dX4_init_6 rfl iC_0 ?_
  refine y_mna _ (ty := 0) (N := 4) (K := 0) (m := 1) (k := 3) (n := 16) dX4_init_7 rfl (by decide) lX4_9 ac_int rfl rfl (by decide) (by decide) hz rfl (by decide) rfl ?_
  refine y_putF _ (i := 0) dX4_init_11 rfl fX4_11 (fun q hq => by cases hq; exact ⟨rfl, rfl, flX4_11⟩) rfl (Nat.le_of_ble_eq_true rfl) rfl ⟨rfl, rfl⟩ rfl ?_
  refine x_aload_n (i := 0) dX4_init_14 rfl rfl rfl ?_
  refine x_iconst dX4_init_15 rfl iC_4 ?_
  refine y_newarr _ (ty := 0) (N := 4) (m := 6) (k := 2) (n := 12) dX4_init_16 rfl (by decide) ac_int rfl (by decide) hz rfl (by decide) rfl ?_
  refine y_putF _ (i := 0) dX4_init_18 rfl fX4_16 (fun q hq => by cases hq; exact ⟨rfl, rfl, flX4_16⟩) rfl (Nat.le_of_ble_eq_true rfl) rfl ⟨rfl, rfl⟩ rfl ?_
  refine x_aload_n (i := 0) dX4_init_21 rfl rfl rfl ?_
  refine x_iconst dX4_init_22 rfl iC_4 ?_
  refine y_newarr _ (ty := 0) (N := 4) (m := 7) (k := 1) (n := 8) dX4_init_23 rfl (by decide) ac_int rfl (by decide) hz rfl (by decide) rfl ?_
  refine x_dup dX4_init_25 rfl rfl ?_
  refine x_iconst dX4_init_26 rfl iC_0 ?_
  refine x_iconst dX4_init_27 rfl iC_m1 ?_
  refine y_iast _ (N := 4) (j := 0) (i := 7) (g := fun _ => 0) dX4_init_28 rfl (Nat.le_of_ble_eq_true rfl) rfl rfl (by decide) (by decide) rfl ?_
  refine x_dup dX4_init_29 rfl rfl ?_
  refine x_iconst dX4_init_30 rfl iC_1 ?_
  refine x_iconst dX4_init_31 rfl iC_m1 ?_
  refine y_iast _ (N := 4) (j := 1) (i := 7) (g := upd (fun _ => 0) 0 ((-1))) dX4_init_32 rfl (Nat.le_of_ble_eq_true rfl) rfl rfl (by decide) (by decide) rfl ?_
  refine x_dup dX4_init_33 rfl rfl ?_
  refine x_iconst dX4_init_34 rfl iC_2 ?_
  refine x_iconst dX4_init_35 rfl iC_m1 ?_
  refine y_iast _ (N := 4) (j := 2) (i := 7) (g := upd (upd (fun _ => 0) 0 ((-1))) 1 ((-1))) dX4_init_36 rfl (Nat.le_of_ble_eq_true rfl) rfl rfl (by decide) (by decide) rfl ?_
  refine x_dup dX4_init_37 rfl rfl ?_
  refine x_iconst dX4_init_38 rfl iC_3 ?_
  refine x_iconst dX4_init_39 rfl iC_m1 ?_
  refine y_iast _ (N := 4) (j := 3) (i := 7) (g := upd (upd (upd (fun _ => 0) 0 ((-1))) 1 ((-1))) 2 ((-1))) dX4_init_40 rfl (Nat.le_of_ble_eq_true rfl) rfl rfl (by decide) (by decide) rfl ?_
  refine y_putF _ (i := 0) dX4_init_41 rfl fX4_20 (fun q hq => by cases hq; exact ⟨rfl, rfl, flX4_20⟩) rfl (Nat.le_of_ble_eq_true rfl) rfl ⟨rfl, rfl⟩ rfl ?_
  refine x_aload_n (i := 0) dX4_init_44 rfl rfl rfl ?_
  refine x_bipush dX4_init_45 rfl bC_8 ?_
  refine y_newarr _ (ty := 0) (N := 8) (m := 8) (k := 0) (n := 0) dX4_init_47 rfl (by decide) ac_int rfl (by decide) hz rfl (by decide) rfl ?_
  refine y_putF _ (i := 0) dX4_init_49 rfl fX4_23 (fun q hq => by cases hq; exact ⟨rfl, rfl, flX4_23⟩) rfl (Nat.le_of_ble_eq_true rfl) rfl ⟨rfl, rfl⟩ rfl ?_
  refine x_aload_n (i := 0) dX4_init_52 rfl rfl rfl ?_
  refine x_aload_n (i := 1) dX4_init_53 rfl rfl rfl ?_
  refine y_putF _ (i := 0) dX4_init_54 rfl fX4_26 (fun q hq => by cases hq; exact ⟨rfl, rfl, flX4_26⟩) rfl (Nat.le_of_ble_eq_true rfl) rfl ⟨rfl, rfl⟩ rfl ?_
  refine x_return dX4_init_57 rfl ?_
  exact K
theorem flX9_9 : Cond.fieldLink RX9 9 "EightParts$Units" "x" "[I" ∈ xTT := (xIn1 110 rfl rfl)
theorem flX9_15 : Cond.fieldLink RX9 15 "EightParts$Units" "y" "[I" ∈ xTT := (xIn1 111 rfl rfl)
theorem flX9_25 : Cond.fieldLink RX9 25 "EightParts$Units" "members" "[I" ∈ xTT := (xIn1 114 rfl rfl)
theorem flX9_28 : Cond.fieldLink RX9 28 "EightParts$Units" "isMember" "[Z" ∈ xTT := (xIn1 115 rfl rfl)
theorem flX9_35 : Cond.fieldLink RX9 35 "EightParts$Units" "lists" "LEightParts$Lists;" ∈ xTT := (xIn1 108 rfl rfl)
theorem flX9_39 : Cond.fieldLink RX9 39 "EightParts$Units" "reckoner" "LEightParts$Reckoner;" ∈ xTT := (xIn1 109 rfl rfl)
def kX9 (n a1 a2 : Nat) : List xC := [(109, 0, updV (updV (updV (updV (updV (updV (updV (updV (updV ((fun j => defaultValue (xtys 9 j))) 2 (.ref (n + 1))) 3 (.ref (n + 2))) 4 (.ref (n + 3))) 5 (.int (-1))) 6 (.ref (n + 4))) 7 (.ref (n + 5))) 8 (.int (nI 0))) 0 (.ref a1)) 1 (.ref a2)), (0, 8, fun _ => defaultValue (xty 0)), (0, 8, fun _ => defaultValue (xty 0)), (0, 0, fun _ => defaultValue (xty 0)), (0, 240, fun _ => defaultValue (xty 0)), (2, 240, fun _ => defaultValue (xty 2))]
theorem klX9 (n a1 a2 : Nat) : (kX9 n a1 a2).length = 6 := rfl
theorem i_X9 {G : xG} {l : Launch} {d : Nat} {Q : Option Value → xH → Prop} {cs : List xC} {a1 a2 : Nat} (hd : 1 ≤ d) (hz : cs.length ≤ 500000) (K : Q none (lh (cs ++ kX9 cs.length a1 a2))) : xCt G l mX9_init d [.ref cs.length, .ref a1, .ref a2] (lh (cs ++ [(109, 0, fun j => defaultValue (xtys 9 j))])) 5 496 Q := by
  refine xCt_of (by decide) (Nat.le_of_ble_eq_true rfl) ?_
  refine x_aload_n (i := 0) dX9_init_0 rfl rfl rfl ?_
  refine x_objInit dX9_init_1 rfl oX9_3 oi_i oi_c hd (Nat.le_of_ble_eq_true rfl) ?_
  refine x_aload_n (i := 0) dX9_init_4 rfl rfl rfl ?_
  refine x_bipush dX9_init_5 rfl bC_8 ?_
  refine y_newarr _ (ty := 0) (N := 8) (m := 1) (k := 4) (n := 488) dX9_init_7 rfl (by decide) ac_int rfl (by decide) hz rfl (by decide) rfl ?_
  refine y_putF _ (i := 0) dX9_init_9 rfl fX9_9 (fun q hq => by cases hq; exact ⟨rfl, rfl, flX9_9⟩) rfl (Nat.le_of_ble_eq_true rfl) rfl ⟨rfl, rfl⟩ rfl ?_
  refine x_aload_n (i := 0) dX9_init_12 rfl rfl rfl ?_
  refine x_bipush dX9_init_13 rfl bC_8 ?_
  refine y_newarr _ (ty := 0) (N := 8) (m := 2) (k := 3) (n := 480) dX9_init_15 rfl (by decide) ac_int rfl (by decide) hz rfl (by decide) rfl ?_
  refine y_putF _ (i := 0) dX9_init_17 rfl fX9_15 (fun q hq => by cases hq; exact ⟨rfl, rfl, flX9_15⟩) rfl (Nat.le_of_ble_eq_true rfl) rfl ⟨rfl, rfl⟩ rfl ?_
  refine x_aload_n (i := 0) dX9_init_20 rfl rfl rfl ?_
  refine x_iconst dX9_init_21 rfl iC_0 ?_
  refine y_newarr _ (ty := 0) (N := 0) (m := 3) (k := 2) (n := 480) dX9_init_22 rfl (by decide) ac_int rfl (by decide) hz rfl (by decide) rfl ?_
  refine y_put _ (i := 0) dX9_init_24 rfl fX9_18 (fun q hq => by cases hq; rfl) (Nat.le_of_ble_eq_true rfl) rfl ⟨rfl, rfl⟩ rfl ?_
  refine x_aload_n (i := 0) dX9_init_27 rfl rfl rfl ?_
  refine x_iconst dX9_init_28 rfl iC_m1 ?_
  refine y_put _ (i := 0) dX9_init_29 rfl fX9_21 (fun q hq => by cases hq; rfl) (Nat.le_of_ble_eq_true rfl) rfl ⟨rfl, rfl⟩ rfl ?_
  refine x_aload_n (i := 0) dX9_init_32 rfl rfl rfl ?_
  refine x_sipush dX9_init_33 rfl sC_240 ?_
  refine y_newarr _ (ty := 0) (N := 240) (m := 4) (k := 1) (n := 240) dX9_init_36 rfl (by decide) ac_int rfl (by decide) hz rfl (by decide) rfl ?_
  refine y_putF _ (i := 0) dX9_init_38 rfl fX9_25 (fun q hq => by cases hq; exact ⟨rfl, rfl, flX9_25⟩) rfl (Nat.le_of_ble_eq_true rfl) rfl ⟨rfl, rfl⟩ rfl ?_
  refine x_aload_n (i := 0) dX9_init_41 rfl rfl rfl ?_
  refine x_sipush dX9_init_42 rfl sC_240 ?_
  refine y_newarr _ (ty := 2) (N := 240) (m := 5) (k := 0) (n := 0) dX9_init_45 rfl (by decide) ac_boolean rfl (by decide) hz rfl (by decide) rfl ?_
  refine y_putF _ (i := 0) dX9_init_47 rfl fX9_28 (fun q hq => by cases hq; exact ⟨rfl, rfl, flX9_28⟩) rfl (Nat.le_of_ble_eq_true rfl) rfl ⟨rfl, rfl⟩ rfl ?_
  refine x_aload_n (i := 0) dX9_init_50 rfl rfl rfl ?_
  refine x_iconst dX9_init_51 rfl iC_0 ?_
  refine y_put _ (i := 0) dX9_init_52 rfl fX9_32 (fun q hq => by cases hq; rfl) (Nat.le_of_ble_eq_true rfl) rfl ⟨rfl, rfl⟩ rfl ?_
  refine x_aload_n (i := 0) dX9_init_55 rfl rfl rfl ?_
  refine x_aload_n (i := 1) dX9_init_56 rfl rfl rfl ?_
  refine y_putF _ (i := 0) dX9_init_57 rfl fX9_35 (fun q hq => by cases hq; exact ⟨rfl, rfl, flX9_35⟩) rfl (Nat.le_of_ble_eq_true rfl) rfl ⟨rfl, rfl⟩ rfl ?_
  refine x_aload_n (i := 0) dX9_init_60 rfl rfl rfl ?_
  refine x_aload_n (i := 2) dX9_init_61 rfl rfl rfl ?_
  refine y_putF _ (i := 0) dX9_init_62 rfl fX9_39 (fun q hq => by cases hq; exact ⟨rfl, rfl, flX9_39⟩) rfl (Nat.le_of_ble_eq_true rfl) rfl ⟨rfl, rfl⟩ rfl ?_
  refine x_return dX9_init_65 rfl ?_
  exact K
theorem flX0_9 : Cond.fieldLink RX0 9 "EightParts$Divider" "quotient" "[I" ∈ xTT := (xIn1 146 rfl rfl)
theorem flX0_15 : Cond.fieldLink RX0 15 "EightParts$Divider" "rest" "[I" ∈ xTT := (xIn1 148 rfl rfl)
theorem flX0_18 : Cond.fieldLink RX0 18 "EightParts$Divider" "mirrored" "[I" ∈ xTT := (xIn1 150 rfl rfl)
theorem flX0_21 : Cond.fieldLink RX0 21 "EightParts$Divider" "dividend" "[I" ∈ xTT := (xIn1 151 rfl rfl)
theorem flX0_24 : Cond.fieldLink RX0 24 "EightParts$Divider" "divided" "[I" ∈ xTT := (xIn1 152 rfl rfl)
theorem flX0_27 : Cond.fieldLink RX0 27 "EightParts$Divider" "wide" "[J" ∈ xTT := (xIn1 153 rfl rfl)
theorem flX0_39 : Cond.fieldLink RX0 39 "EightParts$Divider" "lattice" "LEightParts$Lattice;" ∈ xTT := (xIn1 144 rfl rfl)
theorem flX0_43 : Cond.fieldLink RX0 43 "EightParts$Divider" "reckoner" "LEightParts$Reckoner;" ∈ xTT := (xIn1 145 rfl rfl)
def kX0 (n a1 a2 : Nat) : List xC := [(100, 0, updV (updV (updV (updV (updV (updV (updV (updV (updV (updV ((fun j => defaultValue (xtys 0 j))) 2 (.ref (n + 1))) 3 (.ref (n + 2))) 4 (.ref (n + 3))) 5 (.ref (n + 4))) 6 (.ref (n + 5))) 7 (.ref (n + 6))) 8 (.int (nI 0))) 9 (.long 0)) 0 (.ref a1)) 1 (.ref a2)), (0, 8, fun _ => defaultValue (xty 0)), (0, 8, fun _ => defaultValue (xty 0)), (0, 8, fun _ => defaultValue (xty 0)), (0, 8, fun _ => defaultValue (xty 0)), (0, 8, fun _ => defaultValue (xty 0)), (1, 8, fun _ => defaultValue (xty 1))]
theorem klX0 (n a1 a2 : Nat) : (kX0 n a1 a2).length = 7 := rfl
theorem i_X0 {G : xG} {l : Launch} {d : Nat} {Q : Option Value → xH → Prop} {cs : List xC} {a1 a2 : Nat} (hd : 1 ≤ d) (hz : cs.length ≤ 500000) (K : Q none (lh (cs ++ kX0 cs.length a1 a2))) : xCt G l mX0_init d [.ref cs.length, .ref a1, .ref a2] (lh (cs ++ [(100, 0, fun j => defaultValue (xtys 0 j))])) 6 48 Q := by
  refine xCt_of (by decide) (Nat.le_of_ble_eq_true rfl) ?_
  refine x_aload_n (i := 0) dX0_init_0 rfl rfl rfl ?_
  refine x_objInit dX0_init_1 rfl oX0_3 oi_i oi_c hd (Nat.le_of_ble_eq_true rfl) ?_
  refine x_aload_n (i := 0) dX0_init_4 rfl rfl rfl ?_
  refine x_bipush dX0_init_5 rfl bC_8 ?_
  refine y_newarr _ (ty := 0) (N := 8) (m := 1) (k := 5) (n := 40) dX0_init_7 rfl (by decide) ac_int rfl (by decide) hz rfl (by decide) rfl ?_
  refine y_putF _ (i := 0) dX0_init_9 rfl fX0_9 (fun q hq => by cases hq; exact ⟨rfl, rfl, flX0_9⟩) rfl (Nat.le_of_ble_eq_true rfl) rfl ⟨rfl, rfl⟩ rfl ?_
  refine x_aload_n (i := 0) dX0_init_12 rfl rfl rfl ?_
  refine x_bipush dX0_init_13 rfl bC_8 ?_
  refine y_newarr _ (ty := 0) (N := 8) (m := 2) (k := 4) (n := 32) dX0_init_15 rfl (by decide) ac_int rfl (by decide) hz rfl (by decide) rfl ?_
  refine y_putF _ (i := 0) dX0_init_17 rfl fX0_15 (fun q hq => by cases hq; exact ⟨rfl, rfl, flX0_15⟩) rfl (Nat.le_of_ble_eq_true rfl) rfl ⟨rfl, rfl⟩ rfl ?_
  refine x_aload_n (i := 0) dX0_init_20 rfl rfl rfl ?_
  refine x_bipush dX0_init_21 rfl bC_8 ?_
  refine y_newarr _ (ty := 0) (N := 8) (m := 3) (k := 3) (n := 24) dX0_init_23 rfl (by decide) ac_int rfl (by decide) hz rfl (by decide) rfl ?_
  refine y_putF _ (i := 0) dX0_init_25 rfl fX0_18 (fun q hq => by cases hq; exact ⟨rfl, rfl, flX0_18⟩) rfl (Nat.le_of_ble_eq_true rfl) rfl ⟨rfl, rfl⟩ rfl ?_
  refine x_aload_n (i := 0) dX0_init_28 rfl rfl rfl ?_
  refine x_bipush dX0_init_29 rfl bC_8 ?_
  refine y_newarr _ (ty := 0) (N := 8) (m := 4) (k := 2) (n := 16) dX0_init_31 rfl (by decide) ac_int rfl (by decide) hz rfl (by decide) rfl ?_
  refine y_putF _ (i := 0) dX0_init_33 rfl fX0_21 (fun q hq => by cases hq; exact ⟨rfl, rfl, flX0_21⟩) rfl (Nat.le_of_ble_eq_true rfl) rfl ⟨rfl, rfl⟩ rfl ?_
  refine x_aload_n (i := 0) dX0_init_36 rfl rfl rfl ?_
  refine x_bipush dX0_init_37 rfl bC_8 ?_
  refine y_newarr _ (ty := 0) (N := 8) (m := 5) (k := 1) (n := 8) dX0_init_39 rfl (by decide) ac_int rfl (by decide) hz rfl (by decide) rfl ?_
  refine y_putF _ (i := 0) dX0_init_41 rfl fX0_24 (fun q hq => by cases hq; exact ⟨rfl, rfl, flX0_24⟩) rfl (Nat.le_of_ble_eq_true rfl) rfl ⟨rfl, rfl⟩ rfl ?_
  refine x_aload_n (i := 0) dX0_init_44 rfl rfl rfl ?_
  refine x_bipush dX0_init_45 rfl bC_8 ?_
  refine y_newarr _ (ty := 1) (N := 8) (m := 6) (k := 0) (n := 0) dX0_init_47 rfl (by decide) ac_long rfl (by decide) hz rfl (by decide) rfl ?_
  refine y_putF _ (i := 0) dX0_init_49 rfl fX0_27 (fun q hq => by cases hq; exact ⟨rfl, rfl, flX0_27⟩) rfl (Nat.le_of_ble_eq_true rfl) rfl ⟨rfl, rfl⟩ rfl ?_
  refine x_aload_n (i := 0) dX0_init_52 rfl rfl rfl ?_
  refine x_iconst dX0_init_53 rfl iC_0 ?_
  refine y_put _ (i := 0) dX0_init_54 rfl fX0_31 (fun q hq => by cases hq; rfl) (Nat.le_of_ble_eq_true rfl) rfl ⟨rfl, rfl⟩ rfl ?_
  refine x_aload_n (i := 0) dX0_init_57 rfl rfl rfl ?_
  refine x_lconst dX0_init_58 rfl lC_0 ?_
  refine y_put _ (i := 0) dX0_init_59 rfl fX0_35 (fun q hq => by cases hq; rfl) (Nat.le_of_ble_eq_true rfl) rfl ⟨rfl, rfl⟩ rfl ?_
  refine x_aload_n (i := 0) dX0_init_62 rfl rfl rfl ?_
  refine x_aload_n (i := 1) dX0_init_63 rfl rfl rfl ?_
  refine y_putF _ (i := 0) dX0_init_64 rfl fX0_39 (fun q hq => by cases hq; exact ⟨rfl, rfl, flX0_39⟩) rfl (Nat.le_of_ble_eq_true rfl) rfl ⟨rfl, rfl⟩ rfl ?_
  refine x_aload_n (i := 0) dX0_init_67 rfl rfl rfl ?_
  refine x_aload_n (i := 2) dX0_init_68 rfl rfl rfl ?_
  refine y_putF _ (i := 0) dX0_init_69 rfl fX0_43 (fun q hq => by cases hq; exact ⟨rfl, rfl, flX0_43⟩) rfl (Nat.le_of_ble_eq_true rfl) rfl ⟨rfl, rfl⟩ rfl ?_
  refine x_return dX0_init_72 rfl ?_
  exact K
theorem flX3_9 : Cond.fieldLink RX3 9 "EightParts$Laws" "xx" "[I" ∈ xTT := (xIn1 186 rfl rfl)
theorem flX3_15 : Cond.fieldLink RX3 15 "EightParts$Laws" "xy" "[I" ∈ xTT := (xIn1 187 rfl rfl)
theorem flX3_18 : Cond.fieldLink RX3 18 "EightParts$Laws" "yx" "[I" ∈ xTT := (xIn1 188 rfl rfl)
theorem flX3_21 : Cond.fieldLink RX3 21 "EightParts$Laws" "yz" "[I" ∈ xTT := (xIn1 189 rfl rfl)
theorem flX3_24 : Cond.fieldLink RX3 24 "EightParts$Laws" "zx" "[I" ∈ xTT := (xIn1 190 rfl rfl)
theorem flX3_27 : Cond.fieldLink RX3 27 "EightParts$Laws" "zy" "[I" ∈ xTT := (xIn1 191 rfl rfl)
theorem flX3_30 : Cond.fieldLink RX3 30 "EightParts$Laws" "left" "[I" ∈ xTT := (xIn1 192 rfl rfl)
theorem flX3_33 : Cond.fieldLink RX3 33 "EightParts$Laws" "right" "[I" ∈ xTT := (xIn1 193 rfl rfl)
theorem flX3_36 : Cond.fieldLink RX3 36 "EightParts$Laws" "reckoner" "LEightParts$Reckoner;" ∈ xTT := (xIn1 185 rfl rfl)
def kX3 (n a1 : Nat) : List xC := [(103, 0, updV (updV (updV (updV (updV (updV (updV (updV (updV ((fun j => defaultValue (xtys 3 j))) 1 (.ref (n + 1))) 2 (.ref (n + 2))) 3 (.ref (n + 3))) 4 (.ref (n + 4))) 5 (.ref (n + 5))) 6 (.ref (n + 6))) 7 (.ref (n + 7))) 8 (.ref (n + 8))) 0 (.ref a1)), (0, 8, fun _ => defaultValue (xty 0)), (0, 8, fun _ => defaultValue (xty 0)), (0, 8, fun _ => defaultValue (xty 0)), (0, 8, fun _ => defaultValue (xty 0)), (0, 8, fun _ => defaultValue (xty 0)), (0, 8, fun _ => defaultValue (xty 0)), (0, 8, fun _ => defaultValue (xty 0)), (0, 8, fun _ => defaultValue (xty 0))]
theorem klX3 (n a1 : Nat) : (kX3 n a1).length = 9 := rfl
theorem i_X3 {G : xG} {l : Launch} {d : Nat} {Q : Option Value → xH → Prop} {cs : List xC} {a1 : Nat} (hd : 1 ≤ d) (hz : cs.length ≤ 500000) (K : Q none (lh (cs ++ kX3 cs.length a1))) : xCt G l mX3_init d [.ref cs.length, .ref a1] (lh (cs ++ [(103, 0, fun j => defaultValue (xtys 3 j))])) 8 64 Q := by
  refine xCt_of (by decide) (Nat.le_of_ble_eq_true rfl) ?_
  refine x_aload_n (i := 0) dX3_init_0 rfl rfl rfl ?_
  refine x_objInit dX3_init_1 rfl oX3_3 oi_i oi_c hd (Nat.le_of_ble_eq_true rfl) ?_
  refine x_aload_n (i := 0) dX3_init_4 rfl rfl rfl ?_
  refine x_bipush dX3_init_5 rfl bC_8 ?_
  refine y_newarr _ (ty := 0) (N := 8) (m := 1) (k := 7) (n := 56) dX3_init_7 rfl (by decide) ac_int rfl (by decide) hz rfl (by decide) rfl ?_
  refine y_putF _ (i := 0) dX3_init_9 rfl fX3_9 (fun q hq => by cases hq; exact ⟨rfl, rfl, flX3_9⟩) rfl (Nat.le_of_ble_eq_true rfl) rfl ⟨rfl, rfl⟩ rfl ?_
  refine x_aload_n (i := 0) dX3_init_12 rfl rfl rfl ?_
  refine x_bipush dX3_init_13 rfl bC_8 ?_
  refine y_newarr _ (ty := 0) (N := 8) (m := 2) (k := 6) (n := 48) dX3_init_15 rfl (by decide) ac_int rfl (by decide) hz rfl (by decide) rfl ?_
  refine y_putF _ (i := 0) dX3_init_17 rfl fX3_15 (fun q hq => by cases hq; exact ⟨rfl, rfl, flX3_15⟩) rfl (Nat.le_of_ble_eq_true rfl) rfl ⟨rfl, rfl⟩ rfl ?_
  refine x_aload_n (i := 0) dX3_init_20 rfl rfl rfl ?_
  refine x_bipush dX3_init_21 rfl bC_8 ?_
  refine y_newarr _ (ty := 0) (N := 8) (m := 3) (k := 5) (n := 40) dX3_init_23 rfl (by decide) ac_int rfl (by decide) hz rfl (by decide) rfl ?_
  refine y_putF _ (i := 0) dX3_init_25 rfl fX3_18 (fun q hq => by cases hq; exact ⟨rfl, rfl, flX3_18⟩) rfl (Nat.le_of_ble_eq_true rfl) rfl ⟨rfl, rfl⟩ rfl ?_
  refine x_aload_n (i := 0) dX3_init_28 rfl rfl rfl ?_
  refine x_bipush dX3_init_29 rfl bC_8 ?_
  refine y_newarr _ (ty := 0) (N := 8) (m := 4) (k := 4) (n := 32) dX3_init_31 rfl (by decide) ac_int rfl (by decide) hz rfl (by decide) rfl ?_
  refine y_putF _ (i := 0) dX3_init_33 rfl fX3_21 (fun q hq => by cases hq; exact ⟨rfl, rfl, flX3_21⟩) rfl (Nat.le_of_ble_eq_true rfl) rfl ⟨rfl, rfl⟩ rfl ?_
  refine x_aload_n (i := 0) dX3_init_36 rfl rfl rfl ?_
  refine x_bipush dX3_init_37 rfl bC_8 ?_
  refine y_newarr _ (ty := 0) (N := 8) (m := 5) (k := 3) (n := 24) dX3_init_39 rfl (by decide) ac_int rfl (by decide) hz rfl (by decide) rfl ?_
  refine y_putF _ (i := 0) dX3_init_41 rfl fX3_24 (fun q hq => by cases hq; exact ⟨rfl, rfl, flX3_24⟩) rfl (Nat.le_of_ble_eq_true rfl) rfl ⟨rfl, rfl⟩ rfl ?_
  refine x_aload_n (i := 0) dX3_init_44 rfl rfl rfl ?_
  refine x_bipush dX3_init_45 rfl bC_8 ?_
  refine y_newarr _ (ty := 0) (N := 8) (m := 6) (k := 2) (n := 16) dX3_init_47 rfl (by decide) ac_int rfl (by decide) hz rfl (by decide) rfl ?_
  refine y_putF _ (i := 0) dX3_init_49 rfl fX3_27 (fun q hq => by cases hq; exact ⟨rfl, rfl, flX3_27⟩) rfl (Nat.le_of_ble_eq_true rfl) rfl ⟨rfl, rfl⟩ rfl ?_
  refine x_aload_n (i := 0) dX3_init_52 rfl rfl rfl ?_
  refine x_bipush dX3_init_53 rfl bC_8 ?_
  refine y_newarr _ (ty := 0) (N := 8) (m := 7) (k := 1) (n := 8) dX3_init_55 rfl (by decide) ac_int rfl (by decide) hz rfl (by decide) rfl ?_
  refine y_putF _ (i := 0) dX3_init_57 rfl fX3_30 (fun q hq => by cases hq; exact ⟨rfl, rfl, flX3_30⟩) rfl (Nat.le_of_ble_eq_true rfl) rfl ⟨rfl, rfl⟩ rfl ?_
  refine x_aload_n (i := 0) dX3_init_60 rfl rfl rfl ?_
  refine x_bipush dX3_init_61 rfl bC_8 ?_
  refine y_newarr _ (ty := 0) (N := 8) (m := 8) (k := 0) (n := 0) dX3_init_63 rfl (by decide) ac_int rfl (by decide) hz rfl (by decide) rfl ?_
  refine y_putF _ (i := 0) dX3_init_65 rfl fX3_33 (fun q hq => by cases hq; exact ⟨rfl, rfl, flX3_33⟩) rfl (Nat.le_of_ble_eq_true rfl) rfl ⟨rfl, rfl⟩ rfl ?_
  refine x_aload_n (i := 0) dX3_init_68 rfl rfl rfl ?_
  refine x_aload_n (i := 1) dX3_init_69 rfl rfl rfl ?_
  refine y_putF _ (i := 0) dX3_init_70 rfl fX3_36 (fun q hq => by cases hq; exact ⟨rfl, rfl, flX3_36⟩) rfl (Nat.le_of_ble_eq_true rfl) rfl ⟨rfl, rfl⟩ rfl ?_
  refine x_return dX3_init_73 rfl ?_
  exact K
theorem flX10_16 : Cond.fieldLink RX10 16 "EightParts$Ways" "can" "[Z" ∈ xTT := (xIn1 222 rfl rfl)
theorem flX10_20 : Cond.fieldLink RX10 20 "EightParts$Ways" "reckoner" "LEightParts$Reckoner;" ∈ xTT := (xIn1 220 rfl rfl)
def kX10 (n a1 : Nat) : List xC := [(110, 0, updV (updV (updV ((fun j => defaultValue (xtys 10 j))) 1 (.ref (n + 1))) 2 (.ref (n + 2))) 0 (.ref a1)), (4, 0, xP (fun q => n + 1 + 1 + q)), (2, 104, fun _ => defaultValue (xty 2))]
theorem klX10 (n a1 : Nat) : (kX10 n a1).length = 3 := rfl
theorem i_X10 {G : xG} {l : Launch} {d : Nat} {Q : Option Value → xH → Prop} {cs : List xC} {a1 : Nat} (hd : 1 ≤ d) (hz : cs.length ≤ 500000) (K : Q none (lh (cs ++ kX10 cs.length a1))) : xCt G l mX10_init d [.ref cs.length, .ref a1] (lh (cs ++ [(110, 0, fun j => defaultValue (xtys 10 j))])) 2 104 Q := by
  refine xCt_of (by decide) (Nat.le_of_ble_eq_true rfl) ?_
  refine x_aload_n (i := 0) dX10_init_0 rfl rfl rfl ?_
  refine x_objInit dX10_init_1 rfl oX10_3 oi_i oi_c hd (Nat.le_of_ble_eq_true rfl) ?_
  refine x_aload_n (i := 0) dX10_init_4 rfl rfl rfl ?_
  refine x_iconst dX10_init_5 rfl iC_0 ?_
  refine x_iconst dX10_init_6 rfl iC_0 ?_
  refine y_mna _ (ty := 0) (N := 0) (K := 0) (m := 1) (k := 1) (n := 104) dX10_init_7 rfl (by decide) lX10_9 ac_int rfl rfl (by decide) (by decide) hz rfl (by decide) rfl ?_
  refine y_put _ (i := 0) dX10_init_11 rfl fX10_11 (fun q hq => by cases hq; rfl) (Nat.le_of_ble_eq_true rfl) rfl ⟨rfl, rfl⟩ rfl ?_
  refine x_aload_n (i := 0) dX10_init_14 rfl rfl rfl ?_
  refine x_bipush dX10_init_15 rfl bC_104 ?_
  refine y_newarr _ (ty := 2) (N := 104) (m := 2) (k := 0) (n := 0) dX10_init_17 rfl (by decide) ac_boolean rfl (by decide) hz rfl (by decide) rfl ?_
  refine y_putF _ (i := 0) dX10_init_19 rfl fX10_16 (fun q hq => by cases hq; exact ⟨rfl, rfl, flX10_16⟩) rfl (Nat.le_of_ble_eq_true rfl) rfl ⟨rfl, rfl⟩ rfl ?_
  refine x_aload_n (i := 0) dX10_init_22 rfl rfl rfl ?_
  refine x_aload_n (i := 1) dX10_init_23 rfl rfl rfl ?_
  refine y_putF _ (i := 0) dX10_init_24 rfl fX10_20 (fun q hq => by cases hq; exact ⟨rfl, rfl, flX10_20⟩) rfl (Nat.le_of_ble_eq_true rfl) rfl ⟨rfl, rfl⟩ rfl ?_
  refine x_return dX10_init_27 rfl ?_
  exact K
theorem flX8_11 : Cond.fieldLink RX8 11 "EightParts$Tape" "bytes" "[B" ∈ xTT := (xIn1 236 rfl rfl)
def kX8 (n : Nat) : List xC := [(108, 0, updV (updV ((fun j => defaultValue (xtys 8 j))) 0 (.ref (n + 1))) 1 (.int (nI 0))), (3, 200, fun _ => defaultValue (xty 3))]
theorem klX8 (n : Nat) : (kX8 n).length = 2 := rfl
theorem i_X8 {G : xG} {l : Launch} {d : Nat} {Q : Option Value → xH → Prop} {cs : List xC} (hd : 1 ≤ d) (hz : cs.length ≤ 500000) (K : Q none (lh (cs ++ kX8 cs.length))) : xCt G l mX8_init d [.ref cs.length] (lh (cs ++ [(108, 0, fun j => defaultValue (xtys 8 j))])) 1 200 Q := by
  refine xCt_of (by decide) (Nat.le_of_ble_eq_true rfl) ?_
  refine x_aload_n (i := 0) dX8_init_0 rfl rfl rfl ?_
  refine x_objInit dX8_init_1 rfl oX8_3 oi_i oi_c hd (Nat.le_of_ble_eq_true rfl) ?_
  refine x_aload_n (i := 0) dX8_init_4 rfl rfl rfl ?_
  refine x_sipush dX8_init_5 rfl sC_200 ?_
  refine y_newarr _ (ty := 3) (N := 200) (m := 1) (k := 0) (n := 0) dX8_init_8 rfl (by decide) ac_byte rfl (by decide) hz rfl (by decide) rfl ?_
  refine y_putF _ (i := 0) dX8_init_10 rfl fX8_11 (fun q hq => by cases hq; exact ⟨rfl, rfl, flX8_11⟩) rfl (Nat.le_of_ble_eq_true rfl) rfl ⟨rfl, rfl⟩ rfl ?_
  refine x_aload_n (i := 0) dX8_init_13 rfl rfl rfl ?_
  refine x_iconst dX8_init_14 rfl iC_0 ?_
  refine y_put _ (i := 0) dX8_init_15 rfl fX8_15 (fun q hq => by cases hq; rfl) (Nat.le_of_ble_eq_true rfl) rfl ⟨rfl, rfl⟩ rfl ?_
  refine x_return dX8_init_18 rfl ?_
  exact K
theorem flX6_13 : Cond.fieldLink RX6 13 "EightParts$Reader" "sums" "[[I" ∈ xTT := (xIn2 16 rfl rfl)
theorem flX6_16 : Cond.fieldLink RX6 16 "EightParts$Reader" "terms" "[[I" ∈ xTT := (xIn2 17 rfl rfl)
theorem flX6_19 : Cond.fieldLink RX6 19 "EightParts$Reader" "factors" "[[I" ∈ xTT := (xIn2 18 rfl rfl)
theorem flX6_33 : Cond.fieldLink RX6 33 "EightParts$Reader" "tape" "LEightParts$Tape;" ∈ xTT := (xIn2 13 rfl rfl)
theorem flX6_37 : Cond.fieldLink RX6 37 "EightParts$Reader" "slots" "[[I" ∈ xTT := (xIn2 14 rfl rfl)
theorem flX6_40 : Cond.fieldLink RX6 40 "EightParts$Reader" "reckoner" "LEightParts$Reckoner;" ∈ xTT := (xIn2 15 rfl rfl)
def kX6 (n a1 a2 a3 : Nat) : List xC := [(106, 0, updV (updV (updV (updV (updV (updV (updV (updV (updV ((fun j => defaultValue (xtys 6 j))) 3 (.ref (n + 1))) 4 (.ref (n + 15))) 5 (.ref (n + 29))) 6 (.int (nI 0))) 7 (.int (-1))) 8 (.int (nI 1))) 0 (.ref a1)) 1 (.ref a2)) 2 (.ref a3)), (4, 13, xP (fun q => n + 1 + 1 + q)), (0, 8, fun _ => defaultValue (xty 0)), (0, 8, fun _ => defaultValue (xty 0)), (0, 8, fun _ => defaultValue (xty 0)), (0, 8, fun _ => defaultValue (xty 0)), (0, 8, fun _ => defaultValue (xty 0)), (0, 8, fun _ => defaultValue (xty 0)), (0, 8, fun _ => defaultValue (xty 0)), (0, 8, fun _ => defaultValue (xty 0)), (0, 8, fun _ => defaultValue (xty 0)), (0, 8, fun _ => defaultValue (xty 0)), (0, 8, fun _ => defaultValue (xty 0)), (0, 8, fun _ => defaultValue (xty 0)), (0, 8, fun _ => defaultValue (xty 0)), (4, 13, xP (fun q => n + 15 + 1 + q)), (0, 8, fun _ => defaultValue (xty 0)), (0, 8, fun _ => defaultValue (xty 0)), (0, 8, fun _ => defaultValue (xty 0)), (0, 8, fun _ => defaultValue (xty 0)), (0, 8, fun _ => defaultValue (xty 0)), (0, 8, fun _ => defaultValue (xty 0)), (0, 8, fun _ => defaultValue (xty 0)), (0, 8, fun _ => defaultValue (xty 0)), (0, 8, fun _ => defaultValue (xty 0)), (0, 8, fun _ => defaultValue (xty 0)), (0, 8, fun _ => defaultValue (xty 0)), (0, 8, fun _ => defaultValue (xty 0)), (0, 8, fun _ => defaultValue (xty 0)), (4, 13, xP (fun q => n + 29 + 1 + q)), (0, 8, fun _ => defaultValue (xty 0)), (0, 8, fun _ => defaultValue (xty 0)), (0, 8, fun _ => defaultValue (xty 0)), (0, 8, fun _ => defaultValue (xty 0)), (0, 8, fun _ => defaultValue (xty 0)), (0, 8, fun _ => defaultValue (xty 0)), (0, 8, fun _ => defaultValue (xty 0)), (0, 8, fun _ => defaultValue (xty 0)), (0, 8, fun _ => defaultValue (xty 0)), (0, 8, fun _ => defaultValue (xty 0)), (0, 8, fun _ => defaultValue (xty 0)), (0, 8, fun _ => defaultValue (xty 0)), (0, 8, fun _ => defaultValue (xty 0))]
theorem klX6 (n a1 a2 a3 : Nat) : (kX6 n a1 a2 a3).length = 43 := rfl
theorem i_X6 {G : xG} {l : Launch} {d : Nat} {Q : Option Value → xH → Prop} {cs : List xC} {a1 a2 a3 : Nat} (hd : 1 ≤ d) (hz : cs.length ≤ 500000) (K : Q none (lh (cs ++ kX6 cs.length a1 a2 a3))) : xCt G l mX6_init d [.ref cs.length, .ref a1, .ref a2, .ref a3] (lh (cs ++ [(106, 0, fun j => defaultValue (xtys 6 j))])) 42 351 Q := by
  refine xCt_of (by decide) (Nat.le_of_ble_eq_true rfl) ?_
  refine x_aload_n (i := 0) dX6_init_0 rfl rfl rfl ?_
  refine x_objInit dX6_init_1 rfl oX6_3 oi_i oi_c hd (Nat.le_of_ble_eq_true rfl) ?_
  refine x_aload_n (i := 0) dX6_init_4 rfl rfl rfl ?_
  refine x_bipush dX6_init_5 rfl bC_13 ?_
  refine x_bipush dX6_init_7 rfl bC_8 ?_
  refine y_mna _ (ty := 0) (N := 13) (K := 8) (m := 1) (k := 28) (n := 234) dX6_init_9 rfl (by decide) lX6_11 ac_int rfl rfl (by decide) (by decide) hz rfl (by decide) rfl ?_
  refine y_putF _ (i := 0) dX6_init_13 rfl fX6_13 (fun q hq => by cases hq; exact ⟨rfl, rfl, flX6_13⟩) rfl (Nat.le_of_ble_eq_true rfl) rfl ⟨rfl, rfl⟩ rfl ?_
  refine x_aload_n (i := 0) dX6_init_16 rfl rfl rfl ?_
  refine x_bipush dX6_init_17 rfl bC_13 ?_
  refine x_bipush dX6_init_19 rfl bC_8 ?_
  refine y_mna _ (ty := 0) (N := 13) (K := 8) (m := 15) (k := 14) (n := 117) dX6_init_21 rfl (by decide) lX6_11 ac_int rfl rfl (by decide) (by decide) hz rfl (by decide) rfl ?_
  refine y_putF _ (i := 0) dX6_init_25 rfl fX6_16 (fun q hq => by cases hq; exact ⟨rfl, rfl, flX6_16⟩) rfl (Nat.le_of_ble_eq_true rfl) rfl ⟨rfl, rfl⟩ rfl ?_
  refine x_aload_n (i := 0) dX6_init_28 rfl rfl rfl ?_
  refine x_bipush dX6_init_29 rfl bC_13 ?_
  refine x_bipush dX6_init_31 rfl bC_8 ?_
  refine y_mna _ (ty := 0) (N := 13) (K := 8) (m := 29) (k := 0) (n := 0) dX6_init_33 rfl (by decide) lX6_11 ac_int rfl rfl (by decide) (by decide) hz rfl (by decide) rfl ?_
  refine y_putF _ (i := 0) dX6_init_37 rfl fX6_19 (fun q hq => by cases hq; exact ⟨rfl, rfl, flX6_19⟩) rfl (Nat.le_of_ble_eq_true rfl) rfl ⟨rfl, rfl⟩ rfl ?_
  refine x_aload_n (i := 0) dX6_init_40 rfl rfl rfl ?_
  refine x_iconst dX6_init_41 rfl iC_0 ?_
  refine y_put _ (i := 0) dX6_init_42 rfl fX6_22 (fun q hq => by cases hq; rfl) (Nat.le_of_ble_eq_true rfl) rfl ⟨rfl, rfl⟩ rfl ?_
  refine x_aload_n (i := 0) dX6_init_45 rfl rfl rfl ?_
  refine x_iconst dX6_init_46 rfl iC_m1 ?_
  refine y_put _ (i := 0) dX6_init_47 rfl fX6_26 (fun q hq => by cases hq; rfl) (Nat.le_of_ble_eq_true rfl) rfl ⟨rfl, rfl⟩ rfl ?_
  refine x_aload_n (i := 0) dX6_init_50 rfl rfl rfl ?_
  refine x_iconst dX6_init_51 rfl iC_1 ?_
  refine y_put _ (i := 0) dX6_init_52 rfl fX6_29 (fun q hq => by cases hq; rfl) (Nat.le_of_ble_eq_true rfl) rfl ⟨rfl, rfl⟩ rfl ?_
  refine x_aload_n (i := 0) dX6_init_55 rfl rfl rfl ?_
  refine x_aload_n (i := 1) dX6_init_56 rfl rfl rfl ?_
  refine y_putF _ (i := 0) dX6_init_57 rfl fX6_33 (fun q hq => by cases hq; exact ⟨rfl, rfl, flX6_33⟩) rfl (Nat.le_of_ble_eq_true rfl) rfl ⟨rfl, rfl⟩ rfl ?_
  refine x_aload_n (i := 0) dX6_init_60 rfl rfl rfl ?_
  refine x_aload_n (i := 2) dX6_init_61 rfl rfl rfl ?_
  refine y_putF _ (i := 0) dX6_init_62 rfl fX6_37 (fun q hq => by cases hq; exact ⟨rfl, rfl, flX6_37⟩) rfl (Nat.le_of_ble_eq_true rfl) rfl ⟨rfl, rfl⟩ rfl ?_
  refine x_aload_n (i := 0) dX6_init_65 rfl rfl rfl ?_
  refine x_aload_n (i := 3) dX6_init_66 rfl rfl rfl ?_
  refine y_putF _ (i := 0) dX6_init_67 rfl fX6_40 (fun q hq => by cases hq; exact ⟨rfl, rfl, flX6_40⟩) rfl (Nat.le_of_ble_eq_true rfl) rfl ⟨rfl, rfl⟩ rfl ?_
  refine x_return dX6_init_70 rfl ?_
  exact K
theorem flX1_11 : Cond.fieldLink RX1 11 "EightParts$Keeper" "heldOrders" "[I" ∈ xTT := (xIn2 47 rfl rfl)
theorem flX1_15 : Cond.fieldLink RX1 15 "EightParts$Keeper" "numbers" "[I" ∈ xTT := (xIn2 48 rfl rfl)
def kX1 (n : Nat) : List xC := [(101, 0, updV (updV (updV ((fun j => defaultValue (xtys 1 j))) 0 (.ref (n + 1))) 1 (.ref (n + 2))) 2 (.int (nI 0))), (0, 6, fun _ => defaultValue (xty 0)), (0, 384, fun _ => defaultValue (xty 0))]
theorem klX1 (n : Nat) : (kX1 n).length = 3 := rfl
theorem i_X1 {G : xG} {l : Launch} {d : Nat} {Q : Option Value → xH → Prop} {cs : List xC} (hd : 1 ≤ d) (hz : cs.length ≤ 500000) (K : Q none (lh (cs ++ kX1 cs.length))) : xCt G l mX1_init d [.ref cs.length] (lh (cs ++ [(101, 0, fun j => defaultValue (xtys 1 j))])) 2 390 Q := by
  refine xCt_of (by decide) (Nat.le_of_ble_eq_true rfl) ?_
  refine x_aload_n (i := 0) dX1_init_0 rfl rfl rfl ?_
  refine x_objInit dX1_init_1 rfl oX1_3 oi_i oi_c hd (Nat.le_of_ble_eq_true rfl) ?_
  refine x_aload_n (i := 0) dX1_init_4 rfl rfl rfl ?_
  refine x_bipush dX1_init_5 rfl bC_6 ?_
  refine y_newarr _ (ty := 0) (N := 6) (m := 1) (k := 1) (n := 384) dX1_init_7 rfl (by decide) ac_int rfl (by decide) hz rfl (by decide) rfl ?_
  refine y_putF _ (i := 0) dX1_init_9 rfl fX1_11 (fun q hq => by cases hq; exact ⟨rfl, rfl, flX1_11⟩) rfl (Nat.le_of_ble_eq_true rfl) rfl ⟨rfl, rfl⟩ rfl ?_
  refine x_aload_n (i := 0) dX1_init_12 rfl rfl rfl ?_
  refine x_sipush dX1_init_13 rfl sC_384 ?_
  refine y_newarr _ (ty := 0) (N := 384) (m := 2) (k := 0) (n := 0) dX1_init_16 rfl (by decide) ac_int rfl (by decide) hz rfl (by decide) rfl ?_
  refine y_putF _ (i := 0) dX1_init_18 rfl fX1_15 (fun q hq => by cases hq; exact ⟨rfl, rfl, flX1_15⟩) rfl (Nat.le_of_ble_eq_true rfl) rfl ⟨rfl, rfl⟩ rfl ?_
  refine x_aload_n (i := 0) dX1_init_21 rfl rfl rfl ?_
  refine x_iconst dX1_init_22 rfl iC_0 ?_
  refine y_put _ (i := 0) dX1_init_23 rfl fX1_18 (fun q hq => by cases hq; rfl) (Nat.le_of_ble_eq_true rfl) rfl ⟨rfl, rfl⟩ rfl ?_
  refine x_return dX1_init_26 rfl ?_
  exact K

