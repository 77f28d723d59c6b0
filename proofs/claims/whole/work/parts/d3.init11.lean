/-! EightParts' constructor, made by gend3.py -/
set_option maxRecDepth 8000
def kJ4 (n : Nat) : List xC := [(113, 0, updV (updV (fun j => defaultValue (xtys 13 j)) 0 (.ref (n + 1))) 1 (.int (nI 0))), (3, 16, fun _ => defaultValue (xty 3))]
theorem i_J5 {G : xG} {l : Launch} {d : Nat} {Q : Option Value → xH → Prop} {cs : List xC} (hd : 1 ≤ d) (hz : cs.length ≤ 500000) (K : Q none (lh (cs ++ kJ4 cs.length))) : xCt G l mJ5_init_d00df d [.ref cs.length, .int (nI 16)] (lh (cs ++ [(113, 0, fun j => defaultValue (xtys 13 j))])) 1 16 Q := by
  refine xCt_ofF (by decide +kernel) (Nat.le_of_ble_eq_true rfl) ?_
  refine x_aload_n (i := 0) dJ5_init_d00df_0 rfl rfl rfl ?_
  refine x_objInit dJ5_init_d00df_1 rfl oJ5_3 oi_i oi_c hd (Nat.le_of_ble_eq_true rfl) ?_
  refine x_getZ (v := .int (nI 1)) dJ5_init_d00df_4 rfl tJ5_18 (fun s hs => hs.2.2.2.2.2.2.1) ?_
  refine x_if_eq_f (tgt := 25) dJ5_init_d00df_7 rfl rfl nb1 ?_
  refine x_aload_n (i := 0) dJ5_init_d00df_10 rfl rfl rfl ?_
  refine x_iload_n (i := 1) dJ5_init_d00df_11 rfl rfl rfl ?_
  refine y_newarr _ (ty := 3) (N := 16) (m := 1) (k := 0) (n := 0) dJ5_init_d00df_12 rfl (by decide) ac_byte rfl (by decide) hz rfl (by decide) rfl ?_
  refine y_put _ (i := 0) dJ5_init_d00df_14 rfl fJ5_15 (fun q hq => by cases hq; rfl) (Nat.le_of_ble_eq_true rfl) rfl ⟨rfl, rfl⟩ rfl ?_
  refine x_aload_n (i := 0) dJ5_init_d00df_17 rfl rfl rfl ?_
  refine x_iconst dJ5_init_d00df_18 rfl iC_0 ?_
  refine y_put _ (i := 0) dJ5_init_d00df_19 rfl fJ5_22 (fun q hq => by cases hq; rfl) (Nat.le_of_ble_eq_true rfl) rfl ⟨rfl, rfl⟩ rfl ?_
  refine x_goto (tgt := 38) dJ5_init_d00df_22 rfl ?_
  refine x_return dJ5_init_d00df_38 rfl ?_
  exact K
theorem i_J4 {G : xG} {l : Launch} {d : Nat} {Q : Option Value → xH → Prop} {cs : List xC} (hd : 2 ≤ d) (hz : cs.length ≤ 500000) (K : Q none (lh (cs ++ kJ4 cs.length))) : xCt G l mJ4_init_da8c8 d [.ref cs.length] (lh (cs ++ [(113, 0, fun j => defaultValue (xtys 13 j))])) 1 16 Q := by
  refine xCt_ofF (by decide +kernel) (Nat.le_of_ble_eq_true rfl) ?_
  refine x_aload_n (i := 0) dJ4_init_da8c8_0 rfl rfl rfl ?_
  refine x_bipush dJ4_init_da8c8_1 rfl bC_16 ?_
  refine x_callI (As := [_]) (d2 := d - 1) (mc2 := 1) (ms2 := 16) (k2 := 0) (n2 := 0) dJ4_init_da8c8_3 rfl kJ4_1 okJ5_init_d00df (by omega) rfl rfl (Nat.le_of_ble_eq_true rfl) (by omega) (by omega) (i_J5 (by omega) hz ?_)
  refine x_return dJ4_init_da8c8_6 rfl ?_
  exact K
def bX11_0 : xC := (111, 0, fun j => defaultValue (xtys 11 j))
def rX11_0 : List xC := []
def rX11_1 : List xC := rX11_0 ++ (4, 8, xP (fun q => 0 + 1 + 1 + q)) :: List.replicate 8 (0, 8, fun _ => defaultValue (xty 0))
def bX11_1 : xC := (111, 0, updV (fun j => defaultValue (xtys 11 j)) 0 (.ref 1))
theorem flX11_11 : Cond.fieldLink RX11 11 "EightParts" "slots" "[[I" ∈ xTT := (xIn2 89 rfl rfl)
def rX11_2 : List xC := rX11_1 ++ kX7 10
def bX11_2 : xC := (111, 0, updV (updV (fun j => defaultValue (xtys 11 j)) 0 (.ref 1)) 1 (.ref 10))
theorem flX11_17 : Cond.fieldLink RX11 17 "EightParts" "reckoner" "LEightParts$Reckoner;" ∈ xTT := (xIn2 90 rfl rfl)
def rX11_3 : List xC := rX11_2 ++ kX2 14
def bX11_3 : xC := (111, 0, updV (updV (updV (fun j => defaultValue (xtys 11 j)) 0 (.ref 1)) 1 (.ref 10)) 2 (.ref 14))
theorem flX11_24 : Cond.fieldLink RX11 24 "EightParts" "lattice" "LEightParts$Lattice;" ∈ xTT := (xIn2 91 rfl rfl)
def rX11_4 : List xC := rX11_3 ++ kX4 22 14
def bX11_4 : xC := (111, 0, updV (updV (updV (updV (fun j => defaultValue (xtys 11 j)) 0 (.ref 1)) 1 (.ref 10)) 2 (.ref 14)) 3 (.ref 22))
theorem flX11_33 : Cond.fieldLink RX11 33 "EightParts" "lists" "LEightParts$Lists;" ∈ xTT := (xIn2 92 rfl rfl)
def rX11_5 : List xC := rX11_4 ++ kX9 31 22 10
def bX11_5 : xC := (111, 0, updV (updV (updV (updV (updV (fun j => defaultValue (xtys 11 j)) 0 (.ref 1)) 1 (.ref 10)) 2 (.ref 14)) 3 (.ref 22)) 4 (.ref 31))
theorem flX11_42 : Cond.fieldLink RX11 42 "EightParts" "units" "LEightParts$Units;" ∈ xTT := (xIn2 93 rfl rfl)
def rX11_6 : List xC := rX11_5 ++ kX0 37 14 10
def bX11_6 : xC := (111, 0, updV (updV (updV (updV (updV (updV (fun j => defaultValue (xtys 11 j)) 0 (.ref 1)) 1 (.ref 10)) 2 (.ref 14)) 3 (.ref 22)) 4 (.ref 31)) 5 (.ref 37))
theorem flX11_51 : Cond.fieldLink RX11 51 "EightParts" "divider" "LEightParts$Divider;" ∈ xTT := (xIn2 94 rfl rfl)
def rX11_7 : List xC := rX11_6 ++ kX3 44 10
def bX11_7 : xC := (111, 0, updV (updV (updV (updV (updV (updV (updV (fun j => defaultValue (xtys 11 j)) 0 (.ref 1)) 1 (.ref 10)) 2 (.ref 14)) 3 (.ref 22)) 4 (.ref 31)) 5 (.ref 37)) 6 (.ref 44))
theorem flX11_60 : Cond.fieldLink RX11 60 "EightParts" "lawBook" "LEightParts$Laws;" ∈ xTT := (xIn2 95 rfl rfl)
def rX11_8 : List xC := rX11_7 ++ kX10 53 10
def bX11_8 : xC := (111, 0, updV (updV (updV (updV (updV (updV (updV (updV (fun j => defaultValue (xtys 11 j)) 0 (.ref 1)) 1 (.ref 10)) 2 (.ref 14)) 3 (.ref 22)) 4 (.ref 31)) 5 (.ref 37)) 6 (.ref 44)) 7 (.ref 53))
theorem flX11_67 : Cond.fieldLink RX11 67 "EightParts" "ways" "LEightParts$Ways;" ∈ xTT := (xIn2 96 rfl rfl)
def rX11_9 : List xC := rX11_8 ++ kX8 56
def bX11_9 : xC := (111, 0, updV (updV (updV (updV (updV (updV (updV (updV (updV (fun j => defaultValue (xtys 11 j)) 0 (.ref 1)) 1 (.ref 10)) 2 (.ref 14)) 3 (.ref 22)) 4 (.ref 31)) 5 (.ref 37)) 6 (.ref 44)) 7 (.ref 53)) 8 (.ref 56))
theorem flX11_74 : Cond.fieldLink RX11 74 "EightParts" "tape" "LEightParts$Tape;" ∈ xTT := (xIn2 97 rfl rfl)
def rX11_10 : List xC := rX11_9 ++ kX6 58 56 1 10
def bX11_10 : xC := (111, 0, updV (updV (updV (updV (updV (updV (updV (updV (updV (updV (fun j => defaultValue (xtys 11 j)) 0 (.ref 1)) 1 (.ref 10)) 2 (.ref 14)) 3 (.ref 22)) 4 (.ref 31)) 5 (.ref 37)) 6 (.ref 44)) 7 (.ref 53)) 8 (.ref 56)) 9 (.ref 58))
theorem flX11_83 : Cond.fieldLink RX11 83 "EightParts" "reader" "LEightParts$Reader;" ∈ xTT := (xIn2 98 rfl rfl)
def rX11_11 : List xC := rX11_10 ++ kX1 101
def bX11_11 : xC := (111, 0, updV (updV (updV (updV (updV (updV (updV (updV (updV (updV (updV (fun j => defaultValue (xtys 11 j)) 0 (.ref 1)) 1 (.ref 10)) 2 (.ref 14)) 3 (.ref 22)) 4 (.ref 31)) 5 (.ref 37)) 6 (.ref 44)) 7 (.ref 53)) 8 (.ref 56)) 9 (.ref 58)) 10 (.ref 101))
theorem flX11_90 : Cond.fieldLink RX11 90 "EightParts" "keeper" "LEightParts$Keeper;" ∈ xTT := (xIn2 99 rfl rfl)
def rX11_12 : List xC := rX11_11 ++ kJ4 104
def bX11_12 : xC := (111, 0, updV (updV (updV (updV (updV (updV (updV (updV (updV (updV (updV (updV (fun j => defaultValue (xtys 11 j)) 0 (.ref 1)) 1 (.ref 10)) 2 (.ref 14)) 3 (.ref 22)) 4 (.ref 31)) 5 (.ref 37)) 6 (.ref 44)) 7 (.ref 53)) 8 (.ref 56)) 9 (.ref 58)) 10 (.ref 101)) 11 (.ref 104))
theorem flX11_97 : Cond.fieldLink RX11 97 "EightParts" "spelled" "Ljava/lang/StringBuilder;" ∈ xTT := (xIn2 100 rfl rfl)
def rX11_13 : List xC := rX11_12 ++ [(0, 8, fun _ => defaultValue (xty 0))]
def bX11_13 : xC := (111, 0, updV (updV (updV (updV (updV (updV (updV (updV (updV (updV (updV (updV (updV (fun j => defaultValue (xtys 11 j)) 0 (.ref 1)) 1 (.ref 10)) 2 (.ref 14)) 3 (.ref 22)) 4 (.ref 31)) 5 (.ref 37)) 6 (.ref 44)) 7 (.ref 53)) 8 (.ref 56)) 9 (.ref 58)) 10 (.ref 101)) 11 (.ref 104)) 12 (.ref 106))
theorem flX11_101 : Cond.fieldLink RX11 101 "EightParts" "current" "[I" ∈ xTT := (xIn2 101 rfl rfl)
def rX11_14 : List xC := rX11_13 ++ [(0, 8, fun _ => defaultValue (xty 0))]
def bX11_14 : xC := (111, 0, updV (updV (updV (updV (updV (updV (updV (updV (updV (updV (updV (updV (updV (updV (fun j => defaultValue (xtys 11 j)) 0 (.ref 1)) 1 (.ref 10)) 2 (.ref 14)) 3 (.ref 22)) 4 (.ref 31)) 5 (.ref 37)) 6 (.ref 44)) 7 (.ref 53)) 8 (.ref 56)) 9 (.ref 58)) 10 (.ref 101)) 11 (.ref 104)) 12 (.ref 106)) 13 (.ref 107))
theorem flX11_105 : Cond.fieldLink RX11 105 "EightParts" "left" "[I" ∈ xTT := (xIn2 102 rfl rfl)
def rX11_15 : List xC := rX11_14 ++ [(0, 8, fun _ => defaultValue (xty 0))]
def bX11_15 : xC := (111, 0, updV (updV (updV (updV (updV (updV (updV (updV (updV (updV (updV (updV (updV (updV (updV (fun j => defaultValue (xtys 11 j)) 0 (.ref 1)) 1 (.ref 10)) 2 (.ref 14)) 3 (.ref 22)) 4 (.ref 31)) 5 (.ref 37)) 6 (.ref 44)) 7 (.ref 53)) 8 (.ref 56)) 9 (.ref 58)) 10 (.ref 101)) 11 (.ref 104)) 12 (.ref 106)) 13 (.ref 107)) 14 (.ref 108))
theorem flX11_108 : Cond.fieldLink RX11 108 "EightParts" "right" "[I" ∈ xTT := (xIn2 103 rfl rfl)
def rX11_16 : List xC := rX11_15 ++ [(1, 8, fun _ => defaultValue (xty 1))]
def bX11_16 : xC := (111, 0, updV (updV (updV (updV (updV (updV (updV (updV (updV (updV (updV (updV (updV (updV (updV (updV (fun j => defaultValue (xtys 11 j)) 0 (.ref 1)) 1 (.ref 10)) 2 (.ref 14)) 3 (.ref 22)) 4 (.ref 31)) 5 (.ref 37)) 6 (.ref 44)) 7 (.ref 53)) 8 (.ref 56)) 9 (.ref 58)) 10 (.ref 101)) 11 (.ref 104)) 12 (.ref 106)) 13 (.ref 107)) 14 (.ref 108)) 15 (.ref 109))
theorem flX11_111 : Cond.fieldLink RX11 111 "EightParts" "wide" "[J" ∈ xTT := (xIn2 104 rfl rfl)
def kX11 : List xC := (bX11_16 :: rX11_16)
theorem i_X11 {G : xG} {l : Launch} {d : Nat} {Q : Option Value → xH → Prop} (hd : 3 ≤ d) (K : Q none (lh kX11)) : xCt G l mX11_init d [.ref 0] (lh ([] ++ [bX11_0])) 109 1922 Q := by
  refine xCt_of (by decide) (Nat.le_of_ble_eq_true rfl) ?_
  refine x_aload_n (i := 0) dX11_init_0 rfl rfl rfl ?_
  refine x_objInit dX11_init_1 rfl oX11_3 oi_i oi_c (by omega) (Nat.le_of_ble_eq_true rfl) ?_
  refine x_aload_n (i := 0) dX11_init_4 rfl rfl rfl ?_
  refine x_bipush dX11_init_5 rfl bC_8 ?_
  refine x_bipush dX11_init_7 rfl bC_8 ?_
  refine y_mna (cs := []) (t := (bX11_0 :: rX11_0)) (bX11_0 :: rX11_1) (ty := 0) (N := 8) (K := 8) (m := 1) (k := 100) (n := 1850) dX11_init_9 rfl (by decide) lX11_9 ac_int rfl rfl (by decide) (by decide) (by decide) rfl (by decide) rfl ?_
  refine y_putF (cs := []) (t := (bX11_0 :: rX11_1)) (bX11_1 :: rX11_1) (i := 0) dX11_init_13 rfl fX11_11 (fun q hq => by cases hq; exact ⟨rfl, rfl, flX11_11⟩) rfl (Nat.le_of_ble_eq_true rfl) rfl ⟨rfl, rfl⟩ rfl ?_
  refine x_aload_n (i := 0) dX11_init_16 rfl rfl rfl ?_
  refine y_new (cs := []) (t := (bX11_1 :: rX11_1)) ((bX11_1 :: rX11_1) ++ [(107, 0, fun j => defaultValue (xtys 7 j))]) (ci := 7) (m := 10) (k := 99) (n := 1847) dX11_init_17 rfl rfl lX11_14 inX7 izX7 (by decide) rfl (by decide) rfl ?_
  refine x_dup dX11_init_20 rfl rfl ?_
  refine x_callI (b := 10) (As := []) (d2 := d - 1) (mc2 := 3) (ms2 := 24) (k2 := 96) (n2 := 1823) dX11_init_21 rfl kX11_16 okX7_init (by omega) rfl rfl (Nat.le_of_ble_eq_true rfl) (by omega) (by omega) (i_X7 (cs := (bX11_1 :: rX11_1)) (by omega) (by decide) ?_)
  change xWP G l mX11_init d (zM G Q) _ _ _ _ _ (lh ([] ++ (bX11_1 :: rX11_2)))
  refine y_putF (cs := []) (t := (bX11_1 :: rX11_2)) (bX11_2 :: rX11_2) (i := 0) dX11_init_24 rfl fX11_17 (fun q hq => by cases hq; exact ⟨rfl, rfl, flX11_17⟩) rfl (Nat.le_of_ble_eq_true rfl) rfl ⟨rfl, rfl⟩ rfl ?_
  refine x_aload_n (i := 0) dX11_init_27 rfl rfl rfl ?_
  refine y_new (cs := []) (t := (bX11_2 :: rX11_2)) ((bX11_2 :: rX11_2) ++ [(102, 0, fun j => defaultValue (xtys 2 j))]) (ci := 2) (m := 14) (k := 95) (n := 1819) dX11_init_28 rfl rfl lX11_21 inX2 izX2 (by decide) rfl (by decide) rfl ?_
  refine x_dup dX11_init_31 rfl rfl ?_
  refine x_callI (b := 14) (As := []) (d2 := d - 1) (mc2 := 7) (ms2 := 44) (k2 := 88) (n2 := 1775) dX11_init_32 rfl kX11_23 okX2_init (by omega) rfl rfl (Nat.le_of_ble_eq_true rfl) (by omega) (by omega) (i_X2 (cs := (bX11_2 :: rX11_2)) (by omega) (by decide) ?_)
  change xWP G l mX11_init d (zM G Q) _ _ _ _ _ (lh ([] ++ (bX11_2 :: rX11_3)))
  refine y_putF (cs := []) (t := (bX11_2 :: rX11_3)) (bX11_3 :: rX11_3) (i := 0) dX11_init_35 rfl fX11_24 (fun q hq => by cases hq; exact ⟨rfl, rfl, flX11_24⟩) rfl (Nat.le_of_ble_eq_true rfl) rfl ⟨rfl, rfl⟩ rfl ?_
  refine x_aload_n (i := 0) dX11_init_38 rfl rfl rfl ?_
  refine y_new (cs := []) (t := (bX11_3 :: rX11_3)) ((bX11_3 :: rX11_3) ++ [(104, 0, fun j => defaultValue (xtys 4 j))]) (ci := 4) (m := 22) (k := 87) (n := 1770) dX11_init_39 rfl rfl lX11_28 inX4 izX4 (by decide) rfl (by decide) rfl ?_
  refine x_dup dX11_init_42 rfl rfl ?_
  refine x_aload_n (i := 0) dX11_init_43 rfl rfl rfl ?_
  refine y_get (cs := []) (i := 0) (v := .ref 14) dX11_init_44 rfl fX11_24 rfl rfl ?_
  refine x_callI (b := 22) (As := [.ref 14]) (d2 := d - 1) (mc2 := 8) (ms2 := 20) (k2 := 79) (n2 := 1750) dX11_init_47 rfl kX11_30 okX4_init (by omega) rfl rfl (Nat.le_of_ble_eq_true rfl) (by omega) (by omega) (i_X4 (cs := (bX11_3 :: rX11_3)) (by omega) (by decide) ?_)
  change xWP G l mX11_init d (zM G Q) _ _ _ _ _ (lh ([] ++ (bX11_3 :: rX11_4)))
  refine y_putF (cs := []) (t := (bX11_3 :: rX11_4)) (bX11_4 :: rX11_4) (i := 0) dX11_init_50 rfl fX11_33 (fun q hq => by cases hq; exact ⟨rfl, rfl, flX11_33⟩) rfl (Nat.le_of_ble_eq_true rfl) rfl ⟨rfl, rfl⟩ rfl ?_
  refine x_aload_n (i := 0) dX11_init_53 rfl rfl rfl ?_
  refine y_new (cs := []) (t := (bX11_4 :: rX11_4)) ((bX11_4 :: rX11_4) ++ [(109, 0, fun j => defaultValue (xtys 9 j))]) (ci := 9) (m := 31) (k := 78) (n := 1741) dX11_init_54 rfl rfl lX11_37 inX9 izX9 (by decide) rfl (by decide) rfl ?_
  refine x_dup dX11_init_57 rfl rfl ?_
  refine x_aload_n (i := 0) dX11_init_58 rfl rfl rfl ?_
  refine y_get (cs := []) (i := 0) (v := .ref 22) dX11_init_59 rfl fX11_33 rfl rfl ?_
  refine x_aload_n (i := 0) dX11_init_62 rfl rfl rfl ?_
  refine y_get (cs := []) (i := 0) (v := .ref 10) dX11_init_63 rfl fX11_17 rfl rfl ?_
  refine x_callI (b := 31) (As := [.ref 22, .ref 10]) (d2 := d - 1) (mc2 := 5) (ms2 := 496) (k2 := 73) (n2 := 1245) dX11_init_66 rfl kX11_39 okX9_init (by omega) rfl rfl (Nat.le_of_ble_eq_true rfl) (by omega) (by omega) (i_X9 (cs := (bX11_4 :: rX11_4)) (by omega) (by decide) ?_)
  change xWP G l mX11_init d (zM G Q) _ _ _ _ _ (lh ([] ++ (bX11_4 :: rX11_5)))
  refine y_putF (cs := []) (t := (bX11_4 :: rX11_5)) (bX11_5 :: rX11_5) (i := 0) dX11_init_69 rfl fX11_42 (fun q hq => by cases hq; exact ⟨rfl, rfl, flX11_42⟩) rfl (Nat.le_of_ble_eq_true rfl) rfl ⟨rfl, rfl⟩ rfl ?_
  refine x_aload_n (i := 0) dX11_init_72 rfl rfl rfl ?_
  refine y_new (cs := []) (t := (bX11_5 :: rX11_5)) ((bX11_5 :: rX11_5) ++ [(100, 0, fun j => defaultValue (xtys 0 j))]) (ci := 0) (m := 37) (k := 72) (n := 1235) dX11_init_73 rfl rfl lX11_46 inX0 izX0 (by decide) rfl (by decide) rfl ?_
  refine x_dup dX11_init_76 rfl rfl ?_
  refine x_aload_n (i := 0) dX11_init_77 rfl rfl rfl ?_
  refine y_get (cs := []) (i := 0) (v := .ref 14) dX11_init_78 rfl fX11_24 rfl rfl ?_
  refine x_aload_n (i := 0) dX11_init_81 rfl rfl rfl ?_
  refine y_get (cs := []) (i := 0) (v := .ref 10) dX11_init_82 rfl fX11_17 rfl rfl ?_
  refine x_callI (b := 37) (As := [.ref 14, .ref 10]) (d2 := d - 1) (mc2 := 6) (ms2 := 48) (k2 := 66) (n2 := 1187) dX11_init_85 rfl kX11_48 okX0_init (by omega) rfl rfl (Nat.le_of_ble_eq_true rfl) (by omega) (by omega) (i_X0 (cs := (bX11_5 :: rX11_5)) (by omega) (by decide) ?_)
  change xWP G l mX11_init d (zM G Q) _ _ _ _ _ (lh ([] ++ (bX11_5 :: rX11_6)))
  refine y_putF (cs := []) (t := (bX11_5 :: rX11_6)) (bX11_6 :: rX11_6) (i := 0) dX11_init_88 rfl fX11_51 (fun q hq => by cases hq; exact ⟨rfl, rfl, flX11_51⟩) rfl (Nat.le_of_ble_eq_true rfl) rfl ⟨rfl, rfl⟩ rfl ?_
  refine x_aload_n (i := 0) dX11_init_91 rfl rfl rfl ?_
  refine y_new (cs := []) (t := (bX11_6 :: rX11_6)) ((bX11_6 :: rX11_6) ++ [(103, 0, fun j => defaultValue (xtys 3 j))]) (ci := 3) (m := 44) (k := 65) (n := 1178) dX11_init_92 rfl rfl lX11_55 inX3 izX3 (by decide) rfl (by decide) rfl ?_
  refine x_dup dX11_init_95 rfl rfl ?_
  refine x_aload_n (i := 0) dX11_init_96 rfl rfl rfl ?_
  refine y_get (cs := []) (i := 0) (v := .ref 10) dX11_init_97 rfl fX11_17 rfl rfl ?_
  refine x_callI (b := 44) (As := [.ref 10]) (d2 := d - 1) (mc2 := 8) (ms2 := 64) (k2 := 57) (n2 := 1114) dX11_init_100 rfl kX11_57 okX3_init (by omega) rfl rfl (Nat.le_of_ble_eq_true rfl) (by omega) (by omega) (i_X3 (cs := (bX11_6 :: rX11_6)) (by omega) (by decide) ?_)
  change xWP G l mX11_init d (zM G Q) _ _ _ _ _ (lh ([] ++ (bX11_6 :: rX11_7)))
  refine y_putF (cs := []) (t := (bX11_6 :: rX11_7)) (bX11_7 :: rX11_7) (i := 0) dX11_init_103 rfl fX11_60 (fun q hq => by cases hq; exact ⟨rfl, rfl, flX11_60⟩) rfl (Nat.le_of_ble_eq_true rfl) rfl ⟨rfl, rfl⟩ rfl ?_
  refine x_aload_n (i := 0) dX11_init_106 rfl rfl rfl ?_
  refine y_new (cs := []) (t := (bX11_7 :: rX11_7)) ((bX11_7 :: rX11_7) ++ [(110, 0, fun j => defaultValue (xtys 10 j))]) (ci := 10) (m := 53) (k := 56) (n := 1111) dX11_init_107 rfl rfl lX11_64 inX10 izX10 (by decide) rfl (by decide) rfl ?_
  refine x_dup dX11_init_110 rfl rfl ?_
  refine x_aload_n (i := 0) dX11_init_111 rfl rfl rfl ?_
  refine y_get (cs := []) (i := 0) (v := .ref 10) dX11_init_112 rfl fX11_17 rfl rfl ?_
  refine x_callI (b := 53) (As := [.ref 10]) (d2 := d - 1) (mc2 := 2) (ms2 := 104) (k2 := 54) (n2 := 1007) dX11_init_115 rfl kX11_66 okX10_init (by omega) rfl rfl (Nat.le_of_ble_eq_true rfl) (by omega) (by omega) (i_X10 (cs := (bX11_7 :: rX11_7)) (by omega) (by decide) ?_)
  change xWP G l mX11_init d (zM G Q) _ _ _ _ _ (lh ([] ++ (bX11_7 :: rX11_8)))
  refine y_putF (cs := []) (t := (bX11_7 :: rX11_8)) (bX11_8 :: rX11_8) (i := 0) dX11_init_118 rfl fX11_67 (fun q hq => by cases hq; exact ⟨rfl, rfl, flX11_67⟩) rfl (Nat.le_of_ble_eq_true rfl) rfl ⟨rfl, rfl⟩ rfl ?_
  refine x_aload_n (i := 0) dX11_init_121 rfl rfl rfl ?_
  refine y_new (cs := []) (t := (bX11_8 :: rX11_8)) ((bX11_8 :: rX11_8) ++ [(108, 0, fun j => defaultValue (xtys 8 j))]) (ci := 8) (m := 56) (k := 53) (n := 1005) dX11_init_122 rfl rfl lX11_71 inX8 izX8 (by decide) rfl (by decide) rfl ?_
  refine x_dup dX11_init_125 rfl rfl ?_
  refine x_callI (b := 56) (As := []) (d2 := d - 1) (mc2 := 1) (ms2 := 200) (k2 := 52) (n2 := 805) dX11_init_126 rfl kX11_73 okX8_init (by omega) rfl rfl (Nat.le_of_ble_eq_true rfl) (by omega) (by omega) (i_X8 (cs := (bX11_8 :: rX11_8)) (by omega) (by decide) ?_)
  change xWP G l mX11_init d (zM G Q) _ _ _ _ _ (lh ([] ++ (bX11_8 :: rX11_9)))
  refine y_putF (cs := []) (t := (bX11_8 :: rX11_9)) (bX11_9 :: rX11_9) (i := 0) dX11_init_129 rfl fX11_74 (fun q hq => by cases hq; exact ⟨rfl, rfl, flX11_74⟩) rfl (Nat.le_of_ble_eq_true rfl) rfl ⟨rfl, rfl⟩ rfl ?_
  refine x_aload_n (i := 0) dX11_init_132 rfl rfl rfl ?_
  refine y_new (cs := []) (t := (bX11_9 :: rX11_9)) ((bX11_9 :: rX11_9) ++ [(106, 0, fun j => defaultValue (xtys 6 j))]) (ci := 6) (m := 58) (k := 51) (n := 796) dX11_init_133 rfl rfl lX11_78 inX6 izX6 (by decide) rfl (by decide) rfl ?_
  refine x_dup dX11_init_136 rfl rfl ?_
  refine x_aload_n (i := 0) dX11_init_137 rfl rfl rfl ?_
  refine y_get (cs := []) (i := 0) (v := .ref 56) dX11_init_138 rfl fX11_74 rfl rfl ?_
  refine x_aload_n (i := 0) dX11_init_141 rfl rfl rfl ?_
  refine y_get (cs := []) (i := 0) (v := .ref 1) dX11_init_142 rfl fX11_11 rfl rfl ?_
  refine x_aload_n (i := 0) dX11_init_145 rfl rfl rfl ?_
  refine y_get (cs := []) (i := 0) (v := .ref 10) dX11_init_146 rfl fX11_17 rfl rfl ?_
  refine x_callI (b := 58) (As := [.ref 56, .ref 1, .ref 10]) (d2 := d - 1) (mc2 := 42) (ms2 := 351) (k2 := 9) (n2 := 445) dX11_init_149 rfl kX11_80 okX6_init (by omega) rfl rfl (Nat.le_of_ble_eq_true rfl) (by omega) (by omega) (i_X6 (cs := (bX11_9 :: rX11_9)) (by omega) (by decide) ?_)
  change xWP G l mX11_init d (zM G Q) _ _ _ _ _ (lh ([] ++ (bX11_9 :: rX11_10)))
  refine y_putF (cs := []) (t := (bX11_9 :: rX11_10)) (bX11_10 :: rX11_10) (i := 0) dX11_init_152 rfl fX11_83 (fun q hq => by cases hq; exact ⟨rfl, rfl, flX11_83⟩) rfl (Nat.le_of_ble_eq_true rfl) rfl ⟨rfl, rfl⟩ rfl ?_
  refine x_aload_n (i := 0) dX11_init_155 rfl rfl rfl ?_
  refine y_new (cs := []) (t := (bX11_10 :: rX11_10)) ((bX11_10 :: rX11_10) ++ [(101, 0, fun j => defaultValue (xtys 1 j))]) (ci := 1) (m := 101) (k := 8) (n := 442) dX11_init_156 rfl rfl lX11_87 inX1 izX1 (by decide) rfl (by decide) rfl ?_
  refine x_dup dX11_init_159 rfl rfl ?_
  refine x_callI (b := 101) (As := []) (d2 := d - 1) (mc2 := 2) (ms2 := 390) (k2 := 6) (n2 := 52) dX11_init_160 rfl kX11_89 okX1_init (by omega) rfl rfl (Nat.le_of_ble_eq_true rfl) (by omega) (by omega) (i_X1 (cs := (bX11_10 :: rX11_10)) (by omega) (by decide) ?_)
  change xWP G l mX11_init d (zM G Q) _ _ _ _ _ (lh ([] ++ (bX11_10 :: rX11_11)))
  refine y_putF (cs := []) (t := (bX11_10 :: rX11_11)) (bX11_11 :: rX11_11) (i := 0) dX11_init_163 rfl fX11_90 (fun q hq => by cases hq; exact ⟨rfl, rfl, flX11_90⟩) rfl (Nat.le_of_ble_eq_true rfl) rfl ⟨rfl, rfl⟩ rfl ?_
  refine x_aload_n (i := 0) dX11_init_166 rfl rfl rfl ?_
  refine y_new (cs := []) (t := (bX11_11 :: rX11_11)) ((bX11_11 :: rX11_11) ++ [(113, 0, fun j => defaultValue (xtys 13 j))]) (ci := 13) (m := 104) (k := 5) (n := 48) dX11_init_167 rfl rfl lX11_94 inJ4 izJ4 (by decide) rfl (by decide) rfl ?_
  refine x_dup dX11_init_170 rfl rfl ?_
  refine x_callI (b := 104) (As := []) (d2 := d - 1) (mc2 := 1) (ms2 := 16) (k2 := 4) (n2 := 32) dX11_init_171 rfl kX11_96 okJ4_init_da8c8 (by omega) rfl rfl (Nat.le_of_ble_eq_true rfl) (by omega) (by omega) (i_J4 (cs := (bX11_11 :: rX11_11)) (by omega) (by decide) ?_)
  change xWP G l mX11_init d (zM G Q) _ _ _ _ _ (lh ([] ++ (bX11_11 :: rX11_12)))
  refine y_putF (cs := []) (t := (bX11_11 :: rX11_12)) (bX11_12 :: rX11_12) (i := 0) dX11_init_174 rfl fX11_97 (fun q hq => by cases hq; exact ⟨rfl, rfl, flX11_97⟩) rfl (Nat.le_of_ble_eq_true rfl) rfl ⟨rfl, rfl⟩ rfl ?_
  refine x_aload_n (i := 0) dX11_init_177 rfl rfl rfl ?_
  refine x_bipush dX11_init_178 rfl bC_8 ?_
  refine y_newarr (cs := []) (t := (bX11_12 :: rX11_12)) (bX11_12 :: rX11_13) (ty := 0) (N := 8) (m := 106) (k := 3) (n := 24) dX11_init_180 rfl (by decide) ac_int rfl (by decide) (by decide) rfl (by decide) rfl ?_
  refine y_putF (cs := []) (t := (bX11_12 :: rX11_13)) (bX11_13 :: rX11_13) (i := 0) dX11_init_182 rfl fX11_101 (fun q hq => by cases hq; exact ⟨rfl, rfl, flX11_101⟩) rfl (Nat.le_of_ble_eq_true rfl) rfl ⟨rfl, rfl⟩ rfl ?_
  refine x_aload_n (i := 0) dX11_init_185 rfl rfl rfl ?_
  refine x_bipush dX11_init_186 rfl bC_8 ?_
  refine y_newarr (cs := []) (t := (bX11_13 :: rX11_13)) (bX11_13 :: rX11_14) (ty := 0) (N := 8) (m := 107) (k := 2) (n := 16) dX11_init_188 rfl (by decide) ac_int rfl (by decide) (by decide) rfl (by decide) rfl ?_
  refine y_putF (cs := []) (t := (bX11_13 :: rX11_14)) (bX11_14 :: rX11_14) (i := 0) dX11_init_190 rfl fX11_105 (fun q hq => by cases hq; exact ⟨rfl, rfl, flX11_105⟩) rfl (Nat.le_of_ble_eq_true rfl) rfl ⟨rfl, rfl⟩ rfl ?_
  refine x_aload_n (i := 0) dX11_init_193 rfl rfl rfl ?_
  refine x_bipush dX11_init_194 rfl bC_8 ?_
  refine y_newarr (cs := []) (t := (bX11_14 :: rX11_14)) (bX11_14 :: rX11_15) (ty := 0) (N := 8) (m := 108) (k := 1) (n := 8) dX11_init_196 rfl (by decide) ac_int rfl (by decide) (by decide) rfl (by decide) rfl ?_
  refine y_putF (cs := []) (t := (bX11_14 :: rX11_15)) (bX11_15 :: rX11_15) (i := 0) dX11_init_198 rfl fX11_108 (fun q hq => by cases hq; exact ⟨rfl, rfl, flX11_108⟩) rfl (Nat.le_of_ble_eq_true rfl) rfl ⟨rfl, rfl⟩ rfl ?_
  refine x_aload_n (i := 0) dX11_init_201 rfl rfl rfl ?_
  refine x_bipush dX11_init_202 rfl bC_8 ?_
  refine y_newarr (cs := []) (t := (bX11_15 :: rX11_15)) (bX11_15 :: rX11_16) (ty := 1) (N := 8) (m := 109) (k := 0) (n := 0) dX11_init_204 rfl (by decide) ac_long rfl (by decide) (by decide) rfl (by decide) rfl ?_
  refine y_putF (cs := []) (t := (bX11_15 :: rX11_16)) (bX11_16 :: rX11_16) (i := 0) dX11_init_206 rfl fX11_111 (fun q hq => by cases hq; exact ⟨rfl, rfl, flX11_111⟩) rfl (Nat.le_of_ble_eq_true rfl) rfl ⟨rfl, rfl⟩ rfl ?_
  refine x_return dX11_init_209 rfl ?_
  exact K

