/-! the static cells of the two objects: tags, lengths, what never changes once both are made -/
def csT : List (Nat × Nat) := [(111, 0), (4, 8), (0, 8), (0, 8), (0, 8), (0, 8), (0, 8), (0, 8), (0, 8), (0, 8), (107, 0), (1, 8), (0, 8), (0, 8), (102, 0), (5, 2), (1, 8), (1, 8), (5, 2), (1, 8), (1, 8), (1, 8), (104, 0), (4, 4), (0, 0), (0, 0), (0, 0), (0, 0), (0, 4), (0, 4), (0, 8), (109, 0), (0, 8), (0, 8), (0, 0), (0, 240), (2, 240), (100, 0), (0, 8), (0, 8), (0, 8), (0, 8), (0, 8), (1, 8), (103, 0), (0, 8), (0, 8), (0, 8), (0, 8), (0, 8), (0, 8), (0, 8), (0, 8), (110, 0), (4, 0), (2, 104), (108, 0), (3, 200), (106, 0), (4, 13), (0, 8), (0, 8), (0, 8), (0, 8), (0, 8), (0, 8), (0, 8), (0, 8), (0, 8), (0, 8), (0, 8), (0, 8), (0, 8), (4, 13), (0, 8), (0, 8), (0, 8), (0, 8), (0, 8), (0, 8), (0, 8), (0, 8), (0, 8), (0, 8), (0, 8), (0, 8), (0, 8), (4, 13), (0, 8), (0, 8), (0, 8), (0, 8), (0, 8), (0, 8), (0, 8), (0, 8), (0, 8), (0, 8), (0, 8), (0, 8), (0, 8), (101, 0), (0, 6), (0, 384), (113, 0), (3, 16), (0, 8), (0, 8), (0, 8), (1, 8), (112, 0), (0, 64), (0, 1240), (1, 8), (0, 72968), (0, 4), (0, 4), (0, 8), (0, 8), (1, 8), (1, 8), (0, 42), (0, 42), (2, 155), (0, 200), (0, 12), (2, 13), (2, 13), (0, 13), (0, 120), (0, 57600), (2, 240), (0, 240), (0, 390)]
def csS : List Int32 := [1, 1, 1, 1, 1, 1, 1, 1, 1, (-1), 1, (-1), 1, (-1), (-1), 1, 1, (-1), (-1), 1, 1, 1, (-1), (-1), 1, 1, (-1), (-1), 1, (-1), 1, (-1), 1, (-1), (-1), (-1), (-1), 1, 1, 1, 1, 1, (-1), 1, (-1), (-1), (-1), 1, 1, 1, 1, (-1), (-1), 1, (-1), (-1), 1, (-1), 1, 1, (-1), (-1), 1, (-1)]
def csF : List (Nat × Nat × Value) := [(0, 0, .ref 1), (0, 1, .ref 10), (0, 2, .ref 14), (0, 3, .ref 22), (0, 4, .ref 31), (0, 5, .ref 37), (0, 6, .ref 44), (0, 7, .ref 53), (0, 8, .ref 56), (0, 9, .ref 58), (0, 10, .ref 101), (0, 11, .ref 104), (0, 12, .ref 106), (0, 13, .ref 107), (0, 14, .ref 108), (0, 15, .ref 109), (10, 0, .ref 11), (10, 1, .ref 12), (10, 2, .ref 13), (14, 1, .ref 15), (14, 2, .ref 18), (14, 3, .ref 21), (22, 0, .ref 14), (22, 1, .ref 23), (22, 2, .ref 28), (22, 3, .ref 29), (22, 4, .ref 30), (31, 0, .ref 22), (31, 1, .ref 10), (31, 2, .ref 32), (31, 3, .ref 33), (31, 6, .ref 35), (31, 7, .ref 36), (37, 0, .ref 14), (37, 1, .ref 10), (37, 2, .ref 38), (37, 3, .ref 39), (37, 4, .ref 40), (37, 5, .ref 41), (37, 6, .ref 42), (37, 7, .ref 43), (44, 0, .ref 10), (44, 1, .ref 45), (44, 2, .ref 46), (44, 3, .ref 47), (44, 4, .ref 48), (44, 5, .ref 49), (44, 6, .ref 50), (44, 7, .ref 51), (44, 8, .ref 52), (53, 0, .ref 10), (53, 2, .ref 55), (56, 0, .ref 57), (58, 0, .ref 56), (58, 1, .ref 1), (58, 2, .ref 10), (58, 3, .ref 59), (58, 4, .ref 73), (58, 5, .ref 87), (101, 0, .ref 102), (101, 1, .ref 103), (110, 1, .ref 111), (110, 2, .ref 112), (110, 3, .ref 113), (110, 5, .ref 114), (110, 6, .ref 115), (110, 7, .ref 116), (110, 8, .ref 117), (110, 9, .ref 118), (110, 10, .ref 119), (110, 11, .ref 120), (110, 16, .ref 121), (110, 17, .ref 122), (110, 18, .ref 123), (110, 19, .ref 124), (110, 21, .ref 125), (110, 22, .ref 126), (110, 23, .ref 127), (110, 24, .ref 128), (110, 29, .ref 129), (110, 31, .ref 130), (110, 33, .ref 131), (110, 34, .ref 132), (110, 36, .ref 133), (1, 0, .ref 2), (1, 1, .ref 3), (1, 2, .ref 4), (1, 3, .ref 5), (1, 4, .ref 6), (1, 5, .ref 7), (1, 6, .ref 8), (1, 7, .ref 9), (15, 0, .ref 16), (18, 0, .ref 19), (15, 1, .ref 17), (18, 1, .ref 20), (59, 0, .ref 60), (73, 0, .ref 74), (87, 0, .ref 88), (59, 1, .ref 61), (73, 1, .ref 75), (87, 1, .ref 89), (59, 2, .ref 62), (73, 2, .ref 76), (87, 2, .ref 90), (59, 3, .ref 63), (73, 3, .ref 77), (87, 3, .ref 91), (59, 4, .ref 64), (73, 4, .ref 78), (87, 4, .ref 92), (59, 5, .ref 65), (73, 5, .ref 79), (87, 5, .ref 93), (59, 6, .ref 66), (73, 6, .ref 80), (87, 6, .ref 94), (59, 7, .ref 67), (73, 7, .ref 81), (87, 7, .ref 95), (59, 8, .ref 68), (73, 8, .ref 82), (87, 8, .ref 96), (59, 9, .ref 69), (73, 9, .ref 83), (87, 9, .ref 97), (59, 10, .ref 70), (73, 10, .ref 84), (87, 10, .ref 98), (59, 11, .ref 71), (73, 11, .ref 85), (87, 11, .ref 99), (59, 12, .ref 72), (73, 12, .ref 86), (87, 12, .ref 100)]
theorem F_0_0 : ((0, 0, .ref 1) : Nat × Nat × Value) ∈ csF := List.mem_of_getElem? (i := 0) rfl
theorem F_0_1 : ((0, 1, .ref 10) : Nat × Nat × Value) ∈ csF := List.mem_of_getElem? (i := 1) rfl
theorem F_0_2 : ((0, 2, .ref 14) : Nat × Nat × Value) ∈ csF := List.mem_of_getElem? (i := 2) rfl
theorem F_0_3 : ((0, 3, .ref 22) : Nat × Nat × Value) ∈ csF := List.mem_of_getElem? (i := 3) rfl
theorem F_0_4 : ((0, 4, .ref 31) : Nat × Nat × Value) ∈ csF := List.mem_of_getElem? (i := 4) rfl
theorem F_0_5 : ((0, 5, .ref 37) : Nat × Nat × Value) ∈ csF := List.mem_of_getElem? (i := 5) rfl
theorem F_0_6 : ((0, 6, .ref 44) : Nat × Nat × Value) ∈ csF := List.mem_of_getElem? (i := 6) rfl
theorem F_0_7 : ((0, 7, .ref 53) : Nat × Nat × Value) ∈ csF := List.mem_of_getElem? (i := 7) rfl
theorem F_0_8 : ((0, 8, .ref 56) : Nat × Nat × Value) ∈ csF := List.mem_of_getElem? (i := 8) rfl
theorem F_0_9 : ((0, 9, .ref 58) : Nat × Nat × Value) ∈ csF := List.mem_of_getElem? (i := 9) rfl
theorem F_0_10 : ((0, 10, .ref 101) : Nat × Nat × Value) ∈ csF := List.mem_of_getElem? (i := 10) rfl
theorem F_0_11 : ((0, 11, .ref 104) : Nat × Nat × Value) ∈ csF := List.mem_of_getElem? (i := 11) rfl
theorem F_0_12 : ((0, 12, .ref 106) : Nat × Nat × Value) ∈ csF := List.mem_of_getElem? (i := 12) rfl
theorem F_0_13 : ((0, 13, .ref 107) : Nat × Nat × Value) ∈ csF := List.mem_of_getElem? (i := 13) rfl
theorem F_0_14 : ((0, 14, .ref 108) : Nat × Nat × Value) ∈ csF := List.mem_of_getElem? (i := 14) rfl
theorem F_0_15 : ((0, 15, .ref 109) : Nat × Nat × Value) ∈ csF := List.mem_of_getElem? (i := 15) rfl
theorem F_10_0 : ((10, 0, .ref 11) : Nat × Nat × Value) ∈ csF := List.mem_of_getElem? (i := 16) rfl
theorem F_10_1 : ((10, 1, .ref 12) : Nat × Nat × Value) ∈ csF := List.mem_of_getElem? (i := 17) rfl
theorem F_10_2 : ((10, 2, .ref 13) : Nat × Nat × Value) ∈ csF := List.mem_of_getElem? (i := 18) rfl
theorem F_14_1 : ((14, 1, .ref 15) : Nat × Nat × Value) ∈ csF := List.mem_of_getElem? (i := 19) rfl
theorem F_14_2 : ((14, 2, .ref 18) : Nat × Nat × Value) ∈ csF := List.mem_of_getElem? (i := 20) rfl
theorem F_14_3 : ((14, 3, .ref 21) : Nat × Nat × Value) ∈ csF := List.mem_of_getElem? (i := 21) rfl
theorem F_22_0 : ((22, 0, .ref 14) : Nat × Nat × Value) ∈ csF := List.mem_of_getElem? (i := 22) rfl
theorem F_22_1 : ((22, 1, .ref 23) : Nat × Nat × Value) ∈ csF := List.mem_of_getElem? (i := 23) rfl
theorem F_22_2 : ((22, 2, .ref 28) : Nat × Nat × Value) ∈ csF := List.mem_of_getElem? (i := 24) rfl
theorem F_22_3 : ((22, 3, .ref 29) : Nat × Nat × Value) ∈ csF := List.mem_of_getElem? (i := 25) rfl
theorem F_22_4 : ((22, 4, .ref 30) : Nat × Nat × Value) ∈ csF := List.mem_of_getElem? (i := 26) rfl
theorem F_31_0 : ((31, 0, .ref 22) : Nat × Nat × Value) ∈ csF := List.mem_of_getElem? (i := 27) rfl
theorem F_31_1 : ((31, 1, .ref 10) : Nat × Nat × Value) ∈ csF := List.mem_of_getElem? (i := 28) rfl
theorem F_31_2 : ((31, 2, .ref 32) : Nat × Nat × Value) ∈ csF := List.mem_of_getElem? (i := 29) rfl
theorem F_31_3 : ((31, 3, .ref 33) : Nat × Nat × Value) ∈ csF := List.mem_of_getElem? (i := 30) rfl
theorem F_31_6 : ((31, 6, .ref 35) : Nat × Nat × Value) ∈ csF := List.mem_of_getElem? (i := 31) rfl
theorem F_31_7 : ((31, 7, .ref 36) : Nat × Nat × Value) ∈ csF := List.mem_of_getElem? (i := 32) rfl
theorem F_37_0 : ((37, 0, .ref 14) : Nat × Nat × Value) ∈ csF := List.mem_of_getElem? (i := 33) rfl
theorem F_37_1 : ((37, 1, .ref 10) : Nat × Nat × Value) ∈ csF := List.mem_of_getElem? (i := 34) rfl
theorem F_37_2 : ((37, 2, .ref 38) : Nat × Nat × Value) ∈ csF := List.mem_of_getElem? (i := 35) rfl
theorem F_37_3 : ((37, 3, .ref 39) : Nat × Nat × Value) ∈ csF := List.mem_of_getElem? (i := 36) rfl
theorem F_37_4 : ((37, 4, .ref 40) : Nat × Nat × Value) ∈ csF := List.mem_of_getElem? (i := 37) rfl
theorem F_37_5 : ((37, 5, .ref 41) : Nat × Nat × Value) ∈ csF := List.mem_of_getElem? (i := 38) rfl
theorem F_37_6 : ((37, 6, .ref 42) : Nat × Nat × Value) ∈ csF := List.mem_of_getElem? (i := 39) rfl
theorem F_37_7 : ((37, 7, .ref 43) : Nat × Nat × Value) ∈ csF := List.mem_of_getElem? (i := 40) rfl
theorem F_44_0 : ((44, 0, .ref 10) : Nat × Nat × Value) ∈ csF := List.mem_of_getElem? (i := 41) rfl
theorem F_44_1 : ((44, 1, .ref 45) : Nat × Nat × Value) ∈ csF := List.mem_of_getElem? (i := 42) rfl
theorem F_44_2 : ((44, 2, .ref 46) : Nat × Nat × Value) ∈ csF := List.mem_of_getElem? (i := 43) rfl
theorem F_44_3 : ((44, 3, .ref 47) : Nat × Nat × Value) ∈ csF := List.mem_of_getElem? (i := 44) rfl
theorem F_44_4 : ((44, 4, .ref 48) : Nat × Nat × Value) ∈ csF := List.mem_of_getElem? (i := 45) rfl
theorem F_44_5 : ((44, 5, .ref 49) : Nat × Nat × Value) ∈ csF := List.mem_of_getElem? (i := 46) rfl
theorem F_44_6 : ((44, 6, .ref 50) : Nat × Nat × Value) ∈ csF := List.mem_of_getElem? (i := 47) rfl
theorem F_44_7 : ((44, 7, .ref 51) : Nat × Nat × Value) ∈ csF := List.mem_of_getElem? (i := 48) rfl
theorem F_44_8 : ((44, 8, .ref 52) : Nat × Nat × Value) ∈ csF := List.mem_of_getElem? (i := 49) rfl
theorem F_53_0 : ((53, 0, .ref 10) : Nat × Nat × Value) ∈ csF := List.mem_of_getElem? (i := 50) rfl
theorem F_53_2 : ((53, 2, .ref 55) : Nat × Nat × Value) ∈ csF := List.mem_of_getElem? (i := 51) rfl
theorem F_56_0 : ((56, 0, .ref 57) : Nat × Nat × Value) ∈ csF := List.mem_of_getElem? (i := 52) rfl
theorem F_58_0 : ((58, 0, .ref 56) : Nat × Nat × Value) ∈ csF := List.mem_of_getElem? (i := 53) rfl
theorem F_58_1 : ((58, 1, .ref 1) : Nat × Nat × Value) ∈ csF := List.mem_of_getElem? (i := 54) rfl
theorem F_58_2 : ((58, 2, .ref 10) : Nat × Nat × Value) ∈ csF := List.mem_of_getElem? (i := 55) rfl
theorem F_58_3 : ((58, 3, .ref 59) : Nat × Nat × Value) ∈ csF := List.mem_of_getElem? (i := 56) rfl
theorem F_58_4 : ((58, 4, .ref 73) : Nat × Nat × Value) ∈ csF := List.mem_of_getElem? (i := 57) rfl
theorem F_58_5 : ((58, 5, .ref 87) : Nat × Nat × Value) ∈ csF := List.mem_of_getElem? (i := 58) rfl
theorem F_101_0 : ((101, 0, .ref 102) : Nat × Nat × Value) ∈ csF := List.mem_of_getElem? (i := 59) rfl
theorem F_101_1 : ((101, 1, .ref 103) : Nat × Nat × Value) ∈ csF := List.mem_of_getElem? (i := 60) rfl
theorem F_110_1 : ((110, 1, .ref 111) : Nat × Nat × Value) ∈ csF := List.mem_of_getElem? (i := 61) rfl
theorem F_110_2 : ((110, 2, .ref 112) : Nat × Nat × Value) ∈ csF := List.mem_of_getElem? (i := 62) rfl
theorem F_110_3 : ((110, 3, .ref 113) : Nat × Nat × Value) ∈ csF := List.mem_of_getElem? (i := 63) rfl
theorem F_110_5 : ((110, 5, .ref 114) : Nat × Nat × Value) ∈ csF := List.mem_of_getElem? (i := 64) rfl
theorem F_110_6 : ((110, 6, .ref 115) : Nat × Nat × Value) ∈ csF := List.mem_of_getElem? (i := 65) rfl
theorem F_110_7 : ((110, 7, .ref 116) : Nat × Nat × Value) ∈ csF := List.mem_of_getElem? (i := 66) rfl
theorem F_110_8 : ((110, 8, .ref 117) : Nat × Nat × Value) ∈ csF := List.mem_of_getElem? (i := 67) rfl
theorem F_110_9 : ((110, 9, .ref 118) : Nat × Nat × Value) ∈ csF := List.mem_of_getElem? (i := 68) rfl
theorem F_110_10 : ((110, 10, .ref 119) : Nat × Nat × Value) ∈ csF := List.mem_of_getElem? (i := 69) rfl
theorem F_110_11 : ((110, 11, .ref 120) : Nat × Nat × Value) ∈ csF := List.mem_of_getElem? (i := 70) rfl
theorem F_110_16 : ((110, 16, .ref 121) : Nat × Nat × Value) ∈ csF := List.mem_of_getElem? (i := 71) rfl
theorem F_110_17 : ((110, 17, .ref 122) : Nat × Nat × Value) ∈ csF := List.mem_of_getElem? (i := 72) rfl
theorem F_110_18 : ((110, 18, .ref 123) : Nat × Nat × Value) ∈ csF := List.mem_of_getElem? (i := 73) rfl
theorem F_110_19 : ((110, 19, .ref 124) : Nat × Nat × Value) ∈ csF := List.mem_of_getElem? (i := 74) rfl
theorem F_110_21 : ((110, 21, .ref 125) : Nat × Nat × Value) ∈ csF := List.mem_of_getElem? (i := 75) rfl
theorem F_110_22 : ((110, 22, .ref 126) : Nat × Nat × Value) ∈ csF := List.mem_of_getElem? (i := 76) rfl
theorem F_110_23 : ((110, 23, .ref 127) : Nat × Nat × Value) ∈ csF := List.mem_of_getElem? (i := 77) rfl
theorem F_110_24 : ((110, 24, .ref 128) : Nat × Nat × Value) ∈ csF := List.mem_of_getElem? (i := 78) rfl
theorem F_110_29 : ((110, 29, .ref 129) : Nat × Nat × Value) ∈ csF := List.mem_of_getElem? (i := 79) rfl
theorem F_110_31 : ((110, 31, .ref 130) : Nat × Nat × Value) ∈ csF := List.mem_of_getElem? (i := 80) rfl
theorem F_110_33 : ((110, 33, .ref 131) : Nat × Nat × Value) ∈ csF := List.mem_of_getElem? (i := 81) rfl
theorem F_110_34 : ((110, 34, .ref 132) : Nat × Nat × Value) ∈ csF := List.mem_of_getElem? (i := 82) rfl
theorem F_110_36 : ((110, 36, .ref 133) : Nat × Nat × Value) ∈ csF := List.mem_of_getElem? (i := 83) rfl
theorem F_1_0 : ((1, 0, .ref 2) : Nat × Nat × Value) ∈ csF := List.mem_of_getElem? (i := 84) rfl
theorem F_1_1 : ((1, 1, .ref 3) : Nat × Nat × Value) ∈ csF := List.mem_of_getElem? (i := 85) rfl
theorem F_1_2 : ((1, 2, .ref 4) : Nat × Nat × Value) ∈ csF := List.mem_of_getElem? (i := 86) rfl
theorem F_1_3 : ((1, 3, .ref 5) : Nat × Nat × Value) ∈ csF := List.mem_of_getElem? (i := 87) rfl
theorem F_1_4 : ((1, 4, .ref 6) : Nat × Nat × Value) ∈ csF := List.mem_of_getElem? (i := 88) rfl
theorem F_1_5 : ((1, 5, .ref 7) : Nat × Nat × Value) ∈ csF := List.mem_of_getElem? (i := 89) rfl
theorem F_1_6 : ((1, 6, .ref 8) : Nat × Nat × Value) ∈ csF := List.mem_of_getElem? (i := 90) rfl
theorem F_1_7 : ((1, 7, .ref 9) : Nat × Nat × Value) ∈ csF := List.mem_of_getElem? (i := 91) rfl
theorem F_15_0 : ((15, 0, .ref 16) : Nat × Nat × Value) ∈ csF := List.mem_of_getElem? (i := 92) rfl
theorem F_18_0 : ((18, 0, .ref 19) : Nat × Nat × Value) ∈ csF := List.mem_of_getElem? (i := 93) rfl
theorem F_15_1 : ((15, 1, .ref 17) : Nat × Nat × Value) ∈ csF := List.mem_of_getElem? (i := 94) rfl
theorem F_18_1 : ((18, 1, .ref 20) : Nat × Nat × Value) ∈ csF := List.mem_of_getElem? (i := 95) rfl
theorem F_59_0 : ((59, 0, .ref 60) : Nat × Nat × Value) ∈ csF := List.mem_of_getElem? (i := 96) rfl
theorem F_73_0 : ((73, 0, .ref 74) : Nat × Nat × Value) ∈ csF := List.mem_of_getElem? (i := 97) rfl
theorem F_87_0 : ((87, 0, .ref 88) : Nat × Nat × Value) ∈ csF := List.mem_of_getElem? (i := 98) rfl
theorem F_59_1 : ((59, 1, .ref 61) : Nat × Nat × Value) ∈ csF := List.mem_of_getElem? (i := 99) rfl
theorem F_73_1 : ((73, 1, .ref 75) : Nat × Nat × Value) ∈ csF := List.mem_of_getElem? (i := 100) rfl
theorem F_87_1 : ((87, 1, .ref 89) : Nat × Nat × Value) ∈ csF := List.mem_of_getElem? (i := 101) rfl
theorem F_59_2 : ((59, 2, .ref 62) : Nat × Nat × Value) ∈ csF := List.mem_of_getElem? (i := 102) rfl
theorem F_73_2 : ((73, 2, .ref 76) : Nat × Nat × Value) ∈ csF := List.mem_of_getElem? (i := 103) rfl
theorem F_87_2 : ((87, 2, .ref 90) : Nat × Nat × Value) ∈ csF := List.mem_of_getElem? (i := 104) rfl
theorem F_59_3 : ((59, 3, .ref 63) : Nat × Nat × Value) ∈ csF := List.mem_of_getElem? (i := 105) rfl
theorem F_73_3 : ((73, 3, .ref 77) : Nat × Nat × Value) ∈ csF := List.mem_of_getElem? (i := 106) rfl
theorem F_87_3 : ((87, 3, .ref 91) : Nat × Nat × Value) ∈ csF := List.mem_of_getElem? (i := 107) rfl
theorem F_59_4 : ((59, 4, .ref 64) : Nat × Nat × Value) ∈ csF := List.mem_of_getElem? (i := 108) rfl
theorem F_73_4 : ((73, 4, .ref 78) : Nat × Nat × Value) ∈ csF := List.mem_of_getElem? (i := 109) rfl
theorem F_87_4 : ((87, 4, .ref 92) : Nat × Nat × Value) ∈ csF := List.mem_of_getElem? (i := 110) rfl
theorem F_59_5 : ((59, 5, .ref 65) : Nat × Nat × Value) ∈ csF := List.mem_of_getElem? (i := 111) rfl
theorem F_73_5 : ((73, 5, .ref 79) : Nat × Nat × Value) ∈ csF := List.mem_of_getElem? (i := 112) rfl
theorem F_87_5 : ((87, 5, .ref 93) : Nat × Nat × Value) ∈ csF := List.mem_of_getElem? (i := 113) rfl
theorem F_59_6 : ((59, 6, .ref 66) : Nat × Nat × Value) ∈ csF := List.mem_of_getElem? (i := 114) rfl
theorem F_73_6 : ((73, 6, .ref 80) : Nat × Nat × Value) ∈ csF := List.mem_of_getElem? (i := 115) rfl
theorem F_87_6 : ((87, 6, .ref 94) : Nat × Nat × Value) ∈ csF := List.mem_of_getElem? (i := 116) rfl
theorem F_59_7 : ((59, 7, .ref 67) : Nat × Nat × Value) ∈ csF := List.mem_of_getElem? (i := 117) rfl
theorem F_73_7 : ((73, 7, .ref 81) : Nat × Nat × Value) ∈ csF := List.mem_of_getElem? (i := 118) rfl
theorem F_87_7 : ((87, 7, .ref 95) : Nat × Nat × Value) ∈ csF := List.mem_of_getElem? (i := 119) rfl
theorem F_59_8 : ((59, 8, .ref 68) : Nat × Nat × Value) ∈ csF := List.mem_of_getElem? (i := 120) rfl
theorem F_73_8 : ((73, 8, .ref 82) : Nat × Nat × Value) ∈ csF := List.mem_of_getElem? (i := 121) rfl
theorem F_87_8 : ((87, 8, .ref 96) : Nat × Nat × Value) ∈ csF := List.mem_of_getElem? (i := 122) rfl
theorem F_59_9 : ((59, 9, .ref 69) : Nat × Nat × Value) ∈ csF := List.mem_of_getElem? (i := 123) rfl
theorem F_73_9 : ((73, 9, .ref 83) : Nat × Nat × Value) ∈ csF := List.mem_of_getElem? (i := 124) rfl
theorem F_87_9 : ((87, 9, .ref 97) : Nat × Nat × Value) ∈ csF := List.mem_of_getElem? (i := 125) rfl
theorem F_59_10 : ((59, 10, .ref 70) : Nat × Nat × Value) ∈ csF := List.mem_of_getElem? (i := 126) rfl
theorem F_73_10 : ((73, 10, .ref 84) : Nat × Nat × Value) ∈ csF := List.mem_of_getElem? (i := 127) rfl
theorem F_87_10 : ((87, 10, .ref 98) : Nat × Nat × Value) ∈ csF := List.mem_of_getElem? (i := 128) rfl
theorem F_59_11 : ((59, 11, .ref 71) : Nat × Nat × Value) ∈ csF := List.mem_of_getElem? (i := 129) rfl
theorem F_73_11 : ((73, 11, .ref 85) : Nat × Nat × Value) ∈ csF := List.mem_of_getElem? (i := 130) rfl
theorem F_87_11 : ((87, 11, .ref 99) : Nat × Nat × Value) ∈ csF := List.mem_of_getElem? (i := 131) rfl
theorem F_59_12 : ((59, 12, .ref 72) : Nat × Nat × Value) ∈ csF := List.mem_of_getElem? (i := 132) rfl
theorem F_73_12 : ((73, 12, .ref 86) : Nat × Nat × Value) ∈ csF := List.mem_of_getElem? (i := 133) rfl
theorem F_87_12 : ((87, 12, .ref 100) : Nat × Nat × Value) ∈ csF := List.mem_of_getElem? (i := 134) rfl
def xTyp (c : xC) : Prop := match c.1 with
  | 0 => ∃ f, c.2.2 = xI f
  | 1 => ∃ f, c.2.2 = xJ f
  | 2 => ∃ f, c.2.2 = xI f
  | 3 => ∃ f, c.2.2 = xI f
  | _ => True
def Cs (h : xH) : Prop := 134 ≤ h.2 ∧ (∀ a q, csT[a]? = some q → (h.1 a).1 = q.1 ∧ (h.1 a).2.1 = q.2) ∧ (∀ a, xTyp (h.1 a)) ∧ (∀ q ∈ csF, (h.1 q.1).2.2 q.2.1 = q.2.2) ∧ (∀ j, j < 64 → (h.1 111).2.2 j = .int (csS.getD j 0))
/-- contents of rows of ints, of longs -/
def iv (h : xH) (a : Nat) : Nat → Int32 := fun j => match (h.1 a).2.2 j with
  | .int x => x
  | _ => 0
def jv (h : xH) (a : Nat) : Nat → Int64 := fun j => match (h.1 a).2.2 j with
  | .long x => x
  | _ => 0
theorem iv_hs {h : xH} {a t n : Nat} {f : Nat → Int32} : iv (hs h a (t, n, xI f)) a = f := by
  unfold iv
  rw [hs_eq]
  rfl
theorem jv_hs {h : xH} {a t n : Nat} {f : Nat → Int64} : jv (hs h a (t, n, xJ f)) a = f := by
  unfold jv
  rw [hs_eq]
  rfl
theorem iv_at {h : xH} {a t n : Nat} {f : Nat → Int32} (ha : h.1 a = (t, n, xI f)) : iv h a = f := by
  unfold iv
  rw [ha]
  rfl
theorem jv_at {h : xH} {a t n : Nat} {f : Nat → Int64} (ha : h.1 a = (t, n, xJ f)) : jv h a = f := by
  unfold jv
  rw [ha]
  rfl
theorem iv_n {h : xH} {a b : Nat} {c : xC} (hb : b ≠ a) : iv (hs h a c) b = iv h b := by
  unfold iv
  rw [hs_n hb]
theorem jv_n {h : xH} {a b : Nat} {c : xC} (hb : b ≠ a) : jv (hs h a c) b = jv h b := by
  unfold jv
  rw [hs_n hb]
theorem Cs.i {h : xH} (hC : Cs h) {a t n : Nat} (ht : csT[a]? = some (t, n)) (h3 : t = 0 ∨ t = 2 ∨ t = 3) : h.1 a = (t, n, xI (iv h a)) := by
  obtain ⟨e1, e2⟩ := hC.2.1 a _ ht
  have e3 := hC.2.2.1 a
  unfold xTyp at e3
  rw [e1] at e3
  have e4 : ∃ f, (h.1 a).2.2 = xI f := by rcases h3 with rfl | rfl | rfl <;> exact e3
  obtain ⟨f, hf⟩ := e4
  have e5 : h.1 a = (t, n, xI f) := Prod.ext e1 (Prod.ext e2 hf)
  rw [iv_at e5]
  exact e5
theorem Cs.v {h : xH} (hC : Cs h) {a n : Nat} (ht : csT[a]? = some (0, n)) : h.1 a = (0, n, xI (iv h a)) := hC.i ht (Or.inl rfl)
theorem Cs.z {h : xH} (hC : Cs h) {a n : Nat} (ht : csT[a]? = some (2, n)) : h.1 a = (2, n, xI (iv h a)) := hC.i ht (Or.inr (Or.inl rfl))
theorem Cs.j {h : xH} (hC : Cs h) {a n : Nat} (ht : csT[a]? = some (1, n)) : h.1 a = (1, n, xJ (jv h a)) := by
  obtain ⟨e1, e2⟩ := hC.2.1 a _ ht
  have e3 := hC.2.2.1 a
  unfold xTyp at e3
  rw [e1] at e3
  obtain ⟨f, hf⟩ := e3
  have e5 : h.1 a = (1, n, xJ f) := Prod.ext e1 (Prod.ext e2 hf)
  rw [jv_at e5]
  exact e5
theorem Cs.o {h : xH} (hC : Cs h) {a ci : Nat} (ht : csT[a]? = some (100 + ci, 0)) : h.1 a = (100 + ci, 0, (h.1 a).2.2) := by
  obtain ⟨e1, e2⟩ := hC.2.1 a _ ht
  exact Prod.ext e1 (Prod.ext e2 rfl)
theorem csT_lt {a : Nat} {q : Nat × Nat} (h : csT[a]? = some q) : a < 134 := (List.getElem?_eq_some_iff.mp h).1
/-- a cell that is no row of constants is changed, by one of its kind -/
def csA : List Nat := csF.map (fun q => q.1)
theorem Cs.set {h : xH} (hC : Cs h) {a : Nat} {c : xC} (h1 : c.1 = (h.1 a).1) (h2 : c.2.1 = (h.1 a).2.1) (h3 : xTyp c) (h4 : ∀ q ∈ csF, q.1 = a → c.2.2 q.2.1 = q.2.2) (h5 : a ≠ 111) : Cs (hs h a c) := by
  obtain ⟨g1, g2, g3, g4, g5⟩ := hC
  refine ⟨g1, fun b q hq => ?_, fun b => ?_, fun q hq => ?_, fun j hj => ?_⟩
  · by_cases e : b = a
    · subst e
      rw [hs_eq, h1, h2]
      exact g2 b q hq
    · rw [hs_n e]
      exact g2 b q hq
  · by_cases e : b = a
    · subst e
      rw [hs_eq]
      exact h3
    · rw [hs_n e]
      exact g3 b
  · by_cases e : q.1 = a
    · rw [e, hs_eq]
      exact h4 q hq e
    · rw [hs_n e]
      exact g4 q hq
  · rw [hs_n (Ne.symm h5)]
    exact g5 j hj
theorem csA_no {a : Nat} (h : csA.contains a = false) : ∀ q ∈ csF, q.1 = a → False := by
  intro q hq e
  have h1 : a ∈ csA := List.mem_map.mpr ⟨q, hq, e⟩
  have h2 : csA.contains a = true := List.contains_iff_mem.mpr h1
  rw [h] at h2
  cases h2
theorem csT_A : ∀ a, a < 134 → ((csT.getD a (0, 0)).1 < 4 → csA.contains a = false) := by decide +kernel
theorem csA_of {h : xH} (hC : Cs h) {a : Nat} (h1 : (h.1 a).1 < 4) : csA.contains a = false := by
  rcases Nat.lt_or_ge a 134 with q | q
  · have hq : csT[a]? = some csT[a] := List.getElem?_eq_getElem q
    refine csT_A a q ?_
    have e := (hC.2.1 a _ hq).1
    have e2 : csT.getD a (0, 0) = csT[a] := by simp [List.getD, hq]
    rw [e2, ← e]
    exact h1
  · cases hc : csA.contains a with
    | false => rfl
    | true =>
      have h2 : a ∈ csA := List.contains_iff_mem.mp hc
      have h3 : ∀ b ∈ csA, b < 134 := by decide +kernel
      exact absurd (h3 a h2) (by omega)
theorem Cs.setI {h : xH} (hC : Cs h) {a t n : Nat} {g f : Nat → Int32} (ha : h.1 a = (t, n, xI g)) (h3 : t = 0 ∨ t = 2 ∨ t = 3) (h5 : a ≠ 111) : Cs (hs h a (t, n, xI f)) := by
  refine hC.set (by rw [ha]) (by rw [ha]) (by unfold xTyp; rcases h3 with rfl | rfl | rfl <;> exact ⟨f, rfl⟩) (fun q hq e => ?_) h5
  exact (csA_no (csA_of hC (by rw [ha]; show t < 4; omega)) q hq e).elim
theorem Cs.setJ {h : xH} (hC : Cs h) {a n : Nat} {g f : Nat → Int64} (ha : h.1 a = (1, n, xJ g)) : Cs (hs h a (1, n, xJ f)) := by
  refine hC.set (by rw [ha]) (by rw [ha]) ⟨f, rfl⟩ (fun q hq e => ?_) (fun e => ?_)
  · exact (csA_no (csA_of hC (by rw [ha]; show 1 < 4; omega)) q hq e).elim
  · subst e
    have := (hC.2.1 111 _ rfl).1
    rw [ha] at this
    exact absurd this (show (1 : Nat) ≠ 0 by decide)
/-- nothing but what S names has changed -/
def xSm (S : List Nat) (h h2 : xH) : Prop := h2.2 = h.2 ∧ ∀ a, a ∉ S → h2.1 a = h.1 a
theorem xSm.rf {h : xH} : xSm [] h h := ⟨rfl, fun _ _ => rfl⟩
theorem xSm.tr {S T : List Nat} {h h2 h3 : xH} (a : xSm S h h2) (b : xSm T h2 h3) : xSm (S ++ T) h h3 := ⟨b.1.trans a.1, fun q hq => (b.2 q (fun z => hq (List.mem_append_right _ z))).trans (a.2 q (fun z => hq (List.mem_append_left _ z)))⟩
theorem xSm.sub {S T : List Nat} {h h2 : xH} (a : xSm S h h2) (hs : ∀ q ∈ S, q ∈ T) : xSm T h h2 := ⟨a.1, fun q hq => a.2 q (fun z => hq (hs q z))⟩
theorem xSm.hs1 {h : xH} {a : Nat} {c : xC} : xSm [a] h (hs h a c) := ⟨rfl, fun q hq => hs_n (fun e => hq (by rw [e]; exact List.mem_singleton.mpr rfl))⟩
theorem xSm.hs2 {h : xH} {a b : Nat} {c e : xC} : xSm [a, b] h (hs (hs h a c) b e) := xSm.hs1.tr xSm.hs1
theorem xSm.iv {S : List Nat} {h h2 : xH} (s : xSm S h h2) {a : Nat} (ha : a ∉ S) : _root_.Jvm.Pilot.@@N@@.iv h2 a = _root_.Jvm.Pilot.@@N@@.iv h a := by
  unfold _root_.Jvm.Pilot.@@N@@.iv
  rw [s.2 a ha]
theorem xSm.jv {S : List Nat} {h h2 : xH} (s : xSm S h h2) {a : Nat} (ha : a ∉ S) : _root_.Jvm.Pilot.@@N@@.jv h2 a = _root_.Jvm.Pilot.@@N@@.jv h a := by
  unfold _root_.Jvm.Pilot.@@N@@.jv
  rw [s.2 a ha]
section XC
variable {G : xG} {l : Launch} {M : xM} {d : Nat} {Z : List Frame → Array Value → State → Nat → Nat → State → Prop} {k n pc pc2 : Nat} {L : xL} {st : List Value} {h : xH}
/-- a field that never changes -/
theorem x_getC {a idx ci kf : Nat} {v : Value} (hd : decode M.2.1 pc = .ok (.getfield idx, 3)) (hp : pc + 3 = pc2) (hf : xFl M.1.cls idx ci kf) (hC : Cs h) (ht : csT[a]? = some (100 + ci, 0)) (hF : (a, kf, v) ∈ csF) (kk : xWP G l M d Z k n pc2 L (v :: st) h) : xWP G l M d Z k n pc L (.ref a :: st) h := x_get hd hp hf (hC.o ht) (hC.2.2.2.1 _ hF) kk
/-- a field that does -/
theorem x_getM {a idx ci kf : Nat} {v : Value} (hd : decode M.2.1 pc = .ok (.getfield idx, 3)) (hp : pc + 3 = pc2) (hf : xFl M.1.cls idx ci kf) (hC : Cs h) (ht : csT[a]? = some (100 + ci, 0)) (hv : (h.1 a).2.2 kf = v) (kk : xWP G l M d Z k n pc2 L (v :: st) h) : xWP G l M d Z k n pc L (.ref a :: st) h := x_get hd hp hf (hC.o ht) hv kk
end XC
def csNo (a kf : Nat) : Bool := csF.all (fun q => !(q.1 == a && q.2.1 == kf))
theorem Cs.setF {h : xH} (hC : Cs h) {a ci kf : Nat} {v : Value} (ht : csT[a]? = some (100 + ci, 0)) (hk : csNo a kf = true) (h5 : a ≠ 111) : Cs (hs h a (100 + ci, 0, updV (h.1 a).2.2 kf v)) := by
  obtain ⟨e1, e2⟩ := hC.2.1 a _ ht
  refine hC.set e1.symm e2.symm ?_ (fun q hq e => ?_) h5
  · unfold xTyp
    split <;> first | trivial | (next h0 => exact absurd h0 (by show ¬ 100 + ci = _; omega))
  · have h6 := List.all_eq_true.mp hk q hq
    simp only [e, beq_self_eq_true, Bool.true_and, Bool.not_eq_true', beq_eq_false_iff_ne] at h6
    show updV (h.1 a).2.2 kf v q.2.1 = q.2.2
    unfold updV
    rw [if_neg h6]
    have := hC.2.2.2.1 q hq
    rw [e] at this
    exact this
theorem fv_eq {h : xH} {a t n kf : Nat} {F : Nat → Value} {v : Value} : ((hs h a (t, n, updV F kf v)).1 a).2.2 kf = v := by
  rw [hs_eq]
  exact if_pos rfl
theorem fv_ne {h : xH} {a t n kf k2 : Nat} {F : Nat → Value} {v : Value} (hk : k2 ≠ kf) : ((hs h a (t, n, updV F kf v)).1 a).2.2 k2 = F k2 := by
  rw [hs_eq]
  exact if_neg hk
theorem fv_n {h : xH} {a b kf : Nat} {c : xC} (hb : b ≠ a) : ((hs h a c).1 b).2.2 kf = (h.1 b).2.2 kf := by
  rw [hs_n hb]
theorem csF_slot {j : Nat} (hj : j < 8) : ((1, j, .ref (2 + j)) : Nat × Nat × Value) ∈ csF := by
  rcases (show j = 0 ∨ j = 1 ∨ j = 2 ∨ j = 3 ∨ j = 4 ∨ j = 5 ∨ j = 6 ∨ j = 7 by omega) with rfl | rfl | rfl | rfl | rfl | rfl | rfl | rfl
  · exact F_1_0
  · exact F_1_1
  · exact F_1_2
  · exact F_1_3
  · exact F_1_4
  · exact F_1_5
  · exact F_1_6
  · exact F_1_7
section XC2
variable {G : xG} {l : Launch} {M : xM} {d : Nat} {Z : List Frame → Array Value → State → Nat → Nat → State → Prop} {k n pc pc2 : Nat} {L : xL} {st : List Value} {h : xH}
theorem x_putC {a idx ci kf : Nat} {v : Value} (hd : decode M.2.1 pc = .ok (.putfield idx, 3)) (hp : pc + 3 = pc2) (hf : xFl M.1.cls idx ci kf) (hfin : ∀ q, xcl[ci]? = some q → (q.2.1 kf).2.2.2 = false) (hC : Cs h) (ht : csT[a]? = some (100 + ci, 0)) (hv : xFv ci kf v) (kk : xWP G l M d Z k n pc2 L st (hs h a (100 + ci, 0, updV (h.1 a).2.2 kf v))) : xWP G l M d Z k n pc L (v :: .ref a :: st) h := x_put hd hp hf hfin (hC.o ht) hv kk
theorem x_aaldF {a N j t b : Nat} {i : Int32} {F : Nat → Value} (hd : decode M.2.1 pc = .ok (.aaload, 1)) (hp : pc + 1 = pc2) (ha : h.1 a = (4 + t, N, F)) (ht : t < 2) (hi : i = nI j) (hj : j < N) (hN : N < 2147483648) (hv : F j = .ref b) (kk : xWP G l M d Z k n pc2 L (.ref b :: st) h) : xWP G l M d Z k n pc L (.int i :: .ref a :: st) h := by
  intro p e R s m args below meth c H locs cells slots mc ms ls hO hR hS hk hn hl
  subst hp
  obtain ⟨i1, i2⟩ := x_in hi hj hN
  exact W.aald hO.1 hO.2.1 (hR.arr ha (by omega)) ((hO.2.2.2.2.2.2.2.2.1.2.1 (4 + t) (by omega)).1 _ _) (by rcases (show t = 0 ∨ t = 1 by omega) with rfl | rfl <;> rfl) (fun q => by cases q) (by rw [arrV_size]; exact i1) (v := .ref (xad G b)) (by rw [i2, arrV_read _ _ hj, hv]; rfl) rfl rfl hd (kk p e R s m args below meth c H locs cells slots mc ms ls hO hR hS hk hn hl)
/-- a row of rows that never changes -/
theorem x_aaldC {a N j t b : Nat} {i : Int32} (hd : decode M.2.1 pc = .ok (.aaload, 1)) (hp : pc + 1 = pc2) (hC : Cs h) (hT : csT[a]? = some (4 + t, N)) (ht : t < 2) (hi : i = nI j) (hj : j < N) (hN : N < 2147483648) (hF : (a, j, .ref b) ∈ csF) (kk : xWP G l M d Z k n pc2 L (.ref b :: st) h) : xWP G l M d Z k n pc L (.int i :: .ref a :: st) h := x_aaldF hd hp (Prod.ext (hC.2.1 a _ hT).1 (Prod.ext (hC.2.1 a _ hT).2 rfl)) ht hi hj hN (hC.2.2.2.1 _ hF) kk
end XC2
def csV (a : Nat) : Prop := csT[a]? = some (0, 8)
theorem csV_slot {j : Nat} (hj : j < 8) : csV (2 + j) := by
  rcases (show j = 0 ∨ j = 1 ∨ j = 2 ∨ j = 3 ∨ j = 4 ∨ j = 5 ∨ j = 6 ∨ j = 7 by omega) with rfl | rfl | rfl | rfl | rfl | rfl | rfl | rfl <;> rfl
theorem csV_ne {a b : Nat} {q : Nat × Nat} (ha : csV a) (hb : csT[b]? = some q) (hq : q ≠ (0, 8)) : a ≠ b := fun e => hq (Option.some.inj (hb.symm.trans (e ▸ ha)))

theorem NF_14_0 : csNo 14 0 = true := by decide +kernel
theorem NF_31_4 : csNo 31 4 = true := by decide +kernel
theorem NF_31_5 : csNo 31 5 = true := by decide +kernel
theorem NF_31_8 : csNo 31 8 = true := by decide +kernel
theorem NF_37_8 : csNo 37 8 = true := by decide +kernel
theorem NF_37_9 : csNo 37 9 = true := by decide +kernel
theorem NF_53_1 : csNo 53 1 = true := by decide +kernel
theorem NF_56_1 : csNo 56 1 = true := by decide +kernel
theorem NF_58_6 : csNo 58 6 = true := by decide +kernel
theorem NF_58_7 : csNo 58 7 = true := by decide +kernel
theorem NF_58_8 : csNo 58 8 = true := by decide +kernel
theorem NF_101_2 : csNo 101 2 = true := by decide +kernel
theorem NF_110_0 : csNo 110 0 = true := by decide +kernel
theorem NF_110_4 : csNo 110 4 = true := by decide +kernel
theorem NF_110_12 : csNo 110 12 = true := by decide +kernel
theorem NF_110_13 : csNo 110 13 = true := by decide +kernel
theorem NF_110_14 : csNo 110 14 = true := by decide +kernel
theorem NF_110_15 : csNo 110 15 = true := by decide +kernel
theorem NF_110_20 : csNo 110 20 = true := by decide +kernel
theorem NF_110_25 : csNo 110 25 = true := by decide +kernel
theorem NF_110_26 : csNo 110 26 = true := by decide +kernel
theorem NF_110_27 : csNo 110 27 = true := by decide +kernel
theorem NF_110_28 : csNo 110 28 = true := by decide +kernel
theorem NF_110_30 : csNo 110 30 = true := by decide +kernel
theorem NF_110_32 : csNo 110 32 = true := by decide +kernel
theorem NF_110_35 : csNo 110 35 = true := by decide +kernel
theorem NF_110_37 : csNo 110 37 = true := by decide +kernel
theorem NF_104_0 : csNo 104 0 = true := by decide +kernel
theorem NF_104_1 : csNo 104 1 = true := by decide +kernel
theorem NF_104_2 : csNo 104 2 = true := by decide +kernel
theorem NF_104_3 : csNo 104 3 = true := by decide +kernel

