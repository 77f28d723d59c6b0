theorem bC_m100 : (Int8.ofInt (-100)).toInt32 = (-100) := by decide
theorem bC_m10 : (Int8.ofInt (-10)).toInt32 = (-10) := by decide
theorem bC_m9 : (Int8.ofInt (-9)).toInt32 = (-9) := by decide
theorem bC_m4 : (Int8.ofInt (-4)).toInt32 = (-4) := by decide
theorem bC_m3 : (Int8.ofInt (-3)).toInt32 = (-3) := by decide
theorem bC_m2 : (Int8.ofInt (-2)).toInt32 = (-2) := by decide
theorem bC_6 : (Int8.ofInt 6).toInt32 = nI 6 := by decide
theorem bC_7 : (Int8.ofInt 7).toInt32 = nI 7 := by decide
theorem bC_8 : (Int8.ofInt 8).toInt32 = nI 8 := by decide
theorem bC_9 : (Int8.ofInt 9).toInt32 = nI 9 := by decide
theorem bC_10 : (Int8.ofInt 10).toInt32 = nI 10 := by decide
theorem bC_11 : (Int8.ofInt 11).toInt32 = nI 11 := by decide
theorem bC_12 : (Int8.ofInt 12).toInt32 = nI 12 := by decide
theorem bC_13 : (Int8.ofInt 13).toInt32 = nI 13 := by decide
theorem bC_14 : (Int8.ofInt 14).toInt32 = nI 14 := by decide
theorem bC_15 : (Int8.ofInt 15).toInt32 = nI 15 := by decide
theorem bC_16 : (Int8.ofInt 16).toInt32 = nI 16 := by decide
theorem bC_17 : (Int8.ofInt 17).toInt32 = nI 17 := by decide
theorem bC_18 : (Int8.ofInt 18).toInt32 = nI 18 := by decide
theorem bC_19 : (Int8.ofInt 19).toInt32 = nI 19 := by decide
theorem bC_20 : (Int8.ofInt 20).toInt32 = nI 20 := by decide
theorem bC_21 : (Int8.ofInt 21).toInt32 = nI 21 := by decide
theorem bC_24 : (Int8.ofInt 24).toInt32 = nI 24 := by decide
theorem bC_28 : (Int8.ofInt 28).toInt32 = nI 28 := by decide
theorem bC_32 : (Int8.ofInt 32).toInt32 = nI 32 := by decide
theorem bC_37 : (Int8.ofInt 37).toInt32 = nI 37 := by decide
theorem bC_40 : (Int8.ofInt 40).toInt32 = nI 40 := by decide
theorem bC_41 : (Int8.ofInt 41).toInt32 = nI 41 := by decide
theorem bC_42 : (Int8.ofInt 42).toInt32 = nI 42 := by decide
theorem bC_43 : (Int8.ofInt 43).toInt32 = nI 43 := by decide
theorem bC_45 : (Int8.ofInt 45).toInt32 = nI 45 := by decide
theorem bC_47 : (Int8.ofInt 47).toInt32 = nI 47 := by decide
theorem bC_48 : (Int8.ofInt 48).toInt32 = nI 48 := by decide
theorem bC_50 : (Int8.ofInt 50).toInt32 = nI 50 := by decide
theorem bC_57 : (Int8.ofInt 57).toInt32 = nI 57 := by decide
theorem bC_60 : (Int8.ofInt 60).toInt32 = nI 60 := by decide
theorem bC_63 : (Int8.ofInt 63).toInt32 = nI 63 := by decide
theorem bC_64 : (Int8.ofInt 64).toInt32 = nI 64 := by decide
theorem bC_65 : (Int8.ofInt 65).toInt32 = nI 65 := by decide
theorem bC_72 : (Int8.ofInt 72).toInt32 = nI 72 := by decide
theorem bC_80 : (Int8.ofInt 80).toInt32 = nI 80 := by decide
theorem bC_96 : (Int8.ofInt 96).toInt32 = nI 96 := by decide
theorem bC_97 : (Int8.ofInt 97).toInt32 = nI 97 := by decide
theorem bC_100 : (Int8.ofInt 100).toInt32 = nI 100 := by decide
theorem bC_101 : (Int8.ofInt 101).toInt32 = nI 101 := by decide
theorem bC_104 : (Int8.ofInt 104).toInt32 = nI 104 := by decide
theorem bC_108 : (Int8.ofInt 108).toInt32 = nI 108 := by decide
theorem bC_110 : (Int8.ofInt 110).toInt32 = nI 110 := by decide
theorem bC_117 : (Int8.ofInt 117).toInt32 = nI 117 := by decide
theorem bC_120 : (Int8.ofInt 120).toInt32 = nI 120 := by decide
theorem bC_126 : (Int8.ofInt 126).toInt32 = nI 126 := by decide
theorem iC_m1 : Int32.ofInt (-1) = (-1) := by decide
theorem iC_0 : Int32.ofInt 0 = nI 0 := by decide
theorem iC_1 : Int32.ofInt 1 = nI 1 := by decide
theorem iC_2 : Int32.ofInt 2 = nI 2 := by decide
theorem iC_3 : Int32.ofInt 3 = nI 3 := by decide
theorem iC_4 : Int32.ofInt 4 = nI 4 := by decide
theorem iC_5 : Int32.ofInt 5 = nI 5 := by decide
theorem lC_0 : Int64.ofNat ((0 : Fin 2) : Nat) = 0 := by decide
theorem lC_1 : Int64.ofNat ((1 : Fin 2) : Nat) = 1 := by decide
theorem sC_m30000 : (Int16.ofInt (-30000)).toInt32 = (-30000) := by decide
theorem sC_m20000 : (Int16.ofInt (-20000)).toInt32 = (-20000) := by decide
theorem sC_m1000 : (Int16.ofInt (-1000)).toInt32 = (-1000) := by decide
theorem sC_128 : (Int16.ofInt 128).toInt32 = nI 128 := by decide
theorem sC_155 : (Int16.ofInt 155).toInt32 = nI 155 := by decide
theorem sC_200 : (Int16.ofInt 200).toInt32 = nI 200 := by decide
theorem sC_240 : (Int16.ofInt 240).toInt32 = nI 240 := by decide
theorem sC_241 : (Int16.ofInt 241).toInt32 = nI 241 := by decide
theorem sC_255 : (Int16.ofInt 255).toInt32 = nI 255 := by decide
theorem sC_384 : (Int16.ofInt 384).toInt32 = nI 384 := by decide
theorem sC_390 : (Int16.ofInt 390).toInt32 = nI 390 := by decide
theorem sC_999 : (Int16.ofInt 999).toInt32 = nI 999 := by decide
theorem sC_1000 : (Int16.ofInt 1000).toInt32 = nI 1000 := by decide
theorem sC_1240 : (Int16.ofInt 1240).toInt32 = nI 1240 := by decide
theorem sC_2401 : (Int16.ofInt 2401).toInt32 = nI 2401 := by decide
theorem sC_14400 : (Int16.ofInt 14400).toInt32 = nI 14400 := by decide
theorem sC_20000 : (Int16.ofInt 20000).toInt32 = nI 20000 := by decide
