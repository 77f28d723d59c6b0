theorem bC_m2 : (Int8.ofInt (-2)).toInt32 = (-2) := by decide
theorem bC_6 : (Int8.ofInt 6).toInt32 = nI 6 := by decide
theorem bC_7 : (Int8.ofInt 7).toInt32 = nI 7 := by decide
theorem bC_8 : (Int8.ofInt 8).toInt32 = nI 8 := by decide
theorem bC_16 : (Int8.ofInt 16).toInt32 = nI 16 := by decide
theorem bC_20 : (Int8.ofInt 20).toInt32 = nI 20 := by decide
theorem bC_24 : (Int8.ofInt 24).toInt32 = nI 24 := by decide
theorem bC_60 : (Int8.ofInt 60).toInt32 = nI 60 := by decide
theorem bC_63 : (Int8.ofInt 63).toInt32 = nI 63 := by decide
theorem bC_64 : (Int8.ofInt 64).toInt32 = nI 64 := by decide
theorem bC_104 : (Int8.ofInt 104).toInt32 = nI 104 := by decide
theorem iC_m1 : Int32.ofInt (-1) = (-1) := by decide
theorem iC_0 : Int32.ofInt 0 = nI 0 := by decide
theorem iC_1 : Int32.ofInt 1 = nI 1 := by decide
theorem iC_2 : Int32.ofInt 2 = nI 2 := by decide
theorem iC_3 : Int32.ofInt 3 = nI 3 := by decide
theorem iC_4 : Int32.ofInt 4 = nI 4 := by decide
theorem iC_5 : Int32.ofInt 5 = nI 5 := by decide
theorem lC_0 : Int64.ofNat ((0 : Fin 2) : Nat) = 0 := by decide
theorem lC_1 : Int64.ofNat ((1 : Fin 2) : Nat) = 1 := by decide
theorem sC_200 : (Int16.ofInt 200).toInt32 = nI 200 := by decide
theorem sC_255 : (Int16.ofInt 255).toInt32 = nI 255 := by decide
