theorem bC_8 : (Int8.ofInt 8).toInt32 = nI 8 := by decide
theorem iC_0 : Int32.ofInt 0 = nI 0 := by decide
theorem iC_1 : Int32.ofInt 1 = nI 1 := by decide
theorem iC_2 : Int32.ofInt 2 = nI 2 := by decide
theorem lC_0 : Int64.ofNat ((0 : Fin 2) : Nat) = 0 := by decide
theorem lC_1 : Int64.ofNat ((1 : Fin 2) : Nat) = 1 := by decide
