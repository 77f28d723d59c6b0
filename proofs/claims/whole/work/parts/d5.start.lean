/-! THE LAW: the heap behind both constructors -/
def hZ : xH := lh (kX11 ++ kX12 110)
theorem hZ_2 : hZ.2 = 134 := by decide +kernel
theorem hZ_T : ((List.range 134).all fun a => decide (some ((hZ.1 a).1, (hZ.1 a).2.1) = csT[a]?)) = true := by decide +kernel
theorem hZ_F : (csF.all fun q => decide ((hZ.1 q.1).2.2 q.2.1 = q.2.2)) = true := by decide +kernel

