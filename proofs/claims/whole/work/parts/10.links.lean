set_option maxRecDepth 20000 in
theorem izL : Cond.initialized RL ∈ xTT := (xIn1 0 rfl rfl)
set_option maxRecDepth 20000 in
theorem izX11 : Cond.initialized RX11 ∈ xTT := (xIn1 1 rfl rfl)
set_option maxRecDepth 20000 in
theorem izX7 : Cond.initialized RX7 ∈ xTT := (xIn1 2 rfl rfl)
set_option maxRecDepth 20000 in
theorem izX2 : Cond.initialized RX2 ∈ xTT := (xIn1 3 rfl rfl)
set_option maxRecDepth 20000 in
theorem izX4 : Cond.initialized RX4 ∈ xTT := (xIn1 4 rfl rfl)
set_option maxRecDepth 20000 in
theorem izX9 : Cond.initialized RX9 ∈ xTT := (xIn1 5 rfl rfl)
set_option maxRecDepth 20000 in
theorem izX0 : Cond.initialized RX0 ∈ xTT := (xIn1 6 rfl rfl)
set_option maxRecDepth 20000 in
theorem izX3 : Cond.initialized RX3 ∈ xTT := (xIn1 7 rfl rfl)
set_option maxRecDepth 20000 in
theorem izX10 : Cond.initialized RX10 ∈ xTT := (xIn1 8 rfl rfl)
set_option maxRecDepth 20000 in
theorem izX8 : Cond.initialized RX8 ∈ xTT := (xIn1 9 rfl rfl)
set_option maxRecDepth 20000 in
theorem izX6 : Cond.initialized RX6 ∈ xTT := (xIn1 10 rfl rfl)
set_option maxRecDepth 20000 in
theorem izX1 : Cond.initialized RX1 ∈ xTT := (xIn1 11 rfl rfl)
set_option maxRecDepth 20000 in
theorem izJ5 : Cond.initialized RJ5 ∈ xTT := (xIn1 12 rfl rfl)
set_option maxRecDepth 20000 in
theorem izJ4 : Cond.initialized RJ4 ∈ xTT := (xIn1 13 rfl rfl)
set_option maxRecDepth 20000 in
theorem izJ0 : Cond.initialized RJ0 ∈ xTT := (xIn1 14 rfl rfl)
set_option maxRecDepth 20000 in
theorem izJ2 : Cond.initialized RJ2 ∈ xTT := (xIn1 15 rfl rfl)
set_option maxRecDepth 20000 in
theorem izX12 : Cond.initialized RX12 ∈ xTT := (xIn1 16 rfl rfl)
set_option maxRecDepth 20000 in
theorem izX5 : Cond.initialized RX5 ∈ xTT := (xIn1 17 rfl rfl)
set_option maxRecDepth 20000 in
theorem izJ7 : Cond.initialized RJ7 ∈ xTT := (xIn1 18 rfl rfl)
set_option maxRecDepth 20000 in
theorem izJ10 : Cond.initialized RJ10 ∈ xTT := (xIn1 19 rfl rfl)
set_option maxRecDepth 20000 in
theorem izJ9 : Cond.initialized RJ9 ∈ xTT := (xIn1 20 rfl rfl)
set_option maxRecDepth 20000 in
theorem izJ8 : Cond.initialized RJ8 ∈ xTT := (xIn1 21 rfl rfl)
set_option maxRecDepth 20000 in
theorem izJ1 : Cond.initialized RJ1 ∈ xTT := (xIn1 22 rfl rfl)
set_option maxRecDepth 20000 in
theorem izJ3 : Cond.initialized RJ3 ∈ xTT := (xIn1 23 rfl rfl)
set_option maxRecDepth 20000 in
theorem izJxd2413 : Cond.initialized RJxd2413 ∈ xTT := (xIn1 24 rfl rfl)
set_option maxRecDepth 20000 in
theorem izJ6 : Cond.initialized RJ6 ∈ xTT := (xIn1 25 rfl rfl)
set_option maxRecDepth 20000 in
theorem lL_7 : Cond.classLink "EightPartsLaw" 7 "EightParts" ∈ xTT := (xIn1 26 rfl rfl)
set_option maxRecDepth 20000 in
theorem inX11 : Cond.instantiable RX11 16 ∈ xTT := (xIn1 27 rfl rfl)
set_option maxRecDepth 20000 in
theorem kL_9 : xMl "EightPartsLaw" 9 mX11_init := Or.inl (xIn1 28 rfl rfl)
set_option maxRecDepth 20000 in
theorem oX11_3 : Cond.methodLink RX11 3 objectInit ∈ xTT := (xIn1 31 rfl rfl)
set_option maxRecDepth 20000 in
theorem lX11_9 : Cond.classLink RX11 9 "[[I" ∈ xTT := (xIn1 34 rfl rfl)
set_option maxRecDepth 20000 in
theorem lX11_14 : Cond.classLink RX11 14 "EightParts$Reckoner" ∈ xTT := (xIn1 36 rfl rfl)
set_option maxRecDepth 20000 in
theorem inX7 : Cond.instantiable RX7 3 ∈ xTT := (xIn1 37 rfl rfl)
set_option maxRecDepth 20000 in
theorem kX11_16 : xMl RX11 16 mX7_init := Or.inr ⟨"EightParts", (List.mem_filter.mpr ⟨xT1 (List.mem_of_getElem? (i := 38) rfl), rfl⟩)⟩
set_option maxRecDepth 20000 in
theorem oX7_3 : Cond.methodLink RX7 3 objectInit ∈ xTT := (xIn1 41 rfl rfl)
set_option maxRecDepth 20000 in
theorem fX7_9 : xFl RX7 9 7 0 := ⟨_, rfl, by decide, Or.inl (xIn1 42 rfl rfl)⟩
set_option maxRecDepth 20000 in
theorem fX7_15 : xFl RX7 15 7 1 := ⟨_, rfl, by decide, Or.inl (xIn1 43 rfl rfl)⟩
set_option maxRecDepth 20000 in
theorem fX7_19 : xFl RX7 19 7 2 := ⟨_, rfl, by decide, Or.inl (xIn1 44 rfl rfl)⟩
set_option maxRecDepth 20000 in
theorem ac_int : Cond.arrayClass .int ∈ xTT := (xIn1 52 rfl rfl)
set_option maxRecDepth 20000 in
theorem ac_long : Cond.arrayClass .long ∈ xTT := (xIn1 53 rfl rfl)
set_option maxRecDepth 20000 in
theorem lX11_21 : Cond.classLink RX11 21 "EightParts$Lattice" ∈ xTT := (xIn1 54 rfl rfl)
set_option maxRecDepth 20000 in
theorem inX2 : Cond.instantiable RX2 4 ∈ xTT := (xIn1 55 rfl rfl)
set_option maxRecDepth 20000 in
theorem kX11_23 : xMl RX11 23 mX2_init := Or.inr ⟨"EightParts", (List.mem_filter.mpr ⟨xT1 (List.mem_of_getElem? (i := 56) rfl), rfl⟩)⟩
set_option maxRecDepth 20000 in
theorem oX2_3 : Cond.methodLink RX2 3 objectInit ∈ xTT := (xIn1 59 rfl rfl)
set_option maxRecDepth 20000 in
theorem lX2_15 : Cond.classLink RX2 15 "[[J" ∈ xTT := (xIn1 60 rfl rfl)
set_option maxRecDepth 20000 in
theorem fX2_9 : xFl RX2 9 2 0 := ⟨_, rfl, by decide, Or.inl (xIn1 62 rfl rfl)⟩
set_option maxRecDepth 20000 in
theorem fX4_30 : xFl RX4 30 2 0 := ⟨_, rfl, by decide, Or.inr ⟨"EightParts", (List.mem_filter.mpr ⟨xT1 (List.mem_of_getElem? (i := 63) rfl), rfl⟩)⟩⟩
set_option maxRecDepth 20000 in
theorem fX11_140 : xFl RX11 140 2 0 := ⟨_, rfl, by decide, Or.inr ⟨"EightParts", (List.mem_filter.mpr ⟨xT1 (List.mem_of_getElem? (i := 64) rfl), rfl⟩)⟩⟩
set_option maxRecDepth 20000 in
theorem fX9_114 : xFl RX9 114 2 0 := ⟨_, rfl, by decide, Or.inr ⟨"EightParts", (List.mem_filter.mpr ⟨xT1 (List.mem_of_getElem? (i := 65) rfl), rfl⟩)⟩⟩
set_option maxRecDepth 20000 in
theorem fX2_17 : xFl RX2 17 2 1 := ⟨_, rfl, by decide, Or.inl (xIn1 66 rfl rfl)⟩
set_option maxRecDepth 20000 in
theorem fX2_20 : xFl RX2 20 2 2 := ⟨_, rfl, by decide, Or.inl (xIn1 67 rfl rfl)⟩
set_option maxRecDepth 20000 in
theorem fX2_23 : xFl RX2 23 2 3 := ⟨_, rfl, by decide, Or.inl (xIn1 68 rfl rfl)⟩
set_option maxRecDepth 20000 in
theorem lX11_28 : Cond.classLink RX11 28 "EightParts$Lists" ∈ xTT := (xIn1 78 rfl rfl)
set_option maxRecDepth 20000 in
theorem inX4 : Cond.instantiable RX4 5 ∈ xTT := (xIn1 79 rfl rfl)
set_option maxRecDepth 20000 in
theorem kX11_30 : xMl RX11 30 mX4_init := Or.inl (xIn1 80 rfl rfl)
set_option maxRecDepth 20000 in
theorem oX4_3 : Cond.methodLink RX4 3 objectInit ∈ xTT := (xIn1 83 rfl rfl)
set_option maxRecDepth 20000 in
theorem lX4_9 : Cond.classLink RX4 9 "[[I" ∈ xTT := (xIn1 84 rfl rfl)
set_option maxRecDepth 20000 in
theorem fX4_26 : xFl RX4 26 4 0 := ⟨_, rfl, by decide, Or.inl (xIn1 85 rfl rfl)⟩
set_option maxRecDepth 20000 in
theorem fX9_110 : xFl RX9 110 4 0 := ⟨_, rfl, by decide, Or.inr ⟨"EightParts", (List.mem_filter.mpr ⟨xT1 (List.mem_of_getElem? (i := 86) rfl), rfl⟩)⟩⟩
set_option maxRecDepth 20000 in
theorem fX4_11 : xFl RX4 11 4 1 := ⟨_, rfl, by decide, Or.inl (xIn1 87 rfl rfl)⟩
set_option maxRecDepth 20000 in
theorem fX4_16 : xFl RX4 16 4 2 := ⟨_, rfl, by decide, Or.inl (xIn1 88 rfl rfl)⟩
set_option maxRecDepth 20000 in
theorem fX4_20 : xFl RX4 20 4 3 := ⟨_, rfl, by decide, Or.inl (xIn1 89 rfl rfl)⟩
set_option maxRecDepth 20000 in
theorem fX4_23 : xFl RX4 23 4 4 := ⟨_, rfl, by decide, Or.inl (xIn1 90 rfl rfl)⟩
set_option maxRecDepth 20000 in
theorem lX11_37 : Cond.classLink RX11 37 "EightParts$Units" ∈ xTT := (xIn1 102 rfl rfl)
set_option maxRecDepth 20000 in
theorem inX9 : Cond.instantiable RX9 9 ∈ xTT := (xIn1 103 rfl rfl)
set_option maxRecDepth 20000 in
theorem kX11_39 : xMl RX11 39 mX9_init := Or.inl (xIn1 104 rfl rfl)
set_option maxRecDepth 20000 in
theorem oX9_3 : Cond.methodLink RX9 3 objectInit ∈ xTT := (xIn1 107 rfl rfl)
set_option maxRecDepth 20000 in
theorem fX9_35 : xFl RX9 35 9 0 := ⟨_, rfl, by decide, Or.inl (xIn1 108 rfl rfl)⟩
set_option maxRecDepth 20000 in
theorem fX9_39 : xFl RX9 39 9 1 := ⟨_, rfl, by decide, Or.inl (xIn1 109 rfl rfl)⟩
set_option maxRecDepth 20000 in
theorem fX9_9 : xFl RX9 9 9 2 := ⟨_, rfl, by decide, Or.inl (xIn1 110 rfl rfl)⟩
set_option maxRecDepth 20000 in
theorem fX9_15 : xFl RX9 15 9 3 := ⟨_, rfl, by decide, Or.inl (xIn1 111 rfl rfl)⟩
set_option maxRecDepth 20000 in
theorem fX9_18 : xFl RX9 18 9 4 := ⟨_, rfl, by decide, Or.inl (xIn1 112 rfl rfl)⟩
set_option maxRecDepth 20000 in
theorem fX9_21 : xFl RX9 21 9 5 := ⟨_, rfl, by decide, Or.inl (xIn1 113 rfl rfl)⟩
set_option maxRecDepth 20000 in
theorem fX9_25 : xFl RX9 25 9 6 := ⟨_, rfl, by decide, Or.inl (xIn1 114 rfl rfl)⟩
set_option maxRecDepth 20000 in
theorem fX9_28 : xFl RX9 28 9 7 := ⟨_, rfl, by decide, Or.inl (xIn1 115 rfl rfl)⟩
set_option maxRecDepth 20000 in
theorem fX9_32 : xFl RX9 32 9 8 := ⟨_, rfl, by decide, Or.inl (xIn1 116 rfl rfl)⟩
set_option maxRecDepth 20000 in
theorem fX11_304 : xFl RX11 304 9 8 := ⟨_, rfl, by decide, Or.inr ⟨"EightParts", (List.mem_filter.mpr ⟨xT1 (List.mem_of_getElem? (i := 117) rfl), rfl⟩)⟩⟩
set_option maxRecDepth 20000 in
theorem ac_boolean : Cond.arrayClass .boolean ∈ xTT := (xIn1 137 rfl rfl)
set_option maxRecDepth 20000 in
theorem lX11_46 : Cond.classLink RX11 46 "EightParts$Divider" ∈ xTT := (xIn1 138 rfl rfl)
set_option maxRecDepth 20000 in
theorem inX0 : Cond.instantiable RX0 10 ∈ xTT := (xIn1 139 rfl rfl)
set_option maxRecDepth 20000 in
theorem kX11_48 : xMl RX11 48 mX0_init := Or.inl (xIn1 140 rfl rfl)
set_option maxRecDepth 20000 in
theorem oX0_3 : Cond.methodLink RX0 3 objectInit ∈ xTT := (xIn1 143 rfl rfl)
set_option maxRecDepth 20000 in
theorem fX0_39 : xFl RX0 39 0 0 := ⟨_, rfl, by decide, Or.inl (xIn1 144 rfl rfl)⟩
set_option maxRecDepth 20000 in
theorem fX0_43 : xFl RX0 43 0 1 := ⟨_, rfl, by decide, Or.inl (xIn1 145 rfl rfl)⟩
set_option maxRecDepth 20000 in
theorem fX0_9 : xFl RX0 9 0 2 := ⟨_, rfl, by decide, Or.inl (xIn1 146 rfl rfl)⟩
set_option maxRecDepth 20000 in
theorem fX11_201 : xFl RX11 201 0 2 := ⟨_, rfl, by decide, Or.inr ⟨"EightParts", (List.mem_filter.mpr ⟨xT1 (List.mem_of_getElem? (i := 147) rfl), rfl⟩)⟩⟩
set_option maxRecDepth 20000 in
theorem fX0_15 : xFl RX0 15 0 3 := ⟨_, rfl, by decide, Or.inl (xIn1 148 rfl rfl)⟩
set_option maxRecDepth 20000 in
theorem fX11_204 : xFl RX11 204 0 3 := ⟨_, rfl, by decide, Or.inr ⟨"EightParts", (List.mem_filter.mpr ⟨xT1 (List.mem_of_getElem? (i := 149) rfl), rfl⟩)⟩⟩
set_option maxRecDepth 20000 in
theorem fX0_18 : xFl RX0 18 0 4 := ⟨_, rfl, by decide, Or.inl (xIn1 150 rfl rfl)⟩
set_option maxRecDepth 20000 in
theorem fX0_21 : xFl RX0 21 0 5 := ⟨_, rfl, by decide, Or.inl (xIn1 151 rfl rfl)⟩
set_option maxRecDepth 20000 in
theorem fX0_24 : xFl RX0 24 0 6 := ⟨_, rfl, by decide, Or.inl (xIn1 152 rfl rfl)⟩
set_option maxRecDepth 20000 in
theorem fX0_27 : xFl RX0 27 0 7 := ⟨_, rfl, by decide, Or.inl (xIn1 153 rfl rfl)⟩
set_option maxRecDepth 20000 in
theorem fX0_31 : xFl RX0 31 0 8 := ⟨_, rfl, by decide, Or.inl (xIn1 154 rfl rfl)⟩
set_option maxRecDepth 20000 in
theorem fX11_338 : xFl RX11 338 0 8 := ⟨_, rfl, by decide, Or.inr ⟨"EightParts", (List.mem_filter.mpr ⟨xT1 (List.mem_of_getElem? (i := 155) rfl), rfl⟩)⟩⟩
set_option maxRecDepth 20000 in
theorem fX0_35 : xFl RX0 35 0 9 := ⟨_, rfl, by decide, Or.inl (xIn1 156 rfl rfl)⟩
set_option maxRecDepth 20000 in
theorem fX11_345 : xFl RX11 345 0 9 := ⟨_, rfl, by decide, Or.inr ⟨"EightParts", (List.mem_filter.mpr ⟨xT1 (List.mem_of_getElem? (i := 157) rfl), rfl⟩)⟩⟩
set_option maxRecDepth 20000 in
theorem lX11_55 : Cond.classLink RX11 55 "EightParts$Laws" ∈ xTT := (xIn1 179 rfl rfl)
set_option maxRecDepth 20000 in
theorem inX3 : Cond.instantiable RX3 9 ∈ xTT := (xIn1 180 rfl rfl)
set_option maxRecDepth 20000 in
theorem kX11_57 : xMl RX11 57 mX3_init := Or.inl (xIn1 181 rfl rfl)
set_option maxRecDepth 20000 in
theorem oX3_3 : Cond.methodLink RX3 3 objectInit ∈ xTT := (xIn1 184 rfl rfl)
set_option maxRecDepth 20000 in
theorem fX3_36 : xFl RX3 36 3 0 := ⟨_, rfl, by decide, Or.inl (xIn1 185 rfl rfl)⟩
set_option maxRecDepth 20000 in
theorem fX3_9 : xFl RX3 9 3 1 := ⟨_, rfl, by decide, Or.inl (xIn1 186 rfl rfl)⟩
set_option maxRecDepth 20000 in
theorem fX3_15 : xFl RX3 15 3 2 := ⟨_, rfl, by decide, Or.inl (xIn1 187 rfl rfl)⟩
set_option maxRecDepth 20000 in
theorem fX3_18 : xFl RX3 18 3 3 := ⟨_, rfl, by decide, Or.inl (xIn1 188 rfl rfl)⟩
set_option maxRecDepth 20000 in
theorem fX3_21 : xFl RX3 21 3 4 := ⟨_, rfl, by decide, Or.inl (xIn1 189 rfl rfl)⟩
set_option maxRecDepth 20000 in
theorem fX3_24 : xFl RX3 24 3 5 := ⟨_, rfl, by decide, Or.inl (xIn1 190 rfl rfl)⟩
set_option maxRecDepth 20000 in
theorem fX3_27 : xFl RX3 27 3 6 := ⟨_, rfl, by decide, Or.inl (xIn1 191 rfl rfl)⟩
set_option maxRecDepth 20000 in
theorem fX3_30 : xFl RX3 30 3 7 := ⟨_, rfl, by decide, Or.inl (xIn1 192 rfl rfl)⟩
set_option maxRecDepth 20000 in
theorem fX3_33 : xFl RX3 33 3 8 := ⟨_, rfl, by decide, Or.inl (xIn1 193 rfl rfl)⟩
set_option maxRecDepth 20000 in
theorem lX11_64 : Cond.classLink RX11 64 "EightParts$Ways" ∈ xTT := (xIn1 213 rfl rfl)
set_option maxRecDepth 20000 in
theorem inX10 : Cond.instantiable RX10 3 ∈ xTT := (xIn1 214 rfl rfl)
set_option maxRecDepth 20000 in
theorem kX11_66 : xMl RX11 66 mX10_init := Or.inl (xIn1 215 rfl rfl)
set_option maxRecDepth 20000 in
theorem oX10_3 : Cond.methodLink RX10 3 objectInit ∈ xTT := (xIn1 218 rfl rfl)
set_option maxRecDepth 20000 in
theorem lX10_9 : Cond.classLink RX10 9 "[[I" ∈ xTT := (xIn1 219 rfl rfl)
set_option maxRecDepth 20000 in
theorem fX10_20 : xFl RX10 20 10 0 := ⟨_, rfl, by decide, Or.inl (xIn1 220 rfl rfl)⟩
set_option maxRecDepth 20000 in
theorem fX10_11 : xFl RX10 11 10 1 := ⟨_, rfl, by decide, Or.inl (xIn1 221 rfl rfl)⟩
set_option maxRecDepth 20000 in
theorem fX10_16 : xFl RX10 16 10 2 := ⟨_, rfl, by decide, Or.inl (xIn1 222 rfl rfl)⟩
set_option maxRecDepth 20000 in
theorem lX11_71 : Cond.classLink RX11 71 "EightParts$Tape" ∈ xTT := (xIn1 230 rfl rfl)
set_option maxRecDepth 20000 in
theorem inX8 : Cond.instantiable RX8 2 ∈ xTT := (xIn1 231 rfl rfl)
set_option maxRecDepth 20000 in
theorem kX11_73 : xMl RX11 73 mX8_init := Or.inr ⟨"EightParts", (List.mem_filter.mpr ⟨xT1 (List.mem_of_getElem? (i := 232) rfl), rfl⟩)⟩
set_option maxRecDepth 20000 in
theorem oX8_3 : Cond.methodLink RX8 3 objectInit ∈ xTT := (xIn1 235 rfl rfl)
set_option maxRecDepth 20000 in
theorem fX8_11 : xFl RX8 11 8 0 := ⟨_, rfl, by decide, Or.inl (xIn1 236 rfl rfl)⟩
set_option maxRecDepth 20000 in
theorem fX8_15 : xFl RX8 15 8 1 := ⟨_, rfl, by decide, Or.inl (xIn1 237 rfl rfl)⟩
set_option maxRecDepth 20000 in
theorem fX6_58 : xFl RX6 58 8 1 := ⟨_, rfl, by decide, Or.inr ⟨"EightParts", (List.mem_filter.mpr ⟨xT1 (List.mem_of_getElem? (i := 238) rfl), rfl⟩)⟩⟩
set_option maxRecDepth 20000 in
theorem fX11_226 : xFl RX11 226 8 1 := ⟨_, rfl, by decide, Or.inr ⟨"EightParts", (List.mem_filter.mpr ⟨xT1 (List.mem_of_getElem? (i := 239) rfl), rfl⟩)⟩⟩
set_option maxRecDepth 20000 in
theorem ac_byte : Cond.arrayClass .byte ∈ xTT := (xIn2 5 rfl rfl)
set_option maxRecDepth 20000 in
theorem lX11_78 : Cond.classLink RX11 78 "EightParts$Reader" ∈ xTT := (xIn2 6 rfl rfl)
set_option maxRecDepth 20000 in
theorem inX6 : Cond.instantiable RX6 9 ∈ xTT := (xIn2 7 rfl rfl)
set_option maxRecDepth 20000 in
theorem kX11_80 : xMl RX11 80 mX6_init := Or.inl (xIn2 8 rfl rfl)
set_option maxRecDepth 20000 in
theorem oX6_3 : Cond.methodLink RX6 3 objectInit ∈ xTT := (xIn2 11 rfl rfl)
set_option maxRecDepth 20000 in
theorem lX6_11 : Cond.classLink RX6 11 "[[I" ∈ xTT := (xIn2 12 rfl rfl)
set_option maxRecDepth 20000 in
theorem fX6_33 : xFl RX6 33 6 0 := ⟨_, rfl, by decide, Or.inl (xIn2 13 rfl rfl)⟩
set_option maxRecDepth 20000 in
theorem fX6_37 : xFl RX6 37 6 1 := ⟨_, rfl, by decide, Or.inl (xIn2 14 rfl rfl)⟩
set_option maxRecDepth 20000 in
theorem fX6_40 : xFl RX6 40 6 2 := ⟨_, rfl, by decide, Or.inl (xIn2 15 rfl rfl)⟩
set_option maxRecDepth 20000 in
theorem fX6_13 : xFl RX6 13 6 3 := ⟨_, rfl, by decide, Or.inl (xIn2 16 rfl rfl)⟩
set_option maxRecDepth 20000 in
theorem fX6_16 : xFl RX6 16 6 4 := ⟨_, rfl, by decide, Or.inl (xIn2 17 rfl rfl)⟩
set_option maxRecDepth 20000 in
theorem fX6_19 : xFl RX6 19 6 5 := ⟨_, rfl, by decide, Or.inl (xIn2 18 rfl rfl)⟩
set_option maxRecDepth 20000 in
theorem fX6_22 : xFl RX6 22 6 6 := ⟨_, rfl, by decide, Or.inl (xIn2 19 rfl rfl)⟩
set_option maxRecDepth 20000 in
theorem fX6_26 : xFl RX6 26 6 7 := ⟨_, rfl, by decide, Or.inl (xIn2 20 rfl rfl)⟩
set_option maxRecDepth 20000 in
theorem fX6_29 : xFl RX6 29 6 8 := ⟨_, rfl, by decide, Or.inl (xIn2 21 rfl rfl)⟩
set_option maxRecDepth 20000 in
theorem lX11_87 : Cond.classLink RX11 87 "EightParts$Keeper" ∈ xTT := (xIn2 41 rfl rfl)
set_option maxRecDepth 20000 in
theorem inX1 : Cond.instantiable RX1 3 ∈ xTT := (xIn2 42 rfl rfl)
set_option maxRecDepth 20000 in
theorem kX11_89 : xMl RX11 89 mX1_init := Or.inr ⟨"EightParts", (List.mem_filter.mpr ⟨xT2 (List.mem_of_getElem? (i := 43) rfl), rfl⟩)⟩
set_option maxRecDepth 20000 in
theorem oX1_3 : Cond.methodLink RX1 3 objectInit ∈ xTT := (xIn2 46 rfl rfl)
set_option maxRecDepth 20000 in
theorem fX1_11 : xFl RX1 11 1 0 := ⟨_, rfl, by decide, Or.inl (xIn2 47 rfl rfl)⟩
set_option maxRecDepth 20000 in
theorem fX1_15 : xFl RX1 15 1 1 := ⟨_, rfl, by decide, Or.inl (xIn2 48 rfl rfl)⟩
set_option maxRecDepth 20000 in
theorem fX1_18 : xFl RX1 18 1 2 := ⟨_, rfl, by decide, Or.inl (xIn2 49 rfl rfl)⟩
set_option maxRecDepth 20000 in
theorem fX11_352 : xFl RX11 352 1 2 := ⟨_, rfl, by decide, Or.inr ⟨"EightParts", (List.mem_filter.mpr ⟨xT2 (List.mem_of_getElem? (i := 50) rfl), rfl⟩)⟩⟩
set_option maxRecDepth 20000 in
theorem lX11_94 : Cond.classLink RX11 94 "java/lang/StringBuilder" ∈ xTT := (xIn2 58 rfl rfl)
set_option maxRecDepth 20000 in
theorem inJ4 : Cond.instantiable RJ4 4 ∈ xTT := (xIn2 59 rfl rfl)
set_option maxRecDepth 20000 in
theorem kX11_96 : xMl RX11 96 mJ4_init_da8c8 := Or.inl (xIn2 60 rfl rfl)
set_option maxRecDepth 20000 in
theorem kJ4_1 : xMl RJ4 1 mJ5_init_d00df := Or.inl (xIn2 63 rfl rfl)
set_option maxRecDepth 20000 in
theorem oJ5_3 : Cond.methodLink RJ5 3 objectInit ∈ xTT := (xIn2 66 rfl rfl)
set_option maxRecDepth 20000 in
theorem tJ5_18 : Cond.fieldLink RJ5 18 "java/lang/String" "COMPACT_STRINGS" "Z" ∈ xTT := (xIn2 67 rfl rfl)
set_option maxRecDepth 20000 in
theorem kJ5_26 : xMl RJ5 26 mJ2_newBytesFor_77867 := Or.inl (xIn2 69 rfl rfl)
set_option maxRecDepth 20000 in
theorem kJ2_11 : xMl RJ2 11 mJ2_newBytesLength_0f7a4 := Or.inl (xIn2 72 rfl rfl)
set_option maxRecDepth 20000 in
theorem cJ2_20 : Cond.constant RJ2 20 (1073741823) ∈ xTT := (xIn2 75 rfl rfl)
set_option maxRecDepth 20000 in
theorem fJ5_15 : xFl RJ5 15 13 0 := ⟨_, rfl, by decide, Or.inl (xIn2 76 rfl rfl)⟩
set_option maxRecDepth 20000 in
theorem fJ5_22 : xFl RJ5 22 13 1 := ⟨_, rfl, by decide, Or.inl (xIn2 77 rfl rfl)⟩
set_option maxRecDepth 20000 in
theorem fJ5_73 : xFl RJ5 73 13 2 := ⟨_, rfl, by decide, Or.inl (xIn2 78 rfl rfl)⟩
set_option maxRecDepth 20000 in
theorem fJ5_79 : xFl RJ5 79 13 3 := ⟨_, rfl, by decide, Or.inl (xIn2 79 rfl rfl)⟩
set_option maxRecDepth 20000 in
theorem fX11_11 : xFl RX11 11 11 0 := ⟨_, rfl, by decide, Or.inl (xIn2 89 rfl rfl)⟩
set_option maxRecDepth 20000 in
theorem fX11_17 : xFl RX11 17 11 1 := ⟨_, rfl, by decide, Or.inl (xIn2 90 rfl rfl)⟩
set_option maxRecDepth 20000 in
theorem fX11_24 : xFl RX11 24 11 2 := ⟨_, rfl, by decide, Or.inl (xIn2 91 rfl rfl)⟩
set_option maxRecDepth 20000 in
theorem fX11_33 : xFl RX11 33 11 3 := ⟨_, rfl, by decide, Or.inl (xIn2 92 rfl rfl)⟩
set_option maxRecDepth 20000 in
theorem fX11_42 : xFl RX11 42 11 4 := ⟨_, rfl, by decide, Or.inl (xIn2 93 rfl rfl)⟩
set_option maxRecDepth 20000 in
theorem fX11_51 : xFl RX11 51 11 5 := ⟨_, rfl, by decide, Or.inl (xIn2 94 rfl rfl)⟩
set_option maxRecDepth 20000 in
theorem fX11_60 : xFl RX11 60 11 6 := ⟨_, rfl, by decide, Or.inl (xIn2 95 rfl rfl)⟩
set_option maxRecDepth 20000 in
theorem fX11_67 : xFl RX11 67 11 7 := ⟨_, rfl, by decide, Or.inl (xIn2 96 rfl rfl)⟩
set_option maxRecDepth 20000 in
theorem fX11_74 : xFl RX11 74 11 8 := ⟨_, rfl, by decide, Or.inl (xIn2 97 rfl rfl)⟩
set_option maxRecDepth 20000 in
theorem fX11_83 : xFl RX11 83 11 9 := ⟨_, rfl, by decide, Or.inl (xIn2 98 rfl rfl)⟩
set_option maxRecDepth 20000 in
theorem fX11_90 : xFl RX11 90 11 10 := ⟨_, rfl, by decide, Or.inl (xIn2 99 rfl rfl)⟩
set_option maxRecDepth 20000 in
theorem fX11_97 : xFl RX11 97 11 11 := ⟨_, rfl, by decide, Or.inl (xIn2 100 rfl rfl)⟩
set_option maxRecDepth 20000 in
theorem fX11_101 : xFl RX11 101 11 12 := ⟨_, rfl, by decide, Or.inl (xIn2 101 rfl rfl)⟩
set_option maxRecDepth 20000 in
theorem fX11_105 : xFl RX11 105 11 13 := ⟨_, rfl, by decide, Or.inl (xIn2 102 rfl rfl)⟩
set_option maxRecDepth 20000 in
theorem fX11_108 : xFl RX11 108 11 14 := ⟨_, rfl, by decide, Or.inl (xIn2 103 rfl rfl)⟩
set_option maxRecDepth 20000 in
theorem fX11_111 : xFl RX11 111 11 15 := ⟨_, rfl, by decide, Or.inl (xIn2 104 rfl rfl)⟩
set_option maxRecDepth 20000 in
theorem kL_13 : xMl "EightPartsLaw" 13 mX11_put := Or.inl (xIn2 138 rfl rfl)
set_option maxRecDepth 20000 in
theorem kX11_115 : xMl RX11 115 mX11_isEighth := Or.inl (xIn2 142 rfl rfl)
set_option maxRecDepth 20000 in
theorem kL_18 : xMl "EightPartsLaw" 18 mX11_one := Or.inl (xIn2 145 rfl rfl)
set_option maxRecDepth 20000 in
theorem kX11_119 : xMl RX11 119 mX5_layOne := Or.inl (xIn2 149 rfl rfl)
set_option maxRecDepth 20000 in
theorem kX5_15 : xMl RX5 15 mJ7_fill_53178 := Or.inl (xIn2 152 rfl rfl)
set_option maxRecDepth 20000 in
theorem kL_23 : xMl "EightPartsLaw" 23 mX11_listed := Or.inl (xIn2 155 rfl rfl)
set_option maxRecDepth 20000 in
theorem kX11_125 : xMl RX11 125 mX11_isListedNorm := Or.inl (xIn2 159 rfl rfl)
set_option maxRecDepth 20000 in
theorem kX11_128 : xMl RX11 128 mX4_take := Or.inl (xIn2 162 rfl rfl)
set_option maxRecDepth 20000 in
theorem kX4_40 : xMl RX4 40 mX4_manyOf := Or.inl (xIn2 166 rfl rfl)
set_option maxRecDepth 20000 in
theorem kX4_36 : xMl RX4 36 mX4_fill := Or.inl (xIn2 170 rfl rfl)
set_option maxRecDepth 20000 in
theorem sX4_66 : xSl RX4 66 1 := ⟨_, rfl, Or.inl (xIn2 174 rfl rfl)⟩
set_option maxRecDepth 20000 in
theorem kX4_69 : xMl RX4 69 mX4_sortWords := Or.inl (xIn2 176 rfl rfl)
set_option maxRecDepth 20000 in
theorem kX4_79 : xMl RX4 79 mJ7_fill_53178 := Or.inl (xIn2 180 rfl rfl)
set_option maxRecDepth 20000 in
theorem kX4_72 : xMl RX4 72 mX2_manyWords := Or.inl (xIn2 181 rfl rfl)
set_option maxRecDepth 20000 in
theorem sX4_83 : xSl RX4 83 0 := ⟨_, rfl, Or.inr ⟨"EightParts", (List.mem_filter.mpr ⟨xT2 (List.mem_of_getElem? (i := 184) rfl), rfl⟩)⟩⟩
set_option maxRecDepth 20000 in
theorem kX4_86 : xMl RX4 86 mX2_exchange := Or.inl (xIn2 186 rfl rfl)
set_option maxRecDepth 20000 in
theorem kX4_75 : xMl RX4 75 mX4_grow := Or.inl (xIn2 189 rfl rfl)
set_option maxRecDepth 20000 in
theorem kX4_44 : xMl RX4 44 mX4_unpack := Or.inl (xIn2 193 rfl rfl)
set_option maxRecDepth 20000 in
theorem kL_27 : xMl "EightPartsLaw" 27 mX11_copy := Or.inl (xIn2 196 rfl rfl)
set_option maxRecDepth 20000 in
theorem kX11_132 : xMl RX11 132 mX11_areSlots := Or.inl (xIn2 200 rfl rfl)
set_option maxRecDepth 20000 in
theorem kX11_136 : xMl RX11 136 mX5_lay := Or.inl (xIn2 203 rfl rfl)
set_option maxRecDepth 20000 in
theorem aX5_9 : Cond.methodLink RX5 9 ⟨"java/lang/System", "arraycopy", "(Ljava/lang/Object;ILjava/lang/Object;II)V"⟩ ∈ xTT := (xIn2 206 rfl rfl)
set_option maxRecDepth 20000 in
theorem kL_31 : xMl "EightPartsLaw" 31 mX11_order := Or.inl (xIn2 209 rfl rfl)
set_option maxRecDepth 20000 in
theorem kL_36 : xMl "EightPartsLaw" 36 mX11_sum := Or.inl (xIn2 213 rfl rfl)
set_option maxRecDepth 20000 in
theorem kX11_144 : xMl RX11 144 mX11_areSlots_ := Or.inl (xIn2 217 rfl rfl)
set_option maxRecDepth 20000 in
theorem kX11_147 : xMl RX11 147 mX7_add := Or.inl (xIn2 220 rfl rfl)
set_option maxRecDepth 20000 in
theorem kX7_22 : xMl RX7 22 mX5_layIfWithin := Or.inl (xIn2 224 rfl rfl)
set_option maxRecDepth 20000 in
theorem cX5_35 : Cond.constantLong RX5 35 (-20000) ∈ xTT := (xIn2 227 rfl rfl)
set_option maxRecDepth 20000 in
theorem cX5_37 : Cond.constantLong RX5 37 (20000) ∈ xTT := (xIn2 228 rfl rfl)
set_option maxRecDepth 20000 in
theorem kX11_151 : xMl RX11 151 mX11_told := Or.inl (xIn2 229 rfl rfl)
set_option maxRecDepth 20000 in
theorem kL_41 : xMl "EightPartsLaw" 41 mX11_less := Or.inl (xIn2 232 rfl rfl)
set_option maxRecDepth 20000 in
theorem kL_45 : xMl "EightPartsLaw" 45 mX11_product := Or.inl (xIn2 236 rfl rfl)
set_option maxRecDepth 20000 in
theorem kX11_155 : xMl RX11 155 mX7_multiply := Or.inl (xIn3 0 rfl rfl)
set_option maxRecDepth 20000 in
theorem kX7_28 : xMl RX7 28 mX5_multiplyBy4 := Or.inl (xIn3 4 rfl rfl)
set_option maxRecDepth 20000 in
theorem kX7_32 : xMl RX7 32 mX5_halve := Or.inl (xIn3 7 rfl rfl)
set_option maxRecDepth 20000 in
theorem cX5_33 : Cond.constantLong RX5 33 (2) ∈ xTT := (xIn3 10 rfl rfl)
set_option maxRecDepth 20000 in
theorem kL_49 : xMl "EightPartsLaw" 49 mX11_mirror := Or.inl (xIn3 11 rfl rfl)
set_option maxRecDepth 20000 in
theorem kX11_159 : xMl RX11 159 mX5_layMirrored := Or.inl (xIn3 15 rfl rfl)
set_option maxRecDepth 20000 in
theorem kL_54 : xMl "EightPartsLaw" 54 mX11_times := Or.inl (xIn3 18 rfl rfl)
set_option maxRecDepth 20000 in
theorem kX11_162 : xMl RX11 162 mX7_scale := Or.inl (xIn3 22 rfl rfl)
set_option maxRecDepth 20000 in
theorem kL_58 : xMl "EightPartsLaw" 58 mX11_turn := Or.inl (xIn3 26 rfl rfl)
set_option maxRecDepth 20000 in
theorem kX11_166 : xMl RX11 166 mX11_isTurn := Or.inl (xIn3 30 rfl rfl)
set_option maxRecDepth 20000 in
theorem kX11_169 : xMl RX11 169 mX7_turnBy := Or.inl (xIn3 33 rfl rfl)
set_option maxRecDepth 20000 in
theorem kX7_36 : xMl RX7 36 mX7_multiply := Or.inl (xIn3 37 rfl rfl)
set_option maxRecDepth 20000 in
theorem kX7_40 : xMl RX7 40 mX5_layMirrored := Or.inl (xIn3 38 rfl rfl)
set_option maxRecDepth 20000 in
theorem kL_63 : xMl "EightPartsLaw" 63 mX11_chain := Or.inl (xIn3 39 rfl rfl)
set_option maxRecDepth 20000 in
theorem kX11_172 : xMl RX11 172 mX11_isRow := Or.inl (xIn3 43 rfl rfl)
set_option maxRecDepth 20000 in
theorem kX11_175 : xMl RX11 175 mX11_slotOfRow := Or.inl (xIn3 46 rfl rfl)
set_option maxRecDepth 20000 in
theorem kL_68 : xMl "EightPartsLaw" 68 mX11_last := Or.inl (xIn3 49 rfl rfl)
set_option maxRecDepth 20000 in
theorem kX11_179 : xMl RX11 179 mX0_walk := Or.inl (xIn3 53 rfl rfl)
set_option maxRecDepth 20000 in
theorem kX0_83 : xMl RX0 83 mX5_lay := Or.inl (xIn3 57 rfl rfl)
set_option maxRecDepth 20000 in
theorem kX0_86 : xMl RX0 86 mX0_split := Or.inl (xIn3 58 rfl rfl)
set_option maxRecDepth 20000 in
theorem kX0_47 : xMl RX0 47 mX5_normBy4 := Or.inl (xIn3 62 rfl rfl)
set_option maxRecDepth 20000 in
theorem kX5_29 : xMl RX5 29 mX5_innerBy4 := Or.inl (xIn3 65 rfl rfl)
set_option maxRecDepth 20000 in
theorem cX0_53 : Cond.constantLong RX0 53 (4) ∈ xTT := (xIn3 68 rfl rfl)
set_option maxRecDepth 20000 in
theorem kX0_55 : xMl RX0 55 mX5_layMirrored := Or.inl (xIn3 69 rfl rfl)
set_option maxRecDepth 20000 in
theorem kX0_59 : xMl RX0 59 mX5_multiplyBy4 := Or.inl (xIn3 70 rfl rfl)
set_option maxRecDepth 20000 in
theorem kX0_63 : xMl RX0 63 mX5_halve := Or.inl (xIn3 71 rfl rfl)
set_option maxRecDepth 20000 in
theorem kX0_67 : xMl RX0 67 mX2_layNearest := Or.inl (xIn3 72 rfl rfl)
set_option maxRecDepth 20000 in
theorem kX2_54 : xMl RX2 54 mX2_findNear := Or.inl (xIn3 76 rfl rfl)
set_option maxRecDepth 20000 in
theorem cX2_66 : Cond.constantLong RX2 66 (2) ∈ xTT := (xIn3 80 rfl rfl)
set_option maxRecDepth 20000 in
theorem kX2_68 : xMl RX2 68 mJ9_floorDiv_f86c9 := Or.inl (xIn3 81 rfl rfl)
set_option maxRecDepth 20000 in
theorem kX2_58 : xMl RX2 58 mX2_bestWord := Or.inl (xIn3 84 rfl rfl)
set_option maxRecDepth 20000 in
theorem sX2_31 : xSl RX2 31 0 := ⟨_, rfl, Or.inl (xIn3 88 rfl rfl)⟩
set_option maxRecDepth 20000 in
theorem kX2_27 : xMl RX2 27 mX2_exchange := Or.inl (xIn3 89 rfl rfl)
set_option maxRecDepth 20000 in
theorem kX2_74 : xMl RX2 74 mX2_missOf := Or.inl (xIn3 90 rfl rfl)
set_option maxRecDepth 20000 in
theorem kX2_35 : xMl RX2 35 mX2_manyWords := Or.inl (xIn3 94 rfl rfl)
set_option maxRecDepth 20000 in
theorem kX2_78 : xMl RX2 78 mX2_isListedAhead := Or.inl (xIn3 95 rfl rfl)
set_option maxRecDepth 20000 in
theorem kX2_62 : xMl RX2 62 mX5_layIfWithin := Or.inl (xIn3 99 rfl rfl)
set_option maxRecDepth 20000 in
theorem kX0_73 : xMl RX0 73 mX7_multiply := Or.inl (xIn3 100 rfl rfl)
set_option maxRecDepth 20000 in
theorem kX0_79 : xMl RX0 79 mX7_add := Or.inl (xIn3 101 rfl rfl)
set_option maxRecDepth 20000 in
theorem kX0_90 : xMl RX0 90 mX0_noteShare := Or.inl (xIn3 102 rfl rfl)
set_option maxRecDepth 20000 in
theorem cX0_103 : Cond.constantLong RX0 103 (100) ∈ xTT := (xIn3 106 rfl rfl)
set_option maxRecDepth 20000 in
theorem kX0_105 : xMl RX0 105 mJ9_max_f86c9 := Or.inl (xIn3 107 rfl rfl)
set_option maxRecDepth 20000 in
theorem kX11_182 : xMl RX11 182 mX0_lastOfWalk := Or.inl (xIn3 110 rfl rfl)
set_option maxRecDepth 20000 in
theorem kX0_93 : xMl RX0 93 mX5_isZero := Or.inl (xIn3 114 rfl rfl)
set_option maxRecDepth 20000 in
theorem kX11_186 : xMl RX11 186 mX5_isZero := Or.inl (xIn3 117 rfl rfl)
set_option maxRecDepth 20000 in
theorem kL_72 : xMl "EightPartsLaw" 72 mX11_power := Or.inl (xIn3 118 rfl rfl)
set_option maxRecDepth 20000 in
theorem kL_76 : xMl "EightPartsLaw" 76 mX11_associator := Or.inl (xIn3 122 rfl rfl)
set_option maxRecDepth 20000 in
theorem kL_80 : xMl "EightPartsLaw" 80 mX11_commutator := Or.inl (xIn3 126 rfl rfl)
set_option maxRecDepth 20000 in
theorem kL_84 : xMl "EightPartsLaw" 84 mX11_nearest := Or.inl (xIn3 130 rfl rfl)
set_option maxRecDepth 20000 in
theorem kX11_190 : xMl RX11 190 mX11_isDivisor := Or.inl (xIn3 134 rfl rfl)
set_option maxRecDepth 20000 in
theorem kX11_193 : xMl RX11 193 mX2_layNearest := Or.inl (xIn3 137 rfl rfl)
set_option maxRecDepth 20000 in
theorem kL_88 : xMl "EightPartsLaw" 88 mX11_divide := Or.inl (xIn3 138 rfl rfl)
set_option maxRecDepth 20000 in
theorem kX11_197 : xMl RX11 197 mX0_split := Or.inl (xIn3 142 rfl rfl)
set_option maxRecDepth 20000 in
theorem kL_92 : xMl "EightPartsLaw" 92 mX11_bracket := Or.inl (xIn3 143 rfl rfl)
set_option maxRecDepth 20000 in
theorem kX11_207 : xMl RX11 207 mX10_manyOf := Or.inl (xIn3 147 rfl rfl)
set_option maxRecDepth 20000 in
theorem sX10_24 : xSl RX10 24 2 := ⟨_, rfl, Or.inl (xIn3 151 rfl rfl)⟩
set_option maxRecDepth 20000 in
theorem kX11_211 : xMl RX11 211 mX10_fill := Or.inl (xIn3 153 rfl rfl)
set_option maxRecDepth 20000 in
theorem kX10_28 : xMl RX10 28 mX11_slotOfRow := Or.inr ⟨"EightParts", (List.mem_filter.mpr ⟨xT3 (List.mem_of_getElem? (i := 157) rfl), rfl⟩)⟩
set_option maxRecDepth 20000 in
theorem kX10_32 : xMl RX10 32 mX5_lay := Or.inl (xIn3 158 rfl rfl)
set_option maxRecDepth 20000 in
theorem kX10_38 : xMl RX10 38 mX10_fillStretch := Or.inl (xIn3 159 rfl rfl)
set_option maxRecDepth 20000 in
theorem kX10_53 : xMl RX10 53 mX10_startOf := Or.inl (xIn3 163 rfl rfl)
set_option maxRecDepth 20000 in
theorem sX10_42 : xSl RX10 42 3 := ⟨_, rfl, Or.inl (xIn3 166 rfl rfl)⟩
set_option maxRecDepth 20000 in
theorem kX10_56 : xMl RX10 56 mX10_join := Or.inl (xIn3 168 rfl rfl)
set_option maxRecDepth 20000 in
theorem kX10_60 : xMl RX10 60 mX7_multiply := Or.inl (xIn3 172 rfl rfl)
set_option maxRecDepth 20000 in
theorem kX11_215 : xMl RX11 215 mX10_layWay := Or.inl (xIn3 173 rfl rfl)
set_option maxRecDepth 20000 in
theorem kL_96 : xMl "EightPartsLaw" 96 mX11_feed := Or.inl (xIn3 177 rfl rfl)
set_option maxRecDepth 20000 in
theorem kX11_218 : xMl RX11 218 mX8_hasRoom := Or.inl (xIn3 181 rfl rfl)
set_option maxRecDepth 20000 in
theorem kX11_222 : xMl RX11 222 mX8_append := Or.inl (xIn3 185 rfl rfl)
set_option maxRecDepth 20000 in
theorem kL_100 : xMl "EightPartsLaw" 100 mX11_back := Or.inl (xIn3 189 rfl rfl)
set_option maxRecDepth 20000 in
theorem kL_104 : xMl "EightPartsLaw" 104 mX11_work := Or.inl (xIn3 193 rfl rfl)
set_option maxRecDepth 20000 in
theorem kX11_229 : xMl RX11 229 mX6_read := Or.inl (xIn3 197 rfl rfl)
set_option maxRecDepth 20000 in
theorem kX6_44 : xMl RX6 44 mX6_readSum := Or.inl (xIn3 201 rfl rfl)
set_option maxRecDepth 20000 in
theorem kX6_67 : xMl RX6 67 mX6_readTerm := Or.inl (xIn3 205 rfl rfl)
set_option maxRecDepth 20000 in
theorem kX6_80 : xMl RX6 80 mX6_readFactor := Or.inl (xIn3 209 rfl rfl)
set_option maxRecDepth 20000 in
theorem kX6_48 : xMl RX6 48 mX6_ahead := Or.inl (xIn3 213 rfl rfl)
set_option maxRecDepth 20000 in
theorem kX6_63 : xMl RX6 63 mX8_byteAt := Or.inl (xIn3 217 rfl rfl)
set_option maxRecDepth 20000 in
theorem kX6_52 : xMl RX6 52 mX5_lay := Or.inl (xIn3 221 rfl rfl)
set_option maxRecDepth 20000 in
theorem kX6_87 : xMl RX6 87 mX6_isDigit := Or.inl (xIn3 222 rfl rfl)
set_option maxRecDepth 20000 in
theorem kX6_91 : xMl RX6 91 mX6_readInt := Or.inl (xIn3 225 rfl rfl)
set_option maxRecDepth 20000 in
theorem kX6_101 : xMl RX6 101 mJ9_min_7cf53 := Or.inl (xIn3 229 rfl rfl)
set_option maxRecDepth 20000 in
theorem kX6_107 : xMl RX6 107 mJ7_fill_53178 := Or.inl (xIn3 232 rfl rfl)
set_option maxRecDepth 20000 in
theorem kX6_94 : xMl RX6 94 mX6_readNested := Or.inl (xIn3 233 rfl rfl)
set_option maxRecDepth 20000 in
theorem kX6_98 : xMl RX6 98 mX5_layMirrored := Or.inl (xIn3 237 rfl rfl)
set_option maxRecDepth 20000 in
theorem kX6_83 : xMl RX6 83 mX7_multiply := Or.inl (xIn3 238 rfl rfl)
set_option maxRecDepth 20000 in
theorem kX6_76 : xMl RX6 76 mX6_note := Or.inl (xIn3 239 rfl rfl)
set_option maxRecDepth 20000 in
theorem kX6_70 : xMl RX6 70 mX7_add := Or.inl (xIn4 3 rfl rfl)
set_option maxRecDepth 20000 in
theorem kX11_233 : xMl RX11 233 mX6_layResult := Or.inl (xIn4 4 rfl rfl)
set_option maxRecDepth 20000 in
theorem kL_108 : xMl "EightPartsLaw" 108 mX11_part := Or.inl (xIn4 8 rfl rfl)
set_option maxRecDepth 20000 in
theorem kL_112 : xMl "EightPartsLaw" 112 mX11_norm := Or.inl (xIn4 12 rfl rfl)
set_option maxRecDepth 20000 in
theorem kX11_236 : xMl RX11 236 mX5_normBy4 := Or.inl (xIn4 16 rfl rfl)
set_option maxRecDepth 20000 in
theorem kX11_240 : xMl RX11 240 mX11_capped := Or.inl (xIn4 17 rfl rfl)
set_option maxRecDepth 20000 in
theorem cX11_365 : Cond.constantLong RX11 365 (-2000000000) ∈ xTT := (xIn4 20 rfl rfl)
set_option maxRecDepth 20000 in
theorem cX11_367 : Cond.constantLong RX11 367 (2000000000) ∈ xTT := (xIn4 21 rfl rfl)
set_option maxRecDepth 20000 in
theorem kX11_369 : xMl RX11 369 mJ9_min_f86c9 := Or.inl (xIn4 22 rfl rfl)
set_option maxRecDepth 20000 in
theorem kX11_375 : xMl RX11 375 mJ9_max_f86c9 := Or.inl (xIn4 25 rfl rfl)
set_option maxRecDepth 20000 in
theorem kL_116 : xMl "EightPartsLaw" 116 mX11_spell := Or.inl (xIn4 26 rfl rfl)
set_option maxRecDepth 20000 in
theorem kX11_244 : xMl RX11 244 mJ4_setLength_d00df := Or.inl (xIn4 30 rfl rfl)
set_option maxRecDepth 20000 in
theorem kJ4_333 : xMl RJ4 333 mJ5_setLength_d00df := Or.inl (xIn4 34 rfl rfl)
set_option maxRecDepth 20000 in
theorem kJ5_100 : xMl RJ5 100 mJ5_ensureCapacityInternal_d00df := Or.inl (xIn4 37 rfl rfl)
set_option maxRecDepth 20000 in
theorem kJ5_104 : xMl RJ5 104 mJ5_newCapacity_0f7a4 := Or.inl (xIn4 41 rfl rfl)
set_option maxRecDepth 20000 in
theorem kJ5_114 : xMl RJ5 114 mJ8_newLength_cabcc := Or.inl (xIn4 45 rfl rfl)
set_option maxRecDepth 20000 in
theorem kJ8_194 : xMl RJ8 194 mJ9_max_7cf53 := Or.inl (xIn4 48 rfl rfl)
set_option maxRecDepth 20000 in
theorem cJ8_200 : Cond.constant RJ8 200 (2147483639) ∈ xTT := (xIn4 51 rfl rfl)
set_option maxRecDepth 20000 in
theorem kJ8_201 : xMl RJ8 201 mJ8_hugeLength_7cf53 := Or.inl (xIn4 52 rfl rfl)
set_option maxRecDepth 20000 in
theorem cJ5_39 : Cond.constant RJ5 39 (2147483647) ∈ xTT := (xIn4 55 rfl rfl)
set_option maxRecDepth 20000 in
theorem kJ5_108 : xMl RJ5 108 mJ7_copyOf_9075b := Or.inl (xIn4 56 rfl rfl)
set_option maxRecDepth 20000 in
theorem aJ7_310 : Cond.methodLink RJ7 310 ⟨"[B", "clone", "()Ljava/lang/Object;"⟩ ∈ xTT := (xIn4 59 rfl rfl)
set_option maxRecDepth 20000 in
theorem lJ7_311 : Cond.classLink RJ7 311 "[B" ∈ xTT := (xIn4 65 rfl rfl)
set_option maxRecDepth 20000 in
theorem kJ7_304 : xMl RJ7 304 mJ9_min_7cf53 := Or.inl (xIn4 66 rfl rfl)
set_option maxRecDepth 20000 in
theorem aJ7_150 : Cond.methodLink RJ7 150 ⟨"java/lang/System", "arraycopy", "(Ljava/lang/Object;ILjava/lang/Object;II)V"⟩ ∈ xTT := (xIn4 67 rfl rfl)
set_option maxRecDepth 20000 in
theorem kJ5_83 : xMl RJ5 83 mJ5_isLatin1_aae02 := Or.inl (xIn4 68 rfl rfl)
set_option maxRecDepth 20000 in
theorem kJ5_133 : xMl RJ5 133 mJ1_fillNull_b72d1 := Or.inl (xIn4 73 rfl rfl)
set_option maxRecDepth 20000 in
theorem kJ1_236 : xMl RJ1 236 mJ7_fill_eb02e := Or.inl (xIn4 76 rfl rfl)
set_option maxRecDepth 20000 in
theorem kJ7_13 : xMl RJ7 13 mJ7_rangeCheck_23922 := Or.inl (xIn4 79 rfl rfl)
set_option maxRecDepth 20000 in
theorem kJ5_137 : xMl RJ5 137 mJ2_fillNull_b72d1 := Or.inl (xIn4 82 rfl rfl)
set_option maxRecDepth 20000 in
theorem kJ2_380 : xMl RJ2 380 mJ7_fill_eb02e := Or.inl (xIn4 85 rfl rfl)
set_option maxRecDepth 20000 in
theorem kX11_247 : xMl RX11 247 mX11_spellPart := Or.inl (xIn4 86 rfl rfl)
set_option maxRecDepth 20000 in
theorem kX11_253 : xMl RX11 253 mJ4_append_cf468 := Or.inl (xIn4 90 rfl rfl)
set_option maxRecDepth 20000 in
theorem kJ4_50 : xMl RJ4 50 mJ5_append_3fe6f := Or.inl (xIn4 94 rfl rfl)
set_option maxRecDepth 20000 in
theorem kJ5_191 : xMl RJ5 191 mJ1_canEncode_fc78d := Or.inl (xIn4 97 rfl rfl)
set_option maxRecDepth 20000 in
theorem kJ5_195 : xMl RJ5 195 mJ5_inflate_da8c8 := Or.inl (xIn4 100 rfl rfl)
set_option maxRecDepth 20000 in
theorem kJ5_125 : xMl RJ5 125 mJ1_inflate_0e8fd := Or.inl (xIn4 104 rfl rfl)
set_option maxRecDepth 20000 in
theorem kJ1_240 : xMl RJ1 240 mJ2_inflate_0e8fd := Or.inl (xIn4 107 rfl rfl)
set_option maxRecDepth 20000 in
theorem kJ2_173 : xMl RJ2 173 mJ2_checkBoundsOffCount_d044e := Or.inl (xIn4 110 rfl rfl)
set_option maxRecDepth 20000 in
theorem kJ2_48 : xMl RJ2 48 mJ2_length_9d52b := Or.inl (xIn4 113 rfl rfl)
set_option maxRecDepth 20000 in
theorem kJ2_419 : xMl RJ2 419 mJ0_checkBoundsOffCount_cabcc := Or.inl (xIn4 116 rfl rfl)
set_option maxRecDepth 20000 in
theorem tJ0_1053 : Cond.fieldLink RJ0 1053 "jdk/internal/util/Preconditions" "SIOOBE_FORMATTER" "Ljava/util/function/BiFunction;" ∈ xTT := (xIn4 119 rfl rfl)
set_option maxRecDepth 20000 in
theorem kJ0_1065 : xMl RJ0 1065 mJ3_checkFromIndexSize_8c36e := Or.inl (xIn4 121 rfl rfl)
set_option maxRecDepth 20000 in
theorem kJ2_111 : xMl RJ2 111 mJ2_putChar_b72d1 := Or.inl (xIn4 124 rfl rfl)
set_option maxRecDepth 20000 in
theorem tJ2_44 : Cond.fieldLink RJ2 44 "java/lang/StringUTF16" "$assertionsDisabled" "Z" ∈ xTT := (xIn4 127 rfl rfl)
set_option maxRecDepth 20000 in
theorem tJ2_59 : Cond.fieldLink RJ2 59 "java/lang/StringUTF16" "HI_BYTE_SHIFT" "I" ∈ xTT := (xIn4 129 rfl rfl)
set_option maxRecDepth 20000 in
theorem tJ2_63 : Cond.fieldLink RJ2 63 "java/lang/StringUTF16" "LO_BYTE_SHIFT" "I" ∈ xTT := (xIn4 131 rfl rfl)
set_option maxRecDepth 20000 in
theorem kJ5_197 : xMl RJ5 197 mJ2_putCharSB_b72d1 := Or.inl (xIn4 133 rfl rfl)
set_option maxRecDepth 20000 in
theorem kJ2_67 : xMl RJ2 67 mJ2_checkIndex_2214a := Or.inl (xIn4 136 rfl rfl)
set_option maxRecDepth 20000 in
theorem kJ2_414 : xMl RJ2 414 mJ0_checkIndex_df160 := Or.inl (xIn4 139 rfl rfl)
set_option maxRecDepth 20000 in
theorem kJ0_1059 : xMl RJ0 1059 mJ3_checkIndex_8e157 := Or.inl (xIn4 142 rfl rfl)
set_option maxRecDepth 20000 in
theorem kX11_251 : xMl RX11 251 mJ4_length_8abf5 := Or.inl (xIn4 145 rfl rfl)
set_option maxRecDepth 20000 in
theorem kJ4_343 : xMl RJ4 343 mJ5_length_8abf5 := Or.inl (xIn4 149 rfl rfl)
set_option maxRecDepth 20000 in
theorem kX11_378 : xMl RX11 378 mJ9_abs_0f7a4 := Or.inl (xIn4 152 rfl rfl)
set_option maxRecDepth 20000 in
theorem kX11_381 : xMl RX11 381 mJ4_append_bf812 := Or.inl (xIn4 155 rfl rfl)
set_option maxRecDepth 20000 in
theorem kJ4_53 : xMl RJ4 53 mJ5_append_c97b9 := Or.inl (xIn4 159 rfl rfl)
set_option maxRecDepth 20000 in
theorem kJ5_245 : xMl RJ5 245 mJ6_stringSize_0f7a4 := Or.inl (xIn4 162 rfl rfl)
set_option maxRecDepth 20000 in
theorem kJ5_248 : xMl RJ5 248 mJ6_getChars_ba4f3 := Or.inl (xIn4 165 rfl rfl)
set_option maxRecDepth 20000 in
theorem tJ6_83 : Cond.fieldLink RJ6 83 "java/lang/Integer" "DigitOnes" "[B" ∈ xTT := (xIn4 168 rfl rfl)
set_option maxRecDepth 20000 in
theorem tJ6_87 : Cond.fieldLink RJ6 87 "java/lang/Integer" "DigitTens" "[B" ∈ xTT := (xIn4 170 rfl rfl)
set_option maxRecDepth 20000 in
theorem kJ5_251 : xMl RJ5 251 mJ2_getChars_46870 := Or.inl (xIn4 172 rfl rfl)
set_option maxRecDepth 20000 in
theorem kJ2_96 : xMl RJ2 96 mJ2_checkBoundsBeginEnd_d044e := Or.inl (xIn4 175 rfl rfl)
set_option maxRecDepth 20000 in
theorem kJ2_241 : xMl RJ2 241 mJ0_checkBoundsBeginEnd_23922 := Or.inl (xIn4 178 rfl rfl)
set_option maxRecDepth 20000 in
theorem kJ0_1062 : xMl RJ0 1062 mJ3_checkFromToIndex_8c36e := Or.inl (xIn4 181 rfl rfl)
set_option maxRecDepth 20000 in
theorem kJ2_393 : xMl RJ2 393 mJ2_getChars_ba4f3 := Or.inl (xIn4 184 rfl rfl)
set_option maxRecDepth 20000 in
theorem tJ2_403 : Cond.fieldLink RJ2 403 "java/lang/Integer" "DigitOnes" "[B" ∈ xTT := (xIn4 187 rfl rfl)
set_option maxRecDepth 20000 in
theorem tJ2_407 : Cond.fieldLink RJ2 407 "java/lang/Integer" "DigitTens" "[B" ∈ xTT := (xIn4 188 rfl rfl)
set_option maxRecDepth 20000 in
theorem kX11_386 : xMl RX11 386 mJ4_append_15ec4 := Or.inl (xIn4 190 rfl rfl)
set_option maxRecDepth 20000 in
theorem kJ4_29 : xMl RJ4 29 mJ5_append_cf1ce := Or.inl (xIn4 194 rfl rfl)
set_option maxRecDepth 20000 in
theorem kJ5_204 : xMl RJ5 204 mJ5_appendNull_278bc := Or.inl (xIn4 197 rfl rfl)
set_option maxRecDepth 20000 in
theorem kJ5_226 : xMl RJ5 226 mJ2_putCharsAt_cd4e5 := Or.inl (xIn4 201 rfl rfl)
set_option maxRecDepth 20000 in
theorem kJ5_32 : xMl RJ5 32 mJ0_length_8abf5 := Or.inl (xIn4 204 rfl rfl)
set_option maxRecDepth 20000 in
theorem kJ0_335 : xMl RJ0 335 mJ0_coder_7d493 := Or.inl (xIn4 208 rfl rfl)
set_option maxRecDepth 20000 in
theorem tJ0_38 : Cond.fieldLink RJ0 38 "java/lang/String" "COMPACT_STRINGS" "Z" ∈ xTT := (xIn4 212 rfl rfl)
set_option maxRecDepth 20000 in
theorem kJ5_208 : xMl RJ5 208 mJ5_putStringAt_47b60 := Or.inl (xIn4 213 rfl rfl)
set_option maxRecDepth 20000 in
theorem kJ5_397 : xMl RJ5 397 mJ5_inflateIfNeededFor_a7421 := Or.inl (xIn4 217 rfl rfl)
set_option maxRecDepth 20000 in
theorem kJ5_40 : xMl RJ5 40 mJ0_coder_7d493 := Or.inl (xIn4 221 rfl rfl)
set_option maxRecDepth 20000 in
theorem kJ5_399 : xMl RJ5 399 mJ0_getBytes_840e7 := Or.inl (xIn4 222 rfl rfl)
set_option maxRecDepth 20000 in
theorem aJ0_212 : Cond.methodLink RJ0 212 ⟨"java/lang/System", "arraycopy", "(Ljava/lang/Object;ILjava/lang/Object;II)V"⟩ ∈ xTT := (xIn4 226 rfl rfl)
set_option maxRecDepth 20000 in
theorem kJ0_106 : xMl RJ0 106 mJ1_inflate_0e8fd := Or.inl (xIn4 227 rfl rfl)
set_option maxRecDepth 20000 in
theorem kX11_256 : xMl RX11 256 mJ4_charAt_5068e := Or.inl (xIn4 228 rfl rfl)
set_option maxRecDepth 20000 in
theorem kJ4_329 : xMl RJ4 329 mJ5_charAt_5068e := Or.inl (xIn4 232 rfl rfl)
set_option maxRecDepth 20000 in
theorem kJ5_138 : xMl RJ5 138 mJ9_min_7cf53 := Or.inl (xIn4 235 rfl rfl)
set_option maxRecDepth 20000 in
theorem kJ5_144 : xMl RJ5 144 mJ0_checkIndex_df160 := Or.inl (xIn4 236 rfl rfl)
set_option maxRecDepth 20000 in
theorem kJ5_148 : xMl RJ5 148 mJ2_getChar_3b067 := Or.inl (xIn4 237 rfl rfl)
set_option maxRecDepth 20000 in
theorem kL_120 : xMl "EightPartsLaw" 120 mX11_turned := Or.inl (xIn5 0 rfl rfl)
set_option maxRecDepth 20000 in
theorem kL_124 : xMl "EightPartsLaw" 124 mX11_odd := Or.inl (xIn5 4 rfl rfl)
set_option maxRecDepth 20000 in
theorem kX11_260 : xMl RX11 260 mX5_oddSet := Or.inl (xIn5 8 rfl rfl)
set_option maxRecDepth 20000 in
theorem kL_128 : xMl "EightPartsLaw" 128 mX11_whole := Or.inl (xIn5 11 rfl rfl)
set_option maxRecDepth 20000 in
theorem kX11_264 : xMl RX11 264 mX2_isWhole := Or.inl (xIn5 15 rfl rfl)
set_option maxRecDepth 20000 in
theorem kX2_48 : xMl RX2 48 mX5_oddSet := Or.inl (xIn5 19 rfl rfl)
set_option maxRecDepth 20000 in
theorem kX2_44 : xMl RX2 44 mX2_mayBeOdd := Or.inl (xIn5 20 rfl rfl)
set_option maxRecDepth 20000 in
theorem kX11_267 : xMl RX11 267 mX11_asked := Or.inl (xIn5 23 rfl rfl)
set_option maxRecDepth 20000 in
theorem kL_132 : xMl "EightPartsLaw" 132 mX11_orders := Or.inl (xIn5 26 rfl rfl)
set_option maxRecDepth 20000 in
theorem kX11_270 : xMl RX11 270 mX2_mayBeOdd := Or.inl (xIn5 30 rfl rfl)
set_option maxRecDepth 20000 in
theorem kL_136 : xMl "EightPartsLaw" 136 mX11_same := Or.inl (xIn5 31 rfl rfl)
set_option maxRecDepth 20000 in
theorem kX11_273 : xMl RX11 273 mX5_areEqual := Or.inl (xIn5 35 rfl rfl)
set_option maxRecDepth 20000 in
theorem kL_140 : xMl "EightPartsLaw" 140 mX11_many := Or.inl (xIn5 38 rfl rfl)
set_option maxRecDepth 20000 in
theorem kX11_276 : xMl RX11 276 mX4_manyOf := Or.inl (xIn5 42 rfl rfl)
set_option maxRecDepth 20000 in
theorem kL_144 : xMl "EightPartsLaw" 144 mX11_listedPart := Or.inl (xIn5 43 rfl rfl)
set_option maxRecDepth 20000 in
theorem kL_148 : xMl "EightPartsLaw" 148 mX11_place := Or.inl (xIn5 47 rfl rfl)
set_option maxRecDepth 20000 in
theorem kX11_277 : xMl RX11 277 mX4_find := Or.inl (xIn5 51 rfl rfl)
set_option maxRecDepth 20000 in
theorem kX4_48 : xMl RX4 48 mX5_normBy4 := Or.inl (xIn5 55 rfl rfl)
set_option maxRecDepth 20000 in
theorem cX4_54 : Cond.constantLong RX4 54 (12) ∈ xTT := (xIn5 56 rfl rfl)
set_option maxRecDepth 20000 in
theorem cX4_56 : Cond.constantLong RX4 56 (4) ∈ xTT := (xIn5 57 rfl rfl)
set_option maxRecDepth 20000 in
theorem kX4_58 : xMl RX4 58 mX4_search := Or.inl (xIn5 58 rfl rfl)
set_option maxRecDepth 20000 in
theorem kX4_62 : xMl RX4 62 mX4_pack := Or.inl (xIn5 62 rfl rfl)
set_option maxRecDepth 20000 in
theorem kL_152 : xMl "EightPartsLaw" 152 mX11_divisors := Or.inl (xIn5 65 rfl rfl)
set_option maxRecDepth 20000 in
theorem kX11_280 : xMl RX11 280 mX11_isDivisorAt := Or.inl (xIn5 69 rfl rfl)
set_option maxRecDepth 20000 in
theorem kX11_389 : xMl RX11 389 mX0_divides := Or.inl (xIn5 73 rfl rfl)
set_option maxRecDepth 20000 in
theorem cX0_97 : Cond.constantLong RX0 97 (2) ∈ xTT := (xIn5 77 rfl rfl)
set_option maxRecDepth 20000 in
theorem kX0_99 : xMl RX0 99 mX2_isWholeBy := Or.inl (xIn5 78 rfl rfl)
set_option maxRecDepth 20000 in
theorem kL_157 : xMl "EightPartsLaw" 157 mX11_divisor := Or.inl (xIn5 82 rfl rfl)
set_option maxRecDepth 20000 in
theorem kL_162 : xMl "EightPartsLaw" 162 mX11_inner := Or.inl (xIn5 86 rfl rfl)
set_option maxRecDepth 20000 in
theorem kX11_284 : xMl RX11 284 mX5_innerBy4 := Or.inl (xIn5 90 rfl rfl)
set_option maxRecDepth 20000 in
theorem kL_166 : xMl "EightPartsLaw" 166 mX11_angles := Or.inl (xIn5 91 rfl rfl)
set_option maxRecDepth 20000 in
theorem kL_170 : xMl "EightPartsLaw" 170 mX11_alike := Or.inl (xIn5 95 rfl rfl)
set_option maxRecDepth 20000 in
theorem kX11_288 : xMl RX11 288 mX11_areAlike := Or.inl (xIn5 99 rfl rfl)
set_option maxRecDepth 20000 in
theorem kX11_393 : xMl RX11 393 mX2_isWholeBy := Or.inl (xIn5 103 rfl rfl)
set_option maxRecDepth 20000 in
theorem kL_174 : xMl "EightPartsLaw" 174 mX11_alikeMany := Or.inl (xIn5 104 rfl rfl)
set_option maxRecDepth 20000 in
theorem kL_178 : xMl "EightPartsLaw" 178 mX11_commuting := Or.inl (xIn5 108 rfl rfl)
set_option maxRecDepth 20000 in
theorem kX11_291 : xMl RX11 291 mX11_doCommute := Or.inl (xIn5 112 rfl rfl)
set_option maxRecDepth 20000 in
theorem kL_182 : xMl "EightPartsLaw" 182 mX11_sides := Or.inl (xIn5 116 rfl rfl)
set_option maxRecDepth 20000 in
theorem kL_186 : xMl "EightPartsLaw" 186 mX11_cycle := Or.inl (xIn5 120 rfl rfl)
set_option maxRecDepth 20000 in
theorem kX11_294 : xMl RX11 294 mX5_isOne := Or.inl (xIn5 124 rfl rfl)
set_option maxRecDepth 20000 in
theorem kX5_21 : xMl RX5 21 mX5_normBy4 := Or.inl (xIn5 127 rfl rfl)
set_option maxRecDepth 20000 in
theorem cX5_27 : Cond.constantLong RX5 27 (4) ∈ xTT := (xIn5 128 rfl rfl)
set_option maxRecDepth 20000 in
theorem kL_190 : xMl "EightPartsLaw" 190 mX11_made := Or.inl (xIn5 129 rfl rfl)
set_option maxRecDepth 20000 in
theorem kX11_297 : xMl RX11 297 mX11_isSlotSet := Or.inl (xIn5 133 rfl rfl)
set_option maxRecDepth 20000 in
theorem kX11_300 : xMl RX11 300 mX9_gather := Or.inl (xIn5 136 rfl rfl)
set_option maxRecDepth 20000 in
theorem kX9_61 : xMl RX9 61 mX9_forgetMembers := Or.inl (xIn5 140 rfl rfl)
set_option maxRecDepth 20000 in
theorem kX9_64 : xMl RX9 64 mX5_normBy4 := Or.inl (xIn5 144 rfl rfl)
set_option maxRecDepth 20000 in
theorem cX9_70 : Cond.constantLong RX9 70 (4) ∈ xTT := (xIn5 145 rfl rfl)
set_option maxRecDepth 20000 in
theorem kX9_72 : xMl RX9 72 mX4_find := Or.inl (xIn5 146 rfl rfl)
set_option maxRecDepth 20000 in
theorem kX9_76 : xMl RX9 76 mX9_admit := Or.inl (xIn5 147 rfl rfl)
set_option maxRecDepth 20000 in
theorem kX9_80 : xMl RX9 80 mX9_close := Or.inl (xIn5 151 rfl rfl)
set_option maxRecDepth 20000 in
theorem kX9_43 : xMl RX9 43 mX4_manyOf := Or.inl (xIn5 155 rfl rfl)
set_option maxRecDepth 20000 in
theorem kX9_58 : xMl RX9 58 mX9_multiplyAt := Or.inl (xIn5 156 rfl rfl)
set_option maxRecDepth 20000 in
theorem kX9_49 : xMl RX9 49 mJ9_min_7cf53 := Or.inl (xIn5 160 rfl rfl)
set_option maxRecDepth 20000 in
theorem kX9_55 : xMl RX9 55 mX9_multiplyNegative := Or.inl (xIn5 161 rfl rfl)
set_option maxRecDepth 20000 in
theorem kX9_93 : xMl RX9 93 mX9_makeRoom := Or.inl (xIn5 165 rfl rfl)
set_option maxRecDepth 20000 in
theorem kX9_119 : xMl RX9 119 mJ7_fill_53178 := Or.inl (xIn5 169 rfl rfl)
set_option maxRecDepth 20000 in
theorem kX9_96 : xMl RX9 96 mX4_takeUnit := Or.inl (xIn5 170 rfl rfl)
set_option maxRecDepth 20000 in
theorem kX9_100 : xMl RX9 100 mX7_multiply := Or.inl (xIn5 174 rfl rfl)
set_option maxRecDepth 20000 in
theorem kX9_106 : xMl RX9 106 mX4_search := Or.inl (xIn5 175 rfl rfl)
set_option maxRecDepth 20000 in
theorem kX11_307 : xMl RX11 307 mX9_areAssociative := Or.inl (xIn5 176 rfl rfl)
set_option maxRecDepth 20000 in
theorem kX9_83 : xMl RX9 83 mX9_isReal := Or.inl (xIn5 180 rfl rfl)
set_option maxRecDepth 20000 in
theorem kX9_87 : xMl RX9 87 mX9_associatesWithAll := Or.inl (xIn5 184 rfl rfl)
set_option maxRecDepth 20000 in
theorem kX11_310 : xMl RX11 310 mX9_manyCentral := Or.inl (xIn5 188 rfl rfl)
set_option maxRecDepth 20000 in
theorem kX9_90 : xMl RX9 90 mX9_commutesWithAll := Or.inl (xIn5 192 rfl rfl)
set_option maxRecDepth 20000 in
theorem kX11_313 : xMl RX11 313 mX9_manyOwnInverse := Or.inl (xIn5 196 rfl rfl)
set_option maxRecDepth 20000 in
theorem kL_194 : xMl "EightPartsLaw" 194 mX11_madeAt := Or.inl (xIn5 200 rfl rfl)
set_option maxRecDepth 20000 in
theorem kX11_316 : xMl RX11 316 mX9_gatheredAt := Or.inl (xIn5 204 rfl rfl)
set_option maxRecDepth 20000 in
theorem kL_198 : xMl "EightPartsLaw" 198 mX11_table := Or.inl (xIn5 208 rfl rfl)
set_option maxRecDepth 20000 in
theorem kX11_319 : xMl RX11 319 mX9_multiplyAt := Or.inl (xIn5 212 rfl rfl)
set_option maxRecDepth 20000 in
theorem kL_202 : xMl "EightPartsLaw" 202 mX11_turnCycle := Or.inl (xIn5 213 rfl rfl)
set_option maxRecDepth 20000 in
theorem kL_206 : xMl "EightPartsLaw" 206 mX11_shared := Or.inl (xIn5 217 rfl rfl)
set_option maxRecDepth 20000 in
theorem kX11_322 : xMl RX11 322 mX2_manyUnitsOfBoth := Or.inl (xIn5 221 rfl rfl)
set_option maxRecDepth 20000 in
theorem kX2_39 : xMl RX2 39 mJ6_bitCount_0f7a4 := Or.inl (xIn5 224 rfl rfl)
set_option maxRecDepth 20000 in
theorem cJ6_265 : Cond.constant RJ6 265 (1431655765) ∈ xTT := (xIn5 227 rfl rfl)
set_option maxRecDepth 20000 in
theorem cJ6_266 : Cond.constant RJ6 266 (858993459) ∈ xTT := (xIn5 228 rfl rfl)
set_option maxRecDepth 20000 in
theorem cJ6_267 : Cond.constant RJ6 267 (252645135) ∈ xTT := (xIn5 229 rfl rfl)
set_option maxRecDepth 20000 in
theorem kL_210 : xMl "EightPartsLaw" 210 mX11_cycles := Or.inl (xIn5 230 rfl rfl)
set_option maxRecDepth 20000 in
theorem kX11_325 : xMl RX11 325 mX9_cycleOf := Or.inl (xIn5 234 rfl rfl)
set_option maxRecDepth 20000 in
theorem kL_214 : xMl "EightPartsLaw" 214 mX11_nucleus := Or.inl (xIn5 238 rfl rfl)
set_option maxRecDepth 20000 in
theorem kX11_328 : xMl RX11 328 mX11_doAssociate := Or.inl (xIn6 2 rfl rfl)
set_option maxRecDepth 20000 in
theorem kL_218 : xMl "EightPartsLaw" 218 mX11_laws := Or.inl (xIn6 6 rfl rfl)
set_option maxRecDepth 20000 in
theorem kX11_331 : xMl RX11 331 mX3_whichHold := Or.inl (xIn6 10 rfl rfl)
set_option maxRecDepth 20000 in
theorem kX3_40 : xMl RX3 40 mX3_multiplyPairs := Or.inl (xIn6 14 rfl rfl)
set_option maxRecDepth 20000 in
theorem kX3_57 : xMl RX3 57 mX7_multiply := Or.inl (xIn6 18 rfl rfl)
set_option maxRecDepth 20000 in
theorem kX3_44 : xMl RX3 44 mX3_layBothSides := Or.inl (xIn6 19 rfl rfl)
set_option maxRecDepth 20000 in
theorem kX3_62 : xMl RX3 62 mX5_lay := Or.inl (xIn6 23 rfl rfl)
set_option maxRecDepth 20000 in
theorem kX3_48 : xMl RX3 48 mX3_doNormsMultiply := Or.inl (xIn6 24 rfl rfl)
set_option maxRecDepth 20000 in
theorem cX3_66 : Cond.constantLong RX3 66 (4) ∈ xTT := (xIn6 28 rfl rfl)
set_option maxRecDepth 20000 in
theorem kX3_68 : xMl RX3 68 mX5_normBy4 := Or.inl (xIn6 29 rfl rfl)
set_option maxRecDepth 20000 in
theorem kX3_52 : xMl RX3 52 mX5_areEqual := Or.inl (xIn6 30 rfl rfl)
set_option maxRecDepth 20000 in
theorem kL_222 : xMl "EightPartsLaw" 222 mX11_bracketed := Or.inl (xIn6 31 rfl rfl)
set_option maxRecDepth 20000 in
theorem kX11_335 : xMl RX11 335 mX10_manyUnlike := Or.inl (xIn6 35 rfl rfl)
set_option maxRecDepth 20000 in
theorem kX10_45 : xMl RX10 45 mX10_isNew := Or.inl (xIn6 39 rfl rfl)
set_option maxRecDepth 20000 in
theorem kX10_49 : xMl RX10 49 mX5_areEqual := Or.inl (xIn6 43 rfl rfl)
set_option maxRecDepth 20000 in
theorem kL_226 : xMl "EightPartsLaw" 226 mX11_rests := Or.inl (xIn6 44 rfl rfl)
set_option maxRecDepth 20000 in
theorem kX11_341 : xMl RX11 341 mX0_lastNormBy4 := Or.inl (xIn6 48 rfl rfl)
set_option maxRecDepth 20000 in
theorem kL_230 : xMl "EightPartsLaw" 230 mX11_keep := Or.inl (xIn6 52 rfl rfl)
set_option maxRecDepth 20000 in
theorem kX11_349 : xMl RX11 349 mX1_push := Or.inl (xIn6 56 rfl rfl)
set_option maxRecDepth 20000 in
theorem aX1_22 : Cond.methodLink RX1 22 ⟨"java/lang/System", "arraycopy", "(Ljava/lang/Object;ILjava/lang/Object;II)V"⟩ ∈ xTT := (xIn6 60 rfl rfl)
set_option maxRecDepth 20000 in
theorem kL_235 : xMl "EightPartsLaw" 235 mX11_restore := Or.inl (xIn6 61 rfl rfl)
set_option maxRecDepth 20000 in
theorem kX11_355 : xMl RX11 355 mX1_pop := Or.inl (xIn6 65 rfl rfl)
set_option maxRecDepth 20000 in
theorem kL_239 : xMl "EightPartsLaw" 239 mX11_count := Or.inl (xIn6 69 rfl rfl)
set_option maxRecDepth 20000 in
theorem kX11_359 : xMl RX11 359 mX11_wholeSlots := Or.inl (xIn6 73 rfl rfl)
set_option maxRecDepth 20000 in
theorem kX11_362 : xMl RX11 362 mX11_emptySlots := Or.inl (xIn6 77 rfl rfl)
set_option maxRecDepth 20000 in
theorem lL_10 : Cond.classLink "EightPartsLaw" 10 "EightPartsModel" ∈ xTT := (xIn6 81 rfl rfl)
set_option maxRecDepth 20000 in
theorem inX12 : Cond.instantiable RX12 38 ∈ xTT := (xIn6 82 rfl rfl)
set_option maxRecDepth 20000 in
theorem kL_12 : xMl "EightPartsLaw" 12 mX12_init := Or.inl (xIn6 83 rfl rfl)
set_option maxRecDepth 20000 in
theorem oX12_7 : Cond.methodLink RX12 7 objectInit ∈ xTT := (xIn6 86 rfl rfl)
set_option maxRecDepth 20000 in
theorem cX12_27 : Cond.constant RX12 27 (72968) ∈ xTT := (xIn6 87 rfl rfl)
set_option maxRecDepth 20000 in
theorem cX12_77 : Cond.constant RX12 77 (57600) ∈ xTT := (xIn6 88 rfl rfl)
set_option maxRecDepth 20000 in
theorem fX12_13 : xFl RX12 13 12 1 := ⟨_, rfl, by decide, Or.inl (xIn6 89 rfl rfl)⟩
set_option maxRecDepth 20000 in
theorem fX12_17 : xFl RX12 17 12 2 := ⟨_, rfl, by decide, Or.inl (xIn6 90 rfl rfl)⟩
set_option maxRecDepth 20000 in
theorem fX12_20 : xFl RX12 20 12 3 := ⟨_, rfl, by decide, Or.inl (xIn6 91 rfl rfl)⟩
set_option maxRecDepth 20000 in
theorem fX12_24 : xFl RX12 24 12 4 := ⟨_, rfl, by decide, Or.inl (xIn6 92 rfl rfl)⟩
set_option maxRecDepth 20000 in
theorem fX12_28 : xFl RX12 28 12 5 := ⟨_, rfl, by decide, Or.inl (xIn6 93 rfl rfl)⟩
set_option maxRecDepth 20000 in
theorem fX12_31 : xFl RX12 31 12 6 := ⟨_, rfl, by decide, Or.inl (xIn6 94 rfl rfl)⟩
set_option maxRecDepth 20000 in
theorem fX12_34 : xFl RX12 34 12 7 := ⟨_, rfl, by decide, Or.inl (xIn6 95 rfl rfl)⟩
set_option maxRecDepth 20000 in
theorem fX12_37 : xFl RX12 37 12 8 := ⟨_, rfl, by decide, Or.inl (xIn6 96 rfl rfl)⟩
set_option maxRecDepth 20000 in
theorem fX12_40 : xFl RX12 40 12 9 := ⟨_, rfl, by decide, Or.inl (xIn6 97 rfl rfl)⟩
set_option maxRecDepth 20000 in
theorem fX12_43 : xFl RX12 43 12 10 := ⟨_, rfl, by decide, Or.inl (xIn6 98 rfl rfl)⟩
set_option maxRecDepth 20000 in
theorem fX12_46 : xFl RX12 46 12 11 := ⟨_, rfl, by decide, Or.inl (xIn6 99 rfl rfl)⟩
set_option maxRecDepth 20000 in
theorem fX12_248 : xFl RX12 248 12 12 := ⟨_, rfl, by decide, Or.inl (xIn6 100 rfl rfl)⟩
set_option maxRecDepth 20000 in
theorem fX12_251 : xFl RX12 251 12 13 := ⟨_, rfl, by decide, Or.inl (xIn6 101 rfl rfl)⟩
set_option maxRecDepth 20000 in
theorem fX12_255 : xFl RX12 255 12 14 := ⟨_, rfl, by decide, Or.inl (xIn6 102 rfl rfl)⟩
set_option maxRecDepth 20000 in
theorem fX12_261 : xFl RX12 261 12 15 := ⟨_, rfl, by decide, Or.inl (xIn6 103 rfl rfl)⟩
set_option maxRecDepth 20000 in
theorem fX12_49 : xFl RX12 49 12 16 := ⟨_, rfl, by decide, Or.inl (xIn6 104 rfl rfl)⟩
set_option maxRecDepth 20000 in
theorem fX12_52 : xFl RX12 52 12 17 := ⟨_, rfl, by decide, Or.inl (xIn6 105 rfl rfl)⟩
set_option maxRecDepth 20000 in
theorem fX12_55 : xFl RX12 55 12 18 := ⟨_, rfl, by decide, Or.inl (xIn6 106 rfl rfl)⟩
set_option maxRecDepth 20000 in
theorem fX12_59 : xFl RX12 59 12 19 := ⟨_, rfl, by decide, Or.inl (xIn6 107 rfl rfl)⟩
set_option maxRecDepth 20000 in
theorem fX12_283 : xFl RX12 283 12 20 := ⟨_, rfl, by decide, Or.inl (xIn6 108 rfl rfl)⟩
set_option maxRecDepth 20000 in
theorem fX12_62 : xFl RX12 62 12 21 := ⟨_, rfl, by decide, Or.inl (xIn6 109 rfl rfl)⟩
set_option maxRecDepth 20000 in
theorem fX12_65 : xFl RX12 65 12 22 := ⟨_, rfl, by decide, Or.inl (xIn6 110 rfl rfl)⟩
set_option maxRecDepth 20000 in
theorem fX12_68 : xFl RX12 68 12 23 := ⟨_, rfl, by decide, Or.inl (xIn6 111 rfl rfl)⟩
set_option maxRecDepth 20000 in
theorem fX12_71 : xFl RX12 71 12 24 := ⟨_, rfl, by decide, Or.inl (xIn6 112 rfl rfl)⟩
set_option maxRecDepth 20000 in
theorem fX12_286 : xFl RX12 286 12 25 := ⟨_, rfl, by decide, Or.inl (xIn6 113 rfl rfl)⟩
set_option maxRecDepth 20000 in
theorem fX12_289 : xFl RX12 289 12 26 := ⟨_, rfl, by decide, Or.inl (xIn6 114 rfl rfl)⟩
set_option maxRecDepth 20000 in
theorem fX12_292 : xFl RX12 292 12 27 := ⟨_, rfl, by decide, Or.inl (xIn6 115 rfl rfl)⟩
set_option maxRecDepth 20000 in
theorem fX12_298 : xFl RX12 298 12 28 := ⟨_, rfl, by decide, Or.inl (xIn6 116 rfl rfl)⟩
set_option maxRecDepth 20000 in
theorem fX12_74 : xFl RX12 74 12 29 := ⟨_, rfl, by decide, Or.inl (xIn6 117 rfl rfl)⟩
set_option maxRecDepth 20000 in
theorem fX12_325 : xFl RX12 325 12 30 := ⟨_, rfl, by decide, Or.inl (xIn6 118 rfl rfl)⟩
set_option maxRecDepth 20000 in
theorem fX12_78 : xFl RX12 78 12 31 := ⟨_, rfl, by decide, Or.inl (xIn6 119 rfl rfl)⟩
set_option maxRecDepth 20000 in
theorem fX12_81 : xFl RX12 81 12 32 := ⟨_, rfl, by decide, Or.inl (xIn6 120 rfl rfl)⟩
set_option maxRecDepth 20000 in
theorem fX12_84 : xFl RX12 84 12 33 := ⟨_, rfl, by decide, Or.inl (xIn6 121 rfl rfl)⟩
set_option maxRecDepth 20000 in
theorem fX12_87 : xFl RX12 87 12 34 := ⟨_, rfl, by decide, Or.inl (xIn6 122 rfl rfl)⟩
set_option maxRecDepth 20000 in
theorem fX12_367 : xFl RX12 367 12 35 := ⟨_, rfl, by decide, Or.inl (xIn6 123 rfl rfl)⟩
set_option maxRecDepth 20000 in
theorem fX12_90 : xFl RX12 90 12 36 := ⟨_, rfl, by decide, Or.inl (xIn6 124 rfl rfl)⟩
set_option maxRecDepth 20000 in
theorem fX12_395 : xFl RX12 395 12 37 := ⟨_, rfl, by decide, Or.inl (xIn6 125 rfl rfl)⟩
set_option maxRecDepth 20000 in
theorem kL_17 : xMl "EightPartsLaw" 17 mX12_put := Or.inl (xIn6 203 rfl rfl)
set_option maxRecDepth 20000 in
theorem kX12_165 : xMl RX12 165 mX12_isSlot := Or.inl (xIn6 207 rfl rfl)
set_option maxRecDepth 20000 in
theorem cX12_93 : Cond.constantLong RX12 93 (7) ∈ xTT := (xIn6 210 rfl rfl)
set_option maxRecDepth 20000 in
theorem kX12_95 : xMl RX12 95 mX12_in := Or.inl (xIn6 211 rfl rfl)
set_option maxRecDepth 20000 in
theorem kX12_168 : xMl RX12 168 mX12_isPart := Or.inl (xIn6 214 rfl rfl)
set_option maxRecDepth 20000 in
theorem cX12_99 : Cond.constantLong RX12 99 (-20000) ∈ xTT := (xIn6 217 rfl rfl)
set_option maxRecDepth 20000 in
theorem cX12_101 : Cond.constantLong RX12 101 (20000) ∈ xTT := (xIn6 218 rfl rfl)
set_option maxRecDepth 20000 in
theorem kL_22 : xMl "EightPartsLaw" 22 mX12_one := Or.inl (xIn6 219 rfl rfl)
set_option maxRecDepth 20000 in
theorem kX12_171 : xMl RX12 171 mX12_nought := Or.inl (xIn6 223 rfl rfl)
set_option maxRecDepth 20000 in
theorem kL_26 : xMl "EightPartsLaw" 26 mX12_listed := Or.inl (xIn6 227 rfl rfl)
set_option maxRecDepth 20000 in
theorem kX12_175 : xMl RX12 175 mX12_isNorm := Or.inl (xIn6 231 rfl rfl)
set_option maxRecDepth 20000 in
theorem cX12_150 : Cond.constantLong RX12 150 (3) ∈ xTT := (xIn6 234 rfl rfl)
set_option maxRecDepth 20000 in
theorem kX12_158 : xMl RX12 158 mX12_listSize := Or.inl (xIn6 235 rfl rfl)
set_option maxRecDepth 20000 in
theorem kX12_152 : xMl RX12 152 mX12_laysList := Or.inl (xIn6 239 rfl rfl)
set_option maxRecDepth 20000 in
theorem kX12_143 : xMl RX12 143 mX12_listFrom := Or.inl (xIn7 3 rfl rfl)
set_option maxRecDepth 20000 in
theorem kX12_146 : xMl RX12 146 mX12_oddIn := Or.inl (xIn7 6 rfl rfl)
set_option maxRecDepth 20000 in
theorem kX12_131 : xMl RX12 131 mX12_isOf := Or.inl (xIn7 9 rfl rfl)
set_option maxRecDepth 20000 in
theorem kX12_121 : xMl RX12 121 mX12_has := Or.inl (xIn7 12 rfl rfl)
set_option maxRecDepth 20000 in
theorem kX12_125 : xMl RX12 125 mX12_isCode := Or.inl (xIn7 15 rfl rfl)
set_option maxRecDepth 20000 in
theorem kX12_117 : xMl RX12 117 mX12_bitsOf := Or.inl (xIn7 18 rfl rfl)
set_option maxRecDepth 20000 in
theorem kX12_178 : xMl RX12 178 mX12_brings := Or.inl (xIn7 21 rfl rfl)
set_option maxRecDepth 20000 in
theorem kL_30 : xMl "EightPartsLaw" 30 mX12_copy := Or.inl (xIn7 25 rfl rfl)
set_option maxRecDepth 20000 in
theorem kX12_182 : xMl RX12 182 mX12_becomes := Or.inl (xIn7 29 rfl rfl)
set_option maxRecDepth 20000 in
theorem kL_35 : xMl "EightPartsLaw" 35 mX12_order := Or.inl (xIn7 33 rfl rfl)
set_option maxRecDepth 20000 in
theorem kL_40 : xMl "EightPartsLaw" 40 mX12_sum := Or.inl (xIn7 37 rfl rfl)
set_option maxRecDepth 20000 in
theorem kX12_189 : xMl RX12 189 mX12_areSlots := Or.inl (xIn7 41 rfl rfl)
set_option maxRecDepth 20000 in
theorem kX12_193 : xMl RX12 193 mX12_adds := Or.inl (xIn7 44 rfl rfl)
set_option maxRecDepth 20000 in
theorem kX12_109 : xMl RX12 109 mX12_comes := Or.inl (xIn7 48 rfl rfl)
set_option maxRecDepth 20000 in
theorem kX12_185 : xMl RX12 185 mX12_can := Or.inl (xIn7 52 rfl rfl)
set_option maxRecDepth 20000 in
theorem kL_44 : xMl "EightPartsLaw" 44 mX12_less := Or.inl (xIn7 55 rfl rfl)
set_option maxRecDepth 20000 in
theorem kL_48 : xMl "EightPartsLaw" 48 mX12_product := Or.inl (xIn7 59 rfl rfl)
set_option maxRecDepth 20000 in
theorem kX12_197 : xMl RX12 197 mX12_multiplies := Or.inl (xIn7 63 rfl rfl)
set_option maxRecDepth 20000 in
theorem kX12_105 : xMl RX12 105 mX12_isProduct := Or.inl (xIn7 67 rfl rfl)
set_option maxRecDepth 20000 in
theorem cX12_103 : Cond.constantLong RX12 103 (2) ∈ xTT := (xIn7 71 rfl rfl)
set_option maxRecDepth 20000 in
theorem kL_53 : xMl "EightPartsLaw" 53 mX12_mirror := Or.inl (xIn7 72 rfl rfl)
set_option maxRecDepth 20000 in
theorem kX12_200 : xMl RX12 200 mX12_mirrors := Or.inl (xIn7 76 rfl rfl)
set_option maxRecDepth 20000 in
theorem kL_57 : xMl "EightPartsLaw" 57 mX12_times := Or.inl (xIn7 80 rfl rfl)
set_option maxRecDepth 20000 in
theorem cX12_203 : Cond.constantLong RX12 203 (-1000) ∈ xTT := (xIn7 84 rfl rfl)
set_option maxRecDepth 20000 in
theorem cX12_205 : Cond.constantLong RX12 205 (1000) ∈ xTT := (xIn7 85 rfl rfl)
set_option maxRecDepth 20000 in
theorem kL_62 : xMl "EightPartsLaw" 62 mX12_turn := Or.inl (xIn7 86 rfl rfl)
set_option maxRecDepth 20000 in
theorem kX12_207 : xMl RX12 207 mX12_isTurn := Or.inl (xIn7 90 rfl rfl)
set_option maxRecDepth 20000 in
theorem kX12_210 : xMl RX12 210 mX12_turns := Or.inl (xIn7 93 rfl rfl)
set_option maxRecDepth 20000 in
theorem kX12_213 : xMl RX12 213 mX12_ends := Or.inl (xIn7 97 rfl rfl)
set_option maxRecDepth 20000 in
theorem kL_67 : xMl "EightPartsLaw" 67 mX12_chain := Or.inl (xIn7 101 rfl rfl)
set_option maxRecDepth 20000 in
theorem kX12_219 : xMl RX12 219 mX12_isRow := Or.inl (xIn7 105 rfl rfl)
set_option maxRecDepth 20000 in
theorem cX12_217 : Cond.constantLong RX12 217 (6) ∈ xTT := (xIn7 108 rfl rfl)
set_option maxRecDepth 20000 in
theorem kX12_222 : xMl RX12 222 mX12_slotIn := Or.inl (xIn7 109 rfl rfl)
set_option maxRecDepth 20000 in
theorem kL_75 : xMl "EightPartsLaw" 75 mX12_power := Or.inl (xIn7 112 rfl rfl)
set_option maxRecDepth 20000 in
theorem cX12_226 : Cond.constantLong RX12 226 (60) ∈ xTT := (xIn7 116 rfl rfl)
set_option maxRecDepth 20000 in
theorem kX12_228 : xMl RX12 228 mX12_powers := Or.inl (xIn7 117 rfl rfl)
set_option maxRecDepth 20000 in
theorem kL_79 : xMl "EightPartsLaw" 79 mX12_associator := Or.inl (xIn7 121 rfl rfl)
set_option maxRecDepth 20000 in
theorem kL_83 : xMl "EightPartsLaw" 83 mX12_commutator := Or.inl (xIn7 125 rfl rfl)
set_option maxRecDepth 20000 in
theorem kL_87 : xMl "EightPartsLaw" 87 mX12_nearest := Or.inl (xIn7 129 rfl rfl)
set_option maxRecDepth 20000 in
theorem kX12_241 : xMl RX12 241 mX12_nears := Or.inl (xIn7 133 rfl rfl)
set_option maxRecDepth 20000 in
theorem cX12_231 : Cond.constantLong RX12 231 (-1) ∈ xTT := (xIn7 137 rfl rfl)
set_option maxRecDepth 20000 in
theorem kX12_233 : xMl RX12 233 mX12_near := Or.inl (xIn7 138 rfl rfl)
set_option maxRecDepth 20000 in
theorem kX12_237 : xMl RX12 237 mX12_isAhead := Or.inl (xIn7 141 rfl rfl)
set_option maxRecDepth 20000 in
theorem kL_91 : xMl "EightPartsLaw" 91 mX12_divide := Or.inl (xIn7 145 rfl rfl)
set_option maxRecDepth 20000 in
theorem kX12_245 : xMl RX12 245 mX12_divides := Or.inl (xIn7 149 rfl rfl)
set_option maxRecDepth 20000 in
theorem kX12_137 : xMl RX12 137 mX12_normOf := Or.inl (xIn7 153 rfl rfl)
set_option maxRecDepth 20000 in
theorem cX12_141 : Cond.constantLong RX12 141 (4) ∈ xTT := (xIn7 157 rfl rfl)
set_option maxRecDepth 20000 in
theorem kL_71 : xMl "EightPartsLaw" 71 mX12_last := Or.inl (xIn7 158 rfl rfl)
set_option maxRecDepth 20000 in
theorem kX12_267 : xMl RX12 267 mX12_goesOn := Or.inl (xIn7 162 rfl rfl)
set_option maxRecDepth 20000 in
theorem kX12_258 : xMl RX12 258 mX12_isNought := Or.inl (xIn7 166 rfl rfl)
set_option maxRecDepth 20000 in
theorem cX12_265 : Cond.constantLong RX12 265 (100) ∈ xTT := (xIn7 170 rfl rfl)
set_option maxRecDepth 20000 in
theorem kL_229 : xMl "EightPartsLaw" 229 mX12_rests := Or.inl (xIn7 171 rfl rfl)
set_option maxRecDepth 20000 in
theorem kX12_270 : xMl RX12 270 mX12_held := Or.inl (xIn7 175 rfl rfl)
set_option maxRecDepth 20000 in
theorem cX12_113 : Cond.constantLong RX12 113 (2000000000) ∈ xTT := (xIn7 178 rfl rfl)
set_option maxRecDepth 20000 in
theorem cX12_115 : Cond.constantLong RX12 115 (-2000000000) ∈ xTT := (xIn7 179 rfl rfl)
set_option maxRecDepth 20000 in
theorem kL_95 : xMl "EightPartsLaw" 95 mX12_bracket := Or.inl (xIn7 180 rfl rfl)
set_option maxRecDepth 20000 in
theorem kX12_277 : xMl RX12 277 mX12_laysWays := Or.inl (xIn7 184 rfl rfl)
set_option maxRecDepth 20000 in
theorem kX12_274 : xMl RX12 274 mX12_joins := Or.inl (xIn7 188 rfl rfl)
set_option maxRecDepth 20000 in
theorem kL_225 : xMl "EightPartsLaw" 225 mX12_bracketed := Or.inl (xIn7 192 rfl rfl)
set_option maxRecDepth 20000 in
theorem kX12_280 : xMl RX12 280 mX12_areSame := Or.inl (xIn7 196 rfl rfl)
set_option maxRecDepth 20000 in
theorem kL_99 : xMl "EightPartsLaw" 99 mX12_feed := Or.inl (xIn7 200 rfl rfl)
set_option maxRecDepth 20000 in
theorem kL_103 : xMl "EightPartsLaw" 103 mX12_back := Or.inl (xIn7 204 rfl rfl)
set_option maxRecDepth 20000 in
theorem kL_107 : xMl "EightPartsLaw" 107 mX12_work := Or.inl (xIn7 208 rfl rfl)
set_option maxRecDepth 20000 in
theorem kX12_321 : xMl RX12 321 mX12_works := Or.inl (xIn7 212 rfl rfl)
set_option maxRecDepth 20000 in
theorem kX12_315 : xMl RX12 315 mX12_begins := Or.inl (xIn7 216 rfl rfl)
set_option maxRecDepth 20000 in
theorem kX12_295 : xMl RX12 295 mX12_opens := Or.inl (xIn7 220 rfl rfl)
set_option maxRecDepth 20000 in
theorem cX12_301 : Cond.constantLong RX12 301 (97) ∈ xTT := (xIn7 224 rfl rfl)
set_option maxRecDepth 20000 in
theorem cX12_303 : Cond.constantLong RX12 303 (104) ∈ xTT := (xIn7 225 rfl rfl)
set_option maxRecDepth 20000 in
theorem kX12_305 : xMl RX12 305 mX12_factors := Or.inl (xIn7 226 rfl rfl)
set_option maxRecDepth 20000 in
theorem cX12_308 : Cond.constantLong RX12 308 (48) ∈ xTT := (xIn7 230 rfl rfl)
set_option maxRecDepth 20000 in
theorem cX12_310 : Cond.constantLong RX12 310 (57) ∈ xTT := (xIn7 231 rfl rfl)
set_option maxRecDepth 20000 in
theorem kX12_318 : xMl RX12 318 mX12_follows := Or.inl (xIn7 232 rfl rfl)
set_option maxRecDepth 20000 in
theorem kX12_312 : xMl RX12 312 mX12_sums := Or.inl (xIn7 236 rfl rfl)
set_option maxRecDepth 20000 in
theorem kL_111 : xMl "EightPartsLaw" 111 mX12_part := Or.inl (xIn8 0 rfl rfl)
set_option maxRecDepth 20000 in
theorem kL_115 : xMl "EightPartsLaw" 115 mX12_norm := Or.inl (xIn8 4 rfl rfl)
set_option maxRecDepth 20000 in
theorem kL_119 : xMl "EightPartsLaw" 119 mX12_spell := Or.inl (xIn8 8 rfl rfl)
set_option maxRecDepth 20000 in
theorem kX12_334 : xMl RX12 334 mX12_writesAll := Or.inl (xIn8 12 rfl rfl)
set_option maxRecDepth 20000 in
theorem kX12_328 : xMl RX12 328 mX12_writes := Or.inl (xIn8 16 rfl rfl)
set_option maxRecDepth 20000 in
theorem kX12_331 : xMl RX12 331 mX12_writesNumber := Or.inl (xIn8 20 rfl rfl)
set_option maxRecDepth 20000 in
theorem kL_123 : xMl "EightPartsLaw" 123 mX12_turned := Or.inl (xIn8 24 rfl rfl)
set_option maxRecDepth 20000 in
theorem kL_127 : xMl "EightPartsLaw" 127 mX12_odd := Or.inl (xIn8 28 rfl rfl)
set_option maxRecDepth 20000 in
theorem kX12_128 : xMl RX12 128 mX12_oddOf := Or.inl (xIn8 32 rfl rfl)
set_option maxRecDepth 20000 in
theorem kL_131 : xMl "EightPartsLaw" 131 mX12_whole := Or.inl (xIn8 36 rfl rfl)
set_option maxRecDepth 20000 in
theorem kX12_134 : xMl RX12 134 mX12_isWhole := Or.inl (xIn8 40 rfl rfl)
set_option maxRecDepth 20000 in
theorem kL_135 : xMl "EightPartsLaw" 135 mX12_orders := Or.inl (xIn8 44 rfl rfl)
set_option maxRecDepth 20000 in
theorem kL_139 : xMl "EightPartsLaw" 139 mX12_same := Or.inl (xIn8 48 rfl rfl)
set_option maxRecDepth 20000 in
theorem kL_143 : xMl "EightPartsLaw" 143 mX12_many := Or.inl (xIn8 52 rfl rfl)
set_option maxRecDepth 20000 in
theorem kL_147 : xMl "EightPartsLaw" 147 mX12_listedPart := Or.inl (xIn8 56 rfl rfl)
set_option maxRecDepth 20000 in
theorem kL_151 : xMl "EightPartsLaw" 151 mX12_place := Or.inl (xIn8 60 rfl rfl)
set_option maxRecDepth 20000 in
theorem kX12_337 : xMl RX12 337 mX12_numberOf := Or.inl (xIn8 64 rfl rfl)
set_option maxRecDepth 20000 in
theorem cX12_156 : Cond.constantLong RX12 156 (12) ∈ xTT := (xIn8 68 rfl rfl)
set_option maxRecDepth 20000 in
theorem kX12_161 : xMl RX12 161 mX12_against := Or.inl (xIn8 69 rfl rfl)
set_option maxRecDepth 20000 in
theorem kL_156 : xMl "EightPartsLaw" 156 mX12_divisors := Or.inl (xIn8 73 rfl rfl)
set_option maxRecDepth 20000 in
theorem kX12_348 : xMl RX12 348 mX12_divisorsOf := Or.inl (xIn8 77 rfl rfl)
set_option maxRecDepth 20000 in
theorem kX12_344 : xMl RX12 344 mX12_isDivisor := Or.inl (xIn8 81 rfl rfl)
set_option maxRecDepth 20000 in
theorem kX12_340 : xMl RX12 340 mX12_isWholeBy := Or.inl (xIn8 85 rfl rfl)
set_option maxRecDepth 20000 in
theorem kL_161 : xMl "EightPartsLaw" 161 mX12_divisor := Or.inl (xIn8 89 rfl rfl)
set_option maxRecDepth 20000 in
theorem kL_165 : xMl "EightPartsLaw" 165 mX12_inner := Or.inl (xIn8 93 rfl rfl)
set_option maxRecDepth 20000 in
theorem kX12_352 : xMl RX12 352 mX12_innerOf := Or.inl (xIn8 97 rfl rfl)
set_option maxRecDepth 20000 in
theorem kL_169 : xMl "EightPartsLaw" 169 mX12_angles := Or.inl (xIn8 101 rfl rfl)
set_option maxRecDepth 20000 in
theorem kL_173 : xMl "EightPartsLaw" 173 mX12_alike := Or.inl (xIn8 105 rfl rfl)
set_option maxRecDepth 20000 in
theorem kX12_355 : xMl RX12 355 mX12_areAlike := Or.inl (xIn8 109 rfl rfl)
set_option maxRecDepth 20000 in
theorem kL_177 : xMl "EightPartsLaw" 177 mX12_alikeMany := Or.inl (xIn8 113 rfl rfl)
set_option maxRecDepth 20000 in
theorem kL_181 : xMl "EightPartsLaw" 181 mX12_commuting := Or.inl (xIn8 117 rfl rfl)
set_option maxRecDepth 20000 in
theorem kX12_358 : xMl RX12 358 mX12_doCommute := Or.inl (xIn8 121 rfl rfl)
set_option maxRecDepth 20000 in
theorem kL_185 : xMl "EightPartsLaw" 185 mX12_sides := Or.inl (xIn8 125 rfl rfl)
set_option maxRecDepth 20000 in
theorem kL_189 : xMl "EightPartsLaw" 189 mX12_cycle := Or.inl (xIn8 129 rfl rfl)
set_option maxRecDepth 20000 in
theorem kX12_361 : xMl RX12 361 mX12_cycleOf := Or.inl (xIn8 133 rfl rfl)
set_option maxRecDepth 20000 in
theorem kL_213 : xMl "EightPartsLaw" 213 mX12_cycles := Or.inl (xIn8 137 rfl rfl)
set_option maxRecDepth 20000 in
theorem kL_201 : xMl "EightPartsLaw" 201 mX12_table := Or.inl (xIn8 141 rfl rfl)
set_option maxRecDepth 20000 in
theorem kX12_364 : xMl RX12 364 mX12_laysTable := Or.inl (xIn8 145 rfl rfl)
set_option maxRecDepth 20000 in
theorem kL_193 : xMl "EightPartsLaw" 193 mX12_made := Or.inl (xIn8 149 rfl rfl)
set_option maxRecDepth 20000 in
theorem cX12_378 : Cond.constantLong RX12 378 (255) ∈ xTT := (xIn8 153 rfl rfl)
set_option maxRecDepth 20000 in
theorem kX12_380 : xMl RX12 380 mX12_laysMade := Or.inl (xIn8 154 rfl rfl)
set_option maxRecDepth 20000 in
theorem kX12_370 : xMl RX12 370 mX12_isUnit := Or.inl (xIn8 158 rfl rfl)
set_option maxRecDepth 20000 in
theorem kX12_373 : xMl RX12 373 mX12_adds_ := Or.inl (xIn8 162 rfl rfl)
set_option maxRecDepth 20000 in
theorem kX12_383 : xMl RX12 383 mX12_areAssociative := Or.inl (xIn8 166 rfl rfl)
set_option maxRecDepth 20000 in
theorem kX12_375 : xMl RX12 375 mX12_madeProduct := Or.inl (xIn8 170 rfl rfl)
set_option maxRecDepth 20000 in
theorem kX12_386 : xMl RX12 386 mX12_center := Or.inl (xIn8 174 rfl rfl)
set_option maxRecDepth 20000 in
theorem kX12_389 : xMl RX12 389 mX12_squares := Or.inl (xIn8 178 rfl rfl)
set_option maxRecDepth 20000 in
theorem kL_197 : xMl "EightPartsLaw" 197 mX12_madeAt := Or.inl (xIn8 182 rfl rfl)
set_option maxRecDepth 20000 in
theorem kL_205 : xMl "EightPartsLaw" 205 mX12_turnCycle := Or.inl (xIn8 186 rfl rfl)
set_option maxRecDepth 20000 in
theorem kL_209 : xMl "EightPartsLaw" 209 mX12_shared := Or.inl (xIn8 190 rfl rfl)
set_option maxRecDepth 20000 in
theorem kL_217 : xMl "EightPartsLaw" 217 mX12_nucleus := Or.inl (xIn8 194 rfl rfl)
set_option maxRecDepth 20000 in
theorem kL_221 : xMl "EightPartsLaw" 221 mX12_laws := Or.inl (xIn8 198 rfl rfl)
set_option maxRecDepth 20000 in
theorem kX12_392 : xMl RX12 392 mX12_both := Or.inl (xIn8 202 rfl rfl)
set_option maxRecDepth 20000 in
theorem kL_234 : xMl "EightPartsLaw" 234 mX12_keep := Or.inl (xIn8 206 rfl rfl)
set_option maxRecDepth 20000 in
theorem kL_238 : xMl "EightPartsLaw" 238 mX12_restore := Or.inl (xIn8 210 rfl rfl)
set_option maxRecDepth 20000 in
theorem kL_242 : xMl "EightPartsLaw" 242 mX12_count := Or.inl (xIn8 214 rfl rfl)
set_option maxRecDepth 20000 in
theorem kX12_398 : xMl RX12 398 mX12_wholes := Or.inl (xIn8 218 rfl rfl)
set_option maxRecDepth 20000 in
theorem kX12_401 : xMl RX12 401 mX12_noughts := Or.inl (xIn8 222 rfl rfl)
set_option maxRecDepth 20000 in
theorem tJ0_9 : Cond.fieldLink RJ0 9 "java/lang/String" "value" "[B" ∈ xTT := (xIn8 238 rfl rfl)
set_option maxRecDepth 20000 in
theorem tJ0_15 : Cond.fieldLink RJ0 15 "java/lang/String" "coder" "B" ∈ xTT := (xIn8 239 rfl rfl)
set_option maxRecDepth 20000 in
theorem oi_i : Cond.instanceMethod objectInit ∈ xTT := (xIn1 32 rfl rfl)
set_option maxRecDepth 20000 in
theorem oi_c : Cond.code objectInit ⟨#[0xb1]⟩ 1 none ∈ xTT := (xIn1 33 rfl rfl)
set_option maxRecDepth 20000 in
theorem okX0_init : xOkI mX0_init 2 := ⟨⟨(xIn1 142 rfl rfl), (xIn1 6 rfl rfl), by decide, by decide, by decide, by decide +kernel⟩, (xIn1 141 rfl rfl), rfl, rfl⟩
set_option maxRecDepth 20000 in
theorem okX0_split : xOkV mX0_split 2 := ⟨⟨(xIn3 61 rfl rfl), (xIn1 6 rfl rfl), by decide, by decide, by decide, by decide +kernel⟩, (xIn3 59 rfl rfl), (xIn3 60 rfl rfl)⟩
set_option maxRecDepth 20000 in
theorem okX0_walk : xOkV mX0_walk 2 := ⟨⟨(xIn3 56 rfl rfl), (xIn1 6 rfl rfl), by decide, by decide, by decide, by decide +kernel⟩, (xIn3 54 rfl rfl), (xIn3 55 rfl rfl)⟩
set_option maxRecDepth 20000 in
theorem okX0_lastOfWalk : xOkV mX0_lastOfWalk 0 := ⟨⟨(xIn3 113 rfl rfl), (xIn1 6 rfl rfl), by decide, by decide, by decide, by decide +kernel⟩, (xIn3 111 rfl rfl), (xIn3 112 rfl rfl)⟩
set_option maxRecDepth 20000 in
theorem okX0_lastNormBy4 : xOkV mX0_lastNormBy4 0 := ⟨⟨(xIn6 51 rfl rfl), (xIn1 6 rfl rfl), by decide, by decide, by decide, by decide +kernel⟩, (xIn6 49 rfl rfl), (xIn6 50 rfl rfl)⟩
set_option maxRecDepth 20000 in
theorem okX0_divides : xOkV mX0_divides 4 := ⟨⟨(xIn5 76 rfl rfl), (xIn1 6 rfl rfl), by decide, by decide, by decide, by decide +kernel⟩, (xIn5 74 rfl rfl), (xIn5 75 rfl rfl)⟩
set_option maxRecDepth 20000 in
theorem okX0_noteShare : xOkV mX0_noteShare 0 := ⟨⟨(xIn3 105 rfl rfl), (xIn1 6 rfl rfl), by decide, by decide, by decide, by decide +kernel⟩, (xIn3 104 rfl rfl), (xInP1 7 rfl)⟩
set_option maxRecDepth 20000 in
theorem okX1_init : xOkI mX1_init 0 := ⟨⟨(xIn2 45 rfl rfl), (xIn1 11 rfl rfl), by decide, by decide, by decide, by decide +kernel⟩, (xIn2 44 rfl rfl), rfl, rfl⟩
set_option maxRecDepth 20000 in
theorem okX1_push : xOkV mX1_push 2 := ⟨⟨(xIn6 59 rfl rfl), (xIn1 11 rfl rfl), by decide, by decide, by decide, by decide +kernel⟩, (xIn6 57 rfl rfl), (xIn6 58 rfl rfl)⟩
set_option maxRecDepth 20000 in
theorem okX1_pop : xOkV mX1_pop 1 := ⟨⟨(xIn6 68 rfl rfl), (xIn1 11 rfl rfl), by decide, by decide, by decide, by decide +kernel⟩, (xIn6 66 rfl rfl), (xIn6 67 rfl rfl)⟩
set_option maxRecDepth 20000 in
theorem okX2_init : xOkI mX2_init 0 := ⟨⟨(xIn1 58 rfl rfl), (xIn1 3 rfl rfl), by decide, by decide, by decide, by decide +kernel⟩, (xIn1 57 rfl rfl), rfl, rfl⟩
set_option maxRecDepth 20000 in
theorem okX2_manyWords : xOkS mX2_manyWords 1 := ⟨⟨(xIn2 183 rfl rfl), (xIn1 3 rfl rfl), by decide, by decide, by decide, by decide +kernel⟩, (xIn2 182 rfl rfl)⟩
set_option maxRecDepth 20000 in
theorem okX2_exchange : xOkS mX2_exchange 2 := ⟨⟨(xIn2 188 rfl rfl), (xIn1 3 rfl rfl), by decide, by decide, by decide, by decide +kernel⟩, (xIn2 187 rfl rfl)⟩
set_option maxRecDepth 20000 in
theorem okX2_mayBeOdd : xOkS mX2_mayBeOdd 2 := ⟨⟨(xIn5 22 rfl rfl), (xIn1 3 rfl rfl), by decide, by decide, by decide, by decide +kernel⟩, (xIn5 21 rfl rfl)⟩
set_option maxRecDepth 20000 in
theorem okX2_manyUnitsOfBoth : xOkS mX2_manyUnitsOfBoth 2 := ⟨⟨(xIn5 223 rfl rfl), (xIn1 3 rfl rfl), by decide, by decide, by decide, by decide +kernel⟩, (xIn5 222 rfl rfl)⟩
set_option maxRecDepth 20000 in
theorem okX2_isWhole : xOkV mX2_isWhole 1 := ⟨⟨(xIn5 18 rfl rfl), (xIn1 3 rfl rfl), by decide, by decide, by decide, by decide +kernel⟩, (xIn5 16 rfl rfl), (xIn5 17 rfl rfl)⟩
set_option maxRecDepth 20000 in
theorem okX2_isWholeBy : xOkV mX2_isWholeBy 2 := ⟨⟨(xIn5 81 rfl rfl), (xIn1 3 rfl rfl), by decide, by decide, by decide, by decide +kernel⟩, (xIn5 79 rfl rfl), (xIn5 80 rfl rfl)⟩
set_option maxRecDepth 20000 in
theorem okX2_layNearest : xOkV mX2_layNearest 3 := ⟨⟨(xIn3 75 rfl rfl), (xIn1 3 rfl rfl), by decide, by decide, by decide, by decide +kernel⟩, (xIn3 73 rfl rfl), (xIn3 74 rfl rfl)⟩
set_option maxRecDepth 20000 in
theorem okX2_findNear : xOkV mX2_findNear 4 := ⟨⟨(xIn3 79 rfl rfl), (xIn1 3 rfl rfl), by decide, by decide, by decide, by decide +kernel⟩, (xIn3 78 rfl rfl), (xInP1 3 rfl)⟩
set_option maxRecDepth 20000 in
theorem okX2_bestWord : xOkV mX2_bestWord 0 := ⟨⟨(xIn3 87 rfl rfl), (xIn1 3 rfl rfl), by decide, by decide, by decide, by decide +kernel⟩, (xIn3 86 rfl rfl), (xInP1 4 rfl)⟩
set_option maxRecDepth 20000 in
theorem okX2_missOf : xOkV mX2_missOf 1 := ⟨⟨(xIn3 93 rfl rfl), (xIn1 3 rfl rfl), by decide, by decide, by decide, by decide +kernel⟩, (xIn3 92 rfl rfl), (xInP1 5 rfl)⟩
set_option maxRecDepth 20000 in
theorem okX2_isListedAhead : xOkV mX2_isListedAhead 2 := ⟨⟨(xIn3 98 rfl rfl), (xIn1 3 rfl rfl), by decide, by decide, by decide, by decide +kernel⟩, (xIn3 97 rfl rfl), (xInP1 6 rfl)⟩
set_option maxRecDepth 20000 in
theorem okX3_init : xOkI mX3_init 1 := ⟨⟨(xIn1 183 rfl rfl), (xIn1 7 rfl rfl), by decide, by decide, by decide, by decide +kernel⟩, (xIn1 182 rfl rfl), rfl, rfl⟩
set_option maxRecDepth 20000 in
theorem okX3_whichHold : xOkV mX3_whichHold 3 := ⟨⟨(xIn6 13 rfl rfl), (xIn1 7 rfl rfl), by decide, by decide, by decide, by decide +kernel⟩, (xIn6 11 rfl rfl), (xIn6 12 rfl rfl)⟩
set_option maxRecDepth 20000 in
theorem okX3_multiplyPairs : xOkV mX3_multiplyPairs 3 := ⟨⟨(xIn6 17 rfl rfl), (xIn1 7 rfl rfl), by decide, by decide, by decide, by decide +kernel⟩, (xIn6 16 rfl rfl), (xInP2 14 rfl)⟩
set_option maxRecDepth 20000 in
theorem okX3_layBothSides : xOkV mX3_layBothSides 4 := ⟨⟨(xIn6 22 rfl rfl), (xIn1 7 rfl rfl), by decide, by decide, by decide, by decide +kernel⟩, (xIn6 21 rfl rfl), (xInP2 15 rfl)⟩
set_option maxRecDepth 20000 in
theorem okX3_doNormsMultiply : xOkV mX3_doNormsMultiply 2 := ⟨⟨(xIn6 27 rfl rfl), (xIn1 7 rfl rfl), by decide, by decide, by decide, by decide +kernel⟩, (xIn6 26 rfl rfl), (xInP3 0 rfl)⟩
set_option maxRecDepth 20000 in
theorem okX4_init : xOkI mX4_init 1 := ⟨⟨(xIn1 82 rfl rfl), (xIn1 4 rfl rfl), by decide, by decide, by decide, by decide +kernel⟩, (xIn1 81 rfl rfl), rfl, rfl⟩
set_option maxRecDepth 20000 in
theorem okX4_manyOf : xOkV mX4_manyOf 1 := ⟨⟨(xIn2 169 rfl rfl), (xIn1 4 rfl rfl), by decide, by decide, by decide, by decide +kernel⟩, (xIn2 167 rfl rfl), (xIn2 168 rfl rfl)⟩
set_option maxRecDepth 20000 in
theorem okX4_take : xOkV mX4_take 3 := ⟨⟨(xIn2 165 rfl rfl), (xIn1 4 rfl rfl), by decide, by decide, by decide, by decide +kernel⟩, (xIn2 163 rfl rfl), (xIn2 164 rfl rfl)⟩
set_option maxRecDepth 20000 in
theorem okX4_find : xOkV mX4_find 1 := ⟨⟨(xIn5 54 rfl rfl), (xIn1 4 rfl rfl), by decide, by decide, by decide, by decide +kernel⟩, (xIn5 52 rfl rfl), (xIn5 53 rfl rfl)⟩
set_option maxRecDepth 20000 in
theorem okX4_takeUnit : xOkV mX4_takeUnit 2 := ⟨⟨(xIn5 173 rfl rfl), (xIn1 4 rfl rfl), by decide, by decide, by decide, by decide +kernel⟩, (xIn5 171 rfl rfl), (xIn5 172 rfl rfl)⟩
set_option maxRecDepth 20000 in
theorem okX4_search : xOkV mX4_search 2 := ⟨⟨(xIn5 61 rfl rfl), (xIn1 4 rfl rfl), by decide, by decide, by decide, by decide +kernel⟩, (xIn5 59 rfl rfl), (xIn5 60 rfl rfl)⟩
set_option maxRecDepth 20000 in
theorem okX4_unpack : xOkS mX4_unpack 2 := ⟨⟨(xIn2 195 rfl rfl), (xIn1 4 rfl rfl), by decide, by decide, by decide, by decide +kernel⟩, (xIn2 194 rfl rfl)⟩
set_option maxRecDepth 20000 in
theorem okX4_pack : xOkS mX4_pack 1 := ⟨⟨(xIn5 64 rfl rfl), (xIn1 4 rfl rfl), by decide, by decide, by decide, by decide +kernel⟩, (xIn5 63 rfl rfl)⟩
set_option maxRecDepth 20000 in
theorem okX4_fill : xOkV mX4_fill 1 := ⟨⟨(xIn2 173 rfl rfl), (xIn1 4 rfl rfl), by decide, by decide, by decide, by decide +kernel⟩, (xIn2 172 rfl rfl), (xInP1 0 rfl)⟩
set_option maxRecDepth 20000 in
theorem okX4_sortWords : xOkV mX4_sortWords 0 := ⟨⟨(xIn2 179 rfl rfl), (xIn1 4 rfl rfl), by decide, by decide, by decide, by decide +kernel⟩, (xIn2 178 rfl rfl), (xInP1 1 rfl)⟩
set_option maxRecDepth 20000 in
theorem okX4_grow : xOkV mX4_grow 5 := ⟨⟨(xIn2 192 rfl rfl), (xIn1 4 rfl rfl), by decide, by decide, by decide, by decide +kernel⟩, (xIn2 191 rfl rfl), (xInP1 2 rfl)⟩
set_option maxRecDepth 20000 in
theorem okX5_lay : xOkS mX5_lay 2 := ⟨⟨(xIn2 205 rfl rfl), (xIn1 17 rfl rfl), by decide, by decide, by decide, by decide +kernel⟩, (xIn2 204 rfl rfl)⟩
set_option maxRecDepth 20000 in
theorem okX5_layOne : xOkS mX5_layOne 2 := ⟨⟨(xIn2 151 rfl rfl), (xIn1 17 rfl rfl), by decide, by decide, by decide, by decide +kernel⟩, (xIn2 150 rfl rfl)⟩
set_option maxRecDepth 20000 in
theorem okX5_layMirrored : xOkS mX5_layMirrored 2 := ⟨⟨(xIn3 17 rfl rfl), (xIn1 17 rfl rfl), by decide, by decide, by decide, by decide +kernel⟩, (xIn3 16 rfl rfl)⟩
set_option maxRecDepth 20000 in
theorem okX5_areEqual : xOkS mX5_areEqual 2 := ⟨⟨(xIn5 37 rfl rfl), (xIn1 17 rfl rfl), by decide, by decide, by decide, by decide +kernel⟩, (xIn5 36 rfl rfl)⟩
set_option maxRecDepth 20000 in
theorem okX5_isZero : xOkS mX5_isZero 1 := ⟨⟨(xIn3 116 rfl rfl), (xIn1 17 rfl rfl), by decide, by decide, by decide, by decide +kernel⟩, (xIn3 115 rfl rfl)⟩
set_option maxRecDepth 20000 in
theorem okX5_isOne : xOkS mX5_isOne 1 := ⟨⟨(xIn5 126 rfl rfl), (xIn1 17 rfl rfl), by decide, by decide, by decide, by decide +kernel⟩, (xIn5 125 rfl rfl)⟩
set_option maxRecDepth 20000 in
theorem okX5_oddSet : xOkS mX5_oddSet 1 := ⟨⟨(xIn5 10 rfl rfl), (xIn1 17 rfl rfl), by decide, by decide, by decide, by decide +kernel⟩, (xIn5 9 rfl rfl)⟩
set_option maxRecDepth 20000 in
theorem okX5_normBy4 : xOkS mX5_normBy4 1 := ⟨⟨(xIn3 64 rfl rfl), (xIn1 17 rfl rfl), by decide, by decide, by decide, by decide +kernel⟩, (xIn3 63 rfl rfl)⟩
set_option maxRecDepth 20000 in
theorem okX5_innerBy4 : xOkS mX5_innerBy4 2 := ⟨⟨(xIn3 67 rfl rfl), (xIn1 17 rfl rfl), by decide, by decide, by decide, by decide +kernel⟩, (xIn3 66 rfl rfl)⟩
set_option maxRecDepth 20000 in
theorem okX5_multiplyBy4 : xOkS mX5_multiplyBy4 3 := ⟨⟨(xIn3 6 rfl rfl), (xIn1 17 rfl rfl), by decide, by decide, by decide, by decide +kernel⟩, (xIn3 5 rfl rfl)⟩
set_option maxRecDepth 20000 in
theorem okX5_halve : xOkS mX5_halve 1 := ⟨⟨(xIn3 9 rfl rfl), (xIn1 17 rfl rfl), by decide, by decide, by decide, by decide +kernel⟩, (xIn3 8 rfl rfl)⟩
set_option maxRecDepth 20000 in
theorem okX5_layIfWithin : xOkS mX5_layIfWithin 2 := ⟨⟨(xIn2 226 rfl rfl), (xIn1 17 rfl rfl), by decide, by decide, by decide, by decide +kernel⟩, (xIn2 225 rfl rfl)⟩
set_option maxRecDepth 20000 in
theorem okX6_init : xOkI mX6_init 3 := ⟨⟨(xIn2 10 rfl rfl), (xIn1 10 rfl rfl), by decide, by decide, by decide, by decide +kernel⟩, (xIn2 9 rfl rfl), rfl, rfl⟩
set_option maxRecDepth 20000 in
theorem okX6_read : xOkV mX6_read 0 := ⟨⟨(xIn3 200 rfl rfl), (xIn1 10 rfl rfl), by decide, by decide, by decide, by decide +kernel⟩, (xIn3 198 rfl rfl), (xIn3 199 rfl rfl)⟩
set_option maxRecDepth 20000 in
theorem okX6_layResult : xOkV mX6_layResult 1 := ⟨⟨(xIn4 7 rfl rfl), (xIn1 10 rfl rfl), by decide, by decide, by decide, by decide +kernel⟩, (xIn4 5 rfl rfl), (xIn4 6 rfl rfl)⟩
set_option maxRecDepth 20000 in
theorem okX6_ahead : xOkV mX6_ahead 0 := ⟨⟨(xIn3 216 rfl rfl), (xIn1 10 rfl rfl), by decide, by decide, by decide, by decide +kernel⟩, (xIn3 215 rfl rfl), (xInP1 13 rfl)⟩
set_option maxRecDepth 20000 in
theorem okX6_readSum : xOkV mX6_readSum 1 := ⟨⟨(xIn3 204 rfl rfl), (xIn1 10 rfl rfl), by decide, by decide, by decide, by decide +kernel⟩, (xIn3 203 rfl rfl), (xInP1 10 rfl)⟩
set_option maxRecDepth 20000 in
theorem okX6_readTerm : xOkV mX6_readTerm 1 := ⟨⟨(xIn3 208 rfl rfl), (xIn1 10 rfl rfl), by decide, by decide, by decide, by decide +kernel⟩, (xIn3 207 rfl rfl), (xInP1 11 rfl)⟩
set_option maxRecDepth 20000 in
theorem okX6_note : xOkV mX6_note 1 := ⟨⟨(xIn4 2 rfl rfl), (xIn1 10 rfl rfl), by decide, by decide, by decide, by decide +kernel⟩, (xIn4 1 rfl rfl), (xInP2 0 rfl)⟩
set_option maxRecDepth 20000 in
theorem okX6_readFactor : xOkV mX6_readFactor 1 := ⟨⟨(xIn3 212 rfl rfl), (xIn1 10 rfl rfl), by decide, by decide, by decide, by decide +kernel⟩, (xIn3 211 rfl rfl), (xInP1 12 rfl)⟩
set_option maxRecDepth 20000 in
theorem okX6_readNested : xOkV mX6_readNested 2 := ⟨⟨(xIn3 236 rfl rfl), (xIn1 10 rfl rfl), by decide, by decide, by decide, by decide +kernel⟩, (xIn3 235 rfl rfl), (xInP1 15 rfl)⟩
set_option maxRecDepth 20000 in
theorem okX6_readInt : xOkV mX6_readInt 1 := ⟨⟨(xIn3 228 rfl rfl), (xIn1 10 rfl rfl), by decide, by decide, by decide, by decide +kernel⟩, (xIn3 227 rfl rfl), (xInP1 14 rfl)⟩
set_option maxRecDepth 20000 in
theorem okX6_isDigit : xOkS mX6_isDigit 1 := ⟨⟨(xIn3 224 rfl rfl), (xIn1 10 rfl rfl), by decide, by decide, by decide, by decide +kernel⟩, (xIn3 223 rfl rfl)⟩
set_option maxRecDepth 20000 in
theorem okX7_init : xOkI mX7_init 0 := ⟨⟨(xIn1 40 rfl rfl), (xIn1 2 rfl rfl), by decide, by decide, by decide, by decide +kernel⟩, (xIn1 39 rfl rfl), rfl, rfl⟩
set_option maxRecDepth 20000 in
theorem okX7_add : xOkV mX7_add 4 := ⟨⟨(xIn2 223 rfl rfl), (xIn1 2 rfl rfl), by decide, by decide, by decide, by decide +kernel⟩, (xIn2 221 rfl rfl), (xIn2 222 rfl rfl)⟩
set_option maxRecDepth 20000 in
theorem okX7_scale : xOkV mX7_scale 3 := ⟨⟨(xIn3 25 rfl rfl), (xIn1 2 rfl rfl), by decide, by decide, by decide, by decide +kernel⟩, (xIn3 23 rfl rfl), (xIn3 24 rfl rfl)⟩
set_option maxRecDepth 20000 in
theorem okX7_multiply : xOkV mX7_multiply 3 := ⟨⟨(xIn3 3 rfl rfl), (xIn1 2 rfl rfl), by decide, by decide, by decide, by decide +kernel⟩, (xIn3 1 rfl rfl), (xIn3 2 rfl rfl)⟩
set_option maxRecDepth 20000 in
theorem okX7_turnBy : xOkV mX7_turnBy 4 := ⟨⟨(xIn3 36 rfl rfl), (xIn1 2 rfl rfl), by decide, by decide, by decide, by decide +kernel⟩, (xIn3 34 rfl rfl), (xIn3 35 rfl rfl)⟩
set_option maxRecDepth 20000 in
theorem okX8_init : xOkI mX8_init 0 := ⟨⟨(xIn1 234 rfl rfl), (xIn1 9 rfl rfl), by decide, by decide, by decide, by decide +kernel⟩, (xIn1 233 rfl rfl), rfl, rfl⟩
set_option maxRecDepth 20000 in
theorem okX8_hasRoom : xOkV mX8_hasRoom 0 := ⟨⟨(xIn3 184 rfl rfl), (xIn1 9 rfl rfl), by decide, by decide, by decide, by decide +kernel⟩, (xIn3 182 rfl rfl), (xIn3 183 rfl rfl)⟩
set_option maxRecDepth 20000 in
theorem okX8_append : xOkV mX8_append 1 := ⟨⟨(xIn3 188 rfl rfl), (xIn1 9 rfl rfl), by decide, by decide, by decide, by decide +kernel⟩, (xIn3 186 rfl rfl), (xIn3 187 rfl rfl)⟩
set_option maxRecDepth 20000 in
theorem okX8_byteAt : xOkV mX8_byteAt 1 := ⟨⟨(xIn3 220 rfl rfl), (xIn1 9 rfl rfl), by decide, by decide, by decide, by decide +kernel⟩, (xIn3 218 rfl rfl), (xIn3 219 rfl rfl)⟩
set_option maxRecDepth 20000 in
theorem okX9_init : xOkI mX9_init 2 := ⟨⟨(xIn1 106 rfl rfl), (xIn1 5 rfl rfl), by decide, by decide, by decide, by decide +kernel⟩, (xIn1 105 rfl rfl), rfl, rfl⟩
set_option maxRecDepth 20000 in
theorem okX9_multiplyAt : xOkV mX9_multiplyAt 2 := ⟨⟨(xIn5 159 rfl rfl), (xIn1 5 rfl rfl), by decide, by decide, by decide, by decide +kernel⟩, (xIn5 157 rfl rfl), (xIn5 158 rfl rfl)⟩
set_option maxRecDepth 20000 in
theorem okX9_cycleOf : xOkV mX9_cycleOf 1 := ⟨⟨(xIn5 237 rfl rfl), (xIn1 5 rfl rfl), by decide, by decide, by decide, by decide +kernel⟩, (xIn5 235 rfl rfl), (xIn5 236 rfl rfl)⟩
set_option maxRecDepth 20000 in
theorem okX9_gather : xOkV mX9_gather 2 := ⟨⟨(xIn5 139 rfl rfl), (xIn1 5 rfl rfl), by decide, by decide, by decide, by decide +kernel⟩, (xIn5 137 rfl rfl), (xIn5 138 rfl rfl)⟩
set_option maxRecDepth 20000 in
theorem okX9_gatheredAt : xOkV mX9_gatheredAt 1 := ⟨⟨(xIn5 207 rfl rfl), (xIn1 5 rfl rfl), by decide, by decide, by decide, by decide +kernel⟩, (xIn5 205 rfl rfl), (xIn5 206 rfl rfl)⟩
set_option maxRecDepth 20000 in
theorem okX9_areAssociative : xOkV mX9_areAssociative 0 := ⟨⟨(xIn5 179 rfl rfl), (xIn1 5 rfl rfl), by decide, by decide, by decide, by decide +kernel⟩, (xIn5 177 rfl rfl), (xIn5 178 rfl rfl)⟩
set_option maxRecDepth 20000 in
theorem okX9_manyCentral : xOkV mX9_manyCentral 0 := ⟨⟨(xIn5 191 rfl rfl), (xIn1 5 rfl rfl), by decide, by decide, by decide, by decide +kernel⟩, (xIn5 189 rfl rfl), (xIn5 190 rfl rfl)⟩
set_option maxRecDepth 20000 in
theorem okX9_manyOwnInverse : xOkV mX9_manyOwnInverse 0 := ⟨⟨(xIn5 199 rfl rfl), (xIn1 5 rfl rfl), by decide, by decide, by decide, by decide +kernel⟩, (xIn5 197 rfl rfl), (xIn5 198 rfl rfl)⟩
set_option maxRecDepth 20000 in
theorem okX9_forgetMembers : xOkV mX9_forgetMembers 0 := ⟨⟨(xIn5 143 rfl rfl), (xIn1 5 rfl rfl), by decide, by decide, by decide, by decide +kernel⟩, (xIn5 142 rfl rfl), (xInP2 5 rfl)⟩
set_option maxRecDepth 20000 in
theorem okX9_admit : xOkV mX9_admit 1 := ⟨⟨(xIn5 150 rfl rfl), (xIn1 5 rfl rfl), by decide, by decide, by decide, by decide +kernel⟩, (xIn5 149 rfl rfl), (xInP2 6 rfl)⟩
set_option maxRecDepth 20000 in
theorem okX9_close : xOkV mX9_close 0 := ⟨⟨(xIn5 154 rfl rfl), (xIn1 5 rfl rfl), by decide, by decide, by decide, by decide +kernel⟩, (xIn5 153 rfl rfl), (xInP2 7 rfl)⟩
set_option maxRecDepth 20000 in
theorem okX9_isReal : xOkV mX9_isReal 1 := ⟨⟨(xIn5 183 rfl rfl), (xIn1 5 rfl rfl), by decide, by decide, by decide, by decide +kernel⟩, (xIn5 182 rfl rfl), (xInP2 10 rfl)⟩
set_option maxRecDepth 20000 in
theorem okX9_associatesWithAll : xOkV mX9_associatesWithAll 1 := ⟨⟨(xIn5 187 rfl rfl), (xIn1 5 rfl rfl), by decide, by decide, by decide, by decide +kernel⟩, (xIn5 186 rfl rfl), (xInP2 11 rfl)⟩
set_option maxRecDepth 20000 in
theorem okX9_commutesWithAll : xOkV mX9_commutesWithAll 1 := ⟨⟨(xIn5 195 rfl rfl), (xIn1 5 rfl rfl), by decide, by decide, by decide, by decide +kernel⟩, (xIn5 194 rfl rfl), (xInP2 12 rfl)⟩
set_option maxRecDepth 20000 in
theorem okX9_multiplyNegative : xOkV mX9_multiplyNegative 2 := ⟨⟨(xIn5 164 rfl rfl), (xIn1 5 rfl rfl), by decide, by decide, by decide, by decide +kernel⟩, (xIn5 163 rfl rfl), (xInP2 8 rfl)⟩
set_option maxRecDepth 20000 in
theorem okX9_makeRoom : xOkV mX9_makeRoom 0 := ⟨⟨(xIn5 168 rfl rfl), (xIn1 5 rfl rfl), by decide, by decide, by decide, by decide +kernel⟩, (xIn5 167 rfl rfl), (xInP2 9 rfl)⟩
set_option maxRecDepth 20000 in
theorem okX10_init : xOkI mX10_init 1 := ⟨⟨(xIn1 217 rfl rfl), (xIn1 8 rfl rfl), by decide, by decide, by decide, by decide +kernel⟩, (xIn1 216 rfl rfl), rfl, rfl⟩
set_option maxRecDepth 20000 in
theorem okX10_manyOf : xOkV mX10_manyOf 1 := ⟨⟨(xIn3 150 rfl rfl), (xIn1 8 rfl rfl), by decide, by decide, by decide, by decide +kernel⟩, (xIn3 148 rfl rfl), (xIn3 149 rfl rfl)⟩
set_option maxRecDepth 20000 in
theorem okX10_fill : xOkV mX10_fill 3 := ⟨⟨(xIn3 156 rfl rfl), (xIn1 8 rfl rfl), by decide, by decide, by decide, by decide +kernel⟩, (xIn3 154 rfl rfl), (xIn3 155 rfl rfl)⟩
set_option maxRecDepth 20000 in
theorem okX10_layWay : xOkV mX10_layWay 3 := ⟨⟨(xIn3 176 rfl rfl), (xIn1 8 rfl rfl), by decide, by decide, by decide, by decide +kernel⟩, (xIn3 174 rfl rfl), (xIn3 175 rfl rfl)⟩
set_option maxRecDepth 20000 in
theorem okX10_manyUnlike : xOkV mX10_manyUnlike 1 := ⟨⟨(xIn6 38 rfl rfl), (xIn1 8 rfl rfl), by decide, by decide, by decide, by decide +kernel⟩, (xIn6 36 rfl rfl), (xIn6 37 rfl rfl)⟩
set_option maxRecDepth 20000 in
theorem okX10_isNew : xOkV mX10_isNew 2 := ⟨⟨(xIn6 42 rfl rfl), (xIn1 8 rfl rfl), by decide, by decide, by decide, by decide +kernel⟩, (xIn6 41 rfl rfl), (xInP3 1 rfl)⟩
set_option maxRecDepth 20000 in
theorem okX10_fillStretch : xOkV mX10_fillStretch 2 := ⟨⟨(xIn3 162 rfl rfl), (xIn1 8 rfl rfl), by decide, by decide, by decide, by decide +kernel⟩, (xIn3 161 rfl rfl), (xInP1 8 rfl)⟩
set_option maxRecDepth 20000 in
theorem okX10_startOf : xOkS mX10_startOf 2 := ⟨⟨(xIn3 165 rfl rfl), (xIn1 8 rfl rfl), by decide, by decide, by decide, by decide +kernel⟩, (xIn3 164 rfl rfl)⟩
set_option maxRecDepth 20000 in
theorem okX10_join : xOkV mX10_join 3 := ⟨⟨(xIn3 171 rfl rfl), (xIn1 8 rfl rfl), by decide, by decide, by decide, by decide +kernel⟩, (xIn3 170 rfl rfl), (xInP1 9 rfl)⟩
set_option maxRecDepth 20000 in
theorem okX11_init : xOkI mX11_init 0 := ⟨⟨(xIn1 30 rfl rfl), (xIn1 1 rfl rfl), by decide, by decide, by decide, by decide +kernel⟩, (xIn1 29 rfl rfl), rfl, rfl⟩
set_option maxRecDepth 20000 in
theorem okX11_put : xOkV mX11_put 3 := ⟨⟨(xIn2 141 rfl rfl), (xIn1 1 rfl rfl), by decide, by decide, by decide, by decide +kernel⟩, (xIn2 139 rfl rfl), (xIn2 140 rfl rfl)⟩
set_option maxRecDepth 20000 in
theorem okX11_one : xOkV mX11_one 2 := ⟨⟨(xIn2 148 rfl rfl), (xIn1 1 rfl rfl), by decide, by decide, by decide, by decide +kernel⟩, (xIn2 146 rfl rfl), (xIn2 147 rfl rfl)⟩
set_option maxRecDepth 20000 in
theorem okX11_listed : xOkV mX11_listed 3 := ⟨⟨(xIn2 158 rfl rfl), (xIn1 1 rfl rfl), by decide, by decide, by decide, by decide +kernel⟩, (xIn2 156 rfl rfl), (xIn2 157 rfl rfl)⟩
set_option maxRecDepth 20000 in
theorem okX11_copy : xOkV mX11_copy 2 := ⟨⟨(xIn2 199 rfl rfl), (xIn1 1 rfl rfl), by decide, by decide, by decide, by decide +kernel⟩, (xIn2 197 rfl rfl), (xIn2 198 rfl rfl)⟩
set_option maxRecDepth 20000 in
theorem okX11_order : xOkV mX11_order 1 := ⟨⟨(xIn2 212 rfl rfl), (xIn1 1 rfl rfl), by decide, by decide, by decide, by decide +kernel⟩, (xIn2 210 rfl rfl), (xIn2 211 rfl rfl)⟩
set_option maxRecDepth 20000 in
theorem okX11_sum : xOkV mX11_sum 3 := ⟨⟨(xIn2 216 rfl rfl), (xIn1 1 rfl rfl), by decide, by decide, by decide, by decide +kernel⟩, (xIn2 214 rfl rfl), (xIn2 215 rfl rfl)⟩
set_option maxRecDepth 20000 in
theorem okX11_less : xOkV mX11_less 3 := ⟨⟨(xIn2 235 rfl rfl), (xIn1 1 rfl rfl), by decide, by decide, by decide, by decide +kernel⟩, (xIn2 233 rfl rfl), (xIn2 234 rfl rfl)⟩
set_option maxRecDepth 20000 in
theorem okX11_product : xOkV mX11_product 3 := ⟨⟨(xIn2 239 rfl rfl), (xIn1 1 rfl rfl), by decide, by decide, by decide, by decide +kernel⟩, (xIn2 237 rfl rfl), (xIn2 238 rfl rfl)⟩
set_option maxRecDepth 20000 in
theorem okX11_mirror : xOkV mX11_mirror 2 := ⟨⟨(xIn3 14 rfl rfl), (xIn1 1 rfl rfl), by decide, by decide, by decide, by decide +kernel⟩, (xIn3 12 rfl rfl), (xIn3 13 rfl rfl)⟩
set_option maxRecDepth 20000 in
theorem okX11_times : xOkV mX11_times 3 := ⟨⟨(xIn3 21 rfl rfl), (xIn1 1 rfl rfl), by decide, by decide, by decide, by decide +kernel⟩, (xIn3 19 rfl rfl), (xIn3 20 rfl rfl)⟩
set_option maxRecDepth 20000 in
theorem okX11_turn : xOkV mX11_turn 4 := ⟨⟨(xIn3 29 rfl rfl), (xIn1 1 rfl rfl), by decide, by decide, by decide, by decide +kernel⟩, (xIn3 27 rfl rfl), (xIn3 28 rfl rfl)⟩
set_option maxRecDepth 20000 in
theorem okX11_chain : xOkV mX11_chain 5 := ⟨⟨(xIn3 42 rfl rfl), (xIn1 1 rfl rfl), by decide, by decide, by decide, by decide +kernel⟩, (xIn3 40 rfl rfl), (xIn3 41 rfl rfl)⟩
set_option maxRecDepth 20000 in
theorem okX11_last : xOkV mX11_last 3 := ⟨⟨(xIn3 52 rfl rfl), (xIn1 1 rfl rfl), by decide, by decide, by decide, by decide +kernel⟩, (xIn3 50 rfl rfl), (xIn3 51 rfl rfl)⟩
set_option maxRecDepth 20000 in
theorem okX11_power : xOkV mX11_power 3 := ⟨⟨(xIn3 121 rfl rfl), (xIn1 1 rfl rfl), by decide, by decide, by decide, by decide +kernel⟩, (xIn3 119 rfl rfl), (xIn3 120 rfl rfl)⟩
set_option maxRecDepth 20000 in
theorem okX11_associator : xOkV mX11_associator 4 := ⟨⟨(xIn3 125 rfl rfl), (xIn1 1 rfl rfl), by decide, by decide, by decide, by decide +kernel⟩, (xIn3 123 rfl rfl), (xIn3 124 rfl rfl)⟩
set_option maxRecDepth 20000 in
theorem okX11_commutator : xOkV mX11_commutator 3 := ⟨⟨(xIn3 129 rfl rfl), (xIn1 1 rfl rfl), by decide, by decide, by decide, by decide +kernel⟩, (xIn3 127 rfl rfl), (xIn3 128 rfl rfl)⟩
set_option maxRecDepth 20000 in
theorem okX11_nearest : xOkV mX11_nearest 3 := ⟨⟨(xIn3 133 rfl rfl), (xIn1 1 rfl rfl), by decide, by decide, by decide, by decide +kernel⟩, (xIn3 131 rfl rfl), (xIn3 132 rfl rfl)⟩
set_option maxRecDepth 20000 in
theorem okX11_divide : xOkV mX11_divide 4 := ⟨⟨(xIn3 141 rfl rfl), (xIn1 1 rfl rfl), by decide, by decide, by decide, by decide +kernel⟩, (xIn3 139 rfl rfl), (xIn3 140 rfl rfl)⟩
set_option maxRecDepth 20000 in
theorem okX11_bracket : xOkV mX11_bracket 4 := ⟨⟨(xIn3 146 rfl rfl), (xIn1 1 rfl rfl), by decide, by decide, by decide, by decide +kernel⟩, (xIn3 144 rfl rfl), (xIn3 145 rfl rfl)⟩
set_option maxRecDepth 20000 in
theorem okX11_feed : xOkV mX11_feed 5 := ⟨⟨(xIn3 180 rfl rfl), (xIn1 1 rfl rfl), by decide, by decide, by decide, by decide +kernel⟩, (xIn3 178 rfl rfl), (xIn3 179 rfl rfl)⟩
set_option maxRecDepth 20000 in
theorem okX11_back : xOkV mX11_back 1 := ⟨⟨(xIn3 192 rfl rfl), (xIn1 1 rfl rfl), by decide, by decide, by decide, by decide +kernel⟩, (xIn3 190 rfl rfl), (xIn3 191 rfl rfl)⟩
set_option maxRecDepth 20000 in
theorem okX11_work : xOkV mX11_work 1 := ⟨⟨(xIn3 196 rfl rfl), (xIn1 1 rfl rfl), by decide, by decide, by decide, by decide +kernel⟩, (xIn3 194 rfl rfl), (xIn3 195 rfl rfl)⟩
set_option maxRecDepth 20000 in
theorem okX11_part : xOkV mX11_part 2 := ⟨⟨(xIn4 11 rfl rfl), (xIn1 1 rfl rfl), by decide, by decide, by decide, by decide +kernel⟩, (xIn4 9 rfl rfl), (xIn4 10 rfl rfl)⟩
set_option maxRecDepth 20000 in
theorem okX11_norm : xOkV mX11_norm 1 := ⟨⟨(xIn4 15 rfl rfl), (xIn1 1 rfl rfl), by decide, by decide, by decide, by decide +kernel⟩, (xIn4 13 rfl rfl), (xIn4 14 rfl rfl)⟩
set_option maxRecDepth 20000 in
theorem okX11_spell : xOkV mX11_spell 2 := ⟨⟨(xIn4 29 rfl rfl), (xIn1 1 rfl rfl), by decide, by decide, by decide, by decide +kernel⟩, (xIn4 27 rfl rfl), (xIn4 28 rfl rfl)⟩
set_option maxRecDepth 20000 in
theorem okX11_turned : xOkV mX11_turned 4 := ⟨⟨(xIn5 3 rfl rfl), (xIn1 1 rfl rfl), by decide, by decide, by decide, by decide +kernel⟩, (xIn5 1 rfl rfl), (xIn5 2 rfl rfl)⟩
set_option maxRecDepth 20000 in
theorem okX11_odd : xOkV mX11_odd 1 := ⟨⟨(xIn5 7 rfl rfl), (xIn1 1 rfl rfl), by decide, by decide, by decide, by decide +kernel⟩, (xIn5 5 rfl rfl), (xIn5 6 rfl rfl)⟩
set_option maxRecDepth 20000 in
theorem okX11_whole : xOkV mX11_whole 1 := ⟨⟨(xIn5 14 rfl rfl), (xIn1 1 rfl rfl), by decide, by decide, by decide, by decide +kernel⟩, (xIn5 12 rfl rfl), (xIn5 13 rfl rfl)⟩
set_option maxRecDepth 20000 in
theorem okX11_orders : xOkV mX11_orders 1 := ⟨⟨(xIn5 29 rfl rfl), (xIn1 1 rfl rfl), by decide, by decide, by decide, by decide +kernel⟩, (xIn5 27 rfl rfl), (xIn5 28 rfl rfl)⟩
set_option maxRecDepth 20000 in
theorem okX11_same : xOkV mX11_same 2 := ⟨⟨(xIn5 34 rfl rfl), (xIn1 1 rfl rfl), by decide, by decide, by decide, by decide +kernel⟩, (xIn5 32 rfl rfl), (xIn5 33 rfl rfl)⟩
set_option maxRecDepth 20000 in
theorem okX11_many : xOkV mX11_many 1 := ⟨⟨(xIn5 41 rfl rfl), (xIn1 1 rfl rfl), by decide, by decide, by decide, by decide +kernel⟩, (xIn5 39 rfl rfl), (xIn5 40 rfl rfl)⟩
set_option maxRecDepth 20000 in
theorem okX11_listedPart : xOkV mX11_listedPart 3 := ⟨⟨(xIn5 46 rfl rfl), (xIn1 1 rfl rfl), by decide, by decide, by decide, by decide +kernel⟩, (xIn5 44 rfl rfl), (xIn5 45 rfl rfl)⟩
set_option maxRecDepth 20000 in
theorem okX11_place : xOkV mX11_place 1 := ⟨⟨(xIn5 50 rfl rfl), (xIn1 1 rfl rfl), by decide, by decide, by decide, by decide +kernel⟩, (xIn5 48 rfl rfl), (xIn5 49 rfl rfl)⟩
set_option maxRecDepth 20000 in
theorem okX11_divisors : xOkV mX11_divisors 3 := ⟨⟨(xIn5 68 rfl rfl), (xIn1 1 rfl rfl), by decide, by decide, by decide, by decide +kernel⟩, (xIn5 66 rfl rfl), (xIn5 67 rfl rfl)⟩
set_option maxRecDepth 20000 in
theorem okX11_divisor : xOkV mX11_divisor 4 := ⟨⟨(xIn5 85 rfl rfl), (xIn1 1 rfl rfl), by decide, by decide, by decide, by decide +kernel⟩, (xIn5 83 rfl rfl), (xIn5 84 rfl rfl)⟩
set_option maxRecDepth 20000 in
theorem okX11_inner : xOkV mX11_inner 2 := ⟨⟨(xIn5 89 rfl rfl), (xIn1 1 rfl rfl), by decide, by decide, by decide, by decide +kernel⟩, (xIn5 87 rfl rfl), (xIn5 88 rfl rfl)⟩
set_option maxRecDepth 20000 in
theorem okX11_angles : xOkV mX11_angles 3 := ⟨⟨(xIn5 94 rfl rfl), (xIn1 1 rfl rfl), by decide, by decide, by decide, by decide +kernel⟩, (xIn5 92 rfl rfl), (xIn5 93 rfl rfl)⟩
set_option maxRecDepth 20000 in
theorem okX11_alike : xOkV mX11_alike 3 := ⟨⟨(xIn5 98 rfl rfl), (xIn1 1 rfl rfl), by decide, by decide, by decide, by decide +kernel⟩, (xIn5 96 rfl rfl), (xIn5 97 rfl rfl)⟩
set_option maxRecDepth 20000 in
theorem okX11_alikeMany : xOkV mX11_alikeMany 3 := ⟨⟨(xIn5 107 rfl rfl), (xIn1 1 rfl rfl), by decide, by decide, by decide, by decide +kernel⟩, (xIn5 105 rfl rfl), (xIn5 106 rfl rfl)⟩
set_option maxRecDepth 20000 in
theorem okX11_commuting : xOkV mX11_commuting 2 := ⟨⟨(xIn5 111 rfl rfl), (xIn1 1 rfl rfl), by decide, by decide, by decide, by decide +kernel⟩, (xIn5 109 rfl rfl), (xIn5 110 rfl rfl)⟩
set_option maxRecDepth 20000 in
theorem okX11_sides : xOkV mX11_sides 3 := ⟨⟨(xIn5 119 rfl rfl), (xIn1 1 rfl rfl), by decide, by decide, by decide, by decide +kernel⟩, (xIn5 117 rfl rfl), (xIn5 118 rfl rfl)⟩
set_option maxRecDepth 20000 in
theorem okX11_cycle : xOkV mX11_cycle 1 := ⟨⟨(xIn5 123 rfl rfl), (xIn1 1 rfl rfl), by decide, by decide, by decide, by decide +kernel⟩, (xIn5 121 rfl rfl), (xIn5 122 rfl rfl)⟩
set_option maxRecDepth 20000 in
theorem okX11_made : xOkV mX11_made 2 := ⟨⟨(xIn5 132 rfl rfl), (xIn1 1 rfl rfl), by decide, by decide, by decide, by decide +kernel⟩, (xIn5 130 rfl rfl), (xIn5 131 rfl rfl)⟩
set_option maxRecDepth 20000 in
theorem okX11_madeAt : xOkV mX11_madeAt 2 := ⟨⟨(xIn5 203 rfl rfl), (xIn1 1 rfl rfl), by decide, by decide, by decide, by decide +kernel⟩, (xIn5 201 rfl rfl), (xIn5 202 rfl rfl)⟩
set_option maxRecDepth 20000 in
theorem okX11_table : xOkV mX11_table 2 := ⟨⟨(xIn5 211 rfl rfl), (xIn1 1 rfl rfl), by decide, by decide, by decide, by decide +kernel⟩, (xIn5 209 rfl rfl), (xIn5 210 rfl rfl)⟩
set_option maxRecDepth 20000 in
theorem okX11_turnCycle : xOkV mX11_turnCycle 3 := ⟨⟨(xIn5 216 rfl rfl), (xIn1 1 rfl rfl), by decide, by decide, by decide, by decide +kernel⟩, (xIn5 214 rfl rfl), (xIn5 215 rfl rfl)⟩
set_option maxRecDepth 20000 in
theorem okX11_shared : xOkV mX11_shared 2 := ⟨⟨(xIn5 220 rfl rfl), (xIn1 1 rfl rfl), by decide, by decide, by decide, by decide +kernel⟩, (xIn5 218 rfl rfl), (xIn5 219 rfl rfl)⟩
set_option maxRecDepth 20000 in
theorem okX11_cycles : xOkV mX11_cycles 1 := ⟨⟨(xIn5 233 rfl rfl), (xIn1 1 rfl rfl), by decide, by decide, by decide, by decide +kernel⟩, (xIn5 231 rfl rfl), (xIn5 232 rfl rfl)⟩
set_option maxRecDepth 20000 in
theorem okX11_nucleus : xOkV mX11_nucleus 2 := ⟨⟨(xIn6 1 rfl rfl), (xIn1 1 rfl rfl), by decide, by decide, by decide, by decide +kernel⟩, (xIn5 239 rfl rfl), (xIn6 0 rfl rfl)⟩
set_option maxRecDepth 20000 in
theorem okX11_laws : xOkV mX11_laws 3 := ⟨⟨(xIn6 9 rfl rfl), (xIn1 1 rfl rfl), by decide, by decide, by decide, by decide +kernel⟩, (xIn6 7 rfl rfl), (xIn6 8 rfl rfl)⟩
set_option maxRecDepth 20000 in
theorem okX11_bracketed : xOkV mX11_bracketed 2 := ⟨⟨(xIn6 34 rfl rfl), (xIn1 1 rfl rfl), by decide, by decide, by decide, by decide +kernel⟩, (xIn6 32 rfl rfl), (xIn6 33 rfl rfl)⟩
set_option maxRecDepth 20000 in
theorem okX11_rests : xOkV mX11_rests 3 := ⟨⟨(xIn6 47 rfl rfl), (xIn1 1 rfl rfl), by decide, by decide, by decide, by decide +kernel⟩, (xIn6 45 rfl rfl), (xIn6 46 rfl rfl)⟩
set_option maxRecDepth 20000 in
theorem okX11_keep : xOkV mX11_keep 0 := ⟨⟨(xIn6 55 rfl rfl), (xIn1 1 rfl rfl), by decide, by decide, by decide, by decide +kernel⟩, (xIn6 53 rfl rfl), (xIn6 54 rfl rfl)⟩
set_option maxRecDepth 20000 in
theorem okX11_restore : xOkV mX11_restore 0 := ⟨⟨(xIn6 64 rfl rfl), (xIn1 1 rfl rfl), by decide, by decide, by decide, by decide +kernel⟩, (xIn6 62 rfl rfl), (xIn6 63 rfl rfl)⟩
set_option maxRecDepth 20000 in
theorem okX11_count : xOkV mX11_count 1 := ⟨⟨(xIn6 72 rfl rfl), (xIn1 1 rfl rfl), by decide, by decide, by decide, by decide +kernel⟩, (xIn6 70 rfl rfl), (xIn6 71 rfl rfl)⟩
set_option maxRecDepth 20000 in
theorem okX11_isEighth : xOkS mX11_isEighth 1 := ⟨⟨(xIn2 144 rfl rfl), (xIn1 1 rfl rfl), by decide, by decide, by decide, by decide +kernel⟩, (xIn2 143 rfl rfl)⟩
set_option maxRecDepth 20000 in
theorem okX11_areSlots : xOkS mX11_areSlots 2 := ⟨⟨(xIn2 202 rfl rfl), (xIn1 1 rfl rfl), by decide, by decide, by decide, by decide +kernel⟩, (xIn2 201 rfl rfl)⟩
set_option maxRecDepth 20000 in
theorem okX11_areSlots_ : xOkS mX11_areSlots_ 3 := ⟨⟨(xIn2 219 rfl rfl), (xIn1 1 rfl rfl), by decide, by decide, by decide, by decide +kernel⟩, (xIn2 218 rfl rfl)⟩
set_option maxRecDepth 20000 in
theorem okX11_isSlotSet : xOkS mX11_isSlotSet 1 := ⟨⟨(xIn5 135 rfl rfl), (xIn1 1 rfl rfl), by decide, by decide, by decide, by decide +kernel⟩, (xIn5 134 rfl rfl)⟩
set_option maxRecDepth 20000 in
theorem okX11_isTurn : xOkS mX11_isTurn 1 := ⟨⟨(xIn3 32 rfl rfl), (xIn1 1 rfl rfl), by decide, by decide, by decide, by decide +kernel⟩, (xIn3 31 rfl rfl)⟩
set_option maxRecDepth 20000 in
theorem okX11_isListedNorm : xOkS mX11_isListedNorm 1 := ⟨⟨(xIn2 161 rfl rfl), (xIn1 1 rfl rfl), by decide, by decide, by decide, by decide +kernel⟩, (xIn2 160 rfl rfl)⟩
set_option maxRecDepth 20000 in
theorem okX11_isDivisor : xOkS mX11_isDivisor 1 := ⟨⟨(xIn3 136 rfl rfl), (xIn1 1 rfl rfl), by decide, by decide, by decide, by decide +kernel⟩, (xIn3 135 rfl rfl)⟩
set_option maxRecDepth 20000 in
theorem okX11_isRow : xOkS mX11_isRow 3 := ⟨⟨(xIn3 45 rfl rfl), (xIn1 1 rfl rfl), by decide, by decide, by decide, by decide +kernel⟩, (xIn3 44 rfl rfl)⟩
set_option maxRecDepth 20000 in
theorem okX11_slotOfRow : xOkS mX11_slotOfRow 2 := ⟨⟨(xIn3 48 rfl rfl), (xIn1 1 rfl rfl), by decide, by decide, by decide, by decide +kernel⟩, (xIn3 47 rfl rfl)⟩
set_option maxRecDepth 20000 in
theorem okX11_told : xOkS mX11_told 1 := ⟨⟨(xIn2 231 rfl rfl), (xIn1 1 rfl rfl), by decide, by decide, by decide, by decide +kernel⟩, (xIn2 230 rfl rfl)⟩
set_option maxRecDepth 20000 in
theorem okX11_asked : xOkS mX11_asked 1 := ⟨⟨(xIn5 25 rfl rfl), (xIn1 1 rfl rfl), by decide, by decide, by decide, by decide +kernel⟩, (xIn5 24 rfl rfl)⟩
set_option maxRecDepth 20000 in
theorem okX11_capped : xOkS mX11_capped 1 := ⟨⟨(xIn4 19 rfl rfl), (xIn1 1 rfl rfl), by decide, by decide, by decide, by decide +kernel⟩, (xIn4 18 rfl rfl)⟩
set_option maxRecDepth 20000 in
theorem okX11_spellPart : xOkV mX11_spellPart 2 := ⟨⟨(xIn4 89 rfl rfl), (xIn1 1 rfl rfl), by decide, by decide, by decide, by decide +kernel⟩, (xIn4 88 rfl rfl), (xInP2 1 rfl)⟩
set_option maxRecDepth 20000 in
theorem okX11_isDivisorAt : xOkV mX11_isDivisorAt 4 := ⟨⟨(xIn5 72 rfl rfl), (xIn1 1 rfl rfl), by decide, by decide, by decide, by decide +kernel⟩, (xIn5 71 rfl rfl), (xInP2 2 rfl)⟩
set_option maxRecDepth 20000 in
theorem okX11_areAlike : xOkV mX11_areAlike 3 := ⟨⟨(xIn5 102 rfl rfl), (xIn1 1 rfl rfl), by decide, by decide, by decide, by decide +kernel⟩, (xIn5 101 rfl rfl), (xInP2 3 rfl)⟩
set_option maxRecDepth 20000 in
theorem okX11_doCommute : xOkV mX11_doCommute 2 := ⟨⟨(xIn5 115 rfl rfl), (xIn1 1 rfl rfl), by decide, by decide, by decide, by decide +kernel⟩, (xIn5 114 rfl rfl), (xInP2 4 rfl)⟩
set_option maxRecDepth 20000 in
theorem okX11_doAssociate : xOkV mX11_doAssociate 3 := ⟨⟨(xIn6 5 rfl rfl), (xIn1 1 rfl rfl), by decide, by decide, by decide, by decide +kernel⟩, (xIn6 4 rfl rfl), (xInP2 13 rfl)⟩
set_option maxRecDepth 20000 in
theorem okX11_wholeSlots : xOkV mX11_wholeSlots 0 := ⟨⟨(xIn6 76 rfl rfl), (xIn1 1 rfl rfl), by decide, by decide, by decide, by decide +kernel⟩, (xIn6 75 rfl rfl), (xInP3 2 rfl)⟩
set_option maxRecDepth 20000 in
theorem okX11_emptySlots : xOkV mX11_emptySlots 0 := ⟨⟨(xIn6 80 rfl rfl), (xIn1 1 rfl rfl), by decide, by decide, by decide, by decide +kernel⟩, (xIn6 79 rfl rfl), (xInP3 3 rfl)⟩
set_option maxRecDepth 20000 in
theorem okX12_in : xOkS mX12_in 3 := ⟨⟨(xIn6 213 rfl rfl), (xIn1 16 rfl rfl), by decide, by decide, by decide, by decide +kernel⟩, (xIn6 212 rfl rfl)⟩
set_option maxRecDepth 20000 in
theorem okX12_has : xOkS mX12_has 2 := ⟨⟨(xIn7 14 rfl rfl), (xIn1 16 rfl rfl), by decide, by decide, by decide, by decide +kernel⟩, (xIn7 13 rfl rfl)⟩
set_option maxRecDepth 20000 in
theorem okX12_bitsOf : xOkS mX12_bitsOf 1 := ⟨⟨(xIn7 20 rfl rfl), (xIn1 16 rfl rfl), by decide, by decide, by decide, by decide +kernel⟩, (xIn7 19 rfl rfl)⟩
set_option maxRecDepth 20000 in
theorem okX12_init : xOkI mX12_init 0 := ⟨⟨(xIn6 85 rfl rfl), (xIn1 16 rfl rfl), by decide, by decide, by decide, by decide +kernel⟩, (xIn6 84 rfl rfl), rfl, rfl⟩
set_option maxRecDepth 20000 in
theorem okX12_isSlot : xOkS mX12_isSlot 1 := ⟨⟨(xIn6 209 rfl rfl), (xIn1 16 rfl rfl), by decide, by decide, by decide, by decide +kernel⟩, (xIn6 208 rfl rfl)⟩
set_option maxRecDepth 20000 in
theorem okX12_isPart : xOkS mX12_isPart 1 := ⟨⟨(xIn6 216 rfl rfl), (xIn1 16 rfl rfl), by decide, by decide, by decide, by decide +kernel⟩, (xIn6 215 rfl rfl)⟩
set_option maxRecDepth 20000 in
theorem okX12_becomes : xOkV mX12_becomes 2 := ⟨⟨(xIn7 32 rfl rfl), (xIn1 16 rfl rfl), by decide, by decide, by decide, by decide +kernel⟩, (xIn7 31 rfl rfl), (xInP3 8 rfl)⟩
set_option maxRecDepth 20000 in
theorem okX12_nought : xOkV mX12_nought 1 := ⟨⟨(xIn6 226 rfl rfl), (xIn1 16 rfl rfl), by decide, by decide, by decide, by decide +kernel⟩, (xIn6 225 rfl rfl), (xInP3 4 rfl)⟩
set_option maxRecDepth 20000 in
theorem okX12_areSame : xOkV mX12_areSame 2 := ⟨⟨(xIn7 199 rfl rfl), (xIn1 16 rfl rfl), by decide, by decide, by decide, by decide +kernel⟩, (xIn7 198 rfl rfl), (xInP4 9 rfl)⟩
set_option maxRecDepth 20000 in
theorem okX12_isNought : xOkV mX12_isNought 1 := ⟨⟨(xIn7 169 rfl rfl), (xIn1 16 rfl rfl), by decide, by decide, by decide, by decide +kernel⟩, (xIn7 168 rfl rfl), (xInP4 6 rfl)⟩
set_option maxRecDepth 20000 in
theorem okX12_comes : xOkV mX12_comes 1 := ⟨⟨(xIn7 51 rfl rfl), (xIn1 16 rfl rfl), by decide, by decide, by decide, by decide +kernel⟩, (xIn7 50 rfl rfl), (xInP3 10 rfl)⟩
set_option maxRecDepth 20000 in
theorem okX12_isProduct : xOkV mX12_isProduct 4 := ⟨⟨(xIn7 70 rfl rfl), (xIn1 16 rfl rfl), by decide, by decide, by decide, by decide +kernel⟩, (xIn7 69 rfl rfl), (xInP3 12 rfl)⟩
set_option maxRecDepth 20000 in
theorem okX12_multiplies : xOkV mX12_multiplies 3 := ⟨⟨(xIn7 66 rfl rfl), (xIn1 16 rfl rfl), by decide, by decide, by decide, by decide +kernel⟩, (xIn7 65 rfl rfl), (xInP3 11 rfl)⟩
set_option maxRecDepth 20000 in
theorem okX12_adds : xOkV mX12_adds 4 := ⟨⟨(xIn7 47 rfl rfl), (xIn1 16 rfl rfl), by decide, by decide, by decide, by decide +kernel⟩, (xIn7 46 rfl rfl), (xInP3 9 rfl)⟩
set_option maxRecDepth 20000 in
theorem okX12_mirrors : xOkV mX12_mirrors 2 := ⟨⟨(xIn7 79 rfl rfl), (xIn1 16 rfl rfl), by decide, by decide, by decide, by decide +kernel⟩, (xIn7 78 rfl rfl), (xInP3 13 rfl)⟩
set_option maxRecDepth 20000 in
theorem okX12_normOf : xOkV mX12_normOf 1 := ⟨⟨(xIn7 156 rfl rfl), (xIn1 16 rfl rfl), by decide, by decide, by decide, by decide +kernel⟩, (xIn7 155 rfl rfl), (xInP4 4 rfl)⟩
set_option maxRecDepth 20000 in
theorem okX12_held : xOkS mX12_held 1 := ⟨⟨(xIn7 177 rfl rfl), (xIn1 16 rfl rfl), by decide, by decide, by decide, by decide +kernel⟩, (xIn7 176 rfl rfl)⟩
set_option maxRecDepth 20000 in
theorem okX12_oddOf : xOkV mX12_oddOf 1 := ⟨⟨(xIn8 35 rfl rfl), (xIn1 16 rfl rfl), by decide, by decide, by decide, by decide +kernel⟩, (xIn8 34 rfl rfl), (xInP5 3 rfl)⟩
set_option maxRecDepth 20000 in
theorem okX12_isCode : xOkS mX12_isCode 1 := ⟨⟨(xIn7 17 rfl rfl), (xIn1 16 rfl rfl), by decide, by decide, by decide, by decide +kernel⟩, (xIn7 16 rfl rfl)⟩
set_option maxRecDepth 20000 in
theorem okX12_isOf : xOkS mX12_isOf 2 := ⟨⟨(xIn7 11 rfl rfl), (xIn1 16 rfl rfl), by decide, by decide, by decide, by decide +kernel⟩, (xIn7 10 rfl rfl)⟩
set_option maxRecDepth 20000 in
theorem okX12_isWhole : xOkV mX12_isWhole 1 := ⟨⟨(xIn8 43 rfl rfl), (xIn1 16 rfl rfl), by decide, by decide, by decide, by decide +kernel⟩, (xIn8 42 rfl rfl), (xInP5 4 rfl)⟩
set_option maxRecDepth 20000 in
theorem okX12_isUnit : xOkV mX12_isUnit 1 := ⟨⟨(xIn8 161 rfl rfl), (xIn1 16 rfl rfl), by decide, by decide, by decide, by decide +kernel⟩, (xIn8 160 rfl rfl), (xInP6 0 rfl)⟩
set_option maxRecDepth 20000 in
theorem okX12_listFrom : xOkS mX12_listFrom 1 := ⟨⟨(xIn7 5 rfl rfl), (xIn1 16 rfl rfl), by decide, by decide, by decide, by decide +kernel⟩, (xIn7 4 rfl rfl)⟩
set_option maxRecDepth 20000 in
theorem okX12_oddIn : xOkS mX12_oddIn 1 := ⟨⟨(xIn7 8 rfl rfl), (xIn1 16 rfl rfl), by decide, by decide, by decide, by decide +kernel⟩, (xIn7 7 rfl rfl)⟩
set_option maxRecDepth 20000 in
theorem okX12_laysList : xOkV mX12_laysList 2 := ⟨⟨(xIn7 2 rfl rfl), (xIn1 16 rfl rfl), by decide, by decide, by decide, by decide +kernel⟩, (xIn7 1 rfl rfl), (xInP3 6 rfl)⟩
set_option maxRecDepth 20000 in
theorem okX12_isNorm : xOkS mX12_isNorm 1 := ⟨⟨(xIn6 233 rfl rfl), (xIn1 16 rfl rfl), by decide, by decide, by decide, by decide +kernel⟩, (xIn6 232 rfl rfl)⟩
set_option maxRecDepth 20000 in
theorem okX12_listSize : xOkV mX12_listSize 1 := ⟨⟨(xIn6 238 rfl rfl), (xIn1 16 rfl rfl), by decide, by decide, by decide, by decide +kernel⟩, (xIn6 237 rfl rfl), (xInP3 5 rfl)⟩
set_option maxRecDepth 20000 in
theorem okX12_brings : xOkV mX12_brings 3 := ⟨⟨(xIn7 24 rfl rfl), (xIn1 16 rfl rfl), by decide, by decide, by decide, by decide +kernel⟩, (xIn7 23 rfl rfl), (xInP3 7 rfl)⟩
set_option maxRecDepth 20000 in
theorem okX12_against : xOkV mX12_against 3 := ⟨⟨(xIn8 72 rfl rfl), (xIn1 16 rfl rfl), by decide, by decide, by decide, by decide +kernel⟩, (xIn8 71 rfl rfl), (xInP5 6 rfl)⟩
set_option maxRecDepth 20000 in
theorem okX12_numberOf : xOkV mX12_numberOf 1 := ⟨⟨(xIn8 67 rfl rfl), (xIn1 16 rfl rfl), by decide, by decide, by decide, by decide +kernel⟩, (xIn8 66 rfl rfl), (xInP5 5 rfl)⟩
set_option maxRecDepth 20000 in
theorem okX12_put : xOkV mX12_put 3 := ⟨⟨(xIn6 206 rfl rfl), (xIn1 16 rfl rfl), by decide, by decide, by decide, by decide +kernel⟩, (xIn6 204 rfl rfl), (xIn6 205 rfl rfl)⟩
set_option maxRecDepth 20000 in
theorem okX12_one : xOkV mX12_one 2 := ⟨⟨(xIn6 222 rfl rfl), (xIn1 16 rfl rfl), by decide, by decide, by decide, by decide +kernel⟩, (xIn6 220 rfl rfl), (xIn6 221 rfl rfl)⟩
set_option maxRecDepth 20000 in
theorem okX12_listed : xOkV mX12_listed 3 := ⟨⟨(xIn6 230 rfl rfl), (xIn1 16 rfl rfl), by decide, by decide, by decide, by decide +kernel⟩, (xIn6 228 rfl rfl), (xIn6 229 rfl rfl)⟩
set_option maxRecDepth 20000 in
theorem okX12_copy : xOkV mX12_copy 2 := ⟨⟨(xIn7 28 rfl rfl), (xIn1 16 rfl rfl), by decide, by decide, by decide, by decide +kernel⟩, (xIn7 26 rfl rfl), (xIn7 27 rfl rfl)⟩
set_option maxRecDepth 20000 in
theorem okX12_order : xOkV mX12_order 1 := ⟨⟨(xIn7 36 rfl rfl), (xIn1 16 rfl rfl), by decide, by decide, by decide, by decide +kernel⟩, (xIn7 34 rfl rfl), (xIn7 35 rfl rfl)⟩
set_option maxRecDepth 20000 in
theorem okX12_can : xOkS mX12_can 1 := ⟨⟨(xIn7 54 rfl rfl), (xIn1 16 rfl rfl), by decide, by decide, by decide, by decide +kernel⟩, (xIn7 53 rfl rfl)⟩
set_option maxRecDepth 20000 in
theorem okX12_ends : xOkV mX12_ends 3 := ⟨⟨(xIn7 100 rfl rfl), (xIn1 16 rfl rfl), by decide, by decide, by decide, by decide +kernel⟩, (xIn7 99 rfl rfl), (xInP3 15 rfl)⟩
set_option maxRecDepth 20000 in
theorem okX12_areSlots : xOkS mX12_areSlots 3 := ⟨⟨(xIn7 43 rfl rfl), (xIn1 16 rfl rfl), by decide, by decide, by decide, by decide +kernel⟩, (xIn7 42 rfl rfl)⟩
set_option maxRecDepth 20000 in
theorem okX12_sum : xOkV mX12_sum 3 := ⟨⟨(xIn7 40 rfl rfl), (xIn1 16 rfl rfl), by decide, by decide, by decide, by decide +kernel⟩, (xIn7 38 rfl rfl), (xIn7 39 rfl rfl)⟩
set_option maxRecDepth 20000 in
theorem okX12_less : xOkV mX12_less 3 := ⟨⟨(xIn7 58 rfl rfl), (xIn1 16 rfl rfl), by decide, by decide, by decide, by decide +kernel⟩, (xIn7 56 rfl rfl), (xIn7 57 rfl rfl)⟩
set_option maxRecDepth 20000 in
theorem okX12_product : xOkV mX12_product 3 := ⟨⟨(xIn7 62 rfl rfl), (xIn1 16 rfl rfl), by decide, by decide, by decide, by decide +kernel⟩, (xIn7 60 rfl rfl), (xIn7 61 rfl rfl)⟩
set_option maxRecDepth 20000 in
theorem okX12_mirror : xOkV mX12_mirror 2 := ⟨⟨(xIn7 75 rfl rfl), (xIn1 16 rfl rfl), by decide, by decide, by decide, by decide +kernel⟩, (xIn7 73 rfl rfl), (xIn7 74 rfl rfl)⟩
set_option maxRecDepth 20000 in
theorem okX12_times : xOkV mX12_times 3 := ⟨⟨(xIn7 83 rfl rfl), (xIn1 16 rfl rfl), by decide, by decide, by decide, by decide +kernel⟩, (xIn7 81 rfl rfl), (xIn7 82 rfl rfl)⟩
set_option maxRecDepth 20000 in
theorem okX12_isTurn : xOkS mX12_isTurn 1 := ⟨⟨(xIn7 92 rfl rfl), (xIn1 16 rfl rfl), by decide, by decide, by decide, by decide +kernel⟩, (xIn7 91 rfl rfl)⟩
set_option maxRecDepth 20000 in
theorem okX12_turns : xOkV mX12_turns 4 := ⟨⟨(xIn7 96 rfl rfl), (xIn1 16 rfl rfl), by decide, by decide, by decide, by decide +kernel⟩, (xIn7 95 rfl rfl), (xInP3 14 rfl)⟩
set_option maxRecDepth 20000 in
theorem okX12_turn : xOkV mX12_turn 4 := ⟨⟨(xIn7 89 rfl rfl), (xIn1 16 rfl rfl), by decide, by decide, by decide, by decide +kernel⟩, (xIn7 87 rfl rfl), (xIn7 88 rfl rfl)⟩
set_option maxRecDepth 20000 in
theorem okX12_isRow : xOkS mX12_isRow 3 := ⟨⟨(xIn7 107 rfl rfl), (xIn1 16 rfl rfl), by decide, by decide, by decide, by decide +kernel⟩, (xIn7 106 rfl rfl)⟩
set_option maxRecDepth 20000 in
theorem okX12_slotIn : xOkS mX12_slotIn 2 := ⟨⟨(xIn7 111 rfl rfl), (xIn1 16 rfl rfl), by decide, by decide, by decide, by decide +kernel⟩, (xIn7 110 rfl rfl)⟩
set_option maxRecDepth 20000 in
theorem okX12_chain : xOkV mX12_chain 5 := ⟨⟨(xIn7 104 rfl rfl), (xIn1 16 rfl rfl), by decide, by decide, by decide, by decide +kernel⟩, (xIn7 102 rfl rfl), (xIn7 103 rfl rfl)⟩
set_option maxRecDepth 20000 in
theorem okX12_powers : xOkV mX12_powers 3 := ⟨⟨(xIn7 120 rfl rfl), (xIn1 16 rfl rfl), by decide, by decide, by decide, by decide +kernel⟩, (xIn7 119 rfl rfl), (xInP4 0 rfl)⟩
set_option maxRecDepth 20000 in
theorem okX12_power : xOkV mX12_power 3 := ⟨⟨(xIn7 115 rfl rfl), (xIn1 16 rfl rfl), by decide, by decide, by decide, by decide +kernel⟩, (xIn7 113 rfl rfl), (xIn7 114 rfl rfl)⟩
set_option maxRecDepth 20000 in
theorem okX12_associator : xOkV mX12_associator 4 := ⟨⟨(xIn7 124 rfl rfl), (xIn1 16 rfl rfl), by decide, by decide, by decide, by decide +kernel⟩, (xIn7 122 rfl rfl), (xIn7 123 rfl rfl)⟩
set_option maxRecDepth 20000 in
theorem okX12_commutator : xOkV mX12_commutator 3 := ⟨⟨(xIn7 128 rfl rfl), (xIn1 16 rfl rfl), by decide, by decide, by decide, by decide +kernel⟩, (xIn7 126 rfl rfl), (xIn7 127 rfl rfl)⟩
set_option maxRecDepth 20000 in
theorem okX12_near : xOkS mX12_near 3 := ⟨⟨(xIn7 140 rfl rfl), (xIn1 16 rfl rfl), by decide, by decide, by decide, by decide +kernel⟩, (xIn7 139 rfl rfl)⟩
set_option maxRecDepth 20000 in
theorem okX12_isAhead : xOkV mX12_isAhead 0 := ⟨⟨(xIn7 144 rfl rfl), (xIn1 16 rfl rfl), by decide, by decide, by decide, by decide +kernel⟩, (xIn7 143 rfl rfl), (xInP4 2 rfl)⟩
set_option maxRecDepth 20000 in
theorem okX12_nears : xOkV mX12_nears 1 := ⟨⟨(xIn7 136 rfl rfl), (xIn1 16 rfl rfl), by decide, by decide, by decide, by decide +kernel⟩, (xIn7 135 rfl rfl), (xInP4 1 rfl)⟩
set_option maxRecDepth 20000 in
theorem okX12_nearest : xOkV mX12_nearest 3 := ⟨⟨(xIn7 132 rfl rfl), (xIn1 16 rfl rfl), by decide, by decide, by decide, by decide +kernel⟩, (xIn7 130 rfl rfl), (xIn7 131 rfl rfl)⟩
set_option maxRecDepth 20000 in
theorem okX12_divides : xOkV mX12_divides 2 := ⟨⟨(xIn7 152 rfl rfl), (xIn1 16 rfl rfl), by decide, by decide, by decide, by decide +kernel⟩, (xIn7 151 rfl rfl), (xInP4 3 rfl)⟩
set_option maxRecDepth 20000 in
theorem okX12_divide : xOkV mX12_divide 4 := ⟨⟨(xIn7 148 rfl rfl), (xIn1 16 rfl rfl), by decide, by decide, by decide, by decide +kernel⟩, (xIn7 146 rfl rfl), (xIn7 147 rfl rfl)⟩
set_option maxRecDepth 20000 in
theorem okX12_goesOn : xOkV mX12_goesOn 2 := ⟨⟨(xIn7 165 rfl rfl), (xIn1 16 rfl rfl), by decide, by decide, by decide, by decide +kernel⟩, (xIn7 164 rfl rfl), (xInP4 5 rfl)⟩
set_option maxRecDepth 20000 in
theorem okX12_last : xOkV mX12_last 3 := ⟨⟨(xIn7 161 rfl rfl), (xIn1 16 rfl rfl), by decide, by decide, by decide, by decide +kernel⟩, (xIn7 159 rfl rfl), (xIn7 160 rfl rfl)⟩
set_option maxRecDepth 20000 in
theorem okX12_rests : xOkV mX12_rests 3 := ⟨⟨(xIn7 174 rfl rfl), (xIn1 16 rfl rfl), by decide, by decide, by decide, by decide +kernel⟩, (xIn7 172 rfl rfl), (xIn7 173 rfl rfl)⟩
set_option maxRecDepth 20000 in
theorem okX12_laysWays : xOkV mX12_laysWays 2 := ⟨⟨(xIn7 187 rfl rfl), (xIn1 16 rfl rfl), by decide, by decide, by decide, by decide +kernel⟩, (xIn7 186 rfl rfl), (xInP4 7 rfl)⟩
set_option maxRecDepth 20000 in
theorem okX12_joins : xOkV mX12_joins 3 := ⟨⟨(xIn7 191 rfl rfl), (xIn1 16 rfl rfl), by decide, by decide, by decide, by decide +kernel⟩, (xIn7 190 rfl rfl), (xInP4 8 rfl)⟩
set_option maxRecDepth 20000 in
theorem okX12_bracket : xOkV mX12_bracket 4 := ⟨⟨(xIn7 183 rfl rfl), (xIn1 16 rfl rfl), by decide, by decide, by decide, by decide +kernel⟩, (xIn7 181 rfl rfl), (xIn7 182 rfl rfl)⟩
set_option maxRecDepth 20000 in
theorem okX12_bracketed : xOkV mX12_bracketed 2 := ⟨⟨(xIn7 195 rfl rfl), (xIn1 16 rfl rfl), by decide, by decide, by decide, by decide +kernel⟩, (xIn7 193 rfl rfl), (xIn7 194 rfl rfl)⟩
set_option maxRecDepth 20000 in
theorem okX12_feed : xOkV mX12_feed 5 := ⟨⟨(xIn7 203 rfl rfl), (xIn1 16 rfl rfl), by decide, by decide, by decide, by decide +kernel⟩, (xIn7 201 rfl rfl), (xIn7 202 rfl rfl)⟩
set_option maxRecDepth 20000 in
theorem okX12_back : xOkV mX12_back 1 := ⟨⟨(xIn7 207 rfl rfl), (xIn1 16 rfl rfl), by decide, by decide, by decide, by decide +kernel⟩, (xIn7 205 rfl rfl), (xIn7 206 rfl rfl)⟩
set_option maxRecDepth 20000 in
theorem okX12_opens : xOkV mX12_opens 1 := ⟨⟨(xIn7 223 rfl rfl), (xIn1 16 rfl rfl), by decide, by decide, by decide, by decide +kernel⟩, (xIn7 222 rfl rfl), (xInP4 12 rfl)⟩
set_option maxRecDepth 20000 in
theorem okX12_factors : xOkV mX12_factors 1 := ⟨⟨(xIn7 229 rfl rfl), (xIn1 16 rfl rfl), by decide, by decide, by decide, by decide +kernel⟩, (xIn7 228 rfl rfl), (xInP4 13 rfl)⟩
set_option maxRecDepth 20000 in
theorem okX12_sums : xOkV mX12_sums 0 := ⟨⟨(xIn7 239 rfl rfl), (xIn1 16 rfl rfl), by decide, by decide, by decide, by decide +kernel⟩, (xIn7 238 rfl rfl), (xInP4 15 rfl)⟩
set_option maxRecDepth 20000 in
theorem okX12_begins : xOkV mX12_begins 1 := ⟨⟨(xIn7 219 rfl rfl), (xIn1 16 rfl rfl), by decide, by decide, by decide, by decide +kernel⟩, (xIn7 218 rfl rfl), (xInP4 11 rfl)⟩
set_option maxRecDepth 20000 in
theorem okX12_follows : xOkV mX12_follows 1 := ⟨⟨(xIn7 235 rfl rfl), (xIn1 16 rfl rfl), by decide, by decide, by decide, by decide +kernel⟩, (xIn7 234 rfl rfl), (xInP4 14 rfl)⟩
set_option maxRecDepth 20000 in
theorem okX12_works : xOkV mX12_works 0 := ⟨⟨(xIn7 215 rfl rfl), (xIn1 16 rfl rfl), by decide, by decide, by decide, by decide +kernel⟩, (xIn7 214 rfl rfl), (xInP4 10 rfl)⟩
set_option maxRecDepth 20000 in
theorem okX12_work : xOkV mX12_work 1 := ⟨⟨(xIn7 211 rfl rfl), (xIn1 16 rfl rfl), by decide, by decide, by decide, by decide +kernel⟩, (xIn7 209 rfl rfl), (xIn7 210 rfl rfl)⟩
set_option maxRecDepth 20000 in
theorem okX12_part : xOkV mX12_part 2 := ⟨⟨(xIn8 3 rfl rfl), (xIn1 16 rfl rfl), by decide, by decide, by decide, by decide +kernel⟩, (xIn8 1 rfl rfl), (xIn8 2 rfl rfl)⟩
set_option maxRecDepth 20000 in
theorem okX12_norm : xOkV mX12_norm 1 := ⟨⟨(xIn8 7 rfl rfl), (xIn1 16 rfl rfl), by decide, by decide, by decide, by decide +kernel⟩, (xIn8 5 rfl rfl), (xIn8 6 rfl rfl)⟩
set_option maxRecDepth 20000 in
theorem okX12_writes : xOkV mX12_writes 1 := ⟨⟨(xIn8 19 rfl rfl), (xIn1 16 rfl rfl), by decide, by decide, by decide, by decide +kernel⟩, (xIn8 18 rfl rfl), (xInP5 1 rfl)⟩
set_option maxRecDepth 20000 in
theorem okX12_writesNumber : xOkV mX12_writesNumber 1 := ⟨⟨(xIn8 23 rfl rfl), (xIn1 16 rfl rfl), by decide, by decide, by decide, by decide +kernel⟩, (xIn8 22 rfl rfl), (xInP5 2 rfl)⟩
set_option maxRecDepth 20000 in
theorem okX12_writesAll : xOkV mX12_writesAll 1 := ⟨⟨(xIn8 15 rfl rfl), (xIn1 16 rfl rfl), by decide, by decide, by decide, by decide +kernel⟩, (xIn8 14 rfl rfl), (xInP5 0 rfl)⟩
set_option maxRecDepth 20000 in
theorem okX12_spell : xOkV mX12_spell 2 := ⟨⟨(xIn8 11 rfl rfl), (xIn1 16 rfl rfl), by decide, by decide, by decide, by decide +kernel⟩, (xIn8 9 rfl rfl), (xIn8 10 rfl rfl)⟩
set_option maxRecDepth 20000 in
theorem okX12_turned : xOkV mX12_turned 4 := ⟨⟨(xIn8 27 rfl rfl), (xIn1 16 rfl rfl), by decide, by decide, by decide, by decide +kernel⟩, (xIn8 25 rfl rfl), (xIn8 26 rfl rfl)⟩
set_option maxRecDepth 20000 in
theorem okX12_odd : xOkV mX12_odd 1 := ⟨⟨(xIn8 31 rfl rfl), (xIn1 16 rfl rfl), by decide, by decide, by decide, by decide +kernel⟩, (xIn8 29 rfl rfl), (xIn8 30 rfl rfl)⟩
set_option maxRecDepth 20000 in
theorem okX12_whole : xOkV mX12_whole 1 := ⟨⟨(xIn8 39 rfl rfl), (xIn1 16 rfl rfl), by decide, by decide, by decide, by decide +kernel⟩, (xIn8 37 rfl rfl), (xIn8 38 rfl rfl)⟩
set_option maxRecDepth 20000 in
theorem okX12_orders : xOkV mX12_orders 1 := ⟨⟨(xIn8 47 rfl rfl), (xIn1 16 rfl rfl), by decide, by decide, by decide, by decide +kernel⟩, (xIn8 45 rfl rfl), (xIn8 46 rfl rfl)⟩
set_option maxRecDepth 20000 in
theorem okX12_same : xOkV mX12_same 2 := ⟨⟨(xIn8 51 rfl rfl), (xIn1 16 rfl rfl), by decide, by decide, by decide, by decide +kernel⟩, (xIn8 49 rfl rfl), (xIn8 50 rfl rfl)⟩
set_option maxRecDepth 20000 in
theorem okX12_many : xOkV mX12_many 1 := ⟨⟨(xIn8 55 rfl rfl), (xIn1 16 rfl rfl), by decide, by decide, by decide, by decide +kernel⟩, (xIn8 53 rfl rfl), (xIn8 54 rfl rfl)⟩
set_option maxRecDepth 20000 in
theorem okX12_listedPart : xOkV mX12_listedPart 3 := ⟨⟨(xIn8 59 rfl rfl), (xIn1 16 rfl rfl), by decide, by decide, by decide, by decide +kernel⟩, (xIn8 57 rfl rfl), (xIn8 58 rfl rfl)⟩
set_option maxRecDepth 20000 in
theorem okX12_place : xOkV mX12_place 1 := ⟨⟨(xIn8 63 rfl rfl), (xIn1 16 rfl rfl), by decide, by decide, by decide, by decide +kernel⟩, (xIn8 61 rfl rfl), (xIn8 62 rfl rfl)⟩
set_option maxRecDepth 20000 in
theorem okX12_isWholeBy : xOkV mX12_isWholeBy 1 := ⟨⟨(xIn8 88 rfl rfl), (xIn1 16 rfl rfl), by decide, by decide, by decide, by decide +kernel⟩, (xIn8 87 rfl rfl), (xInP5 9 rfl)⟩
set_option maxRecDepth 20000 in
theorem okX12_isDivisor : xOkV mX12_isDivisor 4 := ⟨⟨(xIn8 84 rfl rfl), (xIn1 16 rfl rfl), by decide, by decide, by decide, by decide +kernel⟩, (xIn8 83 rfl rfl), (xInP5 8 rfl)⟩
set_option maxRecDepth 20000 in
theorem okX12_divisorsOf : xOkV mX12_divisorsOf 4 := ⟨⟨(xIn8 80 rfl rfl), (xIn1 16 rfl rfl), by decide, by decide, by decide, by decide +kernel⟩, (xIn8 79 rfl rfl), (xInP5 7 rfl)⟩
set_option maxRecDepth 20000 in
theorem okX12_divisors : xOkV mX12_divisors 3 := ⟨⟨(xIn8 76 rfl rfl), (xIn1 16 rfl rfl), by decide, by decide, by decide, by decide +kernel⟩, (xIn8 74 rfl rfl), (xIn8 75 rfl rfl)⟩
set_option maxRecDepth 20000 in
theorem okX12_divisor : xOkV mX12_divisor 4 := ⟨⟨(xIn8 92 rfl rfl), (xIn1 16 rfl rfl), by decide, by decide, by decide, by decide +kernel⟩, (xIn8 90 rfl rfl), (xIn8 91 rfl rfl)⟩
set_option maxRecDepth 20000 in
theorem okX12_innerOf : xOkV mX12_innerOf 2 := ⟨⟨(xIn8 100 rfl rfl), (xIn1 16 rfl rfl), by decide, by decide, by decide, by decide +kernel⟩, (xIn8 99 rfl rfl), (xInP5 10 rfl)⟩
set_option maxRecDepth 20000 in
theorem okX12_inner : xOkV mX12_inner 2 := ⟨⟨(xIn8 96 rfl rfl), (xIn1 16 rfl rfl), by decide, by decide, by decide, by decide +kernel⟩, (xIn8 94 rfl rfl), (xIn8 95 rfl rfl)⟩
set_option maxRecDepth 20000 in
theorem okX12_angles : xOkV mX12_angles 3 := ⟨⟨(xIn8 104 rfl rfl), (xIn1 16 rfl rfl), by decide, by decide, by decide, by decide +kernel⟩, (xIn8 102 rfl rfl), (xIn8 103 rfl rfl)⟩
set_option maxRecDepth 20000 in
theorem okX12_areAlike : xOkV mX12_areAlike 3 := ⟨⟨(xIn8 112 rfl rfl), (xIn1 16 rfl rfl), by decide, by decide, by decide, by decide +kernel⟩, (xIn8 111 rfl rfl), (xInP5 11 rfl)⟩
set_option maxRecDepth 20000 in
theorem okX12_alike : xOkV mX12_alike 3 := ⟨⟨(xIn8 108 rfl rfl), (xIn1 16 rfl rfl), by decide, by decide, by decide, by decide +kernel⟩, (xIn8 106 rfl rfl), (xIn8 107 rfl rfl)⟩
set_option maxRecDepth 20000 in
theorem okX12_alikeMany : xOkV mX12_alikeMany 3 := ⟨⟨(xIn8 116 rfl rfl), (xIn1 16 rfl rfl), by decide, by decide, by decide, by decide +kernel⟩, (xIn8 114 rfl rfl), (xIn8 115 rfl rfl)⟩
set_option maxRecDepth 20000 in
theorem okX12_doCommute : xOkV mX12_doCommute 2 := ⟨⟨(xIn8 124 rfl rfl), (xIn1 16 rfl rfl), by decide, by decide, by decide, by decide +kernel⟩, (xIn8 123 rfl rfl), (xInP5 12 rfl)⟩
set_option maxRecDepth 20000 in
theorem okX12_commuting : xOkV mX12_commuting 2 := ⟨⟨(xIn8 120 rfl rfl), (xIn1 16 rfl rfl), by decide, by decide, by decide, by decide +kernel⟩, (xIn8 118 rfl rfl), (xIn8 119 rfl rfl)⟩
set_option maxRecDepth 20000 in
theorem okX12_sides : xOkV mX12_sides 3 := ⟨⟨(xIn8 128 rfl rfl), (xIn1 16 rfl rfl), by decide, by decide, by decide, by decide +kernel⟩, (xIn8 126 rfl rfl), (xIn8 127 rfl rfl)⟩
set_option maxRecDepth 20000 in
theorem okX12_cycleOf : xOkV mX12_cycleOf 1 := ⟨⟨(xIn8 136 rfl rfl), (xIn1 16 rfl rfl), by decide, by decide, by decide, by decide +kernel⟩, (xIn8 135 rfl rfl), (xInP5 13 rfl)⟩
set_option maxRecDepth 20000 in
theorem okX12_cycle : xOkV mX12_cycle 1 := ⟨⟨(xIn8 132 rfl rfl), (xIn1 16 rfl rfl), by decide, by decide, by decide, by decide +kernel⟩, (xIn8 130 rfl rfl), (xIn8 131 rfl rfl)⟩
set_option maxRecDepth 20000 in
theorem okX12_cycles : xOkV mX12_cycles 1 := ⟨⟨(xIn8 140 rfl rfl), (xIn1 16 rfl rfl), by decide, by decide, by decide, by decide +kernel⟩, (xIn8 138 rfl rfl), (xIn8 139 rfl rfl)⟩
set_option maxRecDepth 20000 in
theorem okX12_laysTable : xOkV mX12_laysTable 0 := ⟨⟨(xIn8 148 rfl rfl), (xIn1 16 rfl rfl), by decide, by decide, by decide, by decide +kernel⟩, (xIn8 147 rfl rfl), (xInP5 14 rfl)⟩
set_option maxRecDepth 20000 in
theorem okX12_table : xOkV mX12_table 2 := ⟨⟨(xIn8 144 rfl rfl), (xIn1 16 rfl rfl), by decide, by decide, by decide, by decide +kernel⟩, (xIn8 142 rfl rfl), (xIn8 143 rfl rfl)⟩
set_option maxRecDepth 20000 in
theorem okX12_adds_ : xOkV mX12_adds_ 1 := ⟨⟨(xIn8 165 rfl rfl), (xIn1 16 rfl rfl), by decide, by decide, by decide, by decide +kernel⟩, (xIn8 164 rfl rfl), (xInP6 1 rfl)⟩
set_option maxRecDepth 20000 in
theorem okX12_laysMade : xOkV mX12_laysMade 1 := ⟨⟨(xIn8 157 rfl rfl), (xIn1 16 rfl rfl), by decide, by decide, by decide, by decide +kernel⟩, (xIn8 156 rfl rfl), (xInP5 15 rfl)⟩
set_option maxRecDepth 20000 in
theorem okX12_madeProduct : xOkV mX12_madeProduct 2 := ⟨⟨(xIn8 173 rfl rfl), (xIn1 16 rfl rfl), by decide, by decide, by decide, by decide +kernel⟩, (xIn8 172 rfl rfl), (xInP6 3 rfl)⟩
set_option maxRecDepth 20000 in
theorem okX12_areAssociative : xOkV mX12_areAssociative 0 := ⟨⟨(xIn8 169 rfl rfl), (xIn1 16 rfl rfl), by decide, by decide, by decide, by decide +kernel⟩, (xIn8 168 rfl rfl), (xInP6 2 rfl)⟩
set_option maxRecDepth 20000 in
theorem okX12_center : xOkV mX12_center 0 := ⟨⟨(xIn8 177 rfl rfl), (xIn1 16 rfl rfl), by decide, by decide, by decide, by decide +kernel⟩, (xIn8 176 rfl rfl), (xInP6 4 rfl)⟩
set_option maxRecDepth 20000 in
theorem okX12_squares : xOkV mX12_squares 0 := ⟨⟨(xIn8 181 rfl rfl), (xIn1 16 rfl rfl), by decide, by decide, by decide, by decide +kernel⟩, (xIn8 180 rfl rfl), (xInP6 5 rfl)⟩
set_option maxRecDepth 20000 in
theorem okX12_made : xOkV mX12_made 2 := ⟨⟨(xIn8 152 rfl rfl), (xIn1 16 rfl rfl), by decide, by decide, by decide, by decide +kernel⟩, (xIn8 150 rfl rfl), (xIn8 151 rfl rfl)⟩
set_option maxRecDepth 20000 in
theorem okX12_madeAt : xOkV mX12_madeAt 2 := ⟨⟨(xIn8 185 rfl rfl), (xIn1 16 rfl rfl), by decide, by decide, by decide, by decide +kernel⟩, (xIn8 183 rfl rfl), (xIn8 184 rfl rfl)⟩
set_option maxRecDepth 20000 in
theorem okX12_turnCycle : xOkV mX12_turnCycle 3 := ⟨⟨(xIn8 189 rfl rfl), (xIn1 16 rfl rfl), by decide, by decide, by decide, by decide +kernel⟩, (xIn8 187 rfl rfl), (xIn8 188 rfl rfl)⟩
set_option maxRecDepth 20000 in
theorem okX12_shared : xOkV mX12_shared 2 := ⟨⟨(xIn8 193 rfl rfl), (xIn1 16 rfl rfl), by decide, by decide, by decide, by decide +kernel⟩, (xIn8 191 rfl rfl), (xIn8 192 rfl rfl)⟩
set_option maxRecDepth 20000 in
theorem okX12_nucleus : xOkV mX12_nucleus 2 := ⟨⟨(xIn8 197 rfl rfl), (xIn1 16 rfl rfl), by decide, by decide, by decide, by decide +kernel⟩, (xIn8 195 rfl rfl), (xIn8 196 rfl rfl)⟩
set_option maxRecDepth 20000 in
theorem okX12_both : xOkV mX12_both 4 := ⟨⟨(xIn8 205 rfl rfl), (xIn1 16 rfl rfl), by decide, by decide, by decide, by decide +kernel⟩, (xIn8 204 rfl rfl), (xInP6 6 rfl)⟩
set_option maxRecDepth 20000 in
theorem okX12_laws : xOkV mX12_laws 3 := ⟨⟨(xIn8 201 rfl rfl), (xIn1 16 rfl rfl), by decide, by decide, by decide, by decide +kernel⟩, (xIn8 199 rfl rfl), (xIn8 200 rfl rfl)⟩
set_option maxRecDepth 20000 in
theorem okX12_keep : xOkV mX12_keep 0 := ⟨⟨(xIn8 209 rfl rfl), (xIn1 16 rfl rfl), by decide, by decide, by decide, by decide +kernel⟩, (xIn8 207 rfl rfl), (xIn8 208 rfl rfl)⟩
set_option maxRecDepth 20000 in
theorem okX12_restore : xOkV mX12_restore 0 := ⟨⟨(xIn8 213 rfl rfl), (xIn1 16 rfl rfl), by decide, by decide, by decide, by decide +kernel⟩, (xIn8 211 rfl rfl), (xIn8 212 rfl rfl)⟩
set_option maxRecDepth 20000 in
theorem okX12_wholes : xOkV mX12_wholes 0 := ⟨⟨(xIn8 221 rfl rfl), (xIn1 16 rfl rfl), by decide, by decide, by decide, by decide +kernel⟩, (xIn8 220 rfl rfl), (xInP6 7 rfl)⟩
set_option maxRecDepth 20000 in
theorem okX12_noughts : xOkV mX12_noughts 0 := ⟨⟨(xIn8 225 rfl rfl), (xIn1 16 rfl rfl), by decide, by decide, by decide, by decide +kernel⟩, (xIn8 224 rfl rfl), (xInP6 8 rfl)⟩
set_option maxRecDepth 20000 in
theorem okX12_count : xOkV mX12_count 1 := ⟨⟨(xIn8 217 rfl rfl), (xIn1 16 rfl rfl), by decide, by decide, by decide, by decide +kernel⟩, (xIn8 215 rfl rfl), (xIn8 216 rfl rfl)⟩
set_option maxRecDepth 20000 in
theorem okJ5_init_d00df : xOkI mJ5_init_d00df 1 := ⟨⟨(xIn2 65 rfl rfl), (xIn1 12 rfl rfl), by decide, by decide, by decide, by decide +kernel⟩, (xIn2 64 rfl rfl), rfl, rfl⟩
set_option maxRecDepth 20000 in
theorem okJ6_getChars_ba4f3 : xOkS mJ6_getChars_ba4f3 3 := ⟨⟨(xIn4 167 rfl rfl), (xIn1 25 rfl rfl), by decide, by decide, by decide, by decide +kernel⟩, (xIn4 166 rfl rfl)⟩
set_option maxRecDepth 20000 in
theorem okJ6_stringSize_0f7a4 : xOkS mJ6_stringSize_0f7a4 1 := ⟨⟨(xIn4 164 rfl rfl), (xIn1 25 rfl rfl), by decide, by decide, by decide, by decide +kernel⟩, (xIn4 163 rfl rfl)⟩
set_option maxRecDepth 20000 in
theorem okJ6_bitCount_0f7a4 : xOkS mJ6_bitCount_0f7a4 1 := ⟨⟨(xIn5 226 rfl rfl), (xIn1 25 rfl rfl), by decide, by decide, by decide, by decide +kernel⟩, (xIn5 225 rfl rfl)⟩
set_option maxRecDepth 20000 in
theorem okJ9_floorDiv_f86c9 : xOkS mJ9_floorDiv_f86c9 2 := ⟨⟨(xIn3 83 rfl rfl), (xIn1 20 rfl rfl), by decide, by decide, by decide, by decide +kernel⟩, (xIn3 82 rfl rfl)⟩
set_option maxRecDepth 20000 in
theorem okJ9_abs_0f7a4 : xOkS mJ9_abs_0f7a4 1 := ⟨⟨(xIn4 154 rfl rfl), (xIn1 20 rfl rfl), by decide, by decide, by decide, by decide +kernel⟩, (xIn4 153 rfl rfl)⟩
set_option maxRecDepth 20000 in
theorem okJ9_max_7cf53 : xOkS mJ9_max_7cf53 2 := ⟨⟨(xIn4 50 rfl rfl), (xIn1 20 rfl rfl), by decide, by decide, by decide, by decide +kernel⟩, (xIn4 49 rfl rfl)⟩
set_option maxRecDepth 20000 in
theorem okJ9_max_f86c9 : xOkS mJ9_max_f86c9 2 := ⟨⟨(xIn3 109 rfl rfl), (xIn1 20 rfl rfl), by decide, by decide, by decide, by decide +kernel⟩, (xIn3 108 rfl rfl)⟩
set_option maxRecDepth 20000 in
theorem okJ9_min_7cf53 : xOkS mJ9_min_7cf53 2 := ⟨⟨(xIn3 231 rfl rfl), (xIn1 20 rfl rfl), by decide, by decide, by decide, by decide +kernel⟩, (xIn3 230 rfl rfl)⟩
set_option maxRecDepth 20000 in
theorem okJ9_min_f86c9 : xOkS mJ9_min_f86c9 2 := ⟨⟨(xIn4 24 rfl rfl), (xIn1 20 rfl rfl), by decide, by decide, by decide, by decide +kernel⟩, (xIn4 23 rfl rfl)⟩
set_option maxRecDepth 20000 in
theorem okJ0_length_8abf5 : xOkV mJ0_length_8abf5 0 := ⟨⟨(xIn4 207 rfl rfl), (xIn1 14 rfl rfl), by decide, by decide, by decide, by decide +kernel⟩, (xIn4 205 rfl rfl), (xIn4 206 rfl rfl)⟩
set_option maxRecDepth 20000 in
theorem okJ0_getBytes_840e7 : xOkV mJ0_getBytes_840e7 3 := ⟨⟨(xIn4 225 rfl rfl), (xIn1 14 rfl rfl), by decide, by decide, by decide, by decide +kernel⟩, (xIn4 223 rfl rfl), (xIn4 224 rfl rfl)⟩
set_option maxRecDepth 20000 in
theorem okJ0_coder_7d493 : xOkV mJ0_coder_7d493 0 := ⟨⟨(xIn4 211 rfl rfl), (xIn1 14 rfl rfl), by decide, by decide, by decide, by decide +kernel⟩, (xIn4 209 rfl rfl), (xIn4 210 rfl rfl)⟩
set_option maxRecDepth 20000 in
theorem okJ0_checkIndex_df160 : xOkS mJ0_checkIndex_df160 2 := ⟨⟨(xIn4 141 rfl rfl), (xIn1 14 rfl rfl), by decide, by decide, by decide, by decide +kernel⟩, (xIn4 140 rfl rfl)⟩
set_option maxRecDepth 20000 in
theorem okJ0_checkBoundsOffCount_cabcc : xOkS mJ0_checkBoundsOffCount_cabcc 3 := ⟨⟨(xIn4 118 rfl rfl), (xIn1 14 rfl rfl), by decide, by decide, by decide, by decide +kernel⟩, (xIn4 117 rfl rfl)⟩
set_option maxRecDepth 20000 in
theorem okJ0_checkBoundsBeginEnd_23922 : xOkS mJ0_checkBoundsBeginEnd_23922 3 := ⟨⟨(xIn4 180 rfl rfl), (xIn1 14 rfl rfl), by decide, by decide, by decide, by decide +kernel⟩, (xIn4 179 rfl rfl)⟩
set_option maxRecDepth 20000 in
theorem okJ4_init_da8c8 : xOkI mJ4_init_da8c8 0 := ⟨⟨(xIn2 62 rfl rfl), (xIn1 13 rfl rfl), by decide, by decide, by decide, by decide +kernel⟩, (xIn2 61 rfl rfl), rfl, rfl⟩
set_option maxRecDepth 20000 in
theorem okJ4_append_15ec4 : xOkV mJ4_append_15ec4 1 := ⟨⟨(xIn4 193 rfl rfl), (xIn1 13 rfl rfl), by decide, by decide, by decide, by decide +kernel⟩, (xIn4 191 rfl rfl), (xIn4 192 rfl rfl)⟩
set_option maxRecDepth 20000 in
theorem okJ4_append_cf468 : xOkV mJ4_append_cf468 1 := ⟨⟨(xIn4 93 rfl rfl), (xIn1 13 rfl rfl), by decide, by decide, by decide, by decide +kernel⟩, (xIn4 91 rfl rfl), (xIn4 92 rfl rfl)⟩
set_option maxRecDepth 20000 in
theorem okJ4_append_bf812 : xOkV mJ4_append_bf812 1 := ⟨⟨(xIn4 158 rfl rfl), (xIn1 13 rfl rfl), by decide, by decide, by decide, by decide +kernel⟩, (xIn4 156 rfl rfl), (xIn4 157 rfl rfl)⟩
set_option maxRecDepth 20000 in
theorem okJ4_charAt_5068e : xOkV mJ4_charAt_5068e 1 := ⟨⟨(xIn4 231 rfl rfl), (xIn1 13 rfl rfl), by decide, by decide, by decide, by decide +kernel⟩, (xIn4 229 rfl rfl), (xIn4 230 rfl rfl)⟩
set_option maxRecDepth 20000 in
theorem okJ4_setLength_d00df : xOkV mJ4_setLength_d00df 1 := ⟨⟨(xIn4 33 rfl rfl), (xIn1 13 rfl rfl), by decide, by decide, by decide, by decide +kernel⟩, (xIn4 31 rfl rfl), (xIn4 32 rfl rfl)⟩
set_option maxRecDepth 20000 in
theorem okJ4_length_8abf5 : xOkV mJ4_length_8abf5 0 := ⟨⟨(xIn4 148 rfl rfl), (xIn1 13 rfl rfl), by decide, by decide, by decide, by decide +kernel⟩, (xIn4 146 rfl rfl), (xIn4 147 rfl rfl)⟩
set_option maxRecDepth 20000 in
theorem okJ1_canEncode_fc78d : xOkS mJ1_canEncode_fc78d 1 := ⟨⟨(xIn4 99 rfl rfl), (xIn1 22 rfl rfl), by decide, by decide, by decide, by decide +kernel⟩, (xIn4 98 rfl rfl)⟩
set_option maxRecDepth 20000 in
theorem okJ1_fillNull_b72d1 : xOkS mJ1_fillNull_b72d1 3 := ⟨⟨(xIn4 75 rfl rfl), (xIn1 22 rfl rfl), by decide, by decide, by decide, by decide +kernel⟩, (xIn4 74 rfl rfl)⟩
set_option maxRecDepth 20000 in
theorem okJ1_inflate_0e8fd : xOkS mJ1_inflate_0e8fd 5 := ⟨⟨(xIn4 106 rfl rfl), (xIn1 22 rfl rfl), by decide, by decide, by decide, by decide +kernel⟩, (xIn4 105 rfl rfl)⟩
set_option maxRecDepth 20000 in
theorem okJ2_newBytesFor_77867 : xOkS mJ2_newBytesFor_77867 1 := ⟨⟨(xIn2 71 rfl rfl), (xIn1 15 rfl rfl), by decide, by decide, by decide, by decide +kernel⟩, (xIn2 70 rfl rfl)⟩
set_option maxRecDepth 20000 in
theorem okJ2_newBytesLength_0f7a4 : xOkS mJ2_newBytesLength_0f7a4 1 := ⟨⟨(xIn2 74 rfl rfl), (xIn1 15 rfl rfl), by decide, by decide, by decide, by decide +kernel⟩, (xIn2 73 rfl rfl)⟩
set_option maxRecDepth 20000 in
theorem okJ2_putChar_b72d1 : xOkS mJ2_putChar_b72d1 3 := ⟨⟨(xIn4 126 rfl rfl), (xIn1 15 rfl rfl), by decide, by decide, by decide, by decide +kernel⟩, (xIn4 125 rfl rfl)⟩
set_option maxRecDepth 20000 in
theorem okJ2_getChar_3b067 : xOkS mJ2_getChar_3b067 2 := ⟨⟨(xIn4 239 rfl rfl), (xIn1 15 rfl rfl), by decide, by decide, by decide, by decide +kernel⟩, (xIn4 238 rfl rfl)⟩
set_option maxRecDepth 20000 in
theorem okJ2_length_9d52b : xOkS mJ2_length_9d52b 1 := ⟨⟨(xIn4 115 rfl rfl), (xIn1 15 rfl rfl), by decide, by decide, by decide, by decide +kernel⟩, (xIn4 114 rfl rfl)⟩
set_option maxRecDepth 20000 in
theorem okJ2_fillNull_b72d1 : xOkS mJ2_fillNull_b72d1 3 := ⟨⟨(xIn4 84 rfl rfl), (xIn1 15 rfl rfl), by decide, by decide, by decide, by decide +kernel⟩, (xIn4 83 rfl rfl)⟩
set_option maxRecDepth 20000 in
theorem okJ2_putCharSB_b72d1 : xOkS mJ2_putCharSB_b72d1 3 := ⟨⟨(xIn4 135 rfl rfl), (xIn1 15 rfl rfl), by decide, by decide, by decide, by decide +kernel⟩, (xIn4 134 rfl rfl)⟩
set_option maxRecDepth 20000 in
theorem okJ2_getChars_46870 : xOkS mJ2_getChars_46870 4 := ⟨⟨(xIn4 174 rfl rfl), (xIn1 15 rfl rfl), by decide, by decide, by decide, by decide +kernel⟩, (xIn4 173 rfl rfl)⟩
set_option maxRecDepth 20000 in
theorem okJ2_putCharsAt_cd4e5 : xOkS mJ2_putCharsAt_cd4e5 6 := ⟨⟨(xIn4 203 rfl rfl), (xIn1 15 rfl rfl), by decide, by decide, by decide, by decide +kernel⟩, (xIn4 202 rfl rfl)⟩
set_option maxRecDepth 20000 in
theorem okJ2_inflate_0e8fd : xOkS mJ2_inflate_0e8fd 5 := ⟨⟨(xIn4 109 rfl rfl), (xIn1 15 rfl rfl), by decide, by decide, by decide, by decide +kernel⟩, (xIn4 108 rfl rfl)⟩
set_option maxRecDepth 20000 in
theorem okJ2_getChars_ba4f3 : xOkS mJ2_getChars_ba4f3 3 := ⟨⟨(xIn4 186 rfl rfl), (xIn1 15 rfl rfl), by decide, by decide, by decide, by decide +kernel⟩, (xIn4 185 rfl rfl)⟩
set_option maxRecDepth 20000 in
theorem okJ2_checkIndex_2214a : xOkS mJ2_checkIndex_2214a 2 := ⟨⟨(xIn4 138 rfl rfl), (xIn1 15 rfl rfl), by decide, by decide, by decide, by decide +kernel⟩, (xIn4 137 rfl rfl)⟩
set_option maxRecDepth 20000 in
theorem okJ2_checkBoundsBeginEnd_d044e : xOkS mJ2_checkBoundsBeginEnd_d044e 3 := ⟨⟨(xIn4 177 rfl rfl), (xIn1 15 rfl rfl), by decide, by decide, by decide, by decide +kernel⟩, (xIn4 176 rfl rfl)⟩
set_option maxRecDepth 20000 in
theorem okJ2_checkBoundsOffCount_d044e : xOkS mJ2_checkBoundsOffCount_d044e 3 := ⟨⟨(xIn4 112 rfl rfl), (xIn1 15 rfl rfl), by decide, by decide, by decide, by decide +kernel⟩, (xIn4 111 rfl rfl)⟩
set_option maxRecDepth 20000 in
theorem okJ7_rangeCheck_23922 : xOkS mJ7_rangeCheck_23922 3 := ⟨⟨(xIn4 81 rfl rfl), (xIn1 18 rfl rfl), by decide, by decide, by decide, by decide +kernel⟩, (xIn4 80 rfl rfl)⟩
set_option maxRecDepth 20000 in
theorem okJ7_fill_53178 : xOkS mJ7_fill_53178 2 := ⟨⟨(xIn2 154 rfl rfl), (xIn1 18 rfl rfl), by decide, by decide, by decide, by decide +kernel⟩, (xIn2 153 rfl rfl)⟩
set_option maxRecDepth 20000 in
theorem okJ7_fill_eb02e : xOkS mJ7_fill_eb02e 4 := ⟨⟨(xIn4 78 rfl rfl), (xIn1 18 rfl rfl), by decide, by decide, by decide, by decide +kernel⟩, (xIn4 77 rfl rfl)⟩
set_option maxRecDepth 20000 in
theorem okJ7_copyOf_9075b : xOkS mJ7_copyOf_9075b 2 := ⟨⟨(xIn4 58 rfl rfl), (xIn1 18 rfl rfl), by decide, by decide, by decide, by decide +kernel⟩, (xIn4 57 rfl rfl)⟩
set_option maxRecDepth 20000 in
theorem okJ8_newLength_cabcc : xOkS mJ8_newLength_cabcc 3 := ⟨⟨(xIn4 47 rfl rfl), (xIn1 21 rfl rfl), by decide, by decide, by decide, by decide +kernel⟩, (xIn4 46 rfl rfl)⟩
set_option maxRecDepth 20000 in
theorem okJ8_hugeLength_7cf53 : xOkS mJ8_hugeLength_7cf53 2 := ⟨⟨(xIn4 54 rfl rfl), (xIn1 21 rfl rfl), by decide, by decide, by decide, by decide +kernel⟩, (xIn4 53 rfl rfl)⟩
set_option maxRecDepth 20000 in
theorem okJ3_checkIndex_8e157 : xOkS mJ3_checkIndex_8e157 3 := ⟨⟨(xIn4 144 rfl rfl), (xIn1 23 rfl rfl), by decide, by decide, by decide, by decide +kernel⟩, (xIn4 143 rfl rfl)⟩
set_option maxRecDepth 20000 in
theorem okJ3_checkFromToIndex_8c36e : xOkS mJ3_checkFromToIndex_8c36e 4 := ⟨⟨(xIn4 183 rfl rfl), (xIn1 23 rfl rfl), by decide, by decide, by decide, by decide +kernel⟩, (xIn4 182 rfl rfl)⟩
set_option maxRecDepth 20000 in
theorem okJ3_checkFromIndexSize_8c36e : xOkS mJ3_checkFromIndexSize_8c36e 4 := ⟨⟨(xIn4 123 rfl rfl), (xIn1 23 rfl rfl), by decide, by decide, by decide, by decide +kernel⟩, (xIn4 122 rfl rfl)⟩
