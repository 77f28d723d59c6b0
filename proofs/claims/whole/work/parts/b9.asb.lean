set_option maxRecDepth 20000
/-! rows of the builder's superclass, made by genb9.py -/
theorem obJ5_append_3fe6f : xOkB mJ5_append_3fe6f 1 := ⟨xIn4 96 rfl rfl, xIn1 12 rfl rfl, by decide, by decide, by decide, by decide +kernel⟩
theorem oiJ5_append_3fe6f : Cond.instanceMethod yJ5_append_3fe6f ∈ xTT := xIn4 95 rfl rfl
theorem osJ5_append_3fe6f : Cond.sameMethod yJ5_append_3fe6f.cls yJ5_append_3fe6f.cls yJ5_append_3fe6f.name yJ5_append_3fe6f.desc ∈ xTT := xIn8 229 rfl rfl
theorem gJ4_50 : Cond.methodLink RJ4 50 yJ5_append_3fe6f ∈ xTT := xIn4 94 rfl rfl
theorem obJ5_append_c97b9 : xOkB mJ5_append_c97b9 1 := ⟨xIn4 161 rfl rfl, xIn1 12 rfl rfl, by decide, by decide, by decide, by decide +kernel⟩
theorem oiJ5_append_c97b9 : Cond.instanceMethod yJ5_append_c97b9 ∈ xTT := xIn4 160 rfl rfl
theorem osJ5_append_c97b9 : Cond.sameMethod yJ5_append_c97b9.cls yJ5_append_c97b9.cls yJ5_append_c97b9.name yJ5_append_c97b9.desc ∈ xTT := xIn8 232 rfl rfl
theorem gJ4_53 : Cond.methodLink RJ4 53 yJ5_append_c97b9 ∈ xTT := xIn4 159 rfl rfl
theorem obJ5_append_cf1ce : xOkB mJ5_append_cf1ce 1 := ⟨xIn4 196 rfl rfl, xIn1 12 rfl rfl, by decide, by decide, by decide, by decide +kernel⟩
theorem oiJ5_append_cf1ce : Cond.instanceMethod yJ5_append_cf1ce ∈ xTT := xIn4 195 rfl rfl
theorem osJ5_append_cf1ce : Cond.sameMethod yJ5_append_cf1ce.cls yJ5_append_cf1ce.cls yJ5_append_cf1ce.name yJ5_append_cf1ce.desc ∈ xTT := xIn8 233 rfl rfl
theorem gJ4_29 : Cond.methodLink RJ4 29 yJ5_append_cf1ce ∈ xTT := xIn4 194 rfl rfl
theorem obJ5_charAt_5068e : xOkB mJ5_charAt_5068e 1 := ⟨xIn4 234 rfl rfl, xIn1 12 rfl rfl, by decide, by decide, by decide, by decide +kernel⟩
theorem oiJ5_charAt_5068e : Cond.instanceMethod yJ5_charAt_5068e ∈ xTT := xIn4 233 rfl rfl
theorem osJ5_charAt_5068e : Cond.sameMethod yJ5_charAt_5068e.cls yJ5_charAt_5068e.cls yJ5_charAt_5068e.name yJ5_charAt_5068e.desc ∈ xTT := xIn8 237 rfl rfl
theorem gJ4_329 : Cond.methodLink RJ4 329 yJ5_charAt_5068e ∈ xTT := xIn4 232 rfl rfl
theorem obJ5_ensureCapacityInternal_d00df : xOkB mJ5_ensureCapacityInternal_d00df 1 := ⟨xIn4 40 rfl rfl, xIn1 12 rfl rfl, by decide, by decide, by decide, by decide +kernel⟩
theorem oiJ5_ensureCapacityInternal_d00df : Cond.instanceMethod yJ5_ensureCapacityInternal_d00df ∈ xTT := xIn4 39 rfl rfl
theorem osJ5_ensureCapacityInternal_d00df : Cond.sameMethod yJ5_ensureCapacityInternal_d00df.cls yJ5_ensureCapacityInternal_d00df.cls yJ5_ensureCapacityInternal_d00df.name yJ5_ensureCapacityInternal_d00df.desc ∈ xTT := xIn8 227 rfl rfl
theorem opJ5_ensureCapacityInternal_d00df : Cond.privateMethod yJ5_ensureCapacityInternal_d00df ∈ xNW := List.mem_filter.mpr ⟨xT4 (List.mem_of_getElem? (i := 38) rfl), rfl⟩
theorem gJ5_100 : Cond.methodLink RJ5 100 yJ5_ensureCapacityInternal_d00df ∈ xTT := xIn4 37 rfl rfl
theorem obJ5_inflateIfNeededFor_a7421 : xOkB mJ5_inflateIfNeededFor_a7421 1 := ⟨xIn4 220 rfl rfl, xIn1 12 rfl rfl, by decide, by decide, by decide, by decide +kernel⟩
theorem oiJ5_inflateIfNeededFor_a7421 : Cond.instanceMethod yJ5_inflateIfNeededFor_a7421 ∈ xTT := xIn4 219 rfl rfl
theorem osJ5_inflateIfNeededFor_a7421 : Cond.sameMethod yJ5_inflateIfNeededFor_a7421.cls yJ5_inflateIfNeededFor_a7421.cls yJ5_inflateIfNeededFor_a7421.name yJ5_inflateIfNeededFor_a7421.desc ∈ xTT := xIn8 236 rfl rfl
theorem opJ5_inflateIfNeededFor_a7421 : Cond.privateMethod yJ5_inflateIfNeededFor_a7421 ∈ xNW := List.mem_filter.mpr ⟨xT4 (List.mem_of_getElem? (i := 218) rfl), rfl⟩
theorem gJ5_397 : Cond.methodLink RJ5 397 yJ5_inflateIfNeededFor_a7421 ∈ xTT := xIn4 217 rfl rfl
theorem obJ5_isLatin1_aae02 : xOkB mJ5_isLatin1_aae02 0 := ⟨xIn4 72 rfl rfl, xIn1 12 rfl rfl, by decide, by decide, by decide, by decide +kernel⟩
theorem oiJ5_isLatin1_aae02 : Cond.instanceMethod yJ5_isLatin1_aae02 ∈ xTT := xIn4 69 rfl rfl
theorem osJ5_isLatin1_aae02 : Cond.sameMethod yJ5_isLatin1_aae02.cls yJ5_isLatin1_aae02.cls yJ5_isLatin1_aae02.name yJ5_isLatin1_aae02.desc ∈ xTT := xIn4 70 rfl rfl
theorem gJ5_83 : Cond.methodLink RJ5 83 yJ5_isLatin1_aae02 ∈ xTT := xIn4 68 rfl rfl
theorem obJ5_length_8abf5 : xOkB mJ5_length_8abf5 0 := ⟨xIn4 151 rfl rfl, xIn1 12 rfl rfl, by decide, by decide, by decide, by decide +kernel⟩
theorem oiJ5_length_8abf5 : Cond.instanceMethod yJ5_length_8abf5 ∈ xTT := xIn4 150 rfl rfl
theorem osJ5_length_8abf5 : Cond.sameMethod yJ5_length_8abf5.cls yJ5_length_8abf5.cls yJ5_length_8abf5.name yJ5_length_8abf5.desc ∈ xTT := xIn8 231 rfl rfl
theorem gJ4_343 : Cond.methodLink RJ4 343 yJ5_length_8abf5 ∈ xTT := xIn4 149 rfl rfl
theorem obJ5_newCapacity_0f7a4 : xOkB mJ5_newCapacity_0f7a4 1 := ⟨xIn4 44 rfl rfl, xIn1 12 rfl rfl, by decide, by decide, by decide, by decide +kernel⟩
theorem oiJ5_newCapacity_0f7a4 : Cond.instanceMethod yJ5_newCapacity_0f7a4 ∈ xTT := xIn4 43 rfl rfl
theorem osJ5_newCapacity_0f7a4 : Cond.sameMethod yJ5_newCapacity_0f7a4.cls yJ5_newCapacity_0f7a4.cls yJ5_newCapacity_0f7a4.name yJ5_newCapacity_0f7a4.desc ∈ xTT := xIn8 228 rfl rfl
theorem opJ5_newCapacity_0f7a4 : Cond.privateMethod yJ5_newCapacity_0f7a4 ∈ xNW := List.mem_filter.mpr ⟨xT4 (List.mem_of_getElem? (i := 42) rfl), rfl⟩
theorem gJ5_104 : Cond.methodLink RJ5 104 yJ5_newCapacity_0f7a4 ∈ xTT := xIn4 41 rfl rfl
theorem obJ5_putStringAt_47b60 : xOkB mJ5_putStringAt_47b60 2 := ⟨xIn4 216 rfl rfl, xIn1 12 rfl rfl, by decide, by decide, by decide, by decide +kernel⟩
theorem oiJ5_putStringAt_47b60 : Cond.instanceMethod yJ5_putStringAt_47b60 ∈ xTT := xIn4 215 rfl rfl
theorem osJ5_putStringAt_47b60 : Cond.sameMethod yJ5_putStringAt_47b60.cls yJ5_putStringAt_47b60.cls yJ5_putStringAt_47b60.name yJ5_putStringAt_47b60.desc ∈ xTT := xIn8 235 rfl rfl
theorem opJ5_putStringAt_47b60 : Cond.privateMethod yJ5_putStringAt_47b60 ∈ xNW := List.mem_filter.mpr ⟨xT4 (List.mem_of_getElem? (i := 214) rfl), rfl⟩
theorem gJ5_208 : Cond.methodLink RJ5 208 yJ5_putStringAt_47b60 ∈ xTT := xIn4 213 rfl rfl
theorem obJ5_setLength_d00df : xOkB mJ5_setLength_d00df 1 := ⟨xIn4 36 rfl rfl, xIn1 12 rfl rfl, by decide, by decide, by decide, by decide +kernel⟩
theorem oiJ5_setLength_d00df : Cond.instanceMethod yJ5_setLength_d00df ∈ xTT := xIn4 35 rfl rfl
theorem osJ5_setLength_d00df : Cond.sameMethod yJ5_setLength_d00df.cls yJ5_setLength_d00df.cls yJ5_setLength_d00df.name yJ5_setLength_d00df.desc ∈ xTT := xIn8 226 rfl rfl
theorem gJ4_333 : Cond.methodLink RJ4 333 yJ5_setLength_d00df ∈ xTT := xIn4 34 rfl rfl
theorem gJ5_32 : Cond.methodLink RJ5 32 yJ0_length_8abf5 ∈ xTT := xIn4 204 rfl rfl
theorem gJ0_335 : Cond.methodLink RJ0 335 yJ0_coder_7d493 ∈ xTT := xIn4 208 rfl rfl
theorem gJ5_40 : Cond.methodLink RJ5 40 yJ0_coder_7d493 ∈ xTT := xIn4 221 rfl rfl
theorem gJ5_399 : Cond.methodLink RJ5 399 yJ0_getBytes_840e7 ∈ xTT := xIn4 222 rfl rfl
theorem sel_lat : Cond.selects RJ4 yJ5_isLatin1_aae02 yJ5_isLatin1_aae02 ∈ xTT := xIn4 71 rfl rfl
theorem sup_sb : Cond.superclass RJ4 RJ5 ∈ xTT := xIn2 88 rfl rfl

