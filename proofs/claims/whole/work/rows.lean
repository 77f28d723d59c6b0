section
-- ===== PART A: goes FIRST, ahead of the names: the tables' words, and 'selects' of the private methods out of them =====
/-- a private method of a class that the tables say can be made, by its rows of tables_1 -/
def lw_okq (q : MethodName × Nat) : Prop := (q.1.cls ≠ "java/lang/invoke/MethodHandle" ∧ q.1.cls ≠ "java/lang/invoke/VarHandle") ∧ Cond.instantiable q.1.cls q.2 ∈ tables_1 ∧ Cond.privateMethod q.1 ∈ tables_1 ∧ Cond.instanceMethod q.1 ∈ tables_1
theorem lw_p0 : lw_okq (⟨"EightParts$Lists", "fill", "(I)V"⟩, 5) := ⟨⟨by decide +kernel, by decide +kernel⟩, List.mem_of_getElem? (i := 79) (by decide +kernel), List.mem_of_getElem? (i := 411) (by decide +kernel), List.mem_of_getElem? (i := 412) (by decide +kernel)⟩
theorem lw_p1 : lw_okq (⟨"EightParts$Lists", "sortWords", "()V"⟩, 5) := ⟨⟨by decide +kernel, by decide +kernel⟩, List.mem_of_getElem? (i := 79) (by decide +kernel), List.mem_of_getElem? (i := 417) (by decide +kernel), List.mem_of_getElem? (i := 418) (by decide +kernel)⟩
theorem lw_p2 : lw_okq (⟨"EightParts$Lists", "grow", "(IIIII)V"⟩, 5) := ⟨⟨by decide +kernel, by decide +kernel⟩, List.mem_of_getElem? (i := 79) (by decide +kernel), List.mem_of_getElem? (i := 430) (by decide +kernel), List.mem_of_getElem? (i := 431) (by decide +kernel)⟩
theorem lw_p3 : lw_okq (⟨"EightParts$Lattice", "findNear", "(IIJJ)V"⟩, 4) := ⟨⟨by decide +kernel, by decide +kernel⟩, List.mem_of_getElem? (i := 55) (by decide +kernel), List.mem_of_getElem? (i := 557) (by decide +kernel), List.mem_of_getElem? (i := 558) (by decide +kernel)⟩
theorem lw_p4 : lw_okq (⟨"EightParts$Lattice", "bestWord", "()I"⟩, 4) := ⟨⟨by decide +kernel, by decide +kernel⟩, List.mem_of_getElem? (i := 55) (by decide +kernel), List.mem_of_getElem? (i := 565) (by decide +kernel), List.mem_of_getElem? (i := 566) (by decide +kernel)⟩
theorem lw_p5 : lw_okq (⟨"EightParts$Lattice", "missOf", "(I)J"⟩, 4) := ⟨⟨by decide +kernel, by decide +kernel⟩, List.mem_of_getElem? (i := 55) (by decide +kernel), List.mem_of_getElem? (i := 571) (by decide +kernel), List.mem_of_getElem? (i := 572) (by decide +kernel)⟩
theorem lw_p6 : lw_okq (⟨"EightParts$Lattice", "isListedAhead", "(II)Z"⟩, 4) := ⟨⟨by decide +kernel, by decide +kernel⟩, List.mem_of_getElem? (i := 55) (by decide +kernel), List.mem_of_getElem? (i := 576) (by decide +kernel), List.mem_of_getElem? (i := 577) (by decide +kernel)⟩
theorem lw_p7 : lw_okq (⟨"EightParts$Divider", "noteShare", "()V"⟩, 10) := ⟨⟨by decide +kernel, by decide +kernel⟩, List.mem_of_getElem? (i := 139) (by decide +kernel), List.mem_of_getElem? (i := 583) (by decide +kernel), List.mem_of_getElem? (i := 584) (by decide +kernel)⟩
theorem lw_p8 : lw_okq (⟨"EightParts$Ways", "fillStretch", "(II)V"⟩, 3) := ⟨⟨by decide +kernel, by decide +kernel⟩, List.mem_of_getElem? (i := 214) (by decide +kernel), List.mem_of_getElem? (i := 640) (by decide +kernel), List.mem_of_getElem? (i := 641) (by decide +kernel)⟩
theorem lw_p9 : lw_okq (⟨"EightParts$Ways", "join", "(III)V"⟩, 3) := ⟨⟨by decide +kernel, by decide +kernel⟩, List.mem_of_getElem? (i := 214) (by decide +kernel), List.mem_of_getElem? (i := 649) (by decide +kernel), List.mem_of_getElem? (i := 650) (by decide +kernel)⟩
theorem lw_p10 : lw_okq (⟨"EightParts$Reader", "readSum", "(I)V"⟩, 9) := ⟨⟨by decide +kernel, by decide +kernel⟩, List.mem_of_getElem? (i := 247) (by decide +kernel), List.mem_of_getElem? (i := 682) (by decide +kernel), List.mem_of_getElem? (i := 683) (by decide +kernel)⟩
theorem lw_p11 : lw_okq (⟨"EightParts$Reader", "readTerm", "(I)V"⟩, 9) := ⟨⟨by decide +kernel, by decide +kernel⟩, List.mem_of_getElem? (i := 247) (by decide +kernel), List.mem_of_getElem? (i := 686) (by decide +kernel), List.mem_of_getElem? (i := 687) (by decide +kernel)⟩
theorem lw_p12 : lw_okq (⟨"EightParts$Reader", "readFactor", "(I)V"⟩, 9) := ⟨⟨by decide +kernel, by decide +kernel⟩, List.mem_of_getElem? (i := 247) (by decide +kernel), List.mem_of_getElem? (i := 690) (by decide +kernel), List.mem_of_getElem? (i := 691) (by decide +kernel)⟩
theorem lw_p13 : lw_okq (⟨"EightParts$Reader", "ahead", "()I"⟩, 9) := ⟨⟨by decide +kernel, by decide +kernel⟩, List.mem_of_getElem? (i := 247) (by decide +kernel), List.mem_of_getElem? (i := 694) (by decide +kernel), List.mem_of_getElem? (i := 695) (by decide +kernel)⟩
theorem lw_p14 : lw_okq (⟨"EightParts$Reader", "readInt", "(I)V"⟩, 9) := ⟨⟨by decide +kernel, by decide +kernel⟩, List.mem_of_getElem? (i := 247) (by decide +kernel), List.mem_of_getElem? (i := 706) (by decide +kernel), List.mem_of_getElem? (i := 707) (by decide +kernel)⟩
theorem lw_p15 : lw_okq (⟨"EightParts$Reader", "readNested", "(II)V"⟩, 9) := ⟨⟨by decide +kernel, by decide +kernel⟩, List.mem_of_getElem? (i := 247) (by decide +kernel), List.mem_of_getElem? (i := 714) (by decide +kernel), List.mem_of_getElem? (i := 715) (by decide +kernel)⟩
def lw_privs_1 : List (MethodName × Nat) := [(⟨"EightParts$Lists", "fill", "(I)V"⟩, 5), (⟨"EightParts$Lists", "sortWords", "()V"⟩, 5), (⟨"EightParts$Lists", "grow", "(IIIII)V"⟩, 5), (⟨"EightParts$Lattice", "findNear", "(IIJJ)V"⟩, 4), (⟨"EightParts$Lattice", "bestWord", "()I"⟩, 4), (⟨"EightParts$Lattice", "missOf", "(I)J"⟩, 4), (⟨"EightParts$Lattice", "isListedAhead", "(II)Z"⟩, 4), (⟨"EightParts$Divider", "noteShare", "()V"⟩, 10), (⟨"EightParts$Ways", "fillStretch", "(II)V"⟩, 3), (⟨"EightParts$Ways", "join", "(III)V"⟩, 3), (⟨"EightParts$Reader", "readSum", "(I)V"⟩, 9), (⟨"EightParts$Reader", "readTerm", "(I)V"⟩, 9), (⟨"EightParts$Reader", "readFactor", "(I)V"⟩, 9), (⟨"EightParts$Reader", "ahead", "()I"⟩, 9), (⟨"EightParts$Reader", "readInt", "(I)V"⟩, 9), (⟨"EightParts$Reader", "readNested", "(II)V"⟩, 9)]
theorem lw_r1 : ∀ q ∈ lw_privs_1, lw_okq q := List.forall_mem_cons.mpr ⟨lw_p0, List.forall_mem_cons.mpr ⟨lw_p1, List.forall_mem_cons.mpr ⟨lw_p2, List.forall_mem_cons.mpr ⟨lw_p3, List.forall_mem_cons.mpr ⟨lw_p4, List.forall_mem_cons.mpr ⟨lw_p5, List.forall_mem_cons.mpr ⟨lw_p6, List.forall_mem_cons.mpr ⟨lw_p7, List.forall_mem_cons.mpr ⟨lw_p8, List.forall_mem_cons.mpr ⟨lw_p9, List.forall_mem_cons.mpr ⟨lw_p10, List.forall_mem_cons.mpr ⟨lw_p11, List.forall_mem_cons.mpr ⟨lw_p12, List.forall_mem_cons.mpr ⟨lw_p13, List.forall_mem_cons.mpr ⟨lw_p14, List.forall_mem_cons.mpr ⟨lw_p15, fun _ h => absurd h List.not_mem_nil⟩⟩⟩⟩⟩⟩⟩⟩⟩⟩⟩⟩⟩⟩⟩⟩
theorem lw_p16 : lw_okq (⟨"EightParts$Reader", "note", "(Z)V"⟩, 9) := ⟨⟨by decide +kernel, by decide +kernel⟩, List.mem_of_getElem? (i := 247) (by decide +kernel), List.mem_of_getElem? (i := 720) (by decide +kernel), List.mem_of_getElem? (i := 721) (by decide +kernel)⟩
theorem lw_p17 : lw_okq (⟨"EightParts", "spellPart", "(II)V"⟩, 16) := ⟨⟨by decide +kernel, by decide +kernel⟩, List.mem_of_getElem? (i := 27) (by decide +kernel), List.mem_of_getElem? (i := 807) (by decide +kernel), List.mem_of_getElem? (i := 808) (by decide +kernel)⟩
theorem lw_p18 : lw_okq (⟨"EightParts", "isDivisorAt", "(IIZI)Z"⟩, 16) := ⟨⟨by decide +kernel, by decide +kernel⟩, List.mem_of_getElem? (i := 27) (by decide +kernel), List.mem_of_getElem? (i := 1030) (by decide +kernel), List.mem_of_getElem? (i := 1031) (by decide +kernel)⟩
theorem lw_p19 : lw_okq (⟨"EightParts", "areAlike", "([I[II)Z"⟩, 16) := ⟨⟨by decide +kernel, by decide +kernel⟩, List.mem_of_getElem? (i := 27) (by decide +kernel), List.mem_of_getElem? (i := 1060) (by decide +kernel), List.mem_of_getElem? (i := 1061) (by decide +kernel)⟩
theorem lw_p20 : lw_okq (⟨"EightParts", "doCommute", "([I[I)Z"⟩, 16) := ⟨⟨by decide +kernel, by decide +kernel⟩, List.mem_of_getElem? (i := 27) (by decide +kernel), List.mem_of_getElem? (i := 1073) (by decide +kernel), List.mem_of_getElem? (i := 1074) (by decide +kernel)⟩
theorem lw_p21 : lw_okq (⟨"EightParts$Units", "forgetMembers", "()V"⟩, 9) := ⟨⟨by decide +kernel, by decide +kernel⟩, List.mem_of_getElem? (i := 103) (by decide +kernel), List.mem_of_getElem? (i := 1101) (by decide +kernel), List.mem_of_getElem? (i := 1102) (by decide +kernel)⟩
theorem lw_p22 : lw_okq (⟨"EightParts$Units", "admit", "(I)V"⟩, 9) := ⟨⟨by decide +kernel, by decide +kernel⟩, List.mem_of_getElem? (i := 103) (by decide +kernel), List.mem_of_getElem? (i := 1108) (by decide +kernel), List.mem_of_getElem? (i := 1109) (by decide +kernel)⟩
theorem lw_p23 : lw_okq (⟨"EightParts$Units", "close", "()V"⟩, 9) := ⟨⟨by decide +kernel, by decide +kernel⟩, List.mem_of_getElem? (i := 103) (by decide +kernel), List.mem_of_getElem? (i := 1112) (by decide +kernel), List.mem_of_getElem? (i := 1113) (by decide +kernel)⟩
theorem lw_p24 : lw_okq (⟨"EightParts$Units", "multiplyNegative", "(II)I"⟩, 9) := ⟨⟨by decide +kernel, by decide +kernel⟩, List.mem_of_getElem? (i := 103) (by decide +kernel), List.mem_of_getElem? (i := 1122) (by decide +kernel), List.mem_of_getElem? (i := 1123) (by decide +kernel)⟩
theorem lw_p25 : lw_okq (⟨"EightParts$Units", "makeRoom", "()V"⟩, 9) := ⟨⟨by decide +kernel, by decide +kernel⟩, List.mem_of_getElem? (i := 103) (by decide +kernel), List.mem_of_getElem? (i := 1126) (by decide +kernel), List.mem_of_getElem? (i := 1127) (by decide +kernel)⟩
theorem lw_p26 : lw_okq (⟨"EightParts$Units", "isReal", "(I)Z"⟩, 9) := ⟨⟨by decide +kernel, by decide +kernel⟩, List.mem_of_getElem? (i := 103) (by decide +kernel), List.mem_of_getElem? (i := 1141) (by decide +kernel), List.mem_of_getElem? (i := 1142) (by decide +kernel)⟩
theorem lw_p27 : lw_okq (⟨"EightParts$Units", "associatesWithAll", "(I)Z"⟩, 9) := ⟨⟨by decide +kernel, by decide +kernel⟩, List.mem_of_getElem? (i := 103) (by decide +kernel), List.mem_of_getElem? (i := 1145) (by decide +kernel), List.mem_of_getElem? (i := 1146) (by decide +kernel)⟩
theorem lw_p28 : lw_okq (⟨"EightParts$Units", "commutesWithAll", "(I)Z"⟩, 9) := ⟨⟨by decide +kernel, by decide +kernel⟩, List.mem_of_getElem? (i := 103) (by decide +kernel), List.mem_of_getElem? (i := 1153) (by decide +kernel), List.mem_of_getElem? (i := 1154) (by decide +kernel)⟩
theorem lw_p29 : lw_okq (⟨"EightParts", "doAssociate", "([I[I[I)Z"⟩, 16) := ⟨⟨by decide +kernel, by decide +kernel⟩, List.mem_of_getElem? (i := 27) (by decide +kernel), List.mem_of_getElem? (i := 1203) (by decide +kernel), List.mem_of_getElem? (i := 1204) (by decide +kernel)⟩
theorem lw_p30 : lw_okq (⟨"EightParts$Laws", "multiplyPairs", "([I[I[I)Z"⟩, 9) := ⟨⟨by decide +kernel, by decide +kernel⟩, List.mem_of_getElem? (i := 180) (by decide +kernel), List.mem_of_getElem? (i := 1215) (by decide +kernel), List.mem_of_getElem? (i := 1216) (by decide +kernel)⟩
theorem lw_p31 : lw_okq (⟨"EightParts$Laws", "layBothSides", "(I[I[I[I)Z"⟩, 9) := ⟨⟨by decide +kernel, by decide +kernel⟩, List.mem_of_getElem? (i := 180) (by decide +kernel), List.mem_of_getElem? (i := 1220) (by decide +kernel), List.mem_of_getElem? (i := 1221) (by decide +kernel)⟩
def lw_privs_2 : List (MethodName × Nat) := [(⟨"EightParts$Reader", "note", "(Z)V"⟩, 9), (⟨"EightParts", "spellPart", "(II)V"⟩, 16), (⟨"EightParts", "isDivisorAt", "(IIZI)Z"⟩, 16), (⟨"EightParts", "areAlike", "([I[II)Z"⟩, 16), (⟨"EightParts", "doCommute", "([I[I)Z"⟩, 16), (⟨"EightParts$Units", "forgetMembers", "()V"⟩, 9), (⟨"EightParts$Units", "admit", "(I)V"⟩, 9), (⟨"EightParts$Units", "close", "()V"⟩, 9), (⟨"EightParts$Units", "multiplyNegative", "(II)I"⟩, 9), (⟨"EightParts$Units", "makeRoom", "()V"⟩, 9), (⟨"EightParts$Units", "isReal", "(I)Z"⟩, 9), (⟨"EightParts$Units", "associatesWithAll", "(I)Z"⟩, 9), (⟨"EightParts$Units", "commutesWithAll", "(I)Z"⟩, 9), (⟨"EightParts", "doAssociate", "([I[I[I)Z"⟩, 16), (⟨"EightParts$Laws", "multiplyPairs", "([I[I[I)Z"⟩, 9), (⟨"EightParts$Laws", "layBothSides", "(I[I[I[I)Z"⟩, 9)]
theorem lw_r2 : ∀ q ∈ lw_privs_2, lw_okq q := List.forall_mem_cons.mpr ⟨lw_p16, List.forall_mem_cons.mpr ⟨lw_p17, List.forall_mem_cons.mpr ⟨lw_p18, List.forall_mem_cons.mpr ⟨lw_p19, List.forall_mem_cons.mpr ⟨lw_p20, List.forall_mem_cons.mpr ⟨lw_p21, List.forall_mem_cons.mpr ⟨lw_p22, List.forall_mem_cons.mpr ⟨lw_p23, List.forall_mem_cons.mpr ⟨lw_p24, List.forall_mem_cons.mpr ⟨lw_p25, List.forall_mem_cons.mpr ⟨lw_p26, List.forall_mem_cons.mpr ⟨lw_p27, List.forall_mem_cons.mpr ⟨lw_p28, List.forall_mem_cons.mpr ⟨lw_p29, List.forall_mem_cons.mpr ⟨lw_p30, List.forall_mem_cons.mpr ⟨lw_p31, fun _ h => absurd h List.not_mem_nil⟩⟩⟩⟩⟩⟩⟩⟩⟩⟩⟩⟩⟩⟩⟩⟩
theorem lw_p32 : lw_okq (⟨"EightParts$Laws", "doNormsMultiply", "([I[I)Z"⟩, 9) := ⟨⟨by decide +kernel, by decide +kernel⟩, List.mem_of_getElem? (i := 180) (by decide +kernel), List.mem_of_getElem? (i := 1225) (by decide +kernel), List.mem_of_getElem? (i := 1226) (by decide +kernel)⟩
theorem lw_p33 : lw_okq (⟨"EightParts$Ways", "isNew", "(II)Z"⟩, 3) := ⟨⟨by decide +kernel, by decide +kernel⟩, List.mem_of_getElem? (i := 214) (by decide +kernel), List.mem_of_getElem? (i := 1240) (by decide +kernel), List.mem_of_getElem? (i := 1241) (by decide +kernel)⟩
theorem lw_p34 : lw_okq (⟨"EightParts", "wholeSlots", "()I"⟩, 16) := ⟨⟨by decide +kernel, by decide +kernel⟩, List.mem_of_getElem? (i := 27) (by decide +kernel), List.mem_of_getElem? (i := 1274) (by decide +kernel), List.mem_of_getElem? (i := 1275) (by decide +kernel)⟩
theorem lw_p35 : lw_okq (⟨"EightParts", "emptySlots", "()I"⟩, 16) := ⟨⟨by decide +kernel, by decide +kernel⟩, List.mem_of_getElem? (i := 27) (by decide +kernel), List.mem_of_getElem? (i := 1278) (by decide +kernel), List.mem_of_getElem? (i := 1279) (by decide +kernel)⟩
theorem lw_p36 : lw_okq (⟨"EightPartsModel", "nought", "(I)V"⟩, 38) := ⟨⟨by decide +kernel, by decide +kernel⟩, List.mem_of_getElem? (i := 1282) (by decide +kernel), List.mem_of_getElem? (i := 1424) (by decide +kernel), List.mem_of_getElem? (i := 1425) (by decide +kernel)⟩
theorem lw_p37 : lw_okq (⟨"EightPartsModel", "listSize", "(I)I"⟩, 38) := ⟨⟨by decide +kernel, by decide +kernel⟩, List.mem_of_getElem? (i := 1282) (by decide +kernel), List.mem_of_getElem? (i := 1436) (by decide +kernel), List.mem_of_getElem? (i := 1437) (by decide +kernel)⟩
theorem lw_p38 : lw_okq (⟨"EightPartsModel", "laysList", "(II)V"⟩, 38) := ⟨⟨by decide +kernel, by decide +kernel⟩, List.mem_of_getElem? (i := 1282) (by decide +kernel), List.mem_of_getElem? (i := 1440) (by decide +kernel), List.mem_of_getElem? (i := 1441) (by decide +kernel)⟩
theorem lw_p39 : lw_okq (⟨"EightPartsModel", "brings", "(III)V"⟩, 38) := ⟨⟨by decide +kernel, by decide +kernel⟩, List.mem_of_getElem? (i := 1282) (by decide +kernel), List.mem_of_getElem? (i := 1462) (by decide +kernel), List.mem_of_getElem? (i := 1463) (by decide +kernel)⟩
theorem lw_p40 : lw_okq (⟨"EightPartsModel", "becomes", "(II)V"⟩, 38) := ⟨⟨by decide +kernel, by decide +kernel⟩, List.mem_of_getElem? (i := 1282) (by decide +kernel), List.mem_of_getElem? (i := 1470) (by decide +kernel), List.mem_of_getElem? (i := 1471) (by decide +kernel)⟩
theorem lw_p41 : lw_okq (⟨"EightPartsModel", "adds", "(IIII)Z"⟩, 38) := ⟨⟨by decide +kernel, by decide +kernel⟩, List.mem_of_getElem? (i := 1282) (by decide +kernel), List.mem_of_getElem? (i := 1485) (by decide +kernel), List.mem_of_getElem? (i := 1486) (by decide +kernel)⟩
theorem lw_p42 : lw_okq (⟨"EightPartsModel", "comes", "(I)Z"⟩, 38) := ⟨⟨by decide +kernel, by decide +kernel⟩, List.mem_of_getElem? (i := 1282) (by decide +kernel), List.mem_of_getElem? (i := 1489) (by decide +kernel), List.mem_of_getElem? (i := 1490) (by decide +kernel)⟩
theorem lw_p43 : lw_okq (⟨"EightPartsModel", "multiplies", "(III)Z"⟩, 38) := ⟨⟨by decide +kernel, by decide +kernel⟩, List.mem_of_getElem? (i := 1282) (by decide +kernel), List.mem_of_getElem? (i := 1504) (by decide +kernel), List.mem_of_getElem? (i := 1505) (by decide +kernel)⟩
theorem lw_p44 : lw_okq (⟨"EightPartsModel", "isProduct", "(IIZZ)Z"⟩, 38) := ⟨⟨by decide +kernel, by decide +kernel⟩, List.mem_of_getElem? (i := 1282) (by decide +kernel), List.mem_of_getElem? (i := 1508) (by decide +kernel), List.mem_of_getElem? (i := 1509) (by decide +kernel)⟩
theorem lw_p45 : lw_okq (⟨"EightPartsModel", "mirrors", "(II)V"⟩, 38) := ⟨⟨by decide +kernel, by decide +kernel⟩, List.mem_of_getElem? (i := 1282) (by decide +kernel), List.mem_of_getElem? (i := 1517) (by decide +kernel), List.mem_of_getElem? (i := 1518) (by decide +kernel)⟩
theorem lw_p46 : lw_okq (⟨"EightPartsModel", "turns", "(IIII)Z"⟩, 38) := ⟨⟨by decide +kernel, by decide +kernel⟩, List.mem_of_getElem? (i := 1282) (by decide +kernel), List.mem_of_getElem? (i := 1534) (by decide +kernel), List.mem_of_getElem? (i := 1535) (by decide +kernel)⟩
theorem lw_p47 : lw_okq (⟨"EightPartsModel", "ends", "(ZII)I"⟩, 38) := ⟨⟨by decide +kernel, by decide +kernel⟩, List.mem_of_getElem? (i := 1282) (by decide +kernel), List.mem_of_getElem? (i := 1538) (by decide +kernel), List.mem_of_getElem? (i := 1539) (by decide +kernel)⟩
def lw_privs_3 : List (MethodName × Nat) := [(⟨"EightParts$Laws", "doNormsMultiply", "([I[I)Z"⟩, 9), (⟨"EightParts$Ways", "isNew", "(II)Z"⟩, 3), (⟨"EightParts", "wholeSlots", "()I"⟩, 16), (⟨"EightParts", "emptySlots", "()I"⟩, 16), (⟨"EightPartsModel", "nought", "(I)V"⟩, 38), (⟨"EightPartsModel", "listSize", "(I)I"⟩, 38), (⟨"EightPartsModel", "laysList", "(II)V"⟩, 38), (⟨"EightPartsModel", "brings", "(III)V"⟩, 38), (⟨"EightPartsModel", "becomes", "(II)V"⟩, 38), (⟨"EightPartsModel", "adds", "(IIII)Z"⟩, 38), (⟨"EightPartsModel", "comes", "(I)Z"⟩, 38), (⟨"EightPartsModel", "multiplies", "(III)Z"⟩, 38), (⟨"EightPartsModel", "isProduct", "(IIZZ)Z"⟩, 38), (⟨"EightPartsModel", "mirrors", "(II)V"⟩, 38), (⟨"EightPartsModel", "turns", "(IIII)Z"⟩, 38), (⟨"EightPartsModel", "ends", "(ZII)I"⟩, 38)]
theorem lw_r3 : ∀ q ∈ lw_privs_3, lw_okq q := List.forall_mem_cons.mpr ⟨lw_p32, List.forall_mem_cons.mpr ⟨lw_p33, List.forall_mem_cons.mpr ⟨lw_p34, List.forall_mem_cons.mpr ⟨lw_p35, List.forall_mem_cons.mpr ⟨lw_p36, List.forall_mem_cons.mpr ⟨lw_p37, List.forall_mem_cons.mpr ⟨lw_p38, List.forall_mem_cons.mpr ⟨lw_p39, List.forall_mem_cons.mpr ⟨lw_p40, List.forall_mem_cons.mpr ⟨lw_p41, List.forall_mem_cons.mpr ⟨lw_p42, List.forall_mem_cons.mpr ⟨lw_p43, List.forall_mem_cons.mpr ⟨lw_p44, List.forall_mem_cons.mpr ⟨lw_p45, List.forall_mem_cons.mpr ⟨lw_p46, List.forall_mem_cons.mpr ⟨lw_p47, fun _ h => absurd h List.not_mem_nil⟩⟩⟩⟩⟩⟩⟩⟩⟩⟩⟩⟩⟩⟩⟩⟩
theorem lw_p48 : lw_okq (⟨"EightPartsModel", "powers", "(III)Z"⟩, 38) := ⟨⟨by decide +kernel, by decide +kernel⟩, List.mem_of_getElem? (i := 1282) (by decide +kernel), List.mem_of_getElem? (i := 1558) (by decide +kernel), List.mem_of_getElem? (i := 1559) (by decide +kernel)⟩
theorem lw_p49 : lw_okq (⟨"EightPartsModel", "nears", "(J)V"⟩, 38) := ⟨⟨by decide +kernel, by decide +kernel⟩, List.mem_of_getElem? (i := 1282) (by decide +kernel), List.mem_of_getElem? (i := 1574) (by decide +kernel), List.mem_of_getElem? (i := 1575) (by decide +kernel)⟩
theorem lw_p50 : lw_okq (⟨"EightPartsModel", "isAhead", "()Z"⟩, 38) := ⟨⟨by decide +kernel, by decide +kernel⟩, List.mem_of_getElem? (i := 1282) (by decide +kernel), List.mem_of_getElem? (i := 1582) (by decide +kernel), List.mem_of_getElem? (i := 1583) (by decide +kernel)⟩
theorem lw_p51 : lw_okq (⟨"EightPartsModel", "divides", "(II)Z"⟩, 38) := ⟨⟨by decide +kernel, by decide +kernel⟩, List.mem_of_getElem? (i := 1282) (by decide +kernel), List.mem_of_getElem? (i := 1590) (by decide +kernel), List.mem_of_getElem? (i := 1591) (by decide +kernel)⟩
theorem lw_p52 : lw_okq (⟨"EightPartsModel", "normOf", "(I)J"⟩, 38) := ⟨⟨by decide +kernel, by decide +kernel⟩, List.mem_of_getElem? (i := 1282) (by decide +kernel), List.mem_of_getElem? (i := 1594) (by decide +kernel), List.mem_of_getElem? (i := 1595) (by decide +kernel)⟩
theorem lw_p53 : lw_okq (⟨"EightPartsModel", "goesOn", "(II)V"⟩, 38) := ⟨⟨by decide +kernel, by decide +kernel⟩, List.mem_of_getElem? (i := 1282) (by decide +kernel), List.mem_of_getElem? (i := 1603) (by decide +kernel), List.mem_of_getElem? (i := 1604) (by decide +kernel)⟩
theorem lw_p54 : lw_okq (⟨"EightPartsModel", "isNought", "(I)Z"⟩, 38) := ⟨⟨by decide +kernel, by decide +kernel⟩, List.mem_of_getElem? (i := 1282) (by decide +kernel), List.mem_of_getElem? (i := 1607) (by decide +kernel), List.mem_of_getElem? (i := 1608) (by decide +kernel)⟩
theorem lw_p55 : lw_okq (⟨"EightPartsModel", "laysWays", "(II)V"⟩, 38) := ⟨⟨by decide +kernel, by decide +kernel⟩, List.mem_of_getElem? (i := 1282) (by decide +kernel), List.mem_of_getElem? (i := 1625) (by decide +kernel), List.mem_of_getElem? (i := 1626) (by decide +kernel)⟩
theorem lw_p56 : lw_okq (⟨"EightPartsModel", "joins", "(III)I"⟩, 38) := ⟨⟨by decide +kernel, by decide +kernel⟩, List.mem_of_getElem? (i := 1282) (by decide +kernel), List.mem_of_getElem? (i := 1629) (by decide +kernel), List.mem_of_getElem? (i := 1630) (by decide +kernel)⟩
theorem lw_p57 : lw_okq (⟨"EightPartsModel", "areSame", "(II)Z"⟩, 38) := ⟨⟨by decide +kernel, by decide +kernel⟩, List.mem_of_getElem? (i := 1282) (by decide +kernel), List.mem_of_getElem? (i := 1637) (by decide +kernel), List.mem_of_getElem? (i := 1638) (by decide +kernel)⟩
theorem lw_p58 : lw_okq (⟨"EightPartsModel", "works", "()I"⟩, 38) := ⟨⟨by decide +kernel, by decide +kernel⟩, List.mem_of_getElem? (i := 1282) (by decide +kernel), List.mem_of_getElem? (i := 1653) (by decide +kernel), List.mem_of_getElem? (i := 1654) (by decide +kernel)⟩
theorem lw_p59 : lw_okq (⟨"EightPartsModel", "begins", "(I)Z"⟩, 38) := ⟨⟨by decide +kernel, by decide +kernel⟩, List.mem_of_getElem? (i := 1282) (by decide +kernel), List.mem_of_getElem? (i := 1657) (by decide +kernel), List.mem_of_getElem? (i := 1658) (by decide +kernel)⟩
theorem lw_p60 : lw_okq (⟨"EightPartsModel", "opens", "(I)V"⟩, 38) := ⟨⟨by decide +kernel, by decide +kernel⟩, List.mem_of_getElem? (i := 1282) (by decide +kernel), List.mem_of_getElem? (i := 1661) (by decide +kernel), List.mem_of_getElem? (i := 1662) (by decide +kernel)⟩
theorem lw_p61 : lw_okq (⟨"EightPartsModel", "factors", "(I)V"⟩, 38) := ⟨⟨by decide +kernel, by decide +kernel⟩, List.mem_of_getElem? (i := 1282) (by decide +kernel), List.mem_of_getElem? (i := 1667) (by decide +kernel), List.mem_of_getElem? (i := 1668) (by decide +kernel)⟩
theorem lw_p62 : lw_okq (⟨"EightPartsModel", "follows", "(I)Z"⟩, 38) := ⟨⟨by decide +kernel, by decide +kernel⟩, List.mem_of_getElem? (i := 1282) (by decide +kernel), List.mem_of_getElem? (i := 1673) (by decide +kernel), List.mem_of_getElem? (i := 1674) (by decide +kernel)⟩
theorem lw_p63 : lw_okq (⟨"EightPartsModel", "sums", "()V"⟩, 38) := ⟨⟨by decide +kernel, by decide +kernel⟩, List.mem_of_getElem? (i := 1282) (by decide +kernel), List.mem_of_getElem? (i := 1677) (by decide +kernel), List.mem_of_getElem? (i := 1678) (by decide +kernel)⟩
def lw_privs_4 : List (MethodName × Nat) := [(⟨"EightPartsModel", "powers", "(III)Z"⟩, 38), (⟨"EightPartsModel", "nears", "(J)V"⟩, 38), (⟨"EightPartsModel", "isAhead", "()Z"⟩, 38), (⟨"EightPartsModel", "divides", "(II)Z"⟩, 38), (⟨"EightPartsModel", "normOf", "(I)J"⟩, 38), (⟨"EightPartsModel", "goesOn", "(II)V"⟩, 38), (⟨"EightPartsModel", "isNought", "(I)Z"⟩, 38), (⟨"EightPartsModel", "laysWays", "(II)V"⟩, 38), (⟨"EightPartsModel", "joins", "(III)I"⟩, 38), (⟨"EightPartsModel", "areSame", "(II)Z"⟩, 38), (⟨"EightPartsModel", "works", "()I"⟩, 38), (⟨"EightPartsModel", "begins", "(I)Z"⟩, 38), (⟨"EightPartsModel", "opens", "(I)V"⟩, 38), (⟨"EightPartsModel", "factors", "(I)V"⟩, 38), (⟨"EightPartsModel", "follows", "(I)Z"⟩, 38), (⟨"EightPartsModel", "sums", "()V"⟩, 38)]
theorem lw_r4 : ∀ q ∈ lw_privs_4, lw_okq q := List.forall_mem_cons.mpr ⟨lw_p48, List.forall_mem_cons.mpr ⟨lw_p49, List.forall_mem_cons.mpr ⟨lw_p50, List.forall_mem_cons.mpr ⟨lw_p51, List.forall_mem_cons.mpr ⟨lw_p52, List.forall_mem_cons.mpr ⟨lw_p53, List.forall_mem_cons.mpr ⟨lw_p54, List.forall_mem_cons.mpr ⟨lw_p55, List.forall_mem_cons.mpr ⟨lw_p56, List.forall_mem_cons.mpr ⟨lw_p57, List.forall_mem_cons.mpr ⟨lw_p58, List.forall_mem_cons.mpr ⟨lw_p59, List.forall_mem_cons.mpr ⟨lw_p60, List.forall_mem_cons.mpr ⟨lw_p61, List.forall_mem_cons.mpr ⟨lw_p62, List.forall_mem_cons.mpr ⟨lw_p63, fun _ h => absurd h List.not_mem_nil⟩⟩⟩⟩⟩⟩⟩⟩⟩⟩⟩⟩⟩⟩⟩⟩
theorem lw_p64 : lw_okq (⟨"EightPartsModel", "writesAll", "(I)V"⟩, 38) := ⟨⟨by decide +kernel, by decide +kernel⟩, List.mem_of_getElem? (i := 1282) (by decide +kernel), List.mem_of_getElem? (i := 1693) (by decide +kernel), List.mem_of_getElem? (i := 1694) (by decide +kernel)⟩
theorem lw_p65 : lw_okq (⟨"EightPartsModel", "writes", "(I)V"⟩, 38) := ⟨⟨by decide +kernel, by decide +kernel⟩, List.mem_of_getElem? (i := 1282) (by decide +kernel), List.mem_of_getElem? (i := 1697) (by decide +kernel), List.mem_of_getElem? (i := 1698) (by decide +kernel)⟩
theorem lw_p66 : lw_okq (⟨"EightPartsModel", "writesNumber", "(I)V"⟩, 38) := ⟨⟨by decide +kernel, by decide +kernel⟩, List.mem_of_getElem? (i := 1282) (by decide +kernel), List.mem_of_getElem? (i := 1701) (by decide +kernel), List.mem_of_getElem? (i := 1702) (by decide +kernel)⟩
theorem lw_p67 : lw_okq (⟨"EightPartsModel", "oddOf", "(I)I"⟩, 38) := ⟨⟨by decide +kernel, by decide +kernel⟩, List.mem_of_getElem? (i := 1282) (by decide +kernel), List.mem_of_getElem? (i := 1713) (by decide +kernel), List.mem_of_getElem? (i := 1714) (by decide +kernel)⟩
theorem lw_p68 : lw_okq (⟨"EightPartsModel", "isWhole", "(I)Z"⟩, 38) := ⟨⟨by decide +kernel, by decide +kernel⟩, List.mem_of_getElem? (i := 1282) (by decide +kernel), List.mem_of_getElem? (i := 1721) (by decide +kernel), List.mem_of_getElem? (i := 1722) (by decide +kernel)⟩
theorem lw_p69 : lw_okq (⟨"EightPartsModel", "numberOf", "(I)I"⟩, 38) := ⟨⟨by decide +kernel, by decide +kernel⟩, List.mem_of_getElem? (i := 1282) (by decide +kernel), List.mem_of_getElem? (i := 1745) (by decide +kernel), List.mem_of_getElem? (i := 1746) (by decide +kernel)⟩
theorem lw_p70 : lw_okq (⟨"EightPartsModel", "against", "(III)I"⟩, 38) := ⟨⟨by decide +kernel, by decide +kernel⟩, List.mem_of_getElem? (i := 1282) (by decide +kernel), List.mem_of_getElem? (i := 1750) (by decide +kernel), List.mem_of_getElem? (i := 1751) (by decide +kernel)⟩
theorem lw_p71 : lw_okq (⟨"EightPartsModel", "divisorsOf", "(IIZI)I"⟩, 38) := ⟨⟨by decide +kernel, by decide +kernel⟩, List.mem_of_getElem? (i := 1282) (by decide +kernel), List.mem_of_getElem? (i := 1758) (by decide +kernel), List.mem_of_getElem? (i := 1759) (by decide +kernel)⟩
theorem lw_p72 : lw_okq (⟨"EightPartsModel", "isDivisor", "(IIIZ)Z"⟩, 38) := ⟨⟨by decide +kernel, by decide +kernel⟩, List.mem_of_getElem? (i := 1282) (by decide +kernel), List.mem_of_getElem? (i := 1762) (by decide +kernel), List.mem_of_getElem? (i := 1763) (by decide +kernel)⟩
theorem lw_p73 : lw_okq (⟨"EightPartsModel", "isWholeBy", "(J)Z"⟩, 38) := ⟨⟨by decide +kernel, by decide +kernel⟩, List.mem_of_getElem? (i := 1282) (by decide +kernel), List.mem_of_getElem? (i := 1766) (by decide +kernel), List.mem_of_getElem? (i := 1767) (by decide +kernel)⟩
theorem lw_p74 : lw_okq (⟨"EightPartsModel", "innerOf", "(II)I"⟩, 38) := ⟨⟨by decide +kernel, by decide +kernel⟩, List.mem_of_getElem? (i := 1282) (by decide +kernel), List.mem_of_getElem? (i := 1778) (by decide +kernel), List.mem_of_getElem? (i := 1779) (by decide +kernel)⟩
theorem lw_p75 : lw_okq (⟨"EightPartsModel", "areAlike", "(III)Z"⟩, 38) := ⟨⟨by decide +kernel, by decide +kernel⟩, List.mem_of_getElem? (i := 1282) (by decide +kernel), List.mem_of_getElem? (i := 1790) (by decide +kernel), List.mem_of_getElem? (i := 1791) (by decide +kernel)⟩
theorem lw_p76 : lw_okq (⟨"EightPartsModel", "doCommute", "(II)Z"⟩, 38) := ⟨⟨by decide +kernel, by decide +kernel⟩, List.mem_of_getElem? (i := 1282) (by decide +kernel), List.mem_of_getElem? (i := 1802) (by decide +kernel), List.mem_of_getElem? (i := 1803) (by decide +kernel)⟩
theorem lw_p77 : lw_okq (⟨"EightPartsModel", "cycleOf", "(I)I"⟩, 38) := ⟨⟨by decide +kernel, by decide +kernel⟩, List.mem_of_getElem? (i := 1282) (by decide +kernel), List.mem_of_getElem? (i := 1814) (by decide +kernel), List.mem_of_getElem? (i := 1815) (by decide +kernel)⟩
theorem lw_p78 : lw_okq (⟨"EightPartsModel", "laysTable", "()V"⟩, 38) := ⟨⟨by decide +kernel, by decide +kernel⟩, List.mem_of_getElem? (i := 1282) (by decide +kernel), List.mem_of_getElem? (i := 1826) (by decide +kernel), List.mem_of_getElem? (i := 1827) (by decide +kernel)⟩
theorem lw_p79 : lw_okq (⟨"EightPartsModel", "laysMade", "(I)Z"⟩, 38) := ⟨⟨by decide +kernel, by decide +kernel⟩, List.mem_of_getElem? (i := 1282) (by decide +kernel), List.mem_of_getElem? (i := 1835) (by decide +kernel), List.mem_of_getElem? (i := 1836) (by decide +kernel)⟩
def lw_privs_5 : List (MethodName × Nat) := [(⟨"EightPartsModel", "writesAll", "(I)V"⟩, 38), (⟨"EightPartsModel", "writes", "(I)V"⟩, 38), (⟨"EightPartsModel", "writesNumber", "(I)V"⟩, 38), (⟨"EightPartsModel", "oddOf", "(I)I"⟩, 38), (⟨"EightPartsModel", "isWhole", "(I)Z"⟩, 38), (⟨"EightPartsModel", "numberOf", "(I)I"⟩, 38), (⟨"EightPartsModel", "against", "(III)I"⟩, 38), (⟨"EightPartsModel", "divisorsOf", "(IIZI)I"⟩, 38), (⟨"EightPartsModel", "isDivisor", "(IIIZ)Z"⟩, 38), (⟨"EightPartsModel", "isWholeBy", "(J)Z"⟩, 38), (⟨"EightPartsModel", "innerOf", "(II)I"⟩, 38), (⟨"EightPartsModel", "areAlike", "(III)Z"⟩, 38), (⟨"EightPartsModel", "doCommute", "(II)Z"⟩, 38), (⟨"EightPartsModel", "cycleOf", "(I)I"⟩, 38), (⟨"EightPartsModel", "laysTable", "()V"⟩, 38), (⟨"EightPartsModel", "laysMade", "(I)Z"⟩, 38)]
theorem lw_r5 : ∀ q ∈ lw_privs_5, lw_okq q := List.forall_mem_cons.mpr ⟨lw_p64, List.forall_mem_cons.mpr ⟨lw_p65, List.forall_mem_cons.mpr ⟨lw_p66, List.forall_mem_cons.mpr ⟨lw_p67, List.forall_mem_cons.mpr ⟨lw_p68, List.forall_mem_cons.mpr ⟨lw_p69, List.forall_mem_cons.mpr ⟨lw_p70, List.forall_mem_cons.mpr ⟨lw_p71, List.forall_mem_cons.mpr ⟨lw_p72, List.forall_mem_cons.mpr ⟨lw_p73, List.forall_mem_cons.mpr ⟨lw_p74, List.forall_mem_cons.mpr ⟨lw_p75, List.forall_mem_cons.mpr ⟨lw_p76, List.forall_mem_cons.mpr ⟨lw_p77, List.forall_mem_cons.mpr ⟨lw_p78, List.forall_mem_cons.mpr ⟨lw_p79, fun _ h => absurd h List.not_mem_nil⟩⟩⟩⟩⟩⟩⟩⟩⟩⟩⟩⟩⟩⟩⟩⟩
theorem lw_p80 : lw_okq (⟨"EightPartsModel", "isUnit", "(I)Z"⟩, 38) := ⟨⟨by decide +kernel, by decide +kernel⟩, List.mem_of_getElem? (i := 1282) (by decide +kernel), List.mem_of_getElem? (i := 1839) (by decide +kernel), List.mem_of_getElem? (i := 1840) (by decide +kernel)⟩
theorem lw_p81 : lw_okq (⟨"EightPartsModel", "adds", "(I)V"⟩, 38) := ⟨⟨by decide +kernel, by decide +kernel⟩, List.mem_of_getElem? (i := 1282) (by decide +kernel), List.mem_of_getElem? (i := 1843) (by decide +kernel), List.mem_of_getElem? (i := 1844) (by decide +kernel)⟩
theorem lw_p82 : lw_okq (⟨"EightPartsModel", "areAssociative", "()Z"⟩, 38) := ⟨⟨by decide +kernel, by decide +kernel⟩, List.mem_of_getElem? (i := 1282) (by decide +kernel), List.mem_of_getElem? (i := 1847) (by decide +kernel), List.mem_of_getElem? (i := 1848) (by decide +kernel)⟩
theorem lw_p83 : lw_okq (⟨"EightPartsModel", "madeProduct", "(II)I"⟩, 38) := ⟨⟨by decide +kernel, by decide +kernel⟩, List.mem_of_getElem? (i := 1282) (by decide +kernel), List.mem_of_getElem? (i := 1851) (by decide +kernel), List.mem_of_getElem? (i := 1852) (by decide +kernel)⟩
theorem lw_p84 : lw_okq (⟨"EightPartsModel", "center", "()I"⟩, 38) := ⟨⟨by decide +kernel, by decide +kernel⟩, List.mem_of_getElem? (i := 1282) (by decide +kernel), List.mem_of_getElem? (i := 1855) (by decide +kernel), List.mem_of_getElem? (i := 1856) (by decide +kernel)⟩
theorem lw_p85 : lw_okq (⟨"EightPartsModel", "squares", "()I"⟩, 38) := ⟨⟨by decide +kernel, by decide +kernel⟩, List.mem_of_getElem? (i := 1282) (by decide +kernel), List.mem_of_getElem? (i := 1859) (by decide +kernel), List.mem_of_getElem? (i := 1860) (by decide +kernel)⟩
theorem lw_p86 : lw_okq (⟨"EightPartsModel", "both", "(IIII)Z"⟩, 38) := ⟨⟨by decide +kernel, by decide +kernel⟩, List.mem_of_getElem? (i := 1282) (by decide +kernel), List.mem_of_getElem? (i := 1883) (by decide +kernel), List.mem_of_getElem? (i := 1884) (by decide +kernel)⟩
theorem lw_p87 : lw_okq (⟨"EightPartsModel", "wholes", "()I"⟩, 38) := ⟨⟨by decide +kernel, by decide +kernel⟩, List.mem_of_getElem? (i := 1282) (by decide +kernel), List.mem_of_getElem? (i := 1899) (by decide +kernel), List.mem_of_getElem? (i := 1900) (by decide +kernel)⟩
theorem lw_p88 : lw_okq (⟨"EightPartsModel", "noughts", "()I"⟩, 38) := ⟨⟨by decide +kernel, by decide +kernel⟩, List.mem_of_getElem? (i := 1282) (by decide +kernel), List.mem_of_getElem? (i := 1903) (by decide +kernel), List.mem_of_getElem? (i := 1904) (by decide +kernel)⟩
def lw_privs_6 : List (MethodName × Nat) := [(⟨"EightPartsModel", "isUnit", "(I)Z"⟩, 38), (⟨"EightPartsModel", "adds", "(I)V"⟩, 38), (⟨"EightPartsModel", "areAssociative", "()Z"⟩, 38), (⟨"EightPartsModel", "madeProduct", "(II)I"⟩, 38), (⟨"EightPartsModel", "center", "()I"⟩, 38), (⟨"EightPartsModel", "squares", "()I"⟩, 38), (⟨"EightPartsModel", "both", "(IIII)Z"⟩, 38), (⟨"EightPartsModel", "wholes", "()I"⟩, 38), (⟨"EightPartsModel", "noughts", "()I"⟩, 38)]
theorem lw_r6 : ∀ q ∈ lw_privs_6, lw_okq q := List.forall_mem_cons.mpr ⟨lw_p80, List.forall_mem_cons.mpr ⟨lw_p81, List.forall_mem_cons.mpr ⟨lw_p82, List.forall_mem_cons.mpr ⟨lw_p83, List.forall_mem_cons.mpr ⟨lw_p84, List.forall_mem_cons.mpr ⟨lw_p85, List.forall_mem_cons.mpr ⟨lw_p86, List.forall_mem_cons.mpr ⟨lw_p87, List.forall_mem_cons.mpr ⟨lw_p88, fun _ h => absurd h List.not_mem_nil⟩⟩⟩⟩⟩⟩⟩⟩⟩
def lw_privs : List (MethodName × Nat) := lw_privs_1 ++ (lw_privs_2 ++ (lw_privs_3 ++ (lw_privs_4 ++ (lw_privs_5 ++ (lw_privs_6)))))
def lw_tbl : List Cond := k2_sels lw_privs ++ tables_1
theorem lw_privs_ok : ∀ q ∈ lw_privs, lw_okq q := by
  show ∀ q ∈ lw_privs_1 ++ (lw_privs_2 ++ (lw_privs_3 ++ (lw_privs_4 ++ (lw_privs_5 ++ (lw_privs_6))))), lw_okq q
  exact List.forall_mem_append.mpr ⟨lw_r1, List.forall_mem_append.mpr ⟨lw_r2, List.forall_mem_append.mpr ⟨lw_r3, List.forall_mem_append.mpr ⟨lw_r4, List.forall_mem_append.mpr ⟨lw_r5, lw_r6⟩⟩⟩⟩⟩
def RX0 : String := "EightParts$Divider"
def TX0 : u_T := fun k => match k with
  | 0 => ("EightParts$Divider", "lattice", "LEightParts$Lattice;", true)
  | 1 => ("EightParts$Divider", "reckoner", "LEightParts$Reckoner;", true)
  | 2 => ("EightParts$Divider", "quotient", "[I", true)
  | 3 => ("EightParts$Divider", "rest", "[I", true)
  | 4 => ("EightParts$Divider", "mirrored", "[I", true)
  | 5 => ("EightParts$Divider", "dividend", "[I", true)
  | 6 => ("EightParts$Divider", "divided", "[I", true)
  | 7 => ("EightParts$Divider", "wide", "[J", true)
  | 8 => ("EightParts$Divider", "steps", "I", false)
  | _ => ("EightParts$Divider", "greatestShare", "J", false)
def tyX0 : Nat → FieldType := fun k => match k with
  | 0 => .object "EightParts$Lattice"
  | 1 => .object "EightParts$Reckoner"
  | 2 => .array .int
  | 3 => .array .int
  | 4 => .array .int
  | 5 => .array .int
  | 6 => .array .int
  | 7 => .array .long
  | 8 => .int
  | _ => .long
theorem nmX0 : ∀ a, a < 10 → ∀ b, b < 10 → a ≠ b → (TX0 a).2.1 ≠ (TX0 b).2.1 := by decide +kernel
theorem tyX0_ok : ∀ k, k < 10 → parseFieldDescriptor (TX0 k).2.2.1 = some (tyX0 k) := by decide +kernel
abbrev cX0_init : ByteArray := prog_2_method_1_code
def yX0_init : MethodName := ⟨RX0, "<init>", "(LEightParts$Lattice;LEightParts$Reckoner;)V"⟩
abbrev cX0_split : ByteArray := prog_2_method_2_code
def yX0_split : MethodName := ⟨RX0, "split", "([I[I)Z"⟩
abbrev cX0_walk : ByteArray := prog_2_method_3_code
def yX0_walk : MethodName := ⟨RX0, "walk", "([I[I)V"⟩
abbrev cX0_lastOfWalk : ByteArray := prog_2_method_4_code
def yX0_lastOfWalk : MethodName := ⟨RX0, "lastOfWalk", "()[I"⟩
abbrev cX0_lastNormBy4 : ByteArray := prog_2_method_5_code
def yX0_lastNormBy4 : MethodName := ⟨RX0, "lastNormBy4", "()J"⟩
abbrev cX0_divides : ByteArray := prog_2_method_6_code
def yX0_divides : MethodName := ⟨RX0, "divides", "([II[IZ)Z"⟩
abbrev cX0_noteShare : ByteArray := prog_2_method_7_code
def yX0_noteShare : MethodName := ⟨RX0, "noteShare", "()V"⟩
def RX1 : String := "EightParts$Keeper"
def TX1 : u_T := fun k => match k with
  | 0 => ("EightParts$Keeper", "heldOrders", "[I", true)
  | 1 => ("EightParts$Keeper", "numbers", "[I", true)
  | _ => ("EightParts$Keeper", "kept", "I", false)
def tyX1 : Nat → FieldType := fun k => match k with
  | 0 => .array .int
  | 1 => .array .int
  | _ => .int
theorem nmX1 : ∀ a, a < 3 → ∀ b, b < 3 → a ≠ b → (TX1 a).2.1 ≠ (TX1 b).2.1 := by decide +kernel
theorem tyX1_ok : ∀ k, k < 3 → parseFieldDescriptor (TX1 k).2.2.1 = some (tyX1 k) := by decide +kernel
abbrev cX1_init : ByteArray := prog_3_method_1_code
def yX1_init : MethodName := ⟨RX1, "<init>", "()V"⟩
abbrev cX1_push : ByteArray := prog_3_method_2_code
def yX1_push : MethodName := ⟨RX1, "push", "([[II)Z"⟩
abbrev cX1_pop : ByteArray := prog_3_method_3_code
def yX1_pop : MethodName := ⟨RX1, "pop", "([[I)I"⟩
def RX2 : String := "EightParts$Lattice"
def TX2 : u_T := fun k => match k with
  | 0 => ("EightParts$Lattice", "held", "I", false)
  | 1 => ("EightParts$Lattice", "near", "[[J", true)
  | 2 => ("EightParts$Lattice", "misses", "[[J", true)
  | _ => ("EightParts$Lattice", "chosen", "[J", true)
def tyX2 : Nat → FieldType := fun k => match k with
  | 0 => .int
  | 1 => .array (.array .long)
  | 2 => .array (.array .long)
  | _ => .array .long
theorem nmX2 : ∀ a, a < 4 → ∀ b, b < 4 → a ≠ b → (TX2 a).2.1 ≠ (TX2 b).2.1 := by decide +kernel
theorem tyX2_ok : ∀ k, k < 4 → parseFieldDescriptor (TX2 k).2.2.1 = some (tyX2 k) := by decide +kernel
abbrev cX2_init : ByteArray := prog_4_method_1_code
def yX2_init : MethodName := ⟨RX2, "<init>", "()V"⟩
abbrev cX2_manyWords : ByteArray := prog_4_method_2_code
def yX2_manyWords : MethodName := ⟨RX2, "manyWords", "(I)I"⟩
abbrev cX2_exchange : ByteArray := prog_4_method_3_code
def yX2_exchange : MethodName := ⟨RX2, "exchange", "(II)I"⟩
abbrev cX2_mayBeOdd : ByteArray := prog_4_method_4_code
def yX2_mayBeOdd : MethodName := ⟨RX2, "mayBeOdd", "(II)Z"⟩
abbrev cX2_manyUnitsOfBoth : ByteArray := prog_4_method_5_code
def yX2_manyUnitsOfBoth : MethodName := ⟨RX2, "manyUnitsOfBoth", "(II)I"⟩
abbrev cX2_isWhole : ByteArray := prog_4_method_6_code
def yX2_isWhole : MethodName := ⟨RX2, "isWhole", "([I)Z"⟩
abbrev cX2_isWholeBy : ByteArray := prog_4_method_7_code
def yX2_isWholeBy : MethodName := ⟨RX2, "isWholeBy", "([JJ)Z"⟩
abbrev cX2_layNearest : ByteArray := prog_4_method_8_code
def yX2_layNearest : MethodName := ⟨RX2, "layNearest", "([I[JJ)Z"⟩
abbrev cX2_findNear : ByteArray := prog_4_method_9_code
def yX2_findNear : MethodName := ⟨RX2, "findNear", "(IIJJ)V"⟩
abbrev cX2_bestWord : ByteArray := prog_4_method_10_code
def yX2_bestWord : MethodName := ⟨RX2, "bestWord", "()I"⟩
abbrev cX2_missOf : ByteArray := prog_4_method_11_code
def yX2_missOf : MethodName := ⟨RX2, "missOf", "(I)J"⟩
abbrev cX2_isListedAhead : ByteArray := prog_4_method_12_code
def yX2_isListedAhead : MethodName := ⟨RX2, "isListedAhead", "(II)Z"⟩
def RX3 : String := "EightParts$Laws"
def TX3 : u_T := fun k => match k with
  | 0 => ("EightParts$Laws", "reckoner", "LEightParts$Reckoner;", true)
  | 1 => ("EightParts$Laws", "xx", "[I", true)
  | 2 => ("EightParts$Laws", "xy", "[I", true)
  | 3 => ("EightParts$Laws", "yx", "[I", true)
  | 4 => ("EightParts$Laws", "yz", "[I", true)
  | 5 => ("EightParts$Laws", "zx", "[I", true)
  | 6 => ("EightParts$Laws", "zy", "[I", true)
  | 7 => ("EightParts$Laws", "left", "[I", true)
  | _ => ("EightParts$Laws", "right", "[I", true)
def tyX3 : Nat → FieldType := fun k => match k with
  | 0 => .object "EightParts$Reckoner"
  | 1 => .array .int
  | 2 => .array .int
  | 3 => .array .int
  | 4 => .array .int
  | 5 => .array .int
  | 6 => .array .int
  | 7 => .array .int
  | _ => .array .int
theorem nmX3 : ∀ a, a < 9 → ∀ b, b < 9 → a ≠ b → (TX3 a).2.1 ≠ (TX3 b).2.1 := by decide +kernel
theorem tyX3_ok : ∀ k, k < 9 → parseFieldDescriptor (TX3 k).2.2.1 = some (tyX3 k) := by decide +kernel
abbrev cX3_init : ByteArray := prog_5_method_1_code
def yX3_init : MethodName := ⟨RX3, "<init>", "(LEightParts$Reckoner;)V"⟩
abbrev cX3_whichHold : ByteArray := prog_5_method_2_code
def yX3_whichHold : MethodName := ⟨RX3, "whichHold", "([I[I[I)I"⟩
abbrev cX3_multiplyPairs : ByteArray := prog_5_method_3_code
def yX3_multiplyPairs : MethodName := ⟨RX3, "multiplyPairs", "([I[I[I)Z"⟩
abbrev cX3_layBothSides : ByteArray := prog_5_method_4_code
def yX3_layBothSides : MethodName := ⟨RX3, "layBothSides", "(I[I[I[I)Z"⟩
abbrev cX3_doNormsMultiply : ByteArray := prog_5_method_5_code
def yX3_doNormsMultiply : MethodName := ⟨RX3, "doNormsMultiply", "([I[I)Z"⟩
def RX4 : String := "EightParts$Lists"
def TX4 : u_T := fun k => match k with
  | 0 => ("EightParts$Lists", "lattice", "LEightParts$Lattice;", true)
  | 1 => ("EightParts$Lists", "rows", "[[I", true)
  | 2 => ("EightParts$Lists", "sizes", "[I", true)
  | 3 => ("EightParts$Lists", "madeFor", "[I", true)
  | _ => ("EightParts$Lists", "oddWords", "[I", true)
def tyX4 : Nat → FieldType := fun k => match k with
  | 0 => .object "EightParts$Lattice"
  | 1 => .array (.array .int)
  | 2 => .array .int
  | 3 => .array .int
  | _ => .array .int
theorem nmX4 : ∀ a, a < 5 → ∀ b, b < 5 → a ≠ b → (TX4 a).2.1 ≠ (TX4 b).2.1 := by decide +kernel
theorem tyX4_ok : ∀ k, k < 5 → parseFieldDescriptor (TX4 k).2.2.1 = some (tyX4 k) := by decide +kernel
abbrev cX4_init : ByteArray := prog_6_method_1_code
def yX4_init : MethodName := ⟨RX4, "<init>", "(LEightParts$Lattice;)V"⟩
abbrev cX4_manyOf : ByteArray := prog_6_method_2_code
def yX4_manyOf : MethodName := ⟨RX4, "manyOf", "(I)I"⟩
abbrev cX4_take : ByteArray := prog_6_method_3_code
def yX4_take : MethodName := ⟨RX4, "take", "([III)Z"⟩
abbrev cX4_find : ByteArray := prog_6_method_4_code
def yX4_find : MethodName := ⟨RX4, "find", "([I)I"⟩
abbrev cX4_takeUnit : ByteArray := prog_6_method_5_code
def yX4_takeUnit : MethodName := ⟨RX4, "takeUnit", "([II)Z"⟩
abbrev cX4_search : ByteArray := prog_6_method_6_code
def yX4_search : MethodName := ⟨RX4, "search", "(I[I)I"⟩
abbrev cX4_unpack : ByteArray := prog_6_method_7_code
def yX4_unpack : MethodName := ⟨RX4, "unpack", "([II)V"⟩
abbrev cX4_pack : ByteArray := prog_6_method_8_code
def yX4_pack : MethodName := ⟨RX4, "pack", "([I)I"⟩
abbrev cX4_fill : ByteArray := prog_6_method_9_code
def yX4_fill : MethodName := ⟨RX4, "fill", "(I)V"⟩
abbrev cX4_sortWords : ByteArray := prog_6_method_10_code
def yX4_sortWords : MethodName := ⟨RX4, "sortWords", "()V"⟩
abbrev cX4_grow : ByteArray := prog_6_method_11_code
def yX4_grow : MethodName := ⟨RX4, "grow", "(IIIII)V"⟩
def RX5 : String := "EightParts$Parts"
def TX5 : u_T := fun k => match k with
  | _ => ("", "", "", false)
def tyX5 : Nat → FieldType := fun k => match k with
  | _ => .int
theorem nmX5 : ∀ a, a < 0 → ∀ b, b < 0 → a ≠ b → (TX5 a).2.1 ≠ (TX5 b).2.1 := by decide +kernel
theorem tyX5_ok : ∀ k, k < 0 → parseFieldDescriptor (TX5 k).2.2.1 = some (tyX5 k) := by decide +kernel
abbrev cX5_lay : ByteArray := prog_7_method_2_code
def yX5_lay : MethodName := ⟨RX5, "lay", "([I[I)V"⟩
abbrev cX5_layOne : ByteArray := prog_7_method_3_code
def yX5_layOne : MethodName := ⟨RX5, "layOne", "([II)V"⟩
abbrev cX5_layMirrored : ByteArray := prog_7_method_4_code
def yX5_layMirrored : MethodName := ⟨RX5, "layMirrored", "([I[I)V"⟩
abbrev cX5_areEqual : ByteArray := prog_7_method_5_code
def yX5_areEqual : MethodName := ⟨RX5, "areEqual", "([I[I)Z"⟩
abbrev cX5_isZero : ByteArray := prog_7_method_6_code
def yX5_isZero : MethodName := ⟨RX5, "isZero", "([I)Z"⟩
abbrev cX5_isOne : ByteArray := prog_7_method_7_code
def yX5_isOne : MethodName := ⟨RX5, "isOne", "([I)Z"⟩
abbrev cX5_oddSet : ByteArray := prog_7_method_8_code
def yX5_oddSet : MethodName := ⟨RX5, "oddSet", "([I)I"⟩
abbrev cX5_normBy4 : ByteArray := prog_7_method_9_code
def yX5_normBy4 : MethodName := ⟨RX5, "normBy4", "([I)J"⟩
abbrev cX5_innerBy4 : ByteArray := prog_7_method_10_code
def yX5_innerBy4 : MethodName := ⟨RX5, "innerBy4", "([I[I)J"⟩
abbrev cX5_multiplyBy4 : ByteArray := prog_7_method_11_code
def yX5_multiplyBy4 : MethodName := ⟨RX5, "multiplyBy4", "([J[I[I)V"⟩
abbrev cX5_halve : ByteArray := prog_7_method_12_code
def yX5_halve : MethodName := ⟨RX5, "halve", "([J)Z"⟩
abbrev cX5_layIfWithin : ByteArray := prog_7_method_13_code
def yX5_layIfWithin : MethodName := ⟨RX5, "layIfWithin", "([I[J)Z"⟩
def RX6 : String := "EightParts$Reader"
def TX6 : u_T := fun k => match k with
  | 0 => ("EightParts$Reader", "tape", "LEightParts$Tape;", true)
  | 1 => ("EightParts$Reader", "slots", "[[I", true)
  | 2 => ("EightParts$Reader", "reckoner", "LEightParts$Reckoner;", true)
  | 3 => ("EightParts$Reader", "sums", "[[I", true)
  | 4 => ("EightParts$Reader", "terms", "[[I", true)
  | 5 => ("EightParts$Reader", "factors", "[[I", true)
  | 6 => ("EightParts$Reader", "at", "I", false)
  | 7 => ("EightParts$Reader", "fault", "I", false)
  | _ => ("EightParts$Reader", "can", "Z", false)
def tyX6 : Nat → FieldType := fun k => match k with
  | 0 => .object "EightParts$Tape"
  | 1 => .array (.array .int)
  | 2 => .object "EightParts$Reckoner"
  | 3 => .array (.array .int)
  | 4 => .array (.array .int)
  | 5 => .array (.array .int)
  | 6 => .int
  | 7 => .int
  | _ => .boolean
theorem nmX6 : ∀ a, a < 9 → ∀ b, b < 9 → a ≠ b → (TX6 a).2.1 ≠ (TX6 b).2.1 := by decide +kernel
theorem tyX6_ok : ∀ k, k < 9 → parseFieldDescriptor (TX6 k).2.2.1 = some (tyX6 k) := by decide +kernel
abbrev cX6_init : ByteArray := prog_8_method_1_code
def yX6_init : MethodName := ⟨RX6, "<init>", "(LEightParts$Tape;[[ILEightParts$Reckoner;)V"⟩
abbrev cX6_read : ByteArray := prog_8_method_2_code
def yX6_read : MethodName := ⟨RX6, "read", "()I"⟩
abbrev cX6_layResult : ByteArray := prog_8_method_3_code
def yX6_layResult : MethodName := ⟨RX6, "layResult", "([I)Z"⟩
abbrev cX6_ahead : ByteArray := prog_8_method_4_code
def yX6_ahead : MethodName := ⟨RX6, "ahead", "()I"⟩
abbrev cX6_readSum : ByteArray := prog_8_method_5_code
def yX6_readSum : MethodName := ⟨RX6, "readSum", "(I)V"⟩
abbrev cX6_readTerm : ByteArray := prog_8_method_6_code
def yX6_readTerm : MethodName := ⟨RX6, "readTerm", "(I)V"⟩
abbrev cX6_note : ByteArray := prog_8_method_7_code
def yX6_note : MethodName := ⟨RX6, "note", "(Z)V"⟩
abbrev cX6_readFactor : ByteArray := prog_8_method_8_code
def yX6_readFactor : MethodName := ⟨RX6, "readFactor", "(I)V"⟩
abbrev cX6_readNested : ByteArray := prog_8_method_9_code
def yX6_readNested : MethodName := ⟨RX6, "readNested", "(II)V"⟩
abbrev cX6_readInt : ByteArray := prog_8_method_10_code
def yX6_readInt : MethodName := ⟨RX6, "readInt", "(I)V"⟩
abbrev cX6_isDigit : ByteArray := prog_8_method_11_code
def yX6_isDigit : MethodName := ⟨RX6, "isDigit", "(I)Z"⟩
def RX7 : String := "EightParts$Reckoner"
def TX7 : u_T := fun k => match k with
  | 0 => ("EightParts$Reckoner", "result", "[J", true)
  | 1 => ("EightParts$Reckoner", "middle", "[I", true)
  | _ => ("EightParts$Reckoner", "mirrored", "[I", true)
def tyX7 : Nat → FieldType := fun k => match k with
  | 0 => .array .long
  | 1 => .array .int
  | _ => .array .int
theorem nmX7 : ∀ a, a < 3 → ∀ b, b < 3 → a ≠ b → (TX7 a).2.1 ≠ (TX7 b).2.1 := by decide +kernel
theorem tyX7_ok : ∀ k, k < 3 → parseFieldDescriptor (TX7 k).2.2.1 = some (tyX7 k) := by decide +kernel
abbrev cX7_init : ByteArray := prog_9_method_1_code
def yX7_init : MethodName := ⟨RX7, "<init>", "()V"⟩
abbrev cX7_add : ByteArray := prog_9_method_2_code
def yX7_add : MethodName := ⟨RX7, "add", "([I[I[II)Z"⟩
abbrev cX7_scale : ByteArray := prog_9_method_3_code
def yX7_scale : MethodName := ⟨RX7, "scale", "([I[II)Z"⟩
abbrev cX7_multiply : ByteArray := prog_9_method_4_code
def yX7_multiply : MethodName := ⟨RX7, "multiply", "([I[I[I)Z"⟩
abbrev cX7_turnBy : ByteArray := prog_9_method_5_code
def yX7_turnBy : MethodName := ⟨RX7, "turnBy", "([I[I[II)Z"⟩
def RX8 : String := "EightParts$Tape"
def TX8 : u_T := fun k => match k with
  | 0 => ("EightParts$Tape", "bytes", "[B", true)
  | _ => ("EightParts$Tape", "length", "I", false)
def tyX8 : Nat → FieldType := fun k => match k with
  | 0 => .array .byte
  | _ => .int
theorem nmX8 : ∀ a, a < 2 → ∀ b, b < 2 → a ≠ b → (TX8 a).2.1 ≠ (TX8 b).2.1 := by decide +kernel
theorem tyX8_ok : ∀ k, k < 2 → parseFieldDescriptor (TX8 k).2.2.1 = some (tyX8 k) := by decide +kernel
abbrev cX8_init : ByteArray := prog_10_method_1_code
def yX8_init : MethodName := ⟨RX8, "<init>", "()V"⟩
abbrev cX8_hasRoom : ByteArray := prog_10_method_2_code
def yX8_hasRoom : MethodName := ⟨RX8, "hasRoom", "()Z"⟩
abbrev cX8_append : ByteArray := prog_10_method_3_code
def yX8_append : MethodName := ⟨RX8, "append", "(I)V"⟩
abbrev cX8_byteAt : ByteArray := prog_10_method_4_code
def yX8_byteAt : MethodName := ⟨RX8, "byteAt", "(I)I"⟩
def RX9 : String := "EightParts$Units"
def TX9 : u_T := fun k => match k with
  | 0 => ("EightParts$Units", "lists", "LEightParts$Lists;", true)
  | 1 => ("EightParts$Units", "reckoner", "LEightParts$Reckoner;", true)
  | 2 => ("EightParts$Units", "x", "[I", true)
  | 3 => ("EightParts$Units", "y", "[I", true)
  | 4 => ("EightParts$Units", "products", "[I", false)
  | 5 => ("EightParts$Units", "productsFor", "I", false)
  | 6 => ("EightParts$Units", "members", "[I", true)
  | 7 => ("EightParts$Units", "isMember", "[Z", true)
  | _ => ("EightParts$Units", "gathered", "I", false)
def tyX9 : Nat → FieldType := fun k => match k with
  | 0 => .object "EightParts$Lists"
  | 1 => .object "EightParts$Reckoner"
  | 2 => .array .int
  | 3 => .array .int
  | 4 => .array .int
  | 5 => .int
  | 6 => .array .int
  | 7 => .array .boolean
  | _ => .int
theorem nmX9 : ∀ a, a < 9 → ∀ b, b < 9 → a ≠ b → (TX9 a).2.1 ≠ (TX9 b).2.1 := by decide +kernel
theorem tyX9_ok : ∀ k, k < 9 → parseFieldDescriptor (TX9 k).2.2.1 = some (tyX9 k) := by decide +kernel
abbrev cX9_init : ByteArray := prog_11_method_1_code
def yX9_init : MethodName := ⟨RX9, "<init>", "(LEightParts$Lists;LEightParts$Reckoner;)V"⟩
abbrev cX9_multiplyAt : ByteArray := prog_11_method_2_code
def yX9_multiplyAt : MethodName := ⟨RX9, "multiplyAt", "(II)I"⟩
abbrev cX9_cycleOf : ByteArray := prog_11_method_3_code
def yX9_cycleOf : MethodName := ⟨RX9, "cycleOf", "(I)I"⟩
abbrev cX9_gather : ByteArray := prog_11_method_4_code
def yX9_gather : MethodName := ⟨RX9, "gather", "([[II)Z"⟩
abbrev cX9_gatheredAt : ByteArray := prog_11_method_5_code
def yX9_gatheredAt : MethodName := ⟨RX9, "gatheredAt", "(I)I"⟩
abbrev cX9_areAssociative : ByteArray := prog_11_method_6_code
def yX9_areAssociative : MethodName := ⟨RX9, "areAssociative", "()Z"⟩
abbrev cX9_manyCentral : ByteArray := prog_11_method_7_code
def yX9_manyCentral : MethodName := ⟨RX9, "manyCentral", "()I"⟩
abbrev cX9_manyOwnInverse : ByteArray := prog_11_method_8_code
def yX9_manyOwnInverse : MethodName := ⟨RX9, "manyOwnInverse", "()I"⟩
abbrev cX9_forgetMembers : ByteArray := prog_11_method_9_code
def yX9_forgetMembers : MethodName := ⟨RX9, "forgetMembers", "()V"⟩
abbrev cX9_admit : ByteArray := prog_11_method_10_code
def yX9_admit : MethodName := ⟨RX9, "admit", "(I)V"⟩
abbrev cX9_close : ByteArray := prog_11_method_11_code
def yX9_close : MethodName := ⟨RX9, "close", "()V"⟩
abbrev cX9_isReal : ByteArray := prog_11_method_12_code
def yX9_isReal : MethodName := ⟨RX9, "isReal", "(I)Z"⟩
abbrev cX9_associatesWithAll : ByteArray := prog_11_method_13_code
def yX9_associatesWithAll : MethodName := ⟨RX9, "associatesWithAll", "(I)Z"⟩
abbrev cX9_commutesWithAll : ByteArray := prog_11_method_14_code
def yX9_commutesWithAll : MethodName := ⟨RX9, "commutesWithAll", "(I)Z"⟩
abbrev cX9_multiplyNegative : ByteArray := prog_11_method_15_code
def yX9_multiplyNegative : MethodName := ⟨RX9, "multiplyNegative", "(II)I"⟩
abbrev cX9_makeRoom : ByteArray := prog_11_method_16_code
def yX9_makeRoom : MethodName := ⟨RX9, "makeRoom", "()V"⟩
def RX10 : String := "EightParts$Ways"
def TX10 : u_T := fun k => match k with
  | 0 => ("EightParts$Ways", "reckoner", "LEightParts$Reckoner;", true)
  | 1 => ("EightParts$Ways", "products", "[[I", false)
  | _ => ("EightParts$Ways", "can", "[Z", true)
def tyX10 : Nat → FieldType := fun k => match k with
  | 0 => .object "EightParts$Reckoner"
  | 1 => .array (.array .int)
  | _ => .array .boolean
theorem nmX10 : ∀ a, a < 3 → ∀ b, b < 3 → a ≠ b → (TX10 a).2.1 ≠ (TX10 b).2.1 := by decide +kernel
theorem tyX10_ok : ∀ k, k < 3 → parseFieldDescriptor (TX10 k).2.2.1 = some (tyX10 k) := by decide +kernel
abbrev cX10_init : ByteArray := prog_12_method_1_code
def yX10_init : MethodName := ⟨RX10, "<init>", "(LEightParts$Reckoner;)V"⟩
abbrev cX10_manyOf : ByteArray := prog_12_method_2_code
def yX10_manyOf : MethodName := ⟨RX10, "manyOf", "(I)I"⟩
abbrev cX10_fill : ByteArray := prog_12_method_3_code
def yX10_fill : MethodName := ⟨RX10, "fill", "([[III)V"⟩
abbrev cX10_layWay : ByteArray := prog_12_method_4_code
def yX10_layWay : MethodName := ⟨RX10, "layWay", "([III)Z"⟩
abbrev cX10_manyUnlike : ByteArray := prog_12_method_5_code
def yX10_manyUnlike : MethodName := ⟨RX10, "manyUnlike", "(I)I"⟩
abbrev cX10_isNew : ByteArray := prog_12_method_6_code
def yX10_isNew : MethodName := ⟨RX10, "isNew", "(II)Z"⟩
abbrev cX10_fillStretch : ByteArray := prog_12_method_7_code
def yX10_fillStretch : MethodName := ⟨RX10, "fillStretch", "(II)V"⟩
abbrev cX10_startOf : ByteArray := prog_12_method_8_code
def yX10_startOf : MethodName := ⟨RX10, "startOf", "(II)I"⟩
abbrev cX10_join : ByteArray := prog_12_method_9_code
def yX10_join : MethodName := ⟨RX10, "join", "(III)V"⟩
def RX11 : String := "EightParts"
def TX11 : u_T := fun k => match k with
  | 0 => ("EightParts", "slots", "[[I", true)
  | 1 => ("EightParts", "reckoner", "LEightParts$Reckoner;", true)
  | 2 => ("EightParts", "lattice", "LEightParts$Lattice;", true)
  | 3 => ("EightParts", "lists", "LEightParts$Lists;", true)
  | 4 => ("EightParts", "units", "LEightParts$Units;", true)
  | 5 => ("EightParts", "divider", "LEightParts$Divider;", true)
  | 6 => ("EightParts", "lawBook", "LEightParts$Laws;", true)
  | 7 => ("EightParts", "ways", "LEightParts$Ways;", true)
  | 8 => ("EightParts", "tape", "LEightParts$Tape;", true)
  | 9 => ("EightParts", "reader", "LEightParts$Reader;", true)
  | 10 => ("EightParts", "keeper", "LEightParts$Keeper;", true)
  | 11 => ("EightParts", "spelled", "Ljava/lang/StringBuilder;", true)
  | 12 => ("EightParts", "current", "[I", true)
  | 13 => ("EightParts", "left", "[I", true)
  | 14 => ("EightParts", "right", "[I", true)
  | _ => ("EightParts", "wide", "[J", true)
def tyX11 : Nat → FieldType := fun k => match k with
  | 0 => .array (.array .int)
  | 1 => .object "EightParts$Reckoner"
  | 2 => .object "EightParts$Lattice"
  | 3 => .object "EightParts$Lists"
  | 4 => .object "EightParts$Units"
  | 5 => .object "EightParts$Divider"
  | 6 => .object "EightParts$Laws"
  | 7 => .object "EightParts$Ways"
  | 8 => .object "EightParts$Tape"
  | 9 => .object "EightParts$Reader"
  | 10 => .object "EightParts$Keeper"
  | 11 => .object "java/lang/StringBuilder"
  | 12 => .array .int
  | 13 => .array .int
  | 14 => .array .int
  | _ => .array .long
theorem nmX11 : ∀ a, a < 16 → ∀ b, b < 16 → a ≠ b → (TX11 a).2.1 ≠ (TX11 b).2.1 := by decide +kernel
theorem tyX11_ok : ∀ k, k < 16 → parseFieldDescriptor (TX11 k).2.2.1 = some (tyX11 k) := by decide +kernel
abbrev cX11_init : ByteArray := prog_1_method_1_code
def yX11_init : MethodName := ⟨RX11, "<init>", "()V"⟩
abbrev cX11_put : ByteArray := prog_1_method_2_code
def yX11_put : MethodName := ⟨RX11, "put", "(III)Z"⟩
abbrev cX11_one : ByteArray := prog_1_method_3_code
def yX11_one : MethodName := ⟨RX11, "one", "(II)Z"⟩
abbrev cX11_listed : ByteArray := prog_1_method_4_code
def yX11_listed : MethodName := ⟨RX11, "listed", "(III)Z"⟩
abbrev cX11_copy : ByteArray := prog_1_method_5_code
def yX11_copy : MethodName := ⟨RX11, "copy", "(II)Z"⟩
abbrev cX11_order : ByteArray := prog_1_method_6_code
def yX11_order : MethodName := ⟨RX11, "order", "(I)I"⟩
abbrev cX11_sum : ByteArray := prog_1_method_7_code
def yX11_sum : MethodName := ⟨RX11, "sum", "(III)I"⟩
abbrev cX11_less : ByteArray := prog_1_method_8_code
def yX11_less : MethodName := ⟨RX11, "less", "(III)I"⟩
abbrev cX11_product : ByteArray := prog_1_method_9_code
def yX11_product : MethodName := ⟨RX11, "product", "(III)I"⟩
abbrev cX11_mirror : ByteArray := prog_1_method_10_code
def yX11_mirror : MethodName := ⟨RX11, "mirror", "(II)I"⟩
abbrev cX11_times : ByteArray := prog_1_method_11_code
def yX11_times : MethodName := ⟨RX11, "times", "(III)I"⟩
abbrev cX11_turn : ByteArray := prog_1_method_12_code
def yX11_turn : MethodName := ⟨RX11, "turn", "(IIII)I"⟩
abbrev cX11_chain : ByteArray := prog_1_method_13_code
def yX11_chain : MethodName := ⟨RX11, "chain", "(IIIII)I"⟩
abbrev cX11_last : ByteArray := prog_1_method_14_code
def yX11_last : MethodName := ⟨RX11, "last", "(III)I"⟩
abbrev cX11_power : ByteArray := prog_1_method_15_code
def yX11_power : MethodName := ⟨RX11, "power", "(III)I"⟩
abbrev cX11_associator : ByteArray := prog_1_method_16_code
def yX11_associator : MethodName := ⟨RX11, "associator", "(IIII)I"⟩
abbrev cX11_commutator : ByteArray := prog_1_method_17_code
def yX11_commutator : MethodName := ⟨RX11, "commutator", "(III)I"⟩
abbrev cX11_nearest : ByteArray := prog_1_method_18_code
def yX11_nearest : MethodName := ⟨RX11, "nearest", "(III)I"⟩
abbrev cX11_divide : ByteArray := prog_1_method_19_code
def yX11_divide : MethodName := ⟨RX11, "divide", "(IIII)I"⟩
abbrev cX11_bracket : ByteArray := prog_1_method_20_code
def yX11_bracket : MethodName := ⟨RX11, "bracket", "(IIII)I"⟩
abbrev cX11_feed : ByteArray := prog_1_method_21_code
def yX11_feed : MethodName := ⟨RX11, "feed", "(IIIII)I"⟩
abbrev cX11_back : ByteArray := prog_1_method_22_code
def yX11_back : MethodName := ⟨RX11, "back", "(I)I"⟩
abbrev cX11_work : ByteArray := prog_1_method_23_code
def yX11_work : MethodName := ⟨RX11, "work", "(I)I"⟩
abbrev cX11_part : ByteArray := prog_1_method_24_code
def yX11_part : MethodName := ⟨RX11, "part", "(II)I"⟩
abbrev cX11_norm : ByteArray := prog_1_method_25_code
def yX11_norm : MethodName := ⟨RX11, "norm", "(I)I"⟩
abbrev cX11_spell : ByteArray := prog_1_method_26_code
def yX11_spell : MethodName := ⟨RX11, "spell", "(II)I"⟩
abbrev cX11_turned : ByteArray := prog_1_method_27_code
def yX11_turned : MethodName := ⟨RX11, "turned", "(IIII)I"⟩
abbrev cX11_odd : ByteArray := prog_1_method_28_code
def yX11_odd : MethodName := ⟨RX11, "odd", "(I)I"⟩
abbrev cX11_whole : ByteArray := prog_1_method_29_code
def yX11_whole : MethodName := ⟨RX11, "whole", "(I)I"⟩
abbrev cX11_orders : ByteArray := prog_1_method_30_code
def yX11_orders : MethodName := ⟨RX11, "orders", "(I)I"⟩
abbrev cX11_same : ByteArray := prog_1_method_31_code
def yX11_same : MethodName := ⟨RX11, "same", "(II)I"⟩
abbrev cX11_many : ByteArray := prog_1_method_32_code
def yX11_many : MethodName := ⟨RX11, "many", "(I)I"⟩
abbrev cX11_listedPart : ByteArray := prog_1_method_33_code
def yX11_listedPart : MethodName := ⟨RX11, "listedPart", "(III)I"⟩
abbrev cX11_place : ByteArray := prog_1_method_34_code
def yX11_place : MethodName := ⟨RX11, "place", "(I)I"⟩
abbrev cX11_divisors : ByteArray := prog_1_method_35_code
def yX11_divisors : MethodName := ⟨RX11, "divisors", "(IIZ)I"⟩
abbrev cX11_divisor : ByteArray := prog_1_method_36_code
def yX11_divisor : MethodName := ⟨RX11, "divisor", "(IIZI)I"⟩
abbrev cX11_inner : ByteArray := prog_1_method_37_code
def yX11_inner : MethodName := ⟨RX11, "inner", "(II)I"⟩
abbrev cX11_angles : ByteArray := prog_1_method_38_code
def yX11_angles : MethodName := ⟨RX11, "angles", "(III)I"⟩
abbrev cX11_alike : ByteArray := prog_1_method_39_code
def yX11_alike : MethodName := ⟨RX11, "alike", "(III)I"⟩
abbrev cX11_alikeMany : ByteArray := prog_1_method_40_code
def yX11_alikeMany : MethodName := ⟨RX11, "alikeMany", "(III)I"⟩
abbrev cX11_commuting : ByteArray := prog_1_method_41_code
def yX11_commuting : MethodName := ⟨RX11, "commuting", "(II)I"⟩
abbrev cX11_sides : ByteArray := prog_1_method_42_code
def yX11_sides : MethodName := ⟨RX11, "sides", "(IIZ)I"⟩
abbrev cX11_cycle : ByteArray := prog_1_method_43_code
def yX11_cycle : MethodName := ⟨RX11, "cycle", "(I)I"⟩
abbrev cX11_made : ByteArray := prog_1_method_44_code
def yX11_made : MethodName := ⟨RX11, "made", "(II)I"⟩
abbrev cX11_madeAt : ByteArray := prog_1_method_45_code
def yX11_madeAt : MethodName := ⟨RX11, "madeAt", "(II)I"⟩
abbrev cX11_table : ByteArray := prog_1_method_46_code
def yX11_table : MethodName := ⟨RX11, "table", "(II)I"⟩
abbrev cX11_turnCycle : ByteArray := prog_1_method_47_code
def yX11_turnCycle : MethodName := ⟨RX11, "turnCycle", "(III)I"⟩
abbrev cX11_shared : ByteArray := prog_1_method_48_code
def yX11_shared : MethodName := ⟨RX11, "shared", "(II)I"⟩
abbrev cX11_cycles : ByteArray := prog_1_method_49_code
def yX11_cycles : MethodName := ⟨RX11, "cycles", "(I)I"⟩
abbrev cX11_nucleus : ByteArray := prog_1_method_50_code
def yX11_nucleus : MethodName := ⟨RX11, "nucleus", "(II)I"⟩
abbrev cX11_laws : ByteArray := prog_1_method_51_code
def yX11_laws : MethodName := ⟨RX11, "laws", "(III)I"⟩
abbrev cX11_bracketed : ByteArray := prog_1_method_52_code
def yX11_bracketed : MethodName := ⟨RX11, "bracketed", "(II)I"⟩
abbrev cX11_rests : ByteArray := prog_1_method_53_code
def yX11_rests : MethodName := ⟨RX11, "rests", "(III)I"⟩
abbrev cX11_keep : ByteArray := prog_1_method_54_code
def yX11_keep : MethodName := ⟨RX11, "keep", "()I"⟩
abbrev cX11_restore : ByteArray := prog_1_method_55_code
def yX11_restore : MethodName := ⟨RX11, "restore", "()I"⟩
abbrev cX11_count : ByteArray := prog_1_method_56_code
def yX11_count : MethodName := ⟨RX11, "count", "(I)I"⟩
abbrev cX11_isEighth : ByteArray := prog_1_method_57_code
def yX11_isEighth : MethodName := ⟨RX11, "isEighth", "(I)Z"⟩
abbrev cX11_areSlots : ByteArray := prog_1_method_58_code
def yX11_areSlots : MethodName := ⟨RX11, "areSlots", "(II)Z"⟩
abbrev cX11_areSlots_ : ByteArray := prog_1_method_59_code
def yX11_areSlots_ : MethodName := ⟨RX11, "areSlots", "(III)Z"⟩
abbrev cX11_isSlotSet : ByteArray := prog_1_method_60_code
def yX11_isSlotSet : MethodName := ⟨RX11, "isSlotSet", "(I)Z"⟩
abbrev cX11_isTurn : ByteArray := prog_1_method_61_code
def yX11_isTurn : MethodName := ⟨RX11, "isTurn", "(I)Z"⟩
abbrev cX11_isListedNorm : ByteArray := prog_1_method_62_code
def yX11_isListedNorm : MethodName := ⟨RX11, "isListedNorm", "(I)Z"⟩
abbrev cX11_isDivisor : ByteArray := prog_1_method_63_code
def yX11_isDivisor : MethodName := ⟨RX11, "isDivisor", "(I)Z"⟩
abbrev cX11_isRow : ByteArray := prog_1_method_64_code
def yX11_isRow : MethodName := ⟨RX11, "isRow", "(III)Z"⟩
abbrev cX11_slotOfRow : ByteArray := prog_1_method_65_code
def yX11_slotOfRow : MethodName := ⟨RX11, "slotOfRow", "(II)I"⟩
abbrev cX11_told : ByteArray := prog_1_method_66_code
def yX11_told : MethodName := ⟨RX11, "told", "(Z)I"⟩
abbrev cX11_asked : ByteArray := prog_1_method_67_code
def yX11_asked : MethodName := ⟨RX11, "asked", "(Z)I"⟩
abbrev cX11_capped : ByteArray := prog_1_method_68_code
def yX11_capped : MethodName := ⟨RX11, "capped", "(J)I"⟩
abbrev cX11_spellPart : ByteArray := prog_1_method_69_code
def yX11_spellPart : MethodName := ⟨RX11, "spellPart", "(II)V"⟩
abbrev cX11_isDivisorAt : ByteArray := prog_1_method_70_code
def yX11_isDivisorAt : MethodName := ⟨RX11, "isDivisorAt", "(IIZI)Z"⟩
abbrev cX11_areAlike : ByteArray := prog_1_method_71_code
def yX11_areAlike : MethodName := ⟨RX11, "areAlike", "([I[II)Z"⟩
abbrev cX11_doCommute : ByteArray := prog_1_method_72_code
def yX11_doCommute : MethodName := ⟨RX11, "doCommute", "([I[I)Z"⟩
abbrev cX11_doAssociate : ByteArray := prog_1_method_73_code
def yX11_doAssociate : MethodName := ⟨RX11, "doAssociate", "([I[I[I)Z"⟩
abbrev cX11_wholeSlots : ByteArray := prog_1_method_74_code
def yX11_wholeSlots : MethodName := ⟨RX11, "wholeSlots", "()I"⟩
abbrev cX11_emptySlots : ByteArray := prog_1_method_75_code
def yX11_emptySlots : MethodName := ⟨RX11, "emptySlots", "()I"⟩
def RX12 : String := "EightPartsModel"
def TX12 : u_T := fun k => match k with
  | 0 => ("EightPartsModel", "thrown", "I", false)
  | 1 => ("EightPartsModel", "signs", "[I", true)
  | 2 => ("EightPartsModel", "row", "[I", true)
  | 3 => ("EightPartsModel", "wide", "[J", true)
  | 4 => ("EightPartsModel", "ruling", "I", false)
  | 5 => ("EightPartsModel", "lists", "[I", true)
  | 6 => ("EightPartsModel", "listMany", "[I", true)
  | 7 => ("EightPartsModel", "listOrder", "[I", true)
  | 8 => ("EightPartsModel", "now", "[I", true)
  | 9 => ("EightPartsModel", "left", "[I", true)
  | 10 => ("EightPartsModel", "best", "[J", true)
  | 11 => ("EightPartsModel", "trial", "[J", true)
  | 12 => ("EightPartsModel", "restMany", "I", false)
  | 13 => ("EightPartsModel", "restNorm", "J", false)
  | 14 => ("EightPartsModel", "restShare", "J", false)
  | 15 => ("EightPartsModel", "hasLast", "Z", false)
  | 16 => ("EightPartsModel", "wayFrom", "[I", true)
  | 17 => ("EightPartsModel", "wayMany", "[I", true)
  | 18 => ("EightPartsModel", "wayIs", "[Z", true)
  | 19 => ("EightPartsModel", "tape", "[I", true)
  | 20 => ("EightPartsModel", "taped", "I", false)
  | 21 => ("EightPartsModel", "opened", "[I", true)
  | 22 => ("EightPartsModel", "hasSum", "[Z", true)
  | 23 => ("EightPartsModel", "hasTerm", "[Z", true)
  | 24 => ("EightPartsModel", "comesBy", "[I", true)
  | 25 => ("EightPartsModel", "open", "I", false)
  | 26 => ("EightPartsModel", "level", "I", false)
  | 27 => ("EightPartsModel", "couldBe", "Z", false)
  | 28 => ("EightPartsModel", "at", "I", false)
  | 29 => ("EightPartsModel", "text", "[I", true)
  | 30 => ("EightPartsModel", "textMany", "I", false)
  | 31 => ("EightPartsModel", "joined", "[I", true)
  | 32 => ("EightPartsModel", "joinedOrder", "I", false)
  | 33 => ("EightPartsModel", "isMade", "[Z", true)
  | 34 => ("EightPartsModel", "makes", "[I", true)
  | 35 => ("EightPartsModel", "makesMany", "I", false)
  | 36 => ("EightPartsModel", "kept", "[I", true)
  | _ => ("EightPartsModel", "keptMany", "I", false)
def tyX12 : Nat → FieldType := fun k => match k with
  | 0 => .int
  | 1 => .array .int
  | 2 => .array .int
  | 3 => .array .long
  | 4 => .int
  | 5 => .array .int
  | 6 => .array .int
  | 7 => .array .int
  | 8 => .array .int
  | 9 => .array .int
  | 10 => .array .long
  | 11 => .array .long
  | 12 => .int
  | 13 => .long
  | 14 => .long
  | 15 => .boolean
  | 16 => .array .int
  | 17 => .array .int
  | 18 => .array .boolean
  | 19 => .array .int
  | 20 => .int
  | 21 => .array .int
  | 22 => .array .boolean
  | 23 => .array .boolean
  | 24 => .array .int
  | 25 => .int
  | 26 => .int
  | 27 => .boolean
  | 28 => .int
  | 29 => .array .int
  | 30 => .int
  | 31 => .array .int
  | 32 => .int
  | 33 => .array .boolean
  | 34 => .array .int
  | 35 => .int
  | 36 => .array .int
  | _ => .int
theorem nmX12 : ∀ a, a < 38 → ∀ b, b < 38 → a ≠ b → (TX12 a).2.1 ≠ (TX12 b).2.1 := by decide +kernel
theorem tyX12_ok : ∀ k, k < 38 → parseFieldDescriptor (TX12 k).2.2.1 = some (tyX12 k) := by decide +kernel
abbrev cX12_in : ByteArray := prog_14_method_2_code
def yX12_in : MethodName := ⟨RX12, "in", "(JJJ)Z"⟩
abbrev cX12_has : ByteArray := prog_14_method_3_code
def yX12_has : MethodName := ⟨RX12, "has", "(II)Z"⟩
abbrev cX12_bitsOf : ByteArray := prog_14_method_4_code
def yX12_bitsOf : MethodName := ⟨RX12, "bitsOf", "(I)I"⟩
abbrev cX12_init : ByteArray := prog_14_method_6_code
def yX12_init : MethodName := ⟨RX12, "<init>", "()V"⟩
abbrev cX12_isSlot : ByteArray := prog_14_method_7_code
def yX12_isSlot : MethodName := ⟨RX12, "isSlot", "(I)Z"⟩
abbrev cX12_isPart : ByteArray := prog_14_method_8_code
def yX12_isPart : MethodName := ⟨RX12, "isPart", "(I)Z"⟩
abbrev cX12_becomes : ByteArray := prog_14_method_9_code
def yX12_becomes : MethodName := ⟨RX12, "becomes", "(II)V"⟩
abbrev cX12_nought : ByteArray := prog_14_method_10_code
def yX12_nought : MethodName := ⟨RX12, "nought", "(I)V"⟩
abbrev cX12_areSame : ByteArray := prog_14_method_11_code
def yX12_areSame : MethodName := ⟨RX12, "areSame", "(II)Z"⟩
abbrev cX12_isNought : ByteArray := prog_14_method_12_code
def yX12_isNought : MethodName := ⟨RX12, "isNought", "(I)Z"⟩
abbrev cX12_comes : ByteArray := prog_14_method_13_code
def yX12_comes : MethodName := ⟨RX12, "comes", "(I)Z"⟩
abbrev cX12_isProduct : ByteArray := prog_14_method_14_code
def yX12_isProduct : MethodName := ⟨RX12, "isProduct", "(IIZZ)Z"⟩
abbrev cX12_multiplies : ByteArray := prog_14_method_15_code
def yX12_multiplies : MethodName := ⟨RX12, "multiplies", "(III)Z"⟩
abbrev cX12_adds : ByteArray := prog_14_method_16_code
def yX12_adds : MethodName := ⟨RX12, "adds", "(IIII)Z"⟩
abbrev cX12_mirrors : ByteArray := prog_14_method_17_code
def yX12_mirrors : MethodName := ⟨RX12, "mirrors", "(II)V"⟩
abbrev cX12_normOf : ByteArray := prog_14_method_18_code
def yX12_normOf : MethodName := ⟨RX12, "normOf", "(I)J"⟩
abbrev cX12_held : ByteArray := prog_14_method_19_code
def yX12_held : MethodName := ⟨RX12, "held", "(J)I"⟩
abbrev cX12_oddOf : ByteArray := prog_14_method_20_code
def yX12_oddOf : MethodName := ⟨RX12, "oddOf", "(I)I"⟩
abbrev cX12_isCode : ByteArray := prog_14_method_21_code
def yX12_isCode : MethodName := ⟨RX12, "isCode", "(I)Z"⟩
abbrev cX12_isOf : ByteArray := prog_14_method_22_code
def yX12_isOf : MethodName := ⟨RX12, "isOf", "(II)Z"⟩
abbrev cX12_isWhole : ByteArray := prog_14_method_23_code
def yX12_isWhole : MethodName := ⟨RX12, "isWhole", "(I)Z"⟩
abbrev cX12_isUnit : ByteArray := prog_14_method_24_code
def yX12_isUnit : MethodName := ⟨RX12, "isUnit", "(I)Z"⟩
abbrev cX12_listFrom : ByteArray := prog_14_method_25_code
def yX12_listFrom : MethodName := ⟨RX12, "listFrom", "(I)I"⟩
abbrev cX12_oddIn : ByteArray := prog_14_method_26_code
def yX12_oddIn : MethodName := ⟨RX12, "oddIn", "([I)I"⟩
abbrev cX12_laysList : ByteArray := prog_14_method_27_code
def yX12_laysList : MethodName := ⟨RX12, "laysList", "(II)V"⟩
abbrev cX12_isNorm : ByteArray := prog_14_method_28_code
def yX12_isNorm : MethodName := ⟨RX12, "isNorm", "(I)Z"⟩
abbrev cX12_listSize : ByteArray := prog_14_method_29_code
def yX12_listSize : MethodName := ⟨RX12, "listSize", "(I)I"⟩
abbrev cX12_brings : ByteArray := prog_14_method_30_code
def yX12_brings : MethodName := ⟨RX12, "brings", "(III)V"⟩
abbrev cX12_against : ByteArray := prog_14_method_31_code
def yX12_against : MethodName := ⟨RX12, "against", "(III)I"⟩
abbrev cX12_numberOf : ByteArray := prog_14_method_32_code
def yX12_numberOf : MethodName := ⟨RX12, "numberOf", "(I)I"⟩
abbrev cX12_put : ByteArray := prog_14_method_33_code
def yX12_put : MethodName := ⟨RX12, "put", "(III)Z"⟩
abbrev cX12_one : ByteArray := prog_14_method_34_code
def yX12_one : MethodName := ⟨RX12, "one", "(II)Z"⟩
abbrev cX12_listed : ByteArray := prog_14_method_35_code
def yX12_listed : MethodName := ⟨RX12, "listed", "(III)Z"⟩
abbrev cX12_copy : ByteArray := prog_14_method_36_code
def yX12_copy : MethodName := ⟨RX12, "copy", "(II)Z"⟩
abbrev cX12_order : ByteArray := prog_14_method_37_code
def yX12_order : MethodName := ⟨RX12, "order", "(I)I"⟩
abbrev cX12_can : ByteArray := prog_14_method_38_code
def yX12_can : MethodName := ⟨RX12, "can", "(Z)I"⟩
abbrev cX12_ends : ByteArray := prog_14_method_39_code
def yX12_ends : MethodName := ⟨RX12, "ends", "(ZII)I"⟩
abbrev cX12_areSlots : ByteArray := prog_14_method_40_code
def yX12_areSlots : MethodName := ⟨RX12, "areSlots", "(III)Z"⟩
abbrev cX12_sum : ByteArray := prog_14_method_41_code
def yX12_sum : MethodName := ⟨RX12, "sum", "(III)I"⟩
abbrev cX12_less : ByteArray := prog_14_method_42_code
def yX12_less : MethodName := ⟨RX12, "less", "(III)I"⟩
abbrev cX12_product : ByteArray := prog_14_method_43_code
def yX12_product : MethodName := ⟨RX12, "product", "(III)I"⟩
abbrev cX12_mirror : ByteArray := prog_14_method_44_code
def yX12_mirror : MethodName := ⟨RX12, "mirror", "(II)I"⟩
abbrev cX12_times : ByteArray := prog_14_method_45_code
def yX12_times : MethodName := ⟨RX12, "times", "(III)I"⟩
abbrev cX12_isTurn : ByteArray := prog_14_method_46_code
def yX12_isTurn : MethodName := ⟨RX12, "isTurn", "(I)Z"⟩
abbrev cX12_turns : ByteArray := prog_14_method_47_code
def yX12_turns : MethodName := ⟨RX12, "turns", "(IIII)Z"⟩
abbrev cX12_turn : ByteArray := prog_14_method_48_code
def yX12_turn : MethodName := ⟨RX12, "turn", "(IIII)I"⟩
abbrev cX12_isRow : ByteArray := prog_14_method_49_code
def yX12_isRow : MethodName := ⟨RX12, "isRow", "(III)Z"⟩
abbrev cX12_slotIn : ByteArray := prog_14_method_50_code
def yX12_slotIn : MethodName := ⟨RX12, "slotIn", "(II)I"⟩
abbrev cX12_chain : ByteArray := prog_14_method_51_code
def yX12_chain : MethodName := ⟨RX12, "chain", "(IIIII)I"⟩
abbrev cX12_powers : ByteArray := prog_14_method_52_code
def yX12_powers : MethodName := ⟨RX12, "powers", "(III)Z"⟩
abbrev cX12_power : ByteArray := prog_14_method_53_code
def yX12_power : MethodName := ⟨RX12, "power", "(III)I"⟩
abbrev cX12_associator : ByteArray := prog_14_method_54_code
def yX12_associator : MethodName := ⟨RX12, "associator", "(IIII)I"⟩
abbrev cX12_commutator : ByteArray := prog_14_method_55_code
def yX12_commutator : MethodName := ⟨RX12, "commutator", "(III)I"⟩
abbrev cX12_near : ByteArray := prog_14_method_56_code
def yX12_near : MethodName := ⟨RX12, "near", "(JJI)J"⟩
abbrev cX12_isAhead : ByteArray := prog_14_method_57_code
def yX12_isAhead : MethodName := ⟨RX12, "isAhead", "()Z"⟩
abbrev cX12_nears : ByteArray := prog_14_method_58_code
def yX12_nears : MethodName := ⟨RX12, "nears", "(J)V"⟩
abbrev cX12_nearest : ByteArray := prog_14_method_59_code
def yX12_nearest : MethodName := ⟨RX12, "nearest", "(III)I"⟩
abbrev cX12_divides : ByteArray := prog_14_method_60_code
def yX12_divides : MethodName := ⟨RX12, "divides", "(II)Z"⟩
abbrev cX12_divide : ByteArray := prog_14_method_61_code
def yX12_divide : MethodName := ⟨RX12, "divide", "(IIII)I"⟩
abbrev cX12_goesOn : ByteArray := prog_14_method_62_code
def yX12_goesOn : MethodName := ⟨RX12, "goesOn", "(II)V"⟩
abbrev cX12_last : ByteArray := prog_14_method_63_code
def yX12_last : MethodName := ⟨RX12, "last", "(III)I"⟩
abbrev cX12_rests : ByteArray := prog_14_method_64_code
def yX12_rests : MethodName := ⟨RX12, "rests", "(III)I"⟩
abbrev cX12_laysWays : ByteArray := prog_14_method_65_code
def yX12_laysWays : MethodName := ⟨RX12, "laysWays", "(II)V"⟩
abbrev cX12_joins : ByteArray := prog_14_method_66_code
def yX12_joins : MethodName := ⟨RX12, "joins", "(III)I"⟩
abbrev cX12_bracket : ByteArray := prog_14_method_67_code
def yX12_bracket : MethodName := ⟨RX12, "bracket", "(IIII)I"⟩
abbrev cX12_bracketed : ByteArray := prog_14_method_68_code
def yX12_bracketed : MethodName := ⟨RX12, "bracketed", "(II)I"⟩
abbrev cX12_feed : ByteArray := prog_14_method_69_code
def yX12_feed : MethodName := ⟨RX12, "feed", "(IIIII)I"⟩
abbrev cX12_back : ByteArray := prog_14_method_70_code
def yX12_back : MethodName := ⟨RX12, "back", "(I)I"⟩
abbrev cX12_opens : ByteArray := prog_14_method_71_code
def yX12_opens : MethodName := ⟨RX12, "opens", "(I)V"⟩
abbrev cX12_factors : ByteArray := prog_14_method_72_code
def yX12_factors : MethodName := ⟨RX12, "factors", "(I)V"⟩
abbrev cX12_sums : ByteArray := prog_14_method_73_code
def yX12_sums : MethodName := ⟨RX12, "sums", "()V"⟩
abbrev cX12_begins : ByteArray := prog_14_method_74_code
def yX12_begins : MethodName := ⟨RX12, "begins", "(I)Z"⟩
abbrev cX12_follows : ByteArray := prog_14_method_75_code
def yX12_follows : MethodName := ⟨RX12, "follows", "(I)Z"⟩
abbrev cX12_works : ByteArray := prog_14_method_76_code
def yX12_works : MethodName := ⟨RX12, "works", "()I"⟩
abbrev cX12_work : ByteArray := prog_14_method_77_code
def yX12_work : MethodName := ⟨RX12, "work", "(I)I"⟩
abbrev cX12_part : ByteArray := prog_14_method_78_code
def yX12_part : MethodName := ⟨RX12, "part", "(II)I"⟩
abbrev cX12_norm : ByteArray := prog_14_method_79_code
def yX12_norm : MethodName := ⟨RX12, "norm", "(I)I"⟩
abbrev cX12_writes : ByteArray := prog_14_method_80_code
def yX12_writes : MethodName := ⟨RX12, "writes", "(I)V"⟩
abbrev cX12_writesNumber : ByteArray := prog_14_method_81_code
def yX12_writesNumber : MethodName := ⟨RX12, "writesNumber", "(I)V"⟩
abbrev cX12_writesAll : ByteArray := prog_14_method_82_code
def yX12_writesAll : MethodName := ⟨RX12, "writesAll", "(I)V"⟩
abbrev cX12_spell : ByteArray := prog_14_method_83_code
def yX12_spell : MethodName := ⟨RX12, "spell", "(II)I"⟩
abbrev cX12_turned : ByteArray := prog_14_method_84_code
def yX12_turned : MethodName := ⟨RX12, "turned", "(IIII)I"⟩
abbrev cX12_odd : ByteArray := prog_14_method_85_code
def yX12_odd : MethodName := ⟨RX12, "odd", "(I)I"⟩
abbrev cX12_whole : ByteArray := prog_14_method_86_code
def yX12_whole : MethodName := ⟨RX12, "whole", "(I)I"⟩
abbrev cX12_orders : ByteArray := prog_14_method_87_code
def yX12_orders : MethodName := ⟨RX12, "orders", "(I)I"⟩
abbrev cX12_same : ByteArray := prog_14_method_88_code
def yX12_same : MethodName := ⟨RX12, "same", "(II)I"⟩
abbrev cX12_many : ByteArray := prog_14_method_89_code
def yX12_many : MethodName := ⟨RX12, "many", "(I)I"⟩
abbrev cX12_listedPart : ByteArray := prog_14_method_90_code
def yX12_listedPart : MethodName := ⟨RX12, "listedPart", "(III)I"⟩
abbrev cX12_place : ByteArray := prog_14_method_91_code
def yX12_place : MethodName := ⟨RX12, "place", "(I)I"⟩
abbrev cX12_isWholeBy : ByteArray := prog_14_method_92_code
def yX12_isWholeBy : MethodName := ⟨RX12, "isWholeBy", "(J)Z"⟩
abbrev cX12_isDivisor : ByteArray := prog_14_method_93_code
def yX12_isDivisor : MethodName := ⟨RX12, "isDivisor", "(IIIZ)Z"⟩
abbrev cX12_divisorsOf : ByteArray := prog_14_method_94_code
def yX12_divisorsOf : MethodName := ⟨RX12, "divisorsOf", "(IIZI)I"⟩
abbrev cX12_divisors : ByteArray := prog_14_method_95_code
def yX12_divisors : MethodName := ⟨RX12, "divisors", "(IIZ)I"⟩
abbrev cX12_divisor : ByteArray := prog_14_method_96_code
def yX12_divisor : MethodName := ⟨RX12, "divisor", "(IIZI)I"⟩
abbrev cX12_innerOf : ByteArray := prog_14_method_97_code
def yX12_innerOf : MethodName := ⟨RX12, "innerOf", "(II)I"⟩
abbrev cX12_inner : ByteArray := prog_14_method_98_code
def yX12_inner : MethodName := ⟨RX12, "inner", "(II)I"⟩
abbrev cX12_angles : ByteArray := prog_14_method_99_code
def yX12_angles : MethodName := ⟨RX12, "angles", "(III)I"⟩
abbrev cX12_areAlike : ByteArray := prog_14_method_100_code
def yX12_areAlike : MethodName := ⟨RX12, "areAlike", "(III)Z"⟩
abbrev cX12_alike : ByteArray := prog_14_method_101_code
def yX12_alike : MethodName := ⟨RX12, "alike", "(III)I"⟩
abbrev cX12_alikeMany : ByteArray := prog_14_method_102_code
def yX12_alikeMany : MethodName := ⟨RX12, "alikeMany", "(III)I"⟩
abbrev cX12_doCommute : ByteArray := prog_14_method_103_code
def yX12_doCommute : MethodName := ⟨RX12, "doCommute", "(II)Z"⟩
abbrev cX12_commuting : ByteArray := prog_14_method_104_code
def yX12_commuting : MethodName := ⟨RX12, "commuting", "(II)I"⟩
abbrev cX12_sides : ByteArray := prog_14_method_105_code
def yX12_sides : MethodName := ⟨RX12, "sides", "(IIZ)I"⟩
abbrev cX12_cycleOf : ByteArray := prog_14_method_106_code
def yX12_cycleOf : MethodName := ⟨RX12, "cycleOf", "(I)I"⟩
abbrev cX12_cycle : ByteArray := prog_14_method_107_code
def yX12_cycle : MethodName := ⟨RX12, "cycle", "(I)I"⟩
abbrev cX12_cycles : ByteArray := prog_14_method_108_code
def yX12_cycles : MethodName := ⟨RX12, "cycles", "(I)I"⟩
abbrev cX12_laysTable : ByteArray := prog_14_method_109_code
def yX12_laysTable : MethodName := ⟨RX12, "laysTable", "()V"⟩
abbrev cX12_table : ByteArray := prog_14_method_110_code
def yX12_table : MethodName := ⟨RX12, "table", "(II)I"⟩
abbrev cX12_adds_ : ByteArray := prog_14_method_111_code
def yX12_adds_ : MethodName := ⟨RX12, "adds", "(I)V"⟩
abbrev cX12_laysMade : ByteArray := prog_14_method_112_code
def yX12_laysMade : MethodName := ⟨RX12, "laysMade", "(I)Z"⟩
abbrev cX12_madeProduct : ByteArray := prog_14_method_113_code
def yX12_madeProduct : MethodName := ⟨RX12, "madeProduct", "(II)I"⟩
abbrev cX12_areAssociative : ByteArray := prog_14_method_114_code
def yX12_areAssociative : MethodName := ⟨RX12, "areAssociative", "()Z"⟩
abbrev cX12_center : ByteArray := prog_14_method_115_code
def yX12_center : MethodName := ⟨RX12, "center", "()I"⟩
abbrev cX12_squares : ByteArray := prog_14_method_116_code
def yX12_squares : MethodName := ⟨RX12, "squares", "()I"⟩
abbrev cX12_made : ByteArray := prog_14_method_117_code
def yX12_made : MethodName := ⟨RX12, "made", "(II)I"⟩
abbrev cX12_madeAt : ByteArray := prog_14_method_118_code
def yX12_madeAt : MethodName := ⟨RX12, "madeAt", "(II)I"⟩
abbrev cX12_turnCycle : ByteArray := prog_14_method_119_code
def yX12_turnCycle : MethodName := ⟨RX12, "turnCycle", "(III)I"⟩
abbrev cX12_shared : ByteArray := prog_14_method_120_code
def yX12_shared : MethodName := ⟨RX12, "shared", "(II)I"⟩
abbrev cX12_nucleus : ByteArray := prog_14_method_121_code
def yX12_nucleus : MethodName := ⟨RX12, "nucleus", "(II)I"⟩
abbrev cX12_both : ByteArray := prog_14_method_122_code
def yX12_both : MethodName := ⟨RX12, "both", "(IIII)Z"⟩
abbrev cX12_laws : ByteArray := prog_14_method_123_code
def yX12_laws : MethodName := ⟨RX12, "laws", "(III)I"⟩
abbrev cX12_keep : ByteArray := prog_14_method_124_code
def yX12_keep : MethodName := ⟨RX12, "keep", "()I"⟩
abbrev cX12_restore : ByteArray := prog_14_method_125_code
def yX12_restore : MethodName := ⟨RX12, "restore", "()I"⟩
abbrev cX12_wholes : ByteArray := prog_14_method_126_code
def yX12_wholes : MethodName := ⟨RX12, "wholes", "()I"⟩
abbrev cX12_noughts : ByteArray := prog_14_method_127_code
def yX12_noughts : MethodName := ⟨RX12, "noughts", "()I"⟩
abbrev cX12_count : ByteArray := prog_14_method_128_code
def yX12_count : MethodName := ⟨RX12, "count", "(I)I"⟩
def RJx145de : String := "java/io/Serializable"
def TJx145de : u_T := fun k => match k with
  | _ => ("", "", "", false)
def tyJx145de : Nat → FieldType := fun k => match k with
  | _ => .int
theorem nmJx145de : ∀ a, a < 0 → ∀ b, b < 0 → a ≠ b → (TJx145de a).2.1 ≠ (TJx145de b).2.1 := by decide +kernel
theorem tyJx145de_ok : ∀ k, k < 0 → parseFieldDescriptor (TJx145de k).2.2.1 = some (tyJx145de k) := by decide +kernel
def RJ5 : String := "java/lang/AbstractStringBuilder"
def TJ5 : u_T := fun k => match k with
  | _ => ("", "", "", false)
def tyJ5 : Nat → FieldType := fun k => match k with
  | _ => .int
theorem nmJ5 : ∀ a, a < 0 → ∀ b, b < 0 → a ≠ b → (TJ5 a).2.1 ≠ (TJ5 b).2.1 := by decide +kernel
theorem tyJ5_ok : ∀ k, k < 0 → parseFieldDescriptor (TJ5 k).2.2.1 = some (tyJ5 k) := by decide +kernel
abbrev cJ5_init_d00df : ByteArray := prog_15_method_2_code
def yJ5_init_d00df : MethodName := ⟨RJ5, "<init>", "(I)V"⟩
abbrev cJ5_length_8abf5 : ByteArray := prog_15_method_6_code
def yJ5_length_8abf5 : MethodName := ⟨RJ5, "length", "()I"⟩
abbrev cJ5_ensureCapacityInternal_d00df : ByteArray := prog_15_method_9_code
def yJ5_ensureCapacityInternal_d00df : MethodName := ⟨RJ5, "ensureCapacityInternal", "(I)V"⟩
abbrev cJ5_newCapacity_0f7a4 : ByteArray := prog_15_method_10_code
def yJ5_newCapacity_0f7a4 : MethodName := ⟨RJ5, "newCapacity", "(I)I"⟩
abbrev cJ5_inflate_da8c8 : ByteArray := prog_15_method_11_code
def yJ5_inflate_da8c8 : MethodName := ⟨RJ5, "inflate", "()V"⟩
abbrev cJ5_setLength_d00df : ByteArray := prog_15_method_13_code
def yJ5_setLength_d00df : MethodName := ⟨RJ5, "setLength", "(I)V"⟩
abbrev cJ5_charAt_5068e : ByteArray := prog_15_method_14_code
def yJ5_charAt_5068e : MethodName := ⟨RJ5, "charAt", "(I)C"⟩
abbrev cJ5_append_cf1ce : ByteArray := prog_15_method_22_code
def yJ5_append_cf1ce : MethodName := ⟨RJ5, "append", "(Ljava/lang/String;)Ljava/lang/AbstractStringBuilder;"⟩
abbrev cJ5_appendNull_278bc : ByteArray := prog_15_method_26_code
def yJ5_appendNull_278bc : MethodName := ⟨RJ5, "appendNull", "()Ljava/lang/AbstractStringBuilder;"⟩
abbrev cJ5_append_3fe6f : ByteArray := prog_15_method_31_code
def yJ5_append_3fe6f : MethodName := ⟨RJ5, "append", "(C)Ljava/lang/AbstractStringBuilder;"⟩
abbrev cJ5_append_c97b9 : ByteArray := prog_15_method_32_code
def yJ5_append_c97b9 : MethodName := ⟨RJ5, "append", "(I)Ljava/lang/AbstractStringBuilder;"⟩
abbrev cJ5_isLatin1_aae02 : ByteArray := prog_15_method_68_code
def yJ5_isLatin1_aae02 : MethodName := ⟨RJ5, "isLatin1", "()Z"⟩
abbrev cJ5_inflateIfNeededFor_a7421 : ByteArray := prog_15_method_71_code
def yJ5_inflateIfNeededFor_a7421 : MethodName := ⟨RJ5, "inflateIfNeededFor", "(Ljava/lang/String;)V"⟩
abbrev cJ5_putStringAt_47b60 : ByteArray := prog_15_method_73_code
def yJ5_putStringAt_47b60 : MethodName := ⟨RJ5, "putStringAt", "(ILjava/lang/String;)V"⟩
def RJx2cfe8 : String := "java/lang/Appendable"
def TJx2cfe8 : u_T := fun k => match k with
  | _ => ("", "", "", false)
def tyJx2cfe8 : Nat → FieldType := fun k => match k with
  | _ => .int
theorem nmJx2cfe8 : ∀ a, a < 0 → ∀ b, b < 0 → a ≠ b → (TJx2cfe8 a).2.1 ≠ (TJx2cfe8 b).2.1 := by decide +kernel
theorem tyJx2cfe8_ok : ∀ k, k < 0 → parseFieldDescriptor (TJx2cfe8 k).2.2.1 = some (tyJx2cfe8 k) := by decide +kernel
def RJx9f9b0 : String := "java/lang/CharSequence"
def TJx9f9b0 : u_T := fun k => match k with
  | _ => ("", "", "", false)
def tyJx9f9b0 : Nat → FieldType := fun k => match k with
  | _ => .int
theorem nmJx9f9b0 : ∀ a, a < 0 → ∀ b, b < 0 → a ≠ b → (TJx9f9b0 a).2.1 ≠ (TJx9f9b0 b).2.1 := by decide +kernel
theorem tyJx9f9b0_ok : ∀ k, k < 0 → parseFieldDescriptor (TJx9f9b0 k).2.2.1 = some (tyJx9f9b0 k) := by decide +kernel
def RJx8e188 : String := "java/lang/Cloneable"
def TJx8e188 : u_T := fun k => match k with
  | _ => ("", "", "", false)
def tyJx8e188 : Nat → FieldType := fun k => match k with
  | _ => .int
theorem nmJx8e188 : ∀ a, a < 0 → ∀ b, b < 0 → a ≠ b → (TJx8e188 a).2.1 ≠ (TJx8e188 b).2.1 := by decide +kernel
theorem tyJx8e188_ok : ∀ k, k < 0 → parseFieldDescriptor (TJx8e188 k).2.2.1 = some (tyJx8e188 k) := by decide +kernel
def RJxb160c : String := "java/lang/Comparable"
def TJxb160c : u_T := fun k => match k with
  | _ => ("", "", "", false)
def tyJxb160c : Nat → FieldType := fun k => match k with
  | _ => .int
theorem nmJxb160c : ∀ a, a < 0 → ∀ b, b < 0 → a ≠ b → (TJxb160c a).2.1 ≠ (TJxb160c b).2.1 := by decide +kernel
theorem tyJxb160c_ok : ∀ k, k < 0 → parseFieldDescriptor (TJxb160c k).2.2.1 = some (tyJxb160c k) := by decide +kernel
def RJ6 : String := "java/lang/Integer"
def TJ6 : u_T := fun k => match k with
  | _ => ("", "", "", false)
def tyJ6 : Nat → FieldType := fun k => match k with
  | _ => .int
theorem nmJ6 : ∀ a, a < 0 → ∀ b, b < 0 → a ≠ b → (TJ6 a).2.1 ≠ (TJ6 b).2.1 := by decide +kernel
theorem tyJ6_ok : ∀ k, k < 0 → parseFieldDescriptor (TJ6 k).2.2.1 = some (tyJ6 k) := by decide +kernel
abbrev cJ6_getChars_ba4f3 : ByteArray := prog_17_method_12_code
def yJ6_getChars_ba4f3 : MethodName := ⟨RJ6, "getChars", "(II[B)I"⟩
abbrev cJ6_stringSize_0f7a4 : ByteArray := prog_17_method_13_code
def yJ6_stringSize_0f7a4 : MethodName := ⟨RJ6, "stringSize", "(I)I"⟩
abbrev cJ6_bitCount_0f7a4 : ByteArray := prog_17_method_49_code
def yJ6_bitCount_0f7a4 : MethodName := ⟨RJ6, "bitCount", "(I)I"⟩
def RJ9 : String := "java/lang/Math"
def TJ9 : u_T := fun k => match k with
  | _ => ("", "", "", false)
def tyJ9 : Nat → FieldType := fun k => match k with
  | _ => .int
theorem nmJ9 : ∀ a, a < 0 → ∀ b, b < 0 → a ≠ b → (TJ9 a).2.1 ≠ (TJ9 b).2.1 := by decide +kernel
theorem tyJ9_ok : ∀ k, k < 0 → parseFieldDescriptor (TJ9 k).2.2.1 = some (tyJ9 k) := by decide +kernel
abbrev cJ9_floorDiv_f86c9 : ByteArray := prog_18_method_49_code
def yJ9_floorDiv_f86c9 : MethodName := ⟨RJ9, "floorDiv", "(JJ)J"⟩
abbrev cJ9_abs_0f7a4 : ByteArray := prog_18_method_59_code
def yJ9_abs_0f7a4 : MethodName := ⟨RJ9, "abs", "(I)I"⟩
abbrev cJ9_max_7cf53 : ByteArray := prog_18_method_65_code
def yJ9_max_7cf53 : MethodName := ⟨RJ9, "max", "(II)I"⟩
abbrev cJ9_max_f86c9 : ByteArray := prog_18_method_66_code
def yJ9_max_f86c9 : MethodName := ⟨RJ9, "max", "(JJ)J"⟩
abbrev cJ9_min_7cf53 : ByteArray := prog_18_method_69_code
def yJ9_min_7cf53 : MethodName := ⟨RJ9, "min", "(II)I"⟩
abbrev cJ9_min_f86c9 : ByteArray := prog_18_method_70_code
def yJ9_min_f86c9 : MethodName := ⟨RJ9, "min", "(JJ)J"⟩
def RJxd2413 : String := "java/lang/Number"
def TJxd2413 : u_T := fun k => match k with
  | _ => ("", "", "", false)
def tyJxd2413 : Nat → FieldType := fun k => match k with
  | _ => .int
theorem nmJxd2413 : ∀ a, a < 0 → ∀ b, b < 0 → a ≠ b → (TJxd2413 a).2.1 ≠ (TJxd2413 b).2.1 := by decide +kernel
theorem tyJxd2413_ok : ∀ k, k < 0 → parseFieldDescriptor (TJxd2413 k).2.2.1 = some (tyJxd2413 k) := by decide +kernel
def RJ0 : String := "java/lang/String"
def TJ0 : u_T := fun k => match k with
  | _ => ("", "", "", false)
def tyJ0 : Nat → FieldType := fun k => match k with
  | _ => .int
theorem nmJ0 : ∀ a, a < 0 → ∀ b, b < 0 → a ≠ b → (TJ0 a).2.1 ≠ (TJ0 b).2.1 := by decide +kernel
theorem tyJ0_ok : ∀ k, k < 0 → parseFieldDescriptor (TJ0 k).2.2.1 = some (tyJ0 k) := by decide +kernel
abbrev cJ0_length_8abf5 : ByteArray := prog_20_method_54_code
def yJ0_length_8abf5 : MethodName := ⟨RJ0, "length", "()I"⟩
abbrev cJ0_getBytes_840e7 : ByteArray := prog_20_method_147_code
def yJ0_getBytes_840e7 : MethodName := ⟨RJ0, "getBytes", "([BIB)V"⟩
abbrev cJ0_coder_7d493 : ByteArray := prog_20_method_152_code
def yJ0_coder_7d493 : MethodName := ⟨RJ0, "coder", "()B"⟩
abbrev cJ0_checkIndex_df160 : ByteArray := prog_20_method_155_code
def yJ0_checkIndex_df160 : MethodName := ⟨RJ0, "checkIndex", "(II)V"⟩
abbrev cJ0_checkBoundsOffCount_cabcc : ByteArray := prog_20_method_157_code
def yJ0_checkBoundsOffCount_cabcc : MethodName := ⟨RJ0, "checkBoundsOffCount", "(III)I"⟩
abbrev cJ0_checkBoundsBeginEnd_23922 : ByteArray := prog_20_method_158_code
def yJ0_checkBoundsBeginEnd_23922 : MethodName := ⟨RJ0, "checkBoundsBeginEnd", "(III)V"⟩
def RJ4 : String := "java/lang/StringBuilder"
def TJ4 : u_T := fun k => match k with
  | 0 => ("java/lang/AbstractStringBuilder", "value", "[B", false)
  | 1 => ("java/lang/AbstractStringBuilder", "coder", "B", false)
  | 2 => ("java/lang/AbstractStringBuilder", "maybeLatin1", "Z", false)
  | _ => ("java/lang/AbstractStringBuilder", "count", "I", false)
def tyJ4 : Nat → FieldType := fun k => match k with
  | 0 => .array .byte
  | 1 => .byte
  | 2 => .boolean
  | _ => .int
theorem nmJ4 : ∀ a, a < 4 → ∀ b, b < 4 → a ≠ b → (TJ4 a).2.1 ≠ (TJ4 b).2.1 := by decide +kernel
theorem tyJ4_ok : ∀ k, k < 4 → parseFieldDescriptor (TJ4 k).2.2.1 = some (tyJ4 k) := by decide +kernel
abbrev cJ4_init_da8c8 : ByteArray := prog_21_method_1_code
def yJ4_init_da8c8 : MethodName := ⟨RJ4, "<init>", "()V"⟩
abbrev cJ4_append_15ec4 : ByteArray := prog_21_method_7_code
def yJ4_append_15ec4 : MethodName := ⟨RJ4, "append", "(Ljava/lang/String;)Ljava/lang/StringBuilder;"⟩
abbrev cJ4_append_cf468 : ByteArray := prog_21_method_14_code
def yJ4_append_cf468 : MethodName := ⟨RJ4, "append", "(C)Ljava/lang/StringBuilder;"⟩
abbrev cJ4_append_bf812 : ByteArray := prog_21_method_15_code
def yJ4_append_bf812 : MethodName := ⟨RJ4, "append", "(I)Ljava/lang/StringBuilder;"⟩
abbrev cJ4_charAt_5068e : ByteArray := prog_21_method_88_code
def yJ4_charAt_5068e : MethodName := ⟨RJ4, "charAt", "(I)C"⟩
abbrev cJ4_setLength_d00df : ByteArray := prog_21_method_89_code
def yJ4_setLength_d00df : MethodName := ⟨RJ4, "setLength", "(I)V"⟩
abbrev cJ4_length_8abf5 : ByteArray := prog_21_method_93_code
def yJ4_length_8abf5 : MethodName := ⟨RJ4, "length", "()I"⟩
def RJ1 : String := "java/lang/StringLatin1"
def TJ1 : u_T := fun k => match k with
  | _ => ("", "", "", false)
def tyJ1 : Nat → FieldType := fun k => match k with
  | _ => .int
theorem nmJ1 : ∀ a, a < 0 → ∀ b, b < 0 → a ≠ b → (TJ1 a).2.1 ≠ (TJ1 b).2.1 := by decide +kernel
theorem tyJ1_ok : ∀ k, k < 0 → parseFieldDescriptor (TJ1 k).2.2.1 = some (tyJ1 k) := by decide +kernel
abbrev cJ1_canEncode_fc78d : ByteArray := prog_22_method_3_code
def yJ1_canEncode_fc78d : MethodName := ⟨RJ1, "canEncode", "(C)Z"⟩
abbrev cJ1_fillNull_b72d1 : ByteArray := prog_22_method_48_code
def yJ1_fillNull_b72d1 : MethodName := ⟨RJ1, "fillNull", "([BII)V"⟩
abbrev cJ1_inflate_0e8fd : ByteArray := prog_22_method_50_code
def yJ1_inflate_0e8fd : MethodName := ⟨RJ1, "inflate", "([BI[BII)V"⟩
def RJ2 : String := "java/lang/StringUTF16"
def TJ2 : u_T := fun k => match k with
  | _ => ("", "", "", false)
def tyJ2 : Nat → FieldType := fun k => match k with
  | _ => .int
theorem nmJ2 : ∀ a, a < 0 → ∀ b, b < 0 → a ≠ b → (TJ2 a).2.1 ≠ (TJ2 b).2.1 := by decide +kernel
theorem tyJ2_ok : ∀ k, k < 0 → parseFieldDescriptor (TJ2 k).2.2.1 = some (tyJ2 k) := by decide +kernel
abbrev cJ2_newBytesFor_77867 : ByteArray := prog_23_method_2_code
def yJ2_newBytesFor_77867 : MethodName := ⟨RJ2, "newBytesFor", "(I)[B"⟩
abbrev cJ2_newBytesLength_0f7a4 : ByteArray := prog_23_method_3_code
def yJ2_newBytesLength_0f7a4 : MethodName := ⟨RJ2, "newBytesLength", "(I)I"⟩
abbrev cJ2_putChar_b72d1 : ByteArray := prog_23_method_4_code
def yJ2_putChar_b72d1 : MethodName := ⟨RJ2, "putChar", "([BII)V"⟩
abbrev cJ2_getChar_3b067 : ByteArray := prog_23_method_5_code
def yJ2_getChar_3b067 : MethodName := ⟨RJ2, "getChar", "([BI)C"⟩
abbrev cJ2_length_9d52b : ByteArray := prog_23_method_6_code
def yJ2_length_9d52b : MethodName := ⟨RJ2, "length", "([B)I"⟩
abbrev cJ2_fillNull_b72d1 : ByteArray := prog_23_method_70_code
def yJ2_fillNull_b72d1 : MethodName := ⟨RJ2, "fillNull", "([BII)V"⟩
abbrev cJ2_putCharSB_b72d1 : ByteArray := prog_23_method_71_code
def yJ2_putCharSB_b72d1 : MethodName := ⟨RJ2, "putCharSB", "([BII)V"⟩
abbrev cJ2_getChars_46870 : ByteArray := prog_23_method_77_code
def yJ2_getChars_46870 : MethodName := ⟨RJ2, "getChars", "(III[B)I"⟩
abbrev cJ2_putCharsAt_cd4e5 : ByteArray := prog_23_method_81_code
def yJ2_putCharsAt_cd4e5 : MethodName := ⟨RJ2, "putCharsAt", "([BICCCC)I"⟩
abbrev cJ2_inflate_0e8fd : ByteArray := prog_23_method_86_code
def yJ2_inflate_0e8fd : MethodName := ⟨RJ2, "inflate", "([BI[BII)V"⟩
abbrev cJ2_getChars_ba4f3 : ByteArray := prog_23_method_89_code
def yJ2_getChars_ba4f3 : MethodName := ⟨RJ2, "getChars", "(II[B)I"⟩
abbrev cJ2_checkIndex_2214a : ByteArray := prog_23_method_91_code
def yJ2_checkIndex_2214a : MethodName := ⟨RJ2, "checkIndex", "(I[B)V"⟩
abbrev cJ2_checkBoundsBeginEnd_d044e : ByteArray := prog_23_method_93_code
def yJ2_checkBoundsBeginEnd_d044e : MethodName := ⟨RJ2, "checkBoundsBeginEnd", "(II[B)V"⟩
abbrev cJ2_checkBoundsOffCount_d044e : ByteArray := prog_23_method_94_code
def yJ2_checkBoundsOffCount_d044e : MethodName := ⟨RJ2, "checkBoundsOffCount", "(II[B)V"⟩
def RJ10 : String := "java/lang/System"
def TJ10 : u_T := fun k => match k with
  | _ => ("", "", "", false)
def tyJ10 : Nat → FieldType := fun k => match k with
  | _ => .int
theorem nmJ10 : ∀ a, a < 0 → ∀ b, b < 0 → a ≠ b → (TJ10 a).2.1 ≠ (TJ10 b).2.1 := by decide +kernel
theorem tyJ10_ok : ∀ k, k < 0 → parseFieldDescriptor (TJ10 k).2.2.1 = some (tyJ10 k) := by decide +kernel
def RJxfd54e : String := "java/lang/constant/Constable"
def TJxfd54e : u_T := fun k => match k with
  | _ => ("", "", "", false)
def tyJxfd54e : Nat → FieldType := fun k => match k with
  | _ => .int
theorem nmJxfd54e : ∀ a, a < 0 → ∀ b, b < 0 → a ≠ b → (TJxfd54e a).2.1 ≠ (TJxfd54e b).2.1 := by decide +kernel
theorem tyJxfd54e_ok : ∀ k, k < 0 → parseFieldDescriptor (TJxfd54e k).2.2.1 = some (tyJxfd54e k) := by decide +kernel
def RJx3cf43 : String := "java/lang/constant/ConstantDesc"
def TJx3cf43 : u_T := fun k => match k with
  | _ => ("", "", "", false)
def tyJx3cf43 : Nat → FieldType := fun k => match k with
  | _ => .int
theorem nmJx3cf43 : ∀ a, a < 0 → ∀ b, b < 0 → a ≠ b → (TJx3cf43 a).2.1 ≠ (TJx3cf43 b).2.1 := by decide +kernel
theorem tyJx3cf43_ok : ∀ k, k < 0 → parseFieldDescriptor (TJx3cf43 k).2.2.1 = some (tyJx3cf43 k) := by decide +kernel
def RJ7 : String := "java/util/Arrays"
def TJ7 : u_T := fun k => match k with
  | _ => ("", "", "", false)
def tyJ7 : Nat → FieldType := fun k => match k with
  | _ => .int
theorem nmJ7 : ∀ a, a < 0 → ∀ b, b < 0 → a ≠ b → (TJ7 a).2.1 ≠ (TJ7 b).2.1 := by decide +kernel
theorem tyJ7_ok : ∀ k, k < 0 → parseFieldDescriptor (TJ7 k).2.2.1 = some (tyJ7 k) := by decide +kernel
abbrev cJ7_rangeCheck_23922 : ByteArray := prog_25_method_30_code
def yJ7_rangeCheck_23922 : MethodName := ⟨RJ7, "rangeCheck", "(III)V"⟩
abbrev cJ7_fill_53178 : ByteArray := prog_25_method_103_code
def yJ7_fill_53178 : MethodName := ⟨RJ7, "fill", "([II)V"⟩
abbrev cJ7_fill_eb02e : ByteArray := prog_25_method_110_code
def yJ7_fill_eb02e : MethodName := ⟨RJ7, "fill", "([BIIB)V"⟩
abbrev cJ7_copyOf_9075b : ByteArray := prog_25_method_121_code
def yJ7_copyOf_9075b : MethodName := ⟨RJ7, "copyOf", "([BI)[B"⟩
def RJ8 : String := "jdk/internal/util/ArraysSupport"
def TJ8 : u_T := fun k => match k with
  | _ => ("", "", "", false)
def tyJ8 : Nat → FieldType := fun k => match k with
  | _ => .int
theorem nmJ8 : ∀ a, a < 0 → ∀ b, b < 0 → a ≠ b → (TJ8 a).2.1 ≠ (TJ8 b).2.1 := by decide +kernel
theorem tyJ8_ok : ∀ k, k < 0 → parseFieldDescriptor (TJ8 k).2.2.1 = some (tyJ8 k) := by decide +kernel
abbrev cJ8_newLength_cabcc : ByteArray := prog_26_method_27_code
def yJ8_newLength_cabcc : MethodName := ⟨RJ8, "newLength", "(III)I"⟩
abbrev cJ8_hugeLength_7cf53 : ByteArray := prog_26_method_28_code
def yJ8_hugeLength_7cf53 : MethodName := ⟨RJ8, "hugeLength", "(II)I"⟩
def RJ3 : String := "jdk/internal/util/Preconditions"
def TJ3 : u_T := fun k => match k with
  | _ => ("", "", "", false)
def tyJ3 : Nat → FieldType := fun k => match k with
  | _ => .int
theorem nmJ3 : ∀ a, a < 0 → ∀ b, b < 0 → a ≠ b → (TJ3 a).2.1 ≠ (TJ3 b).2.1 := by decide +kernel
theorem tyJ3_ok : ∀ k, k < 0 → parseFieldDescriptor (TJ3 k).2.2.1 = some (tyJ3 k) := by decide +kernel
abbrev cJ3_checkIndex_8e157 : ByteArray := prog_27_method_11_code
def yJ3_checkIndex_8e157 : MethodName := ⟨RJ3, "checkIndex", "(IILjava/util/function/BiFunction;)I"⟩
abbrev cJ3_checkFromToIndex_8c36e : ByteArray := prog_27_method_12_code
def yJ3_checkFromToIndex_8c36e : MethodName := ⟨RJ3, "checkFromToIndex", "(IIILjava/util/function/BiFunction;)I"⟩
abbrev cJ3_checkFromIndexSize_8c36e : ByteArray := prog_27_method_13_code
def yJ3_checkFromIndexSize_8c36e : MethodName := ⟨RJ3, "checkFromIndexSize", "(IIILjava/util/function/BiFunction;)I"⟩
def RL : String := "EightPartsLaw"
abbrev cL_law : ByteArray := code
def yL_law : MethodName := ⟨RL, "law", "([I)Z"⟩
/-- a method: name, bytes, locals, what it returns -/
abbrev xM : Type := MethodName × ByteArray × Nat × Option FieldType
abbrev mX0_init : xM := (yX0_init, cX0_init, 3, none)
abbrev mX0_split : xM := (yX0_split, cX0_split, 5, (some .boolean))
abbrev mX0_walk : xM := (yX0_walk, cX0_walk, 3, none)
abbrev mX0_lastOfWalk : xM := (yX0_lastOfWalk, cX0_lastOfWalk, 1, (some (.array .int)))
abbrev mX0_lastNormBy4 : xM := (yX0_lastNormBy4, cX0_lastNormBy4, 1, (some .long))
abbrev mX0_divides : xM := (yX0_divides, cX0_divides, 5, (some .boolean))
abbrev mX0_noteShare : xM := (yX0_noteShare, cX0_noteShare, 3, none)
abbrev mX1_init : xM := (yX1_init, cX1_init, 1, none)
abbrev mX1_push : xM := (yX1_push, cX1_push, 4, (some .boolean))
abbrev mX1_pop : xM := (yX1_pop, cX1_pop, 3, (some .int))
abbrev mX2_init : xM := (yX2_init, cX2_init, 1, none)
abbrev mX2_manyWords : xM := (yX2_manyWords, cX2_manyWords, 1, (some .int))
abbrev mX2_exchange : xM := (yX2_exchange, cX2_exchange, 3, (some .int))
abbrev mX2_mayBeOdd : xM := (yX2_mayBeOdd, cX2_mayBeOdd, 4, (some .boolean))
abbrev mX2_manyUnitsOfBoth : xM := (yX2_manyUnitsOfBoth, cX2_manyUnitsOfBoth, 6, (some .int))
abbrev mX2_isWhole : xM := (yX2_isWhole, cX2_isWhole, 2, (some .boolean))
abbrev mX2_isWholeBy : xM := (yX2_isWholeBy, cX2_isWholeBy, 6, (some .boolean))
abbrev mX2_layNearest : xM := (yX2_layNearest, cX2_layNearest, 7, (some .boolean))
abbrev mX2_findNear : xM := (yX2_findNear, cX2_findNear, 11, none)
abbrev mX2_bestWord : xM := (yX2_bestWord, cX2_bestWord, 9, (some .int))
abbrev mX2_missOf : xM := (yX2_missOf, cX2_missOf, 5, (some .long))
abbrev mX2_isListedAhead : xM := (yX2_isListedAhead, cX2_isListedAhead, 6, (some .boolean))
abbrev mX3_init : xM := (yX3_init, cX3_init, 2, none)
abbrev mX3_whichHold : xM := (yX3_whichHold, cX3_whichHold, 6, (some .int))
abbrev mX3_multiplyPairs : xM := (yX3_multiplyPairs, cX3_multiplyPairs, 4, (some .boolean))
abbrev mX3_layBothSides : xM := (yX3_layBothSides, cX3_layBothSides, 5, (some .boolean))
abbrev mX3_doNormsMultiply : xM := (yX3_doNormsMultiply, cX3_doNormsMultiply, 3, (some .boolean))
abbrev mX4_init : xM := (yX4_init, cX4_init, 2, none)
abbrev mX4_manyOf : xM := (yX4_manyOf, cX4_manyOf, 2, (some .int))
abbrev mX4_take : xM := (yX4_take, cX4_take, 4, (some .boolean))
abbrev mX4_find : xM := (yX4_find, cX4_find, 5, (some .int))
abbrev mX4_takeUnit : xM := (yX4_takeUnit, cX4_takeUnit, 3, (some .boolean))
abbrev mX4_search : xM := (yX4_search, cX4_search, 8, (some .int))
abbrev mX4_unpack : xM := (yX4_unpack, cX4_unpack, 3, none)
abbrev mX4_pack : xM := (yX4_pack, cX4_pack, 3, (some .int))
abbrev mX4_fill : xM := (yX4_fill, cX4_fill, 3, none)
abbrev mX4_sortWords : xM := (yX4_sortWords, cX4_sortWords, 5, none)
abbrev mX4_grow : xM := (yX4_grow, cX4_grow, 8, none)
abbrev mX5_lay : xM := (yX5_lay, cX5_lay, 2, none)
abbrev mX5_layOne : xM := (yX5_layOne, cX5_layOne, 2, none)
abbrev mX5_layMirrored : xM := (yX5_layMirrored, cX5_layMirrored, 3, none)
abbrev mX5_areEqual : xM := (yX5_areEqual, cX5_areEqual, 3, (some .boolean))
abbrev mX5_isZero : xM := (yX5_isZero, cX5_isZero, 2, (some .boolean))
abbrev mX5_isOne : xM := (yX5_isOne, cX5_isOne, 1, (some .boolean))
abbrev mX5_oddSet : xM := (yX5_oddSet, cX5_oddSet, 3, (some .int))
abbrev mX5_normBy4 : xM := (yX5_normBy4, cX5_normBy4, 1, (some .long))
abbrev mX5_innerBy4 : xM := (yX5_innerBy4, cX5_innerBy4, 5, (some .long))
abbrev mX5_multiplyBy4 : xM := (yX5_multiplyBy4, cX5_multiplyBy4, 35, none)
abbrev mX5_halve : xM := (yX5_halve, cX5_halve, 2, (some .boolean))
abbrev mX5_layIfWithin : xM := (yX5_layIfWithin, cX5_layIfWithin, 3, (some .boolean))
abbrev mX6_init : xM := (yX6_init, cX6_init, 4, none)
abbrev mX6_read : xM := (yX6_read, cX6_read, 1, (some .int))
abbrev mX6_layResult : xM := (yX6_layResult, cX6_layResult, 2, (some .boolean))
abbrev mX6_ahead : xM := (yX6_ahead, cX6_ahead, 1, (some .int))
abbrev mX6_readSum : xM := (yX6_readSum, cX6_readSum, 4, none)
abbrev mX6_readTerm : xM := (yX6_readTerm, cX6_readTerm, 3, none)
abbrev mX6_note : xM := (yX6_note, cX6_note, 2, none)
abbrev mX6_readFactor : xM := (yX6_readFactor, cX6_readFactor, 3, none)
abbrev mX6_readNested : xM := (yX6_readNested, cX6_readNested, 3, none)
abbrev mX6_readInt : xM := (yX6_readInt, cX6_readInt, 4, none)
abbrev mX6_isDigit : xM := (yX6_isDigit, cX6_isDigit, 1, (some .boolean))
abbrev mX7_init : xM := (yX7_init, cX7_init, 1, none)
abbrev mX7_add : xM := (yX7_add, cX7_add, 6, (some .boolean))
abbrev mX7_scale : xM := (yX7_scale, cX7_scale, 5, (some .boolean))
abbrev mX7_multiply : xM := (yX7_multiply, cX7_multiply, 4, (some .boolean))
abbrev mX7_turnBy : xM := (yX7_turnBy, cX7_turnBy, 5, (some .boolean))
abbrev mX8_init : xM := (yX8_init, cX8_init, 1, none)
abbrev mX8_hasRoom : xM := (yX8_hasRoom, cX8_hasRoom, 1, (some .boolean))
abbrev mX8_append : xM := (yX8_append, cX8_append, 3, none)
abbrev mX8_byteAt : xM := (yX8_byteAt, cX8_byteAt, 2, (some .int))
abbrev mX9_init : xM := (yX9_init, cX9_init, 3, none)
abbrev mX9_multiplyAt : xM := (yX9_multiplyAt, cX9_multiplyAt, 7, (some .int))
abbrev mX9_cycleOf : xM := (yX9_cycleOf, cX9_cycleOf, 5, (some .int))
abbrev mX9_gather : xM := (yX9_gather, cX9_gather, 5, (some .boolean))
abbrev mX9_gatheredAt : xM := (yX9_gatheredAt, cX9_gatheredAt, 4, (some .int))
abbrev mX9_areAssociative : xM := (yX9_areAssociative, cX9_areAssociative, 2, (some .boolean))
abbrev mX9_manyCentral : xM := (yX9_manyCentral, cX9_manyCentral, 3, (some .int))
abbrev mX9_manyOwnInverse : xM := (yX9_manyOwnInverse, cX9_manyOwnInverse, 4, (some .int))
abbrev mX9_forgetMembers : xM := (yX9_forgetMembers, cX9_forgetMembers, 2, none)
abbrev mX9_admit : xM := (yX9_admit, cX9_admit, 2, none)
abbrev mX9_close : xM := (yX9_close, cX9_close, 4, none)
abbrev mX9_isReal : xM := (yX9_isReal, cX9_isReal, 2, (some .boolean))
abbrev mX9_associatesWithAll : xM := (yX9_associatesWithAll, cX9_associatesWithAll, 6, (some .boolean))
abbrev mX9_commutesWithAll : xM := (yX9_commutesWithAll, cX9_commutesWithAll, 3, (some .boolean))
abbrev mX9_multiplyNegative : xM := (yX9_multiplyNegative, cX9_multiplyNegative, 5, (some .int))
abbrev mX9_makeRoom : xM := (yX9_makeRoom, cX9_makeRoom, 1, none)
abbrev mX10_init : xM := (yX10_init, cX10_init, 2, none)
abbrev mX10_manyOf : xM := (yX10_manyOf, cX10_manyOf, 2, (some .int))
abbrev mX10_fill : xM := (yX10_fill, cX10_fill, 6, none)
abbrev mX10_layWay : xM := (yX10_layWay, cX10_layWay, 5, (some .boolean))
abbrev mX10_manyUnlike : xM := (yX10_manyUnlike, cX10_manyUnlike, 5, (some .int))
abbrev mX10_isNew : xM := (yX10_isNew, cX10_isNew, 4, (some .boolean))
abbrev mX10_fillStretch : xM := (yX10_fillStretch, cX10_fillStretch, 9, none)
abbrev mX10_startOf : xM := (yX10_startOf, cX10_startOf, 2, (some .int))
abbrev mX10_join : xM := (yX10_join, cX10_join, 4, none)
abbrev mX11_init : xM := (yX11_init, cX11_init, 1, none)
abbrev mX11_put : xM := (yX11_put, cX11_put, 4, (some .boolean))
abbrev mX11_one : xM := (yX11_one, cX11_one, 3, (some .boolean))
abbrev mX11_listed : xM := (yX11_listed, cX11_listed, 4, (some .boolean))
abbrev mX11_copy : xM := (yX11_copy, cX11_copy, 3, (some .boolean))
abbrev mX11_order : xM := (yX11_order, cX11_order, 3, (some .int))
abbrev mX11_sum : xM := (yX11_sum, cX11_sum, 4, (some .int))
abbrev mX11_less : xM := (yX11_less, cX11_less, 4, (some .int))
abbrev mX11_product : xM := (yX11_product, cX11_product, 4, (some .int))
abbrev mX11_mirror : xM := (yX11_mirror, cX11_mirror, 3, (some .int))
abbrev mX11_times : xM := (yX11_times, cX11_times, 4, (some .int))
abbrev mX11_turn : xM := (yX11_turn, cX11_turn, 5, (some .int))
abbrev mX11_chain : xM := (yX11_chain, cX11_chain, 7, (some .int))
abbrev mX11_last : xM := (yX11_last, cX11_last, 5, (some .int))
abbrev mX11_power : xM := (yX11_power, cX11_power, 5, (some .int))
abbrev mX11_associator : xM := (yX11_associator, cX11_associator, 6, (some .int))
abbrev mX11_commutator : xM := (yX11_commutator, cX11_commutator, 5, (some .int))
abbrev mX11_nearest : xM := (yX11_nearest, cX11_nearest, 5, (some .int))
abbrev mX11_divide : xM := (yX11_divide, cX11_divide, 5, (some .int))
abbrev mX11_bracket : xM := (yX11_bracket, cX11_bracket, 5, (some .int))
abbrev mX11_feed : xM := (yX11_feed, cX11_feed, 6, (some .int))
abbrev mX11_back : xM := (yX11_back, cX11_back, 2, (some .int))
abbrev mX11_work : xM := (yX11_work, cX11_work, 3, (some .int))
abbrev mX11_part : xM := (yX11_part, cX11_part, 3, (some .int))
abbrev mX11_norm : xM := (yX11_norm, cX11_norm, 2, (some .int))
abbrev mX11_spell : xM := (yX11_spell, cX11_spell, 4, (some .int))
abbrev mX11_turned : xM := (yX11_turned, cX11_turned, 5, (some .int))
abbrev mX11_odd : xM := (yX11_odd, cX11_odd, 2, (some .int))
abbrev mX11_whole : xM := (yX11_whole, cX11_whole, 2, (some .int))
abbrev mX11_orders : xM := (yX11_orders, cX11_orders, 5, (some .int))
abbrev mX11_same : xM := (yX11_same, cX11_same, 3, (some .int))
abbrev mX11_many : xM := (yX11_many, cX11_many, 2, (some .int))
abbrev mX11_listedPart : xM := (yX11_listedPart, cX11_listedPart, 4, (some .int))
abbrev mX11_place : xM := (yX11_place, cX11_place, 3, (some .int))
abbrev mX11_divisors : xM := (yX11_divisors, cX11_divisors, 7, (some .int))
abbrev mX11_divisor : xM := (yX11_divisor, cX11_divisor, 8, (some .int))
abbrev mX11_inner : xM := (yX11_inner, cX11_inner, 3, (some .int))
abbrev mX11_angles : xM := (yX11_angles, cX11_angles, 7, (some .int))
abbrev mX11_alike : xM := (yX11_alike, cX11_alike, 4, (some .int))
abbrev mX11_alikeMany : xM := (yX11_alikeMany, cX11_alikeMany, 7, (some .int))
abbrev mX11_commuting : xM := (yX11_commuting, cX11_commuting, 6, (some .int))
abbrev mX11_sides : xM := (yX11_sides, cX11_sides, 8, (some .int))
abbrev mX11_cycle : xM := (yX11_cycle, cX11_cycle, 3, (some .int))
abbrev mX11_made : xM := (yX11_made, cX11_made, 3, (some .int))
abbrev mX11_madeAt : xM := (yX11_madeAt, cX11_madeAt, 3, (some .int))
abbrev mX11_table : xM := (yX11_table, cX11_table, 3, (some .int))
abbrev mX11_turnCycle : xM := (yX11_turnCycle, cX11_turnCycle, 5, (some .int))
abbrev mX11_shared : xM := (yX11_shared, cX11_shared, 3, (some .int))
abbrev mX11_cycles : xM := (yX11_cycles, cX11_cycles, 5, (some .int))
abbrev mX11_nucleus : xM := (yX11_nucleus, cX11_nucleus, 6, (some .int))
abbrev mX11_laws : xM := (yX11_laws, cX11_laws, 4, (some .int))
abbrev mX11_bracketed : xM := (yX11_bracketed, cX11_bracketed, 3, (some .int))
abbrev mX11_rests : xM := (yX11_rests, cX11_rests, 4, (some .int))
abbrev mX11_keep : xM := (yX11_keep, cX11_keep, 1, (some .int))
abbrev mX11_restore : xM := (yX11_restore, cX11_restore, 2, (some .int))
abbrev mX11_count : xM := (yX11_count, cX11_count, 2, (some .int))
abbrev mX11_isEighth : xM := (yX11_isEighth, cX11_isEighth, 1, (some .boolean))
abbrev mX11_areSlots : xM := (yX11_areSlots, cX11_areSlots, 2, (some .boolean))
abbrev mX11_areSlots_ : xM := (yX11_areSlots_, cX11_areSlots_, 3, (some .boolean))
abbrev mX11_isSlotSet : xM := (yX11_isSlotSet, cX11_isSlotSet, 1, (some .boolean))
abbrev mX11_isTurn : xM := (yX11_isTurn, cX11_isTurn, 1, (some .boolean))
abbrev mX11_isListedNorm : xM := (yX11_isListedNorm, cX11_isListedNorm, 1, (some .boolean))
abbrev mX11_isDivisor : xM := (yX11_isDivisor, cX11_isDivisor, 1, (some .boolean))
abbrev mX11_isRow : xM := (yX11_isRow, cX11_isRow, 3, (some .boolean))
abbrev mX11_slotOfRow : xM := (yX11_slotOfRow, cX11_slotOfRow, 2, (some .int))
abbrev mX11_told : xM := (yX11_told, cX11_told, 1, (some .int))
abbrev mX11_asked : xM := (yX11_asked, cX11_asked, 1, (some .int))
abbrev mX11_capped : xM := (yX11_capped, cX11_capped, 2, (some .int))
abbrev mX11_spellPart : xM := (yX11_spellPart, cX11_spellPart, 4, none)
abbrev mX11_isDivisorAt : xM := (yX11_isDivisorAt, cX11_isDivisorAt, 5, (some .boolean))
abbrev mX11_areAlike : xM := (yX11_areAlike, cX11_areAlike, 5, (some .boolean))
abbrev mX11_doCommute : xM := (yX11_doCommute, cX11_doCommute, 3, (some .boolean))
abbrev mX11_doAssociate : xM := (yX11_doAssociate, cX11_doAssociate, 4, (some .boolean))
abbrev mX11_wholeSlots : xM := (yX11_wholeSlots, cX11_wholeSlots, 3, (some .int))
abbrev mX11_emptySlots : xM := (yX11_emptySlots, cX11_emptySlots, 3, (some .int))
abbrev mX12_in : xM := (yX12_in, cX12_in, 6, (some .boolean))
abbrev mX12_has : xM := (yX12_has, cX12_has, 2, (some .boolean))
abbrev mX12_bitsOf : xM := (yX12_bitsOf, cX12_bitsOf, 3, (some .int))
abbrev mX12_init : xM := (yX12_init, cX12_init, 5, none)
abbrev mX12_isSlot : xM := (yX12_isSlot, cX12_isSlot, 1, (some .boolean))
abbrev mX12_isPart : xM := (yX12_isPart, cX12_isPart, 1, (some .boolean))
abbrev mX12_becomes : xM := (yX12_becomes, cX12_becomes, 4, none)
abbrev mX12_nought : xM := (yX12_nought, cX12_nought, 3, none)
abbrev mX12_areSame : xM := (yX12_areSame, cX12_areSame, 4, (some .boolean))
abbrev mX12_isNought : xM := (yX12_isNought, cX12_isNought, 3, (some .boolean))
abbrev mX12_comes : xM := (yX12_comes, cX12_comes, 3, (some .boolean))
abbrev mX12_isProduct : xM := (yX12_isProduct, cX12_isProduct, 9, (some .boolean))
abbrev mX12_multiplies : xM := (yX12_multiplies, cX12_multiplies, 4, (some .boolean))
abbrev mX12_adds : xM := (yX12_adds, cX12_adds, 6, (some .boolean))
abbrev mX12_mirrors : xM := (yX12_mirrors, cX12_mirrors, 4, none)
abbrev mX12_normOf : xM := (yX12_normOf, cX12_normOf, 5, (some .long))
abbrev mX12_held : xM := (yX12_held, cX12_held, 2, (some .int))
abbrev mX12_oddOf : xM := (yX12_oddOf, cX12_oddOf, 4, (some .int))
abbrev mX12_isCode : xM := (yX12_isCode, cX12_isCode, 4, (some .boolean))
abbrev mX12_isOf : xM := (yX12_isOf, cX12_isOf, 3, (some .boolean))
abbrev mX12_isWhole : xM := (yX12_isWhole, cX12_isWhole, 2, (some .boolean))
abbrev mX12_isUnit : xM := (yX12_isUnit, cX12_isUnit, 2, (some .boolean))
abbrev mX12_listFrom : xM := (yX12_listFrom, cX12_listFrom, 1, (some .int))
abbrev mX12_oddIn : xM := (yX12_oddIn, cX12_oddIn, 3, (some .int))
abbrev mX12_laysList : xM := (yX12_laysList, cX12_laysList, 8, none)
abbrev mX12_isNorm : xM := (yX12_isNorm, cX12_isNorm, 1, (some .boolean))
abbrev mX12_listSize : xM := (yX12_listSize, cX12_listSize, 2, (some .int))
abbrev mX12_brings : xM := (yX12_brings, cX12_brings, 5, none)
abbrev mX12_against : xM := (yX12_against, cX12_against, 6, (some .int))
abbrev mX12_numberOf : xM := (yX12_numberOf, cX12_numberOf, 9, (some .int))
abbrev mX12_put : xM := (yX12_put, cX12_put, 4, (some .boolean))
abbrev mX12_one : xM := (yX12_one, cX12_one, 3, (some .boolean))
abbrev mX12_listed : xM := (yX12_listed, cX12_listed, 4, (some .boolean))
abbrev mX12_copy : xM := (yX12_copy, cX12_copy, 3, (some .boolean))
abbrev mX12_order : xM := (yX12_order, cX12_order, 3, (some .int))
abbrev mX12_can : xM := (yX12_can, cX12_can, 1, (some .int))
abbrev mX12_ends : xM := (yX12_ends, cX12_ends, 4, (some .int))
abbrev mX12_areSlots : xM := (yX12_areSlots, cX12_areSlots, 3, (some .boolean))
abbrev mX12_sum : xM := (yX12_sum, cX12_sum, 4, (some .int))
abbrev mX12_less : xM := (yX12_less, cX12_less, 4, (some .int))
abbrev mX12_product : xM := (yX12_product, cX12_product, 4, (some .int))
abbrev mX12_mirror : xM := (yX12_mirror, cX12_mirror, 3, (some .int))
abbrev mX12_times : xM := (yX12_times, cX12_times, 5, (some .int))
abbrev mX12_isTurn : xM := (yX12_isTurn, cX12_isTurn, 1, (some .boolean))
abbrev mX12_turns : xM := (yX12_turns, cX12_turns, 5, (some .boolean))
abbrev mX12_turn : xM := (yX12_turn, cX12_turn, 5, (some .int))
abbrev mX12_isRow : xM := (yX12_isRow, cX12_isRow, 3, (some .boolean))
abbrev mX12_slotIn : xM := (yX12_slotIn, cX12_slotIn, 2, (some .int))
abbrev mX12_chain : xM := (yX12_chain, cX12_chain, 8, (some .int))
abbrev mX12_powers : xM := (yX12_powers, cX12_powers, 5, (some .boolean))
abbrev mX12_power : xM := (yX12_power, cX12_power, 4, (some .int))
abbrev mX12_associator : xM := (yX12_associator, cX12_associator, 6, (some .int))
abbrev mX12_commutator : xM := (yX12_commutator, cX12_commutator, 4, (some .int))
abbrev mX12_near : xM := (yX12_near, cX12_near, 13, (some .long))
abbrev mX12_isAhead : xM := (yX12_isAhead, cX12_isAhead, 2, (some .boolean))
abbrev mX12_nears : xM := (yX12_nears, cX12_nears, 11, none)
abbrev mX12_nearest : xM := (yX12_nearest, cX12_nearest, 5, (some .int))
abbrev mX12_divides : xM := (yX12_divides, cX12_divides, 5, (some .boolean))
abbrev mX12_divide : xM := (yX12_divide, cX12_divide, 5, (some .int))
abbrev mX12_goesOn : xM := (yX12_goesOn, cX12_goesOn, 6, none)
abbrev mX12_last : xM := (yX12_last, cX12_last, 4, (some .int))
abbrev mX12_rests : xM := (yX12_rests, cX12_rests, 4, (some .int))
abbrev mX12_laysWays : xM := (yX12_laysWays, cX12_laysWays, 8, none)
abbrev mX12_joins : xM := (yX12_joins, cX12_joins, 7, (some .int))
abbrev mX12_bracket : xM := (yX12_bracket, cX12_bracket, 6, (some .int))
abbrev mX12_bracketed : xM := (yX12_bracketed, cX12_bracketed, 9, (some .int))
abbrev mX12_feed : xM := (yX12_feed, cX12_feed, 8, (some .int))
abbrev mX12_back : xM := (yX12_back, cX12_back, 2, (some .int))
abbrev mX12_opens : xM := (yX12_opens, cX12_opens, 2, none)
abbrev mX12_factors : xM := (yX12_factors, cX12_factors, 3, none)
abbrev mX12_sums : xM := (yX12_sums, cX12_sums, 2, none)
abbrev mX12_begins : xM := (yX12_begins, cX12_begins, 4, (some .boolean))
abbrev mX12_follows : xM := (yX12_follows, cX12_follows, 2, (some .boolean))
abbrev mX12_works : xM := (yX12_works, cX12_works, 3, (some .int))
abbrev mX12_work : xM := (yX12_work, cX12_work, 3, (some .int))
abbrev mX12_part : xM := (yX12_part, cX12_part, 3, (some .int))
abbrev mX12_norm : xM := (yX12_norm, cX12_norm, 2, (some .int))
abbrev mX12_writes : xM := (yX12_writes, cX12_writes, 2, none)
abbrev mX12_writesNumber : xM := (yX12_writesNumber, cX12_writesNumber, 3, none)
abbrev mX12_writesAll : xM := (yX12_writesAll, cX12_writesAll, 5, none)
abbrev mX12_spell : xM := (yX12_spell, cX12_spell, 3, (some .int))
abbrev mX12_turned : xM := (yX12_turned, cX12_turned, 5, (some .int))
abbrev mX12_odd : xM := (yX12_odd, cX12_odd, 2, (some .int))
abbrev mX12_whole : xM := (yX12_whole, cX12_whole, 2, (some .int))
abbrev mX12_orders : xM := (yX12_orders, cX12_orders, 4, (some .int))
abbrev mX12_same : xM := (yX12_same, cX12_same, 3, (some .int))
abbrev mX12_many : xM := (yX12_many, cX12_many, 2, (some .int))
abbrev mX12_listedPart : xM := (yX12_listedPart, cX12_listedPart, 4, (some .int))
abbrev mX12_place : xM := (yX12_place, cX12_place, 3, (some .int))
abbrev mX12_isWholeBy : xM := (yX12_isWholeBy, cX12_isWholeBy, 5, (some .boolean))
abbrev mX12_isDivisor : xM := (yX12_isDivisor, cX12_isDivisor, 6, (some .boolean))
abbrev mX12_divisorsOf : xM := (yX12_divisorsOf, cX12_divisorsOf, 8, (some .int))
abbrev mX12_divisors : xM := (yX12_divisors, cX12_divisors, 4, (some .int))
abbrev mX12_divisor : xM := (yX12_divisor, cX12_divisor, 5, (some .int))
abbrev mX12_innerOf : xM := (yX12_innerOf, cX12_innerOf, 6, (some .int))
abbrev mX12_inner : xM := (yX12_inner, cX12_inner, 3, (some .int))
abbrev mX12_angles : xM := (yX12_angles, cX12_angles, 7, (some .int))
abbrev mX12_areAlike : xM := (yX12_areAlike, cX12_areAlike, 5, (some .boolean))
abbrev mX12_alike : xM := (yX12_alike, cX12_alike, 4, (some .int))
abbrev mX12_alikeMany : xM := (yX12_alikeMany, cX12_alikeMany, 7, (some .int))
abbrev mX12_doCommute : xM := (yX12_doCommute, cX12_doCommute, 3, (some .boolean))
abbrev mX12_commuting : xM := (yX12_commuting, cX12_commuting, 6, (some .int))
abbrev mX12_sides : xM := (yX12_sides, cX12_sides, 8, (some .int))
abbrev mX12_cycleOf : xM := (yX12_cycleOf, cX12_cycleOf, 3, (some .int))
abbrev mX12_cycle : xM := (yX12_cycle, cX12_cycle, 2, (some .int))
abbrev mX12_cycles : xM := (yX12_cycles, cX12_cycles, 5, (some .int))
abbrev mX12_laysTable : xM := (yX12_laysTable, cX12_laysTable, 4, none)
abbrev mX12_table : xM := (yX12_table, cX12_table, 4, (some .int))
abbrev mX12_adds_ : xM := (yX12_adds_, cX12_adds_, 2, none)
abbrev mX12_laysMade : xM := (yX12_laysMade, cX12_laysMade, 4, (some .boolean))
abbrev mX12_madeProduct : xM := (yX12_madeProduct, cX12_madeProduct, 3, (some .int))
abbrev mX12_areAssociative : xM := (yX12_areAssociative, cX12_areAssociative, 5, (some .boolean))
abbrev mX12_center : xM := (yX12_center, cX12_center, 5, (some .int))
abbrev mX12_squares : xM := (yX12_squares, cX12_squares, 4, (some .int))
abbrev mX12_made : xM := (yX12_made, cX12_made, 3, (some .int))
abbrev mX12_madeAt : xM := (yX12_madeAt, cX12_madeAt, 3, (some .int))
abbrev mX12_turnCycle : xM := (yX12_turnCycle, cX12_turnCycle, 5, (some .int))
abbrev mX12_shared : xM := (yX12_shared, cX12_shared, 5, (some .int))
abbrev mX12_nucleus : xM := (yX12_nucleus, cX12_nucleus, 7, (some .int))
abbrev mX12_both : xM := (yX12_both, cX12_both, 5, (some .boolean))
abbrev mX12_laws : xM := (yX12_laws, cX12_laws, 5, (some .int))
abbrev mX12_keep : xM := (yX12_keep, cX12_keep, 2, (some .int))
abbrev mX12_restore : xM := (yX12_restore, cX12_restore, 2, (some .int))
abbrev mX12_wholes : xM := (yX12_wholes, cX12_wholes, 3, (some .int))
abbrev mX12_noughts : xM := (yX12_noughts, cX12_noughts, 3, (some .int))
abbrev mX12_count : xM := (yX12_count, cX12_count, 2, (some .int))
abbrev mJ5_init_d00df : xM := (yJ5_init_d00df, cJ5_init_d00df, 2, none)
abbrev mJ5_length_8abf5 : xM := (yJ5_length_8abf5, cJ5_length_8abf5, 1, (some .int))
abbrev mJ5_ensureCapacityInternal_d00df : xM := (yJ5_ensureCapacityInternal_d00df, cJ5_ensureCapacityInternal_d00df, 3, none)
abbrev mJ5_newCapacity_0f7a4 : xM := (yJ5_newCapacity_0f7a4, cJ5_newCapacity_0f7a4, 6, (some .int))
abbrev mJ5_inflate_da8c8 : xM := (yJ5_inflate_da8c8, cJ5_inflate_da8c8, 2, none)
abbrev mJ5_setLength_d00df : xM := (yJ5_setLength_d00df, cJ5_setLength_d00df, 2, none)
abbrev mJ5_charAt_5068e : xM := (yJ5_charAt_5068e, cJ5_charAt_5068e, 5, (some .char))
abbrev mJ5_append_cf1ce : xM := (yJ5_append_cf1ce, cJ5_append_cf1ce, 3, (some (.object "java/lang/AbstractStringBuilder")))
abbrev mJ5_appendNull_278bc : xM := (yJ5_appendNull_278bc, cJ5_appendNull_278bc, 3, (some (.object "java/lang/AbstractStringBuilder")))
abbrev mJ5_append_3fe6f : xM := (yJ5_append_3fe6f, cJ5_append_3fe6f, 2, (some (.object "java/lang/AbstractStringBuilder")))
abbrev mJ5_append_c97b9 : xM := (yJ5_append_c97b9, cJ5_append_c97b9, 4, (some (.object "java/lang/AbstractStringBuilder")))
abbrev mJ5_isLatin1_aae02 : xM := (yJ5_isLatin1_aae02, cJ5_isLatin1_aae02, 1, (some .boolean))
abbrev mJ5_inflateIfNeededFor_a7421 : xM := (yJ5_inflateIfNeededFor_a7421, cJ5_inflateIfNeededFor_a7421, 2, none)
abbrev mJ5_putStringAt_47b60 : xM := (yJ5_putStringAt_47b60, cJ5_putStringAt_47b60, 3, none)
abbrev mJ6_getChars_ba4f3 : xM := (yJ6_getChars_ba4f3, cJ6_getChars_ba4f3, 7, (some .int))
abbrev mJ6_stringSize_0f7a4 : xM := (yJ6_stringSize_0f7a4, cJ6_stringSize_0f7a4, 4, (some .int))
abbrev mJ6_bitCount_0f7a4 : xM := (yJ6_bitCount_0f7a4, cJ6_bitCount_0f7a4, 1, (some .int))
abbrev mJ9_floorDiv_f86c9 : xM := (yJ9_floorDiv_f86c9, cJ9_floorDiv_f86c9, 6, (some .long))
abbrev mJ9_abs_0f7a4 : xM := (yJ9_abs_0f7a4, cJ9_abs_0f7a4, 1, (some .int))
abbrev mJ9_max_7cf53 : xM := (yJ9_max_7cf53, cJ9_max_7cf53, 2, (some .int))
abbrev mJ9_max_f86c9 : xM := (yJ9_max_f86c9, cJ9_max_f86c9, 4, (some .long))
abbrev mJ9_min_7cf53 : xM := (yJ9_min_7cf53, cJ9_min_7cf53, 2, (some .int))
abbrev mJ9_min_f86c9 : xM := (yJ9_min_f86c9, cJ9_min_f86c9, 4, (some .long))
abbrev mJ0_length_8abf5 : xM := (yJ0_length_8abf5, cJ0_length_8abf5, 1, (some .int))
abbrev mJ0_getBytes_840e7 : xM := (yJ0_getBytes_840e7, cJ0_getBytes_840e7, 4, none)
abbrev mJ0_coder_7d493 : xM := (yJ0_coder_7d493, cJ0_coder_7d493, 1, (some .byte))
abbrev mJ0_checkIndex_df160 : xM := (yJ0_checkIndex_df160, cJ0_checkIndex_df160, 2, none)
abbrev mJ0_checkBoundsOffCount_cabcc : xM := (yJ0_checkBoundsOffCount_cabcc, cJ0_checkBoundsOffCount_cabcc, 3, (some .int))
abbrev mJ0_checkBoundsBeginEnd_23922 : xM := (yJ0_checkBoundsBeginEnd_23922, cJ0_checkBoundsBeginEnd_23922, 3, none)
abbrev mJ4_init_da8c8 : xM := (yJ4_init_da8c8, cJ4_init_da8c8, 1, none)
abbrev mJ4_append_15ec4 : xM := (yJ4_append_15ec4, cJ4_append_15ec4, 2, (some (.object "java/lang/StringBuilder")))
abbrev mJ4_append_cf468 : xM := (yJ4_append_cf468, cJ4_append_cf468, 2, (some (.object "java/lang/StringBuilder")))
abbrev mJ4_append_bf812 : xM := (yJ4_append_bf812, cJ4_append_bf812, 2, (some (.object "java/lang/StringBuilder")))
abbrev mJ4_charAt_5068e : xM := (yJ4_charAt_5068e, cJ4_charAt_5068e, 2, (some .char))
abbrev mJ4_setLength_d00df : xM := (yJ4_setLength_d00df, cJ4_setLength_d00df, 2, none)
abbrev mJ4_length_8abf5 : xM := (yJ4_length_8abf5, cJ4_length_8abf5, 1, (some .int))
abbrev mJ1_canEncode_fc78d : xM := (yJ1_canEncode_fc78d, cJ1_canEncode_fc78d, 1, (some .boolean))
abbrev mJ1_fillNull_b72d1 : xM := (yJ1_fillNull_b72d1, cJ1_fillNull_b72d1, 3, none)
abbrev mJ1_inflate_0e8fd : xM := (yJ1_inflate_0e8fd, cJ1_inflate_0e8fd, 5, none)
abbrev mJ2_newBytesFor_77867 : xM := (yJ2_newBytesFor_77867, cJ2_newBytesFor_77867, 1, (some (.array .byte)))
abbrev mJ2_newBytesLength_0f7a4 : xM := (yJ2_newBytesLength_0f7a4, cJ2_newBytesLength_0f7a4, 1, (some .int))
abbrev mJ2_putChar_b72d1 : xM := (yJ2_putChar_b72d1, cJ2_putChar_b72d1, 3, none)
abbrev mJ2_getChar_3b067 : xM := (yJ2_getChar_3b067, cJ2_getChar_3b067, 2, (some .char))
abbrev mJ2_length_9d52b : xM := (yJ2_length_9d52b, cJ2_length_9d52b, 1, (some .int))
abbrev mJ2_fillNull_b72d1 : xM := (yJ2_fillNull_b72d1, cJ2_fillNull_b72d1, 3, none)
abbrev mJ2_putCharSB_b72d1 : xM := (yJ2_putCharSB_b72d1, cJ2_putCharSB_b72d1, 3, none)
abbrev mJ2_getChars_46870 : xM := (yJ2_getChars_46870, cJ2_getChars_46870, 5, (some .int))
abbrev mJ2_putCharsAt_cd4e5 : xM := (yJ2_putCharsAt_cd4e5, cJ2_putCharsAt_cd4e5, 7, (some .int))
abbrev mJ2_inflate_0e8fd : xM := (yJ2_inflate_0e8fd, cJ2_inflate_0e8fd, 6, none)
abbrev mJ2_getChars_ba4f3 : xM := (yJ2_getChars_ba4f3, cJ2_getChars_ba4f3, 7, (some .int))
abbrev mJ2_checkIndex_2214a : xM := (yJ2_checkIndex_2214a, cJ2_checkIndex_2214a, 2, none)
abbrev mJ2_checkBoundsBeginEnd_d044e : xM := (yJ2_checkBoundsBeginEnd_d044e, cJ2_checkBoundsBeginEnd_d044e, 3, none)
abbrev mJ2_checkBoundsOffCount_d044e : xM := (yJ2_checkBoundsOffCount_d044e, cJ2_checkBoundsOffCount_d044e, 3, none)
abbrev mJ7_rangeCheck_23922 : xM := (yJ7_rangeCheck_23922, cJ7_rangeCheck_23922, 3, none)
abbrev mJ7_fill_53178 : xM := (yJ7_fill_53178, cJ7_fill_53178, 4, none)
abbrev mJ7_fill_eb02e : xM := (yJ7_fill_eb02e, cJ7_fill_eb02e, 5, none)
abbrev mJ7_copyOf_9075b : xM := (yJ7_copyOf_9075b, cJ7_copyOf_9075b, 3, (some (.array .byte)))
abbrev mJ8_newLength_cabcc : xM := (yJ8_newLength_cabcc, cJ8_newLength_cabcc, 4, (some .int))
abbrev mJ8_hugeLength_7cf53 : xM := (yJ8_hugeLength_7cf53, cJ8_hugeLength_7cf53, 3, (some .int))
abbrev mJ3_checkIndex_8e157 : xM := (yJ3_checkIndex_8e157, cJ3_checkIndex_8e157, 3, (some .int))
abbrev mJ3_checkFromToIndex_8c36e : xM := (yJ3_checkFromToIndex_8c36e, cJ3_checkFromToIndex_8c36e, 4, (some .int))
abbrev mJ3_checkFromIndexSize_8c36e : xM := (yJ3_checkFromIndexSize_8c36e, cJ3_checkFromIndexSize_8c36e, 4, (some .int))
abbrev mL_law : xM := (x, code, maxLocals, ret)
/-- the words that every contract asks for -/
def xTT : List Cond := lw_tbl.filter goodWord
theorem xT1 {w : Cond} (m : w ∈ tables_1_1) : w ∈ tables_1 := List.mem_append_left _ m
theorem xIn1 {w : Cond} (i : Nat) (h : tables_1_1[i]? = some w) (hg : goodWord w = true) : w ∈ xTT := List.mem_filter.mpr ⟨List.mem_append_right _ (xT1 (List.mem_of_getElem? h)), hg⟩
theorem xT2 {w : Cond} (m : w ∈ tables_1_2) : w ∈ tables_1 := List.mem_append_right _ (List.mem_append_left _ m)
theorem xIn2 {w : Cond} (i : Nat) (h : tables_1_2[i]? = some w) (hg : goodWord w = true) : w ∈ xTT := List.mem_filter.mpr ⟨List.mem_append_right _ (xT2 (List.mem_of_getElem? h)), hg⟩
theorem xT3 {w : Cond} (m : w ∈ tables_1_3) : w ∈ tables_1 := List.mem_append_right _ (List.mem_append_right _ (List.mem_append_left _ m))
theorem xIn3 {w : Cond} (i : Nat) (h : tables_1_3[i]? = some w) (hg : goodWord w = true) : w ∈ xTT := List.mem_filter.mpr ⟨List.mem_append_right _ (xT3 (List.mem_of_getElem? h)), hg⟩
theorem xT4 {w : Cond} (m : w ∈ tables_1_4) : w ∈ tables_1 := List.mem_append_right _ (List.mem_append_right _ (List.mem_append_right _ (List.mem_append_left _ m)))
theorem xIn4 {w : Cond} (i : Nat) (h : tables_1_4[i]? = some w) (hg : goodWord w = true) : w ∈ xTT := List.mem_filter.mpr ⟨List.mem_append_right _ (xT4 (List.mem_of_getElem? h)), hg⟩
theorem xT5 {w : Cond} (m : w ∈ tables_1_5) : w ∈ tables_1 := List.mem_append_right _ (List.mem_append_right _ (List.mem_append_right _ (List.mem_append_right _ (List.mem_append_left _ m))))
theorem xIn5 {w : Cond} (i : Nat) (h : tables_1_5[i]? = some w) (hg : goodWord w = true) : w ∈ xTT := List.mem_filter.mpr ⟨List.mem_append_right _ (xT5 (List.mem_of_getElem? h)), hg⟩
theorem xT6 {w : Cond} (m : w ∈ tables_1_6) : w ∈ tables_1 := List.mem_append_right _ (List.mem_append_right _ (List.mem_append_right _ (List.mem_append_right _ (List.mem_append_right _ (List.mem_append_left _ m)))))
theorem xIn6 {w : Cond} (i : Nat) (h : tables_1_6[i]? = some w) (hg : goodWord w = true) : w ∈ xTT := List.mem_filter.mpr ⟨List.mem_append_right _ (xT6 (List.mem_of_getElem? h)), hg⟩
theorem xT7 {w : Cond} (m : w ∈ tables_1_7) : w ∈ tables_1 := List.mem_append_right _ (List.mem_append_right _ (List.mem_append_right _ (List.mem_append_right _ (List.mem_append_right _ (List.mem_append_right _ (List.mem_append_left _ m))))))
theorem xIn7 {w : Cond} (i : Nat) (h : tables_1_7[i]? = some w) (hg : goodWord w = true) : w ∈ xTT := List.mem_filter.mpr ⟨List.mem_append_right _ (xT7 (List.mem_of_getElem? h)), hg⟩
theorem xT8 {w : Cond} (m : w ∈ tables_1_8) : w ∈ tables_1 := List.mem_append_right _ (List.mem_append_right _ (List.mem_append_right _ (List.mem_append_right _ (List.mem_append_right _ (List.mem_append_right _ (List.mem_append_right _ (m)))))))
theorem xIn8 {w : Cond} (i : Nat) (h : tables_1_8[i]? = some w) (hg : goodWord w = true) : w ∈ xTT := List.mem_filter.mpr ⟨List.mem_append_right _ (xT8 (List.mem_of_getElem? h)), hg⟩
theorem xInP1 {q : MethodName × Nat} (i : Nat) (h : lw_privs_1[i]? = some q) : Cond.selects q.1.cls q.1 q.1 ∈ xTT := List.mem_filter.mpr ⟨List.mem_append_left _ (List.mem_map.mpr ⟨q, List.mem_append_left _ (List.mem_of_getElem? h), rfl⟩), rfl⟩
theorem xInP2 {q : MethodName × Nat} (i : Nat) (h : lw_privs_2[i]? = some q) : Cond.selects q.1.cls q.1 q.1 ∈ xTT := List.mem_filter.mpr ⟨List.mem_append_left _ (List.mem_map.mpr ⟨q, List.mem_append_right _ (List.mem_append_left _ (List.mem_of_getElem? h)), rfl⟩), rfl⟩
theorem xInP3 {q : MethodName × Nat} (i : Nat) (h : lw_privs_3[i]? = some q) : Cond.selects q.1.cls q.1 q.1 ∈ xTT := List.mem_filter.mpr ⟨List.mem_append_left _ (List.mem_map.mpr ⟨q, List.mem_append_right _ (List.mem_append_right _ (List.mem_append_left _ (List.mem_of_getElem? h))), rfl⟩), rfl⟩
theorem xInP4 {q : MethodName × Nat} (i : Nat) (h : lw_privs_4[i]? = some q) : Cond.selects q.1.cls q.1 q.1 ∈ xTT := List.mem_filter.mpr ⟨List.mem_append_left _ (List.mem_map.mpr ⟨q, List.mem_append_right _ (List.mem_append_right _ (List.mem_append_right _ (List.mem_append_left _ (List.mem_of_getElem? h)))), rfl⟩), rfl⟩
theorem xInP5 {q : MethodName × Nat} (i : Nat) (h : lw_privs_5[i]? = some q) : Cond.selects q.1.cls q.1 q.1 ∈ xTT := List.mem_filter.mpr ⟨List.mem_append_left _ (List.mem_map.mpr ⟨q, List.mem_append_right _ (List.mem_append_right _ (List.mem_append_right _ (List.mem_append_right _ (List.mem_append_left _ (List.mem_of_getElem? h))))), rfl⟩), rfl⟩
theorem xInP6 {q : MethodName × Nat} (i : Nat) (h : lw_privs_6[i]? = some q) : Cond.selects q.1.cls q.1 q.1 ∈ xTT := List.mem_filter.mpr ⟨List.mem_append_left _ (List.mem_map.mpr ⟨q, List.mem_append_right _ (List.mem_append_right _ (List.mem_append_right _ (List.mem_append_right _ (List.mem_append_right _ (List.mem_of_getElem? h))))), rfl⟩), rfl⟩
theorem xIn {w : Cond} (i : Nat) (h : lw_tbl[i]? = some w) (hg : goodWord w = true) : w ∈ xTT := List.mem_filter.mpr ⟨List.mem_of_getElem? h, hg⟩
end
section
/-! MY OWN LOGIC OVER THE KIT: an abstract heap (cells at numerals), a frame over all the concrete states that stand for it -/
/-- what is fixed over a run: the first address of ours, the law's start heap, array classes by number, object classes by number, their slots, the addresses of static cells -/
abbrev xG : Type := Nat × Heap × (Nat → ClassId) × (Nat → ClassId) × (Nat → Nat → Nat) × (Nat → Nat)
/-- a cell: tag (below 100 an array of that type number, from 100 on an object of class tag - 100), length, contents -/
abbrev xC : Type := Nat × Nat × (Nat → Value)
abbrev xH : Type := (Nat → xC) × Nat
def xad (G : xG) (k : Nat) : Nat := if k < 1000000 then G.1 + k else G.2.2.2.2.2 (k - 1000000)
def xtv (G : xG) (v : Value) : Value := match v with
  | .ref k => .ref (xad G k)
  | w => w
theorem xtv_cat (G : xG) (v : Value) : (xtv G v).category = v.category := by cases v <;> rfl
def xty (t : Nat) : FieldType := match t with
  | 0 => .int
  | 1 => .long
  | 2 => .boolean
  | 3 => .byte
  | 4 => .array .int
  | _ => .array .long
/-- the classes of our objects -/
def xcl : List vw_C := [(RX0, TX0, 10), (RX1, TX1, 3), (RX2, TX2, 4), (RX3, TX3, 9), (RX4, TX4, 5), (RX5, TX5, 0), (RX6, TX6, 9), (RX7, TX7, 3), (RX8, TX8, 2), (RX9, TX9, 9), (RX10, TX10, 3), (RX11, TX11, 16), (RX12, TX12, 38), (RJ4, TJ4, 4)]
def xA (G : xG) : Nat → Prop := fun q => G.1 ≤ q
def xAt (G : xG) (c : xC) (a : Nat) (H : Heap) : Prop := if c.1 < 100 then H[a]? = some (arrV (G.2.2.1 c.1) c.2.1 (fun j => xtv G (c.2.2 j))) else ∃ q : vw_C, xcl[c.1 - 100]? = some q ∧ t_OB a (G.2.2.2.1 (c.1 - 100)) q.2.2 (G.2.2.2.2.1 (c.1 - 100)) H (fun k => xtv G (c.2.2 k))
def xR (G : xG) (h : xH) (H : Heap) : Prop := H.size = G.1 + h.2 ∧ (∀ k, k < h.2 → xAt G (h.1 k) (G.1 + k) H) ∧ (∀ q, q < G.1 → H[q]? = G.2.1[q]?) ∧ (∀ k, h.2 ≤ k → (h.1 k).1 = 99) ∧ h.2 ≤ 1000000
def xup (f : Nat → xC) (a : Nat) (c : xC) : Nat → xC := fun j => if j = a then c else f j
/-- a cell is another one -/
def hs (h : xH) (a : Nat) (c : xC) : xH := (xup h.1 a c, h.2)
/-- a new cell -/
def hn (h : xH) (c : xC) : xH := (xup h.1 h.2 c, h.2 + 1)
theorem hs_eq {h : xH} {a : Nat} {c : xC} : (hs h a c).1 a = c := if_pos rfl
theorem hs_ne {h : xH} {a b : Nat} {c d : xC} (hb : b ≠ a) (hd : h.1 b = d) : (hs h a c).1 b = d := (if_neg hb).trans hd
theorem hs_n {h : xH} {a b : Nat} {c : xC} (hb : b ≠ a) : (hs h a c).1 b = h.1 b := if_neg hb
/-- words of nest mates' private members -/
def xisN (w : Cond) : Bool := match w with
  | .fieldLinkNest .. => true
  | .methodLinkNest .. => true
  | _ => false
def xNW : List Cond := tables_1.filter xisN
/-- the static cells: the class, the field, its descriptor; the type of its elements, how many, what they are -/
def xST : List (String × String × Nat × List Int32) := [("EightParts$Lattice", "CODE", 16, [0, 255, 15, 240, 51, 204, 195, 60, 85, 170, 165, 90, 153, 102, 105, 150]), ("EightParts$Lists", "ROOM", 4, [1, 240, 2160, 6720]), ("EightParts$Ways", "MANY", 7, [0, 1, 1, 2, 5, 14, 42]), ("EightParts$Ways", "START", 7, [0, 0, 6, 11, 19, 34, 62])]
def xStat (G : xG) (s : State) : Prop := ∀ (j : Nat) (q : String × String × Nat × List Int32), xST[j]? = some q → va_Z q.1 q.2.1 "[I" (.ref (G.2.2.2.2.2 j)) (xA G) s G.2.1 ∧ va_T .int (G.2.2.2.2.2 j) q.2.2.1 (fun i => .int (q.2.2.2.getD i 0)) (xA G) s G.2.1
/-- an array of arrays can be made -/
def xAO (t : FieldType) (U : State) : Prop := (Cond.arrayOver (.array t)).before #[] U = true
theorem xAO.moved {t : FieldType} {u U : State} (hvm : u.vm.Alike U.vm) (h : xAO t u) : xAO t U := by
  obtain ⟨comp, c, k, h1, h2, h3, h4, h5⟩ := arrayOverA_spec h
  obtain ⟨k', hk', he⟩ := hvm.2.2 _ _ h3
  have hi : (U.vm.classes.findIdx? fun (x : Class) => match x.kind with | .array component _ => component == comp | _ => false) = some c := by
    rw [hvm.findIdx?_eq _ (fun _ => rfl)]
    exact h2
  have hkind : k'.kind = .array comp (.array t) := by rw [he]; exact h4
  have f1 : U.vm.findClass (FieldType.array t).toString = some comp := by rw [hvm.findClass]; exact h1
  have f2 : U.vm.findClass ("[" ++ (FieldType.array t).toString) = some c := by rw [hvm.findClass]; exact h5
  unfold xAO Cond.before Cond.holds
  simp only [Cond.value]
  rw [f1, Option.bind_some]
  refine (congrArg (fun o : Option Nat => (o.bind (fun c => (U.vm.classes[c]?).map fun (k : Class) => match k.kind with | .array _ ty => decide (ty = FieldType.array t) && decide (U.vm.findClass ("[" ++ (FieldType.array t).toString) = some c) | _ => false) == some true)) hi).trans ?_
  simp [hk', hkind, f2]
def xSE (G : xG) (s : State) : Prop :=
  (∀ (c : Nat) (q : vw_C), xcl[c]? = some q → u_Kn s q.1 q.2.1 q.2.2 (G.2.2.2.1 c) (G.2.2.2.2.1 c)) ∧ (∀ t, t < 6 → ArrOfT s (G.2.2.1 t) (xty t) ∧ s.vm.findClass ("[" ++ (xty t).toString) = some (G.2.2.1 t)) ∧ (∀ w ∈ xNW, va_Nw w s) ∧ xStat G s ∧ xAO .int s ∧ xAO .long s
theorem xNW_warm {s U : State} (hW : s.WarmedH U.vm) {w : Cond} (hw : w ∈ xNW) (h : va_Nw w s) : va_Nw w U := by
  have h1 : xisN w = true := (List.mem_filter.mp hw).2
  cases w <;> first | exact va_Nw.warmF hW h | exact va_Nw.warmM hW h | (exact absurd h1 (by simp [xisN]))
theorem xNW_same {u U : State} (hv : u.vm = U.vm) {w : Cond} (hw : w ∈ xNW) (h : va_Nw w u) : va_Nw w U := by
  have h1 : xisN w = true := (List.mem_filter.mp hw).2
  cases w <;> first | exact va_Nw.same rfl hv h | (exact absurd h1 (by simp [xisN]))
theorem xSE_al {G : xG} {u U : State} (hvm : u.vm.Alike U.vm) (hn : ∀ w ∈ xNW, va_Nw w U) (h : xSE G u) : xSE G U :=
  ⟨fun c q hq => u_Kn_moved hvm (h.1 c q hq), fun t ht => ⟨arrOfT_moved hvm (h.2.1 t ht).1, by rw [hvm.findClass]; exact (h.2.1 t ht).2⟩, hn, fun j q hq => ⟨va_Z.moved hvm (h.2.2.2.1 j q hq).1, va_T.moved hvm (h.2.2.2.1 j q hq).2⟩, h.2.2.2.2.1.moved hvm, h.2.2.2.2.2.moved hvm⟩
theorem xSE_warm {G : xG} {s U : State} (hW : s.WarmedH U.vm) (h : xSE G s) : xSE G U := xSE_al hW.alike (fun w hw => xNW_warm hW hw (h.2.2.1 w hw)) h
theorem xSE_same {G : xG} {u U : State} (hv : u.vm = U.vm) (h : xSE G u) : xSE G U := xSE_al (hv ▸ Vm.Alike.refl u.vm) (fun w hw => xNW_same hv hw (h.2.2.1 w hw)) h
/-- locals, as a function that may not know -/
abbrev xL : Type := Nat → Option Value
def xls : List (Nat × Value) → xL
  | [], _ => none
  | q :: r, i => if i = q.1 then some q.2 else xls r i
def xst (L : xL) (i : Nat) (v : Value) : xL := fun j => if j = i then some v else if j + 1 = i then (match L j with
  | some w => if w.category = 2 then none else some w
  | none => none) else L j
def xst2 (L : xL) (i : Nat) (v : Value) : xL := fun j => if j = i then some v else if j = i + 1 then none else if j + 1 = i then (match L j with
  | some w => if w.category = 2 then none else some w
  | none => none) else L j
def xLs (G : xG) (ls : Array Slot) (nL : Nat) (L : xL) : Prop := ls.size = nL ∧ lv_wf ls ∧ ∀ i v, L i = some v → ls[i]? = some (.val (xtv G v))
theorem xls_mem : ∀ {l : List (Nat × Value)} {i : Nat} {v : Value}, xls l i = some v → (i, v) ∈ l
  | [], i, v, h => by simp [xls] at h
  | q :: r, i, v, h => by
    unfold xls at h
    split at h
    · next e =>
      cases h
      subst e
      exact List.mem_cons_self
    · exact List.mem_cons_of_mem _ (xls_mem h)
theorem xargs_map (G : xG) : ∀ (vs : List Value) (i : Nat), lv_args i (vs.map (xtv G)) = (lv_args i vs).map (fun q => (q.1, xtv G q.2))
  | [], i => rfl
  | v :: vs, i => by
    show (i, xtv G v) :: lv_args (if (xtv G v).category = 2 then i + 2 else i + 1) (vs.map (xtv G)) = _
    rw [xtv_cat, xargs_map G vs]
    rfl
/-- the known locals, listed -/
def xll (G : xG) (nL : Nat) (L : xL) : List (Nat × Value) := (List.range nL).filterMap (fun i => (L i).map (fun v => (i, xtv G v)))
theorem xll_mem {G : xG} {nL : Nat} {L : xL} {i : Nat} {v : Value} (hi : i < nL) (h : L i = some v) : (i, xtv G v) ∈ xll G nL L := List.mem_filterMap.mpr ⟨i, List.mem_range.mpr hi, by rw [h]; rfl⟩
theorem xLs.has {G : xG} {ls : Array Slot} {nL : Nat} {L : xL} (h : xLs G ls nL L) : lv_has ls nL (xll G nL L) := by
  refine ⟨h.1, h.2.1, fun q hq => ?_⟩
  obtain ⟨i, -, hi⟩ := List.mem_filterMap.mp hq
  cases hL : L i with
  | none => rw [hL] at hi; cases hi
  | some v =>
    rw [hL] at hi
    cases hi
    exact h.2.2 i v hL
theorem xLs.lt {G : xG} {ls : Array Slot} {nL : Nat} {L : xL} (h : xLs G ls nL L) {i : Nat} {v : Value} (hi : L i = some v) : i < nL := by
  rw [← h.1]
  exact lv_lt (h.2.2 i v hi)
theorem xLs_st {G : xG} {ls ls' : Array Slot} {nL : Nat} {L : xL} {i : Nat} {v : Value} (h : xLs G ls nL L) (h' : lv_has ls' nL ((i, xtv G v) :: (xll G nL L).filter (fun q => !(q.1 == i) && !(q.1 + 1 == i && q.2.category == 2)))) : xLs G ls' nL (xst L i v) := by
  refine ⟨h'.1, h'.2.1, fun j w hj => ?_⟩
  unfold xst at hj
  split at hj
  · next e =>
    cases hj
    subst e
    exact h'.2.2 _ List.mem_cons_self
  · next e =>
    split at hj
    · next e2 =>
      split at hj
      · next w' hw' =>
        split at hj
        · cases hj
        · next hc =>
          cases hj
          exact h'.2.2 (j, xtv G w) (List.mem_cons_of_mem _ (List.mem_filter.mpr ⟨xll_mem (h.lt hw') hw', by simp [e, xtv_cat, hc]⟩))
      · cases hj
    · next e2 => exact h'.2.2 (j, xtv G w) (List.mem_cons_of_mem _ (List.mem_filter.mpr ⟨xll_mem (h.lt hj) hj, by simp [e, e2]⟩))
theorem xLs_st2 {G : xG} {ls ls' : Array Slot} {nL : Nat} {L : xL} {i : Nat} {v : Value} (h : xLs G ls nL L) (h' : lv_has ls' nL ((i, xtv G v) :: (xll G nL L).filter (fun q => !(q.1 == i) && (!(q.1 == i + 1) && !(q.1 + 1 == i && q.2.category == 2))))) : xLs G ls' nL (xst2 L i v) := by
  refine ⟨h'.1, h'.2.1, fun j w hj => ?_⟩
  unfold xst2 at hj
  split at hj
  · next e =>
    cases hj
    subst e
    exact h'.2.2 _ List.mem_cons_self
  · next e =>
    split at hj
    · cases hj
    · next e1 =>
      split at hj
      · next e2 =>
        split at hj
        · next w' hw' =>
          split at hj
          · cases hj
          · next hc =>
            cases hj
            exact h'.2.2 (j, xtv G w) (List.mem_cons_of_mem _ (List.mem_filter.mpr ⟨xll_mem (h.lt hw') hw', by simp [e, e1, xtv_cat, hc]⟩))
        · cases hj
      · next e2 => exact h'.2.2 (j, xtv G w) (List.mem_cons_of_mem _ (List.mem_filter.mpr ⟨xll_mem (h.lt hj) hj, by simp [e, e1, e2]⟩))
/-- what stands about a frame -/
def xOK (G : xG) (M : xM) (d : Nat) (p : Program) (R : Room) (s : State) (m : MethodId) (args : Array Value) (meth : Method) (c : Code) (mc ms : Nat) : Prop :=
  p.tables.exec = Jvm.exec ∧ c.code = M.2.1 ∧ c.maxLocals = M.2.2.1 ∧ meth.sig.returnType = M.2.2.2 ∧ meth.locks = false ∧ meth.name = M.1.name ∧ s.vm.findClass M.1.cls = some m.cls ∧ (∀ w ∈ xTT, w.before args s = true) ∧ xSE G s ∧ d ≤ R.frames ∧ 100 * d ≤ R.locals ∧ R.cells = mc ∧ R.slots = ms ∧ G.1 ≤ s.heap.size
/-- the frame of method M at pc, k cells and n slots still to make, d frames deep at most, comes to Z -/
def xWP (G : xG) (l : Launch) (M : xM) (d : Nat) (Z : List Frame → Array Value → State → Nat → Nat → State → Prop) (k n pc : Nat) (L : xL) (st : List Value) (h : xH) : Prop :=
  ∀ (p : Program) (e : Env) (R : Room) (s : State) (m : MethodId) (args : Array Value) (below : List Frame) (meth : Method) (c : Code) (H : Heap) (locs : List Loc) (cells slots mc ms : Nat) (ls : Array Slot),
    xOK G M d p R s m args meth c mc ms → xR G h H → va_S (xA G) s.heap H locs → cells + k ≤ mc → slots + n ≤ ms → xLs G ls M.2.2.1 L →
    W p l e R s m args below meth c H locs cells slots (Z below args s mc ms) (F0 m pc ls (st.map (xtv G)))
def xPost (G : xG) (Q : Option Value → xH → Prop) : Array Value → State → Outcome → State → Prop := fun _ st oc t => (∃ (r : Option Value) (h' : xH), oc = .returned (r.map (xtv G)) ∧ Q r h' ∧ xR G h' t.heap) ∧ va_F (xA G) st t
def zM (G : xG) (Q : Option Value → xH → Prop) : List Frame → Array Value → State → Nat → Nat → State → Prop := fun below args s mc ms => MQ below (xPost G Q) args s mc ms (xA G)
def xPre (G : xG) (as : List Value) (h : xH) : Array Value → State → Prop := fun v U => v = (as.map (xtv G)).toArray ∧ xSE G U ∧ xR G h U.heap
abbrev xws (M : xM) : List Cond := Cond.code M.1 M.2.1 M.2.2.1 M.2.2.2 :: xTT
/-- a contract: method M on these arguments and this heap -/
def xCt (G : xG) (l : Launch) (M : xM) (d : Nat) (as : List Value) (h : xH) (mc ms : Nat) (Q : Option Value → xH → Prop) : Prop :=
  Met l M.1 (xws M) { frames := d, cells := mc, slots := ms, locals := 100 * d } (xPre G as h) (xPost G Q) mc ms (xA G)
theorem xPre_blind (G : xG) (as : List Value) (h : xH) : FrameBlind (xPre G as h) := by
  intro a U g mk q
  obtain ⟨q0, q1, q2⟩ := q
  exact ⟨q0, xSE_same (u := U) (U := U.calling g mk a) rfl q1, q2⟩
theorem xCt_of {G : xG} {l : Launch} {N : xM} {d : Nat} {as : List Value} {h : xH} {mc ms : Nat} {Q : Option Value → xH → Prop} (hpl : plainName N.1.cls = true) (hlen : (lg_sl (as.map (xtv G))).length ≤ N.2.2.1) (w : xWP G l N d (zM G Q) mc ms 0 (xls (lv_args 0 as)) [] h) : xCt G l N d as h mc ms Q := by
  refine Met.ofW (cc := N.2.1) (maxL := N.2.2.1) (ret := N.2.2.2) hpl rfl ?_
  intro p e s m args' below meth c s₁ B hml hv
  obtain ⟨rfl, hSE, hR⟩ := hv
  have hts := atoms_spec (ws := xws N) B.pre
  have hl := lv_entry (as.map (xtv G)) hlen
  rw [lg_entry_eq]
  refine w p e _ s m _ below meth c s.heap [] 0 0 mc ms _ ⟨B.exec, B.bytes, hml, B.returns, B.notSynchronized, (name_of_methodNamed B.named B.method).1, findClass_of_methodNamed B.named, fun w hw => hts w (List.mem_cons_of_mem _ hw), hSE, Nat.le_refl _, Nat.le_refl _, rfl, rfl, by rw [hR.1]; exact Nat.le_add_right _ _⟩ hR va_S.rf (by omega) (by omega) ⟨hl.1, hl.2.1, fun i v hi => ?_⟩
  have hm := xls_mem hi
  refine hl.2.2 (i, xtv G v) ?_
  rw [xargs_map]
  exact List.mem_map.mpr ⟨(i, v), hm, rfl⟩
/-- behind a call -/
theorem x_after {p : Program} {l : Launch} {e : Env} {R : Room} {s : State} {m : MethodId} {args : Array Value} {below : List Frame} {meth : Method} {c : Code} {H : Heap} {locs : List Loc} {cells slots mc ms pc : Nat} {Q : State → Prop} {ls : Array Slot} {st0 rest : List Value} {G : xG} {Q' : Option Value → xH → Prop} {a : Array Value}
    (hr : va_Run p l e R s m args below meth c H locs cells slots mc ms (F0 m pc ls st0) rest (xPost G Q' a) (xA G)) (hS : va_S (xA G) s.heap H locs)
    (kk : ∀ (r : Option Value) (h' : xH) (H1 : Heap) (locs1 : List Loc), Q' r h' → xR G h' H1 → va_S (xA G) s.heap H1 locs1 → W p l e R s m args below meth c H1 locs1 (cells + mc) (slots + ms) Q (F0 m (pc + 3) ls ((r.map (xtv G)).toList ++ rest))) : W p l e R s m args below meth c H locs cells slots Q (F0 m pc ls st0) := by
  intro T hT X
  obtain ⟨v, st₀, t, T', L, h0, X', hL, e1, e2, ⟨⟨r, h', hv, hq, hR⟩, hz, hk⟩, st⟩ := hr T hT X
  cases hv
  rw [h0] at hz hk
  obtain ⟨t2, a1, b1⟩ := kk r h' T'.heap (locs ++ L) hq (by rw [e1]; exact hR)
    ⟨Nat.le_trans hS.1 (by rw [e1]; exact hz), fun q h1 h2 => by rw [e1, hk q (Nat.lt_of_lt_of_le h1 hS.1) h2]; exact hS.2.1 q h1 h2, fun q hq => by
      rcases List.mem_append.mp hq with h | h
      · exact hS.2.2 q h
      · exact hL q h⟩ T' rfl X'
  exact ⟨t2, st t2 a1, b1⟩
end
section
section XR
variable {G : xG} {l : Launch} {M : xM} {d : Nat} {Z : List Frame → Array Value → State → Nat → Nat → State → Prop} {k n pc pc2 : Nat} {L : xL} {st : List Value} {h : xH}
theorem x_iadd {x y : Int32} (hd : decode M.2.1 pc = .ok (.iadd, 1)) (hp : pc + 1 = pc2) (kk : xWP G l M d Z k n pc2 L (.int (x + y) :: st) h) : xWP G l M d Z k n pc L (.int y :: .int x :: st) h := by
  intro p e R s m args below meth c H locs cells slots mc ms ls hO hR hS hk hn hl
  subst hp
  exact lv_iadd hO.1 hO.2.1 hd (kk p e R s m args below meth c H locs cells slots mc ms ls hO hR hS hk hn hl)
theorem x_isub {x y : Int32} (hd : decode M.2.1 pc = .ok (.isub, 1)) (hp : pc + 1 = pc2) (kk : xWP G l M d Z k n pc2 L (.int (x - y) :: st) h) : xWP G l M d Z k n pc L (.int y :: .int x :: st) h := by
  intro p e R s m args below meth c H locs cells slots mc ms ls hO hR hS hk hn hl
  subst hp
  exact lv_isub hO.1 hO.2.1 hd (kk p e R s m args below meth c H locs cells slots mc ms ls hO hR hS hk hn hl)
theorem x_imul {x y : Int32} (hd : decode M.2.1 pc = .ok (.imul, 1)) (hp : pc + 1 = pc2) (kk : xWP G l M d Z k n pc2 L (.int (x * y) :: st) h) : xWP G l M d Z k n pc L (.int y :: .int x :: st) h := by
  intro p e R s m args below meth c H locs cells slots mc ms ls hO hR hS hk hn hl
  subst hp
  exact lv_imul hO.1 hO.2.1 hd (kk p e R s m args below meth c H locs cells slots mc ms ls hO hR hS hk hn hl)
theorem x_iand {x y : Int32} (hd : decode M.2.1 pc = .ok (.iand, 1)) (hp : pc + 1 = pc2) (kk : xWP G l M d Z k n pc2 L (.int (x &&& y) :: st) h) : xWP G l M d Z k n pc L (.int y :: .int x :: st) h := by
  intro p e R s m args below meth c H locs cells slots mc ms ls hO hR hS hk hn hl
  subst hp
  exact lv_iand hO.1 hO.2.1 hd (kk p e R s m args below meth c H locs cells slots mc ms ls hO hR hS hk hn hl)
theorem x_ior {x y : Int32} (hd : decode M.2.1 pc = .ok (.ior, 1)) (hp : pc + 1 = pc2) (kk : xWP G l M d Z k n pc2 L (.int (x ||| y) :: st) h) : xWP G l M d Z k n pc L (.int y :: .int x :: st) h := by
  intro p e R s m args below meth c H locs cells slots mc ms ls hO hR hS hk hn hl
  subst hp
  exact lv_ior hO.1 hO.2.1 hd (kk p e R s m args below meth c H locs cells slots mc ms ls hO hR hS hk hn hl)
theorem x_ixor {x y : Int32} (hd : decode M.2.1 pc = .ok (.ixor, 1)) (hp : pc + 1 = pc2) (kk : xWP G l M d Z k n pc2 L (.int (x ^^^ y) :: st) h) : xWP G l M d Z k n pc L (.int y :: .int x :: st) h := by
  intro p e R s m args below meth c H locs cells slots mc ms ls hO hR hS hk hn hl
  subst hp
  exact lv_ixor hO.1 hO.2.1 hd (kk p e R s m args below meth c H locs cells slots mc ms ls hO hR hS hk hn hl)
theorem x_ladd {x y : Int64} (hd : decode M.2.1 pc = .ok (.ladd, 1)) (hp : pc + 1 = pc2) (kk : xWP G l M d Z k n pc2 L (.long (x + y) :: st) h) : xWP G l M d Z k n pc L (.long y :: .long x :: st) h := by
  intro p e R s m args below meth c H locs cells slots mc ms ls hO hR hS hk hn hl
  subst hp
  exact lv_ladd hO.1 hO.2.1 hd (kk p e R s m args below meth c H locs cells slots mc ms ls hO hR hS hk hn hl)
theorem x_lsub {x y : Int64} (hd : decode M.2.1 pc = .ok (.lsub, 1)) (hp : pc + 1 = pc2) (kk : xWP G l M d Z k n pc2 L (.long (x - y) :: st) h) : xWP G l M d Z k n pc L (.long y :: .long x :: st) h := by
  intro p e R s m args below meth c H locs cells slots mc ms ls hO hR hS hk hn hl
  subst hp
  exact lv_lsub hO.1 hO.2.1 hd (kk p e R s m args below meth c H locs cells slots mc ms ls hO hR hS hk hn hl)
theorem x_lmul {x y : Int64} (hd : decode M.2.1 pc = .ok (.lmul, 1)) (hp : pc + 1 = pc2) (kk : xWP G l M d Z k n pc2 L (.long (x * y) :: st) h) : xWP G l M d Z k n pc L (.long y :: .long x :: st) h := by
  intro p e R s m args below meth c H locs cells slots mc ms ls hO hR hS hk hn hl
  subst hp
  exact lv_lmul hO.1 hO.2.1 hd (kk p e R s m args below meth c H locs cells slots mc ms ls hO hR hS hk hn hl)
theorem x_land {x y : Int64} (hd : decode M.2.1 pc = .ok (.land, 1)) (hp : pc + 1 = pc2) (kk : xWP G l M d Z k n pc2 L (.long (x &&& y) :: st) h) : xWP G l M d Z k n pc L (.long y :: .long x :: st) h := by
  intro p e R s m args below meth c H locs cells slots mc ms ls hO hR hS hk hn hl
  subst hp
  exact lv_land hO.1 hO.2.1 hd (kk p e R s m args below meth c H locs cells slots mc ms ls hO hR hS hk hn hl)
theorem x_lor {x y : Int64} (hd : decode M.2.1 pc = .ok (.lor, 1)) (hp : pc + 1 = pc2) (kk : xWP G l M d Z k n pc2 L (.long (x ||| y) :: st) h) : xWP G l M d Z k n pc L (.long y :: .long x :: st) h := by
  intro p e R s m args below meth c H locs cells slots mc ms ls hO hR hS hk hn hl
  subst hp
  exact lv_lor hO.1 hO.2.1 hd (kk p e R s m args below meth c H locs cells slots mc ms ls hO hR hS hk hn hl)
theorem x_lxor {x y : Int64} (hd : decode M.2.1 pc = .ok (.lxor, 1)) (hp : pc + 1 = pc2) (kk : xWP G l M d Z k n pc2 L (.long (x ^^^ y) :: st) h) : xWP G l M d Z k n pc L (.long y :: .long x :: st) h := by
  intro p e R s m args below meth c H locs cells slots mc ms ls hO hR hS hk hn hl
  subst hp
  exact lv_lxor hO.1 hO.2.1 hd (kk p e R s m args below meth c H locs cells slots mc ms ls hO hR hS hk hn hl)
theorem x_ineg {x : Int32} (hd : decode M.2.1 pc = .ok (.ineg, 1)) (hp : pc + 1 = pc2) (kk : xWP G l M d Z k n pc2 L (.int (-x) :: st) h) : xWP G l M d Z k n pc L (.int x :: st) h := by
  intro p e R s m args below meth c H locs cells slots mc ms ls hO hR hS hk hn hl
  subst hp
  exact lv_ineg hO.1 hO.2.1 hd (kk p e R s m args below meth c H locs cells slots mc ms ls hO hR hS hk hn hl)
theorem x_lneg {x : Int64} (hd : decode M.2.1 pc = .ok (.lneg, 1)) (hp : pc + 1 = pc2) (kk : xWP G l M d Z k n pc2 L (.long (-x) :: st) h) : xWP G l M d Z k n pc L (.long x :: st) h := by
  intro p e R s m args below meth c H locs cells slots mc ms ls hO hR hS hk hn hl
  subst hp
  exact lv_lneg hO.1 hO.2.1 hd (kk p e R s m args below meth c H locs cells slots mc ms ls hO hR hS hk hn hl)
theorem x_idiv {x y : Int32} (hd : decode M.2.1 pc = .ok (.idiv, 1)) (hp : pc + 1 = pc2) (hne : ¬ y = 0) (kk : xWP G l M d Z k n pc2 L (.int (x / y) :: st) h) : xWP G l M d Z k n pc L (.int y :: .int x :: st) h := by
  intro p e R s m args below meth c H locs cells slots mc ms ls hO hR hS hk hn hl
  subst hp
  exact lv_idiv hO.1 hO.2.1 hd hne (kk p e R s m args below meth c H locs cells slots mc ms ls hO hR hS hk hn hl)
theorem x_irem {x y : Int32} (hd : decode M.2.1 pc = .ok (.irem, 1)) (hp : pc + 1 = pc2) (hne : ¬ y = 0) (kk : xWP G l M d Z k n pc2 L (.int (x - x / y * y) :: st) h) : xWP G l M d Z k n pc L (.int y :: .int x :: st) h := by
  intro p e R s m args below meth c H locs cells slots mc ms ls hO hR hS hk hn hl
  subst hp
  exact lv_irem hO.1 hO.2.1 hd hne (kk p e R s m args below meth c H locs cells slots mc ms ls hO hR hS hk hn hl)
theorem x_ldiv {x y : Int64} (hd : decode M.2.1 pc = .ok (.ldiv, 1)) (hp : pc + 1 = pc2) (hne : ¬ y = 0) (kk : xWP G l M d Z k n pc2 L (.long (x / y) :: st) h) : xWP G l M d Z k n pc L (.long y :: .long x :: st) h := by
  intro p e R s m args below meth c H locs cells slots mc ms ls hO hR hS hk hn hl
  subst hp
  exact lv_ldiv hO.1 hO.2.1 hd hne (kk p e R s m args below meth c H locs cells slots mc ms ls hO hR hS hk hn hl)
theorem x_lrem {x y : Int64} (hd : decode M.2.1 pc = .ok (.lrem, 1)) (hp : pc + 1 = pc2) (hne : ¬ y = 0) (kk : xWP G l M d Z k n pc2 L (.long (x - x / y * y) :: st) h) : xWP G l M d Z k n pc L (.long y :: .long x :: st) h := by
  intro p e R s m args below meth c H locs cells slots mc ms ls hO hR hS hk hn hl
  subst hp
  exact lv_lrem hO.1 hO.2.1 hd hne (kk p e R s m args below meth c H locs cells slots mc ms ls hO hR hS hk hn hl)
theorem x_ishl {x y : Int32} (hd : decode M.2.1 pc = .ok (.ishl, 1)) (hp : pc + 1 = pc2) (kk : xWP G l M d Z k n pc2 L (.int (x <<< (y &&& 31)) :: st) h) : xWP G l M d Z k n pc L (.int y :: .int x :: st) h := by
  intro p e R s m args below meth c H locs cells slots mc ms ls hO hR hS hk hn hl
  subst hp
  exact lv_ishl hO.1 hO.2.1 hd (kk p e R s m args below meth c H locs cells slots mc ms ls hO hR hS hk hn hl)
theorem x_ishr {x y : Int32} (hd : decode M.2.1 pc = .ok (.ishr, 1)) (hp : pc + 1 = pc2) (kk : xWP G l M d Z k n pc2 L (.int (x >>> (y &&& 31)) :: st) h) : xWP G l M d Z k n pc L (.int y :: .int x :: st) h := by
  intro p e R s m args below meth c H locs cells slots mc ms ls hO hR hS hk hn hl
  subst hp
  exact lv_ishr hO.1 hO.2.1 hd (kk p e R s m args below meth c H locs cells slots mc ms ls hO hR hS hk hn hl)
theorem x_iushr {x y : Int32} (hd : decode M.2.1 pc = .ok (.iushr, 1)) (hp : pc + 1 = pc2) (kk : xWP G l M d Z k n pc2 L (.int ((x.toUInt32 >>> (y.toUInt32 &&& Int32.toUInt32 31)).toInt32) :: st) h) : xWP G l M d Z k n pc L (.int y :: .int x :: st) h := by
  intro p e R s m args below meth c H locs cells slots mc ms ls hO hR hS hk hn hl
  subst hp
  exact lv_iushr hO.1 hO.2.1 hd rfl (kk p e R s m args below meth c H locs cells slots mc ms ls hO hR hS hk hn hl)
theorem x_i2l {x : Int32} (hd : decode M.2.1 pc = .ok (.i2l, 1)) (hp : pc + 1 = pc2) (kk : xWP G l M d Z k n pc2 L (.long x.toInt64 :: st) h) : xWP G l M d Z k n pc L (.int x :: st) h := by
  intro p e R s m args below meth c H locs cells slots mc ms ls hO hR hS hk hn hl
  subst hp
  exact lv_i2l hO.1 hO.2.1 hd rfl (kk p e R s m args below meth c H locs cells slots mc ms ls hO hR hS hk hn hl)
theorem x_l2i {x : Int64} (hd : decode M.2.1 pc = .ok (.l2i, 1)) (hp : pc + 1 = pc2) (kk : xWP G l M d Z k n pc2 L (.int x.toInt32 :: st) h) : xWP G l M d Z k n pc L (.long x :: st) h := by
  intro p e R s m args below meth c H locs cells slots mc ms ls hO hR hS hk hn hl
  subst hp
  exact lv_l2i hO.1 hO.2.1 hd rfl (kk p e R s m args below meth c H locs cells slots mc ms ls hO hR hS hk hn hl)
theorem x_i2b {x : Int32} (hd : decode M.2.1 pc = .ok (.i2b, 1)) (hp : pc + 1 = pc2) (kk : xWP G l M d Z k n pc2 L (.int x.toInt8.toInt32 :: st) h) : xWP G l M d Z k n pc L (.int x :: st) h := by
  intro p e R s m args below meth c H locs cells slots mc ms ls hO hR hS hk hn hl
  subst hp
  exact lv_i2b hO.1 hO.2.1 hd rfl (kk p e R s m args below meth c H locs cells slots mc ms ls hO hR hS hk hn hl)
theorem x_i2c {x : Int32} (hd : decode M.2.1 pc = .ok (.i2c, 1)) (hp : pc + 1 = pc2) (kk : xWP G l M d Z k n pc2 L (.int (x.toUInt32 % 65536).toInt32 :: st) h) : xWP G l M d Z k n pc L (.int x :: st) h := by
  intro p e R s m args below meth c H locs cells slots mc ms ls hO hR hS hk hn hl
  subst hp
  exact lv_i2c hO.1 hO.2.1 hd rfl (kk p e R s m args below meth c H locs cells slots mc ms ls hO hR hS hk hn hl)
theorem x_lcmp {x y : Int64} (hd : decode M.2.1 pc = .ok (.lcmp, 1)) (hp : pc + 1 = pc2) (kk : xWP G l M d Z k n pc2 L (.int (lg_cmp x y) :: st) h) : xWP G l M d Z k n pc L (.long y :: .long x :: st) h := by
  intro p e R s m args below meth c H locs cells slots mc ms ls hO hR hS hk hn hl
  subst hp
  exact W.lcmp hO.1 hO.2.1 hd (kk p e R s m args below meth c H locs cells slots mc ms ls hO hR hS hk hn hl)
theorem x_iconst {c : Int} {v : Int32} (hd : decode M.2.1 pc = .ok (.iconst c, 1)) (hp : pc + 1 = pc2) (hv : Int32.ofInt c = v) (kk : xWP G l M d Z k n pc2 L (.int v :: st) h) : xWP G l M d Z k n pc L (st) h := by
  intro p e R s m args below meth c H locs cells slots mc ms ls hO hR hS hk hn hl
  subst hp
  exact lv_iconst hO.1 hO.2.1 hd hv (kk p e R s m args below meth c H locs cells slots mc ms ls hO hR hS hk hn hl)
theorem x_bipush {c : Int} {v : Int32} (hd : decode M.2.1 pc = .ok (.bipush c, 2)) (hp : pc + 2 = pc2) (hv : (Int8.ofInt c).toInt32 = v) (kk : xWP G l M d Z k n pc2 L (.int v :: st) h) : xWP G l M d Z k n pc L (st) h := by
  intro p e R s m args below meth c H locs cells slots mc ms ls hO hR hS hk hn hl
  subst hp
  exact lv_bipush hO.1 hO.2.1 hd hv (kk p e R s m args below meth c H locs cells slots mc ms ls hO hR hS hk hn hl)
theorem x_sipush {c : Int} {v : Int32} (hd : decode M.2.1 pc = .ok (.sipush c, 3)) (hp : pc + 3 = pc2) (hv : (Int16.ofInt c).toInt32 = v) (kk : xWP G l M d Z k n pc2 L (.int v :: st) h) : xWP G l M d Z k n pc L (st) h := by
  intro p e R s m args below meth c H locs cells slots mc ms ls hO hR hS hk hn hl
  subst hp
  exact lv_sipush hO.1 hO.2.1 hd hv (kk p e R s m args below meth c H locs cells slots mc ms ls hO hR hS hk hn hl)
theorem x_lconst {c : Fin 2} {v : Int64} (hd : decode M.2.1 pc = .ok (.lconst c, 1)) (hp : pc + 1 = pc2) (hv : Int64.ofNat (c : Nat) = v) (kk : xWP G l M d Z k n pc2 L (.long v :: st) h) : xWP G l M d Z k n pc L (st) h := by
  intro p e R s m args below meth c H locs cells slots mc ms ls hO hR hS hk hn hl
  subst hp
  exact lv_lconst hO.1 hO.2.1 hd hv (kk p e R s m args below meth c H locs cells slots mc ms ls hO hR hS hk hn hl)
theorem x_null (hd : decode M.2.1 pc = .ok (.aconst_null, 1)) (hp : pc + 1 = pc2) (kk : xWP G l M d Z k n pc2 L (.null :: st) h) : xWP G l M d Z k n pc L (st) h := by
  intro p e R s m args below meth c H locs cells slots mc ms ls hO hR hS hk hn hl
  subst hp
  exact lv_null hO.1 hO.2.1 hd (kk p e R s m args below meth c H locs cells slots mc ms ls hO hR hS hk hn hl)
theorem x_ldc2 {idx : Nat} {v : Int64} (hd : decode M.2.1 pc = .ok (.ldc2_w idx, 3)) (hp : pc + 3 = pc2) (hw : Cond.constantLong M.1.cls idx v ∈ xTT) (kk : xWP G l M d Z k n pc2 L (.long v :: st) h) : xWP G l M d Z k n pc L (st) h := by
  intro p e R s m args below meth c H locs cells slots mc ms ls hO hR hS hk hn hl
  subst hp
  exact lv_ldc2 hO.1 hO.2.1 hO.2.2.2.2.2.2.1 (hO.2.2.2.2.2.2.2.1 _ hw) hd (kk p e R s m args below meth c H locs cells slots mc ms ls hO hR hS hk hn hl)
theorem x_ldc {idx : Nat} {v : Int32} (hd : decode M.2.1 pc = .ok (.ldc idx, 2)) (hp : pc + 2 = pc2) (hw : Cond.constant M.1.cls idx v ∈ xTT) (kk : xWP G l M d Z k n pc2 L (.int v :: st) h) : xWP G l M d Z k n pc L (st) h := by
  intro p e R s m args below meth c H locs cells slots mc ms ls hO hR hS hk hn hl
  subst hp
  exact lv_ldc hO.1 hO.2.1 hO.2.2.2.2.2.2.1 (hO.2.2.2.2.2.2.2.1 _ hw) hd (kk p e R s m args below meth c H locs cells slots mc ms ls hO hR hS hk hn hl)
theorem x_iload_n {q : Fin 4} {i : Nat} {x : Int32} (hd : decode M.2.1 pc = .ok (.iload_n q, 1)) (hi : (q : Nat) = i) (hp : pc + 1 = pc2) (hv : L i = some (.int x)) (kk : xWP G l M d Z k n pc2 L (.int x :: st) h) : xWP G l M d Z k n pc L st h := by
  intro p e R s m args below meth c H locs cells slots mc ms ls hO hR hS hk hn hl
  subst hp
  exact lv_iload_n hO.1 hO.2.1 hd hi (hl.2.2 i _ hv) (kk p e R s m args below meth c H locs cells slots mc ms ls hO hR hS hk hn hl)
theorem x_iload {i : Nat} {x : Int32} (hd : decode M.2.1 pc = .ok (.iload i, 2)) (hp : pc + 2 = pc2) (hv : L i = some (.int x)) (kk : xWP G l M d Z k n pc2 L (.int x :: st) h) : xWP G l M d Z k n pc L st h := by
  intro p e R s m args below meth c H locs cells slots mc ms ls hO hR hS hk hn hl
  subst hp
  exact lv_iload hO.1 hO.2.1 hd (hl.2.2 i _ hv) (kk p e R s m args below meth c H locs cells slots mc ms ls hO hR hS hk hn hl)
theorem x_lload_n {q : Fin 4} {i : Nat} {x : Int64} (hd : decode M.2.1 pc = .ok (.lload_n q, 1)) (hi : (q : Nat) = i) (hp : pc + 1 = pc2) (hv : L i = some (.long x)) (kk : xWP G l M d Z k n pc2 L (.long x :: st) h) : xWP G l M d Z k n pc L st h := by
  intro p e R s m args below meth c H locs cells slots mc ms ls hO hR hS hk hn hl
  subst hp
  exact lv_lload_n hO.1 hO.2.1 hd hi (hl.2.2 i _ hv) (kk p e R s m args below meth c H locs cells slots mc ms ls hO hR hS hk hn hl)
theorem x_lload {i : Nat} {x : Int64} (hd : decode M.2.1 pc = .ok (.lload i, 2)) (hp : pc + 2 = pc2) (hv : L i = some (.long x)) (kk : xWP G l M d Z k n pc2 L (.long x :: st) h) : xWP G l M d Z k n pc L st h := by
  intro p e R s m args below meth c H locs cells slots mc ms ls hO hR hS hk hn hl
  subst hp
  exact lv_lload hO.1 hO.2.1 hd (hl.2.2 i _ hv) (kk p e R s m args below meth c H locs cells slots mc ms ls hO hR hS hk hn hl)
theorem x_aload_n {q : Fin 4} {i : Nat} {x : Nat} (hd : decode M.2.1 pc = .ok (.aload_n q, 1)) (hi : (q : Nat) = i) (hp : pc + 1 = pc2) (hv : L i = some (.ref x)) (kk : xWP G l M d Z k n pc2 L (.ref x :: st) h) : xWP G l M d Z k n pc L st h := by
  intro p e R s m args below meth c H locs cells slots mc ms ls hO hR hS hk hn hl
  subst hp
  exact lv_aload_n hO.1 hO.2.1 hd hi (hl.2.2 i _ hv) (kk p e R s m args below meth c H locs cells slots mc ms ls hO hR hS hk hn hl)
theorem x_aload {i : Nat} {x : Nat} (hd : decode M.2.1 pc = .ok (.aload i, 2)) (hp : pc + 2 = pc2) (hv : L i = some (.ref x)) (kk : xWP G l M d Z k n pc2 L (.ref x :: st) h) : xWP G l M d Z k n pc L st h := by
  intro p e R s m args below meth c H locs cells slots mc ms ls hO hR hS hk hn hl
  subst hp
  exact lv_aload hO.1 hO.2.1 hd (hl.2.2 i _ hv) (kk p e R s m args below meth c H locs cells slots mc ms ls hO hR hS hk hn hl)
theorem x_istore_n {q : Fin 4} {i : Nat} {x : Int32} (hd : decode M.2.1 pc = .ok (.istore_n q, 1)) (hi : (q : Nat) = i) (hp : pc + 1 = pc2) (hb : i < M.2.2.1) (kk : xWP G l M d Z k n pc2 (xst L i (.int x)) st h) : xWP G l M d Z k n pc L (.int x :: st) h := by
  intro p e R s m args below meth c H locs cells slots mc ms ls hO hR hS hk hn hl
  subst hp
  exact lv_istore_n hO.1 hO.2.1 hd hi hl.has hb rfl (fun ls2 h2 => kk p e R s m args below meth c H locs cells slots mc ms ls2 hO hR hS hk hn (xLs_st (v := .int x) hl h2))
theorem x_istore {i : Nat} {x : Int32} (hd : decode M.2.1 pc = .ok (.istore i, 2)) (hp : pc + 2 = pc2) (hb : i < M.2.2.1) (kk : xWP G l M d Z k n pc2 (xst L i (.int x)) st h) : xWP G l M d Z k n pc L (.int x :: st) h := by
  intro p e R s m args below meth c H locs cells slots mc ms ls hO hR hS hk hn hl
  subst hp
  exact lv_istore hO.1 hO.2.1 hd hl.has hb rfl (fun ls2 h2 => kk p e R s m args below meth c H locs cells slots mc ms ls2 hO hR hS hk hn (xLs_st (v := .int x) hl h2))
theorem x_lstore_n {q : Fin 4} {i : Nat} {x : Int64} (hd : decode M.2.1 pc = .ok (.lstore_n q, 1)) (hi : (q : Nat) = i) (hp : pc + 1 = pc2) (hb : i + 1 < M.2.2.1) (kk : xWP G l M d Z k n pc2 (xst2 L i (.long x)) st h) : xWP G l M d Z k n pc L (.long x :: st) h := by
  intro p e R s m args below meth c H locs cells slots mc ms ls hO hR hS hk hn hl
  subst hp
  exact lv_lstore_n hO.1 hO.2.1 hd hi hl.has hb rfl (fun ls2 h2 => kk p e R s m args below meth c H locs cells slots mc ms ls2 hO hR hS hk hn (xLs_st2 (v := .long x) hl h2))
theorem x_lstore {i : Nat} {x : Int64} (hd : decode M.2.1 pc = .ok (.lstore i, 2)) (hp : pc + 2 = pc2) (hb : i + 1 < M.2.2.1) (kk : xWP G l M d Z k n pc2 (xst2 L i (.long x)) st h) : xWP G l M d Z k n pc L (.long x :: st) h := by
  intro p e R s m args below meth c H locs cells slots mc ms ls hO hR hS hk hn hl
  subst hp
  exact lv_lstore hO.1 hO.2.1 hd hl.has hb rfl (fun ls2 h2 => kk p e R s m args below meth c H locs cells slots mc ms ls2 hO hR hS hk hn (xLs_st2 (v := .long x) hl h2))
theorem x_astore_n {q : Fin 4} {i : Nat} {x : Nat} (hd : decode M.2.1 pc = .ok (.astore_n q, 1)) (hi : (q : Nat) = i) (hp : pc + 1 = pc2) (hb : i < M.2.2.1) (kk : xWP G l M d Z k n pc2 (xst L i (.ref x)) st h) : xWP G l M d Z k n pc L (.ref x :: st) h := by
  intro p e R s m args below meth c H locs cells slots mc ms ls hO hR hS hk hn hl
  subst hp
  exact lv_astore_n hO.1 hO.2.1 hd hi hl.has hb rfl (fun ls2 h2 => kk p e R s m args below meth c H locs cells slots mc ms ls2 hO hR hS hk hn (xLs_st (v := .ref x) hl h2))
theorem x_astore {i : Nat} {x : Nat} (hd : decode M.2.1 pc = .ok (.astore i, 2)) (hp : pc + 2 = pc2) (hb : i < M.2.2.1) (kk : xWP G l M d Z k n pc2 (xst L i (.ref x)) st h) : xWP G l M d Z k n pc L (.ref x :: st) h := by
  intro p e R s m args below meth c H locs cells slots mc ms ls hO hR hS hk hn hl
  subst hp
  exact lv_astore hO.1 hO.2.1 hd hl.has hb rfl (fun ls2 h2 => kk p e R s m args below meth c H locs cells slots mc ms ls2 hO hR hS hk hn (xLs_st (v := .ref x) hl h2))
theorem x_iinc {i : Nat} {c : Int} {x v : Int32} (hd : decode M.2.1 pc = .ok (.iinc i c, 3)) (hp : pc + 3 = pc2) (hv : L i = some (.int x)) (hx : x + Int32.ofInt c = v) (kk : xWP G l M d Z k n pc2 (xst L i (.int v)) st h) : xWP G l M d Z k n pc L st h := by
  intro p e R s m args below meth c H locs cells slots mc ms ls hO hR hS hk hn hl
  subst hp
  obtain ⟨q, hq⟩ := List.getElem?_of_mem (xll_mem (G := G) (hl.lt hv) hv)
  exact lv_iinc hO.1 hO.2.1 hd hl.has hq hx (hl.lt hv) rfl (fun ls2 h2 => kk p e R s m args below meth c H locs cells slots mc ms ls2 hO hR hS hk hn (xLs_st (v := .int v) hl h2))
theorem x_dup {v : Value} (hd : decode M.2.1 pc = .ok (.dup, 1)) (hp : pc + 1 = pc2) (hc : v.category = 1) (kk : xWP G l M d Z k n pc2 L (v :: v :: st) h) : xWP G l M d Z k n pc L (v :: st) h := by
  intro p e R s m args below meth c H locs cells slots mc ms ls hO hR hS hk hn hl
  subst hp
  exact lv_dup hO.1 hO.2.1 hd (by rw [xtv_cat]; exact hc) (kk p e R s m args below meth c H locs cells slots mc ms ls hO hR hS hk hn hl)
theorem x_pop {v : Value} (hd : decode M.2.1 pc = .ok (.pop, 1)) (hp : pc + 1 = pc2) (hc : v.category = 1) (kk : xWP G l M d Z k n pc2 L st h) : xWP G l M d Z k n pc L (v :: st) h := by
  intro p e R s m args below meth c H locs cells slots mc ms ls hO hR hS hk hn hl
  subst hp
  exact lv_pop hO.1 hO.2.1 hd (by rw [xtv_cat]; exact hc) (kk p e R s m args below meth c H locs cells slots mc ms ls hO hR hS hk hn hl)
theorem x_dup_x1 {v u : Value} (hd : decode M.2.1 pc = .ok (.dup_x1, 1)) (hp : pc + 1 = pc2) (hc : v.category = 1) (hu : u.category = 1) (kk : xWP G l M d Z k n pc2 L (v :: u :: v :: st) h) : xWP G l M d Z k n pc L (v :: u :: st) h := by
  intro p e R s m args below meth c H locs cells slots mc ms ls hO hR hS hk hn hl
  subst hp
  exact lv_dup_x1 hO.1 hO.2.1 hd (by rw [xtv_cat]; exact hc) (by rw [xtv_cat]; exact hu) (kk p e R s m args below meth c H locs cells slots mc ms ls hO hR hS hk hn hl)
theorem x_dup_x2 {v u t : Value} (hd : decode M.2.1 pc = .ok (.dup_x2, 1)) (hp : pc + 1 = pc2) (hc : v.category = 1) (hu : u.category = 1) (ht : t.category = 1) (kk : xWP G l M d Z k n pc2 L (v :: u :: t :: v :: st) h) : xWP G l M d Z k n pc L (v :: u :: t :: st) h := by
  intro p e R s m args below meth c H locs cells slots mc ms ls hO hR hS hk hn hl
  subst hp
  exact lv_dup_x2 hO.1 hO.2.1 hd (by rw [xtv_cat]; exact hc) (by rw [xtv_cat]; exact hu) (by rw [xtv_cat]; exact ht) (kk p e R s m args below meth c H locs cells slots mc ms ls hO hR hS hk hn hl)
theorem x_dup2 {v u : Value} (hd : decode M.2.1 pc = .ok (.dup2, 1)) (hp : pc + 1 = pc2) (hc : v.category = 1) (hu : u.category = 1) (kk : xWP G l M d Z k n pc2 L (v :: u :: v :: u :: st) h) : xWP G l M d Z k n pc L (v :: u :: st) h := by
  intro p e R s m args below meth c H locs cells slots mc ms ls hO hR hS hk hn hl
  subst hp
  exact lv_dup2_11 hO.1 hO.2.1 hd (by rw [xtv_cat]; exact hc) (by rw [xtv_cat]; exact hu) (kk p e R s m args below meth c H locs cells slots mc ms ls hO hR hS hk hn hl)
theorem x_if_eq {x : Int32} {off : Int} {tgt : Nat} (hd : decode M.2.1 pc = .ok (.ifCond .eq off, 3)) (ht : (pc : Int) + off = (tgt : Int)) (hp : pc + 3 = pc2) (kt : x = 0 → xWP G l M d Z k n tgt L st h) (kf : ¬ (x = 0) → xWP G l M d Z k n pc2 L st h) : xWP G l M d Z k n pc L (.int x :: st) h := by
  intro p e R s m args below meth c H locs cells slots mc ms ls hO hR hS hk hn hl
  subst hp
  exact lv_if_eq hO.1 hO.2.1 hd ht (fun q => kt q p e R s m args below meth c H locs cells slots mc ms ls hO hR hS hk hn hl) (fun q => kf q p e R s m args below meth c H locs cells slots mc ms ls hO hR hS hk hn hl)
theorem x_if_eq_t {x : Int32} {off : Int} {tgt : Nat} (hd : decode M.2.1 pc = .ok (.ifCond .eq off, 3)) (ht : (pc : Int) + off = (tgt : Int)) (hc : x = 0) (kt : xWP G l M d Z k n tgt L st h) : xWP G l M d Z k n pc L (.int x :: st) h := x_if_eq hd ht rfl (fun _ => kt) (fun q => absurd hc q)
theorem x_if_eq_f {x : Int32} {off : Int} {tgt : Nat} (hd : decode M.2.1 pc = .ok (.ifCond .eq off, 3)) (ht : (pc : Int) + off = (tgt : Int)) (hp : pc + 3 = pc2) (hc : ¬ (x = 0)) (kf : xWP G l M d Z k n pc2 L st h) : xWP G l M d Z k n pc L (.int x :: st) h := x_if_eq hd ht hp (fun q => absurd q hc) (fun _ => kf)
theorem x_ic_eq {x y : Int32} {off : Int} {tgt : Nat} (hd : decode M.2.1 pc = .ok (.if_icmp .eq off, 3)) (ht : (pc : Int) + off = (tgt : Int)) (hp : pc + 3 = pc2) (kt : x = y → xWP G l M d Z k n tgt L st h) (kf : ¬ (x = y) → xWP G l M d Z k n pc2 L st h) : xWP G l M d Z k n pc L (.int y :: .int x :: st) h := by
  intro p e R s m args below meth c H locs cells slots mc ms ls hO hR hS hk hn hl
  subst hp
  exact lv_icmp_eq hO.1 hO.2.1 hd ht (fun q => kt q p e R s m args below meth c H locs cells slots mc ms ls hO hR hS hk hn hl) (fun q => kf q p e R s m args below meth c H locs cells slots mc ms ls hO hR hS hk hn hl)
theorem x_ic_eq_t {x y : Int32} {off : Int} {tgt : Nat} (hd : decode M.2.1 pc = .ok (.if_icmp .eq off, 3)) (ht : (pc : Int) + off = (tgt : Int)) (hc : x = y) (kt : xWP G l M d Z k n tgt L st h) : xWP G l M d Z k n pc L (.int y :: .int x :: st) h := x_ic_eq hd ht rfl (fun _ => kt) (fun q => absurd hc q)
theorem x_ic_eq_f {x y : Int32} {off : Int} {tgt : Nat} (hd : decode M.2.1 pc = .ok (.if_icmp .eq off, 3)) (ht : (pc : Int) + off = (tgt : Int)) (hp : pc + 3 = pc2) (hc : ¬ (x = y)) (kf : xWP G l M d Z k n pc2 L st h) : xWP G l M d Z k n pc L (.int y :: .int x :: st) h := x_ic_eq hd ht hp (fun q => absurd q hc) (fun _ => kf)
theorem x_if_ne {x : Int32} {off : Int} {tgt : Nat} (hd : decode M.2.1 pc = .ok (.ifCond .ne off, 3)) (ht : (pc : Int) + off = (tgt : Int)) (hp : pc + 3 = pc2) (kt : ¬ x = 0 → xWP G l M d Z k n tgt L st h) (kf : x = 0 → xWP G l M d Z k n pc2 L st h) : xWP G l M d Z k n pc L (.int x :: st) h := by
  intro p e R s m args below meth c H locs cells slots mc ms ls hO hR hS hk hn hl
  subst hp
  exact lv_if_ne hO.1 hO.2.1 hd ht (fun q => kt q p e R s m args below meth c H locs cells slots mc ms ls hO hR hS hk hn hl) (fun q => kf q p e R s m args below meth c H locs cells slots mc ms ls hO hR hS hk hn hl)
theorem x_if_ne_t {x : Int32} {off : Int} {tgt : Nat} (hd : decode M.2.1 pc = .ok (.ifCond .ne off, 3)) (ht : (pc : Int) + off = (tgt : Int)) (hc : ¬ x = 0) (kt : xWP G l M d Z k n tgt L st h) : xWP G l M d Z k n pc L (.int x :: st) h := x_if_ne hd ht rfl (fun _ => kt) (fun q => absurd q hc)
theorem x_if_ne_f {x : Int32} {off : Int} {tgt : Nat} (hd : decode M.2.1 pc = .ok (.ifCond .ne off, 3)) (ht : (pc : Int) + off = (tgt : Int)) (hp : pc + 3 = pc2) (hc : x = 0) (kf : xWP G l M d Z k n pc2 L st h) : xWP G l M d Z k n pc L (.int x :: st) h := x_if_ne hd ht hp (fun q => absurd hc q) (fun _ => kf)
theorem x_ic_ne {x y : Int32} {off : Int} {tgt : Nat} (hd : decode M.2.1 pc = .ok (.if_icmp .ne off, 3)) (ht : (pc : Int) + off = (tgt : Int)) (hp : pc + 3 = pc2) (kt : ¬ x = y → xWP G l M d Z k n tgt L st h) (kf : x = y → xWP G l M d Z k n pc2 L st h) : xWP G l M d Z k n pc L (.int y :: .int x :: st) h := by
  intro p e R s m args below meth c H locs cells slots mc ms ls hO hR hS hk hn hl
  subst hp
  exact lv_icmp_ne hO.1 hO.2.1 hd ht (fun q => kt q p e R s m args below meth c H locs cells slots mc ms ls hO hR hS hk hn hl) (fun q => kf q p e R s m args below meth c H locs cells slots mc ms ls hO hR hS hk hn hl)
theorem x_ic_ne_t {x y : Int32} {off : Int} {tgt : Nat} (hd : decode M.2.1 pc = .ok (.if_icmp .ne off, 3)) (ht : (pc : Int) + off = (tgt : Int)) (hc : ¬ x = y) (kt : xWP G l M d Z k n tgt L st h) : xWP G l M d Z k n pc L (.int y :: .int x :: st) h := x_ic_ne hd ht rfl (fun _ => kt) (fun q => absurd q hc)
theorem x_ic_ne_f {x y : Int32} {off : Int} {tgt : Nat} (hd : decode M.2.1 pc = .ok (.if_icmp .ne off, 3)) (ht : (pc : Int) + off = (tgt : Int)) (hp : pc + 3 = pc2) (hc : x = y) (kf : xWP G l M d Z k n pc2 L st h) : xWP G l M d Z k n pc L (.int y :: .int x :: st) h := x_ic_ne hd ht hp (fun q => absurd hc q) (fun _ => kf)
theorem x_if_lt {x : Int32} {off : Int} {tgt : Nat} (hd : decode M.2.1 pc = .ok (.ifCond .lt off, 3)) (ht : (pc : Int) + off = (tgt : Int)) (hp : pc + 3 = pc2) (kt : x < 0 → xWP G l M d Z k n tgt L st h) (kf : ¬ (x < 0) → xWP G l M d Z k n pc2 L st h) : xWP G l M d Z k n pc L (.int x :: st) h := by
  intro p e R s m args below meth c H locs cells slots mc ms ls hO hR hS hk hn hl
  subst hp
  exact lv_if_lt hO.1 hO.2.1 hd ht (fun q => kt q p e R s m args below meth c H locs cells slots mc ms ls hO hR hS hk hn hl) (fun q => kf q p e R s m args below meth c H locs cells slots mc ms ls hO hR hS hk hn hl)
theorem x_if_lt_t {x : Int32} {off : Int} {tgt : Nat} (hd : decode M.2.1 pc = .ok (.ifCond .lt off, 3)) (ht : (pc : Int) + off = (tgt : Int)) (hc : x < 0) (kt : xWP G l M d Z k n tgt L st h) : xWP G l M d Z k n pc L (.int x :: st) h := x_if_lt hd ht rfl (fun _ => kt) (fun q => absurd hc q)
theorem x_if_lt_f {x : Int32} {off : Int} {tgt : Nat} (hd : decode M.2.1 pc = .ok (.ifCond .lt off, 3)) (ht : (pc : Int) + off = (tgt : Int)) (hp : pc + 3 = pc2) (hc : ¬ (x < 0)) (kf : xWP G l M d Z k n pc2 L st h) : xWP G l M d Z k n pc L (.int x :: st) h := x_if_lt hd ht hp (fun q => absurd q hc) (fun _ => kf)
theorem x_ic_lt {x y : Int32} {off : Int} {tgt : Nat} (hd : decode M.2.1 pc = .ok (.if_icmp .lt off, 3)) (ht : (pc : Int) + off = (tgt : Int)) (hp : pc + 3 = pc2) (kt : x < y → xWP G l M d Z k n tgt L st h) (kf : ¬ (x < y) → xWP G l M d Z k n pc2 L st h) : xWP G l M d Z k n pc L (.int y :: .int x :: st) h := by
  intro p e R s m args below meth c H locs cells slots mc ms ls hO hR hS hk hn hl
  subst hp
  exact lv_icmp_lt hO.1 hO.2.1 hd ht (fun q => kt q p e R s m args below meth c H locs cells slots mc ms ls hO hR hS hk hn hl) (fun q => kf q p e R s m args below meth c H locs cells slots mc ms ls hO hR hS hk hn hl)
theorem x_ic_lt_t {x y : Int32} {off : Int} {tgt : Nat} (hd : decode M.2.1 pc = .ok (.if_icmp .lt off, 3)) (ht : (pc : Int) + off = (tgt : Int)) (hc : x < y) (kt : xWP G l M d Z k n tgt L st h) : xWP G l M d Z k n pc L (.int y :: .int x :: st) h := x_ic_lt hd ht rfl (fun _ => kt) (fun q => absurd hc q)
theorem x_ic_lt_f {x y : Int32} {off : Int} {tgt : Nat} (hd : decode M.2.1 pc = .ok (.if_icmp .lt off, 3)) (ht : (pc : Int) + off = (tgt : Int)) (hp : pc + 3 = pc2) (hc : ¬ (x < y)) (kf : xWP G l M d Z k n pc2 L st h) : xWP G l M d Z k n pc L (.int y :: .int x :: st) h := x_ic_lt hd ht hp (fun q => absurd q hc) (fun _ => kf)
theorem x_if_ge {x : Int32} {off : Int} {tgt : Nat} (hd : decode M.2.1 pc = .ok (.ifCond .ge off, 3)) (ht : (pc : Int) + off = (tgt : Int)) (hp : pc + 3 = pc2) (kt : 0 ≤ x → xWP G l M d Z k n tgt L st h) (kf : ¬ (0 ≤ x) → xWP G l M d Z k n pc2 L st h) : xWP G l M d Z k n pc L (.int x :: st) h := by
  intro p e R s m args below meth c H locs cells slots mc ms ls hO hR hS hk hn hl
  subst hp
  exact lv_if_ge hO.1 hO.2.1 hd ht (fun q => kt q p e R s m args below meth c H locs cells slots mc ms ls hO hR hS hk hn hl) (fun q => kf q p e R s m args below meth c H locs cells slots mc ms ls hO hR hS hk hn hl)
theorem x_if_ge_t {x : Int32} {off : Int} {tgt : Nat} (hd : decode M.2.1 pc = .ok (.ifCond .ge off, 3)) (ht : (pc : Int) + off = (tgt : Int)) (hc : 0 ≤ x) (kt : xWP G l M d Z k n tgt L st h) : xWP G l M d Z k n pc L (.int x :: st) h := x_if_ge hd ht rfl (fun _ => kt) (fun q => absurd hc q)
theorem x_if_ge_f {x : Int32} {off : Int} {tgt : Nat} (hd : decode M.2.1 pc = .ok (.ifCond .ge off, 3)) (ht : (pc : Int) + off = (tgt : Int)) (hp : pc + 3 = pc2) (hc : ¬ (0 ≤ x)) (kf : xWP G l M d Z k n pc2 L st h) : xWP G l M d Z k n pc L (.int x :: st) h := x_if_ge hd ht hp (fun q => absurd q hc) (fun _ => kf)
theorem x_ic_ge {x y : Int32} {off : Int} {tgt : Nat} (hd : decode M.2.1 pc = .ok (.if_icmp .ge off, 3)) (ht : (pc : Int) + off = (tgt : Int)) (hp : pc + 3 = pc2) (kt : y ≤ x → xWP G l M d Z k n tgt L st h) (kf : ¬ (y ≤ x) → xWP G l M d Z k n pc2 L st h) : xWP G l M d Z k n pc L (.int y :: .int x :: st) h := by
  intro p e R s m args below meth c H locs cells slots mc ms ls hO hR hS hk hn hl
  subst hp
  exact lv_icmp_ge hO.1 hO.2.1 hd ht (fun q => kt q p e R s m args below meth c H locs cells slots mc ms ls hO hR hS hk hn hl) (fun q => kf q p e R s m args below meth c H locs cells slots mc ms ls hO hR hS hk hn hl)
theorem x_ic_ge_t {x y : Int32} {off : Int} {tgt : Nat} (hd : decode M.2.1 pc = .ok (.if_icmp .ge off, 3)) (ht : (pc : Int) + off = (tgt : Int)) (hc : y ≤ x) (kt : xWP G l M d Z k n tgt L st h) : xWP G l M d Z k n pc L (.int y :: .int x :: st) h := x_ic_ge hd ht rfl (fun _ => kt) (fun q => absurd hc q)
theorem x_ic_ge_f {x y : Int32} {off : Int} {tgt : Nat} (hd : decode M.2.1 pc = .ok (.if_icmp .ge off, 3)) (ht : (pc : Int) + off = (tgt : Int)) (hp : pc + 3 = pc2) (hc : ¬ (y ≤ x)) (kf : xWP G l M d Z k n pc2 L st h) : xWP G l M d Z k n pc L (.int y :: .int x :: st) h := x_ic_ge hd ht hp (fun q => absurd q hc) (fun _ => kf)
theorem x_if_gt {x : Int32} {off : Int} {tgt : Nat} (hd : decode M.2.1 pc = .ok (.ifCond .gt off, 3)) (ht : (pc : Int) + off = (tgt : Int)) (hp : pc + 3 = pc2) (kt : 0 < x → xWP G l M d Z k n tgt L st h) (kf : ¬ (0 < x) → xWP G l M d Z k n pc2 L st h) : xWP G l M d Z k n pc L (.int x :: st) h := by
  intro p e R s m args below meth c H locs cells slots mc ms ls hO hR hS hk hn hl
  subst hp
  exact lv_if_gt hO.1 hO.2.1 hd ht (fun q => kt q p e R s m args below meth c H locs cells slots mc ms ls hO hR hS hk hn hl) (fun q => kf q p e R s m args below meth c H locs cells slots mc ms ls hO hR hS hk hn hl)
theorem x_if_gt_t {x : Int32} {off : Int} {tgt : Nat} (hd : decode M.2.1 pc = .ok (.ifCond .gt off, 3)) (ht : (pc : Int) + off = (tgt : Int)) (hc : 0 < x) (kt : xWP G l M d Z k n tgt L st h) : xWP G l M d Z k n pc L (.int x :: st) h := x_if_gt hd ht rfl (fun _ => kt) (fun q => absurd hc q)
theorem x_if_gt_f {x : Int32} {off : Int} {tgt : Nat} (hd : decode M.2.1 pc = .ok (.ifCond .gt off, 3)) (ht : (pc : Int) + off = (tgt : Int)) (hp : pc + 3 = pc2) (hc : ¬ (0 < x)) (kf : xWP G l M d Z k n pc2 L st h) : xWP G l M d Z k n pc L (.int x :: st) h := x_if_gt hd ht hp (fun q => absurd q hc) (fun _ => kf)
theorem x_ic_gt {x y : Int32} {off : Int} {tgt : Nat} (hd : decode M.2.1 pc = .ok (.if_icmp .gt off, 3)) (ht : (pc : Int) + off = (tgt : Int)) (hp : pc + 3 = pc2) (kt : y < x → xWP G l M d Z k n tgt L st h) (kf : ¬ (y < x) → xWP G l M d Z k n pc2 L st h) : xWP G l M d Z k n pc L (.int y :: .int x :: st) h := by
  intro p e R s m args below meth c H locs cells slots mc ms ls hO hR hS hk hn hl
  subst hp
  exact lv_icmp_gt hO.1 hO.2.1 hd ht (fun q => kt q p e R s m args below meth c H locs cells slots mc ms ls hO hR hS hk hn hl) (fun q => kf q p e R s m args below meth c H locs cells slots mc ms ls hO hR hS hk hn hl)
theorem x_ic_gt_t {x y : Int32} {off : Int} {tgt : Nat} (hd : decode M.2.1 pc = .ok (.if_icmp .gt off, 3)) (ht : (pc : Int) + off = (tgt : Int)) (hc : y < x) (kt : xWP G l M d Z k n tgt L st h) : xWP G l M d Z k n pc L (.int y :: .int x :: st) h := x_ic_gt hd ht rfl (fun _ => kt) (fun q => absurd hc q)
theorem x_ic_gt_f {x y : Int32} {off : Int} {tgt : Nat} (hd : decode M.2.1 pc = .ok (.if_icmp .gt off, 3)) (ht : (pc : Int) + off = (tgt : Int)) (hp : pc + 3 = pc2) (hc : ¬ (y < x)) (kf : xWP G l M d Z k n pc2 L st h) : xWP G l M d Z k n pc L (.int y :: .int x :: st) h := x_ic_gt hd ht hp (fun q => absurd q hc) (fun _ => kf)
theorem x_if_le {x : Int32} {off : Int} {tgt : Nat} (hd : decode M.2.1 pc = .ok (.ifCond .le off, 3)) (ht : (pc : Int) + off = (tgt : Int)) (hp : pc + 3 = pc2) (kt : x ≤ 0 → xWP G l M d Z k n tgt L st h) (kf : ¬ (x ≤ 0) → xWP G l M d Z k n pc2 L st h) : xWP G l M d Z k n pc L (.int x :: st) h := by
  intro p e R s m args below meth c H locs cells slots mc ms ls hO hR hS hk hn hl
  subst hp
  exact lv_if_le hO.1 hO.2.1 hd ht (fun q => kt q p e R s m args below meth c H locs cells slots mc ms ls hO hR hS hk hn hl) (fun q => kf q p e R s m args below meth c H locs cells slots mc ms ls hO hR hS hk hn hl)
theorem x_if_le_t {x : Int32} {off : Int} {tgt : Nat} (hd : decode M.2.1 pc = .ok (.ifCond .le off, 3)) (ht : (pc : Int) + off = (tgt : Int)) (hc : x ≤ 0) (kt : xWP G l M d Z k n tgt L st h) : xWP G l M d Z k n pc L (.int x :: st) h := x_if_le hd ht rfl (fun _ => kt) (fun q => absurd hc q)
theorem x_if_le_f {x : Int32} {off : Int} {tgt : Nat} (hd : decode M.2.1 pc = .ok (.ifCond .le off, 3)) (ht : (pc : Int) + off = (tgt : Int)) (hp : pc + 3 = pc2) (hc : ¬ (x ≤ 0)) (kf : xWP G l M d Z k n pc2 L st h) : xWP G l M d Z k n pc L (.int x :: st) h := x_if_le hd ht hp (fun q => absurd q hc) (fun _ => kf)
theorem x_ic_le {x y : Int32} {off : Int} {tgt : Nat} (hd : decode M.2.1 pc = .ok (.if_icmp .le off, 3)) (ht : (pc : Int) + off = (tgt : Int)) (hp : pc + 3 = pc2) (kt : x ≤ y → xWP G l M d Z k n tgt L st h) (kf : ¬ (x ≤ y) → xWP G l M d Z k n pc2 L st h) : xWP G l M d Z k n pc L (.int y :: .int x :: st) h := by
  intro p e R s m args below meth c H locs cells slots mc ms ls hO hR hS hk hn hl
  subst hp
  exact lv_icmp_le hO.1 hO.2.1 hd ht (fun q => kt q p e R s m args below meth c H locs cells slots mc ms ls hO hR hS hk hn hl) (fun q => kf q p e R s m args below meth c H locs cells slots mc ms ls hO hR hS hk hn hl)
theorem x_ic_le_t {x y : Int32} {off : Int} {tgt : Nat} (hd : decode M.2.1 pc = .ok (.if_icmp .le off, 3)) (ht : (pc : Int) + off = (tgt : Int)) (hc : x ≤ y) (kt : xWP G l M d Z k n tgt L st h) : xWP G l M d Z k n pc L (.int y :: .int x :: st) h := x_ic_le hd ht rfl (fun _ => kt) (fun q => absurd hc q)
theorem x_ic_le_f {x y : Int32} {off : Int} {tgt : Nat} (hd : decode M.2.1 pc = .ok (.if_icmp .le off, 3)) (ht : (pc : Int) + off = (tgt : Int)) (hp : pc + 3 = pc2) (hc : ¬ (x ≤ y)) (kf : xWP G l M d Z k n pc2 L st h) : xWP G l M d Z k n pc L (.int y :: .int x :: st) h := x_ic_le hd ht hp (fun q => absurd q hc) (fun _ => kf)
theorem x_goto {off : Int} {tgt : Nat} (hd : decode M.2.1 pc = .ok (.goto off, 3)) (ht : (pc : Int) + off = (tgt : Int)) (kk : xWP G l M d Z k n tgt L st h) : xWP G l M d Z k n pc L st h := by
  intro p e R s m args below meth c H locs cells slots mc ms ls hO hR hS hk hn hl
  exact lv_goto hO.1 hO.2.1 hd ht (kk p e R s m args below meth c H locs cells slots mc ms ls hO hR hS hk hn hl)
theorem x_tabOut {dflt lo hi : Int} {offs : Array Int} {len : Nat} {x : Int32} {tgt : Nat} (hd : decode M.2.1 pc = .ok (.tableswitch dflt lo hi offs, len)) (hx : x.toInt < lo ∨ hi < x.toInt) (ht : (pc : Int) + dflt = (tgt : Int)) (kk : xWP G l M d Z k n tgt L st h) : xWP G l M d Z k n pc L (.int x :: st) h := by
  intro p e R s m args below meth c H locs cells slots mc ms ls hO hR hS hk hn hl
  exact lv_tableOut hO.1 hO.2.1 hd hx ht (kk p e R s m args below meth c H locs cells slots mc ms ls hO hR hS hk hn hl)
theorem x_tabIn {dflt lo hi : Int} {offs : Array Int} {len : Nat} {x : Int32} {off : Int} {tgt : Nat} (hd : decode M.2.1 pc = .ok (.tableswitch dflt lo hi offs, len)) (h1 : ¬ x.toInt < lo) (h2 : ¬ hi < x.toInt) (ho : offs[(x.toInt - lo).toNat]? = some off) (ht : (pc : Int) + off = (tgt : Int)) (kk : xWP G l M d Z k n tgt L st h) : xWP G l M d Z k n pc L (.int x :: st) h := by
  intro p e R s m args below meth c H locs cells slots mc ms ls hO hR hS hk hn hl
  exact lv_tableIn hO.1 hO.2.1 hd h1 h2 ho ht (kk p e R s m args below meth c H locs cells slots mc ms ls hO hR hS hk hn hl)
theorem x_lookup {dflt : Int} {ps : Array (Int × Int)} {len : Nat} {x : Int32} {off : Int} {tgt : Nat} (hd : decode M.2.1 pc = .ok (.lookupswitch dflt ps, len)) (hpp : (ps.toList.zip (ps.toList.drop 1)).all (fun (a, next) => a.1 < next.1) = true) (ho : Op.lookupswitch.offset ps.toList dflt x.toInt = off) (ht : (pc : Int) + off = (tgt : Int)) (kk : xWP G l M d Z k n tgt L st h) : xWP G l M d Z k n pc L (.int x :: st) h := by
  intro p e R s m args below meth c H locs cells slots mc ms ls hO hR hS hk hn hl
  exact lv_lookup hO.1 hO.2.1 hd hpp ho ht (kk p e R s m args below meth c H locs cells slots mc ms ls hO hR hS hk hn hl)
theorem x_lv {L2 : xL} (hL : ∀ i v, L2 i = some v → L i = some v) (kk : xWP G l M d Z k n pc L2 st h) : xWP G l M d Z k n pc L st h := by
  intro p e R s m args below meth c H locs cells slots mc ms ls hO hR hS hk hn hl
  exact kk p e R s m args below meth c H locs cells slots mc ms ls hO hR hS hk hn ⟨hl.1, hl.2.1, fun i v hi => hl.2.2 i v (hL i v hi)⟩
def xall (L : xL) : List (Nat × Value) → Prop
  | [] => True
  | q :: r => L q.1 = some q.2 ∧ xall L r
theorem xall_mem {L : xL} : ∀ {r : List (Nat × Value)}, xall L r → ∀ {i : Nat} {v : Value}, (i, v) ∈ r → L i = some v
  | [], _, i, v, h => absurd h List.not_mem_nil
  | q :: r, ha, i, v, h => by
    rcases List.mem_cons.mp h with e | h
    · cases e
      exact ha.1
    · exact xall_mem ha.2 h
theorem x_ls (r : List (Nat × Value)) (ha : xall L r) (kk : xWP G l M d Z k n pc (xls r) st h) : xWP G l M d Z k n pc L st h := x_lv (fun _ _ hi => xall_mem ha (xls_mem hi)) kk
theorem x_less {k2 n2 : Nat} (h1 : k2 ≤ k) (h2 : n2 ≤ n) (kk : xWP G l M d Z k2 n2 pc L st h) : xWP G l M d Z k n pc L st h := by
  intro p e R s m args below meth c H locs cells slots mc ms ls hO hR hS hk hn hl
  exact kk p e R s m args below meth c H locs cells slots mc ms ls hO hR hS (by omega) (by omega) hl
theorem x_ireturn {Q : Option Value → xH → Prop} {ty : FieldType} {v : Int32} (hd : decode M.2.1 pc = .ok (.ireturn, 1)) (hr : M.2.2.2 = some ty) (hv : narrow ty (.int v) = .int v) (hq : Q (some (.int v)) h) : xWP G l M d (zM G Q) k n pc L [.int v] h := by
  intro p e R s m args below meth c H locs cells slots mc ms ls hO hR hS hk hn hl
  refine W.widen (k := mc) (n := ms) (by omega) (by omega) ?_
  exact W.zret hO.1 hO.2.1 (hO.2.2.2.1.trans hr) hv (fun t ht hW => ⟨⟨some (.int v), h, rfl, hq, by rw [ht]; exact hR⟩, hS.F ht⟩) hS.2.2 hd hO.2.2.2.2.1
theorem x_lreturn {Q : Option Value → xH → Prop} {v : Int64} (hd : decode M.2.1 pc = .ok (.lreturn, 1)) (hr : M.2.2.2 = some .long) (hq : Q (some (.long v)) h) : xWP G l M d (zM G Q) k n pc L [.long v] h := by
  intro p e R s m args below meth c H locs cells slots mc ms ls hO hR hS hk hn hl
  refine W.widen (k := mc) (n := ms) (by omega) (by omega) ?_
  exact W.lret hO.1 hO.2.1 (hO.2.2.2.1.trans hr) (fun t ht hW => ⟨⟨some (.long v), h, rfl, hq, by rw [ht]; exact hR⟩, hS.F ht⟩) hS.2.2 hd hO.2.2.2.2.1
theorem x_return {Q : Option Value → xH → Prop} (hd : decode M.2.1 pc = .ok (.return_, 1)) (hr : M.2.2.2 = none) (hq : Q none h) : xWP G l M d (zM G Q) k n pc L [] h := by
  intro p e R s m args below meth c H locs cells slots mc ms ls hO hR hS hk hn hl
  refine W.widen (k := mc) (n := ms) (by omega) (by omega) ?_
  exact W.vret hO.1 hO.2.1 (hO.2.2.2.1.trans hr) (fun t ht hW => ⟨⟨none, h, rfl, hq, by rw [ht]; exact hR⟩, hS.F ht⟩) hS.2.2 hd hO.2.2.2.2.1
theorem x_areturn {Q : Option Value → xH → Prop} {a : Nat} {rt : FieldType} (hd : decode M.2.1 pc = .ok (.areturn, 1)) (hr : M.2.2.2 = some rt) (hrt : (∃ c, rt = .object c) ∨ ∃ t, rt = .array t) (hq : Q (some (.ref a)) h) : xWP G l M d (zM G Q) k n pc L [.ref a] h := by
  intro p e R s m args below meth c H locs cells slots mc ms ls hO hR hS hk hn hl
  refine W.widen (k := mc) (n := ms) (by omega) (by omega) ?_
  exact W.aret hO.1 hO.2.1 (hO.2.2.2.1.trans hr) hrt (Or.inr ⟨_, rfl⟩) (fun t ht hW => ⟨⟨some (.ref a), h, rfl, hq, by rw [ht]; exact hR⟩, hS.F ht⟩) hS.2.2 hd hO.2.2.2.2.1
end XR
end
section
/-! rules that read and change cells, make them, and call -/
def xI (g : Nat → Int32) : Nat → Value := fun j => .int (g j)
def xJ (g : Nat → Int64) : Nat → Value := fun j => .long (g j)
def xP (g : Nat → Nat) : Nat → Value := fun j => .ref (g j)
theorem xI_upd (g : Nat → Int32) (j : Nat) (x : Int32) : updV (xI g) j (.int x) = xI (upd g j x) := by
  funext i
  unfold updV xI upd
  split <;> rfl
theorem xJ_upd (g : Nat → Int64) (j : Nat) (x : Int64) : updV (xJ g) j (.long x) = xJ (vp_updL g j x) := by
  funext i
  unfold updV xJ vp_updL
  split <;> rfl
theorem xP_upd (g : Nat → Nat) (j : Nat) (x : Nat) : updV (xP g) j (.ref x) = xP (fun i => if i = j then x else g i) := by
  funext i
  by_cases e : i = j
  · simp [updV, xP, e]
  · simp [updV, xP, e]
theorem xtv_updV (G : xG) (F : Nat → Value) (k : Nat) (v : Value) : (fun j => xtv G (updV F k v j)) = updV (fun j => xtv G (F j)) k (xtv G v) := by
  funext j
  unfold updV
  split <;> rfl
theorem xR.lt {G : xG} {h : xH} {H : Heap} (hR : xR G h H) {a t N : Nat} {F : Nat → Value} (ha : h.1 a = (t, N, F)) (ht : t ≠ 99) : a < h.2 := by
  rcases Nat.lt_or_ge a h.2 with q | q
  · exact q
  · have h1 := hR.2.2.2.1 a q
    rw [ha] at h1
    exact absurd h1 ht
theorem xR.ad {G : xG} {h : xH} {H : Heap} (hR : xR G h H) {a : Nat} (ha : a < h.2) : xad G a = G.1 + a := if_pos (Nat.lt_of_lt_of_le ha hR.2.2.2.2)
theorem xR.arr {G : xG} {h : xH} {H : Heap} (hR : xR G h H) {a t N : Nat} {F : Nat → Value} (ha : h.1 a = (t, N, F)) (ht : t < 99) : H[xad G a]? = some (arrV (G.2.2.1 t) N (fun j => xtv G (F j))) := by
  have hlt := hR.lt ha (by omega)
  have h1 := hR.2.1 a hlt
  rw [ha] at h1
  unfold xAt at h1
  rw [if_pos (show t < 100 by omega)] at h1
  rw [hR.ad hlt]
  exact h1
theorem xR.obj {G : xG} {h : xH} {H : Heap} (hR : xR G h H) {a ci N : Nat} {F : Nat → Value} (ha : h.1 a = (100 + ci, N, F)) : ∃ q : vw_C, xcl[ci]? = some q ∧ t_OB (xad G a) (G.2.2.2.1 ci) q.2.2 (G.2.2.2.2.1 ci) H (fun k => xtv G (F k)) := by
  have hlt := hR.lt ha (by omega)
  have h1 := hR.2.1 a hlt
  rw [ha] at h1
  unfold xAt at h1
  rw [if_neg (show ¬ 100 + ci < 100 by omega)] at h1
  rw [hR.ad hlt]
  have e : (100 + ci, N, F).1 - 100 = ci := by show 100 + ci - 100 = ci; omega
  rw [e] at h1
  exact h1
/-- a cell of ours is changed -/
theorem xR.set {G : xG} {h : xH} {H H1 : Heap} (hR : xR G h H) {a : Nat} {c : xC} (ha : a < h.2) (hc : xAt G c (xad G a) H1) (hz : H1.size = H.size) (oq : ∀ q, q ≠ xad G a → H1[q]? = H[q]?) : xR G (hs h a c) H1 := by
  have ea := hR.ad ha
  refine ⟨hz.trans hR.1, fun k hk => ?_, fun q hq => ?_, fun k hk => ?_, hR.2.2.2.2⟩
  · by_cases e : k = a
    · subst e
      rw [hs_eq, ← ea]
      exact hc
    · rw [hs_n e]
      have h1 := hR.2.1 k hk
      have e1 : H1[G.1 + k]? = H[G.1 + k]? := oq _ (by rw [ea]; omega)
      unfold xAt at h1 ⊢
      split
      · next q => rw [if_pos q] at h1; rw [e1]; exact h1
      · next q =>
        rw [if_neg q] at h1
        obtain ⟨r, r1, r2⟩ := h1
        exact ⟨r, r1, r2.kept e1⟩
  · rw [oq q (by rw [ea]; omega)]
    exact hR.2.2.1 q hq
  · rw [hs_n (by have : h.2 ≤ k := hk; omega)]
    exact hR.2.2.2.1 k hk
/-- a cell comes -/
theorem xR.push {G : xG} {h : xH} {H H1 : Heap} (hR : xR G h H) {c : xC} (hm : h.2 < 1000000) (hc : xAt G c (G.1 + h.2) H1) (hz : H1.size = H.size + 1) (oq : ∀ q, q < H.size → H1[q]? = H[q]?) : xR G (hn h c) H1 := by
  refine ⟨by rw [hz, hR.1]; rfl, fun k hk => ?_, fun q hq => ?_, fun k hk => ?_, hm⟩
  · by_cases e : k = h.2
    · subst e
      have e1 : (hn h c).1 h.2 = c := if_pos rfl
      rw [e1]
      exact hc
    · have e2 : (hn h c).1 k = h.1 k := if_neg e
      rw [e2]
      have hk2 : k < h.2 := by have : k < h.2 + 1 := hk; omega
      have h1 := hR.2.1 k hk2
      have e1 : H1[G.1 + k]? = H[G.1 + k]? := oq _ (by rw [hR.1]; omega)
      unfold xAt at h1 ⊢
      split
      · next q => rw [if_pos q] at h1; rw [e1]; exact h1
      · next q =>
        rw [if_neg q] at h1
        obtain ⟨r, r1, r2⟩ := h1
        exact ⟨r, r1, r2.kept e1⟩
  · rw [oq q (by rw [hR.1]; omega)]
    exact hR.2.2.1 q hq
  · have hk2 : h.2 + 1 ≤ k := hk
    have e2 : (hn h c).1 k = h.1 k := if_neg (by omega)
    rw [e2]
    exact hR.2.2.2.1 k (by omega)
theorem xR.in {G : xG} {h : xH} {H : Heap} (hR : xR G h H) {a : Nat} (ha : a < h.2) : xA G (xad G a) := by
  show G.1 ≤ xad G a
  rw [hR.ad ha]
  omega
theorem va_S.push {A : Nat → Prop} {H0 H H1 : Heap} {locs : List Loc} (h : va_S A H0 H locs) (hz : H1.size = H.size + 1) (oq : ∀ q : Nat, q < H.size → H1[q]? = H[q]?) : va_S A H0 H1 locs :=
  ⟨by rw [hz]; exact Nat.le_succ_of_le h.1, fun q h1 h2 => by rw [oq q (Nat.lt_of_lt_of_le h1 h.1)]; exact h.2.1 q h1 h2, h.2.2⟩
/-- a field of a class of ours, by its number, as a class's constant pool names it -/
def xFl (own : String) (idx ci kf : Nat) : Prop := ∃ q : vw_C, xcl[ci]? = some q ∧ kf < q.2.2 ∧ (Cond.fieldLink own idx (q.2.1 kf).1 (q.2.1 kf).2.1 (q.2.1 kf).2.2.1 ∈ xTT ∨ ∃ host : String, Cond.fieldLinkNest own idx (q.2.1 kf).1 (q.2.1 kf).2.1 (q.2.1 kf).2.2.1 host ∈ xNW)
def xtys (ci : Nat) : Nat → FieldType := match ci with
  | 0 => tyX0
  | 1 => tyX1
  | 2 => tyX2
  | 3 => tyX3
  | 4 => tyX4
  | 5 => tyX5
  | 6 => tyX6
  | 7 => tyX7
  | 8 => tyX8
  | 9 => tyX9
  | 10 => tyX10
  | 11 => tyX11
  | 12 => tyX12
  | _ => tyJ4
theorem xcl_cases {P : Nat → vw_C → Prop} (h0 : P 0 (RX0, TX0, 10)) (h1 : P 1 (RX1, TX1, 3)) (h2 : P 2 (RX2, TX2, 4)) (h3 : P 3 (RX3, TX3, 9)) (h4 : P 4 (RX4, TX4, 5)) (h5 : P 5 (RX5, TX5, 0)) (h6 : P 6 (RX6, TX6, 9)) (h7 : P 7 (RX7, TX7, 3)) (h8 : P 8 (RX8, TX8, 2)) (h9 : P 9 (RX9, TX9, 9)) (h10 : P 10 (RX10, TX10, 3)) (h11 : P 11 (RX11, TX11, 16)) (h12 : P 12 (RX12, TX12, 38)) (h13 : P 13 (RJ4, TJ4, 4)) : ∀ (c : Nat) (q : vw_C), xcl[c]? = some q → P c q := by
  intro c q hq
  match c, hq with
  | 0, hq => cases hq; exact h0
  | 1, hq => cases hq; exact h1
  | 2, hq => cases hq; exact h2
  | 3, hq => cases hq; exact h3
  | 4, hq => cases hq; exact h4
  | 5, hq => cases hq; exact h5
  | 6, hq => cases hq; exact h6
  | 7, hq => cases hq; exact h7
  | 8, hq => cases hq; exact h8
  | 9, hq => cases hq; exact h9
  | 10, hq => cases hq; exact h10
  | 11, hq => cases hq; exact h11
  | 12, hq => cases hq; exact h12
  | 13, hq => cases hq; exact h13
  | k + 14, hq => simp [xcl] at hq
theorem xcl_ty : ∀ (c : Nat) (q : vw_C), xcl[c]? = some q → ∀ k, k < q.2.2 → parseFieldDescriptor (q.2.1 k).2.2.1 = some (xtys c k) := xcl_cases tyX0_ok tyX1_ok tyX2_ok tyX3_ok tyX4_ok tyX5_ok tyX6_ok tyX7_ok tyX8_ok tyX9_ok tyX10_ok tyX11_ok tyX12_ok tyJ4_ok
theorem xcl_nm : ∀ (c : Nat) (q : vw_C), xcl[c]? = some q → ∀ a, a < q.2.2 → ∀ b, b < q.2.2 → a ≠ b → (q.2.1 a).2.1 ≠ (q.2.1 b).2.1 := xcl_cases nmX0 nmX1 nmX2 nmX3 nmX4 nmX5 nmX6 nmX7 nmX8 nmX9 nmX10 nmX11 nmX12 nmJ4
def xwsIn (C : String) (T : u_T) (N : Nat) : Bool := (u_ws C T N).all (fun w => lw_tbl.contains w && goodWord w)
theorem xwsIn_ok {C : String} {T : u_T} {N : Nat} (h : xwsIn C T N = true) : ∀ w ∈ u_ws C T N, w ∈ xTT := by
  intro w hw
  have h1 := List.all_eq_true.mp h w hw
  simp only [Bool.and_eq_true] at h1
  exact List.mem_filter.mpr ⟨List.contains_iff_mem.mp h1.1, h1.2⟩
theorem xcl_ws : ∀ (c : Nat) (q : vw_C), xcl[c]? = some q → ∀ w ∈ u_ws q.1 q.2.1 q.2.2, w ∈ xTT := xcl_cases (xwsIn_ok (by decide +kernel)) (xwsIn_ok (by decide +kernel)) (xwsIn_ok (by decide +kernel)) (xwsIn_ok (by decide +kernel)) (xwsIn_ok (by decide +kernel)) (xwsIn_ok (by decide +kernel)) (xwsIn_ok (by decide +kernel)) (xwsIn_ok (by decide +kernel)) (xwsIn_ok (by decide +kernel)) (xwsIn_ok (by decide +kernel)) (xwsIn_ok (by decide +kernel)) (xwsIn_ok (by decide +kernel)) (xwsIn_ok (by decide +kernel)) (xwsIn_ok (by decide +kernel))
theorem xSE_apart {G : xG} {s : State} {args : Array Value} (hts : ∀ w ∈ xTT, w.before args s = true) (hSE : xSE G s) {ci : Nat} {q : vw_C} (hq : xcl[ci]? = some q) : ∀ x y, x < q.2.2 → y < q.2.2 → x ≠ y → G.2.2.2.2.1 ci x ≠ G.2.2.2.2.1 ci y := by
  intro x y hx hy hne
  obtain ⟨hS, -⟩ := hSE.1 ci q hq
  obtain ⟨_, _, _, fa, hia, ea⟩ := hS x hx
  obtain ⟨_, _, _, fb, hib, eb⟩ := hS y hy
  rw [← ea, ← eb]
  refine u_apart (u_lays hts (xcl_ws ci q hq) hx) (u_lays hts (xcl_ws ci q hq) hy) hia hib ?_
  rw [(State.fieldFound?_type hia (xcl_ty ci q hq x hx)).1, (State.fieldFound?_type hib (xcl_ty ci q hq y hy)).1]
  exact xcl_nm ci q hq x hx y hy hne
theorem xtv_narrow {G : xG} {ty : FieldType} {v : Value} (hv : narrow ty v = v) : narrow ty (xtv G v) = xtv G v := by
  cases v <;> first | exact hv | (cases ty <;> rfl)
theorem xtv_fits {G : xG} {ty : FieldType} {v : Value} (hv : fits ty v = true) : fits ty (xtv G v) = true := by
  cases v <;> first | exact hv | (cases ty <;> first | rfl | exact hv)
section XHR
variable {G : xG} {l : Launch} {M : xM} {d : Nat} {Z : List Frame → Array Value → State → Nat → Nat → State → Prop} {k n pc pc2 : Nat} {L : xL} {st : List Value} {h : xH}
theorem x_get {a idx ci kf N : Nat} {F : Nat → Value} {v : Value} (hd : decode M.2.1 pc = .ok (.getfield idx, 3)) (hp : pc + 3 = pc2) (hf : xFl M.1.cls idx ci kf) (ha : h.1 a = (100 + ci, N, F)) (hv : F kf = v) (kk : xWP G l M d Z k n pc2 L (v :: st) h) : xWP G l M d Z k n pc L (.ref a :: st) h := by
  intro p e R s m args below meth c H locs cells slots mc ms ls hO hR hS hk hn hl
  subst hp
  subst hv
  obtain ⟨q, hq, hkf, hlk⟩ := hf
  obtain ⟨q2, hq2, cell, q1, q2', q3, q4⟩ := hR.obj ha
  cases hq.symm.trans hq2
  have hts := hO.2.2.2.2.2.2.2.1
  have hSE := hO.2.2.2.2.2.2.2.2.1
  obtain ⟨hSl, hfc, kC, hkC, hkind⟩ := hSE.1 ci q hq
  obtain ⟨cf, kf', fi, f, hi, hsl⟩ := hSl kf hkf
  have hst := (u_facts hfc hkC (u_lays hts (xcl_ws ci q hq) hkf) hi).1
  have hslot : cell.slots[f.slot]? = some (xtv G (F kf)) := by rw [hsl]; exact q4 kf hkf
  rcases hlk with hlk | ⟨host, hlk⟩
  · exact W.getf hO.1 hO.2.1 hO.2.2.2.2.2.2.1 (hts _ hlk) hi hst q1 (by rw [q3]; exact fun h => by cases h) hslot rfl rfl hd (kk p e R s m args below meth c H locs cells slots mc ms ls hO hR hS hk hn hl)
  · exact va_Wgetf hO.1 hO.2.1 hO.2.2.2.2.2.2.1 (va_Nw.use rfl (hSE.2.2.1 _ hlk)) hi hst q1 (by rw [q3]; exact fun h => by cases h) hslot rfl rfl hd (kk p e R s m args below meth c H locs cells slots mc ms ls hO hR hS hk hn hl)
/-- what a store of a field asks of the value -/
def xFv (ci kf : Nat) (v : Value) : Prop := narrow (xtys ci kf) v = v ∧ fits (xtys ci kf) v = true
theorem x_put {a idx ci kf N : Nat} {F : Nat → Value} {v : Value} (hd : decode M.2.1 pc = .ok (.putfield idx, 3)) (hp : pc + 3 = pc2) (hf : xFl M.1.cls idx ci kf) (hfin : ∀ q, xcl[ci]? = some q → (q.2.1 kf).2.2.2 = false) (ha : h.1 a = (100 + ci, N, F)) (hv : xFv ci kf v) (kk : xWP G l M d Z k n pc2 L st (hs h a (100 + ci, N, updV F kf v))) : xWP G l M d Z k n pc L (v :: .ref a :: st) h := by
  intro p e R s m args below meth c H locs cells slots mc ms ls hO hR hS hk hn hl
  subst hp
  obtain ⟨q, hq, hkf, hlk⟩ := hf
  have hfin := hfin q hq
  obtain ⟨q2, hq2, cell, q1, q2', q3, q4⟩ := hR.obj ha
  cases hq.symm.trans hq2
  have hts := hO.2.2.2.2.2.2.2.1
  have hSE := hO.2.2.2.2.2.2.2.2.1
  have hlt := hR.lt ha (by omega)
  have hap := xSE_apart hts hSE hq
  obtain ⟨hSl, hfc, kC, hkC, hkind⟩ := hSE.1 ci q hq
  obtain ⟨cf, kf', fi, f, hi, hsl⟩ := hSl kf hkf
  have hst := (u_facts hfc hkC (u_lays hts (xcl_ws ci q hq) hkf) hi).1
  have hlay := hts _ (xcl_ws ci q hq _ (u_in_lay hkf))
  unfold u_lay at hlay
  rw [if_neg (by rw [hfin]; decide)] at hlay
  have h6 := u_store hfc hkC hkind hlay hi (xcl_ty ci q hq kf hkf) (xtv_narrow (G := G) hv.1) (xtv_fits (G := G) hv.2)
  have fin : ∀ H' : Heap, H'[xad G a]? = some (cell.setSlot f.slot (xtv G v)) → H'.size = H.size → (∀ q, q ≠ xad G a → H'[q]? = H[q]?) → W p l e R s m args below meth c H' (locs ++ [⟨xad G a, f.slot⟩]) cells slots (Z below args s mc ms) (F0 m (pc + 3) ls (st.map (xtv G))) := by
    intro H' e1 e2 e3
    rw [hsl] at e1 ⊢
    refine kk p e R s m args below meth c H' _ cells slots mc ms ls hO (hR.set hlt ?_ e2 e3) (hS.put e2 e3 (hR.in hlt)) hk hn hl
    unfold xAt
    rw [if_neg (show ¬ 100 + ci < 100 by omega)]
    have e9 : (100 + ci, N, updV F kf v).1 - 100 = ci := by show 100 + ci - 100 = ci; omega
    rw [e9]
    refine ⟨q, hq, ?_⟩
    show t_OB (xad G a) (G.2.2.2.1 ci) q.2.2 (G.2.2.2.2.1 ci) H' (fun k => xtv G (updV F kf v k))
    rw [xtv_updV]
    exact ⟨_, e1, q2', q3, t_set q4 hap hkf (xtv G v)⟩
  rcases hlk with hlk | ⟨host, hlk⟩
  · exact W.putK hO.1 hO.2.1 (f := f) ⟨hO.2.2.2.2.2.2.1, hts _ hlk, ⟨_, _, _, hi⟩, hst⟩ (by rw [q2']; exact h6) q1 q3 (by rw [hsl]; exact k2_hasslot (q4 kf hkf)) rfl rfl hd fin
  · exact va_WputK hO.1 hO.2.1 (f := f) hO.2.2.2.2.2.2.1 (va_Nw.use rfl (hSE.2.2.1 _ hlk)) hi hst (by rw [q2']; exact h6) q1 q3 (by rw [hsl]; exact k2_hasslot (q4 kf hkf)) rfl rfl hd fin
/-- a final field, in its class's constructor -/
theorem x_putF {a idx ci kf N : Nat} {F : Nat → Value} {v : Value} (hd : decode M.2.1 pc = .ok (.putfield idx, 3)) (hp : pc + 3 = pc2) (hf : xFl M.1.cls idx ci kf) (hnf : ∀ q, xcl[ci]? = some q → (q.2.1 kf).2.2.2 = true ∧ (q.2.1 kf).1 = M.1.cls ∧ Cond.fieldLink M.1.cls idx (q.2.1 kf).1 (q.2.1 kf).2.1 (q.2.1 kf).2.2.1 ∈ xTT) (hin : M.1.name = "<init>") (ha : h.1 a = (100 + ci, N, F)) (hv : xFv ci kf v) (kk : xWP G l M d Z k n pc2 L st (hs h a (100 + ci, N, updV F kf v))) : xWP G l M d Z k n pc L (v :: .ref a :: st) h := by
  intro p e R s m args below meth c H locs cells slots mc ms ls hO hR hS hk hn hl
  subst hp
  obtain ⟨q, hq, hkf, -⟩ := hf
  obtain ⟨hfin, hdecl, hlk⟩ := hnf q hq
  obtain ⟨q2, hq2, cell, q1, q2', q3, q4⟩ := hR.obj ha
  cases hq.symm.trans hq2
  have hts := hO.2.2.2.2.2.2.2.1
  have hSE := hO.2.2.2.2.2.2.2.2.1
  have hown := hO.2.2.2.2.2.2.1
  have hlt := hR.lt ha (by omega)
  have hap := xSE_apart hts hSE hq
  obtain ⟨hSl, hfc, kC, hkC, hkind⟩ := hSE.1 ci q hq
  obtain ⟨cf, kf', fi, f, hi, hsl⟩ := hSl kf hkf
  have hst := (u_facts hfc hkC (u_lays hts (xcl_ws ci q hq) hkf) hi).1
  have hlay := hts _ (xcl_ws ci q hq _ (u_in_lay hkf))
  unfold u_lay at hlay
  rw [if_pos hfin] at hlay
  have hcf : m.cls = cf := by
    obtain ⟨_, _, c', _, _, _, -, -, hf', -, -, -, hown2, -⟩ := Cond.laysFinal_spec hlay
    have e1 : c' = cf := by have := hi.symm.trans hf'; simp at this; exact this.1.symm
    rw [hdecl] at hown2
    rw [← e1]; exact Option.some.inj (hown.symm.trans hown2)
  have h6 := u_fits hfc hkC hkind (Or.inr hlay) hi (xcl_ty ci q hq kf hkf) (xtv_narrow (G := G) hv.1) (xtv_fits (G := G) hv.2)
  refine W.putFinK hO.1 hO.2.1 hown (hts _ hlk) hi hst hcf (hO.2.2.2.2.2.1.trans hin) (by rw [q2']; exact h6) q1 q3 (by rw [hsl]; exact k2_hasslot (q4 kf hkf)) rfl rfl hd fun H' e1 e2 e3 => ?_
  rw [hsl] at e1 ⊢
  refine kk p e R s m args below meth c H' _ cells slots mc ms ls hO (hR.set hlt ?_ e2 e3) (hS.put e2 e3 (hR.in hlt)) hk hn hl
  unfold xAt
  rw [if_neg (show ¬ 100 + ci < 100 by omega)]
  have e9 : (100 + ci, N, updV F kf v).1 - 100 = ci := by show 100 + ci - 100 = ci; omega
  rw [e9]
  refine ⟨q, hq, ?_⟩
  show t_OB (xad G a) (G.2.2.2.1 ci) q.2.2 (G.2.2.2.2.1 ci) H' (fun k => xtv G (updV F kf v k))
  rw [xtv_updV]
  exact ⟨_, e1, q2', q3, t_set q4 hap hkf (xtv G v)⟩
theorem x_in {i : Int32} {j N : Nat} (hi : i = nI j) (hj : j < N) (hN : N < 2147483648) : ¬ (i < 0 ∨ N ≤ i.toNatClampNeg) ∧ i.toNatClampNeg = j := by
  subst hi
  exact ⟨nI_in hj hN, nI_clamp (by omega)⟩
theorem x_iald {a N j : Nat} {i : Int32} {g : Nat → Int32} (hd : decode M.2.1 pc = .ok (.iaload, 1)) (hp : pc + 1 = pc2) (ha : h.1 a = (0, N, xI g)) (hi : i = nI j) (hj : j < N) (hN : N < 2147483648) (kk : xWP G l M d Z k n pc2 L (.int (g j) :: st) h) : xWP G l M d Z k n pc L (.int i :: .ref a :: st) h := by
  intro p e R s m args below meth c H locs cells slots mc ms ls hO hR hS hk hn hl
  subst hp
  obtain ⟨i1, i2⟩ := x_in hi hj hN
  exact W.iald hO.1 hO.2.1 (hR.arr ha (by omega)) ((hO.2.2.2.2.2.2.2.2.1.2.1 0 (by omega)).1 _ _) (fun q => by cases q) (by rw [arrV_size]; exact i1) (v := .int (g j)) (by rw [i2, arrV_read _ _ hj]; rfl) rfl rfl hd (kk p e R s m args below meth c H locs cells slots mc ms ls hO hR hS hk hn hl)
theorem x_lald {a N j : Nat} {i : Int32} {g : Nat → Int64} (hd : decode M.2.1 pc = .ok (.laload, 1)) (hp : pc + 1 = pc2) (ha : h.1 a = (1, N, xJ g)) (hi : i = nI j) (hj : j < N) (hN : N < 2147483648) (kk : xWP G l M d Z k n pc2 L (.long (g j) :: st) h) : xWP G l M d Z k n pc L (.int i :: .ref a :: st) h := by
  intro p e R s m args below meth c H locs cells slots mc ms ls hO hR hS hk hn hl
  subst hp
  obtain ⟨i1, i2⟩ := x_in hi hj hN
  exact W.lald hO.1 hO.2.1 (hR.arr ha (by omega)) ((hO.2.2.2.2.2.2.2.2.1.2.1 1 (by omega)).1 _ _) (fun q => by cases q) (by rw [arrV_size]; exact i1) (v := .long (g j)) (by rw [i2, arrV_read _ _ hj]; rfl) rfl rfl hd (kk p e R s m args below meth c H locs cells slots mc ms ls hO hR hS hk hn hl)
theorem x_zald {a N j : Nat} {i : Int32} {g : Nat → Int32} (hd : decode M.2.1 pc = .ok (.baload, 1)) (hp : pc + 1 = pc2) (ha : h.1 a = (2, N, xI g)) (hi : i = nI j) (hj : j < N) (hN : N < 2147483648) (kk : xWP G l M d Z k n pc2 L (.int (g j) :: st) h) : xWP G l M d Z k n pc L (.int i :: .ref a :: st) h := by
  intro p e R s m args below meth c H locs cells slots mc ms ls hO hR hS hk hn hl
  subst hp
  obtain ⟨i1, i2⟩ := x_in hi hj hN
  exact W.zald hO.1 hO.2.1 (hR.arr ha (by omega)) ((hO.2.2.2.2.2.2.2.2.1.2.1 2 (by omega)).1 _ _) (fun q => by cases q) (by rw [arrV_size]; exact i1) (v := .int (g j)) (by rw [i2, arrV_read _ _ hj]; rfl) rfl rfl hd (kk p e R s m args below meth c H locs cells slots mc ms ls hO hR hS hk hn hl)
theorem x_bald {a N j : Nat} {i : Int32} {g : Nat → Int32} (hd : decode M.2.1 pc = .ok (.baload, 1)) (hp : pc + 1 = pc2) (ha : h.1 a = (3, N, xI g)) (hi : i = nI j) (hj : j < N) (hN : N < 2147483648) (kk : xWP G l M d Z k n pc2 L (.int (g j) :: st) h) : xWP G l M d Z k n pc L (.int i :: .ref a :: st) h := by
  intro p e R s m args below meth c H locs cells slots mc ms ls hO hR hS hk hn hl
  subst hp
  obtain ⟨i1, i2⟩ := x_in hi hj hN
  exact W.bald hO.1 hO.2.1 (hR.arr ha (by omega)) ((hO.2.2.2.2.2.2.2.2.1.2.1 3 (by omega)).1 _ _) (fun q => by cases q) (by rw [arrV_size]; exact i1) (v := .int (g j)) (by rw [i2, arrV_read _ _ hj]; rfl) rfl rfl hd (kk p e R s m args below meth c H locs cells slots mc ms ls hO hR hS hk hn hl)
theorem x_aald {a N j t : Nat} {i : Int32} {g : Nat → Nat} (hd : decode M.2.1 pc = .ok (.aaload, 1)) (hp : pc + 1 = pc2) (ha : h.1 a = (4 + t, N, xP g)) (ht : t < 2) (hi : i = nI j) (hj : j < N) (hN : N < 2147483648) (kk : xWP G l M d Z k n pc2 L (.ref (g j) :: st) h) : xWP G l M d Z k n pc L (.int i :: .ref a :: st) h := by
  intro p e R s m args below meth c H locs cells slots mc ms ls hO hR hS hk hn hl
  subst hp
  obtain ⟨i1, i2⟩ := x_in hi hj hN
  exact W.aald hO.1 hO.2.1 (hR.arr ha (by omega)) ((hO.2.2.2.2.2.2.2.2.1.2.1 (4 + t) (by omega)).1 _ _) (by rcases (show t = 0 ∨ t = 1 by omega) with rfl | rfl <;> rfl) (fun q => by cases q) (by rw [arrV_size]; exact i1) (v := .ref (xad G (g j))) (by rw [i2, arrV_read _ _ hj]; rfl) rfl rfl hd (kk p e R s m args below meth c H locs cells slots mc ms ls hO hR hS hk hn hl)
theorem x_alen {a t N : Nat} {F : Nat → Value} {v : Int32} (hd : decode M.2.1 pc = .ok (.arraylength, 1)) (hp : pc + 1 = pc2) (ha : h.1 a = (t, N, F)) (ht : t < 6) (hv : nI N = v) (kk : xWP G l M d Z k n pc2 L (.int v :: st) h) : xWP G l M d Z k n pc L (.ref a :: st) h := by
  intro p e R s m args below meth c H locs cells slots mc ms ls hO hR hS hk hn hl
  subst hp
  exact W.alen hO.1 hO.2.1 (hR.arr ha (by omega)) ((hO.2.2.2.2.2.2.2.2.1.2.1 t ht).1 _ _) (n := v) (by rw [arrV_size]; exact hv) rfl rfl hd (kk p e R s m args below meth c H locs cells slots mc ms ls hO hR hS hk hn hl)
theorem xAt_arr {t N : Nat} {F : Nat → Value} {H1 : Heap} {a : Nat} (ht : t < 99) {f : Nat → Value} (hf : (fun j => xtv G (F j)) = f) (h1 : H1[a]? = some (arrV (G.2.2.1 t) N f)) : xAt G (t, N, F) a H1 := by
  unfold xAt
  rw [if_pos (show t < 100 by omega)]
  rw [h1, ← hf]
theorem x_iast {a N j : Nat} {i x : Int32} {g : Nat → Int32} (hd : decode M.2.1 pc = .ok (.iastore, 1)) (hp : pc + 1 = pc2) (ha : h.1 a = (0, N, xI g)) (hi : i = nI j) (hj : j < N) (hN : N < 2147483648) (kk : xWP G l M d Z k n pc2 L st (hs h a (0, N, xI (upd g j x)))) : xWP G l M d Z k n pc L (.int x :: .int i :: .ref a :: st) h := by
  intro p e R s m args below meth c H locs cells slots mc ms ls hO hR hS hk hn hl
  subst hp
  obtain ⟨i1, i2⟩ := x_in hi hj hN
  have hlt := hR.lt ha (by omega)
  refine W.iast hO.1 hO.2.1 (hR.arr ha (by omega)) ((hO.2.2.2.2.2.2.2.2.1.2.1 0 (by omega)).1 _ _) (fun q => by cases q) (by rw [arrV_size]; exact i1) rfl rfl hd (fun H' e1 e2 e3 => kk p e R s m args below meth c H' _ cells slots mc ms ls hO (hR.set hlt (xAt_arr (by omega) ?_ (by rw [i2, arrV_store] at e1; exact e1)) e2 e3) (hS.put e2 e3 (hR.in hlt)) hk hn hl)
  rw [← xI_upd, xtv_updV]; rfl
theorem x_last {a N j : Nat} {i : Int32} {x : Int64} {g : Nat → Int64} (hd : decode M.2.1 pc = .ok (.lastore, 1)) (hp : pc + 1 = pc2) (ha : h.1 a = (1, N, xJ g)) (hi : i = nI j) (hj : j < N) (hN : N < 2147483648) (kk : xWP G l M d Z k n pc2 L st (hs h a (1, N, xJ (vp_updL g j x)))) : xWP G l M d Z k n pc L (.long x :: .int i :: .ref a :: st) h := by
  intro p e R s m args below meth c H locs cells slots mc ms ls hO hR hS hk hn hl
  subst hp
  obtain ⟨i1, i2⟩ := x_in hi hj hN
  have hlt := hR.lt ha (by omega)
  refine W.last hO.1 hO.2.1 (hR.arr ha (by omega)) ((hO.2.2.2.2.2.2.2.2.1.2.1 1 (by omega)).1 _ _) (fun q => by cases q) (by rw [arrV_size]; exact i1) rfl rfl hd (fun H' e1 e2 e3 => kk p e R s m args below meth c H' _ cells slots mc ms ls hO (hR.set hlt (xAt_arr (by omega) ?_ (by rw [i2, arrV_store] at e1; exact e1)) e2 e3) (hS.put e2 e3 (hR.in hlt)) hk hn hl)
  rw [← xJ_upd, xtv_updV]; rfl
theorem x_zast {a N j : Nat} {i x : Int32} {g : Nat → Int32} (hd : decode M.2.1 pc = .ok (.bastore, 1)) (hp : pc + 1 = pc2) (ha : h.1 a = (2, N, xI g)) (hi : i = nI j) (hj : j < N) (hN : N < 2147483648) (hx : x &&& 1 = x) (kk : xWP G l M d Z k n pc2 L st (hs h a (2, N, xI (upd g j x)))) : xWP G l M d Z k n pc L (.int x :: .int i :: .ref a :: st) h := by
  intro p e R s m args below meth c H locs cells slots mc ms ls hO hR hS hk hn hl
  subst hp
  obtain ⟨i1, i2⟩ := x_in hi hj hN
  have hlt := hR.lt ha (by omega)
  refine W.zast hO.1 hO.2.1 (hR.arr ha (by omega)) ((hO.2.2.2.2.2.2.2.2.1.2.1 2 (by omega)).1 _ _) (fun q => by cases q) (by rw [arrV_size]; exact i1) rfl rfl hd (fun H' e1 e2 e3 => kk p e R s m args below meth c H' _ cells slots mc ms ls hO (hR.set hlt (xAt_arr (by omega) ?_ (by rw [i2, show narrow .boolean (.int x) = .int x by show Value.int (x &&& 1) = _; rw [hx], arrV_store] at e1; exact e1)) e2 e3) (hS.put e2 e3 (hR.in hlt)) hk hn hl)
  rw [← xI_upd, xtv_updV]; rfl
theorem x_bast {a N j : Nat} {i x : Int32} {g : Nat → Int32} (hd : decode M.2.1 pc = .ok (.bastore, 1)) (hp : pc + 1 = pc2) (ha : h.1 a = (3, N, xI g)) (hi : i = nI j) (hj : j < N) (hN : N < 2147483648) (kk : xWP G l M d Z k n pc2 L st (hs h a (3, N, xI (upd g j x.toInt8.toInt32)))) : xWP G l M d Z k n pc L (.int x :: .int i :: .ref a :: st) h := by
  intro p e R s m args below meth c H locs cells slots mc ms ls hO hR hS hk hn hl
  subst hp
  obtain ⟨i1, i2⟩ := x_in hi hj hN
  have hlt := hR.lt ha (by omega)
  refine W.bast hO.1 hO.2.1 (hR.arr ha (by omega)) ((hO.2.2.2.2.2.2.2.2.1.2.1 3 (by omega)).1 _ _) (fun q => by cases q) (by rw [arrV_size]; exact i1) rfl rfl hd (fun H' e1 e2 e3 => kk p e R s m args below meth c H' _ cells slots mc ms ls hO (hR.set hlt (xAt_arr (by omega) ?_ (by rw [i2, narrow_byte, arrV_store] at e1; exact e1)) e2 e3) (hS.put e2 e3 (hR.in hlt)) hk hn hl)
  rw [← xI_upd, xtv_updV]; rfl
end XHR
end
section
/-! calls, new cells, static cells, arraycopy -/
def xOkB (N : xM) (np : Nat) : Prop := Cond.code N.1 N.2.1 N.2.2.1 N.2.2.2 ∈ xTT ∧ Cond.initialized N.1.cls ∈ xTT ∧ N.2.2.1 ≤ 80 ∧ N.1.cls ≠ "java/lang/invoke/MethodHandle" ∧ N.1.cls ≠ "java/lang/invoke/VarHandle" ∧ (parseMethodDescriptor N.1.desc).map (fun d => d.parameters.length) = some np
def xOkS (N : xM) (np : Nat) : Prop := xOkB N np ∧ Cond.static N.1 ∈ xTT
def xOkV (N : xM) (np : Nat) : Prop := xOkB N np ∧ Cond.instanceMethod N.1 ∈ xTT ∧ Cond.selects N.1.cls N.1 N.1 ∈ xTT
def xOkI (N : xM) (np : Nat) : Prop := xOkB N np ∧ Cond.instanceMethod N.1 ∈ xTT ∧ N.1.name = "<init>" ∧ N.2.2.2 = none
/-- a method as a class's constant pool names it -/
def xMl (own : String) (idx : Nat) (N : xM) : Prop := Cond.methodLink own idx N.1 ∈ xTT ∨ ∃ host : String, Cond.methodLinkNest own idx N.1 host ∈ xNW
theorem xgood (N : xM) {np : Nat} (hN : xOkB N np) : GoodIn xTT (xws N) := by
  intro w hw
  have h1 : w ∈ xTT := by
    rcases List.mem_cons.mp hw with rfl | h
    · exact hN.1
    · exact h
  exact ⟨h1, good_of_word (List.mem_filter.mp h1).2⟩
theorem xmap_ret (G : xG) (r : Option Value) (st : List Value) : (r.toList ++ st).map (xtv G) = (r.map (xtv G)).toList ++ st.map (xtv G) := by
  cases r <;> simp
theorem xsum_cat (G : xG) (st : List Value) : ((st.map (xtv G)).map fun v => v.category).sum = (st.map fun v => v.category).sum := by
  rw [List.map_map]
  congr 1
  exact List.map_congr_left (fun v _ => xtv_cat G v)
section XCR
variable {G : xG} {l : Launch} {M : xM} {d : Nat} {Z : List Frame → Array Value → State → Nat → Nat → State → Prop} {k n pc pc2 : Nat} {L : xL} {st : List Value} {h : xH}
theorem x_callS {N : xM} {np idx d2 k2 n2 mc2 ms2 : Nat} {As st0 : List Value} (hd : decode M.2.1 pc = .ok (.invokestatic idx, 3)) (hp : pc + 3 = pc2) (hlk : xMl M.1.cls idx N) (hN : xOkS N np) (hdd : d2 + 1 ≤ d) (hA : As.length = np) (hst : st0 = As.reverse ++ st) (hw : (st.map fun v => v.category).sum ≤ 8) (hk2 : mc2 + k2 ≤ k) (hn2 : ms2 + n2 ≤ n) (kk : xCt G l N d2 As h mc2 ms2 (fun r h2 => xWP G l M d Z k2 n2 pc2 L (r.toList ++ st) h2)) : xWP G l M d Z k n pc L st0 h := by
  intro p e R s m args below meth c H locs cells slots mc ms ls hO hR hS hk hn hl
  subst hp
  subst hst
  have hts := hO.2.2.2.2.2.2.2.1
  have hSE := hO.2.2.2.2.2.2.2.2.1
  obtain ⟨hfr, hlo, hrc, hrs, hz⟩ := hO.2.2.2.2.2.2.2.2.2
  obtain ⟨⟨b1, b2, b3, b4, b5, b6⟩, b7⟩ := hN
  have hmap : (As.reverse ++ st).map (xtv G) = (As.map (xtv G)).reverse ++ st.map (xtv G) := by simp
  rw [hmap]
  have hpre : PreS s H (xPre G As h) (As.map (xtv G)) := ⟨xPre_blind G As h, fun U hU hW => ⟨rfl, xSE_warm hW hSE, by rw [hU]; exact hR⟩⟩
  have fin := fun (hr : va_Run p l e R s m args below meth c H locs cells slots mc2 ms2 (F0 m pc ls ((As.map (xtv G)).reverse ++ st.map (xtv G))) (st.map (xtv G)) (xPost G (fun r h2 => xWP G l M d Z k2 n2 (pc + 3) L (r.toList ++ st) h2) (As.map (xtv G)).toArray) (xA G)) => x_after (Q := Z below args s mc ms) hr hS (fun r h2 H1 locs1 hq hR1 hS1 => by
    rw [← xmap_ret]
    exact hq p e R s m args below meth c H1 locs1 (cells + mc2) (slots + ms2) mc ms ls hO hR1 hS1 (by omega) (by omega) hl)
  have hlr : 2 * (F0 m pc ls ((As.map (xtv G)).reverse ++ st.map (xtv G))).monitorRoom + ((st.map (xtv G)).map fun v => v.category).sum ≤ 8 := lv_room (by rw [xsum_cat]; exact hw)
  rcases hlk with hlk | ⟨host, hlk⟩
  · exact fin (va_runS (Ts := xTT) (own := M.1.cls) ⟨hO.1, hO.2.1, hO.2.2.1, hO.2.2.2.2.2.2.1, hts⟩ kk ⟨callB_of (Ts := xTT) np hts (xgood N ⟨b1, b2, b3, b4, b5, b6⟩) rfl rfl rfl (hts _ b2) (hts _ hlk) ⟨b4, b5, b6⟩ ⟨by show d2 + 1 ≤ _; omega, by show 8 + (N.2.2.1 + 11) + 100 * d2 ≤ _; omega⟩, hts _ b7⟩ hpre rfl (by rw [List.length_map]; exact hA) hl.1 rfl hlr hd ⟨by omega, by omega⟩)
  · exact fin (va_runSN (Ts := xTT) (own := M.1.cls) ⟨hO.1, hO.2.1, hO.2.2.1, hO.2.2.2.2.2.2.1, hts⟩ kk ⟨va_cnB (Ts := xTT) np hts (xgood N ⟨b1, b2, b3, b4, b5, b6⟩) rfl rfl rfl (hSE.2.2.1 _ hlk) (hts _ b2) ⟨b4, b5, b6⟩ ⟨by show d2 + 1 ≤ _; omega, by show 8 + (N.2.2.1 + 11) + 100 * d2 ≤ _; omega⟩, hts _ b7, trivial⟩ hpre rfl (by rw [List.length_map]; exact hA) hl.1 rfl hlr hd ⟨by omega, by omega⟩)
theorem x_callV {N : xM} {np idx d2 k2 n2 mc2 ms2 b ci NN : Nat} {F : Nat → Value} {As st0 : List Value} (hd : decode M.2.1 pc = .ok (.invokevirtual idx, 3)) (hp : pc + 3 = pc2) (hlk : xMl M.1.cls idx N) (hN : xOkV N np) (hb : h.1 b = (100 + ci, NN, F)) (hci : ∀ q, xcl[ci]? = some q → q.1 = N.1.cls) (hdd : d2 + 1 ≤ d) (hA : As.length = np) (hst : st0 = As.reverse ++ .ref b :: st) (hw : (st.map fun v => v.category).sum ≤ 8) (hk2 : mc2 + k2 ≤ k) (hn2 : ms2 + n2 ≤ n) (kk : xCt G l N d2 (.ref b :: As) h mc2 ms2 (fun r h2 => xWP G l M d Z k2 n2 pc2 L (r.toList ++ st) h2)) : xWP G l M d Z k n pc L st0 h := by
  intro p e R s m args below meth c H locs cells slots mc ms ls hO hR hS hk hn hl
  subst hp
  subst hst
  have hts := hO.2.2.2.2.2.2.2.1
  have hSE := hO.2.2.2.2.2.2.2.2.1
  obtain ⟨hfr, hlo, hrc, hrs, hz⟩ := hO.2.2.2.2.2.2.2.2.2
  obtain ⟨⟨b1, b2, b3, b4, b5, b6⟩, b7, b8⟩ := hN
  have hmap : (As.reverse ++ .ref b :: st).map (xtv G) = (As.map (xtv G)).reverse ++ .ref (xad G b) :: st.map (xtv G) := by simp [xtv]
  rw [hmap]
  obtain ⟨q, hq, cell, q1, q2, q3, q4⟩ := hR.obj hb
  have hcn := hci q hq
  obtain ⟨-, hfc, -⟩ := hSE.1 ci q hq
  have hpre : PreV s H N.1.cls (xad G b) (xPre G (.ref b :: As) h) (As.map (xtv G)) := ⟨xPre_blind G _ h, ⟨cell, q1, by rw [q3]; rfl, by rw [q2, ← hcn]; exact hfc⟩, fun U hU hW => ⟨rfl, xSE_warm hW hSE, by rw [hU]; exact hR⟩⟩
  have fin := fun (hr : va_Run p l e R s m args below meth c H locs cells slots mc2 ms2 (F0 m pc ls ((As.map (xtv G)).reverse ++ .ref (xad G b) :: st.map (xtv G))) (st.map (xtv G)) (xPost G (fun r h2 => xWP G l M d Z k2 n2 (pc + 3) L (r.toList ++ st) h2) (Value.ref (xad G b) :: As.map (xtv G)).toArray) (xA G)) => x_after (Q := Z below args s mc ms) hr hS (fun r h2 H1 locs1 hq hR1 hS1 => by
    rw [← xmap_ret]
    exact hq p e R s m args below meth c H1 locs1 (cells + mc2) (slots + ms2) mc ms ls hO hR1 hS1 (by omega) (by omega) hl)
  have hlr : 2 * (F0 m pc ls ((As.map (xtv G)).reverse ++ .ref (xad G b) :: st.map (xtv G))).monitorRoom + ((st.map (xtv G)).map fun v => v.category).sum ≤ 8 := lv_room (by rw [xsum_cat]; exact hw)
  rcases hlk with hlk | ⟨host, hlk⟩
  · exact fin (va_runV (Ts := xTT) (own := M.1.cls) (C := N.1.cls) ⟨hO.1, hO.2.1, hO.2.2.1, hO.2.2.2.2.2.2.1, hts⟩ kk ⟨callB_of (Ts := xTT) np hts (xgood N ⟨b1, b2, b3, b4, b5, b6⟩) rfl rfl rfl (hts _ b2) (hts _ hlk) ⟨b4, b5, b6⟩ ⟨by show d2 + 1 ≤ _; omega, by show 8 + (N.2.2.1 + 11) + 100 * d2 ≤ _; omega⟩, hts _ b7, hts _ b8⟩ hpre rfl (by rw [List.length_map]; exact hA) hl.1 rfl hlr hd ⟨by omega, by omega⟩)
  · exact fin (va_runVN (Ts := xTT) (own := M.1.cls) (C := N.1.cls) ⟨hO.1, hO.2.1, hO.2.2.1, hO.2.2.2.2.2.2.1, hts⟩ kk ⟨va_cnB (Ts := xTT) np hts (xgood N ⟨b1, b2, b3, b4, b5, b6⟩) rfl rfl rfl (hSE.2.2.1 _ hlk) (hts _ b2) ⟨b4, b5, b6⟩ ⟨by show d2 + 1 ≤ _; omega, by show 8 + (N.2.2.1 + 11) + 100 * d2 ≤ _; omega⟩, hts _ b7, hts _ b8⟩ hpre rfl (by rw [List.length_map]; exact hA) hl.1 rfl hlr hd ⟨by omega, by omega⟩)
theorem x_callI {N : xM} {np idx d2 k2 n2 mc2 ms2 b : Nat} {As st0 : List Value} (hd : decode M.2.1 pc = .ok (.invokespecial idx, 3)) (hp : pc + 3 = pc2) (hlk : xMl M.1.cls idx N) (hN : xOkI N np) (hdd : d2 + 1 ≤ d) (hA : As.length = np) (hst : st0 = As.reverse ++ .ref b :: st) (hw : (st.map fun v => v.category).sum ≤ 8) (hk2 : mc2 + k2 ≤ k) (hn2 : ms2 + n2 ≤ n) (kk : xCt G l N d2 (.ref b :: As) h mc2 ms2 (fun r h2 => xWP G l M d Z k2 n2 pc2 L (r.toList ++ st) h2)) : xWP G l M d Z k n pc L st0 h := by
  intro p e R s m args below meth c H locs cells slots mc ms ls hO hR hS hk hn hl
  subst hp
  subst hst
  have hts := hO.2.2.2.2.2.2.2.1
  have hSE := hO.2.2.2.2.2.2.2.2.1
  obtain ⟨hfr, hlo, hrc, hrs, hz⟩ := hO.2.2.2.2.2.2.2.2.2
  obtain ⟨⟨b1, b2, b3, b4, b5, b6⟩, b7, b8, b9⟩ := hN
  have hmap : (As.reverse ++ .ref b :: st).map (xtv G) = (As.map (xtv G)).reverse ++ .ref (xad G b) :: st.map (xtv G) := by simp [xtv]
  rw [hmap]
  have hpre : PreS s H (xPre G (.ref b :: As) h) (.ref (xad G b) :: As.map (xtv G)) := ⟨xPre_blind G _ h, fun U hU hW => ⟨rfl, xSE_warm hW hSE, by rw [hU]; exact hR⟩⟩
  have fin := fun (hr : va_Run p l e R s m args below meth c H locs cells slots mc2 ms2 (F0 m pc ls ((As.map (xtv G)).reverse ++ .ref (xad G b) :: st.map (xtv G))) (st.map (xtv G)) (xPost G (fun r h2 => xWP G l M d Z k2 n2 (pc + 3) L (r.toList ++ st) h2) (Value.ref (xad G b) :: As.map (xtv G)).toArray) (xA G)) => x_after (Q := Z below args s mc ms) hr hS (fun r h2 H1 locs1 hq hR1 hS1 => by
    rw [← xmap_ret]
    exact hq p e R s m args below meth c H1 locs1 (cells + mc2) (slots + ms2) mc ms ls hO hR1 hS1 (by omega) (by omega) hl)
  have hlr : 2 * (F0 m pc ls ((As.map (xtv G)).reverse ++ .ref (xad G b) :: st.map (xtv G))).monitorRoom + ((st.map (xtv G)).map fun v => v.category).sum ≤ 8 := lv_room (by rw [xsum_cat]; exact hw)
  rcases hlk with hlk | ⟨host, hlk⟩
  · exact fin (va_runI (Ts := xTT) (own := M.1.cls) ⟨hO.1, hO.2.1, hO.2.2.1, hO.2.2.2.2.2.2.1, hts⟩ kk ⟨b9 ▸ callB_of (Ts := xTT) np hts (xgood N ⟨b1, b2, b3, b4, b5, b6⟩) rfl rfl rfl (hts _ b2) (hts _ hlk) ⟨b4, b5, b6⟩ ⟨by show d2 + 1 ≤ _; omega, by show 8 + (N.2.2.1 + 11) + 100 * d2 ≤ _; omega⟩, b8, hts _ b7⟩ hpre rfl (by rw [List.length_map]; exact hA) hl.1 rfl hlr hd ⟨by omega, by omega⟩)
  · exact fin (va_runIN (Ts := xTT) (own := M.1.cls) ⟨hO.1, hO.2.1, hO.2.2.1, hO.2.2.2.2.2.2.1, hts⟩ kk ⟨b9 ▸ va_cnB (Ts := xTT) np hts (xgood N ⟨b1, b2, b3, b4, b5, b6⟩) rfl rfl rfl (hSE.2.2.1 _ hlk) (hts _ b2) ⟨b4, b5, b6⟩ ⟨by show d2 + 1 ≤ _; omega, by show 8 + (N.2.2.1 + 11) + 100 * d2 ≤ _; omega⟩, b8, hts _ b7⟩ hpre rfl (by rw [List.length_map]; exact hA) hl.1 rfl hlr hd ⟨by omega, by omega⟩)
/-- Object's constructor -/
theorem x_objInit {idx a : Nat} (hd : decode M.2.1 pc = .ok (.invokespecial idx, 3)) (hp : pc + 3 = pc2) (h1 : Cond.methodLink M.1.cls idx objectInit ∈ xTT) (h2 : Cond.instanceMethod objectInit ∈ xTT) (h3 : Cond.code objectInit ⟨#[0xb1]⟩ 1 none ∈ xTT) (hdd : 1 ≤ d) (hw : (st.map fun v => v.category).sum ≤ 8) (kk : xWP G l M d Z k n pc2 L st h) : xWP G l M d Z k n pc L (.ref a :: st) h := by
  intro p e R s m args below meth c H locs cells slots mc ms ls hO hR hS hk hn hl
  subst hp
  have hts := hO.2.2.2.2.2.2.2.1
  obtain ⟨hfr, hlo, hrc, hrs, hz⟩ := hO.2.2.2.2.2.2.2.2.2
  refine W.objInit hO.1 hO.2.1 hO.2.2.2.2.2.2.1 (hts _ h1) (hts _ h2) (hts _ h3) rfl (by rw [hO.2.2.1]; exact hl.1) rfl hd (by omega) ?_ (kk p e R s m args below meth c H locs cells slots mc ms ls hO hR hS hk hn hl)
  have hlr : 2 * (F0 m pc ls (.ref (xad G a) :: st.map (xtv G))).monitorRoom + ((st.map (xtv G)).map fun v => v.category).sum ≤ 8 := lv_room (by rw [xsum_cat]; exact hw)
  have e9 : (List.map (xtv G) (Value.ref a :: st)) = .ref (xad G a) :: st.map (xtv G) := rfl
  rw [e9]
  omega
theorem x_new {idx ci : Nat} {q : vw_C} (hd : decode M.2.1 pc = .ok (.new idx, 3)) (hp : pc + 3 = pc2) (hq : xcl[ci]? = some q) (h1 : Cond.classLink M.1.cls idx q.1 ∈ xTT) (h2 : Cond.instantiable q.1 q.2.2 ∈ xTT) (h3 : Cond.initialized q.1 ∈ xTT) (hm : h.2 < 1000000) (kk : xWP G l M d Z k n pc2 L (.ref h.2 :: st) (hn h (100 + ci, 0, fun j => defaultValue (xtys ci j)))) : xWP G l M d Z (1 + k) (q.2.2 + n) pc L st h := by
  intro p e R s m args below meth c H locs cells slots mc ms ls hO hR hS hk hn hl
  subst hp
  have hts := hO.2.2.2.2.2.2.2.1
  have hSE := hO.2.2.2.2.2.2.2.2.1
  obtain ⟨hfr, hlo, hrc, hrs, hz⟩ := hO.2.2.2.2.2.2.2.2.2
  have hKn := hSE.1 ci q hq
  obtain ⟨hSl, hfc, kC, hkC, hkind⟩ := id hKn
  refine W.newcK hO.1 hO.2.1 hO.2.2.2.2.2.2.1 (hts _ h1) (hts _ h2) (hts _ h3) rfl hd (by omega) (by omega) hfc rfl (fun H' kC' hkC' e1 e2 e3 => ?_)
  have hob := u_born (o := H.size) (H := H') (xtys ci) hts (xcl_ws ci q hq) hKn hkC' e1 (xcl_ty ci q hq)
  have hR' : xR G (_root_.Jvm.Pilot.@@N@@.hn h (100 + ci, 0, fun j => defaultValue (xtys ci j))) H' := by
    refine hR.push hm ?_ e2 e3
    unfold xAt
    rw [if_neg (show ¬ 100 + ci < 100 by omega)]
    have e9 : ((100 + ci, 0, fun j => defaultValue (xtys ci j)) : xC).1 - 100 = ci := by show 100 + ci - 100 = ci; omega
    rw [e9]
    refine ⟨q, hq, ?_⟩
    rw [← hR.1]
    refine hob.to (fun j _ => ?_)
    show defaultValue (xtys ci j) = xtv G (defaultValue (xtys ci j))
    cases xtys ci j <;> rfl
  have ea : Value.ref H.size :: List.map (xtv G) st = List.map (xtv G) (.ref h.2 :: st) := by
    show _ = Value.ref (xad G h.2) :: _
    rw [show xad G h.2 = H.size by unfold xad; rw [if_pos hm, hR.1]]
  show W p l e R s m args below meth c H' locs (cells + 1) (slots + q.2.2) (Z below args s mc ms) (F0 m (pc + 3) ls (Value.ref H.size :: List.map (xtv G) st))
  rw [ea]
  exact kk p e R s m args below meth c H' locs (cells + 1) (slots + q.2.2) mc ms ls hO hR' (hS.push e2 e3) (by omega) (by omega) hl
def xat (t : Nat) : ArrayType := match t with
  | 0 => .int
  | 1 => .long
  | 2 => .boolean
  | _ => .byte
theorem x_newarr {t N : Nat} {i : Int32} (hd : decode M.2.1 pc = .ok (.newarray (xat t), 2)) (hp : pc + 2 = pc2) (ht : t < 4) (h1 : Cond.arrayClass (xty t) ∈ xTT) (hi : i = nI N) (hN : N ≤ 1000000) (hm : h.2 < 1000000) (kk : xWP G l M d Z k n pc2 L (.ref h.2 :: st) (hn h (t, N, fun _ => defaultValue (xty t)))) : xWP G l M d Z (1 + k) (N + n) pc L (.int i :: st) h := by
  intro p e R s m args below meth c H locs cells slots mc ms ls hO hR hS hk hn hl
  subst hp
  have hts := hO.2.2.2.2.2.2.2.1
  have hSE := hO.2.2.2.2.2.2.2.2.1
  obtain ⟨hfr, hlo, hrc, hrs, hz⟩ := hO.2.2.2.2.2.2.2.2.2
  have ety : newarray.typeOf (xat t) = xty t := by
    match t, ht with
    | 0, _ => rfl
    | 1, _ => rfl
    | 2, _ => rfl
    | 3, _ => rfl
  have hc8 : componentBytes (xty t) ≤ 8 := by
    match t, ht with
    | 0, _ => decide
    | 1, _ => decide
    | 2, _ => decide
    | 3, _ => decide
  refine va_newaK hO.1 hO.2.1 (by rw [ety]; exact hts _ h1) rfl hd (n := i) (N := N) (rest := st.map (xtv G)) rfl (by rw [hi]; exact nI_pos (by omega)) (by rw [hi]; exact nI_clamp (by omega)) (by rw [ety]; exact Nat.le_trans (Nat.mul_le_mul hN hc8) (by decide)) (by omega) (by omega) rfl (fun H' cA e1 e2 e3 e4 e5 => ?_)
  rw [ety] at e1 e5
  have hcA : cA = G.2.2.1 t := Option.some.inj (e5.symm.trans (hSE.2.1 t (by omega)).2)
  subst hcA
  have hR' : xR G (_root_.Jvm.Pilot.@@N@@.hn h (t, N, fun _ => defaultValue (xty t))) H' := by
    refine hR.push hm (xAt_arr (by omega) ?_ (by rw [← hR.1]; exact e1)) e2 e3
    funext j
    show xtv G (defaultValue (xty t)) = defaultValue (xty t)
    match t, ht with
    | 0, _ => rfl
    | 1, _ => rfl
    | 2, _ => rfl
    | 3, _ => rfl
  have ea : Value.ref H.size :: List.map (xtv G) st = List.map (xtv G) (.ref h.2 :: st) := by
    show _ = Value.ref (xad G h.2) :: _
    rw [show xad G h.2 = H.size by unfold xad; rw [if_pos hm, hR.1]]
  show W p l e R s m args below meth c H' locs (cells + 1) (slots + N) (Z below args s mc ms) (F0 m (pc + 2) ls (Value.ref H.size :: List.map (xtv G) st))
  rw [ea]
  exact kk p e R s m args below meth c H' locs (cells + 1) (slots + N) mc ms ls hO hR' (hS.push e2 e3) (by omega) (by omega) hl
end XCR
end
section
section XMR
variable {G : xG} {l : Launch} {M : xM} {d : Nat} {Z : List Frame → Array Value → State → Nat → Nat → State → Prop} {k n pc pc2 : Nat} {L : xL} {st : List Value} {h : xH}
/-- a static row of numbers, as a class's constant pool names it -/
def xSl (own : String) (idx j : Nat) : Prop := ∃ q : String × String × Nat × List Int32, xST[j]? = some q ∧ (Cond.fieldLink own idx q.1 q.2.1 "[I" ∈ xTT ∨ ∃ host : String, Cond.fieldLinkNest own idx q.1 q.2.1 "[I" host ∈ xNW)
theorem x_gets {idx j : Nat} (hd : decode M.2.1 pc = .ok (.getstatic idx, 3)) (hp : pc + 3 = pc2) (hlk : xSl M.1.cls idx j) (kk : xWP G l M d Z k n pc2 L (.ref (1000000 + j) :: st) h) : xWP G l M d Z k n pc L st h := by
  intro p e R s m args below meth c H locs cells slots mc ms ls hO hR hS hk hn hl
  subst hp
  have hts := hO.2.2.2.2.2.2.2.1
  have hSE := hO.2.2.2.2.2.2.2.2.1
  obtain ⟨q, hq, hlk⟩ := hlk
  obtain ⟨⟨cf, kf, fi, f, a, cell, h1, h2, h3, h4, h5, h6, h7, h8⟩, -⟩ := hSE.2.2.2.1 j q hq
  have ha : a < G.1 := Nat.lt_of_not_le h8
  have e9 : xtv G (.ref (1000000 + j)) = .ref (G.2.2.2.2.2 j) := by
    show Value.ref (xad G (1000000 + j)) = _
    unfold xad
    rw [if_neg (by omega), show 1000000 + j - 1000000 = j by omega]
  have kk2 := kk p e R s m args below meth c H locs cells slots mc ms ls hO hR hS hk hn hl
  rw [List.map_cons, e9] at kk2
  rcases hlk with hlk | ⟨host, hlk⟩
  · exact W.gets hO.1 hO.2.1 hO.2.2.2.2.2.2.1 (hts _ hlk) h1 h2 h3 h4 (by rw [hR.2.2.1 a ha]; exact h5) (fun e => by rw [e] at h6; cases h6) h7 rfl hd kk2
  · exact va_WgetsN hO.1 hO.2.1 hO.2.2.2.2.2.2.1 (va_Nw.use rfl (hSE.2.2.1 _ hlk)) h1 h2 h3 h4 (by rw [hR.2.2.1 a ha]; exact h5) (fun e => by rw [e] at h6; cases h6) h7 rfl hd kk2
theorem x_sald {j i2 : Nat} {i : Int32} {q : String × String × Nat × List Int32} (hd : decode M.2.1 pc = .ok (.iaload, 1)) (hp : pc + 1 = pc2) (hq : xST[j]? = some q) (hi : i = nI i2) (hj : i2 < q.2.2.1) (hN : q.2.2.1 < 2147483648) (kk : xWP G l M d Z k n pc2 L (.int (q.2.2.2.getD i2 0) :: st) h) : xWP G l M d Z k n pc L (.int i :: .ref (1000000 + j) :: st) h := by
  intro p e R s m args below meth c H locs cells slots mc ms ls hO hR hS hk hn hl
  subst hp
  have hSE := hO.2.2.2.2.2.2.2.2.1
  obtain ⟨-, cell, h1, h2, h3, h4, h5, h6, h7⟩ := hSE.2.2.2.1 j q hq
  have ha : G.2.2.2.2.2 j < G.1 := Nat.lt_of_not_le h7
  have e9 : xtv G (.ref (1000000 + j)) = .ref (G.2.2.2.2.2 j) := by
    show Value.ref (xad G (1000000 + j)) = _
    unfold xad
    rw [if_neg (by omega), show 1000000 + j - 1000000 = j by omega]
  obtain ⟨i1, i2'⟩ := x_in hi hj hN
  rw [List.map_cons, List.map_cons, e9]
  refine W.iald hO.1 hO.2.1 (cell := cell) (by rw [hR.2.2.1 _ ha]; exact h1) h2 h3 ?_ (v := .int (q.2.2.2.getD i2 0)) (by rw [i2']; exact h6 i2 hj) rfl rfl hd (kk p e R s m args below meth c H locs cells slots mc ms ls hO hR hS hk hn hl)
  rintro (q9 | q9)
  · exact i1 (Or.inl q9)
  · exact i1 (Or.inr (Nat.le_trans h4 q9))
theorem x_mna {t N K : Nat} {i j : Int32} {idx : Nat} (hd : decode M.2.1 pc = .ok (.multianewarray idx 2, 4)) (hp : pc + 4 = pc2) (ht : t < 2) (hlk : Cond.classLink M.1.cls idx ("[" ++ (FieldType.array (xty t)).toString) ∈ xTT) (har : Cond.arrayClass (xty t) ∈ xTT) (hi : i = nI N) (hj : j = nI K) (hN : N ≤ 1000) (hK : K ≤ 1000) (hm : h.2 + N < 1000000) (kk : xWP G l M d Z k n pc2 L (.ref h.2 :: st) (fun a => if a = h.2 then (4 + t, N, xP (fun q => h.2 + 1 + q)) else if h.2 < a ∧ a < h.2 + 1 + N then (t, K, fun _ => defaultValue (xty t)) else h.1 a, h.2 + 1 + N)) : xWP G l M d Z (1 + N + k) (N + N * K + n) pc L (.int j :: .int i :: st) h := by
  intro p e R s m args below meth c H locs cells slots mc ms ls hO hR hS hk hn hl
  subst hp
  subst hi
  subst hj
  have hts := hO.2.2.2.2.2.2.2.1
  have hSE := hO.2.2.2.2.2.2.2.2.1
  obtain ⟨hfr, hlo, hrc, hrs, hz⟩ := hO.2.2.2.2.2.2.2.2.2
  have hov : (Cond.arrayOver (.array (xty t))).before args s = true := by
    rcases (show t = 0 ∨ t = 1 by omega) with rfl | rfl
    · exact hSE.2.2.2.2.1
    · exact hSE.2.2.2.2.2
  have cN : (nI N).toNatClampNeg = N := nI_clamp (by omega)
  have cK : (nI K).toNatClampNeg = K := nI_clamp (by omega)
  have hc8 : componentBytes (xty t) ≤ 8 := by
    match t, ht with
    | 0, _ => decide
    | 1, _ => decide
  have ed : (fun j : Nat => xtv G (defaultValue (xty t))) = fun _ => defaultValue (xty t) := by
    match t, ht with
    | 0, _ => rfl
    | 1, _ => rfl
  intro T hT X
  obtain ⟨vm₁, cA, comp, -, fA, fC, hOO, -, X', step⟩ := Jvm.Stand.multianewarray2F X hO.1 hO.2.2.2.2.2.2.1 (hts _ hlk) hov (hts _ har) (g := F0 m pc ls ((Value.int (nI K) :: .int (nI N) :: st).map (xtv G))) rfl (by rw [hO.2.1]; exact hd) rfl (nI_pos (by omega)) (nI_pos (by omega)) (by rw [cN]; omega) (by rw [cK]; exact Nat.le_trans (Nat.mul_le_mul hK hc8) (by decide)) (by rw [cK]; omega) (by match t, ht with
    | 0, _ => rfl
    | 1, _ => rfl) (by match t, ht with
    | 0, _ => rfl
    | 1, _ => rfl) (by rw [cN]; omega) (by rw [cN, cK]; omega)
  rw [cN, cK] at X' step
  have hcA : cA = G.2.2.1 (4 + t) := by
    refine Option.some.inj (fA.symm.trans ?_)
    have h9 := (hSE.2.1 (4 + t) (by omega)).2
    rcases (show t = 0 ∨ t = 1 by omega) with rfl | rfl
    · exact h9
    · exact h9
  have hcC : comp = G.2.2.1 t := by
    refine Option.some.inj (fC.symm.trans ?_)
    have h9 := (hSE.2.1 t (by omega)).2
    rcases (show t = 0 ∨ t = 1 by omega) with rfl | rfl
    · exact h9
    · exact h9
  subst hcA
  subst hcC
  generalize hF : Jvm.Free.Multi.fill (T.setVm vm₁) (G.2.2.1 (4 + t)) (G.2.2.1 t) N K (defaultValue (xty t)) N = F at X' step
  have hTh : (T.setVm vm₁).heap = H := hT
  obtain ⟨f1, f2, -, -⟩ := Jvm.Free.Multi.fill_facts (T.setVm vm₁) (G.2.2.1 (4 + t)) (G.2.2.1 t) N K (defaultValue (xty t)) N
  rw [hF, hTh] at f1 f2
  have hold : ∀ x : Nat, x < H.size → F.heap[x]? = H[x]? := fun x hx => by
    have := Jvm.Free.Multi.fill_old (T.setVm vm₁) (G.2.2.1 (4 + t)) (G.2.2.1 t) N K (defaultValue (xty t)) (a := x) (by rw [hTh]; exact hx) N
    rw [hF, hTh] at this
    exact this
  have hrow : ∀ j : Nat, j < N → F.heap[H.size + 1 + j]? = some (arrV (G.2.2.1 t) K (fun _ => defaultValue (xty t))) := fun j hj => by
    have := Jvm.Free.Multi.fill_inner (T.setVm vm₁) (G.2.2.1 (4 + t)) (G.2.2.1 t) N K (defaultValue (xty t)) N j hj
    rw [hF, hTh] at this
    rw [this, ← arrV_new]
    rfl
  have hout : ∀ i : Nat, Jvm.Free.Multi.outerC (G.2.2.1 (4 + t)) N H.size i = arrV (G.2.2.1 (4 + t)) N (fun j => if j < i then .ref (H.size + 1 + j) else .null) := by
    intro i
    induction i with
    | zero =>
      show ({ cls := G.2.2.1 (4 + t), slots := Array.replicate N .null, vm := .none } : Cell) = _
      rw [arrV_new]
      refine congrArg (arrV (G.2.2.1 (4 + t)) N) (funext fun j => ?_)
      simp
    | succ i ih =>
      show (Jvm.Free.Multi.outerC (G.2.2.1 (4 + t)) N H.size i).setSlot i (.ref (H.size + 1 + i)) = _
      rw [ih, arrV_store]
      refine congrArg (arrV (G.2.2.1 (4 + t)) N) (funext fun j => ?_)
      by_cases e : j = i
      · subst e
        simp [updV]
      · by_cases h9 : j < i
        · simp [updV, e, h9, Nat.lt_succ_of_lt h9]
        · simp [updV, e, h9, show ¬ j < i + 1 by omega]
  rw [hout N] at f2
  have e1 : H.size = G.1 + h.2 := hR.1
  have hR2 : xR G (fun a => if a = h.2 then (4 + t, N, xP (fun q => h.2 + 1 + q)) else if h.2 < a ∧ a < h.2 + 1 + N then (t, K, fun _ => defaultValue (xty t)) else h.1 a, h.2 + 1 + N) F.heap := by
    refine ⟨by rw [f1, e1]; show G.1 + h.2 + 1 + N = G.1 + (h.2 + 1 + N); omega, fun a ha => ?_, fun q hq => by rw [hold q (by omega)]; exact hR.2.2.1 q hq, fun a ha => ?_, by show h.2 + 1 + N ≤ _; omega⟩
    · have ha2 : a < h.2 + 1 + N := ha
      show xAt G (if a = h.2 then (4 + t, N, xP (fun q => h.2 + 1 + q)) else if h.2 < a ∧ a < h.2 + 1 + N then (t, K, fun _ => defaultValue (xty t)) else h.1 a) (G.1 + a) F.heap
      by_cases c1 : a = h.2
      · rw [if_pos c1]
        subst c1
        refine xAt_arr (by omega) (f := fun j => xtv G (xP (fun q => h.2 + 1 + q) j)) rfl ?_
        rw [← e1, f2]
        congr 1
        unfold arrV
        congr 1
        congr 1
        funext j
        show (if j.val < N then Value.ref (H.size + 1 + j.val) else .null) = .ref (xad G (h.2 + 1 + j.val))
        rw [if_pos j.isLt]
        unfold xad
        rw [if_pos (by have := j.isLt; omega)]
        have e5 : H.size + 1 + j.val = G.1 + (h.2 + 1 + j.val) := by omega
        exact congrArg Value.ref e5
      · rw [if_neg c1]
        by_cases c2 : h.2 < a ∧ a < h.2 + 1 + N
        · rw [if_pos c2]
          refine xAt_arr (by omega) ed ?_
          have := hrow (a - (h.2 + 1)) (by omega)
          rw [show H.size + 1 + (a - (h.2 + 1)) = G.1 + a by omega] at this
          exact this
        · rw [if_neg c2]
          have ha3 : a < h.2 := by omega
          have h1 := hR.2.1 a ha3
          have e2 : F.heap[G.1 + a]? = H[G.1 + a]? := hold _ (by omega)
          unfold xAt at h1 ⊢
          split
          · next q => rw [if_pos q] at h1; rw [e2]; exact h1
          · next q =>
            rw [if_neg q] at h1
            obtain ⟨r, r1, r2⟩ := h1
            exact ⟨r, r1, r2.kept e2⟩
    · have ha2 : h.2 + 1 + N ≤ a := ha
      show (if a = h.2 then (4 + t, N, xP (fun q => h.2 + 1 + q)) else if h.2 < a ∧ a < h.2 + 1 + N then (t, K, fun _ => defaultValue (xty t)) else h.1 a).1 = 99
      rw [if_neg (by omega), if_neg (by omega)]
      exact hR.2.2.2.1 a (by omega)
  have hS2 : va_S (xA G) s.heap F.heap locs := ⟨by rw [f1]; have := hS.1; omega, fun x h1 h2 => (hold x (Nat.lt_of_lt_of_le h1 hS.1)).trans (hS.2.1 x h1 h2), hS.2.2⟩
  have kk2 := kk p e R s m args below meth c F.heap locs (cells + 1 + N) (slots + N + N * K) mc ms ls hO hR2 hS2 (by omega) (by omega) hl F rfl X'
  obtain ⟨t2, a1, b1⟩ := kk2
  refine ⟨t2, step t2 ?_, b1⟩
  have e3 : xtv G (.ref h.2) = .ref T.heap.size := by
    show Value.ref (xad G h.2) = _
    unfold xad
    rw [if_pos (by omega), hT, e1]
  rw [List.map_cons, e3] at a1
  exact a1
end XMR
end
section
set_option maxRecDepth 20000 in
theorem izL : Cond.initialized RL ∈ xTT := (xIn1 0 rfl rfl)
set_option maxRecDepth 20000 in
theorem izX11 : Cond.initialized RX11 ∈ xTT := (xIn1 1 rfl rfl)
set_option maxRecDepth 20000 in
theorem izX7 : Cond.initialized RX7 ∈ xTT := (xIn1 2 rfl rfl)
set_option maxRecDepth 20000 in
theorem izX2 : Cond.initialized RX2 ∈ xTT := (xIn1 3 rfl rfl)
set_option maxRecDepth 20000 in
theorem izX4 : Cond.initialized RX4 ∈ xTT := (xIn1 4 rfl rfl)
set_option maxRecDepth 20000 in
theorem izX9 : Cond.initialized RX9 ∈ xTT := (xIn1 5 rfl rfl)
set_option maxRecDepth 20000 in
theorem izX0 : Cond.initialized RX0 ∈ xTT := (xIn1 6 rfl rfl)
set_option maxRecDepth 20000 in
theorem izX3 : Cond.initialized RX3 ∈ xTT := (xIn1 7 rfl rfl)
set_option maxRecDepth 20000 in
theorem izX10 : Cond.initialized RX10 ∈ xTT := (xIn1 8 rfl rfl)
set_option maxRecDepth 20000 in
theorem izX8 : Cond.initialized RX8 ∈ xTT := (xIn1 9 rfl rfl)
set_option maxRecDepth 20000 in
theorem izX6 : Cond.initialized RX6 ∈ xTT := (xIn1 10 rfl rfl)
set_option maxRecDepth 20000 in
theorem izX1 : Cond.initialized RX1 ∈ xTT := (xIn1 11 rfl rfl)
set_option maxRecDepth 20000 in
theorem izJ5 : Cond.initialized RJ5 ∈ xTT := (xIn1 12 rfl rfl)
set_option maxRecDepth 20000 in
theorem izJ4 : Cond.initialized RJ4 ∈ xTT := (xIn1 13 rfl rfl)
set_option maxRecDepth 20000 in
theorem izJ0 : Cond.initialized RJ0 ∈ xTT := (xIn1 14 rfl rfl)
set_option maxRecDepth 20000 in
theorem izJ2 : Cond.initialized RJ2 ∈ xTT := (xIn1 15 rfl rfl)
set_option maxRecDepth 20000 in
theorem izX12 : Cond.initialized RX12 ∈ xTT := (xIn1 16 rfl rfl)
set_option maxRecDepth 20000 in
theorem izX5 : Cond.initialized RX5 ∈ xTT := (xIn1 17 rfl rfl)
set_option maxRecDepth 20000 in
theorem izJ7 : Cond.initialized RJ7 ∈ xTT := (xIn1 18 rfl rfl)
set_option maxRecDepth 20000 in
theorem izJ10 : Cond.initialized RJ10 ∈ xTT := (xIn1 19 rfl rfl)
set_option maxRecDepth 20000 in
theorem izJ9 : Cond.initialized RJ9 ∈ xTT := (xIn1 20 rfl rfl)
set_option maxRecDepth 20000 in
theorem izJ8 : Cond.initialized RJ8 ∈ xTT := (xIn1 21 rfl rfl)
set_option maxRecDepth 20000 in
theorem izJ1 : Cond.initialized RJ1 ∈ xTT := (xIn1 22 rfl rfl)
set_option maxRecDepth 20000 in
theorem izJ3 : Cond.initialized RJ3 ∈ xTT := (xIn1 23 rfl rfl)
set_option maxRecDepth 20000 in
theorem izJxd2413 : Cond.initialized RJxd2413 ∈ xTT := (xIn1 24 rfl rfl)
set_option maxRecDepth 20000 in
theorem izJ6 : Cond.initialized RJ6 ∈ xTT := (xIn1 25 rfl rfl)
set_option maxRecDepth 20000 in
theorem lL_7 : Cond.classLink "EightPartsLaw" 7 "EightParts" ∈ xTT := (xIn1 26 rfl rfl)
set_option maxRecDepth 20000 in
theorem inX11 : Cond.instantiable RX11 16 ∈ xTT := (xIn1 27 rfl rfl)
set_option maxRecDepth 20000 in
theorem kL_9 : xMl "EightPartsLaw" 9 mX11_init := Or.inl (xIn1 28 rfl rfl)
set_option maxRecDepth 20000 in
theorem oX11_3 : Cond.methodLink RX11 3 objectInit ∈ xTT := (xIn1 31 rfl rfl)
set_option maxRecDepth 20000 in
theorem lX11_9 : Cond.classLink RX11 9 "[[I" ∈ xTT := (xIn1 34 rfl rfl)
set_option maxRecDepth 20000 in
theorem lX11_14 : Cond.classLink RX11 14 "EightParts$Reckoner" ∈ xTT := (xIn1 36 rfl rfl)
set_option maxRecDepth 20000 in
theorem inX7 : Cond.instantiable RX7 3 ∈ xTT := (xIn1 37 rfl rfl)
set_option maxRecDepth 20000 in
theorem kX11_16 : xMl RX11 16 mX7_init := Or.inr ⟨"EightParts", (List.mem_filter.mpr ⟨xT1 (List.mem_of_getElem? (i := 38) rfl), rfl⟩)⟩
set_option maxRecDepth 20000 in
theorem oX7_3 : Cond.methodLink RX7 3 objectInit ∈ xTT := (xIn1 41 rfl rfl)
set_option maxRecDepth 20000 in
theorem fX7_9 : xFl RX7 9 7 0 := ⟨_, rfl, by decide, Or.inl (xIn1 42 rfl rfl)⟩
set_option maxRecDepth 20000 in
theorem fX7_15 : xFl RX7 15 7 1 := ⟨_, rfl, by decide, Or.inl (xIn1 43 rfl rfl)⟩
set_option maxRecDepth 20000 in
theorem fX7_19 : xFl RX7 19 7 2 := ⟨_, rfl, by decide, Or.inl (xIn1 44 rfl rfl)⟩
set_option maxRecDepth 20000 in
theorem ac_int : Cond.arrayClass .int ∈ xTT := (xIn1 52 rfl rfl)
set_option maxRecDepth 20000 in
theorem ac_long : Cond.arrayClass .long ∈ xTT := (xIn1 53 rfl rfl)
set_option maxRecDepth 20000 in
theorem lX11_21 : Cond.classLink RX11 21 "EightParts$Lattice" ∈ xTT := (xIn1 54 rfl rfl)
set_option maxRecDepth 20000 in
theorem inX2 : Cond.instantiable RX2 4 ∈ xTT := (xIn1 55 rfl rfl)
set_option maxRecDepth 20000 in
theorem kX11_23 : xMl RX11 23 mX2_init := Or.inr ⟨"EightParts", (List.mem_filter.mpr ⟨xT1 (List.mem_of_getElem? (i := 56) rfl), rfl⟩)⟩
set_option maxRecDepth 20000 in
theorem oX2_3 : Cond.methodLink RX2 3 objectInit ∈ xTT := (xIn1 59 rfl rfl)
set_option maxRecDepth 20000 in
theorem lX2_15 : Cond.classLink RX2 15 "[[J" ∈ xTT := (xIn1 60 rfl rfl)
set_option maxRecDepth 20000 in
theorem fX2_9 : xFl RX2 9 2 0 := ⟨_, rfl, by decide, Or.inl (xIn1 62 rfl rfl)⟩
set_option maxRecDepth 20000 in
theorem fX4_30 : xFl RX4 30 2 0 := ⟨_, rfl, by decide, Or.inr ⟨"EightParts", (List.mem_filter.mpr ⟨xT1 (List.mem_of_getElem? (i := 63) rfl), rfl⟩)⟩⟩
set_option maxRecDepth 20000 in
theorem fX11_140 : xFl RX11 140 2 0 := ⟨_, rfl, by decide, Or.inr ⟨"EightParts", (List.mem_filter.mpr ⟨xT1 (List.mem_of_getElem? (i := 64) rfl), rfl⟩)⟩⟩
set_option maxRecDepth 20000 in
theorem fX9_114 : xFl RX9 114 2 0 := ⟨_, rfl, by decide, Or.inr ⟨"EightParts", (List.mem_filter.mpr ⟨xT1 (List.mem_of_getElem? (i := 65) rfl), rfl⟩)⟩⟩
set_option maxRecDepth 20000 in
theorem fX2_17 : xFl RX2 17 2 1 := ⟨_, rfl, by decide, Or.inl (xIn1 66 rfl rfl)⟩
set_option maxRecDepth 20000 in
theorem fX2_20 : xFl RX2 20 2 2 := ⟨_, rfl, by decide, Or.inl (xIn1 67 rfl rfl)⟩
set_option maxRecDepth 20000 in
theorem fX2_23 : xFl RX2 23 2 3 := ⟨_, rfl, by decide, Or.inl (xIn1 68 rfl rfl)⟩
set_option maxRecDepth 20000 in
theorem lX11_28 : Cond.classLink RX11 28 "EightParts$Lists" ∈ xTT := (xIn1 78 rfl rfl)
set_option maxRecDepth 20000 in
theorem inX4 : Cond.instantiable RX4 5 ∈ xTT := (xIn1 79 rfl rfl)
set_option maxRecDepth 20000 in
theorem kX11_30 : xMl RX11 30 mX4_init := Or.inl (xIn1 80 rfl rfl)
set_option maxRecDepth 20000 in
theorem oX4_3 : Cond.methodLink RX4 3 objectInit ∈ xTT := (xIn1 83 rfl rfl)
set_option maxRecDepth 20000 in
theorem lX4_9 : Cond.classLink RX4 9 "[[I" ∈ xTT := (xIn1 84 rfl rfl)
set_option maxRecDepth 20000 in
theorem fX4_26 : xFl RX4 26 4 0 := ⟨_, rfl, by decide, Or.inl (xIn1 85 rfl rfl)⟩
set_option maxRecDepth 20000 in
theorem fX9_110 : xFl RX9 110 4 0 := ⟨_, rfl, by decide, Or.inr ⟨"EightParts", (List.mem_filter.mpr ⟨xT1 (List.mem_of_getElem? (i := 86) rfl), rfl⟩)⟩⟩
set_option maxRecDepth 20000 in
theorem fX4_11 : xFl RX4 11 4 1 := ⟨_, rfl, by decide, Or.inl (xIn1 87 rfl rfl)⟩
set_option maxRecDepth 20000 in
theorem fX4_16 : xFl RX4 16 4 2 := ⟨_, rfl, by decide, Or.inl (xIn1 88 rfl rfl)⟩
set_option maxRecDepth 20000 in
theorem fX4_20 : xFl RX4 20 4 3 := ⟨_, rfl, by decide, Or.inl (xIn1 89 rfl rfl)⟩
set_option maxRecDepth 20000 in
theorem fX4_23 : xFl RX4 23 4 4 := ⟨_, rfl, by decide, Or.inl (xIn1 90 rfl rfl)⟩
set_option maxRecDepth 20000 in
theorem lX11_37 : Cond.classLink RX11 37 "EightParts$Units" ∈ xTT := (xIn1 102 rfl rfl)
set_option maxRecDepth 20000 in
theorem inX9 : Cond.instantiable RX9 9 ∈ xTT := (xIn1 103 rfl rfl)
set_option maxRecDepth 20000 in
theorem kX11_39 : xMl RX11 39 mX9_init := Or.inl (xIn1 104 rfl rfl)
set_option maxRecDepth 20000 in
theorem oX9_3 : Cond.methodLink RX9 3 objectInit ∈ xTT := (xIn1 107 rfl rfl)
set_option maxRecDepth 20000 in
theorem fX9_35 : xFl RX9 35 9 0 := ⟨_, rfl, by decide, Or.inl (xIn1 108 rfl rfl)⟩
set_option maxRecDepth 20000 in
theorem fX9_39 : xFl RX9 39 9 1 := ⟨_, rfl, by decide, Or.inl (xIn1 109 rfl rfl)⟩
set_option maxRecDepth 20000 in
theorem fX9_9 : xFl RX9 9 9 2 := ⟨_, rfl, by decide, Or.inl (xIn1 110 rfl rfl)⟩
set_option maxRecDepth 20000 in
theorem fX9_15 : xFl RX9 15 9 3 := ⟨_, rfl, by decide, Or.inl (xIn1 111 rfl rfl)⟩
set_option maxRecDepth 20000 in
theorem fX9_18 : xFl RX9 18 9 4 := ⟨_, rfl, by decide, Or.inl (xIn1 112 rfl rfl)⟩
set_option maxRecDepth 20000 in
theorem fX9_21 : xFl RX9 21 9 5 := ⟨_, rfl, by decide, Or.inl (xIn1 113 rfl rfl)⟩
set_option maxRecDepth 20000 in
theorem fX9_25 : xFl RX9 25 9 6 := ⟨_, rfl, by decide, Or.inl (xIn1 114 rfl rfl)⟩
set_option maxRecDepth 20000 in
theorem fX9_28 : xFl RX9 28 9 7 := ⟨_, rfl, by decide, Or.inl (xIn1 115 rfl rfl)⟩
set_option maxRecDepth 20000 in
theorem fX9_32 : xFl RX9 32 9 8 := ⟨_, rfl, by decide, Or.inl (xIn1 116 rfl rfl)⟩
set_option maxRecDepth 20000 in
theorem fX11_304 : xFl RX11 304 9 8 := ⟨_, rfl, by decide, Or.inr ⟨"EightParts", (List.mem_filter.mpr ⟨xT1 (List.mem_of_getElem? (i := 117) rfl), rfl⟩)⟩⟩
set_option maxRecDepth 20000 in
theorem ac_boolean : Cond.arrayClass .boolean ∈ xTT := (xIn1 137 rfl rfl)
set_option maxRecDepth 20000 in
theorem lX11_46 : Cond.classLink RX11 46 "EightParts$Divider" ∈ xTT := (xIn1 138 rfl rfl)
set_option maxRecDepth 20000 in
theorem inX0 : Cond.instantiable RX0 10 ∈ xTT := (xIn1 139 rfl rfl)
set_option maxRecDepth 20000 in
theorem kX11_48 : xMl RX11 48 mX0_init := Or.inl (xIn1 140 rfl rfl)
set_option maxRecDepth 20000 in
theorem oX0_3 : Cond.methodLink RX0 3 objectInit ∈ xTT := (xIn1 143 rfl rfl)
set_option maxRecDepth 20000 in
theorem fX0_39 : xFl RX0 39 0 0 := ⟨_, rfl, by decide, Or.inl (xIn1 144 rfl rfl)⟩
set_option maxRecDepth 20000 in
theorem fX0_43 : xFl RX0 43 0 1 := ⟨_, rfl, by decide, Or.inl (xIn1 145 rfl rfl)⟩
set_option maxRecDepth 20000 in
theorem fX0_9 : xFl RX0 9 0 2 := ⟨_, rfl, by decide, Or.inl (xIn1 146 rfl rfl)⟩
set_option maxRecDepth 20000 in
theorem fX11_201 : xFl RX11 201 0 2 := ⟨_, rfl, by decide, Or.inr ⟨"EightParts", (List.mem_filter.mpr ⟨xT1 (List.mem_of_getElem? (i := 147) rfl), rfl⟩)⟩⟩
set_option maxRecDepth 20000 in
theorem fX0_15 : xFl RX0 15 0 3 := ⟨_, rfl, by decide, Or.inl (xIn1 148 rfl rfl)⟩
set_option maxRecDepth 20000 in
theorem fX11_204 : xFl RX11 204 0 3 := ⟨_, rfl, by decide, Or.inr ⟨"EightParts", (List.mem_filter.mpr ⟨xT1 (List.mem_of_getElem? (i := 149) rfl), rfl⟩)⟩⟩
set_option maxRecDepth 20000 in
theorem fX0_18 : xFl RX0 18 0 4 := ⟨_, rfl, by decide, Or.inl (xIn1 150 rfl rfl)⟩
set_option maxRecDepth 20000 in
theorem fX0_21 : xFl RX0 21 0 5 := ⟨_, rfl, by decide, Or.inl (xIn1 151 rfl rfl)⟩
set_option maxRecDepth 20000 in
theorem fX0_24 : xFl RX0 24 0 6 := ⟨_, rfl, by decide, Or.inl (xIn1 152 rfl rfl)⟩
set_option maxRecDepth 20000 in
theorem fX0_27 : xFl RX0 27 0 7 := ⟨_, rfl, by decide, Or.inl (xIn1 153 rfl rfl)⟩
set_option maxRecDepth 20000 in
theorem fX0_31 : xFl RX0 31 0 8 := ⟨_, rfl, by decide, Or.inl (xIn1 154 rfl rfl)⟩
set_option maxRecDepth 20000 in
theorem fX11_338 : xFl RX11 338 0 8 := ⟨_, rfl, by decide, Or.inr ⟨"EightParts", (List.mem_filter.mpr ⟨xT1 (List.mem_of_getElem? (i := 155) rfl), rfl⟩)⟩⟩
set_option maxRecDepth 20000 in
theorem fX0_35 : xFl RX0 35 0 9 := ⟨_, rfl, by decide, Or.inl (xIn1 156 rfl rfl)⟩
set_option maxRecDepth 20000 in
theorem fX11_345 : xFl RX11 345 0 9 := ⟨_, rfl, by decide, Or.inr ⟨"EightParts", (List.mem_filter.mpr ⟨xT1 (List.mem_of_getElem? (i := 157) rfl), rfl⟩)⟩⟩
set_option maxRecDepth 20000 in
theorem lX11_55 : Cond.classLink RX11 55 "EightParts$Laws" ∈ xTT := (xIn1 179 rfl rfl)
set_option maxRecDepth 20000 in
theorem inX3 : Cond.instantiable RX3 9 ∈ xTT := (xIn1 180 rfl rfl)
set_option maxRecDepth 20000 in
theorem kX11_57 : xMl RX11 57 mX3_init := Or.inl (xIn1 181 rfl rfl)
set_option maxRecDepth 20000 in
theorem oX3_3 : Cond.methodLink RX3 3 objectInit ∈ xTT := (xIn1 184 rfl rfl)
set_option maxRecDepth 20000 in
theorem fX3_36 : xFl RX3 36 3 0 := ⟨_, rfl, by decide, Or.inl (xIn1 185 rfl rfl)⟩
set_option maxRecDepth 20000 in
theorem fX3_9 : xFl RX3 9 3 1 := ⟨_, rfl, by decide, Or.inl (xIn1 186 rfl rfl)⟩
set_option maxRecDepth 20000 in
theorem fX3_15 : xFl RX3 15 3 2 := ⟨_, rfl, by decide, Or.inl (xIn1 187 rfl rfl)⟩
set_option maxRecDepth 20000 in
theorem fX3_18 : xFl RX3 18 3 3 := ⟨_, rfl, by decide, Or.inl (xIn1 188 rfl rfl)⟩
set_option maxRecDepth 20000 in
theorem fX3_21 : xFl RX3 21 3 4 := ⟨_, rfl, by decide, Or.inl (xIn1 189 rfl rfl)⟩
set_option maxRecDepth 20000 in
theorem fX3_24 : xFl RX3 24 3 5 := ⟨_, rfl, by decide, Or.inl (xIn1 190 rfl rfl)⟩
set_option maxRecDepth 20000 in
theorem fX3_27 : xFl RX3 27 3 6 := ⟨_, rfl, by decide, Or.inl (xIn1 191 rfl rfl)⟩
set_option maxRecDepth 20000 in
theorem fX3_30 : xFl RX3 30 3 7 := ⟨_, rfl, by decide, Or.inl (xIn1 192 rfl rfl)⟩
set_option maxRecDepth 20000 in
theorem fX3_33 : xFl RX3 33 3 8 := ⟨_, rfl, by decide, Or.inl (xIn1 193 rfl rfl)⟩
set_option maxRecDepth 20000 in
theorem lX11_64 : Cond.classLink RX11 64 "EightParts$Ways" ∈ xTT := (xIn1 213 rfl rfl)
set_option maxRecDepth 20000 in
theorem inX10 : Cond.instantiable RX10 3 ∈ xTT := (xIn1 214 rfl rfl)
set_option maxRecDepth 20000 in
theorem kX11_66 : xMl RX11 66 mX10_init := Or.inl (xIn1 215 rfl rfl)
set_option maxRecDepth 20000 in
theorem oX10_3 : Cond.methodLink RX10 3 objectInit ∈ xTT := (xIn1 218 rfl rfl)
set_option maxRecDepth 20000 in
theorem lX10_9 : Cond.classLink RX10 9 "[[I" ∈ xTT := (xIn1 219 rfl rfl)
set_option maxRecDepth 20000 in
theorem fX10_20 : xFl RX10 20 10 0 := ⟨_, rfl, by decide, Or.inl (xIn1 220 rfl rfl)⟩
set_option maxRecDepth 20000 in
theorem fX10_11 : xFl RX10 11 10 1 := ⟨_, rfl, by decide, Or.inl (xIn1 221 rfl rfl)⟩
set_option maxRecDepth 20000 in
theorem fX10_16 : xFl RX10 16 10 2 := ⟨_, rfl, by decide, Or.inl (xIn1 222 rfl rfl)⟩
set_option maxRecDepth 20000 in
theorem lX11_71 : Cond.classLink RX11 71 "EightParts$Tape" ∈ xTT := (xIn1 230 rfl rfl)
set_option maxRecDepth 20000 in
theorem inX8 : Cond.instantiable RX8 2 ∈ xTT := (xIn1 231 rfl rfl)
set_option maxRecDepth 20000 in
theorem kX11_73 : xMl RX11 73 mX8_init := Or.inr ⟨"EightParts", (List.mem_filter.mpr ⟨xT1 (List.mem_of_getElem? (i := 232) rfl), rfl⟩)⟩
set_option maxRecDepth 20000 in
theorem oX8_3 : Cond.methodLink RX8 3 objectInit ∈ xTT := (xIn1 235 rfl rfl)
set_option maxRecDepth 20000 in
theorem fX8_11 : xFl RX8 11 8 0 := ⟨_, rfl, by decide, Or.inl (xIn1 236 rfl rfl)⟩
set_option maxRecDepth 20000 in
theorem fX8_15 : xFl RX8 15 8 1 := ⟨_, rfl, by decide, Or.inl (xIn1 237 rfl rfl)⟩
set_option maxRecDepth 20000 in
theorem fX6_58 : xFl RX6 58 8 1 := ⟨_, rfl, by decide, Or.inr ⟨"EightParts", (List.mem_filter.mpr ⟨xT1 (List.mem_of_getElem? (i := 238) rfl), rfl⟩)⟩⟩
set_option maxRecDepth 20000 in
theorem fX11_226 : xFl RX11 226 8 1 := ⟨_, rfl, by decide, Or.inr ⟨"EightParts", (List.mem_filter.mpr ⟨xT1 (List.mem_of_getElem? (i := 239) rfl), rfl⟩)⟩⟩
set_option maxRecDepth 20000 in
theorem ac_byte : Cond.arrayClass .byte ∈ xTT := (xIn2 5 rfl rfl)
set_option maxRecDepth 20000 in
theorem lX11_78 : Cond.classLink RX11 78 "EightParts$Reader" ∈ xTT := (xIn2 6 rfl rfl)
set_option maxRecDepth 20000 in
theorem inX6 : Cond.instantiable RX6 9 ∈ xTT := (xIn2 7 rfl rfl)
set_option maxRecDepth 20000 in
theorem kX11_80 : xMl RX11 80 mX6_init := Or.inl (xIn2 8 rfl rfl)
set_option maxRecDepth 20000 in
theorem oX6_3 : Cond.methodLink RX6 3 objectInit ∈ xTT := (xIn2 11 rfl rfl)
set_option maxRecDepth 20000 in
theorem lX6_11 : Cond.classLink RX6 11 "[[I" ∈ xTT := (xIn2 12 rfl rfl)
set_option maxRecDepth 20000 in
theorem fX6_33 : xFl RX6 33 6 0 := ⟨_, rfl, by decide, Or.inl (xIn2 13 rfl rfl)⟩
set_option maxRecDepth 20000 in
theorem fX6_37 : xFl RX6 37 6 1 := ⟨_, rfl, by decide, Or.inl (xIn2 14 rfl rfl)⟩
set_option maxRecDepth 20000 in
theorem fX6_40 : xFl RX6 40 6 2 := ⟨_, rfl, by decide, Or.inl (xIn2 15 rfl rfl)⟩
set_option maxRecDepth 20000 in
theorem fX6_13 : xFl RX6 13 6 3 := ⟨_, rfl, by decide, Or.inl (xIn2 16 rfl rfl)⟩
set_option maxRecDepth 20000 in
theorem fX6_16 : xFl RX6 16 6 4 := ⟨_, rfl, by decide, Or.inl (xIn2 17 rfl rfl)⟩
set_option maxRecDepth 20000 in
theorem fX6_19 : xFl RX6 19 6 5 := ⟨_, rfl, by decide, Or.inl (xIn2 18 rfl rfl)⟩
set_option maxRecDepth 20000 in
theorem fX6_22 : xFl RX6 22 6 6 := ⟨_, rfl, by decide, Or.inl (xIn2 19 rfl rfl)⟩
set_option maxRecDepth 20000 in
theorem fX6_26 : xFl RX6 26 6 7 := ⟨_, rfl, by decide, Or.inl (xIn2 20 rfl rfl)⟩
set_option maxRecDepth 20000 in
theorem fX6_29 : xFl RX6 29 6 8 := ⟨_, rfl, by decide, Or.inl (xIn2 21 rfl rfl)⟩
set_option maxRecDepth 20000 in
theorem lX11_87 : Cond.classLink RX11 87 "EightParts$Keeper" ∈ xTT := (xIn2 41 rfl rfl)
set_option maxRecDepth 20000 in
theorem inX1 : Cond.instantiable RX1 3 ∈ xTT := (xIn2 42 rfl rfl)
set_option maxRecDepth 20000 in
theorem kX11_89 : xMl RX11 89 mX1_init := Or.inr ⟨"EightParts", (List.mem_filter.mpr ⟨xT2 (List.mem_of_getElem? (i := 43) rfl), rfl⟩)⟩
set_option maxRecDepth 20000 in
theorem oX1_3 : Cond.methodLink RX1 3 objectInit ∈ xTT := (xIn2 46 rfl rfl)
set_option maxRecDepth 20000 in
theorem fX1_11 : xFl RX1 11 1 0 := ⟨_, rfl, by decide, Or.inl (xIn2 47 rfl rfl)⟩
set_option maxRecDepth 20000 in
theorem fX1_15 : xFl RX1 15 1 1 := ⟨_, rfl, by decide, Or.inl (xIn2 48 rfl rfl)⟩
set_option maxRecDepth 20000 in
theorem fX1_18 : xFl RX1 18 1 2 := ⟨_, rfl, by decide, Or.inl (xIn2 49 rfl rfl)⟩
set_option maxRecDepth 20000 in
theorem fX11_352 : xFl RX11 352 1 2 := ⟨_, rfl, by decide, Or.inr ⟨"EightParts", (List.mem_filter.mpr ⟨xT2 (List.mem_of_getElem? (i := 50) rfl), rfl⟩)⟩⟩
set_option maxRecDepth 20000 in
theorem lX11_94 : Cond.classLink RX11 94 "java/lang/StringBuilder" ∈ xTT := (xIn2 58 rfl rfl)
set_option maxRecDepth 20000 in
theorem inJ4 : Cond.instantiable RJ4 4 ∈ xTT := (xIn2 59 rfl rfl)
set_option maxRecDepth 20000 in
theorem kX11_96 : xMl RX11 96 mJ4_init_da8c8 := Or.inl (xIn2 60 rfl rfl)
set_option maxRecDepth 20000 in
theorem kJ4_1 : xMl RJ4 1 mJ5_init_d00df := Or.inl (xIn2 63 rfl rfl)
set_option maxRecDepth 20000 in
theorem oJ5_3 : Cond.methodLink RJ5 3 objectInit ∈ xTT := (xIn2 66 rfl rfl)
set_option maxRecDepth 20000 in
theorem tJ5_18 : Cond.fieldLink RJ5 18 "java/lang/String" "COMPACT_STRINGS" "Z" ∈ xTT := (xIn2 67 rfl rfl)
set_option maxRecDepth 20000 in
theorem kJ5_26 : xMl RJ5 26 mJ2_newBytesFor_77867 := Or.inl (xIn2 69 rfl rfl)
set_option maxRecDepth 20000 in
theorem kJ2_11 : xMl RJ2 11 mJ2_newBytesLength_0f7a4 := Or.inl (xIn2 72 rfl rfl)
set_option maxRecDepth 20000 in
theorem cJ2_20 : Cond.constant RJ2 20 (1073741823) ∈ xTT := (xIn2 75 rfl rfl)
set_option maxRecDepth 20000 in
theorem fJ5_15 : xFl RJ5 15 13 0 := ⟨_, rfl, by decide, Or.inl (xIn2 76 rfl rfl)⟩
set_option maxRecDepth 20000 in
theorem fJ5_22 : xFl RJ5 22 13 1 := ⟨_, rfl, by decide, Or.inl (xIn2 77 rfl rfl)⟩
set_option maxRecDepth 20000 in
theorem fJ5_73 : xFl RJ5 73 13 2 := ⟨_, rfl, by decide, Or.inl (xIn2 78 rfl rfl)⟩
set_option maxRecDepth 20000 in
theorem fJ5_79 : xFl RJ5 79 13 3 := ⟨_, rfl, by decide, Or.inl (xIn2 79 rfl rfl)⟩
set_option maxRecDepth 20000 in
theorem fX11_11 : xFl RX11 11 11 0 := ⟨_, rfl, by decide, Or.inl (xIn2 89 rfl rfl)⟩
set_option maxRecDepth 20000 in
theorem fX11_17 : xFl RX11 17 11 1 := ⟨_, rfl, by decide, Or.inl (xIn2 90 rfl rfl)⟩
set_option maxRecDepth 20000 in
theorem fX11_24 : xFl RX11 24 11 2 := ⟨_, rfl, by decide, Or.inl (xIn2 91 rfl rfl)⟩
set_option maxRecDepth 20000 in
theorem fX11_33 : xFl RX11 33 11 3 := ⟨_, rfl, by decide, Or.inl (xIn2 92 rfl rfl)⟩
set_option maxRecDepth 20000 in
theorem fX11_42 : xFl RX11 42 11 4 := ⟨_, rfl, by decide, Or.inl (xIn2 93 rfl rfl)⟩
set_option maxRecDepth 20000 in
theorem fX11_51 : xFl RX11 51 11 5 := ⟨_, rfl, by decide, Or.inl (xIn2 94 rfl rfl)⟩
set_option maxRecDepth 20000 in
theorem fX11_60 : xFl RX11 60 11 6 := ⟨_, rfl, by decide, Or.inl (xIn2 95 rfl rfl)⟩
set_option maxRecDepth 20000 in
theorem fX11_67 : xFl RX11 67 11 7 := ⟨_, rfl, by decide, Or.inl (xIn2 96 rfl rfl)⟩
set_option maxRecDepth 20000 in
theorem fX11_74 : xFl RX11 74 11 8 := ⟨_, rfl, by decide, Or.inl (xIn2 97 rfl rfl)⟩
set_option maxRecDepth 20000 in
theorem fX11_83 : xFl RX11 83 11 9 := ⟨_, rfl, by decide, Or.inl (xIn2 98 rfl rfl)⟩
set_option maxRecDepth 20000 in
theorem fX11_90 : xFl RX11 90 11 10 := ⟨_, rfl, by decide, Or.inl (xIn2 99 rfl rfl)⟩
set_option maxRecDepth 20000 in
theorem fX11_97 : xFl RX11 97 11 11 := ⟨_, rfl, by decide, Or.inl (xIn2 100 rfl rfl)⟩
set_option maxRecDepth 20000 in
theorem fX11_101 : xFl RX11 101 11 12 := ⟨_, rfl, by decide, Or.inl (xIn2 101 rfl rfl)⟩
set_option maxRecDepth 20000 in
theorem fX11_105 : xFl RX11 105 11 13 := ⟨_, rfl, by decide, Or.inl (xIn2 102 rfl rfl)⟩
set_option maxRecDepth 20000 in
theorem fX11_108 : xFl RX11 108 11 14 := ⟨_, rfl, by decide, Or.inl (xIn2 103 rfl rfl)⟩
set_option maxRecDepth 20000 in
theorem fX11_111 : xFl RX11 111 11 15 := ⟨_, rfl, by decide, Or.inl (xIn2 104 rfl rfl)⟩
set_option maxRecDepth 20000 in
theorem kL_13 : xMl "EightPartsLaw" 13 mX11_put := Or.inl (xIn2 138 rfl rfl)
set_option maxRecDepth 20000 in
theorem kX11_115 : xMl RX11 115 mX11_isEighth := Or.inl (xIn2 142 rfl rfl)
set_option maxRecDepth 20000 in
theorem kL_18 : xMl "EightPartsLaw" 18 mX11_one := Or.inl (xIn2 145 rfl rfl)
set_option maxRecDepth 20000 in
theorem kX11_119 : xMl RX11 119 mX5_layOne := Or.inl (xIn2 149 rfl rfl)
set_option maxRecDepth 20000 in
theorem kX5_15 : xMl RX5 15 mJ7_fill_53178 := Or.inl (xIn2 152 rfl rfl)
set_option maxRecDepth 20000 in
theorem kL_23 : xMl "EightPartsLaw" 23 mX11_listed := Or.inl (xIn2 155 rfl rfl)
set_option maxRecDepth 20000 in
theorem kX11_125 : xMl RX11 125 mX11_isListedNorm := Or.inl (xIn2 159 rfl rfl)
set_option maxRecDepth 20000 in
theorem kX11_128 : xMl RX11 128 mX4_take := Or.inl (xIn2 162 rfl rfl)
set_option maxRecDepth 20000 in
theorem kX4_40 : xMl RX4 40 mX4_manyOf := Or.inl (xIn2 166 rfl rfl)
set_option maxRecDepth 20000 in
theorem kX4_36 : xMl RX4 36 mX4_fill := Or.inl (xIn2 170 rfl rfl)
set_option maxRecDepth 20000 in
theorem sX4_66 : xSl RX4 66 1 := ⟨_, rfl, Or.inl (xIn2 174 rfl rfl)⟩
set_option maxRecDepth 20000 in
theorem kX4_69 : xMl RX4 69 mX4_sortWords := Or.inl (xIn2 176 rfl rfl)
set_option maxRecDepth 20000 in
theorem kX4_79 : xMl RX4 79 mJ7_fill_53178 := Or.inl (xIn2 180 rfl rfl)
set_option maxRecDepth 20000 in
theorem kX4_72 : xMl RX4 72 mX2_manyWords := Or.inl (xIn2 181 rfl rfl)
set_option maxRecDepth 20000 in
theorem sX4_83 : xSl RX4 83 0 := ⟨_, rfl, Or.inr ⟨"EightParts", (List.mem_filter.mpr ⟨xT2 (List.mem_of_getElem? (i := 184) rfl), rfl⟩)⟩⟩
set_option maxRecDepth 20000 in
theorem kX4_86 : xMl RX4 86 mX2_exchange := Or.inl (xIn2 186 rfl rfl)
set_option maxRecDepth 20000 in
theorem kX4_75 : xMl RX4 75 mX4_grow := Or.inl (xIn2 189 rfl rfl)
set_option maxRecDepth 20000 in
theorem kX4_44 : xMl RX4 44 mX4_unpack := Or.inl (xIn2 193 rfl rfl)
set_option maxRecDepth 20000 in
theorem kL_27 : xMl "EightPartsLaw" 27 mX11_copy := Or.inl (xIn2 196 rfl rfl)
set_option maxRecDepth 20000 in
theorem kX11_132 : xMl RX11 132 mX11_areSlots := Or.inl (xIn2 200 rfl rfl)
set_option maxRecDepth 20000 in
theorem kX11_136 : xMl RX11 136 mX5_lay := Or.inl (xIn2 203 rfl rfl)
set_option maxRecDepth 20000 in
theorem aX5_9 : Cond.methodLink RX5 9 ⟨"java/lang/System", "arraycopy", "(Ljava/lang/Object;ILjava/lang/Object;II)V"⟩ ∈ xTT := (xIn2 206 rfl rfl)
set_option maxRecDepth 20000 in
theorem kL_31 : xMl "EightPartsLaw" 31 mX11_order := Or.inl (xIn2 209 rfl rfl)
set_option maxRecDepth 20000 in
theorem kL_36 : xMl "EightPartsLaw" 36 mX11_sum := Or.inl (xIn2 213 rfl rfl)
set_option maxRecDepth 20000 in
theorem kX11_144 : xMl RX11 144 mX11_areSlots_ := Or.inl (xIn2 217 rfl rfl)
set_option maxRecDepth 20000 in
theorem kX11_147 : xMl RX11 147 mX7_add := Or.inl (xIn2 220 rfl rfl)
set_option maxRecDepth 20000 in
theorem kX7_22 : xMl RX7 22 mX5_layIfWithin := Or.inl (xIn2 224 rfl rfl)
set_option maxRecDepth 20000 in
theorem cX5_35 : Cond.constantLong RX5 35 (-20000) ∈ xTT := (xIn2 227 rfl rfl)
set_option maxRecDepth 20000 in
theorem cX5_37 : Cond.constantLong RX5 37 (20000) ∈ xTT := (xIn2 228 rfl rfl)
set_option maxRecDepth 20000 in
theorem kX11_151 : xMl RX11 151 mX11_told := Or.inl (xIn2 229 rfl rfl)
set_option maxRecDepth 20000 in
theorem kL_41 : xMl "EightPartsLaw" 41 mX11_less := Or.inl (xIn2 232 rfl rfl)
set_option maxRecDepth 20000 in
theorem kL_45 : xMl "EightPartsLaw" 45 mX11_product := Or.inl (xIn2 236 rfl rfl)
set_option maxRecDepth 20000 in
theorem kX11_155 : xMl RX11 155 mX7_multiply := Or.inl (xIn3 0 rfl rfl)
set_option maxRecDepth 20000 in
theorem kX7_28 : xMl RX7 28 mX5_multiplyBy4 := Or.inl (xIn3 4 rfl rfl)
set_option maxRecDepth 20000 in
theorem kX7_32 : xMl RX7 32 mX5_halve := Or.inl (xIn3 7 rfl rfl)
set_option maxRecDepth 20000 in
theorem cX5_33 : Cond.constantLong RX5 33 (2) ∈ xTT := (xIn3 10 rfl rfl)
set_option maxRecDepth 20000 in
theorem kL_49 : xMl "EightPartsLaw" 49 mX11_mirror := Or.inl (xIn3 11 rfl rfl)
set_option maxRecDepth 20000 in
theorem kX11_159 : xMl RX11 159 mX5_layMirrored := Or.inl (xIn3 15 rfl rfl)
set_option maxRecDepth 20000 in
theorem kL_54 : xMl "EightPartsLaw" 54 mX11_times := Or.inl (xIn3 18 rfl rfl)
set_option maxRecDepth 20000 in
theorem kX11_162 : xMl RX11 162 mX7_scale := Or.inl (xIn3 22 rfl rfl)
set_option maxRecDepth 20000 in
theorem kL_58 : xMl "EightPartsLaw" 58 mX11_turn := Or.inl (xIn3 26 rfl rfl)
set_option maxRecDepth 20000 in
theorem kX11_166 : xMl RX11 166 mX11_isTurn := Or.inl (xIn3 30 rfl rfl)
set_option maxRecDepth 20000 in
theorem kX11_169 : xMl RX11 169 mX7_turnBy := Or.inl (xIn3 33 rfl rfl)
set_option maxRecDepth 20000 in
theorem kX7_36 : xMl RX7 36 mX7_multiply := Or.inl (xIn3 37 rfl rfl)
set_option maxRecDepth 20000 in
theorem kX7_40 : xMl RX7 40 mX5_layMirrored := Or.inl (xIn3 38 rfl rfl)
set_option maxRecDepth 20000 in
theorem kL_63 : xMl "EightPartsLaw" 63 mX11_chain := Or.inl (xIn3 39 rfl rfl)
set_option maxRecDepth 20000 in
theorem kX11_172 : xMl RX11 172 mX11_isRow := Or.inl (xIn3 43 rfl rfl)
set_option maxRecDepth 20000 in
theorem kX11_175 : xMl RX11 175 mX11_slotOfRow := Or.inl (xIn3 46 rfl rfl)
set_option maxRecDepth 20000 in
theorem kL_68 : xMl "EightPartsLaw" 68 mX11_last := Or.inl (xIn3 49 rfl rfl)
set_option maxRecDepth 20000 in
theorem kX11_179 : xMl RX11 179 mX0_walk := Or.inl (xIn3 53 rfl rfl)
set_option maxRecDepth 20000 in
theorem kX0_83 : xMl RX0 83 mX5_lay := Or.inl (xIn3 57 rfl rfl)
set_option maxRecDepth 20000 in
theorem kX0_86 : xMl RX0 86 mX0_split := Or.inl (xIn3 58 rfl rfl)
set_option maxRecDepth 20000 in
theorem kX0_47 : xMl RX0 47 mX5_normBy4 := Or.inl (xIn3 62 rfl rfl)
set_option maxRecDepth 20000 in
theorem kX5_29 : xMl RX5 29 mX5_innerBy4 := Or.inl (xIn3 65 rfl rfl)
set_option maxRecDepth 20000 in
theorem cX0_53 : Cond.constantLong RX0 53 (4) ∈ xTT := (xIn3 68 rfl rfl)
set_option maxRecDepth 20000 in
theorem kX0_55 : xMl RX0 55 mX5_layMirrored := Or.inl (xIn3 69 rfl rfl)
set_option maxRecDepth 20000 in
theorem kX0_59 : xMl RX0 59 mX5_multiplyBy4 := Or.inl (xIn3 70 rfl rfl)
set_option maxRecDepth 20000 in
theorem kX0_63 : xMl RX0 63 mX5_halve := Or.inl (xIn3 71 rfl rfl)
set_option maxRecDepth 20000 in
theorem kX0_67 : xMl RX0 67 mX2_layNearest := Or.inl (xIn3 72 rfl rfl)
set_option maxRecDepth 20000 in
theorem kX2_54 : xMl RX2 54 mX2_findNear := Or.inl (xIn3 76 rfl rfl)
set_option maxRecDepth 20000 in
theorem cX2_66 : Cond.constantLong RX2 66 (2) ∈ xTT := (xIn3 80 rfl rfl)
set_option maxRecDepth 20000 in
theorem kX2_68 : xMl RX2 68 mJ9_floorDiv_f86c9 := Or.inl (xIn3 81 rfl rfl)
set_option maxRecDepth 20000 in
theorem kX2_58 : xMl RX2 58 mX2_bestWord := Or.inl (xIn3 84 rfl rfl)
set_option maxRecDepth 20000 in
theorem sX2_31 : xSl RX2 31 0 := ⟨_, rfl, Or.inl (xIn3 88 rfl rfl)⟩
set_option maxRecDepth 20000 in
theorem kX2_27 : xMl RX2 27 mX2_exchange := Or.inl (xIn3 89 rfl rfl)
set_option maxRecDepth 20000 in
theorem kX2_74 : xMl RX2 74 mX2_missOf := Or.inl (xIn3 90 rfl rfl)
set_option maxRecDepth 20000 in
theorem kX2_35 : xMl RX2 35 mX2_manyWords := Or.inl (xIn3 94 rfl rfl)
set_option maxRecDepth 20000 in
theorem kX2_78 : xMl RX2 78 mX2_isListedAhead := Or.inl (xIn3 95 rfl rfl)
set_option maxRecDepth 20000 in
theorem kX2_62 : xMl RX2 62 mX5_layIfWithin := Or.inl (xIn3 99 rfl rfl)
set_option maxRecDepth 20000 in
theorem kX0_73 : xMl RX0 73 mX7_multiply := Or.inl (xIn3 100 rfl rfl)
set_option maxRecDepth 20000 in
theorem kX0_79 : xMl RX0 79 mX7_add := Or.inl (xIn3 101 rfl rfl)
set_option maxRecDepth 20000 in
theorem kX0_90 : xMl RX0 90 mX0_noteShare := Or.inl (xIn3 102 rfl rfl)
set_option maxRecDepth 20000 in
theorem cX0_103 : Cond.constantLong RX0 103 (100) ∈ xTT := (xIn3 106 rfl rfl)
set_option maxRecDepth 20000 in
theorem kX0_105 : xMl RX0 105 mJ9_max_f86c9 := Or.inl (xIn3 107 rfl rfl)
set_option maxRecDepth 20000 in
theorem kX11_182 : xMl RX11 182 mX0_lastOfWalk := Or.inl (xIn3 110 rfl rfl)
set_option maxRecDepth 20000 in
theorem kX0_93 : xMl RX0 93 mX5_isZero := Or.inl (xIn3 114 rfl rfl)
set_option maxRecDepth 20000 in
theorem kX11_186 : xMl RX11 186 mX5_isZero := Or.inl (xIn3 117 rfl rfl)
set_option maxRecDepth 20000 in
theorem kL_72 : xMl "EightPartsLaw" 72 mX11_power := Or.inl (xIn3 118 rfl rfl)
set_option maxRecDepth 20000 in
theorem kL_76 : xMl "EightPartsLaw" 76 mX11_associator := Or.inl (xIn3 122 rfl rfl)
set_option maxRecDepth 20000 in
theorem kL_80 : xMl "EightPartsLaw" 80 mX11_commutator := Or.inl (xIn3 126 rfl rfl)
set_option maxRecDepth 20000 in
theorem kL_84 : xMl "EightPartsLaw" 84 mX11_nearest := Or.inl (xIn3 130 rfl rfl)
set_option maxRecDepth 20000 in
theorem kX11_190 : xMl RX11 190 mX11_isDivisor := Or.inl (xIn3 134 rfl rfl)
set_option maxRecDepth 20000 in
theorem kX11_193 : xMl RX11 193 mX2_layNearest := Or.inl (xIn3 137 rfl rfl)
set_option maxRecDepth 20000 in
theorem kL_88 : xMl "EightPartsLaw" 88 mX11_divide := Or.inl (xIn3 138 rfl rfl)
set_option maxRecDepth 20000 in
theorem kX11_197 : xMl RX11 197 mX0_split := Or.inl (xIn3 142 rfl rfl)
set_option maxRecDepth 20000 in
theorem kL_92 : xMl "EightPartsLaw" 92 mX11_bracket := Or.inl (xIn3 143 rfl rfl)
set_option maxRecDepth 20000 in
theorem kX11_207 : xMl RX11 207 mX10_manyOf := Or.inl (xIn3 147 rfl rfl)
set_option maxRecDepth 20000 in
theorem sX10_24 : xSl RX10 24 2 := ⟨_, rfl, Or.inl (xIn3 151 rfl rfl)⟩
set_option maxRecDepth 20000 in
theorem kX11_211 : xMl RX11 211 mX10_fill := Or.inl (xIn3 153 rfl rfl)
set_option maxRecDepth 20000 in
theorem kX10_28 : xMl RX10 28 mX11_slotOfRow := Or.inr ⟨"EightParts", (List.mem_filter.mpr ⟨xT3 (List.mem_of_getElem? (i := 157) rfl), rfl⟩)⟩
set_option maxRecDepth 20000 in
theorem kX10_32 : xMl RX10 32 mX5_lay := Or.inl (xIn3 158 rfl rfl)
set_option maxRecDepth 20000 in
theorem kX10_38 : xMl RX10 38 mX10_fillStretch := Or.inl (xIn3 159 rfl rfl)
set_option maxRecDepth 20000 in
theorem kX10_53 : xMl RX10 53 mX10_startOf := Or.inl (xIn3 163 rfl rfl)
set_option maxRecDepth 20000 in
theorem sX10_42 : xSl RX10 42 3 := ⟨_, rfl, Or.inl (xIn3 166 rfl rfl)⟩
set_option maxRecDepth 20000 in
theorem kX10_56 : xMl RX10 56 mX10_join := Or.inl (xIn3 168 rfl rfl)
set_option maxRecDepth 20000 in
theorem kX10_60 : xMl RX10 60 mX7_multiply := Or.inl (xIn3 172 rfl rfl)
set_option maxRecDepth 20000 in
theorem kX11_215 : xMl RX11 215 mX10_layWay := Or.inl (xIn3 173 rfl rfl)
set_option maxRecDepth 20000 in
theorem kL_96 : xMl "EightPartsLaw" 96 mX11_feed := Or.inl (xIn3 177 rfl rfl)
set_option maxRecDepth 20000 in
theorem kX11_218 : xMl RX11 218 mX8_hasRoom := Or.inl (xIn3 181 rfl rfl)
set_option maxRecDepth 20000 in
theorem kX11_222 : xMl RX11 222 mX8_append := Or.inl (xIn3 185 rfl rfl)
set_option maxRecDepth 20000 in
theorem kL_100 : xMl "EightPartsLaw" 100 mX11_back := Or.inl (xIn3 189 rfl rfl)
set_option maxRecDepth 20000 in
theorem kL_104 : xMl "EightPartsLaw" 104 mX11_work := Or.inl (xIn3 193 rfl rfl)
set_option maxRecDepth 20000 in
theorem kX11_229 : xMl RX11 229 mX6_read := Or.inl (xIn3 197 rfl rfl)
set_option maxRecDepth 20000 in
theorem kX6_44 : xMl RX6 44 mX6_readSum := Or.inl (xIn3 201 rfl rfl)
set_option maxRecDepth 20000 in
theorem kX6_67 : xMl RX6 67 mX6_readTerm := Or.inl (xIn3 205 rfl rfl)
set_option maxRecDepth 20000 in
theorem kX6_80 : xMl RX6 80 mX6_readFactor := Or.inl (xIn3 209 rfl rfl)
set_option maxRecDepth 20000 in
theorem kX6_48 : xMl RX6 48 mX6_ahead := Or.inl (xIn3 213 rfl rfl)
set_option maxRecDepth 20000 in
theorem kX6_63 : xMl RX6 63 mX8_byteAt := Or.inl (xIn3 217 rfl rfl)
set_option maxRecDepth 20000 in
theorem kX6_52 : xMl RX6 52 mX5_lay := Or.inl (xIn3 221 rfl rfl)
set_option maxRecDepth 20000 in
theorem kX6_87 : xMl RX6 87 mX6_isDigit := Or.inl (xIn3 222 rfl rfl)
set_option maxRecDepth 20000 in
theorem kX6_91 : xMl RX6 91 mX6_readInt := Or.inl (xIn3 225 rfl rfl)
set_option maxRecDepth 20000 in
theorem kX6_101 : xMl RX6 101 mJ9_min_7cf53 := Or.inl (xIn3 229 rfl rfl)
set_option maxRecDepth 20000 in
theorem kX6_107 : xMl RX6 107 mJ7_fill_53178 := Or.inl (xIn3 232 rfl rfl)
set_option maxRecDepth 20000 in
theorem kX6_94 : xMl RX6 94 mX6_readNested := Or.inl (xIn3 233 rfl rfl)
set_option maxRecDepth 20000 in
theorem kX6_98 : xMl RX6 98 mX5_layMirrored := Or.inl (xIn3 237 rfl rfl)
set_option maxRecDepth 20000 in
theorem kX6_83 : xMl RX6 83 mX7_multiply := Or.inl (xIn3 238 rfl rfl)
set_option maxRecDepth 20000 in
theorem kX6_76 : xMl RX6 76 mX6_note := Or.inl (xIn3 239 rfl rfl)
set_option maxRecDepth 20000 in
theorem kX6_70 : xMl RX6 70 mX7_add := Or.inl (xIn4 3 rfl rfl)
set_option maxRecDepth 20000 in
theorem kX11_233 : xMl RX11 233 mX6_layResult := Or.inl (xIn4 4 rfl rfl)
set_option maxRecDepth 20000 in
theorem kL_108 : xMl "EightPartsLaw" 108 mX11_part := Or.inl (xIn4 8 rfl rfl)
set_option maxRecDepth 20000 in
theorem kL_112 : xMl "EightPartsLaw" 112 mX11_norm := Or.inl (xIn4 12 rfl rfl)
set_option maxRecDepth 20000 in
theorem kX11_236 : xMl RX11 236 mX5_normBy4 := Or.inl (xIn4 16 rfl rfl)
set_option maxRecDepth 20000 in
theorem kX11_240 : xMl RX11 240 mX11_capped := Or.inl (xIn4 17 rfl rfl)
set_option maxRecDepth 20000 in
theorem cX11_365 : Cond.constantLong RX11 365 (-2000000000) ∈ xTT := (xIn4 20 rfl rfl)
set_option maxRecDepth 20000 in
theorem cX11_367 : Cond.constantLong RX11 367 (2000000000) ∈ xTT := (xIn4 21 rfl rfl)
set_option maxRecDepth 20000 in
theorem kX11_369 : xMl RX11 369 mJ9_min_f86c9 := Or.inl (xIn4 22 rfl rfl)
set_option maxRecDepth 20000 in
theorem kX11_375 : xMl RX11 375 mJ9_max_f86c9 := Or.inl (xIn4 25 rfl rfl)
set_option maxRecDepth 20000 in
theorem kL_116 : xMl "EightPartsLaw" 116 mX11_spell := Or.inl (xIn4 26 rfl rfl)
set_option maxRecDepth 20000 in
theorem kX11_244 : xMl RX11 244 mJ4_setLength_d00df := Or.inl (xIn4 30 rfl rfl)
set_option maxRecDepth 20000 in
theorem kJ4_333 : xMl RJ4 333 mJ5_setLength_d00df := Or.inl (xIn4 34 rfl rfl)
set_option maxRecDepth 20000 in
theorem kJ5_100 : xMl RJ5 100 mJ5_ensureCapacityInternal_d00df := Or.inl (xIn4 37 rfl rfl)
set_option maxRecDepth 20000 in
theorem kJ5_104 : xMl RJ5 104 mJ5_newCapacity_0f7a4 := Or.inl (xIn4 41 rfl rfl)
set_option maxRecDepth 20000 in
theorem kJ5_114 : xMl RJ5 114 mJ8_newLength_cabcc := Or.inl (xIn4 45 rfl rfl)
set_option maxRecDepth 20000 in
theorem kJ8_194 : xMl RJ8 194 mJ9_max_7cf53 := Or.inl (xIn4 48 rfl rfl)
set_option maxRecDepth 20000 in
theorem cJ8_200 : Cond.constant RJ8 200 (2147483639) ∈ xTT := (xIn4 51 rfl rfl)
set_option maxRecDepth 20000 in
theorem kJ8_201 : xMl RJ8 201 mJ8_hugeLength_7cf53 := Or.inl (xIn4 52 rfl rfl)
set_option maxRecDepth 20000 in
theorem cJ5_39 : Cond.constant RJ5 39 (2147483647) ∈ xTT := (xIn4 55 rfl rfl)
set_option maxRecDepth 20000 in
theorem kJ5_108 : xMl RJ5 108 mJ7_copyOf_9075b := Or.inl (xIn4 56 rfl rfl)
set_option maxRecDepth 20000 in
theorem aJ7_310 : Cond.methodLink RJ7 310 ⟨"[B", "clone", "()Ljava/lang/Object;"⟩ ∈ xTT := (xIn4 59 rfl rfl)
set_option maxRecDepth 20000 in
theorem lJ7_311 : Cond.classLink RJ7 311 "[B" ∈ xTT := (xIn4 65 rfl rfl)
set_option maxRecDepth 20000 in
theorem kJ7_304 : xMl RJ7 304 mJ9_min_7cf53 := Or.inl (xIn4 66 rfl rfl)
set_option maxRecDepth 20000 in
theorem aJ7_150 : Cond.methodLink RJ7 150 ⟨"java/lang/System", "arraycopy", "(Ljava/lang/Object;ILjava/lang/Object;II)V"⟩ ∈ xTT := (xIn4 67 rfl rfl)
set_option maxRecDepth 20000 in
theorem kJ5_83 : xMl RJ5 83 mJ5_isLatin1_aae02 := Or.inl (xIn4 68 rfl rfl)
set_option maxRecDepth 20000 in
theorem kJ5_133 : xMl RJ5 133 mJ1_fillNull_b72d1 := Or.inl (xIn4 73 rfl rfl)
set_option maxRecDepth 20000 in
theorem kJ1_236 : xMl RJ1 236 mJ7_fill_eb02e := Or.inl (xIn4 76 rfl rfl)
set_option maxRecDepth 20000 in
theorem kJ7_13 : xMl RJ7 13 mJ7_rangeCheck_23922 := Or.inl (xIn4 79 rfl rfl)
set_option maxRecDepth 20000 in
theorem kJ5_137 : xMl RJ5 137 mJ2_fillNull_b72d1 := Or.inl (xIn4 82 rfl rfl)
set_option maxRecDepth 20000 in
theorem kJ2_380 : xMl RJ2 380 mJ7_fill_eb02e := Or.inl (xIn4 85 rfl rfl)
set_option maxRecDepth 20000 in
theorem kX11_247 : xMl RX11 247 mX11_spellPart := Or.inl (xIn4 86 rfl rfl)
set_option maxRecDepth 20000 in
theorem kX11_253 : xMl RX11 253 mJ4_append_cf468 := Or.inl (xIn4 90 rfl rfl)
set_option maxRecDepth 20000 in
theorem kJ4_50 : xMl RJ4 50 mJ5_append_3fe6f := Or.inl (xIn4 94 rfl rfl)
set_option maxRecDepth 20000 in
theorem kJ5_191 : xMl RJ5 191 mJ1_canEncode_fc78d := Or.inl (xIn4 97 rfl rfl)
set_option maxRecDepth 20000 in
theorem kJ5_195 : xMl RJ5 195 mJ5_inflate_da8c8 := Or.inl (xIn4 100 rfl rfl)
set_option maxRecDepth 20000 in
theorem kJ5_125 : xMl RJ5 125 mJ1_inflate_0e8fd := Or.inl (xIn4 104 rfl rfl)
set_option maxRecDepth 20000 in
theorem kJ1_240 : xMl RJ1 240 mJ2_inflate_0e8fd := Or.inl (xIn4 107 rfl rfl)
set_option maxRecDepth 20000 in
theorem kJ2_173 : xMl RJ2 173 mJ2_checkBoundsOffCount_d044e := Or.inl (xIn4 110 rfl rfl)
set_option maxRecDepth 20000 in
theorem kJ2_48 : xMl RJ2 48 mJ2_length_9d52b := Or.inl (xIn4 113 rfl rfl)
set_option maxRecDepth 20000 in
theorem kJ2_419 : xMl RJ2 419 mJ0_checkBoundsOffCount_cabcc := Or.inl (xIn4 116 rfl rfl)
set_option maxRecDepth 20000 in
theorem tJ0_1053 : Cond.fieldLink RJ0 1053 "jdk/internal/util/Preconditions" "SIOOBE_FORMATTER" "Ljava/util/function/BiFunction;" ∈ xTT := (xIn4 119 rfl rfl)
set_option maxRecDepth 20000 in
theorem kJ0_1065 : xMl RJ0 1065 mJ3_checkFromIndexSize_8c36e := Or.inl (xIn4 121 rfl rfl)
set_option maxRecDepth 20000 in
theorem kJ2_111 : xMl RJ2 111 mJ2_putChar_b72d1 := Or.inl (xIn4 124 rfl rfl)
set_option maxRecDepth 20000 in
theorem tJ2_44 : Cond.fieldLink RJ2 44 "java/lang/StringUTF16" "$assertionsDisabled" "Z" ∈ xTT := (xIn4 127 rfl rfl)
set_option maxRecDepth 20000 in
theorem tJ2_59 : Cond.fieldLink RJ2 59 "java/lang/StringUTF16" "HI_BYTE_SHIFT" "I" ∈ xTT := (xIn4 129 rfl rfl)
set_option maxRecDepth 20000 in
theorem tJ2_63 : Cond.fieldLink RJ2 63 "java/lang/StringUTF16" "LO_BYTE_SHIFT" "I" ∈ xTT := (xIn4 131 rfl rfl)
set_option maxRecDepth 20000 in
theorem kJ5_197 : xMl RJ5 197 mJ2_putCharSB_b72d1 := Or.inl (xIn4 133 rfl rfl)
set_option maxRecDepth 20000 in
theorem kJ2_67 : xMl RJ2 67 mJ2_checkIndex_2214a := Or.inl (xIn4 136 rfl rfl)
set_option maxRecDepth 20000 in
theorem kJ2_414 : xMl RJ2 414 mJ0_checkIndex_df160 := Or.inl (xIn4 139 rfl rfl)
set_option maxRecDepth 20000 in
theorem kJ0_1059 : xMl RJ0 1059 mJ3_checkIndex_8e157 := Or.inl (xIn4 142 rfl rfl)
set_option maxRecDepth 20000 in
theorem kX11_251 : xMl RX11 251 mJ4_length_8abf5 := Or.inl (xIn4 145 rfl rfl)
set_option maxRecDepth 20000 in
theorem kJ4_343 : xMl RJ4 343 mJ5_length_8abf5 := Or.inl (xIn4 149 rfl rfl)
set_option maxRecDepth 20000 in
theorem kX11_378 : xMl RX11 378 mJ9_abs_0f7a4 := Or.inl (xIn4 152 rfl rfl)
set_option maxRecDepth 20000 in
theorem kX11_381 : xMl RX11 381 mJ4_append_bf812 := Or.inl (xIn4 155 rfl rfl)
set_option maxRecDepth 20000 in
theorem kJ4_53 : xMl RJ4 53 mJ5_append_c97b9 := Or.inl (xIn4 159 rfl rfl)
set_option maxRecDepth 20000 in
theorem kJ5_245 : xMl RJ5 245 mJ6_stringSize_0f7a4 := Or.inl (xIn4 162 rfl rfl)
set_option maxRecDepth 20000 in
theorem kJ5_248 : xMl RJ5 248 mJ6_getChars_ba4f3 := Or.inl (xIn4 165 rfl rfl)
set_option maxRecDepth 20000 in
theorem tJ6_83 : Cond.fieldLink RJ6 83 "java/lang/Integer" "DigitOnes" "[B" ∈ xTT := (xIn4 168 rfl rfl)
set_option maxRecDepth 20000 in
theorem tJ6_87 : Cond.fieldLink RJ6 87 "java/lang/Integer" "DigitTens" "[B" ∈ xTT := (xIn4 170 rfl rfl)
set_option maxRecDepth 20000 in
theorem kJ5_251 : xMl RJ5 251 mJ2_getChars_46870 := Or.inl (xIn4 172 rfl rfl)
set_option maxRecDepth 20000 in
theorem kJ2_96 : xMl RJ2 96 mJ2_checkBoundsBeginEnd_d044e := Or.inl (xIn4 175 rfl rfl)
set_option maxRecDepth 20000 in
theorem kJ2_241 : xMl RJ2 241 mJ0_checkBoundsBeginEnd_23922 := Or.inl (xIn4 178 rfl rfl)
set_option maxRecDepth 20000 in
theorem kJ0_1062 : xMl RJ0 1062 mJ3_checkFromToIndex_8c36e := Or.inl (xIn4 181 rfl rfl)
set_option maxRecDepth 20000 in
theorem kJ2_393 : xMl RJ2 393 mJ2_getChars_ba4f3 := Or.inl (xIn4 184 rfl rfl)
set_option maxRecDepth 20000 in
theorem tJ2_403 : Cond.fieldLink RJ2 403 "java/lang/Integer" "DigitOnes" "[B" ∈ xTT := (xIn4 187 rfl rfl)
set_option maxRecDepth 20000 in
theorem tJ2_407 : Cond.fieldLink RJ2 407 "java/lang/Integer" "DigitTens" "[B" ∈ xTT := (xIn4 188 rfl rfl)
set_option maxRecDepth 20000 in
theorem kX11_386 : xMl RX11 386 mJ4_append_15ec4 := Or.inl (xIn4 190 rfl rfl)
set_option maxRecDepth 20000 in
theorem kJ4_29 : xMl RJ4 29 mJ5_append_cf1ce := Or.inl (xIn4 194 rfl rfl)
set_option maxRecDepth 20000 in
theorem kJ5_204 : xMl RJ5 204 mJ5_appendNull_278bc := Or.inl (xIn4 197 rfl rfl)
set_option maxRecDepth 20000 in
theorem kJ5_226 : xMl RJ5 226 mJ2_putCharsAt_cd4e5 := Or.inl (xIn4 201 rfl rfl)
set_option maxRecDepth 20000 in
theorem kJ5_32 : xMl RJ5 32 mJ0_length_8abf5 := Or.inl (xIn4 204 rfl rfl)
set_option maxRecDepth 20000 in
theorem kJ0_335 : xMl RJ0 335 mJ0_coder_7d493 := Or.inl (xIn4 208 rfl rfl)
set_option maxRecDepth 20000 in
theorem tJ0_38 : Cond.fieldLink RJ0 38 "java/lang/String" "COMPACT_STRINGS" "Z" ∈ xTT := (xIn4 212 rfl rfl)
set_option maxRecDepth 20000 in
theorem kJ5_208 : xMl RJ5 208 mJ5_putStringAt_47b60 := Or.inl (xIn4 213 rfl rfl)
set_option maxRecDepth 20000 in
theorem kJ5_397 : xMl RJ5 397 mJ5_inflateIfNeededFor_a7421 := Or.inl (xIn4 217 rfl rfl)
set_option maxRecDepth 20000 in
theorem kJ5_40 : xMl RJ5 40 mJ0_coder_7d493 := Or.inl (xIn4 221 rfl rfl)
set_option maxRecDepth 20000 in
theorem kJ5_399 : xMl RJ5 399 mJ0_getBytes_840e7 := Or.inl (xIn4 222 rfl rfl)
set_option maxRecDepth 20000 in
theorem aJ0_212 : Cond.methodLink RJ0 212 ⟨"java/lang/System", "arraycopy", "(Ljava/lang/Object;ILjava/lang/Object;II)V"⟩ ∈ xTT := (xIn4 226 rfl rfl)
set_option maxRecDepth 20000 in
theorem kJ0_106 : xMl RJ0 106 mJ1_inflate_0e8fd := Or.inl (xIn4 227 rfl rfl)
set_option maxRecDepth 20000 in
theorem kX11_256 : xMl RX11 256 mJ4_charAt_5068e := Or.inl (xIn4 228 rfl rfl)
set_option maxRecDepth 20000 in
theorem kJ4_329 : xMl RJ4 329 mJ5_charAt_5068e := Or.inl (xIn4 232 rfl rfl)
set_option maxRecDepth 20000 in
theorem kJ5_138 : xMl RJ5 138 mJ9_min_7cf53 := Or.inl (xIn4 235 rfl rfl)
set_option maxRecDepth 20000 in
theorem kJ5_144 : xMl RJ5 144 mJ0_checkIndex_df160 := Or.inl (xIn4 236 rfl rfl)
set_option maxRecDepth 20000 in
theorem kJ5_148 : xMl RJ5 148 mJ2_getChar_3b067 := Or.inl (xIn4 237 rfl rfl)
set_option maxRecDepth 20000 in
theorem kL_120 : xMl "EightPartsLaw" 120 mX11_turned := Or.inl (xIn5 0 rfl rfl)
set_option maxRecDepth 20000 in
theorem kL_124 : xMl "EightPartsLaw" 124 mX11_odd := Or.inl (xIn5 4 rfl rfl)
set_option maxRecDepth 20000 in
theorem kX11_260 : xMl RX11 260 mX5_oddSet := Or.inl (xIn5 8 rfl rfl)
set_option maxRecDepth 20000 in
theorem kL_128 : xMl "EightPartsLaw" 128 mX11_whole := Or.inl (xIn5 11 rfl rfl)
set_option maxRecDepth 20000 in
theorem kX11_264 : xMl RX11 264 mX2_isWhole := Or.inl (xIn5 15 rfl rfl)
set_option maxRecDepth 20000 in
theorem kX2_48 : xMl RX2 48 mX5_oddSet := Or.inl (xIn5 19 rfl rfl)
set_option maxRecDepth 20000 in
theorem kX2_44 : xMl RX2 44 mX2_mayBeOdd := Or.inl (xIn5 20 rfl rfl)
set_option maxRecDepth 20000 in
theorem kX11_267 : xMl RX11 267 mX11_asked := Or.inl (xIn5 23 rfl rfl)
set_option maxRecDepth 20000 in
theorem kL_132 : xMl "EightPartsLaw" 132 mX11_orders := Or.inl (xIn5 26 rfl rfl)
set_option maxRecDepth 20000 in
theorem kX11_270 : xMl RX11 270 mX2_mayBeOdd := Or.inl (xIn5 30 rfl rfl)
set_option maxRecDepth 20000 in
theorem kL_136 : xMl "EightPartsLaw" 136 mX11_same := Or.inl (xIn5 31 rfl rfl)
set_option maxRecDepth 20000 in
theorem kX11_273 : xMl RX11 273 mX5_areEqual := Or.inl (xIn5 35 rfl rfl)
set_option maxRecDepth 20000 in
theorem kL_140 : xMl "EightPartsLaw" 140 mX11_many := Or.inl (xIn5 38 rfl rfl)
set_option maxRecDepth 20000 in
theorem kX11_276 : xMl RX11 276 mX4_manyOf := Or.inl (xIn5 42 rfl rfl)
set_option maxRecDepth 20000 in
theorem kL_144 : xMl "EightPartsLaw" 144 mX11_listedPart := Or.inl (xIn5 43 rfl rfl)
set_option maxRecDepth 20000 in
theorem kL_148 : xMl "EightPartsLaw" 148 mX11_place := Or.inl (xIn5 47 rfl rfl)
set_option maxRecDepth 20000 in
theorem kX11_277 : xMl RX11 277 mX4_find := Or.inl (xIn5 51 rfl rfl)
set_option maxRecDepth 20000 in
theorem kX4_48 : xMl RX4 48 mX5_normBy4 := Or.inl (xIn5 55 rfl rfl)
set_option maxRecDepth 20000 in
theorem cX4_54 : Cond.constantLong RX4 54 (12) ∈ xTT := (xIn5 56 rfl rfl)
set_option maxRecDepth 20000 in
theorem cX4_56 : Cond.constantLong RX4 56 (4) ∈ xTT := (xIn5 57 rfl rfl)
set_option maxRecDepth 20000 in
theorem kX4_58 : xMl RX4 58 mX4_search := Or.inl (xIn5 58 rfl rfl)
set_option maxRecDepth 20000 in
theorem kX4_62 : xMl RX4 62 mX4_pack := Or.inl (xIn5 62 rfl rfl)
set_option maxRecDepth 20000 in
theorem kL_152 : xMl "EightPartsLaw" 152 mX11_divisors := Or.inl (xIn5 65 rfl rfl)
set_option maxRecDepth 20000 in
theorem kX11_280 : xMl RX11 280 mX11_isDivisorAt := Or.inl (xIn5 69 rfl rfl)
set_option maxRecDepth 20000 in
theorem kX11_389 : xMl RX11 389 mX0_divides := Or.inl (xIn5 73 rfl rfl)
set_option maxRecDepth 20000 in
theorem cX0_97 : Cond.constantLong RX0 97 (2) ∈ xTT := (xIn5 77 rfl rfl)
set_option maxRecDepth 20000 in
theorem kX0_99 : xMl RX0 99 mX2_isWholeBy := Or.inl (xIn5 78 rfl rfl)
set_option maxRecDepth 20000 in
theorem kL_157 : xMl "EightPartsLaw" 157 mX11_divisor := Or.inl (xIn5 82 rfl rfl)
set_option maxRecDepth 20000 in
theorem kL_162 : xMl "EightPartsLaw" 162 mX11_inner := Or.inl (xIn5 86 rfl rfl)
set_option maxRecDepth 20000 in
theorem kX11_284 : xMl RX11 284 mX5_innerBy4 := Or.inl (xIn5 90 rfl rfl)
set_option maxRecDepth 20000 in
theorem kL_166 : xMl "EightPartsLaw" 166 mX11_angles := Or.inl (xIn5 91 rfl rfl)
set_option maxRecDepth 20000 in
theorem kL_170 : xMl "EightPartsLaw" 170 mX11_alike := Or.inl (xIn5 95 rfl rfl)
set_option maxRecDepth 20000 in
theorem kX11_288 : xMl RX11 288 mX11_areAlike := Or.inl (xIn5 99 rfl rfl)
set_option maxRecDepth 20000 in
theorem kX11_393 : xMl RX11 393 mX2_isWholeBy := Or.inl (xIn5 103 rfl rfl)
set_option maxRecDepth 20000 in
theorem kL_174 : xMl "EightPartsLaw" 174 mX11_alikeMany := Or.inl (xIn5 104 rfl rfl)
set_option maxRecDepth 20000 in
theorem kL_178 : xMl "EightPartsLaw" 178 mX11_commuting := Or.inl (xIn5 108 rfl rfl)
set_option maxRecDepth 20000 in
theorem kX11_291 : xMl RX11 291 mX11_doCommute := Or.inl (xIn5 112 rfl rfl)
set_option maxRecDepth 20000 in
theorem kL_182 : xMl "EightPartsLaw" 182 mX11_sides := Or.inl (xIn5 116 rfl rfl)
set_option maxRecDepth 20000 in
theorem kL_186 : xMl "EightPartsLaw" 186 mX11_cycle := Or.inl (xIn5 120 rfl rfl)
set_option maxRecDepth 20000 in
theorem kX11_294 : xMl RX11 294 mX5_isOne := Or.inl (xIn5 124 rfl rfl)
set_option maxRecDepth 20000 in
theorem kX5_21 : xMl RX5 21 mX5_normBy4 := Or.inl (xIn5 127 rfl rfl)
set_option maxRecDepth 20000 in
theorem cX5_27 : Cond.constantLong RX5 27 (4) ∈ xTT := (xIn5 128 rfl rfl)
set_option maxRecDepth 20000 in
theorem kL_190 : xMl "EightPartsLaw" 190 mX11_made := Or.inl (xIn5 129 rfl rfl)
set_option maxRecDepth 20000 in
theorem kX11_297 : xMl RX11 297 mX11_isSlotSet := Or.inl (xIn5 133 rfl rfl)
set_option maxRecDepth 20000 in
theorem kX11_300 : xMl RX11 300 mX9_gather := Or.inl (xIn5 136 rfl rfl)
set_option maxRecDepth 20000 in
theorem kX9_61 : xMl RX9 61 mX9_forgetMembers := Or.inl (xIn5 140 rfl rfl)
set_option maxRecDepth 20000 in
theorem kX9_64 : xMl RX9 64 mX5_normBy4 := Or.inl (xIn5 144 rfl rfl)
set_option maxRecDepth 20000 in
theorem cX9_70 : Cond.constantLong RX9 70 (4) ∈ xTT := (xIn5 145 rfl rfl)
set_option maxRecDepth 20000 in
theorem kX9_72 : xMl RX9 72 mX4_find := Or.inl (xIn5 146 rfl rfl)
set_option maxRecDepth 20000 in
theorem kX9_76 : xMl RX9 76 mX9_admit := Or.inl (xIn5 147 rfl rfl)
set_option maxRecDepth 20000 in
theorem kX9_80 : xMl RX9 80 mX9_close := Or.inl (xIn5 151 rfl rfl)
set_option maxRecDepth 20000 in
theorem kX9_43 : xMl RX9 43 mX4_manyOf := Or.inl (xIn5 155 rfl rfl)
set_option maxRecDepth 20000 in
theorem kX9_58 : xMl RX9 58 mX9_multiplyAt := Or.inl (xIn5 156 rfl rfl)
set_option maxRecDepth 20000 in
theorem kX9_49 : xMl RX9 49 mJ9_min_7cf53 := Or.inl (xIn5 160 rfl rfl)
set_option maxRecDepth 20000 in
theorem kX9_55 : xMl RX9 55 mX9_multiplyNegative := Or.inl (xIn5 161 rfl rfl)
set_option maxRecDepth 20000 in
theorem kX9_93 : xMl RX9 93 mX9_makeRoom := Or.inl (xIn5 165 rfl rfl)
set_option maxRecDepth 20000 in
theorem kX9_119 : xMl RX9 119 mJ7_fill_53178 := Or.inl (xIn5 169 rfl rfl)
set_option maxRecDepth 20000 in
theorem kX9_96 : xMl RX9 96 mX4_takeUnit := Or.inl (xIn5 170 rfl rfl)
set_option maxRecDepth 20000 in
theorem kX9_100 : xMl RX9 100 mX7_multiply := Or.inl (xIn5 174 rfl rfl)
set_option maxRecDepth 20000 in
theorem kX9_106 : xMl RX9 106 mX4_search := Or.inl (xIn5 175 rfl rfl)
set_option maxRecDepth 20000 in
theorem kX11_307 : xMl RX11 307 mX9_areAssociative := Or.inl (xIn5 176 rfl rfl)
set_option maxRecDepth 20000 in
theorem kX9_83 : xMl RX9 83 mX9_isReal := Or.inl (xIn5 180 rfl rfl)
set_option maxRecDepth 20000 in
theorem kX9_87 : xMl RX9 87 mX9_associatesWithAll := Or.inl (xIn5 184 rfl rfl)
set_option maxRecDepth 20000 in
theorem kX11_310 : xMl RX11 310 mX9_manyCentral := Or.inl (xIn5 188 rfl rfl)
set_option maxRecDepth 20000 in
theorem kX9_90 : xMl RX9 90 mX9_commutesWithAll := Or.inl (xIn5 192 rfl rfl)
set_option maxRecDepth 20000 in
theorem kX11_313 : xMl RX11 313 mX9_manyOwnInverse := Or.inl (xIn5 196 rfl rfl)
set_option maxRecDepth 20000 in
theorem kL_194 : xMl "EightPartsLaw" 194 mX11_madeAt := Or.inl (xIn5 200 rfl rfl)
set_option maxRecDepth 20000 in
theorem kX11_316 : xMl RX11 316 mX9_gatheredAt := Or.inl (xIn5 204 rfl rfl)
set_option maxRecDepth 20000 in
theorem kL_198 : xMl "EightPartsLaw" 198 mX11_table := Or.inl (xIn5 208 rfl rfl)
set_option maxRecDepth 20000 in
theorem kX11_319 : xMl RX11 319 mX9_multiplyAt := Or.inl (xIn5 212 rfl rfl)
set_option maxRecDepth 20000 in
theorem kL_202 : xMl "EightPartsLaw" 202 mX11_turnCycle := Or.inl (xIn5 213 rfl rfl)
set_option maxRecDepth 20000 in
theorem kL_206 : xMl "EightPartsLaw" 206 mX11_shared := Or.inl (xIn5 217 rfl rfl)
set_option maxRecDepth 20000 in
theorem kX11_322 : xMl RX11 322 mX2_manyUnitsOfBoth := Or.inl (xIn5 221 rfl rfl)
set_option maxRecDepth 20000 in
theorem kX2_39 : xMl RX2 39 mJ6_bitCount_0f7a4 := Or.inl (xIn5 224 rfl rfl)
set_option maxRecDepth 20000 in
theorem cJ6_265 : Cond.constant RJ6 265 (1431655765) ∈ xTT := (xIn5 227 rfl rfl)
set_option maxRecDepth 20000 in
theorem cJ6_266 : Cond.constant RJ6 266 (858993459) ∈ xTT := (xIn5 228 rfl rfl)
set_option maxRecDepth 20000 in
theorem cJ6_267 : Cond.constant RJ6 267 (252645135) ∈ xTT := (xIn5 229 rfl rfl)
set_option maxRecDepth 20000 in
theorem kL_210 : xMl "EightPartsLaw" 210 mX11_cycles := Or.inl (xIn5 230 rfl rfl)
set_option maxRecDepth 20000 in
theorem kX11_325 : xMl RX11 325 mX9_cycleOf := Or.inl (xIn5 234 rfl rfl)
set_option maxRecDepth 20000 in
theorem kL_214 : xMl "EightPartsLaw" 214 mX11_nucleus := Or.inl (xIn5 238 rfl rfl)
set_option maxRecDepth 20000 in
theorem kX11_328 : xMl RX11 328 mX11_doAssociate := Or.inl (xIn6 2 rfl rfl)
set_option maxRecDepth 20000 in
theorem kL_218 : xMl "EightPartsLaw" 218 mX11_laws := Or.inl (xIn6 6 rfl rfl)
set_option maxRecDepth 20000 in
theorem kX11_331 : xMl RX11 331 mX3_whichHold := Or.inl (xIn6 10 rfl rfl)
set_option maxRecDepth 20000 in
theorem kX3_40 : xMl RX3 40 mX3_multiplyPairs := Or.inl (xIn6 14 rfl rfl)
set_option maxRecDepth 20000 in
theorem kX3_57 : xMl RX3 57 mX7_multiply := Or.inl (xIn6 18 rfl rfl)
set_option maxRecDepth 20000 in
theorem kX3_44 : xMl RX3 44 mX3_layBothSides := Or.inl (xIn6 19 rfl rfl)
set_option maxRecDepth 20000 in
theorem kX3_62 : xMl RX3 62 mX5_lay := Or.inl (xIn6 23 rfl rfl)
set_option maxRecDepth 20000 in
theorem kX3_48 : xMl RX3 48 mX3_doNormsMultiply := Or.inl (xIn6 24 rfl rfl)
set_option maxRecDepth 20000 in
theorem cX3_66 : Cond.constantLong RX3 66 (4) ∈ xTT := (xIn6 28 rfl rfl)
set_option maxRecDepth 20000 in
theorem kX3_68 : xMl RX3 68 mX5_normBy4 := Or.inl (xIn6 29 rfl rfl)
set_option maxRecDepth 20000 in
theorem kX3_52 : xMl RX3 52 mX5_areEqual := Or.inl (xIn6 30 rfl rfl)
set_option maxRecDepth 20000 in
theorem kL_222 : xMl "EightPartsLaw" 222 mX11_bracketed := Or.inl (xIn6 31 rfl rfl)
set_option maxRecDepth 20000 in
theorem kX11_335 : xMl RX11 335 mX10_manyUnlike := Or.inl (xIn6 35 rfl rfl)
set_option maxRecDepth 20000 in
theorem kX10_45 : xMl RX10 45 mX10_isNew := Or.inl (xIn6 39 rfl rfl)
set_option maxRecDepth 20000 in
theorem kX10_49 : xMl RX10 49 mX5_areEqual := Or.inl (xIn6 43 rfl rfl)
set_option maxRecDepth 20000 in
theorem kL_226 : xMl "EightPartsLaw" 226 mX11_rests := Or.inl (xIn6 44 rfl rfl)
set_option maxRecDepth 20000 in
theorem kX11_341 : xMl RX11 341 mX0_lastNormBy4 := Or.inl (xIn6 48 rfl rfl)
set_option maxRecDepth 20000 in
theorem kL_230 : xMl "EightPartsLaw" 230 mX11_keep := Or.inl (xIn6 52 rfl rfl)
set_option maxRecDepth 20000 in
theorem kX11_349 : xMl RX11 349 mX1_push := Or.inl (xIn6 56 rfl rfl)
set_option maxRecDepth 20000 in
theorem aX1_22 : Cond.methodLink RX1 22 ⟨"java/lang/System", "arraycopy", "(Ljava/lang/Object;ILjava/lang/Object;II)V"⟩ ∈ xTT := (xIn6 60 rfl rfl)
set_option maxRecDepth 20000 in
theorem kL_235 : xMl "EightPartsLaw" 235 mX11_restore := Or.inl (xIn6 61 rfl rfl)
set_option maxRecDepth 20000 in
theorem kX11_355 : xMl RX11 355 mX1_pop := Or.inl (xIn6 65 rfl rfl)
set_option maxRecDepth 20000 in
theorem kL_239 : xMl "EightPartsLaw" 239 mX11_count := Or.inl (xIn6 69 rfl rfl)
set_option maxRecDepth 20000 in
theorem kX11_359 : xMl RX11 359 mX11_wholeSlots := Or.inl (xIn6 73 rfl rfl)
set_option maxRecDepth 20000 in
theorem kX11_362 : xMl RX11 362 mX11_emptySlots := Or.inl (xIn6 77 rfl rfl)
set_option maxRecDepth 20000 in
theorem lL_10 : Cond.classLink "EightPartsLaw" 10 "EightPartsModel" ∈ xTT := (xIn6 81 rfl rfl)
set_option maxRecDepth 20000 in
theorem inX12 : Cond.instantiable RX12 38 ∈ xTT := (xIn6 82 rfl rfl)
set_option maxRecDepth 20000 in
theorem kL_12 : xMl "EightPartsLaw" 12 mX12_init := Or.inl (xIn6 83 rfl rfl)
set_option maxRecDepth 20000 in
theorem oX12_7 : Cond.methodLink RX12 7 objectInit ∈ xTT := (xIn6 86 rfl rfl)
set_option maxRecDepth 20000 in
theorem cX12_27 : Cond.constant RX12 27 (72968) ∈ xTT := (xIn6 87 rfl rfl)
set_option maxRecDepth 20000 in
theorem cX12_77 : Cond.constant RX12 77 (57600) ∈ xTT := (xIn6 88 rfl rfl)
set_option maxRecDepth 20000 in
theorem fX12_13 : xFl RX12 13 12 1 := ⟨_, rfl, by decide, Or.inl (xIn6 89 rfl rfl)⟩
set_option maxRecDepth 20000 in
theorem fX12_17 : xFl RX12 17 12 2 := ⟨_, rfl, by decide, Or.inl (xIn6 90 rfl rfl)⟩
set_option maxRecDepth 20000 in
theorem fX12_20 : xFl RX12 20 12 3 := ⟨_, rfl, by decide, Or.inl (xIn6 91 rfl rfl)⟩
set_option maxRecDepth 20000 in
theorem fX12_24 : xFl RX12 24 12 4 := ⟨_, rfl, by decide, Or.inl (xIn6 92 rfl rfl)⟩
set_option maxRecDepth 20000 in
theorem fX12_28 : xFl RX12 28 12 5 := ⟨_, rfl, by decide, Or.inl (xIn6 93 rfl rfl)⟩
set_option maxRecDepth 20000 in
theorem fX12_31 : xFl RX12 31 12 6 := ⟨_, rfl, by decide, Or.inl (xIn6 94 rfl rfl)⟩
set_option maxRecDepth 20000 in
theorem fX12_34 : xFl RX12 34 12 7 := ⟨_, rfl, by decide, Or.inl (xIn6 95 rfl rfl)⟩
set_option maxRecDepth 20000 in
theorem fX12_37 : xFl RX12 37 12 8 := ⟨_, rfl, by decide, Or.inl (xIn6 96 rfl rfl)⟩
set_option maxRecDepth 20000 in
theorem fX12_40 : xFl RX12 40 12 9 := ⟨_, rfl, by decide, Or.inl (xIn6 97 rfl rfl)⟩
set_option maxRecDepth 20000 in
theorem fX12_43 : xFl RX12 43 12 10 := ⟨_, rfl, by decide, Or.inl (xIn6 98 rfl rfl)⟩
set_option maxRecDepth 20000 in
theorem fX12_46 : xFl RX12 46 12 11 := ⟨_, rfl, by decide, Or.inl (xIn6 99 rfl rfl)⟩
set_option maxRecDepth 20000 in
theorem fX12_248 : xFl RX12 248 12 12 := ⟨_, rfl, by decide, Or.inl (xIn6 100 rfl rfl)⟩
set_option maxRecDepth 20000 in
theorem fX12_251 : xFl RX12 251 12 13 := ⟨_, rfl, by decide, Or.inl (xIn6 101 rfl rfl)⟩
set_option maxRecDepth 20000 in
theorem fX12_255 : xFl RX12 255 12 14 := ⟨_, rfl, by decide, Or.inl (xIn6 102 rfl rfl)⟩
set_option maxRecDepth 20000 in
theorem fX12_261 : xFl RX12 261 12 15 := ⟨_, rfl, by decide, Or.inl (xIn6 103 rfl rfl)⟩
set_option maxRecDepth 20000 in
theorem fX12_49 : xFl RX12 49 12 16 := ⟨_, rfl, by decide, Or.inl (xIn6 104 rfl rfl)⟩
set_option maxRecDepth 20000 in
theorem fX12_52 : xFl RX12 52 12 17 := ⟨_, rfl, by decide, Or.inl (xIn6 105 rfl rfl)⟩
set_option maxRecDepth 20000 in
theorem fX12_55 : xFl RX12 55 12 18 := ⟨_, rfl, by decide, Or.inl (xIn6 106 rfl rfl)⟩
set_option maxRecDepth 20000 in
theorem fX12_59 : xFl RX12 59 12 19 := ⟨_, rfl, by decide, Or.inl (xIn6 107 rfl rfl)⟩
set_option maxRecDepth 20000 in
theorem fX12_283 : xFl RX12 283 12 20 := ⟨_, rfl, by decide, Or.inl (xIn6 108 rfl rfl)⟩
set_option maxRecDepth 20000 in
theorem fX12_62 : xFl RX12 62 12 21 := ⟨_, rfl, by decide, Or.inl (xIn6 109 rfl rfl)⟩
set_option maxRecDepth 20000 in
theorem fX12_65 : xFl RX12 65 12 22 := ⟨_, rfl, by decide, Or.inl (xIn6 110 rfl rfl)⟩
set_option maxRecDepth 20000 in
theorem fX12_68 : xFl RX12 68 12 23 := ⟨_, rfl, by decide, Or.inl (xIn6 111 rfl rfl)⟩
set_option maxRecDepth 20000 in
theorem fX12_71 : xFl RX12 71 12 24 := ⟨_, rfl, by decide, Or.inl (xIn6 112 rfl rfl)⟩
set_option maxRecDepth 20000 in
theorem fX12_286 : xFl RX12 286 12 25 := ⟨_, rfl, by decide, Or.inl (xIn6 113 rfl rfl)⟩
set_option maxRecDepth 20000 in
theorem fX12_289 : xFl RX12 289 12 26 := ⟨_, rfl, by decide, Or.inl (xIn6 114 rfl rfl)⟩
set_option maxRecDepth 20000 in
theorem fX12_292 : xFl RX12 292 12 27 := ⟨_, rfl, by decide, Or.inl (xIn6 115 rfl rfl)⟩
set_option maxRecDepth 20000 in
theorem fX12_298 : xFl RX12 298 12 28 := ⟨_, rfl, by decide, Or.inl (xIn6 116 rfl rfl)⟩
set_option maxRecDepth 20000 in
theorem fX12_74 : xFl RX12 74 12 29 := ⟨_, rfl, by decide, Or.inl (xIn6 117 rfl rfl)⟩
set_option maxRecDepth 20000 in
theorem fX12_325 : xFl RX12 325 12 30 := ⟨_, rfl, by decide, Or.inl (xIn6 118 rfl rfl)⟩
set_option maxRecDepth 20000 in
theorem fX12_78 : xFl RX12 78 12 31 := ⟨_, rfl, by decide, Or.inl (xIn6 119 rfl rfl)⟩
set_option maxRecDepth 20000 in
theorem fX12_81 : xFl RX12 81 12 32 := ⟨_, rfl, by decide, Or.inl (xIn6 120 rfl rfl)⟩
set_option maxRecDepth 20000 in
theorem fX12_84 : xFl RX12 84 12 33 := ⟨_, rfl, by decide, Or.inl (xIn6 121 rfl rfl)⟩
set_option maxRecDepth 20000 in
theorem fX12_87 : xFl RX12 87 12 34 := ⟨_, rfl, by decide, Or.inl (xIn6 122 rfl rfl)⟩
set_option maxRecDepth 20000 in
theorem fX12_367 : xFl RX12 367 12 35 := ⟨_, rfl, by decide, Or.inl (xIn6 123 rfl rfl)⟩
set_option maxRecDepth 20000 in
theorem fX12_90 : xFl RX12 90 12 36 := ⟨_, rfl, by decide, Or.inl (xIn6 124 rfl rfl)⟩
set_option maxRecDepth 20000 in
theorem fX12_395 : xFl RX12 395 12 37 := ⟨_, rfl, by decide, Or.inl (xIn6 125 rfl rfl)⟩
set_option maxRecDepth 20000 in
theorem kL_17 : xMl "EightPartsLaw" 17 mX12_put := Or.inl (xIn6 203 rfl rfl)
set_option maxRecDepth 20000 in
theorem kX12_165 : xMl RX12 165 mX12_isSlot := Or.inl (xIn6 207 rfl rfl)
set_option maxRecDepth 20000 in
theorem cX12_93 : Cond.constantLong RX12 93 (7) ∈ xTT := (xIn6 210 rfl rfl)
set_option maxRecDepth 20000 in
theorem kX12_95 : xMl RX12 95 mX12_in := Or.inl (xIn6 211 rfl rfl)
set_option maxRecDepth 20000 in
theorem kX12_168 : xMl RX12 168 mX12_isPart := Or.inl (xIn6 214 rfl rfl)
set_option maxRecDepth 20000 in
theorem cX12_99 : Cond.constantLong RX12 99 (-20000) ∈ xTT := (xIn6 217 rfl rfl)
set_option maxRecDepth 20000 in
theorem cX12_101 : Cond.constantLong RX12 101 (20000) ∈ xTT := (xIn6 218 rfl rfl)
set_option maxRecDepth 20000 in
theorem kL_22 : xMl "EightPartsLaw" 22 mX12_one := Or.inl (xIn6 219 rfl rfl)
set_option maxRecDepth 20000 in
theorem kX12_171 : xMl RX12 171 mX12_nought := Or.inl (xIn6 223 rfl rfl)
set_option maxRecDepth 20000 in
theorem kL_26 : xMl "EightPartsLaw" 26 mX12_listed := Or.inl (xIn6 227 rfl rfl)
set_option maxRecDepth 20000 in
theorem kX12_175 : xMl RX12 175 mX12_isNorm := Or.inl (xIn6 231 rfl rfl)
set_option maxRecDepth 20000 in
theorem cX12_150 : Cond.constantLong RX12 150 (3) ∈ xTT := (xIn6 234 rfl rfl)
set_option maxRecDepth 20000 in
theorem kX12_158 : xMl RX12 158 mX12_listSize := Or.inl (xIn6 235 rfl rfl)
set_option maxRecDepth 20000 in
theorem kX12_152 : xMl RX12 152 mX12_laysList := Or.inl (xIn6 239 rfl rfl)
set_option maxRecDepth 20000 in
theorem kX12_143 : xMl RX12 143 mX12_listFrom := Or.inl (xIn7 3 rfl rfl)
set_option maxRecDepth 20000 in
theorem kX12_146 : xMl RX12 146 mX12_oddIn := Or.inl (xIn7 6 rfl rfl)
set_option maxRecDepth 20000 in
theorem kX12_131 : xMl RX12 131 mX12_isOf := Or.inl (xIn7 9 rfl rfl)
set_option maxRecDepth 20000 in
theorem kX12_121 : xMl RX12 121 mX12_has := Or.inl (xIn7 12 rfl rfl)
set_option maxRecDepth 20000 in
theorem kX12_125 : xMl RX12 125 mX12_isCode := Or.inl (xIn7 15 rfl rfl)
set_option maxRecDepth 20000 in
theorem kX12_117 : xMl RX12 117 mX12_bitsOf := Or.inl (xIn7 18 rfl rfl)
set_option maxRecDepth 20000 in
theorem kX12_178 : xMl RX12 178 mX12_brings := Or.inl (xIn7 21 rfl rfl)
set_option maxRecDepth 20000 in
theorem kL_30 : xMl "EightPartsLaw" 30 mX12_copy := Or.inl (xIn7 25 rfl rfl)
set_option maxRecDepth 20000 in
theorem kX12_182 : xMl RX12 182 mX12_becomes := Or.inl (xIn7 29 rfl rfl)
set_option maxRecDepth 20000 in
theorem kL_35 : xMl "EightPartsLaw" 35 mX12_order := Or.inl (xIn7 33 rfl rfl)
set_option maxRecDepth 20000 in
theorem kL_40 : xMl "EightPartsLaw" 40 mX12_sum := Or.inl (xIn7 37 rfl rfl)
set_option maxRecDepth 20000 in
theorem kX12_189 : xMl RX12 189 mX12_areSlots := Or.inl (xIn7 41 rfl rfl)
set_option maxRecDepth 20000 in
theorem kX12_193 : xMl RX12 193 mX12_adds := Or.inl (xIn7 44 rfl rfl)
set_option maxRecDepth 20000 in
theorem kX12_109 : xMl RX12 109 mX12_comes := Or.inl (xIn7 48 rfl rfl)
set_option maxRecDepth 20000 in
theorem kX12_185 : xMl RX12 185 mX12_can := Or.inl (xIn7 52 rfl rfl)
set_option maxRecDepth 20000 in
theorem kL_44 : xMl "EightPartsLaw" 44 mX12_less := Or.inl (xIn7 55 rfl rfl)
set_option maxRecDepth 20000 in
theorem kL_48 : xMl "EightPartsLaw" 48 mX12_product := Or.inl (xIn7 59 rfl rfl)
set_option maxRecDepth 20000 in
theorem kX12_197 : xMl RX12 197 mX12_multiplies := Or.inl (xIn7 63 rfl rfl)
set_option maxRecDepth 20000 in
theorem kX12_105 : xMl RX12 105 mX12_isProduct := Or.inl (xIn7 67 rfl rfl)
set_option maxRecDepth 20000 in
theorem cX12_103 : Cond.constantLong RX12 103 (2) ∈ xTT := (xIn7 71 rfl rfl)
set_option maxRecDepth 20000 in
theorem kL_53 : xMl "EightPartsLaw" 53 mX12_mirror := Or.inl (xIn7 72 rfl rfl)
set_option maxRecDepth 20000 in
theorem kX12_200 : xMl RX12 200 mX12_mirrors := Or.inl (xIn7 76 rfl rfl)
set_option maxRecDepth 20000 in
theorem kL_57 : xMl "EightPartsLaw" 57 mX12_times := Or.inl (xIn7 80 rfl rfl)
set_option maxRecDepth 20000 in
theorem cX12_203 : Cond.constantLong RX12 203 (-1000) ∈ xTT := (xIn7 84 rfl rfl)
set_option maxRecDepth 20000 in
theorem cX12_205 : Cond.constantLong RX12 205 (1000) ∈ xTT := (xIn7 85 rfl rfl)
set_option maxRecDepth 20000 in
theorem kL_62 : xMl "EightPartsLaw" 62 mX12_turn := Or.inl (xIn7 86 rfl rfl)
set_option maxRecDepth 20000 in
theorem kX12_207 : xMl RX12 207 mX12_isTurn := Or.inl (xIn7 90 rfl rfl)
set_option maxRecDepth 20000 in
theorem kX12_210 : xMl RX12 210 mX12_turns := Or.inl (xIn7 93 rfl rfl)
set_option maxRecDepth 20000 in
theorem kX12_213 : xMl RX12 213 mX12_ends := Or.inl (xIn7 97 rfl rfl)
set_option maxRecDepth 20000 in
theorem kL_67 : xMl "EightPartsLaw" 67 mX12_chain := Or.inl (xIn7 101 rfl rfl)
set_option maxRecDepth 20000 in
theorem kX12_219 : xMl RX12 219 mX12_isRow := Or.inl (xIn7 105 rfl rfl)
set_option maxRecDepth 20000 in
theorem cX12_217 : Cond.constantLong RX12 217 (6) ∈ xTT := (xIn7 108 rfl rfl)
set_option maxRecDepth 20000 in
theorem kX12_222 : xMl RX12 222 mX12_slotIn := Or.inl (xIn7 109 rfl rfl)
set_option maxRecDepth 20000 in
theorem kL_75 : xMl "EightPartsLaw" 75 mX12_power := Or.inl (xIn7 112 rfl rfl)
set_option maxRecDepth 20000 in
theorem cX12_226 : Cond.constantLong RX12 226 (60) ∈ xTT := (xIn7 116 rfl rfl)
set_option maxRecDepth 20000 in
theorem kX12_228 : xMl RX12 228 mX12_powers := Or.inl (xIn7 117 rfl rfl)
set_option maxRecDepth 20000 in
theorem kL_79 : xMl "EightPartsLaw" 79 mX12_associator := Or.inl (xIn7 121 rfl rfl)
set_option maxRecDepth 20000 in
theorem kL_83 : xMl "EightPartsLaw" 83 mX12_commutator := Or.inl (xIn7 125 rfl rfl)
set_option maxRecDepth 20000 in
theorem kL_87 : xMl "EightPartsLaw" 87 mX12_nearest := Or.inl (xIn7 129 rfl rfl)
set_option maxRecDepth 20000 in
theorem kX12_241 : xMl RX12 241 mX12_nears := Or.inl (xIn7 133 rfl rfl)
set_option maxRecDepth 20000 in
theorem cX12_231 : Cond.constantLong RX12 231 (-1) ∈ xTT := (xIn7 137 rfl rfl)
set_option maxRecDepth 20000 in
theorem kX12_233 : xMl RX12 233 mX12_near := Or.inl (xIn7 138 rfl rfl)
set_option maxRecDepth 20000 in
theorem kX12_237 : xMl RX12 237 mX12_isAhead := Or.inl (xIn7 141 rfl rfl)
set_option maxRecDepth 20000 in
theorem kL_91 : xMl "EightPartsLaw" 91 mX12_divide := Or.inl (xIn7 145 rfl rfl)
set_option maxRecDepth 20000 in
theorem kX12_245 : xMl RX12 245 mX12_divides := Or.inl (xIn7 149 rfl rfl)
set_option maxRecDepth 20000 in
theorem kX12_137 : xMl RX12 137 mX12_normOf := Or.inl (xIn7 153 rfl rfl)
set_option maxRecDepth 20000 in
theorem cX12_141 : Cond.constantLong RX12 141 (4) ∈ xTT := (xIn7 157 rfl rfl)
set_option maxRecDepth 20000 in
theorem kL_71 : xMl "EightPartsLaw" 71 mX12_last := Or.inl (xIn7 158 rfl rfl)
set_option maxRecDepth 20000 in
theorem kX12_267 : xMl RX12 267 mX12_goesOn := Or.inl (xIn7 162 rfl rfl)
set_option maxRecDepth 20000 in
theorem kX12_258 : xMl RX12 258 mX12_isNought := Or.inl (xIn7 166 rfl rfl)
set_option maxRecDepth 20000 in
theorem cX12_265 : Cond.constantLong RX12 265 (100) ∈ xTT := (xIn7 170 rfl rfl)
set_option maxRecDepth 20000 in
theorem kL_229 : xMl "EightPartsLaw" 229 mX12_rests := Or.inl (xIn7 171 rfl rfl)
set_option maxRecDepth 20000 in
theorem kX12_270 : xMl RX12 270 mX12_held := Or.inl (xIn7 175 rfl rfl)
set_option maxRecDepth 20000 in
theorem cX12_113 : Cond.constantLong RX12 113 (2000000000) ∈ xTT := (xIn7 178 rfl rfl)
set_option maxRecDepth 20000 in
theorem cX12_115 : Cond.constantLong RX12 115 (-2000000000) ∈ xTT := (xIn7 179 rfl rfl)
set_option maxRecDepth 20000 in
theorem kL_95 : xMl "EightPartsLaw" 95 mX12_bracket := Or.inl (xIn7 180 rfl rfl)
set_option maxRecDepth 20000 in
theorem kX12_277 : xMl RX12 277 mX12_laysWays := Or.inl (xIn7 184 rfl rfl)
set_option maxRecDepth 20000 in
theorem kX12_274 : xMl RX12 274 mX12_joins := Or.inl (xIn7 188 rfl rfl)
set_option maxRecDepth 20000 in
theorem kL_225 : xMl "EightPartsLaw" 225 mX12_bracketed := Or.inl (xIn7 192 rfl rfl)
set_option maxRecDepth 20000 in
theorem kX12_280 : xMl RX12 280 mX12_areSame := Or.inl (xIn7 196 rfl rfl)
set_option maxRecDepth 20000 in
theorem kL_99 : xMl "EightPartsLaw" 99 mX12_feed := Or.inl (xIn7 200 rfl rfl)
set_option maxRecDepth 20000 in
theorem kL_103 : xMl "EightPartsLaw" 103 mX12_back := Or.inl (xIn7 204 rfl rfl)
set_option maxRecDepth 20000 in
theorem kL_107 : xMl "EightPartsLaw" 107 mX12_work := Or.inl (xIn7 208 rfl rfl)
set_option maxRecDepth 20000 in
theorem kX12_321 : xMl RX12 321 mX12_works := Or.inl (xIn7 212 rfl rfl)
set_option maxRecDepth 20000 in
theorem kX12_315 : xMl RX12 315 mX12_begins := Or.inl (xIn7 216 rfl rfl)
set_option maxRecDepth 20000 in
theorem kX12_295 : xMl RX12 295 mX12_opens := Or.inl (xIn7 220 rfl rfl)
set_option maxRecDepth 20000 in
theorem cX12_301 : Cond.constantLong RX12 301 (97) ∈ xTT := (xIn7 224 rfl rfl)
set_option maxRecDepth 20000 in
theorem cX12_303 : Cond.constantLong RX12 303 (104) ∈ xTT := (xIn7 225 rfl rfl)
set_option maxRecDepth 20000 in
theorem kX12_305 : xMl RX12 305 mX12_factors := Or.inl (xIn7 226 rfl rfl)
set_option maxRecDepth 20000 in
theorem cX12_308 : Cond.constantLong RX12 308 (48) ∈ xTT := (xIn7 230 rfl rfl)
set_option maxRecDepth 20000 in
theorem cX12_310 : Cond.constantLong RX12 310 (57) ∈ xTT := (xIn7 231 rfl rfl)
set_option maxRecDepth 20000 in
theorem kX12_318 : xMl RX12 318 mX12_follows := Or.inl (xIn7 232 rfl rfl)
set_option maxRecDepth 20000 in
theorem kX12_312 : xMl RX12 312 mX12_sums := Or.inl (xIn7 236 rfl rfl)
set_option maxRecDepth 20000 in
theorem kL_111 : xMl "EightPartsLaw" 111 mX12_part := Or.inl (xIn8 0 rfl rfl)
set_option maxRecDepth 20000 in
theorem kL_115 : xMl "EightPartsLaw" 115 mX12_norm := Or.inl (xIn8 4 rfl rfl)
set_option maxRecDepth 20000 in
theorem kL_119 : xMl "EightPartsLaw" 119 mX12_spell := Or.inl (xIn8 8 rfl rfl)
set_option maxRecDepth 20000 in
theorem kX12_334 : xMl RX12 334 mX12_writesAll := Or.inl (xIn8 12 rfl rfl)
set_option maxRecDepth 20000 in
theorem kX12_328 : xMl RX12 328 mX12_writes := Or.inl (xIn8 16 rfl rfl)
set_option maxRecDepth 20000 in
theorem kX12_331 : xMl RX12 331 mX12_writesNumber := Or.inl (xIn8 20 rfl rfl)
set_option maxRecDepth 20000 in
theorem kL_123 : xMl "EightPartsLaw" 123 mX12_turned := Or.inl (xIn8 24 rfl rfl)
set_option maxRecDepth 20000 in
theorem kL_127 : xMl "EightPartsLaw" 127 mX12_odd := Or.inl (xIn8 28 rfl rfl)
set_option maxRecDepth 20000 in
theorem kX12_128 : xMl RX12 128 mX12_oddOf := Or.inl (xIn8 32 rfl rfl)
set_option maxRecDepth 20000 in
theorem kL_131 : xMl "EightPartsLaw" 131 mX12_whole := Or.inl (xIn8 36 rfl rfl)
set_option maxRecDepth 20000 in
theorem kX12_134 : xMl RX12 134 mX12_isWhole := Or.inl (xIn8 40 rfl rfl)
set_option maxRecDepth 20000 in
theorem kL_135 : xMl "EightPartsLaw" 135 mX12_orders := Or.inl (xIn8 44 rfl rfl)
set_option maxRecDepth 20000 in
theorem kL_139 : xMl "EightPartsLaw" 139 mX12_same := Or.inl (xIn8 48 rfl rfl)
set_option maxRecDepth 20000 in
theorem kL_143 : xMl "EightPartsLaw" 143 mX12_many := Or.inl (xIn8 52 rfl rfl)
set_option maxRecDepth 20000 in
theorem kL_147 : xMl "EightPartsLaw" 147 mX12_listedPart := Or.inl (xIn8 56 rfl rfl)
set_option maxRecDepth 20000 in
theorem kL_151 : xMl "EightPartsLaw" 151 mX12_place := Or.inl (xIn8 60 rfl rfl)
set_option maxRecDepth 20000 in
theorem kX12_337 : xMl RX12 337 mX12_numberOf := Or.inl (xIn8 64 rfl rfl)
set_option maxRecDepth 20000 in
theorem cX12_156 : Cond.constantLong RX12 156 (12) ∈ xTT := (xIn8 68 rfl rfl)
set_option maxRecDepth 20000 in
theorem kX12_161 : xMl RX12 161 mX12_against := Or.inl (xIn8 69 rfl rfl)
set_option maxRecDepth 20000 in
theorem kL_156 : xMl "EightPartsLaw" 156 mX12_divisors := Or.inl (xIn8 73 rfl rfl)
set_option maxRecDepth 20000 in
theorem kX12_348 : xMl RX12 348 mX12_divisorsOf := Or.inl (xIn8 77 rfl rfl)
set_option maxRecDepth 20000 in
theorem kX12_344 : xMl RX12 344 mX12_isDivisor := Or.inl (xIn8 81 rfl rfl)
set_option maxRecDepth 20000 in
theorem kX12_340 : xMl RX12 340 mX12_isWholeBy := Or.inl (xIn8 85 rfl rfl)
set_option maxRecDepth 20000 in
theorem kL_161 : xMl "EightPartsLaw" 161 mX12_divisor := Or.inl (xIn8 89 rfl rfl)
set_option maxRecDepth 20000 in
theorem kL_165 : xMl "EightPartsLaw" 165 mX12_inner := Or.inl (xIn8 93 rfl rfl)
set_option maxRecDepth 20000 in
theorem kX12_352 : xMl RX12 352 mX12_innerOf := Or.inl (xIn8 97 rfl rfl)
set_option maxRecDepth 20000 in
theorem kL_169 : xMl "EightPartsLaw" 169 mX12_angles := Or.inl (xIn8 101 rfl rfl)
set_option maxRecDepth 20000 in
theorem kL_173 : xMl "EightPartsLaw" 173 mX12_alike := Or.inl (xIn8 105 rfl rfl)
set_option maxRecDepth 20000 in
theorem kX12_355 : xMl RX12 355 mX12_areAlike := Or.inl (xIn8 109 rfl rfl)
set_option maxRecDepth 20000 in
theorem kL_177 : xMl "EightPartsLaw" 177 mX12_alikeMany := Or.inl (xIn8 113 rfl rfl)
set_option maxRecDepth 20000 in
theorem kL_181 : xMl "EightPartsLaw" 181 mX12_commuting := Or.inl (xIn8 117 rfl rfl)
set_option maxRecDepth 20000 in
theorem kX12_358 : xMl RX12 358 mX12_doCommute := Or.inl (xIn8 121 rfl rfl)
set_option maxRecDepth 20000 in
theorem kL_185 : xMl "EightPartsLaw" 185 mX12_sides := Or.inl (xIn8 125 rfl rfl)
set_option maxRecDepth 20000 in
theorem kL_189 : xMl "EightPartsLaw" 189 mX12_cycle := Or.inl (xIn8 129 rfl rfl)
set_option maxRecDepth 20000 in
theorem kX12_361 : xMl RX12 361 mX12_cycleOf := Or.inl (xIn8 133 rfl rfl)
set_option maxRecDepth 20000 in
theorem kL_213 : xMl "EightPartsLaw" 213 mX12_cycles := Or.inl (xIn8 137 rfl rfl)
set_option maxRecDepth 20000 in
theorem kL_201 : xMl "EightPartsLaw" 201 mX12_table := Or.inl (xIn8 141 rfl rfl)
set_option maxRecDepth 20000 in
theorem kX12_364 : xMl RX12 364 mX12_laysTable := Or.inl (xIn8 145 rfl rfl)
set_option maxRecDepth 20000 in
theorem kL_193 : xMl "EightPartsLaw" 193 mX12_made := Or.inl (xIn8 149 rfl rfl)
set_option maxRecDepth 20000 in
theorem cX12_378 : Cond.constantLong RX12 378 (255) ∈ xTT := (xIn8 153 rfl rfl)
set_option maxRecDepth 20000 in
theorem kX12_380 : xMl RX12 380 mX12_laysMade := Or.inl (xIn8 154 rfl rfl)
set_option maxRecDepth 20000 in
theorem kX12_370 : xMl RX12 370 mX12_isUnit := Or.inl (xIn8 158 rfl rfl)
set_option maxRecDepth 20000 in
theorem kX12_373 : xMl RX12 373 mX12_adds_ := Or.inl (xIn8 162 rfl rfl)
set_option maxRecDepth 20000 in
theorem kX12_383 : xMl RX12 383 mX12_areAssociative := Or.inl (xIn8 166 rfl rfl)
set_option maxRecDepth 20000 in
theorem kX12_375 : xMl RX12 375 mX12_madeProduct := Or.inl (xIn8 170 rfl rfl)
set_option maxRecDepth 20000 in
theorem kX12_386 : xMl RX12 386 mX12_center := Or.inl (xIn8 174 rfl rfl)
set_option maxRecDepth 20000 in
theorem kX12_389 : xMl RX12 389 mX12_squares := Or.inl (xIn8 178 rfl rfl)
set_option maxRecDepth 20000 in
theorem kL_197 : xMl "EightPartsLaw" 197 mX12_madeAt := Or.inl (xIn8 182 rfl rfl)
set_option maxRecDepth 20000 in
theorem kL_205 : xMl "EightPartsLaw" 205 mX12_turnCycle := Or.inl (xIn8 186 rfl rfl)
set_option maxRecDepth 20000 in
theorem kL_209 : xMl "EightPartsLaw" 209 mX12_shared := Or.inl (xIn8 190 rfl rfl)
set_option maxRecDepth 20000 in
theorem kL_217 : xMl "EightPartsLaw" 217 mX12_nucleus := Or.inl (xIn8 194 rfl rfl)
set_option maxRecDepth 20000 in
theorem kL_221 : xMl "EightPartsLaw" 221 mX12_laws := Or.inl (xIn8 198 rfl rfl)
set_option maxRecDepth 20000 in
theorem kX12_392 : xMl RX12 392 mX12_both := Or.inl (xIn8 202 rfl rfl)
set_option maxRecDepth 20000 in
theorem kL_234 : xMl "EightPartsLaw" 234 mX12_keep := Or.inl (xIn8 206 rfl rfl)
set_option maxRecDepth 20000 in
theorem kL_238 : xMl "EightPartsLaw" 238 mX12_restore := Or.inl (xIn8 210 rfl rfl)
set_option maxRecDepth 20000 in
theorem kL_242 : xMl "EightPartsLaw" 242 mX12_count := Or.inl (xIn8 214 rfl rfl)
set_option maxRecDepth 20000 in
theorem kX12_398 : xMl RX12 398 mX12_wholes := Or.inl (xIn8 218 rfl rfl)
set_option maxRecDepth 20000 in
theorem kX12_401 : xMl RX12 401 mX12_noughts := Or.inl (xIn8 222 rfl rfl)
set_option maxRecDepth 20000 in
theorem tJ0_9 : Cond.fieldLink RJ0 9 "java/lang/String" "value" "[B" ∈ xTT := (xIn8 238 rfl rfl)
set_option maxRecDepth 20000 in
theorem tJ0_15 : Cond.fieldLink RJ0 15 "java/lang/String" "coder" "B" ∈ xTT := (xIn8 239 rfl rfl)
set_option maxRecDepth 20000 in
theorem oi_i : Cond.instanceMethod objectInit ∈ xTT := (xIn1 32 rfl rfl)
set_option maxRecDepth 20000 in
theorem oi_c : Cond.code objectInit ⟨#[0xb1]⟩ 1 none ∈ xTT := (xIn1 33 rfl rfl)
set_option maxRecDepth 20000 in
theorem okX0_init : xOkI mX0_init 2 := ⟨⟨(xIn1 142 rfl rfl), (xIn1 6 rfl rfl), by decide, by decide, by decide, by decide +kernel⟩, (xIn1 141 rfl rfl), rfl, rfl⟩
set_option maxRecDepth 20000 in
theorem okX0_split : xOkV mX0_split 2 := ⟨⟨(xIn3 61 rfl rfl), (xIn1 6 rfl rfl), by decide, by decide, by decide, by decide +kernel⟩, (xIn3 59 rfl rfl), (xIn3 60 rfl rfl)⟩
set_option maxRecDepth 20000 in
theorem okX0_walk : xOkV mX0_walk 2 := ⟨⟨(xIn3 56 rfl rfl), (xIn1 6 rfl rfl), by decide, by decide, by decide, by decide +kernel⟩, (xIn3 54 rfl rfl), (xIn3 55 rfl rfl)⟩
set_option maxRecDepth 20000 in
theorem okX0_lastOfWalk : xOkV mX0_lastOfWalk 0 := ⟨⟨(xIn3 113 rfl rfl), (xIn1 6 rfl rfl), by decide, by decide, by decide, by decide +kernel⟩, (xIn3 111 rfl rfl), (xIn3 112 rfl rfl)⟩
set_option maxRecDepth 20000 in
theorem okX0_lastNormBy4 : xOkV mX0_lastNormBy4 0 := ⟨⟨(xIn6 51 rfl rfl), (xIn1 6 rfl rfl), by decide, by decide, by decide, by decide +kernel⟩, (xIn6 49 rfl rfl), (xIn6 50 rfl rfl)⟩
set_option maxRecDepth 20000 in
theorem okX0_divides : xOkV mX0_divides 4 := ⟨⟨(xIn5 76 rfl rfl), (xIn1 6 rfl rfl), by decide, by decide, by decide, by decide +kernel⟩, (xIn5 74 rfl rfl), (xIn5 75 rfl rfl)⟩
set_option maxRecDepth 20000 in
theorem okX0_noteShare : xOkV mX0_noteShare 0 := ⟨⟨(xIn3 105 rfl rfl), (xIn1 6 rfl rfl), by decide, by decide, by decide, by decide +kernel⟩, (xIn3 104 rfl rfl), (xInP1 7 rfl)⟩
set_option maxRecDepth 20000 in
theorem okX1_init : xOkI mX1_init 0 := ⟨⟨(xIn2 45 rfl rfl), (xIn1 11 rfl rfl), by decide, by decide, by decide, by decide +kernel⟩, (xIn2 44 rfl rfl), rfl, rfl⟩
set_option maxRecDepth 20000 in
theorem okX1_push : xOkV mX1_push 2 := ⟨⟨(xIn6 59 rfl rfl), (xIn1 11 rfl rfl), by decide, by decide, by decide, by decide +kernel⟩, (xIn6 57 rfl rfl), (xIn6 58 rfl rfl)⟩
set_option maxRecDepth 20000 in
theorem okX1_pop : xOkV mX1_pop 1 := ⟨⟨(xIn6 68 rfl rfl), (xIn1 11 rfl rfl), by decide, by decide, by decide, by decide +kernel⟩, (xIn6 66 rfl rfl), (xIn6 67 rfl rfl)⟩
set_option maxRecDepth 20000 in
theorem okX2_init : xOkI mX2_init 0 := ⟨⟨(xIn1 58 rfl rfl), (xIn1 3 rfl rfl), by decide, by decide, by decide, by decide +kernel⟩, (xIn1 57 rfl rfl), rfl, rfl⟩
set_option maxRecDepth 20000 in
theorem okX2_manyWords : xOkS mX2_manyWords 1 := ⟨⟨(xIn2 183 rfl rfl), (xIn1 3 rfl rfl), by decide, by decide, by decide, by decide +kernel⟩, (xIn2 182 rfl rfl)⟩
set_option maxRecDepth 20000 in
theorem okX2_exchange : xOkS mX2_exchange 2 := ⟨⟨(xIn2 188 rfl rfl), (xIn1 3 rfl rfl), by decide, by decide, by decide, by decide +kernel⟩, (xIn2 187 rfl rfl)⟩
set_option maxRecDepth 20000 in
theorem okX2_mayBeOdd : xOkS mX2_mayBeOdd 2 := ⟨⟨(xIn5 22 rfl rfl), (xIn1 3 rfl rfl), by decide, by decide, by decide, by decide +kernel⟩, (xIn5 21 rfl rfl)⟩
set_option maxRecDepth 20000 in
theorem okX2_manyUnitsOfBoth : xOkS mX2_manyUnitsOfBoth 2 := ⟨⟨(xIn5 223 rfl rfl), (xIn1 3 rfl rfl), by decide, by decide, by decide, by decide +kernel⟩, (xIn5 222 rfl rfl)⟩
set_option maxRecDepth 20000 in
theorem okX2_isWhole : xOkV mX2_isWhole 1 := ⟨⟨(xIn5 18 rfl rfl), (xIn1 3 rfl rfl), by decide, by decide, by decide, by decide +kernel⟩, (xIn5 16 rfl rfl), (xIn5 17 rfl rfl)⟩
set_option maxRecDepth 20000 in
theorem okX2_isWholeBy : xOkV mX2_isWholeBy 2 := ⟨⟨(xIn5 81 rfl rfl), (xIn1 3 rfl rfl), by decide, by decide, by decide, by decide +kernel⟩, (xIn5 79 rfl rfl), (xIn5 80 rfl rfl)⟩
set_option maxRecDepth 20000 in
theorem okX2_layNearest : xOkV mX2_layNearest 3 := ⟨⟨(xIn3 75 rfl rfl), (xIn1 3 rfl rfl), by decide, by decide, by decide, by decide +kernel⟩, (xIn3 73 rfl rfl), (xIn3 74 rfl rfl)⟩
set_option maxRecDepth 20000 in
theorem okX2_findNear : xOkV mX2_findNear 4 := ⟨⟨(xIn3 79 rfl rfl), (xIn1 3 rfl rfl), by decide, by decide, by decide, by decide +kernel⟩, (xIn3 78 rfl rfl), (xInP1 3 rfl)⟩
set_option maxRecDepth 20000 in
theorem okX2_bestWord : xOkV mX2_bestWord 0 := ⟨⟨(xIn3 87 rfl rfl), (xIn1 3 rfl rfl), by decide, by decide, by decide, by decide +kernel⟩, (xIn3 86 rfl rfl), (xInP1 4 rfl)⟩
set_option maxRecDepth 20000 in
theorem okX2_missOf : xOkV mX2_missOf 1 := ⟨⟨(xIn3 93 rfl rfl), (xIn1 3 rfl rfl), by decide, by decide, by decide, by decide +kernel⟩, (xIn3 92 rfl rfl), (xInP1 5 rfl)⟩
set_option maxRecDepth 20000 in
theorem okX2_isListedAhead : xOkV mX2_isListedAhead 2 := ⟨⟨(xIn3 98 rfl rfl), (xIn1 3 rfl rfl), by decide, by decide, by decide, by decide +kernel⟩, (xIn3 97 rfl rfl), (xInP1 6 rfl)⟩
set_option maxRecDepth 20000 in
theorem okX3_init : xOkI mX3_init 1 := ⟨⟨(xIn1 183 rfl rfl), (xIn1 7 rfl rfl), by decide, by decide, by decide, by decide +kernel⟩, (xIn1 182 rfl rfl), rfl, rfl⟩
set_option maxRecDepth 20000 in
theorem okX3_whichHold : xOkV mX3_whichHold 3 := ⟨⟨(xIn6 13 rfl rfl), (xIn1 7 rfl rfl), by decide, by decide, by decide, by decide +kernel⟩, (xIn6 11 rfl rfl), (xIn6 12 rfl rfl)⟩
set_option maxRecDepth 20000 in
theorem okX3_multiplyPairs : xOkV mX3_multiplyPairs 3 := ⟨⟨(xIn6 17 rfl rfl), (xIn1 7 rfl rfl), by decide, by decide, by decide, by decide +kernel⟩, (xIn6 16 rfl rfl), (xInP2 14 rfl)⟩
set_option maxRecDepth 20000 in
theorem okX3_layBothSides : xOkV mX3_layBothSides 4 := ⟨⟨(xIn6 22 rfl rfl), (xIn1 7 rfl rfl), by decide, by decide, by decide, by decide +kernel⟩, (xIn6 21 rfl rfl), (xInP2 15 rfl)⟩
set_option maxRecDepth 20000 in
theorem okX3_doNormsMultiply : xOkV mX3_doNormsMultiply 2 := ⟨⟨(xIn6 27 rfl rfl), (xIn1 7 rfl rfl), by decide, by decide, by decide, by decide +kernel⟩, (xIn6 26 rfl rfl), (xInP3 0 rfl)⟩
set_option maxRecDepth 20000 in
theorem okX4_init : xOkI mX4_init 1 := ⟨⟨(xIn1 82 rfl rfl), (xIn1 4 rfl rfl), by decide, by decide, by decide, by decide +kernel⟩, (xIn1 81 rfl rfl), rfl, rfl⟩
set_option maxRecDepth 20000 in
theorem okX4_manyOf : xOkV mX4_manyOf 1 := ⟨⟨(xIn2 169 rfl rfl), (xIn1 4 rfl rfl), by decide, by decide, by decide, by decide +kernel⟩, (xIn2 167 rfl rfl), (xIn2 168 rfl rfl)⟩
set_option maxRecDepth 20000 in
theorem okX4_take : xOkV mX4_take 3 := ⟨⟨(xIn2 165 rfl rfl), (xIn1 4 rfl rfl), by decide, by decide, by decide, by decide +kernel⟩, (xIn2 163 rfl rfl), (xIn2 164 rfl rfl)⟩
set_option maxRecDepth 20000 in
theorem okX4_find : xOkV mX4_find 1 := ⟨⟨(xIn5 54 rfl rfl), (xIn1 4 rfl rfl), by decide, by decide, by decide, by decide +kernel⟩, (xIn5 52 rfl rfl), (xIn5 53 rfl rfl)⟩
set_option maxRecDepth 20000 in
theorem okX4_takeUnit : xOkV mX4_takeUnit 2 := ⟨⟨(xIn5 173 rfl rfl), (xIn1 4 rfl rfl), by decide, by decide, by decide, by decide +kernel⟩, (xIn5 171 rfl rfl), (xIn5 172 rfl rfl)⟩
set_option maxRecDepth 20000 in
theorem okX4_search : xOkV mX4_search 2 := ⟨⟨(xIn5 61 rfl rfl), (xIn1 4 rfl rfl), by decide, by decide, by decide, by decide +kernel⟩, (xIn5 59 rfl rfl), (xIn5 60 rfl rfl)⟩
set_option maxRecDepth 20000 in
theorem okX4_unpack : xOkS mX4_unpack 2 := ⟨⟨(xIn2 195 rfl rfl), (xIn1 4 rfl rfl), by decide, by decide, by decide, by decide +kernel⟩, (xIn2 194 rfl rfl)⟩
set_option maxRecDepth 20000 in
theorem okX4_pack : xOkS mX4_pack 1 := ⟨⟨(xIn5 64 rfl rfl), (xIn1 4 rfl rfl), by decide, by decide, by decide, by decide +kernel⟩, (xIn5 63 rfl rfl)⟩
set_option maxRecDepth 20000 in
theorem okX4_fill : xOkV mX4_fill 1 := ⟨⟨(xIn2 173 rfl rfl), (xIn1 4 rfl rfl), by decide, by decide, by decide, by decide +kernel⟩, (xIn2 172 rfl rfl), (xInP1 0 rfl)⟩
set_option maxRecDepth 20000 in
theorem okX4_sortWords : xOkV mX4_sortWords 0 := ⟨⟨(xIn2 179 rfl rfl), (xIn1 4 rfl rfl), by decide, by decide, by decide, by decide +kernel⟩, (xIn2 178 rfl rfl), (xInP1 1 rfl)⟩
set_option maxRecDepth 20000 in
theorem okX4_grow : xOkV mX4_grow 5 := ⟨⟨(xIn2 192 rfl rfl), (xIn1 4 rfl rfl), by decide, by decide, by decide, by decide +kernel⟩, (xIn2 191 rfl rfl), (xInP1 2 rfl)⟩
set_option maxRecDepth 20000 in
theorem okX5_lay : xOkS mX5_lay 2 := ⟨⟨(xIn2 205 rfl rfl), (xIn1 17 rfl rfl), by decide, by decide, by decide, by decide +kernel⟩, (xIn2 204 rfl rfl)⟩
set_option maxRecDepth 20000 in
theorem okX5_layOne : xOkS mX5_layOne 2 := ⟨⟨(xIn2 151 rfl rfl), (xIn1 17 rfl rfl), by decide, by decide, by decide, by decide +kernel⟩, (xIn2 150 rfl rfl)⟩
set_option maxRecDepth 20000 in
theorem okX5_layMirrored : xOkS mX5_layMirrored 2 := ⟨⟨(xIn3 17 rfl rfl), (xIn1 17 rfl rfl), by decide, by decide, by decide, by decide +kernel⟩, (xIn3 16 rfl rfl)⟩
set_option maxRecDepth 20000 in
theorem okX5_areEqual : xOkS mX5_areEqual 2 := ⟨⟨(xIn5 37 rfl rfl), (xIn1 17 rfl rfl), by decide, by decide, by decide, by decide +kernel⟩, (xIn5 36 rfl rfl)⟩
set_option maxRecDepth 20000 in
theorem okX5_isZero : xOkS mX5_isZero 1 := ⟨⟨(xIn3 116 rfl rfl), (xIn1 17 rfl rfl), by decide, by decide, by decide, by decide +kernel⟩, (xIn3 115 rfl rfl)⟩
set_option maxRecDepth 20000 in
theorem okX5_isOne : xOkS mX5_isOne 1 := ⟨⟨(xIn5 126 rfl rfl), (xIn1 17 rfl rfl), by decide, by decide, by decide, by decide +kernel⟩, (xIn5 125 rfl rfl)⟩
set_option maxRecDepth 20000 in
theorem okX5_oddSet : xOkS mX5_oddSet 1 := ⟨⟨(xIn5 10 rfl rfl), (xIn1 17 rfl rfl), by decide, by decide, by decide, by decide +kernel⟩, (xIn5 9 rfl rfl)⟩
set_option maxRecDepth 20000 in
theorem okX5_normBy4 : xOkS mX5_normBy4 1 := ⟨⟨(xIn3 64 rfl rfl), (xIn1 17 rfl rfl), by decide, by decide, by decide, by decide +kernel⟩, (xIn3 63 rfl rfl)⟩
set_option maxRecDepth 20000 in
theorem okX5_innerBy4 : xOkS mX5_innerBy4 2 := ⟨⟨(xIn3 67 rfl rfl), (xIn1 17 rfl rfl), by decide, by decide, by decide, by decide +kernel⟩, (xIn3 66 rfl rfl)⟩
set_option maxRecDepth 20000 in
theorem okX5_multiplyBy4 : xOkS mX5_multiplyBy4 3 := ⟨⟨(xIn3 6 rfl rfl), (xIn1 17 rfl rfl), by decide, by decide, by decide, by decide +kernel⟩, (xIn3 5 rfl rfl)⟩
set_option maxRecDepth 20000 in
theorem okX5_halve : xOkS mX5_halve 1 := ⟨⟨(xIn3 9 rfl rfl), (xIn1 17 rfl rfl), by decide, by decide, by decide, by decide +kernel⟩, (xIn3 8 rfl rfl)⟩
set_option maxRecDepth 20000 in
theorem okX5_layIfWithin : xOkS mX5_layIfWithin 2 := ⟨⟨(xIn2 226 rfl rfl), (xIn1 17 rfl rfl), by decide, by decide, by decide, by decide +kernel⟩, (xIn2 225 rfl rfl)⟩
set_option maxRecDepth 20000 in
theorem okX6_init : xOkI mX6_init 3 := ⟨⟨(xIn2 10 rfl rfl), (xIn1 10 rfl rfl), by decide, by decide, by decide, by decide +kernel⟩, (xIn2 9 rfl rfl), rfl, rfl⟩
set_option maxRecDepth 20000 in
theorem okX6_read : xOkV mX6_read 0 := ⟨⟨(xIn3 200 rfl rfl), (xIn1 10 rfl rfl), by decide, by decide, by decide, by decide +kernel⟩, (xIn3 198 rfl rfl), (xIn3 199 rfl rfl)⟩
set_option maxRecDepth 20000 in
theorem okX6_layResult : xOkV mX6_layResult 1 := ⟨⟨(xIn4 7 rfl rfl), (xIn1 10 rfl rfl), by decide, by decide, by decide, by decide +kernel⟩, (xIn4 5 rfl rfl), (xIn4 6 rfl rfl)⟩
set_option maxRecDepth 20000 in
theorem okX6_ahead : xOkV mX6_ahead 0 := ⟨⟨(xIn3 216 rfl rfl), (xIn1 10 rfl rfl), by decide, by decide, by decide, by decide +kernel⟩, (xIn3 215 rfl rfl), (xInP1 13 rfl)⟩
set_option maxRecDepth 20000 in
theorem okX6_readSum : xOkV mX6_readSum 1 := ⟨⟨(xIn3 204 rfl rfl), (xIn1 10 rfl rfl), by decide, by decide, by decide, by decide +kernel⟩, (xIn3 203 rfl rfl), (xInP1 10 rfl)⟩
set_option maxRecDepth 20000 in
theorem okX6_readTerm : xOkV mX6_readTerm 1 := ⟨⟨(xIn3 208 rfl rfl), (xIn1 10 rfl rfl), by decide, by decide, by decide, by decide +kernel⟩, (xIn3 207 rfl rfl), (xInP1 11 rfl)⟩
set_option maxRecDepth 20000 in
theorem okX6_note : xOkV mX6_note 1 := ⟨⟨(xIn4 2 rfl rfl), (xIn1 10 rfl rfl), by decide, by decide, by decide, by decide +kernel⟩, (xIn4 1 rfl rfl), (xInP2 0 rfl)⟩
set_option maxRecDepth 20000 in
theorem okX6_readFactor : xOkV mX6_readFactor 1 := ⟨⟨(xIn3 212 rfl rfl), (xIn1 10 rfl rfl), by decide, by decide, by decide, by decide +kernel⟩, (xIn3 211 rfl rfl), (xInP1 12 rfl)⟩
set_option maxRecDepth 20000 in
theorem okX6_readNested : xOkV mX6_readNested 2 := ⟨⟨(xIn3 236 rfl rfl), (xIn1 10 rfl rfl), by decide, by decide, by decide, by decide +kernel⟩, (xIn3 235 rfl rfl), (xInP1 15 rfl)⟩
set_option maxRecDepth 20000 in
theorem okX6_readInt : xOkV mX6_readInt 1 := ⟨⟨(xIn3 228 rfl rfl), (xIn1 10 rfl rfl), by decide, by decide, by decide, by decide +kernel⟩, (xIn3 227 rfl rfl), (xInP1 14 rfl)⟩
set_option maxRecDepth 20000 in
theorem okX6_isDigit : xOkS mX6_isDigit 1 := ⟨⟨(xIn3 224 rfl rfl), (xIn1 10 rfl rfl), by decide, by decide, by decide, by decide +kernel⟩, (xIn3 223 rfl rfl)⟩
set_option maxRecDepth 20000 in
theorem okX7_init : xOkI mX7_init 0 := ⟨⟨(xIn1 40 rfl rfl), (xIn1 2 rfl rfl), by decide, by decide, by decide, by decide +kernel⟩, (xIn1 39 rfl rfl), rfl, rfl⟩
set_option maxRecDepth 20000 in
theorem okX7_add : xOkV mX7_add 4 := ⟨⟨(xIn2 223 rfl rfl), (xIn1 2 rfl rfl), by decide, by decide, by decide, by decide +kernel⟩, (xIn2 221 rfl rfl), (xIn2 222 rfl rfl)⟩
set_option maxRecDepth 20000 in
theorem okX7_scale : xOkV mX7_scale 3 := ⟨⟨(xIn3 25 rfl rfl), (xIn1 2 rfl rfl), by decide, by decide, by decide, by decide +kernel⟩, (xIn3 23 rfl rfl), (xIn3 24 rfl rfl)⟩
set_option maxRecDepth 20000 in
theorem okX7_multiply : xOkV mX7_multiply 3 := ⟨⟨(xIn3 3 rfl rfl), (xIn1 2 rfl rfl), by decide, by decide, by decide, by decide +kernel⟩, (xIn3 1 rfl rfl), (xIn3 2 rfl rfl)⟩
set_option maxRecDepth 20000 in
theorem okX7_turnBy : xOkV mX7_turnBy 4 := ⟨⟨(xIn3 36 rfl rfl), (xIn1 2 rfl rfl), by decide, by decide, by decide, by decide +kernel⟩, (xIn3 34 rfl rfl), (xIn3 35 rfl rfl)⟩
set_option maxRecDepth 20000 in
theorem okX8_init : xOkI mX8_init 0 := ⟨⟨(xIn1 234 rfl rfl), (xIn1 9 rfl rfl), by decide, by decide, by decide, by decide +kernel⟩, (xIn1 233 rfl rfl), rfl, rfl⟩
set_option maxRecDepth 20000 in
theorem okX8_hasRoom : xOkV mX8_hasRoom 0 := ⟨⟨(xIn3 184 rfl rfl), (xIn1 9 rfl rfl), by decide, by decide, by decide, by decide +kernel⟩, (xIn3 182 rfl rfl), (xIn3 183 rfl rfl)⟩
set_option maxRecDepth 20000 in
theorem okX8_append : xOkV mX8_append 1 := ⟨⟨(xIn3 188 rfl rfl), (xIn1 9 rfl rfl), by decide, by decide, by decide, by decide +kernel⟩, (xIn3 186 rfl rfl), (xIn3 187 rfl rfl)⟩
set_option maxRecDepth 20000 in
theorem okX8_byteAt : xOkV mX8_byteAt 1 := ⟨⟨(xIn3 220 rfl rfl), (xIn1 9 rfl rfl), by decide, by decide, by decide, by decide +kernel⟩, (xIn3 218 rfl rfl), (xIn3 219 rfl rfl)⟩
set_option maxRecDepth 20000 in
theorem okX9_init : xOkI mX9_init 2 := ⟨⟨(xIn1 106 rfl rfl), (xIn1 5 rfl rfl), by decide, by decide, by decide, by decide +kernel⟩, (xIn1 105 rfl rfl), rfl, rfl⟩
set_option maxRecDepth 20000 in
theorem okX9_multiplyAt : xOkV mX9_multiplyAt 2 := ⟨⟨(xIn5 159 rfl rfl), (xIn1 5 rfl rfl), by decide, by decide, by decide, by decide +kernel⟩, (xIn5 157 rfl rfl), (xIn5 158 rfl rfl)⟩
set_option maxRecDepth 20000 in
theorem okX9_cycleOf : xOkV mX9_cycleOf 1 := ⟨⟨(xIn5 237 rfl rfl), (xIn1 5 rfl rfl), by decide, by decide, by decide, by decide +kernel⟩, (xIn5 235 rfl rfl), (xIn5 236 rfl rfl)⟩
set_option maxRecDepth 20000 in
theorem okX9_gather : xOkV mX9_gather 2 := ⟨⟨(xIn5 139 rfl rfl), (xIn1 5 rfl rfl), by decide, by decide, by decide, by decide +kernel⟩, (xIn5 137 rfl rfl), (xIn5 138 rfl rfl)⟩
set_option maxRecDepth 20000 in
theorem okX9_gatheredAt : xOkV mX9_gatheredAt 1 := ⟨⟨(xIn5 207 rfl rfl), (xIn1 5 rfl rfl), by decide, by decide, by decide, by decide +kernel⟩, (xIn5 205 rfl rfl), (xIn5 206 rfl rfl)⟩
set_option maxRecDepth 20000 in
theorem okX9_areAssociative : xOkV mX9_areAssociative 0 := ⟨⟨(xIn5 179 rfl rfl), (xIn1 5 rfl rfl), by decide, by decide, by decide, by decide +kernel⟩, (xIn5 177 rfl rfl), (xIn5 178 rfl rfl)⟩
set_option maxRecDepth 20000 in
theorem okX9_manyCentral : xOkV mX9_manyCentral 0 := ⟨⟨(xIn5 191 rfl rfl), (xIn1 5 rfl rfl), by decide, by decide, by decide, by decide +kernel⟩, (xIn5 189 rfl rfl), (xIn5 190 rfl rfl)⟩
set_option maxRecDepth 20000 in
theorem okX9_manyOwnInverse : xOkV mX9_manyOwnInverse 0 := ⟨⟨(xIn5 199 rfl rfl), (xIn1 5 rfl rfl), by decide, by decide, by decide, by decide +kernel⟩, (xIn5 197 rfl rfl), (xIn5 198 rfl rfl)⟩
set_option maxRecDepth 20000 in
theorem okX9_forgetMembers : xOkV mX9_forgetMembers 0 := ⟨⟨(xIn5 143 rfl rfl), (xIn1 5 rfl rfl), by decide, by decide, by decide, by decide +kernel⟩, (xIn5 142 rfl rfl), (xInP2 5 rfl)⟩
set_option maxRecDepth 20000 in
theorem okX9_admit : xOkV mX9_admit 1 := ⟨⟨(xIn5 150 rfl rfl), (xIn1 5 rfl rfl), by decide, by decide, by decide, by decide +kernel⟩, (xIn5 149 rfl rfl), (xInP2 6 rfl)⟩
set_option maxRecDepth 20000 in
theorem okX9_close : xOkV mX9_close 0 := ⟨⟨(xIn5 154 rfl rfl), (xIn1 5 rfl rfl), by decide, by decide, by decide, by decide +kernel⟩, (xIn5 153 rfl rfl), (xInP2 7 rfl)⟩
set_option maxRecDepth 20000 in
theorem okX9_isReal : xOkV mX9_isReal 1 := ⟨⟨(xIn5 183 rfl rfl), (xIn1 5 rfl rfl), by decide, by decide, by decide, by decide +kernel⟩, (xIn5 182 rfl rfl), (xInP2 10 rfl)⟩
set_option maxRecDepth 20000 in
theorem okX9_associatesWithAll : xOkV mX9_associatesWithAll 1 := ⟨⟨(xIn5 187 rfl rfl), (xIn1 5 rfl rfl), by decide, by decide, by decide, by decide +kernel⟩, (xIn5 186 rfl rfl), (xInP2 11 rfl)⟩
set_option maxRecDepth 20000 in
theorem okX9_commutesWithAll : xOkV mX9_commutesWithAll 1 := ⟨⟨(xIn5 195 rfl rfl), (xIn1 5 rfl rfl), by decide, by decide, by decide, by decide +kernel⟩, (xIn5 194 rfl rfl), (xInP2 12 rfl)⟩
set_option maxRecDepth 20000 in
theorem okX9_multiplyNegative : xOkV mX9_multiplyNegative 2 := ⟨⟨(xIn5 164 rfl rfl), (xIn1 5 rfl rfl), by decide, by decide, by decide, by decide +kernel⟩, (xIn5 163 rfl rfl), (xInP2 8 rfl)⟩
set_option maxRecDepth 20000 in
theorem okX9_makeRoom : xOkV mX9_makeRoom 0 := ⟨⟨(xIn5 168 rfl rfl), (xIn1 5 rfl rfl), by decide, by decide, by decide, by decide +kernel⟩, (xIn5 167 rfl rfl), (xInP2 9 rfl)⟩
set_option maxRecDepth 20000 in
theorem okX10_init : xOkI mX10_init 1 := ⟨⟨(xIn1 217 rfl rfl), (xIn1 8 rfl rfl), by decide, by decide, by decide, by decide +kernel⟩, (xIn1 216 rfl rfl), rfl, rfl⟩
set_option maxRecDepth 20000 in
theorem okX10_manyOf : xOkV mX10_manyOf 1 := ⟨⟨(xIn3 150 rfl rfl), (xIn1 8 rfl rfl), by decide, by decide, by decide, by decide +kernel⟩, (xIn3 148 rfl rfl), (xIn3 149 rfl rfl)⟩
set_option maxRecDepth 20000 in
theorem okX10_fill : xOkV mX10_fill 3 := ⟨⟨(xIn3 156 rfl rfl), (xIn1 8 rfl rfl), by decide, by decide, by decide, by decide +kernel⟩, (xIn3 154 rfl rfl), (xIn3 155 rfl rfl)⟩
set_option maxRecDepth 20000 in
theorem okX10_layWay : xOkV mX10_layWay 3 := ⟨⟨(xIn3 176 rfl rfl), (xIn1 8 rfl rfl), by decide, by decide, by decide, by decide +kernel⟩, (xIn3 174 rfl rfl), (xIn3 175 rfl rfl)⟩
set_option maxRecDepth 20000 in
theorem okX10_manyUnlike : xOkV mX10_manyUnlike 1 := ⟨⟨(xIn6 38 rfl rfl), (xIn1 8 rfl rfl), by decide, by decide, by decide, by decide +kernel⟩, (xIn6 36 rfl rfl), (xIn6 37 rfl rfl)⟩
set_option maxRecDepth 20000 in
theorem okX10_isNew : xOkV mX10_isNew 2 := ⟨⟨(xIn6 42 rfl rfl), (xIn1 8 rfl rfl), by decide, by decide, by decide, by decide +kernel⟩, (xIn6 41 rfl rfl), (xInP3 1 rfl)⟩
set_option maxRecDepth 20000 in
theorem okX10_fillStretch : xOkV mX10_fillStretch 2 := ⟨⟨(xIn3 162 rfl rfl), (xIn1 8 rfl rfl), by decide, by decide, by decide, by decide +kernel⟩, (xIn3 161 rfl rfl), (xInP1 8 rfl)⟩
set_option maxRecDepth 20000 in
theorem okX10_startOf : xOkS mX10_startOf 2 := ⟨⟨(xIn3 165 rfl rfl), (xIn1 8 rfl rfl), by decide, by decide, by decide, by decide +kernel⟩, (xIn3 164 rfl rfl)⟩
set_option maxRecDepth 20000 in
theorem okX10_join : xOkV mX10_join 3 := ⟨⟨(xIn3 171 rfl rfl), (xIn1 8 rfl rfl), by decide, by decide, by decide, by decide +kernel⟩, (xIn3 170 rfl rfl), (xInP1 9 rfl)⟩
set_option maxRecDepth 20000 in
theorem okX11_init : xOkI mX11_init 0 := ⟨⟨(xIn1 30 rfl rfl), (xIn1 1 rfl rfl), by decide, by decide, by decide, by decide +kernel⟩, (xIn1 29 rfl rfl), rfl, rfl⟩
set_option maxRecDepth 20000 in
theorem okX11_put : xOkV mX11_put 3 := ⟨⟨(xIn2 141 rfl rfl), (xIn1 1 rfl rfl), by decide, by decide, by decide, by decide +kernel⟩, (xIn2 139 rfl rfl), (xIn2 140 rfl rfl)⟩
set_option maxRecDepth 20000 in
theorem okX11_one : xOkV mX11_one 2 := ⟨⟨(xIn2 148 rfl rfl), (xIn1 1 rfl rfl), by decide, by decide, by decide, by decide +kernel⟩, (xIn2 146 rfl rfl), (xIn2 147 rfl rfl)⟩
set_option maxRecDepth 20000 in
theorem okX11_listed : xOkV mX11_listed 3 := ⟨⟨(xIn2 158 rfl rfl), (xIn1 1 rfl rfl), by decide, by decide, by decide, by decide +kernel⟩, (xIn2 156 rfl rfl), (xIn2 157 rfl rfl)⟩
set_option maxRecDepth 20000 in
theorem okX11_copy : xOkV mX11_copy 2 := ⟨⟨(xIn2 199 rfl rfl), (xIn1 1 rfl rfl), by decide, by decide, by decide, by decide +kernel⟩, (xIn2 197 rfl rfl), (xIn2 198 rfl rfl)⟩
set_option maxRecDepth 20000 in
theorem okX11_order : xOkV mX11_order 1 := ⟨⟨(xIn2 212 rfl rfl), (xIn1 1 rfl rfl), by decide, by decide, by decide, by decide +kernel⟩, (xIn2 210 rfl rfl), (xIn2 211 rfl rfl)⟩
set_option maxRecDepth 20000 in
theorem okX11_sum : xOkV mX11_sum 3 := ⟨⟨(xIn2 216 rfl rfl), (xIn1 1 rfl rfl), by decide, by decide, by decide, by decide +kernel⟩, (xIn2 214 rfl rfl), (xIn2 215 rfl rfl)⟩
set_option maxRecDepth 20000 in
theorem okX11_less : xOkV mX11_less 3 := ⟨⟨(xIn2 235 rfl rfl), (xIn1 1 rfl rfl), by decide, by decide, by decide, by decide +kernel⟩, (xIn2 233 rfl rfl), (xIn2 234 rfl rfl)⟩
set_option maxRecDepth 20000 in
theorem okX11_product : xOkV mX11_product 3 := ⟨⟨(xIn2 239 rfl rfl), (xIn1 1 rfl rfl), by decide, by decide, by decide, by decide +kernel⟩, (xIn2 237 rfl rfl), (xIn2 238 rfl rfl)⟩
set_option maxRecDepth 20000 in
theorem okX11_mirror : xOkV mX11_mirror 2 := ⟨⟨(xIn3 14 rfl rfl), (xIn1 1 rfl rfl), by decide, by decide, by decide, by decide +kernel⟩, (xIn3 12 rfl rfl), (xIn3 13 rfl rfl)⟩
set_option maxRecDepth 20000 in
theorem okX11_times : xOkV mX11_times 3 := ⟨⟨(xIn3 21 rfl rfl), (xIn1 1 rfl rfl), by decide, by decide, by decide, by decide +kernel⟩, (xIn3 19 rfl rfl), (xIn3 20 rfl rfl)⟩
set_option maxRecDepth 20000 in
theorem okX11_turn : xOkV mX11_turn 4 := ⟨⟨(xIn3 29 rfl rfl), (xIn1 1 rfl rfl), by decide, by decide, by decide, by decide +kernel⟩, (xIn3 27 rfl rfl), (xIn3 28 rfl rfl)⟩
set_option maxRecDepth 20000 in
theorem okX11_chain : xOkV mX11_chain 5 := ⟨⟨(xIn3 42 rfl rfl), (xIn1 1 rfl rfl), by decide, by decide, by decide, by decide +kernel⟩, (xIn3 40 rfl rfl), (xIn3 41 rfl rfl)⟩
set_option maxRecDepth 20000 in
theorem okX11_last : xOkV mX11_last 3 := ⟨⟨(xIn3 52 rfl rfl), (xIn1 1 rfl rfl), by decide, by decide, by decide, by decide +kernel⟩, (xIn3 50 rfl rfl), (xIn3 51 rfl rfl)⟩
set_option maxRecDepth 20000 in
theorem okX11_power : xOkV mX11_power 3 := ⟨⟨(xIn3 121 rfl rfl), (xIn1 1 rfl rfl), by decide, by decide, by decide, by decide +kernel⟩, (xIn3 119 rfl rfl), (xIn3 120 rfl rfl)⟩
set_option maxRecDepth 20000 in
theorem okX11_associator : xOkV mX11_associator 4 := ⟨⟨(xIn3 125 rfl rfl), (xIn1 1 rfl rfl), by decide, by decide, by decide, by decide +kernel⟩, (xIn3 123 rfl rfl), (xIn3 124 rfl rfl)⟩
set_option maxRecDepth 20000 in
theorem okX11_commutator : xOkV mX11_commutator 3 := ⟨⟨(xIn3 129 rfl rfl), (xIn1 1 rfl rfl), by decide, by decide, by decide, by decide +kernel⟩, (xIn3 127 rfl rfl), (xIn3 128 rfl rfl)⟩
set_option maxRecDepth 20000 in
theorem okX11_nearest : xOkV mX11_nearest 3 := ⟨⟨(xIn3 133 rfl rfl), (xIn1 1 rfl rfl), by decide, by decide, by decide, by decide +kernel⟩, (xIn3 131 rfl rfl), (xIn3 132 rfl rfl)⟩
set_option maxRecDepth 20000 in
theorem okX11_divide : xOkV mX11_divide 4 := ⟨⟨(xIn3 141 rfl rfl), (xIn1 1 rfl rfl), by decide, by decide, by decide, by decide +kernel⟩, (xIn3 139 rfl rfl), (xIn3 140 rfl rfl)⟩
set_option maxRecDepth 20000 in
theorem okX11_bracket : xOkV mX11_bracket 4 := ⟨⟨(xIn3 146 rfl rfl), (xIn1 1 rfl rfl), by decide, by decide, by decide, by decide +kernel⟩, (xIn3 144 rfl rfl), (xIn3 145 rfl rfl)⟩
set_option maxRecDepth 20000 in
theorem okX11_feed : xOkV mX11_feed 5 := ⟨⟨(xIn3 180 rfl rfl), (xIn1 1 rfl rfl), by decide, by decide, by decide, by decide +kernel⟩, (xIn3 178 rfl rfl), (xIn3 179 rfl rfl)⟩
set_option maxRecDepth 20000 in
theorem okX11_back : xOkV mX11_back 1 := ⟨⟨(xIn3 192 rfl rfl), (xIn1 1 rfl rfl), by decide, by decide, by decide, by decide +kernel⟩, (xIn3 190 rfl rfl), (xIn3 191 rfl rfl)⟩
set_option maxRecDepth 20000 in
theorem okX11_work : xOkV mX11_work 1 := ⟨⟨(xIn3 196 rfl rfl), (xIn1 1 rfl rfl), by decide, by decide, by decide, by decide +kernel⟩, (xIn3 194 rfl rfl), (xIn3 195 rfl rfl)⟩
set_option maxRecDepth 20000 in
theorem okX11_part : xOkV mX11_part 2 := ⟨⟨(xIn4 11 rfl rfl), (xIn1 1 rfl rfl), by decide, by decide, by decide, by decide +kernel⟩, (xIn4 9 rfl rfl), (xIn4 10 rfl rfl)⟩
set_option maxRecDepth 20000 in
theorem okX11_norm : xOkV mX11_norm 1 := ⟨⟨(xIn4 15 rfl rfl), (xIn1 1 rfl rfl), by decide, by decide, by decide, by decide +kernel⟩, (xIn4 13 rfl rfl), (xIn4 14 rfl rfl)⟩
set_option maxRecDepth 20000 in
theorem okX11_spell : xOkV mX11_spell 2 := ⟨⟨(xIn4 29 rfl rfl), (xIn1 1 rfl rfl), by decide, by decide, by decide, by decide +kernel⟩, (xIn4 27 rfl rfl), (xIn4 28 rfl rfl)⟩
set_option maxRecDepth 20000 in
theorem okX11_turned : xOkV mX11_turned 4 := ⟨⟨(xIn5 3 rfl rfl), (xIn1 1 rfl rfl), by decide, by decide, by decide, by decide +kernel⟩, (xIn5 1 rfl rfl), (xIn5 2 rfl rfl)⟩
set_option maxRecDepth 20000 in
theorem okX11_odd : xOkV mX11_odd 1 := ⟨⟨(xIn5 7 rfl rfl), (xIn1 1 rfl rfl), by decide, by decide, by decide, by decide +kernel⟩, (xIn5 5 rfl rfl), (xIn5 6 rfl rfl)⟩
set_option maxRecDepth 20000 in
theorem okX11_whole : xOkV mX11_whole 1 := ⟨⟨(xIn5 14 rfl rfl), (xIn1 1 rfl rfl), by decide, by decide, by decide, by decide +kernel⟩, (xIn5 12 rfl rfl), (xIn5 13 rfl rfl)⟩
set_option maxRecDepth 20000 in
theorem okX11_orders : xOkV mX11_orders 1 := ⟨⟨(xIn5 29 rfl rfl), (xIn1 1 rfl rfl), by decide, by decide, by decide, by decide +kernel⟩, (xIn5 27 rfl rfl), (xIn5 28 rfl rfl)⟩
set_option maxRecDepth 20000 in
theorem okX11_same : xOkV mX11_same 2 := ⟨⟨(xIn5 34 rfl rfl), (xIn1 1 rfl rfl), by decide, by decide, by decide, by decide +kernel⟩, (xIn5 32 rfl rfl), (xIn5 33 rfl rfl)⟩
set_option maxRecDepth 20000 in
theorem okX11_many : xOkV mX11_many 1 := ⟨⟨(xIn5 41 rfl rfl), (xIn1 1 rfl rfl), by decide, by decide, by decide, by decide +kernel⟩, (xIn5 39 rfl rfl), (xIn5 40 rfl rfl)⟩
set_option maxRecDepth 20000 in
theorem okX11_listedPart : xOkV mX11_listedPart 3 := ⟨⟨(xIn5 46 rfl rfl), (xIn1 1 rfl rfl), by decide, by decide, by decide, by decide +kernel⟩, (xIn5 44 rfl rfl), (xIn5 45 rfl rfl)⟩
set_option maxRecDepth 20000 in
theorem okX11_place : xOkV mX11_place 1 := ⟨⟨(xIn5 50 rfl rfl), (xIn1 1 rfl rfl), by decide, by decide, by decide, by decide +kernel⟩, (xIn5 48 rfl rfl), (xIn5 49 rfl rfl)⟩
set_option maxRecDepth 20000 in
theorem okX11_divisors : xOkV mX11_divisors 3 := ⟨⟨(xIn5 68 rfl rfl), (xIn1 1 rfl rfl), by decide, by decide, by decide, by decide +kernel⟩, (xIn5 66 rfl rfl), (xIn5 67 rfl rfl)⟩
set_option maxRecDepth 20000 in
theorem okX11_divisor : xOkV mX11_divisor 4 := ⟨⟨(xIn5 85 rfl rfl), (xIn1 1 rfl rfl), by decide, by decide, by decide, by decide +kernel⟩, (xIn5 83 rfl rfl), (xIn5 84 rfl rfl)⟩
set_option maxRecDepth 20000 in
theorem okX11_inner : xOkV mX11_inner 2 := ⟨⟨(xIn5 89 rfl rfl), (xIn1 1 rfl rfl), by decide, by decide, by decide, by decide +kernel⟩, (xIn5 87 rfl rfl), (xIn5 88 rfl rfl)⟩
set_option maxRecDepth 20000 in
theorem okX11_angles : xOkV mX11_angles 3 := ⟨⟨(xIn5 94 rfl rfl), (xIn1 1 rfl rfl), by decide, by decide, by decide, by decide +kernel⟩, (xIn5 92 rfl rfl), (xIn5 93 rfl rfl)⟩
set_option maxRecDepth 20000 in
theorem okX11_alike : xOkV mX11_alike 3 := ⟨⟨(xIn5 98 rfl rfl), (xIn1 1 rfl rfl), by decide, by decide, by decide, by decide +kernel⟩, (xIn5 96 rfl rfl), (xIn5 97 rfl rfl)⟩
set_option maxRecDepth 20000 in
theorem okX11_alikeMany : xOkV mX11_alikeMany 3 := ⟨⟨(xIn5 107 rfl rfl), (xIn1 1 rfl rfl), by decide, by decide, by decide, by decide +kernel⟩, (xIn5 105 rfl rfl), (xIn5 106 rfl rfl)⟩
set_option maxRecDepth 20000 in
theorem okX11_commuting : xOkV mX11_commuting 2 := ⟨⟨(xIn5 111 rfl rfl), (xIn1 1 rfl rfl), by decide, by decide, by decide, by decide +kernel⟩, (xIn5 109 rfl rfl), (xIn5 110 rfl rfl)⟩
set_option maxRecDepth 20000 in
theorem okX11_sides : xOkV mX11_sides 3 := ⟨⟨(xIn5 119 rfl rfl), (xIn1 1 rfl rfl), by decide, by decide, by decide, by decide +kernel⟩, (xIn5 117 rfl rfl), (xIn5 118 rfl rfl)⟩
set_option maxRecDepth 20000 in
theorem okX11_cycle : xOkV mX11_cycle 1 := ⟨⟨(xIn5 123 rfl rfl), (xIn1 1 rfl rfl), by decide, by decide, by decide, by decide +kernel⟩, (xIn5 121 rfl rfl), (xIn5 122 rfl rfl)⟩
set_option maxRecDepth 20000 in
theorem okX11_made : xOkV mX11_made 2 := ⟨⟨(xIn5 132 rfl rfl), (xIn1 1 rfl rfl), by decide, by decide, by decide, by decide +kernel⟩, (xIn5 130 rfl rfl), (xIn5 131 rfl rfl)⟩
set_option maxRecDepth 20000 in
theorem okX11_madeAt : xOkV mX11_madeAt 2 := ⟨⟨(xIn5 203 rfl rfl), (xIn1 1 rfl rfl), by decide, by decide, by decide, by decide +kernel⟩, (xIn5 201 rfl rfl), (xIn5 202 rfl rfl)⟩
set_option maxRecDepth 20000 in
theorem okX11_table : xOkV mX11_table 2 := ⟨⟨(xIn5 211 rfl rfl), (xIn1 1 rfl rfl), by decide, by decide, by decide, by decide +kernel⟩, (xIn5 209 rfl rfl), (xIn5 210 rfl rfl)⟩
set_option maxRecDepth 20000 in
theorem okX11_turnCycle : xOkV mX11_turnCycle 3 := ⟨⟨(xIn5 216 rfl rfl), (xIn1 1 rfl rfl), by decide, by decide, by decide, by decide +kernel⟩, (xIn5 214 rfl rfl), (xIn5 215 rfl rfl)⟩
set_option maxRecDepth 20000 in
theorem okX11_shared : xOkV mX11_shared 2 := ⟨⟨(xIn5 220 rfl rfl), (xIn1 1 rfl rfl), by decide, by decide, by decide, by decide +kernel⟩, (xIn5 218 rfl rfl), (xIn5 219 rfl rfl)⟩
set_option maxRecDepth 20000 in
theorem okX11_cycles : xOkV mX11_cycles 1 := ⟨⟨(xIn5 233 rfl rfl), (xIn1 1 rfl rfl), by decide, by decide, by decide, by decide +kernel⟩, (xIn5 231 rfl rfl), (xIn5 232 rfl rfl)⟩
set_option maxRecDepth 20000 in
theorem okX11_nucleus : xOkV mX11_nucleus 2 := ⟨⟨(xIn6 1 rfl rfl), (xIn1 1 rfl rfl), by decide, by decide, by decide, by decide +kernel⟩, (xIn5 239 rfl rfl), (xIn6 0 rfl rfl)⟩
set_option maxRecDepth 20000 in
theorem okX11_laws : xOkV mX11_laws 3 := ⟨⟨(xIn6 9 rfl rfl), (xIn1 1 rfl rfl), by decide, by decide, by decide, by decide +kernel⟩, (xIn6 7 rfl rfl), (xIn6 8 rfl rfl)⟩
set_option maxRecDepth 20000 in
theorem okX11_bracketed : xOkV mX11_bracketed 2 := ⟨⟨(xIn6 34 rfl rfl), (xIn1 1 rfl rfl), by decide, by decide, by decide, by decide +kernel⟩, (xIn6 32 rfl rfl), (xIn6 33 rfl rfl)⟩
set_option maxRecDepth 20000 in
theorem okX11_rests : xOkV mX11_rests 3 := ⟨⟨(xIn6 47 rfl rfl), (xIn1 1 rfl rfl), by decide, by decide, by decide, by decide +kernel⟩, (xIn6 45 rfl rfl), (xIn6 46 rfl rfl)⟩
set_option maxRecDepth 20000 in
theorem okX11_keep : xOkV mX11_keep 0 := ⟨⟨(xIn6 55 rfl rfl), (xIn1 1 rfl rfl), by decide, by decide, by decide, by decide +kernel⟩, (xIn6 53 rfl rfl), (xIn6 54 rfl rfl)⟩
set_option maxRecDepth 20000 in
theorem okX11_restore : xOkV mX11_restore 0 := ⟨⟨(xIn6 64 rfl rfl), (xIn1 1 rfl rfl), by decide, by decide, by decide, by decide +kernel⟩, (xIn6 62 rfl rfl), (xIn6 63 rfl rfl)⟩
set_option maxRecDepth 20000 in
theorem okX11_count : xOkV mX11_count 1 := ⟨⟨(xIn6 72 rfl rfl), (xIn1 1 rfl rfl), by decide, by decide, by decide, by decide +kernel⟩, (xIn6 70 rfl rfl), (xIn6 71 rfl rfl)⟩
set_option maxRecDepth 20000 in
theorem okX11_isEighth : xOkS mX11_isEighth 1 := ⟨⟨(xIn2 144 rfl rfl), (xIn1 1 rfl rfl), by decide, by decide, by decide, by decide +kernel⟩, (xIn2 143 rfl rfl)⟩
set_option maxRecDepth 20000 in
theorem okX11_areSlots : xOkS mX11_areSlots 2 := ⟨⟨(xIn2 202 rfl rfl), (xIn1 1 rfl rfl), by decide, by decide, by decide, by decide +kernel⟩, (xIn2 201 rfl rfl)⟩
set_option maxRecDepth 20000 in
theorem okX11_areSlots_ : xOkS mX11_areSlots_ 3 := ⟨⟨(xIn2 219 rfl rfl), (xIn1 1 rfl rfl), by decide, by decide, by decide, by decide +kernel⟩, (xIn2 218 rfl rfl)⟩
set_option maxRecDepth 20000 in
theorem okX11_isSlotSet : xOkS mX11_isSlotSet 1 := ⟨⟨(xIn5 135 rfl rfl), (xIn1 1 rfl rfl), by decide, by decide, by decide, by decide +kernel⟩, (xIn5 134 rfl rfl)⟩
set_option maxRecDepth 20000 in
theorem okX11_isTurn : xOkS mX11_isTurn 1 := ⟨⟨(xIn3 32 rfl rfl), (xIn1 1 rfl rfl), by decide, by decide, by decide, by decide +kernel⟩, (xIn3 31 rfl rfl)⟩
set_option maxRecDepth 20000 in
theorem okX11_isListedNorm : xOkS mX11_isListedNorm 1 := ⟨⟨(xIn2 161 rfl rfl), (xIn1 1 rfl rfl), by decide, by decide, by decide, by decide +kernel⟩, (xIn2 160 rfl rfl)⟩
set_option maxRecDepth 20000 in
theorem okX11_isDivisor : xOkS mX11_isDivisor 1 := ⟨⟨(xIn3 136 rfl rfl), (xIn1 1 rfl rfl), by decide, by decide, by decide, by decide +kernel⟩, (xIn3 135 rfl rfl)⟩
set_option maxRecDepth 20000 in
theorem okX11_isRow : xOkS mX11_isRow 3 := ⟨⟨(xIn3 45 rfl rfl), (xIn1 1 rfl rfl), by decide, by decide, by decide, by decide +kernel⟩, (xIn3 44 rfl rfl)⟩
set_option maxRecDepth 20000 in
theorem okX11_slotOfRow : xOkS mX11_slotOfRow 2 := ⟨⟨(xIn3 48 rfl rfl), (xIn1 1 rfl rfl), by decide, by decide, by decide, by decide +kernel⟩, (xIn3 47 rfl rfl)⟩
set_option maxRecDepth 20000 in
theorem okX11_told : xOkS mX11_told 1 := ⟨⟨(xIn2 231 rfl rfl), (xIn1 1 rfl rfl), by decide, by decide, by decide, by decide +kernel⟩, (xIn2 230 rfl rfl)⟩
set_option maxRecDepth 20000 in
theorem okX11_asked : xOkS mX11_asked 1 := ⟨⟨(xIn5 25 rfl rfl), (xIn1 1 rfl rfl), by decide, by decide, by decide, by decide +kernel⟩, (xIn5 24 rfl rfl)⟩
set_option maxRecDepth 20000 in
theorem okX11_capped : xOkS mX11_capped 1 := ⟨⟨(xIn4 19 rfl rfl), (xIn1 1 rfl rfl), by decide, by decide, by decide, by decide +kernel⟩, (xIn4 18 rfl rfl)⟩
set_option maxRecDepth 20000 in
theorem okX11_spellPart : xOkV mX11_spellPart 2 := ⟨⟨(xIn4 89 rfl rfl), (xIn1 1 rfl rfl), by decide, by decide, by decide, by decide +kernel⟩, (xIn4 88 rfl rfl), (xInP2 1 rfl)⟩
set_option maxRecDepth 20000 in
theorem okX11_isDivisorAt : xOkV mX11_isDivisorAt 4 := ⟨⟨(xIn5 72 rfl rfl), (xIn1 1 rfl rfl), by decide, by decide, by decide, by decide +kernel⟩, (xIn5 71 rfl rfl), (xInP2 2 rfl)⟩
set_option maxRecDepth 20000 in
theorem okX11_areAlike : xOkV mX11_areAlike 3 := ⟨⟨(xIn5 102 rfl rfl), (xIn1 1 rfl rfl), by decide, by decide, by decide, by decide +kernel⟩, (xIn5 101 rfl rfl), (xInP2 3 rfl)⟩
set_option maxRecDepth 20000 in
theorem okX11_doCommute : xOkV mX11_doCommute 2 := ⟨⟨(xIn5 115 rfl rfl), (xIn1 1 rfl rfl), by decide, by decide, by decide, by decide +kernel⟩, (xIn5 114 rfl rfl), (xInP2 4 rfl)⟩
set_option maxRecDepth 20000 in
theorem okX11_doAssociate : xOkV mX11_doAssociate 3 := ⟨⟨(xIn6 5 rfl rfl), (xIn1 1 rfl rfl), by decide, by decide, by decide, by decide +kernel⟩, (xIn6 4 rfl rfl), (xInP2 13 rfl)⟩
set_option maxRecDepth 20000 in
theorem okX11_wholeSlots : xOkV mX11_wholeSlots 0 := ⟨⟨(xIn6 76 rfl rfl), (xIn1 1 rfl rfl), by decide, by decide, by decide, by decide +kernel⟩, (xIn6 75 rfl rfl), (xInP3 2 rfl)⟩
set_option maxRecDepth 20000 in
theorem okX11_emptySlots : xOkV mX11_emptySlots 0 := ⟨⟨(xIn6 80 rfl rfl), (xIn1 1 rfl rfl), by decide, by decide, by decide, by decide +kernel⟩, (xIn6 79 rfl rfl), (xInP3 3 rfl)⟩
set_option maxRecDepth 20000 in
theorem okX12_in : xOkS mX12_in 3 := ⟨⟨(xIn6 213 rfl rfl), (xIn1 16 rfl rfl), by decide, by decide, by decide, by decide +kernel⟩, (xIn6 212 rfl rfl)⟩
set_option maxRecDepth 20000 in
theorem okX12_has : xOkS mX12_has 2 := ⟨⟨(xIn7 14 rfl rfl), (xIn1 16 rfl rfl), by decide, by decide, by decide, by decide +kernel⟩, (xIn7 13 rfl rfl)⟩
set_option maxRecDepth 20000 in
theorem okX12_bitsOf : xOkS mX12_bitsOf 1 := ⟨⟨(xIn7 20 rfl rfl), (xIn1 16 rfl rfl), by decide, by decide, by decide, by decide +kernel⟩, (xIn7 19 rfl rfl)⟩
set_option maxRecDepth 20000 in
theorem okX12_init : xOkI mX12_init 0 := ⟨⟨(xIn6 85 rfl rfl), (xIn1 16 rfl rfl), by decide, by decide, by decide, by decide +kernel⟩, (xIn6 84 rfl rfl), rfl, rfl⟩
set_option maxRecDepth 20000 in
theorem okX12_isSlot : xOkS mX12_isSlot 1 := ⟨⟨(xIn6 209 rfl rfl), (xIn1 16 rfl rfl), by decide, by decide, by decide, by decide +kernel⟩, (xIn6 208 rfl rfl)⟩
set_option maxRecDepth 20000 in
theorem okX12_isPart : xOkS mX12_isPart 1 := ⟨⟨(xIn6 216 rfl rfl), (xIn1 16 rfl rfl), by decide, by decide, by decide, by decide +kernel⟩, (xIn6 215 rfl rfl)⟩
set_option maxRecDepth 20000 in
theorem okX12_becomes : xOkV mX12_becomes 2 := ⟨⟨(xIn7 32 rfl rfl), (xIn1 16 rfl rfl), by decide, by decide, by decide, by decide +kernel⟩, (xIn7 31 rfl rfl), (xInP3 8 rfl)⟩
set_option maxRecDepth 20000 in
theorem okX12_nought : xOkV mX12_nought 1 := ⟨⟨(xIn6 226 rfl rfl), (xIn1 16 rfl rfl), by decide, by decide, by decide, by decide +kernel⟩, (xIn6 225 rfl rfl), (xInP3 4 rfl)⟩
set_option maxRecDepth 20000 in
theorem okX12_areSame : xOkV mX12_areSame 2 := ⟨⟨(xIn7 199 rfl rfl), (xIn1 16 rfl rfl), by decide, by decide, by decide, by decide +kernel⟩, (xIn7 198 rfl rfl), (xInP4 9 rfl)⟩
set_option maxRecDepth 20000 in
theorem okX12_isNought : xOkV mX12_isNought 1 := ⟨⟨(xIn7 169 rfl rfl), (xIn1 16 rfl rfl), by decide, by decide, by decide, by decide +kernel⟩, (xIn7 168 rfl rfl), (xInP4 6 rfl)⟩
set_option maxRecDepth 20000 in
theorem okX12_comes : xOkV mX12_comes 1 := ⟨⟨(xIn7 51 rfl rfl), (xIn1 16 rfl rfl), by decide, by decide, by decide, by decide +kernel⟩, (xIn7 50 rfl rfl), (xInP3 10 rfl)⟩
set_option maxRecDepth 20000 in
theorem okX12_isProduct : xOkV mX12_isProduct 4 := ⟨⟨(xIn7 70 rfl rfl), (xIn1 16 rfl rfl), by decide, by decide, by decide, by decide +kernel⟩, (xIn7 69 rfl rfl), (xInP3 12 rfl)⟩
set_option maxRecDepth 20000 in
theorem okX12_multiplies : xOkV mX12_multiplies 3 := ⟨⟨(xIn7 66 rfl rfl), (xIn1 16 rfl rfl), by decide, by decide, by decide, by decide +kernel⟩, (xIn7 65 rfl rfl), (xInP3 11 rfl)⟩
set_option maxRecDepth 20000 in
theorem okX12_adds : xOkV mX12_adds 4 := ⟨⟨(xIn7 47 rfl rfl), (xIn1 16 rfl rfl), by decide, by decide, by decide, by decide +kernel⟩, (xIn7 46 rfl rfl), (xInP3 9 rfl)⟩
set_option maxRecDepth 20000 in
theorem okX12_mirrors : xOkV mX12_mirrors 2 := ⟨⟨(xIn7 79 rfl rfl), (xIn1 16 rfl rfl), by decide, by decide, by decide, by decide +kernel⟩, (xIn7 78 rfl rfl), (xInP3 13 rfl)⟩
set_option maxRecDepth 20000 in
theorem okX12_normOf : xOkV mX12_normOf 1 := ⟨⟨(xIn7 156 rfl rfl), (xIn1 16 rfl rfl), by decide, by decide, by decide, by decide +kernel⟩, (xIn7 155 rfl rfl), (xInP4 4 rfl)⟩
set_option maxRecDepth 20000 in
theorem okX12_held : xOkS mX12_held 1 := ⟨⟨(xIn7 177 rfl rfl), (xIn1 16 rfl rfl), by decide, by decide, by decide, by decide +kernel⟩, (xIn7 176 rfl rfl)⟩
set_option maxRecDepth 20000 in
theorem okX12_oddOf : xOkV mX12_oddOf 1 := ⟨⟨(xIn8 35 rfl rfl), (xIn1 16 rfl rfl), by decide, by decide, by decide, by decide +kernel⟩, (xIn8 34 rfl rfl), (xInP5 3 rfl)⟩
set_option maxRecDepth 20000 in
theorem okX12_isCode : xOkS mX12_isCode 1 := ⟨⟨(xIn7 17 rfl rfl), (xIn1 16 rfl rfl), by decide, by decide, by decide, by decide +kernel⟩, (xIn7 16 rfl rfl)⟩
set_option maxRecDepth 20000 in
theorem okX12_isOf : xOkS mX12_isOf 2 := ⟨⟨(xIn7 11 rfl rfl), (xIn1 16 rfl rfl), by decide, by decide, by decide, by decide +kernel⟩, (xIn7 10 rfl rfl)⟩
set_option maxRecDepth 20000 in
theorem okX12_isWhole : xOkV mX12_isWhole 1 := ⟨⟨(xIn8 43 rfl rfl), (xIn1 16 rfl rfl), by decide, by decide, by decide, by decide +kernel⟩, (xIn8 42 rfl rfl), (xInP5 4 rfl)⟩
set_option maxRecDepth 20000 in
theorem okX12_isUnit : xOkV mX12_isUnit 1 := ⟨⟨(xIn8 161 rfl rfl), (xIn1 16 rfl rfl), by decide, by decide, by decide, by decide +kernel⟩, (xIn8 160 rfl rfl), (xInP6 0 rfl)⟩
set_option maxRecDepth 20000 in
theorem okX12_listFrom : xOkS mX12_listFrom 1 := ⟨⟨(xIn7 5 rfl rfl), (xIn1 16 rfl rfl), by decide, by decide, by decide, by decide +kernel⟩, (xIn7 4 rfl rfl)⟩
set_option maxRecDepth 20000 in
theorem okX12_oddIn : xOkS mX12_oddIn 1 := ⟨⟨(xIn7 8 rfl rfl), (xIn1 16 rfl rfl), by decide, by decide, by decide, by decide +kernel⟩, (xIn7 7 rfl rfl)⟩
set_option maxRecDepth 20000 in
theorem okX12_laysList : xOkV mX12_laysList 2 := ⟨⟨(xIn7 2 rfl rfl), (xIn1 16 rfl rfl), by decide, by decide, by decide, by decide +kernel⟩, (xIn7 1 rfl rfl), (xInP3 6 rfl)⟩
set_option maxRecDepth 20000 in
theorem okX12_isNorm : xOkS mX12_isNorm 1 := ⟨⟨(xIn6 233 rfl rfl), (xIn1 16 rfl rfl), by decide, by decide, by decide, by decide +kernel⟩, (xIn6 232 rfl rfl)⟩
set_option maxRecDepth 20000 in
theorem okX12_listSize : xOkV mX12_listSize 1 := ⟨⟨(xIn6 238 rfl rfl), (xIn1 16 rfl rfl), by decide, by decide, by decide, by decide +kernel⟩, (xIn6 237 rfl rfl), (xInP3 5 rfl)⟩
set_option maxRecDepth 20000 in
theorem okX12_brings : xOkV mX12_brings 3 := ⟨⟨(xIn7 24 rfl rfl), (xIn1 16 rfl rfl), by decide, by decide, by decide, by decide +kernel⟩, (xIn7 23 rfl rfl), (xInP3 7 rfl)⟩
set_option maxRecDepth 20000 in
theorem okX12_against : xOkV mX12_against 3 := ⟨⟨(xIn8 72 rfl rfl), (xIn1 16 rfl rfl), by decide, by decide, by decide, by decide +kernel⟩, (xIn8 71 rfl rfl), (xInP5 6 rfl)⟩
set_option maxRecDepth 20000 in
theorem okX12_numberOf : xOkV mX12_numberOf 1 := ⟨⟨(xIn8 67 rfl rfl), (xIn1 16 rfl rfl), by decide, by decide, by decide, by decide +kernel⟩, (xIn8 66 rfl rfl), (xInP5 5 rfl)⟩
set_option maxRecDepth 20000 in
theorem okX12_put : xOkV mX12_put 3 := ⟨⟨(xIn6 206 rfl rfl), (xIn1 16 rfl rfl), by decide, by decide, by decide, by decide +kernel⟩, (xIn6 204 rfl rfl), (xIn6 205 rfl rfl)⟩
set_option maxRecDepth 20000 in
theorem okX12_one : xOkV mX12_one 2 := ⟨⟨(xIn6 222 rfl rfl), (xIn1 16 rfl rfl), by decide, by decide, by decide, by decide +kernel⟩, (xIn6 220 rfl rfl), (xIn6 221 rfl rfl)⟩
set_option maxRecDepth 20000 in
theorem okX12_listed : xOkV mX12_listed 3 := ⟨⟨(xIn6 230 rfl rfl), (xIn1 16 rfl rfl), by decide, by decide, by decide, by decide +kernel⟩, (xIn6 228 rfl rfl), (xIn6 229 rfl rfl)⟩
set_option maxRecDepth 20000 in
theorem okX12_copy : xOkV mX12_copy 2 := ⟨⟨(xIn7 28 rfl rfl), (xIn1 16 rfl rfl), by decide, by decide, by decide, by decide +kernel⟩, (xIn7 26 rfl rfl), (xIn7 27 rfl rfl)⟩
set_option maxRecDepth 20000 in
theorem okX12_order : xOkV mX12_order 1 := ⟨⟨(xIn7 36 rfl rfl), (xIn1 16 rfl rfl), by decide, by decide, by decide, by decide +kernel⟩, (xIn7 34 rfl rfl), (xIn7 35 rfl rfl)⟩
set_option maxRecDepth 20000 in
theorem okX12_can : xOkS mX12_can 1 := ⟨⟨(xIn7 54 rfl rfl), (xIn1 16 rfl rfl), by decide, by decide, by decide, by decide +kernel⟩, (xIn7 53 rfl rfl)⟩
set_option maxRecDepth 20000 in
theorem okX12_ends : xOkV mX12_ends 3 := ⟨⟨(xIn7 100 rfl rfl), (xIn1 16 rfl rfl), by decide, by decide, by decide, by decide +kernel⟩, (xIn7 99 rfl rfl), (xInP3 15 rfl)⟩
set_option maxRecDepth 20000 in
theorem okX12_areSlots : xOkS mX12_areSlots 3 := ⟨⟨(xIn7 43 rfl rfl), (xIn1 16 rfl rfl), by decide, by decide, by decide, by decide +kernel⟩, (xIn7 42 rfl rfl)⟩
set_option maxRecDepth 20000 in
theorem okX12_sum : xOkV mX12_sum 3 := ⟨⟨(xIn7 40 rfl rfl), (xIn1 16 rfl rfl), by decide, by decide, by decide, by decide +kernel⟩, (xIn7 38 rfl rfl), (xIn7 39 rfl rfl)⟩
set_option maxRecDepth 20000 in
theorem okX12_less : xOkV mX12_less 3 := ⟨⟨(xIn7 58 rfl rfl), (xIn1 16 rfl rfl), by decide, by decide, by decide, by decide +kernel⟩, (xIn7 56 rfl rfl), (xIn7 57 rfl rfl)⟩
set_option maxRecDepth 20000 in
theorem okX12_product : xOkV mX12_product 3 := ⟨⟨(xIn7 62 rfl rfl), (xIn1 16 rfl rfl), by decide, by decide, by decide, by decide +kernel⟩, (xIn7 60 rfl rfl), (xIn7 61 rfl rfl)⟩
set_option maxRecDepth 20000 in
theorem okX12_mirror : xOkV mX12_mirror 2 := ⟨⟨(xIn7 75 rfl rfl), (xIn1 16 rfl rfl), by decide, by decide, by decide, by decide +kernel⟩, (xIn7 73 rfl rfl), (xIn7 74 rfl rfl)⟩
set_option maxRecDepth 20000 in
theorem okX12_times : xOkV mX12_times 3 := ⟨⟨(xIn7 83 rfl rfl), (xIn1 16 rfl rfl), by decide, by decide, by decide, by decide +kernel⟩, (xIn7 81 rfl rfl), (xIn7 82 rfl rfl)⟩
set_option maxRecDepth 20000 in
theorem okX12_isTurn : xOkS mX12_isTurn 1 := ⟨⟨(xIn7 92 rfl rfl), (xIn1 16 rfl rfl), by decide, by decide, by decide, by decide +kernel⟩, (xIn7 91 rfl rfl)⟩
set_option maxRecDepth 20000 in
theorem okX12_turns : xOkV mX12_turns 4 := ⟨⟨(xIn7 96 rfl rfl), (xIn1 16 rfl rfl), by decide, by decide, by decide, by decide +kernel⟩, (xIn7 95 rfl rfl), (xInP3 14 rfl)⟩
set_option maxRecDepth 20000 in
theorem okX12_turn : xOkV mX12_turn 4 := ⟨⟨(xIn7 89 rfl rfl), (xIn1 16 rfl rfl), by decide, by decide, by decide, by decide +kernel⟩, (xIn7 87 rfl rfl), (xIn7 88 rfl rfl)⟩
set_option maxRecDepth 20000 in
theorem okX12_isRow : xOkS mX12_isRow 3 := ⟨⟨(xIn7 107 rfl rfl), (xIn1 16 rfl rfl), by decide, by decide, by decide, by decide +kernel⟩, (xIn7 106 rfl rfl)⟩
set_option maxRecDepth 20000 in
theorem okX12_slotIn : xOkS mX12_slotIn 2 := ⟨⟨(xIn7 111 rfl rfl), (xIn1 16 rfl rfl), by decide, by decide, by decide, by decide +kernel⟩, (xIn7 110 rfl rfl)⟩
set_option maxRecDepth 20000 in
theorem okX12_chain : xOkV mX12_chain 5 := ⟨⟨(xIn7 104 rfl rfl), (xIn1 16 rfl rfl), by decide, by decide, by decide, by decide +kernel⟩, (xIn7 102 rfl rfl), (xIn7 103 rfl rfl)⟩
set_option maxRecDepth 20000 in
theorem okX12_powers : xOkV mX12_powers 3 := ⟨⟨(xIn7 120 rfl rfl), (xIn1 16 rfl rfl), by decide, by decide, by decide, by decide +kernel⟩, (xIn7 119 rfl rfl), (xInP4 0 rfl)⟩
set_option maxRecDepth 20000 in
theorem okX12_power : xOkV mX12_power 3 := ⟨⟨(xIn7 115 rfl rfl), (xIn1 16 rfl rfl), by decide, by decide, by decide, by decide +kernel⟩, (xIn7 113 rfl rfl), (xIn7 114 rfl rfl)⟩
set_option maxRecDepth 20000 in
theorem okX12_associator : xOkV mX12_associator 4 := ⟨⟨(xIn7 124 rfl rfl), (xIn1 16 rfl rfl), by decide, by decide, by decide, by decide +kernel⟩, (xIn7 122 rfl rfl), (xIn7 123 rfl rfl)⟩
set_option maxRecDepth 20000 in
theorem okX12_commutator : xOkV mX12_commutator 3 := ⟨⟨(xIn7 128 rfl rfl), (xIn1 16 rfl rfl), by decide, by decide, by decide, by decide +kernel⟩, (xIn7 126 rfl rfl), (xIn7 127 rfl rfl)⟩
set_option maxRecDepth 20000 in
theorem okX12_near : xOkS mX12_near 3 := ⟨⟨(xIn7 140 rfl rfl), (xIn1 16 rfl rfl), by decide, by decide, by decide, by decide +kernel⟩, (xIn7 139 rfl rfl)⟩
set_option maxRecDepth 20000 in
theorem okX12_isAhead : xOkV mX12_isAhead 0 := ⟨⟨(xIn7 144 rfl rfl), (xIn1 16 rfl rfl), by decide, by decide, by decide, by decide +kernel⟩, (xIn7 143 rfl rfl), (xInP4 2 rfl)⟩
set_option maxRecDepth 20000 in
theorem okX12_nears : xOkV mX12_nears 1 := ⟨⟨(xIn7 136 rfl rfl), (xIn1 16 rfl rfl), by decide, by decide, by decide, by decide +kernel⟩, (xIn7 135 rfl rfl), (xInP4 1 rfl)⟩
set_option maxRecDepth 20000 in
theorem okX12_nearest : xOkV mX12_nearest 3 := ⟨⟨(xIn7 132 rfl rfl), (xIn1 16 rfl rfl), by decide, by decide, by decide, by decide +kernel⟩, (xIn7 130 rfl rfl), (xIn7 131 rfl rfl)⟩
set_option maxRecDepth 20000 in
theorem okX12_divides : xOkV mX12_divides 2 := ⟨⟨(xIn7 152 rfl rfl), (xIn1 16 rfl rfl), by decide, by decide, by decide, by decide +kernel⟩, (xIn7 151 rfl rfl), (xInP4 3 rfl)⟩
set_option maxRecDepth 20000 in
theorem okX12_divide : xOkV mX12_divide 4 := ⟨⟨(xIn7 148 rfl rfl), (xIn1 16 rfl rfl), by decide, by decide, by decide, by decide +kernel⟩, (xIn7 146 rfl rfl), (xIn7 147 rfl rfl)⟩
set_option maxRecDepth 20000 in
theorem okX12_goesOn : xOkV mX12_goesOn 2 := ⟨⟨(xIn7 165 rfl rfl), (xIn1 16 rfl rfl), by decide, by decide, by decide, by decide +kernel⟩, (xIn7 164 rfl rfl), (xInP4 5 rfl)⟩
set_option maxRecDepth 20000 in
theorem okX12_last : xOkV mX12_last 3 := ⟨⟨(xIn7 161 rfl rfl), (xIn1 16 rfl rfl), by decide, by decide, by decide, by decide +kernel⟩, (xIn7 159 rfl rfl), (xIn7 160 rfl rfl)⟩
set_option maxRecDepth 20000 in
theorem okX12_rests : xOkV mX12_rests 3 := ⟨⟨(xIn7 174 rfl rfl), (xIn1 16 rfl rfl), by decide, by decide, by decide, by decide +kernel⟩, (xIn7 172 rfl rfl), (xIn7 173 rfl rfl)⟩
set_option maxRecDepth 20000 in
theorem okX12_laysWays : xOkV mX12_laysWays 2 := ⟨⟨(xIn7 187 rfl rfl), (xIn1 16 rfl rfl), by decide, by decide, by decide, by decide +kernel⟩, (xIn7 186 rfl rfl), (xInP4 7 rfl)⟩
set_option maxRecDepth 20000 in
theorem okX12_joins : xOkV mX12_joins 3 := ⟨⟨(xIn7 191 rfl rfl), (xIn1 16 rfl rfl), by decide, by decide, by decide, by decide +kernel⟩, (xIn7 190 rfl rfl), (xInP4 8 rfl)⟩
set_option maxRecDepth 20000 in
theorem okX12_bracket : xOkV mX12_bracket 4 := ⟨⟨(xIn7 183 rfl rfl), (xIn1 16 rfl rfl), by decide, by decide, by decide, by decide +kernel⟩, (xIn7 181 rfl rfl), (xIn7 182 rfl rfl)⟩
set_option maxRecDepth 20000 in
theorem okX12_bracketed : xOkV mX12_bracketed 2 := ⟨⟨(xIn7 195 rfl rfl), (xIn1 16 rfl rfl), by decide, by decide, by decide, by decide +kernel⟩, (xIn7 193 rfl rfl), (xIn7 194 rfl rfl)⟩
set_option maxRecDepth 20000 in
theorem okX12_feed : xOkV mX12_feed 5 := ⟨⟨(xIn7 203 rfl rfl), (xIn1 16 rfl rfl), by decide, by decide, by decide, by decide +kernel⟩, (xIn7 201 rfl rfl), (xIn7 202 rfl rfl)⟩
set_option maxRecDepth 20000 in
theorem okX12_back : xOkV mX12_back 1 := ⟨⟨(xIn7 207 rfl rfl), (xIn1 16 rfl rfl), by decide, by decide, by decide, by decide +kernel⟩, (xIn7 205 rfl rfl), (xIn7 206 rfl rfl)⟩
set_option maxRecDepth 20000 in
theorem okX12_opens : xOkV mX12_opens 1 := ⟨⟨(xIn7 223 rfl rfl), (xIn1 16 rfl rfl), by decide, by decide, by decide, by decide +kernel⟩, (xIn7 222 rfl rfl), (xInP4 12 rfl)⟩
set_option maxRecDepth 20000 in
theorem okX12_factors : xOkV mX12_factors 1 := ⟨⟨(xIn7 229 rfl rfl), (xIn1 16 rfl rfl), by decide, by decide, by decide, by decide +kernel⟩, (xIn7 228 rfl rfl), (xInP4 13 rfl)⟩
set_option maxRecDepth 20000 in
theorem okX12_sums : xOkV mX12_sums 0 := ⟨⟨(xIn7 239 rfl rfl), (xIn1 16 rfl rfl), by decide, by decide, by decide, by decide +kernel⟩, (xIn7 238 rfl rfl), (xInP4 15 rfl)⟩
set_option maxRecDepth 20000 in
theorem okX12_begins : xOkV mX12_begins 1 := ⟨⟨(xIn7 219 rfl rfl), (xIn1 16 rfl rfl), by decide, by decide, by decide, by decide +kernel⟩, (xIn7 218 rfl rfl), (xInP4 11 rfl)⟩
set_option maxRecDepth 20000 in
theorem okX12_follows : xOkV mX12_follows 1 := ⟨⟨(xIn7 235 rfl rfl), (xIn1 16 rfl rfl), by decide, by decide, by decide, by decide +kernel⟩, (xIn7 234 rfl rfl), (xInP4 14 rfl)⟩
set_option maxRecDepth 20000 in
theorem okX12_works : xOkV mX12_works 0 := ⟨⟨(xIn7 215 rfl rfl), (xIn1 16 rfl rfl), by decide, by decide, by decide, by decide +kernel⟩, (xIn7 214 rfl rfl), (xInP4 10 rfl)⟩
set_option maxRecDepth 20000 in
theorem okX12_work : xOkV mX12_work 1 := ⟨⟨(xIn7 211 rfl rfl), (xIn1 16 rfl rfl), by decide, by decide, by decide, by decide +kernel⟩, (xIn7 209 rfl rfl), (xIn7 210 rfl rfl)⟩
set_option maxRecDepth 20000 in
theorem okX12_part : xOkV mX12_part 2 := ⟨⟨(xIn8 3 rfl rfl), (xIn1 16 rfl rfl), by decide, by decide, by decide, by decide +kernel⟩, (xIn8 1 rfl rfl), (xIn8 2 rfl rfl)⟩
set_option maxRecDepth 20000 in
theorem okX12_norm : xOkV mX12_norm 1 := ⟨⟨(xIn8 7 rfl rfl), (xIn1 16 rfl rfl), by decide, by decide, by decide, by decide +kernel⟩, (xIn8 5 rfl rfl), (xIn8 6 rfl rfl)⟩
set_option maxRecDepth 20000 in
theorem okX12_writes : xOkV mX12_writes 1 := ⟨⟨(xIn8 19 rfl rfl), (xIn1 16 rfl rfl), by decide, by decide, by decide, by decide +kernel⟩, (xIn8 18 rfl rfl), (xInP5 1 rfl)⟩
set_option maxRecDepth 20000 in
theorem okX12_writesNumber : xOkV mX12_writesNumber 1 := ⟨⟨(xIn8 23 rfl rfl), (xIn1 16 rfl rfl), by decide, by decide, by decide, by decide +kernel⟩, (xIn8 22 rfl rfl), (xInP5 2 rfl)⟩
set_option maxRecDepth 20000 in
theorem okX12_writesAll : xOkV mX12_writesAll 1 := ⟨⟨(xIn8 15 rfl rfl), (xIn1 16 rfl rfl), by decide, by decide, by decide, by decide +kernel⟩, (xIn8 14 rfl rfl), (xInP5 0 rfl)⟩
set_option maxRecDepth 20000 in
theorem okX12_spell : xOkV mX12_spell 2 := ⟨⟨(xIn8 11 rfl rfl), (xIn1 16 rfl rfl), by decide, by decide, by decide, by decide +kernel⟩, (xIn8 9 rfl rfl), (xIn8 10 rfl rfl)⟩
set_option maxRecDepth 20000 in
theorem okX12_turned : xOkV mX12_turned 4 := ⟨⟨(xIn8 27 rfl rfl), (xIn1 16 rfl rfl), by decide, by decide, by decide, by decide +kernel⟩, (xIn8 25 rfl rfl), (xIn8 26 rfl rfl)⟩
set_option maxRecDepth 20000 in
theorem okX12_odd : xOkV mX12_odd 1 := ⟨⟨(xIn8 31 rfl rfl), (xIn1 16 rfl rfl), by decide, by decide, by decide, by decide +kernel⟩, (xIn8 29 rfl rfl), (xIn8 30 rfl rfl)⟩
set_option maxRecDepth 20000 in
theorem okX12_whole : xOkV mX12_whole 1 := ⟨⟨(xIn8 39 rfl rfl), (xIn1 16 rfl rfl), by decide, by decide, by decide, by decide +kernel⟩, (xIn8 37 rfl rfl), (xIn8 38 rfl rfl)⟩
set_option maxRecDepth 20000 in
theorem okX12_orders : xOkV mX12_orders 1 := ⟨⟨(xIn8 47 rfl rfl), (xIn1 16 rfl rfl), by decide, by decide, by decide, by decide +kernel⟩, (xIn8 45 rfl rfl), (xIn8 46 rfl rfl)⟩
set_option maxRecDepth 20000 in
theorem okX12_same : xOkV mX12_same 2 := ⟨⟨(xIn8 51 rfl rfl), (xIn1 16 rfl rfl), by decide, by decide, by decide, by decide +kernel⟩, (xIn8 49 rfl rfl), (xIn8 50 rfl rfl)⟩
set_option maxRecDepth 20000 in
theorem okX12_many : xOkV mX12_many 1 := ⟨⟨(xIn8 55 rfl rfl), (xIn1 16 rfl rfl), by decide, by decide, by decide, by decide +kernel⟩, (xIn8 53 rfl rfl), (xIn8 54 rfl rfl)⟩
set_option maxRecDepth 20000 in
theorem okX12_listedPart : xOkV mX12_listedPart 3 := ⟨⟨(xIn8 59 rfl rfl), (xIn1 16 rfl rfl), by decide, by decide, by decide, by decide +kernel⟩, (xIn8 57 rfl rfl), (xIn8 58 rfl rfl)⟩
set_option maxRecDepth 20000 in
theorem okX12_place : xOkV mX12_place 1 := ⟨⟨(xIn8 63 rfl rfl), (xIn1 16 rfl rfl), by decide, by decide, by decide, by decide +kernel⟩, (xIn8 61 rfl rfl), (xIn8 62 rfl rfl)⟩
set_option maxRecDepth 20000 in
theorem okX12_isWholeBy : xOkV mX12_isWholeBy 1 := ⟨⟨(xIn8 88 rfl rfl), (xIn1 16 rfl rfl), by decide, by decide, by decide, by decide +kernel⟩, (xIn8 87 rfl rfl), (xInP5 9 rfl)⟩
set_option maxRecDepth 20000 in
theorem okX12_isDivisor : xOkV mX12_isDivisor 4 := ⟨⟨(xIn8 84 rfl rfl), (xIn1 16 rfl rfl), by decide, by decide, by decide, by decide +kernel⟩, (xIn8 83 rfl rfl), (xInP5 8 rfl)⟩
set_option maxRecDepth 20000 in
theorem okX12_divisorsOf : xOkV mX12_divisorsOf 4 := ⟨⟨(xIn8 80 rfl rfl), (xIn1 16 rfl rfl), by decide, by decide, by decide, by decide +kernel⟩, (xIn8 79 rfl rfl), (xInP5 7 rfl)⟩
set_option maxRecDepth 20000 in
theorem okX12_divisors : xOkV mX12_divisors 3 := ⟨⟨(xIn8 76 rfl rfl), (xIn1 16 rfl rfl), by decide, by decide, by decide, by decide +kernel⟩, (xIn8 74 rfl rfl), (xIn8 75 rfl rfl)⟩
set_option maxRecDepth 20000 in
theorem okX12_divisor : xOkV mX12_divisor 4 := ⟨⟨(xIn8 92 rfl rfl), (xIn1 16 rfl rfl), by decide, by decide, by decide, by decide +kernel⟩, (xIn8 90 rfl rfl), (xIn8 91 rfl rfl)⟩
set_option maxRecDepth 20000 in
theorem okX12_innerOf : xOkV mX12_innerOf 2 := ⟨⟨(xIn8 100 rfl rfl), (xIn1 16 rfl rfl), by decide, by decide, by decide, by decide +kernel⟩, (xIn8 99 rfl rfl), (xInP5 10 rfl)⟩
set_option maxRecDepth 20000 in
theorem okX12_inner : xOkV mX12_inner 2 := ⟨⟨(xIn8 96 rfl rfl), (xIn1 16 rfl rfl), by decide, by decide, by decide, by decide +kernel⟩, (xIn8 94 rfl rfl), (xIn8 95 rfl rfl)⟩
set_option maxRecDepth 20000 in
theorem okX12_angles : xOkV mX12_angles 3 := ⟨⟨(xIn8 104 rfl rfl), (xIn1 16 rfl rfl), by decide, by decide, by decide, by decide +kernel⟩, (xIn8 102 rfl rfl), (xIn8 103 rfl rfl)⟩
set_option maxRecDepth 20000 in
theorem okX12_areAlike : xOkV mX12_areAlike 3 := ⟨⟨(xIn8 112 rfl rfl), (xIn1 16 rfl rfl), by decide, by decide, by decide, by decide +kernel⟩, (xIn8 111 rfl rfl), (xInP5 11 rfl)⟩
set_option maxRecDepth 20000 in
theorem okX12_alike : xOkV mX12_alike 3 := ⟨⟨(xIn8 108 rfl rfl), (xIn1 16 rfl rfl), by decide, by decide, by decide, by decide +kernel⟩, (xIn8 106 rfl rfl), (xIn8 107 rfl rfl)⟩
set_option maxRecDepth 20000 in
theorem okX12_alikeMany : xOkV mX12_alikeMany 3 := ⟨⟨(xIn8 116 rfl rfl), (xIn1 16 rfl rfl), by decide, by decide, by decide, by decide +kernel⟩, (xIn8 114 rfl rfl), (xIn8 115 rfl rfl)⟩
set_option maxRecDepth 20000 in
theorem okX12_doCommute : xOkV mX12_doCommute 2 := ⟨⟨(xIn8 124 rfl rfl), (xIn1 16 rfl rfl), by decide, by decide, by decide, by decide +kernel⟩, (xIn8 123 rfl rfl), (xInP5 12 rfl)⟩
set_option maxRecDepth 20000 in
theorem okX12_commuting : xOkV mX12_commuting 2 := ⟨⟨(xIn8 120 rfl rfl), (xIn1 16 rfl rfl), by decide, by decide, by decide, by decide +kernel⟩, (xIn8 118 rfl rfl), (xIn8 119 rfl rfl)⟩
set_option maxRecDepth 20000 in
theorem okX12_sides : xOkV mX12_sides 3 := ⟨⟨(xIn8 128 rfl rfl), (xIn1 16 rfl rfl), by decide, by decide, by decide, by decide +kernel⟩, (xIn8 126 rfl rfl), (xIn8 127 rfl rfl)⟩
set_option maxRecDepth 20000 in
theorem okX12_cycleOf : xOkV mX12_cycleOf 1 := ⟨⟨(xIn8 136 rfl rfl), (xIn1 16 rfl rfl), by decide, by decide, by decide, by decide +kernel⟩, (xIn8 135 rfl rfl), (xInP5 13 rfl)⟩
set_option maxRecDepth 20000 in
theorem okX12_cycle : xOkV mX12_cycle 1 := ⟨⟨(xIn8 132 rfl rfl), (xIn1 16 rfl rfl), by decide, by decide, by decide, by decide +kernel⟩, (xIn8 130 rfl rfl), (xIn8 131 rfl rfl)⟩
set_option maxRecDepth 20000 in
theorem okX12_cycles : xOkV mX12_cycles 1 := ⟨⟨(xIn8 140 rfl rfl), (xIn1 16 rfl rfl), by decide, by decide, by decide, by decide +kernel⟩, (xIn8 138 rfl rfl), (xIn8 139 rfl rfl)⟩
set_option maxRecDepth 20000 in
theorem okX12_laysTable : xOkV mX12_laysTable 0 := ⟨⟨(xIn8 148 rfl rfl), (xIn1 16 rfl rfl), by decide, by decide, by decide, by decide +kernel⟩, (xIn8 147 rfl rfl), (xInP5 14 rfl)⟩
set_option maxRecDepth 20000 in
theorem okX12_table : xOkV mX12_table 2 := ⟨⟨(xIn8 144 rfl rfl), (xIn1 16 rfl rfl), by decide, by decide, by decide, by decide +kernel⟩, (xIn8 142 rfl rfl), (xIn8 143 rfl rfl)⟩
set_option maxRecDepth 20000 in
theorem okX12_adds_ : xOkV mX12_adds_ 1 := ⟨⟨(xIn8 165 rfl rfl), (xIn1 16 rfl rfl), by decide, by decide, by decide, by decide +kernel⟩, (xIn8 164 rfl rfl), (xInP6 1 rfl)⟩
set_option maxRecDepth 20000 in
theorem okX12_laysMade : xOkV mX12_laysMade 1 := ⟨⟨(xIn8 157 rfl rfl), (xIn1 16 rfl rfl), by decide, by decide, by decide, by decide +kernel⟩, (xIn8 156 rfl rfl), (xInP5 15 rfl)⟩
set_option maxRecDepth 20000 in
theorem okX12_madeProduct : xOkV mX12_madeProduct 2 := ⟨⟨(xIn8 173 rfl rfl), (xIn1 16 rfl rfl), by decide, by decide, by decide, by decide +kernel⟩, (xIn8 172 rfl rfl), (xInP6 3 rfl)⟩
set_option maxRecDepth 20000 in
theorem okX12_areAssociative : xOkV mX12_areAssociative 0 := ⟨⟨(xIn8 169 rfl rfl), (xIn1 16 rfl rfl), by decide, by decide, by decide, by decide +kernel⟩, (xIn8 168 rfl rfl), (xInP6 2 rfl)⟩
set_option maxRecDepth 20000 in
theorem okX12_center : xOkV mX12_center 0 := ⟨⟨(xIn8 177 rfl rfl), (xIn1 16 rfl rfl), by decide, by decide, by decide, by decide +kernel⟩, (xIn8 176 rfl rfl), (xInP6 4 rfl)⟩
set_option maxRecDepth 20000 in
theorem okX12_squares : xOkV mX12_squares 0 := ⟨⟨(xIn8 181 rfl rfl), (xIn1 16 rfl rfl), by decide, by decide, by decide, by decide +kernel⟩, (xIn8 180 rfl rfl), (xInP6 5 rfl)⟩
set_option maxRecDepth 20000 in
theorem okX12_made : xOkV mX12_made 2 := ⟨⟨(xIn8 152 rfl rfl), (xIn1 16 rfl rfl), by decide, by decide, by decide, by decide +kernel⟩, (xIn8 150 rfl rfl), (xIn8 151 rfl rfl)⟩
set_option maxRecDepth 20000 in
theorem okX12_madeAt : xOkV mX12_madeAt 2 := ⟨⟨(xIn8 185 rfl rfl), (xIn1 16 rfl rfl), by decide, by decide, by decide, by decide +kernel⟩, (xIn8 183 rfl rfl), (xIn8 184 rfl rfl)⟩
set_option maxRecDepth 20000 in
theorem okX12_turnCycle : xOkV mX12_turnCycle 3 := ⟨⟨(xIn8 189 rfl rfl), (xIn1 16 rfl rfl), by decide, by decide, by decide, by decide +kernel⟩, (xIn8 187 rfl rfl), (xIn8 188 rfl rfl)⟩
set_option maxRecDepth 20000 in
theorem okX12_shared : xOkV mX12_shared 2 := ⟨⟨(xIn8 193 rfl rfl), (xIn1 16 rfl rfl), by decide, by decide, by decide, by decide +kernel⟩, (xIn8 191 rfl rfl), (xIn8 192 rfl rfl)⟩
set_option maxRecDepth 20000 in
theorem okX12_nucleus : xOkV mX12_nucleus 2 := ⟨⟨(xIn8 197 rfl rfl), (xIn1 16 rfl rfl), by decide, by decide, by decide, by decide +kernel⟩, (xIn8 195 rfl rfl), (xIn8 196 rfl rfl)⟩
set_option maxRecDepth 20000 in
theorem okX12_both : xOkV mX12_both 4 := ⟨⟨(xIn8 205 rfl rfl), (xIn1 16 rfl rfl), by decide, by decide, by decide, by decide +kernel⟩, (xIn8 204 rfl rfl), (xInP6 6 rfl)⟩
set_option maxRecDepth 20000 in
theorem okX12_laws : xOkV mX12_laws 3 := ⟨⟨(xIn8 201 rfl rfl), (xIn1 16 rfl rfl), by decide, by decide, by decide, by decide +kernel⟩, (xIn8 199 rfl rfl), (xIn8 200 rfl rfl)⟩
set_option maxRecDepth 20000 in
theorem okX12_keep : xOkV mX12_keep 0 := ⟨⟨(xIn8 209 rfl rfl), (xIn1 16 rfl rfl), by decide, by decide, by decide, by decide +kernel⟩, (xIn8 207 rfl rfl), (xIn8 208 rfl rfl)⟩
set_option maxRecDepth 20000 in
theorem okX12_restore : xOkV mX12_restore 0 := ⟨⟨(xIn8 213 rfl rfl), (xIn1 16 rfl rfl), by decide, by decide, by decide, by decide +kernel⟩, (xIn8 211 rfl rfl), (xIn8 212 rfl rfl)⟩
set_option maxRecDepth 20000 in
theorem okX12_wholes : xOkV mX12_wholes 0 := ⟨⟨(xIn8 221 rfl rfl), (xIn1 16 rfl rfl), by decide, by decide, by decide, by decide +kernel⟩, (xIn8 220 rfl rfl), (xInP6 7 rfl)⟩
set_option maxRecDepth 20000 in
theorem okX12_noughts : xOkV mX12_noughts 0 := ⟨⟨(xIn8 225 rfl rfl), (xIn1 16 rfl rfl), by decide, by decide, by decide, by decide +kernel⟩, (xIn8 224 rfl rfl), (xInP6 8 rfl)⟩
set_option maxRecDepth 20000 in
theorem okX12_count : xOkV mX12_count 1 := ⟨⟨(xIn8 217 rfl rfl), (xIn1 16 rfl rfl), by decide, by decide, by decide, by decide +kernel⟩, (xIn8 215 rfl rfl), (xIn8 216 rfl rfl)⟩
set_option maxRecDepth 20000 in
theorem okJ5_init_d00df : xOkI mJ5_init_d00df 1 := ⟨⟨(xIn2 65 rfl rfl), (xIn1 12 rfl rfl), by decide, by decide, by decide, by decide +kernel⟩, (xIn2 64 rfl rfl), rfl, rfl⟩
set_option maxRecDepth 20000 in
theorem okJ6_getChars_ba4f3 : xOkS mJ6_getChars_ba4f3 3 := ⟨⟨(xIn4 167 rfl rfl), (xIn1 25 rfl rfl), by decide, by decide, by decide, by decide +kernel⟩, (xIn4 166 rfl rfl)⟩
set_option maxRecDepth 20000 in
theorem okJ6_stringSize_0f7a4 : xOkS mJ6_stringSize_0f7a4 1 := ⟨⟨(xIn4 164 rfl rfl), (xIn1 25 rfl rfl), by decide, by decide, by decide, by decide +kernel⟩, (xIn4 163 rfl rfl)⟩
set_option maxRecDepth 20000 in
theorem okJ6_bitCount_0f7a4 : xOkS mJ6_bitCount_0f7a4 1 := ⟨⟨(xIn5 226 rfl rfl), (xIn1 25 rfl rfl), by decide, by decide, by decide, by decide +kernel⟩, (xIn5 225 rfl rfl)⟩
set_option maxRecDepth 20000 in
theorem okJ9_floorDiv_f86c9 : xOkS mJ9_floorDiv_f86c9 2 := ⟨⟨(xIn3 83 rfl rfl), (xIn1 20 rfl rfl), by decide, by decide, by decide, by decide +kernel⟩, (xIn3 82 rfl rfl)⟩
set_option maxRecDepth 20000 in
theorem okJ9_abs_0f7a4 : xOkS mJ9_abs_0f7a4 1 := ⟨⟨(xIn4 154 rfl rfl), (xIn1 20 rfl rfl), by decide, by decide, by decide, by decide +kernel⟩, (xIn4 153 rfl rfl)⟩
set_option maxRecDepth 20000 in
theorem okJ9_max_7cf53 : xOkS mJ9_max_7cf53 2 := ⟨⟨(xIn4 50 rfl rfl), (xIn1 20 rfl rfl), by decide, by decide, by decide, by decide +kernel⟩, (xIn4 49 rfl rfl)⟩
set_option maxRecDepth 20000 in
theorem okJ9_max_f86c9 : xOkS mJ9_max_f86c9 2 := ⟨⟨(xIn3 109 rfl rfl), (xIn1 20 rfl rfl), by decide, by decide, by decide, by decide +kernel⟩, (xIn3 108 rfl rfl)⟩
set_option maxRecDepth 20000 in
theorem okJ9_min_7cf53 : xOkS mJ9_min_7cf53 2 := ⟨⟨(xIn3 231 rfl rfl), (xIn1 20 rfl rfl), by decide, by decide, by decide, by decide +kernel⟩, (xIn3 230 rfl rfl)⟩
set_option maxRecDepth 20000 in
theorem okJ9_min_f86c9 : xOkS mJ9_min_f86c9 2 := ⟨⟨(xIn4 24 rfl rfl), (xIn1 20 rfl rfl), by decide, by decide, by decide, by decide +kernel⟩, (xIn4 23 rfl rfl)⟩
set_option maxRecDepth 20000 in
theorem okJ0_length_8abf5 : xOkV mJ0_length_8abf5 0 := ⟨⟨(xIn4 207 rfl rfl), (xIn1 14 rfl rfl), by decide, by decide, by decide, by decide +kernel⟩, (xIn4 205 rfl rfl), (xIn4 206 rfl rfl)⟩
set_option maxRecDepth 20000 in
theorem okJ0_getBytes_840e7 : xOkV mJ0_getBytes_840e7 3 := ⟨⟨(xIn4 225 rfl rfl), (xIn1 14 rfl rfl), by decide, by decide, by decide, by decide +kernel⟩, (xIn4 223 rfl rfl), (xIn4 224 rfl rfl)⟩
set_option maxRecDepth 20000 in
theorem okJ0_coder_7d493 : xOkV mJ0_coder_7d493 0 := ⟨⟨(xIn4 211 rfl rfl), (xIn1 14 rfl rfl), by decide, by decide, by decide, by decide +kernel⟩, (xIn4 209 rfl rfl), (xIn4 210 rfl rfl)⟩
set_option maxRecDepth 20000 in
theorem okJ0_checkIndex_df160 : xOkS mJ0_checkIndex_df160 2 := ⟨⟨(xIn4 141 rfl rfl), (xIn1 14 rfl rfl), by decide, by decide, by decide, by decide +kernel⟩, (xIn4 140 rfl rfl)⟩
set_option maxRecDepth 20000 in
theorem okJ0_checkBoundsOffCount_cabcc : xOkS mJ0_checkBoundsOffCount_cabcc 3 := ⟨⟨(xIn4 118 rfl rfl), (xIn1 14 rfl rfl), by decide, by decide, by decide, by decide +kernel⟩, (xIn4 117 rfl rfl)⟩
set_option maxRecDepth 20000 in
theorem okJ0_checkBoundsBeginEnd_23922 : xOkS mJ0_checkBoundsBeginEnd_23922 3 := ⟨⟨(xIn4 180 rfl rfl), (xIn1 14 rfl rfl), by decide, by decide, by decide, by decide +kernel⟩, (xIn4 179 rfl rfl)⟩
set_option maxRecDepth 20000 in
theorem okJ4_init_da8c8 : xOkI mJ4_init_da8c8 0 := ⟨⟨(xIn2 62 rfl rfl), (xIn1 13 rfl rfl), by decide, by decide, by decide, by decide +kernel⟩, (xIn2 61 rfl rfl), rfl, rfl⟩
set_option maxRecDepth 20000 in
theorem okJ4_append_15ec4 : xOkV mJ4_append_15ec4 1 := ⟨⟨(xIn4 193 rfl rfl), (xIn1 13 rfl rfl), by decide, by decide, by decide, by decide +kernel⟩, (xIn4 191 rfl rfl), (xIn4 192 rfl rfl)⟩
set_option maxRecDepth 20000 in
theorem okJ4_append_cf468 : xOkV mJ4_append_cf468 1 := ⟨⟨(xIn4 93 rfl rfl), (xIn1 13 rfl rfl), by decide, by decide, by decide, by decide +kernel⟩, (xIn4 91 rfl rfl), (xIn4 92 rfl rfl)⟩
set_option maxRecDepth 20000 in
theorem okJ4_append_bf812 : xOkV mJ4_append_bf812 1 := ⟨⟨(xIn4 158 rfl rfl), (xIn1 13 rfl rfl), by decide, by decide, by decide, by decide +kernel⟩, (xIn4 156 rfl rfl), (xIn4 157 rfl rfl)⟩
set_option maxRecDepth 20000 in
theorem okJ4_charAt_5068e : xOkV mJ4_charAt_5068e 1 := ⟨⟨(xIn4 231 rfl rfl), (xIn1 13 rfl rfl), by decide, by decide, by decide, by decide +kernel⟩, (xIn4 229 rfl rfl), (xIn4 230 rfl rfl)⟩
set_option maxRecDepth 20000 in
theorem okJ4_setLength_d00df : xOkV mJ4_setLength_d00df 1 := ⟨⟨(xIn4 33 rfl rfl), (xIn1 13 rfl rfl), by decide, by decide, by decide, by decide +kernel⟩, (xIn4 31 rfl rfl), (xIn4 32 rfl rfl)⟩
set_option maxRecDepth 20000 in
theorem okJ4_length_8abf5 : xOkV mJ4_length_8abf5 0 := ⟨⟨(xIn4 148 rfl rfl), (xIn1 13 rfl rfl), by decide, by decide, by decide, by decide +kernel⟩, (xIn4 146 rfl rfl), (xIn4 147 rfl rfl)⟩
set_option maxRecDepth 20000 in
theorem okJ1_canEncode_fc78d : xOkS mJ1_canEncode_fc78d 1 := ⟨⟨(xIn4 99 rfl rfl), (xIn1 22 rfl rfl), by decide, by decide, by decide, by decide +kernel⟩, (xIn4 98 rfl rfl)⟩
set_option maxRecDepth 20000 in
theorem okJ1_fillNull_b72d1 : xOkS mJ1_fillNull_b72d1 3 := ⟨⟨(xIn4 75 rfl rfl), (xIn1 22 rfl rfl), by decide, by decide, by decide, by decide +kernel⟩, (xIn4 74 rfl rfl)⟩
set_option maxRecDepth 20000 in
theorem okJ1_inflate_0e8fd : xOkS mJ1_inflate_0e8fd 5 := ⟨⟨(xIn4 106 rfl rfl), (xIn1 22 rfl rfl), by decide, by decide, by decide, by decide +kernel⟩, (xIn4 105 rfl rfl)⟩
set_option maxRecDepth 20000 in
theorem okJ2_newBytesFor_77867 : xOkS mJ2_newBytesFor_77867 1 := ⟨⟨(xIn2 71 rfl rfl), (xIn1 15 rfl rfl), by decide, by decide, by decide, by decide +kernel⟩, (xIn2 70 rfl rfl)⟩
set_option maxRecDepth 20000 in
theorem okJ2_newBytesLength_0f7a4 : xOkS mJ2_newBytesLength_0f7a4 1 := ⟨⟨(xIn2 74 rfl rfl), (xIn1 15 rfl rfl), by decide, by decide, by decide, by decide +kernel⟩, (xIn2 73 rfl rfl)⟩
set_option maxRecDepth 20000 in
theorem okJ2_putChar_b72d1 : xOkS mJ2_putChar_b72d1 3 := ⟨⟨(xIn4 126 rfl rfl), (xIn1 15 rfl rfl), by decide, by decide, by decide, by decide +kernel⟩, (xIn4 125 rfl rfl)⟩
set_option maxRecDepth 20000 in
theorem okJ2_getChar_3b067 : xOkS mJ2_getChar_3b067 2 := ⟨⟨(xIn4 239 rfl rfl), (xIn1 15 rfl rfl), by decide, by decide, by decide, by decide +kernel⟩, (xIn4 238 rfl rfl)⟩
set_option maxRecDepth 20000 in
theorem okJ2_length_9d52b : xOkS mJ2_length_9d52b 1 := ⟨⟨(xIn4 115 rfl rfl), (xIn1 15 rfl rfl), by decide, by decide, by decide, by decide +kernel⟩, (xIn4 114 rfl rfl)⟩
set_option maxRecDepth 20000 in
theorem okJ2_fillNull_b72d1 : xOkS mJ2_fillNull_b72d1 3 := ⟨⟨(xIn4 84 rfl rfl), (xIn1 15 rfl rfl), by decide, by decide, by decide, by decide +kernel⟩, (xIn4 83 rfl rfl)⟩
set_option maxRecDepth 20000 in
theorem okJ2_putCharSB_b72d1 : xOkS mJ2_putCharSB_b72d1 3 := ⟨⟨(xIn4 135 rfl rfl), (xIn1 15 rfl rfl), by decide, by decide, by decide, by decide +kernel⟩, (xIn4 134 rfl rfl)⟩
set_option maxRecDepth 20000 in
theorem okJ2_getChars_46870 : xOkS mJ2_getChars_46870 4 := ⟨⟨(xIn4 174 rfl rfl), (xIn1 15 rfl rfl), by decide, by decide, by decide, by decide +kernel⟩, (xIn4 173 rfl rfl)⟩
set_option maxRecDepth 20000 in
theorem okJ2_putCharsAt_cd4e5 : xOkS mJ2_putCharsAt_cd4e5 6 := ⟨⟨(xIn4 203 rfl rfl), (xIn1 15 rfl rfl), by decide, by decide, by decide, by decide +kernel⟩, (xIn4 202 rfl rfl)⟩
set_option maxRecDepth 20000 in
theorem okJ2_inflate_0e8fd : xOkS mJ2_inflate_0e8fd 5 := ⟨⟨(xIn4 109 rfl rfl), (xIn1 15 rfl rfl), by decide, by decide, by decide, by decide +kernel⟩, (xIn4 108 rfl rfl)⟩
set_option maxRecDepth 20000 in
theorem okJ2_getChars_ba4f3 : xOkS mJ2_getChars_ba4f3 3 := ⟨⟨(xIn4 186 rfl rfl), (xIn1 15 rfl rfl), by decide, by decide, by decide, by decide +kernel⟩, (xIn4 185 rfl rfl)⟩
set_option maxRecDepth 20000 in
theorem okJ2_checkIndex_2214a : xOkS mJ2_checkIndex_2214a 2 := ⟨⟨(xIn4 138 rfl rfl), (xIn1 15 rfl rfl), by decide, by decide, by decide, by decide +kernel⟩, (xIn4 137 rfl rfl)⟩
set_option maxRecDepth 20000 in
theorem okJ2_checkBoundsBeginEnd_d044e : xOkS mJ2_checkBoundsBeginEnd_d044e 3 := ⟨⟨(xIn4 177 rfl rfl), (xIn1 15 rfl rfl), by decide, by decide, by decide, by decide +kernel⟩, (xIn4 176 rfl rfl)⟩
set_option maxRecDepth 20000 in
theorem okJ2_checkBoundsOffCount_d044e : xOkS mJ2_checkBoundsOffCount_d044e 3 := ⟨⟨(xIn4 112 rfl rfl), (xIn1 15 rfl rfl), by decide, by decide, by decide, by decide +kernel⟩, (xIn4 111 rfl rfl)⟩
set_option maxRecDepth 20000 in
theorem okJ7_rangeCheck_23922 : xOkS mJ7_rangeCheck_23922 3 := ⟨⟨(xIn4 81 rfl rfl), (xIn1 18 rfl rfl), by decide, by decide, by decide, by decide +kernel⟩, (xIn4 80 rfl rfl)⟩
set_option maxRecDepth 20000 in
theorem okJ7_fill_53178 : xOkS mJ7_fill_53178 2 := ⟨⟨(xIn2 154 rfl rfl), (xIn1 18 rfl rfl), by decide, by decide, by decide, by decide +kernel⟩, (xIn2 153 rfl rfl)⟩
set_option maxRecDepth 20000 in
theorem okJ7_fill_eb02e : xOkS mJ7_fill_eb02e 4 := ⟨⟨(xIn4 78 rfl rfl), (xIn1 18 rfl rfl), by decide, by decide, by decide, by decide +kernel⟩, (xIn4 77 rfl rfl)⟩
set_option maxRecDepth 20000 in
theorem okJ7_copyOf_9075b : xOkS mJ7_copyOf_9075b 2 := ⟨⟨(xIn4 58 rfl rfl), (xIn1 18 rfl rfl), by decide, by decide, by decide, by decide +kernel⟩, (xIn4 57 rfl rfl)⟩
set_option maxRecDepth 20000 in
theorem okJ8_newLength_cabcc : xOkS mJ8_newLength_cabcc 3 := ⟨⟨(xIn4 47 rfl rfl), (xIn1 21 rfl rfl), by decide, by decide, by decide, by decide +kernel⟩, (xIn4 46 rfl rfl)⟩
set_option maxRecDepth 20000 in
theorem okJ8_hugeLength_7cf53 : xOkS mJ8_hugeLength_7cf53 2 := ⟨⟨(xIn4 54 rfl rfl), (xIn1 21 rfl rfl), by decide, by decide, by decide, by decide +kernel⟩, (xIn4 53 rfl rfl)⟩
set_option maxRecDepth 20000 in
theorem okJ3_checkIndex_8e157 : xOkS mJ3_checkIndex_8e157 3 := ⟨⟨(xIn4 144 rfl rfl), (xIn1 23 rfl rfl), by decide, by decide, by decide, by decide +kernel⟩, (xIn4 143 rfl rfl)⟩
set_option maxRecDepth 20000 in
theorem okJ3_checkFromToIndex_8c36e : xOkS mJ3_checkFromToIndex_8c36e 4 := ⟨⟨(xIn4 183 rfl rfl), (xIn1 23 rfl rfl), by decide, by decide, by decide, by decide +kernel⟩, (xIn4 182 rfl rfl)⟩
set_option maxRecDepth 20000 in
theorem okJ3_checkFromIndexSize_8c36e : xOkS mJ3_checkFromIndexSize_8c36e 4 := ⟨⟨(xIn4 123 rfl rfl), (xIn1 23 rfl rfl), by decide, by decide, by decide, by decide +kernel⟩, (xIn4 122 rfl rfl)⟩
end
