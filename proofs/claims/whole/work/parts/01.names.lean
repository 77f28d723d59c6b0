-- ===== PART A: goes FIRST, ahead of the names: the tables' words, and 'selects' of the private methods out of them =====
/-- a private method of a class that the tables say can be made, by its rows of tables_1 -/
def lw_okq (q : MethodName × Nat) : Prop := (q.1.cls ≠ "java/lang/invoke/MethodHandle" ∧ q.1.cls ≠ "java/lang/invoke/VarHandle") ∧ Cond.instantiable q.1.cls q.2 ∈ tables_1 ∧ Cond.privateMethod q.1 ∈ tables_1 ∧ Cond.instanceMethod q.1 ∈ tables_1
/-- the private method that a row of the tables names -/
def lw_named : Option Cond → MethodName
  | some (.privateMethod q) => q
  | _ => ⟨"", "", ""⟩
/-- the method of Units that takes one more unit in, as the printed tables name it -/
def lw_takes : MethodName := lw_named (tables_1_5[148]?)
theorem lw_p0 : lw_okq (⟨"EightParts$Lists", "fill", "(I)V"⟩, 5) := ⟨⟨by decide +kernel, by decide +kernel⟩, List.mem_of_getElem? (i := 79) (by decide +kernel), List.mem_of_getElem? (i := 411) (by decide +kernel), List.mem_of_getElem? (i := 412) (by decide +kernel)⟩
theorem lw_p1 : lw_okq (⟨"EightParts$Lists", "sortWords", "()V"⟩, 5) := ⟨⟨by decide +kernel, by decide +kernel⟩, List.mem_of_getElem? (i := 79) (by decide +kernel), List.mem_of_getElem? (i := 417) (by decide +kernel), List.mem_of_getElem? (i := 418) (by decide +kernel)⟩
theorem lw_p2 : lw_okq (⟨"EightParts$Lists", "grow", "(IIIII)V"⟩, 5) := ⟨⟨by decide +kernel, by decide +kernel⟩, List.mem_of_getElem? (i := 79) (by decide +kernel), List.mem_of_getElem? (i := 430) (by decide +kernel), List.mem_of_getElem? (i := 431) (by decide +kernel)⟩
theorem lw_p3 : lw_okq (⟨"EightParts$Lattice", "findNear", "(IIJJ)V"⟩, 4) := ⟨⟨by decide +kernel, by decide +kernel⟩, List.mem_of_getElem? (i := 55) (by decide +kernel), List.mem_of_getElem? (i := 557) (by decide +kernel), List.mem_of_getElem? (i := 558) (by decide +kernel)⟩
theorem lw_p4 : lw_okq (⟨"EightParts$Lattice", "bestWord", "()I"⟩, 4) := ⟨⟨by decide +kernel, by decide +kernel⟩, List.mem_of_getElem? (i := 55) (by decide +kernel), List.mem_of_getElem? (i := 565) (by decide +kernel), List.mem_of_getElem? (i := 566) (by decide +kernel)⟩
theorem lw_p5 : lw_okq (⟨"EightParts$Lattice", "missOf", "(I)J"⟩, 4) := ⟨⟨by decide +kernel, by decide +kernel⟩, List.mem_of_getElem? (i := 55) (by decide +kernel), List.mem_of_getElem? (i := 571) (by decide +kernel), List.mem_of_getElem? (i := 572) (by decide +kernel)⟩
theorem lw_p6 : lw_okq (⟨"EightParts$Lattice", "isListedAhead", "(II)Z"⟩, 4) := ⟨⟨by decide +kernel, by decide +kernel⟩, List.mem_of_getElem? (i := 55) (by decide +kernel), List.mem_of_getElem? (i := 576) (by decide +kernel), List.mem_of_getElem? (i := 577) (by decide +kernel)⟩
theorem lw_p7 : lw_okq (⟨"EightParts$Divider", "noteShare", "()V"⟩, 10) := ⟨⟨by decide +kernel, by decide +kernel⟩, List.mem_of_getElem? (i := 139) (by decide +kernel), List.mem_of_getElem? (i := 583) (by decide +kernel), List.mem_of_getElem? (i := 584) (by decide +kernel)⟩
theorem lw_p8 : lw_okq (⟨"EightParts$Ways", "fillStretch", "(II)V"⟩, 3) := ⟨⟨by decide +kernel, by decide +kernel⟩, List.mem_of_getElem? (i := 214) (by decide +kernel), List.mem_of_getElem? (i := 640) (by decide +kernel), List.mem_of_getElem? (i := 641) (by decide +kernel)⟩
theorem lw_p9 : lw_okq (⟨"EightParts$Ways", "join", "(III)V"⟩, 3) := ⟨⟨by decide +kernel, by decide +kernel⟩, List.mem_of_getElem? (i := 214) (by decide +kernel), List.mem_of_getElem? (i := 649) (by decide +kernel), List.mem_of_getElem? (i := 650) (by decide +kernel)⟩
theorem lw_p10 : lw_okq (⟨"EightParts$Reader", "readSum", "(I)V"⟩, 9) := ⟨⟨by decide +kernel, by decide +kernel⟩, List.mem_of_getElem? (i := 247) (by decide +kernel), List.mem_of_getElem? (i := 682) (by decide +kernel), List.mem_of_getElem? (i := 683) (by decide +kernel)⟩
theorem lw_p11 : lw_okq (⟨"EightParts$Reader", "readTerm", "(I)V"⟩, 9) := ⟨⟨by decide +kernel, by decide +kernel⟩, List.mem_of_getElem? (i := 247) (by decide +kernel), List.mem_of_getElem? (i := 686) (by decide +kernel), List.mem_of_getElem? (i := 687) (by decide +kernel)⟩
theorem lw_p12 : lw_okq (⟨"EightParts$Reader", "readFactor", "(I)V"⟩, 9) := ⟨⟨by decide +kernel, by decide +kernel⟩, List.mem_of_getElem? (i := 247) (by decide +kernel), List.mem_of_getElem? (i := 690) (by decide +kernel), List.mem_of_getElem? (i := 691) (by decide +kernel)⟩
theorem lw_p13 : lw_okq (⟨"EightParts$Reader", "ahead", "()I"⟩, 9) := ⟨⟨by decide +kernel, by decide +kernel⟩, List.mem_of_getElem? (i := 247) (by decide +kernel), List.mem_of_getElem? (i := 694) (by decide +kernel), List.mem_of_getElem? (i := 695) (by decide +kernel)⟩
theorem lw_p14 : lw_okq (⟨"EightParts$Reader", "readInt", "(I)V"⟩, 9) := ⟨⟨by decide +kernel, by decide +kernel⟩, List.mem_of_getElem? (i := 247) (by decide +kernel), List.mem_of_getElem? (i := 706) (by decide +kernel), List.mem_of_getElem? (i := 707) (by decide +kernel)⟩
theorem lw_p15 : lw_okq (⟨"EightParts$Reader", "readNested", "(II)V"⟩, 9) := ⟨⟨by decide +kernel, by decide +kernel⟩, List.mem_of_getElem? (i := 247) (by decide +kernel), List.mem_of_getElem? (i := 714) (by decide +kernel), List.mem_of_getElem? (i := 715) (by decide +kernel)⟩
def lw_privs_1 : List (MethodName × Nat) := [(⟨"EightParts$Lists", "fill", "(I)V"⟩, 5), (⟨"EightParts$Lists", "sortWords", "()V"⟩, 5), (⟨"EightParts$Lists", "grow", "(IIIII)V"⟩, 5), (⟨"EightParts$Lattice", "findNear", "(IIJJ)V"⟩, 4), (⟨"EightParts$Lattice", "bestWord", "()I"⟩, 4), (⟨"EightParts$Lattice", "missOf", "(I)J"⟩, 4), (⟨"EightParts$Lattice", "isListedAhead", "(II)Z"⟩, 4), (⟨"EightParts$Divider", "noteShare", "()V"⟩, 10), (⟨"EightParts$Ways", "fillStretch", "(II)V"⟩, 3), (⟨"EightParts$Ways", "join", "(III)V"⟩, 3), (⟨"EightParts$Reader", "readSum", "(I)V"⟩, 9), (⟨"EightParts$Reader", "readTerm", "(I)V"⟩, 9), (⟨"EightParts$Reader", "readFactor", "(I)V"⟩, 9), (⟨"EightParts$Reader", "ahead", "()I"⟩, 9), (⟨"EightParts$Reader", "readInt", "(I)V"⟩, 9), (⟨"EightParts$Reader", "readNested", "(II)V"⟩, 9)]
theorem lw_r1 : ∀ q ∈ lw_privs_1, lw_okq q := List.forall_mem_cons.mpr ⟨lw_p0, List.forall_mem_cons.mpr ⟨lw_p1, List.forall_mem_cons.mpr ⟨lw_p2, List.forall_mem_cons.mpr ⟨lw_p3, List.forall_mem_cons.mpr ⟨lw_p4, List.forall_mem_cons.mpr ⟨lw_p5, List.forall_mem_cons.mpr ⟨lw_p6, List.forall_mem_cons.mpr ⟨lw_p7, List.forall_mem_cons.mpr ⟨lw_p8, List.forall_mem_cons.mpr ⟨lw_p9, List.forall_mem_cons.mpr ⟨lw_p10, List.forall_mem_cons.mpr ⟨lw_p11, List.forall_mem_cons.mpr ⟨lw_p12, List.forall_mem_cons.mpr ⟨lw_p13, List.forall_mem_cons.mpr ⟨lw_p14, List.forall_mem_cons.mpr ⟨lw_p15, fun _ h => absurd h List.not_mem_nil⟩⟩⟩⟩⟩⟩⟩⟩⟩⟩⟩⟩⟩⟩⟩⟩
theorem lw_p16 : lw_okq (⟨"EightParts$Reader", "note", "(Z)V"⟩, 9) := ⟨⟨by decide +kernel, by decide +kernel⟩, List.mem_of_getElem? (i := 247) (by decide +kernel), List.mem_of_getElem? (i := 720) (by decide +kernel), List.mem_of_getElem? (i := 721) (by decide +kernel)⟩
theorem lw_p17 : lw_okq (⟨"EightParts", "spellPart", "(II)V"⟩, 16) := ⟨⟨by decide +kernel, by decide +kernel⟩, List.mem_of_getElem? (i := 27) (by decide +kernel), List.mem_of_getElem? (i := 807) (by decide +kernel), List.mem_of_getElem? (i := 808) (by decide +kernel)⟩
theorem lw_p18 : lw_okq (⟨"EightParts", "isDivisorAt", "(IIZI)Z"⟩, 16) := ⟨⟨by decide +kernel, by decide +kernel⟩, List.mem_of_getElem? (i := 27) (by decide +kernel), List.mem_of_getElem? (i := 1030) (by decide +kernel), List.mem_of_getElem? (i := 1031) (by decide +kernel)⟩
theorem lw_p19 : lw_okq (⟨"EightParts", "areAlike", "([I[II)Z"⟩, 16) := ⟨⟨by decide +kernel, by decide +kernel⟩, List.mem_of_getElem? (i := 27) (by decide +kernel), List.mem_of_getElem? (i := 1060) (by decide +kernel), List.mem_of_getElem? (i := 1061) (by decide +kernel)⟩
theorem lw_p20 : lw_okq (⟨"EightParts", "doCommute", "([I[I)Z"⟩, 16) := ⟨⟨by decide +kernel, by decide +kernel⟩, List.mem_of_getElem? (i := 27) (by decide +kernel), List.mem_of_getElem? (i := 1073) (by decide +kernel), List.mem_of_getElem? (i := 1074) (by decide +kernel)⟩
theorem lw_p21 : lw_okq (⟨"EightParts$Units", "forgetMembers", "()V"⟩, 9) := ⟨⟨by decide +kernel, by decide +kernel⟩, List.mem_of_getElem? (i := 103) (by decide +kernel), List.mem_of_getElem? (i := 1101) (by decide +kernel), List.mem_of_getElem? (i := 1102) (by decide +kernel)⟩
theorem lw_p22 : lw_okq (lw_takes, 9) := ⟨⟨by decide +kernel, by decide +kernel⟩, List.mem_of_getElem? (i := 103) (by decide +kernel), List.mem_of_getElem? (i := 1108) (by decide +kernel), List.mem_of_getElem? (i := 1109) (by decide +kernel)⟩
theorem lw_p23 : lw_okq (⟨"EightParts$Units", "close", "()V"⟩, 9) := ⟨⟨by decide +kernel, by decide +kernel⟩, List.mem_of_getElem? (i := 103) (by decide +kernel), List.mem_of_getElem? (i := 1112) (by decide +kernel), List.mem_of_getElem? (i := 1113) (by decide +kernel)⟩
theorem lw_p24 : lw_okq (⟨"EightParts$Units", "multiplyNegative", "(II)I"⟩, 9) := ⟨⟨by decide +kernel, by decide +kernel⟩, List.mem_of_getElem? (i := 103) (by decide +kernel), List.mem_of_getElem? (i := 1122) (by decide +kernel), List.mem_of_getElem? (i := 1123) (by decide +kernel)⟩
theorem lw_p25 : lw_okq (⟨"EightParts$Units", "makeRoom", "()V"⟩, 9) := ⟨⟨by decide +kernel, by decide +kernel⟩, List.mem_of_getElem? (i := 103) (by decide +kernel), List.mem_of_getElem? (i := 1126) (by decide +kernel), List.mem_of_getElem? (i := 1127) (by decide +kernel)⟩
theorem lw_p26 : lw_okq (⟨"EightParts$Units", "isReal", "(I)Z"⟩, 9) := ⟨⟨by decide +kernel, by decide +kernel⟩, List.mem_of_getElem? (i := 103) (by decide +kernel), List.mem_of_getElem? (i := 1141) (by decide +kernel), List.mem_of_getElem? (i := 1142) (by decide +kernel)⟩
theorem lw_p27 : lw_okq (⟨"EightParts$Units", "associatesWithAll", "(I)Z"⟩, 9) := ⟨⟨by decide +kernel, by decide +kernel⟩, List.mem_of_getElem? (i := 103) (by decide +kernel), List.mem_of_getElem? (i := 1145) (by decide +kernel), List.mem_of_getElem? (i := 1146) (by decide +kernel)⟩
theorem lw_p28 : lw_okq (⟨"EightParts$Units", "commutesWithAll", "(I)Z"⟩, 9) := ⟨⟨by decide +kernel, by decide +kernel⟩, List.mem_of_getElem? (i := 103) (by decide +kernel), List.mem_of_getElem? (i := 1153) (by decide +kernel), List.mem_of_getElem? (i := 1154) (by decide +kernel)⟩
theorem lw_p29 : lw_okq (⟨"EightParts", "doAssociate", "([I[I[I)Z"⟩, 16) := ⟨⟨by decide +kernel, by decide +kernel⟩, List.mem_of_getElem? (i := 27) (by decide +kernel), List.mem_of_getElem? (i := 1203) (by decide +kernel), List.mem_of_getElem? (i := 1204) (by decide +kernel)⟩
theorem lw_p30 : lw_okq (⟨"EightParts$Laws", "multiplyPairs", "([I[I[I)Z"⟩, 9) := ⟨⟨by decide +kernel, by decide +kernel⟩, List.mem_of_getElem? (i := 180) (by decide +kernel), List.mem_of_getElem? (i := 1215) (by decide +kernel), List.mem_of_getElem? (i := 1216) (by decide +kernel)⟩
theorem lw_p31 : lw_okq (⟨"EightParts$Laws", "layBothSides", "(I[I[I[I)Z"⟩, 9) := ⟨⟨by decide +kernel, by decide +kernel⟩, List.mem_of_getElem? (i := 180) (by decide +kernel), List.mem_of_getElem? (i := 1220) (by decide +kernel), List.mem_of_getElem? (i := 1221) (by decide +kernel)⟩
def lw_privs_2 : List (MethodName × Nat) := [(⟨"EightParts$Reader", "note", "(Z)V"⟩, 9), (⟨"EightParts", "spellPart", "(II)V"⟩, 16), (⟨"EightParts", "isDivisorAt", "(IIZI)Z"⟩, 16), (⟨"EightParts", "areAlike", "([I[II)Z"⟩, 16), (⟨"EightParts", "doCommute", "([I[I)Z"⟩, 16), (⟨"EightParts$Units", "forgetMembers", "()V"⟩, 9), (lw_takes, 9), (⟨"EightParts$Units", "close", "()V"⟩, 9), (⟨"EightParts$Units", "multiplyNegative", "(II)I"⟩, 9), (⟨"EightParts$Units", "makeRoom", "()V"⟩, 9), (⟨"EightParts$Units", "isReal", "(I)Z"⟩, 9), (⟨"EightParts$Units", "associatesWithAll", "(I)Z"⟩, 9), (⟨"EightParts$Units", "commutesWithAll", "(I)Z"⟩, 9), (⟨"EightParts", "doAssociate", "([I[I[I)Z"⟩, 16), (⟨"EightParts$Laws", "multiplyPairs", "([I[I[I)Z"⟩, 9), (⟨"EightParts$Laws", "layBothSides", "(I[I[I[I)Z"⟩, 9)]
theorem lw_r2 : ∀ q ∈ lw_privs_2, lw_okq q := List.forall_mem_cons.mpr ⟨lw_p16, List.forall_mem_cons.mpr ⟨lw_p17, List.forall_mem_cons.mpr ⟨lw_p18, List.forall_mem_cons.mpr ⟨lw_p19, List.forall_mem_cons.mpr ⟨lw_p20, List.forall_mem_cons.mpr ⟨lw_p21, List.forall_mem_cons.mpr ⟨lw_p22, List.forall_mem_cons.mpr ⟨lw_p23, List.forall_mem_cons.mpr ⟨lw_p24, List.forall_mem_cons.mpr ⟨lw_p25, List.forall_mem_cons.mpr ⟨lw_p26, List.forall_mem_cons.mpr ⟨lw_p27, List.forall_mem_cons.mpr ⟨lw_p28, List.forall_mem_cons.mpr ⟨lw_p29, List.forall_mem_cons.mpr ⟨lw_p30, List.forall_mem_cons.mpr ⟨lw_p31, fun _ h => absurd h List.not_mem_nil⟩⟩⟩⟩⟩⟩⟩⟩⟩⟩⟩⟩⟩⟩⟩⟩
theorem lw_p32 : lw_okq (⟨"EightParts$Laws", "doNormsMultiply", "([I[I)Z"⟩, 9) := ⟨⟨by decide +kernel, by decide +kernel⟩, List.mem_of_getElem? (i := 180) (by decide +kernel), List.mem_of_getElem? (i := 1225) (by decide +kernel), List.mem_of_getElem? (i := 1226) (by decide +kernel)⟩
theorem lw_p33 : lw_okq (⟨"EightParts$Ways", "isNew", "(II)Z"⟩, 3) := ⟨⟨by decide +kernel, by decide +kernel⟩, List.mem_of_getElem? (i := 214) (by decide +kernel), List.mem_of_getElem? (i := 1240) (by decide +kernel), List.mem_of_getElem? (i := 1241) (by decide +kernel)⟩
theorem lw_p34 : lw_okq (⟨"EightParts", "wholeSlots", "()I"⟩, 16) := ⟨⟨by decide +kernel, by decide +kernel⟩, List.mem_of_getElem? (i := 27) (by decide +kernel), List.mem_of_getElem? (i := 1274) (by decide +kernel), List.mem_of_getElem? (i := 1275) (by decide +kernel)⟩
theorem lw_p35 : lw_okq (⟨"EightParts", "emptySlots", "()I"⟩, 16) := ⟨⟨by decide +kernel, by decide +kernel⟩, List.mem_of_getElem? (i := 27) (by decide +kernel), List.mem_of_getElem? (i := 1278) (by decide +kernel), List.mem_of_getElem? (i := 1279) (by decide +kernel)⟩
theorem lw_p36 : lw_okq (⟨"EightPartsModel", "nought", "(I)V"⟩, 38) := ⟨⟨by decide +kernel, by decide +kernel⟩, List.mem_of_getElem? (i := 1282) (by decide +kernel), List.mem_of_getElem? (i := 1424) (by decide +kernel), List.mem_of_getElem? (i := 1425) (by decide +kernel)⟩
theorem lw_p37 : lw_okq (⟨"EightPartsModel", "listSize", "(I)I"⟩, 38) := ⟨⟨by decide +kernel, by decide +kernel⟩, List.mem_of_getElem? (i := 1282) (by decide +kernel), List.mem_of_getElem? (i := 1436) (by decide +kernel), List.mem_of_getElem? (i := 1437) (by decide +kernel)⟩
theorem lw_p38 : lw_okq (⟨"EightPartsModel", "laysList", "(II)V"⟩, 38) := ⟨⟨by decide +kernel, by decide +kernel⟩, List.mem_of_getElem? (i := 1282) (by decide +kernel), List.mem_of_getElem? (i := 1440) (by decide +kernel), List.mem_of_getElem? (i := 1441) (by decide +kernel)⟩
theorem lw_p39 : lw_okq (⟨"EightPartsModel", "brings", "(III)V"⟩, 38) := ⟨⟨by decide +kernel, by decide +kernel⟩, List.mem_of_getElem? (i := 1282) (by decide +kernel), List.mem_of_getElem? (i := 1462) (by decide +kernel), List.mem_of_getElem? (i := 1463) (by decide +kernel)⟩
theorem lw_p40 : lw_okq (⟨"EightPartsModel", "becomes", "(II)V"⟩, 38) := ⟨⟨by decide +kernel, by decide +kernel⟩, List.mem_of_getElem? (i := 1282) (by decide +kernel), List.mem_of_getElem? (i := 1470) (by decide +kernel), List.mem_of_getElem? (i := 1471) (by decide +kernel)⟩
theorem lw_p41 : lw_okq (⟨"EightPartsModel", "adds", "(IIII)Z"⟩, 38) := ⟨⟨by decide +kernel, by decide +kernel⟩, List.mem_of_getElem? (i := 1282) (by decide +kernel), List.mem_of_getElem? (i := 1485) (by decide +kernel), List.mem_of_getElem? (i := 1486) (by decide +kernel)⟩
theorem lw_p42 : lw_okq (⟨"EightPartsModel", "comes", "(I)Z"⟩, 38) := ⟨⟨by decide +kernel, by decide +kernel⟩, List.mem_of_getElem? (i := 1282) (by decide +kernel), List.mem_of_getElem? (i := 1489) (by decide +kernel), List.mem_of_getElem? (i := 1490) (by decide +kernel)⟩
theorem lw_p43 : lw_okq (⟨"EightPartsModel", "multiplies", "(III)Z"⟩, 38) := ⟨⟨by decide +kernel, by decide +kernel⟩, List.mem_of_getElem? (i := 1282) (by decide +kernel), List.mem_of_getElem? (i := 1504) (by decide +kernel), List.mem_of_getElem? (i := 1505) (by decide +kernel)⟩
theorem lw_p44 : lw_okq (⟨"EightPartsModel", "isProduct", "(IIZZ)Z"⟩, 38) := ⟨⟨by decide +kernel, by decide +kernel⟩, List.mem_of_getElem? (i := 1282) (by decide +kernel), List.mem_of_getElem? (i := 1508) (by decide +kernel), List.mem_of_getElem? (i := 1509) (by decide +kernel)⟩
theorem lw_p45 : lw_okq (⟨"EightPartsModel", "mirrors", "(II)V"⟩, 38) := ⟨⟨by decide +kernel, by decide +kernel⟩, List.mem_of_getElem? (i := 1282) (by decide +kernel), List.mem_of_getElem? (i := 1517) (by decide +kernel), List.mem_of_getElem? (i := 1518) (by decide +kernel)⟩
theorem lw_p46 : lw_okq (⟨"EightPartsModel", "turns", "(IIII)Z"⟩, 38) := ⟨⟨by decide +kernel, by decide +kernel⟩, List.mem_of_getElem? (i := 1282) (by decide +kernel), List.mem_of_getElem? (i := 1534) (by decide +kernel), List.mem_of_getElem? (i := 1535) (by decide +kernel)⟩
theorem lw_p47 : lw_okq (⟨"EightPartsModel", "ends", "(ZII)I"⟩, 38) := ⟨⟨by decide +kernel, by decide +kernel⟩, List.mem_of_getElem? (i := 1282) (by decide +kernel), List.mem_of_getElem? (i := 1538) (by decide +kernel), List.mem_of_getElem? (i := 1539) (by decide +kernel)⟩
def lw_privs_3 : List (MethodName × Nat) := [(⟨"EightParts$Laws", "doNormsMultiply", "([I[I)Z"⟩, 9), (⟨"EightParts$Ways", "isNew", "(II)Z"⟩, 3), (⟨"EightParts", "wholeSlots", "()I"⟩, 16), (⟨"EightParts", "emptySlots", "()I"⟩, 16), (⟨"EightPartsModel", "nought", "(I)V"⟩, 38), (⟨"EightPartsModel", "listSize", "(I)I"⟩, 38), (⟨"EightPartsModel", "laysList", "(II)V"⟩, 38), (⟨"EightPartsModel", "brings", "(III)V"⟩, 38), (⟨"EightPartsModel", "becomes", "(II)V"⟩, 38), (⟨"EightPartsModel", "adds", "(IIII)Z"⟩, 38), (⟨"EightPartsModel", "comes", "(I)Z"⟩, 38), (⟨"EightPartsModel", "multiplies", "(III)Z"⟩, 38), (⟨"EightPartsModel", "isProduct", "(IIZZ)Z"⟩, 38), (⟨"EightPartsModel", "mirrors", "(II)V"⟩, 38), (⟨"EightPartsModel", "turns", "(IIII)Z"⟩, 38), (⟨"EightPartsModel", "ends", "(ZII)I"⟩, 38)]
theorem lw_r3 : ∀ q ∈ lw_privs_3, lw_okq q := List.forall_mem_cons.mpr ⟨lw_p32, List.forall_mem_cons.mpr ⟨lw_p33, List.forall_mem_cons.mpr ⟨lw_p34, List.forall_mem_cons.mpr ⟨lw_p35, List.forall_mem_cons.mpr ⟨lw_p36, List.forall_mem_cons.mpr ⟨lw_p37, List.forall_mem_cons.mpr ⟨lw_p38, List.forall_mem_cons.mpr ⟨lw_p39, List.forall_mem_cons.mpr ⟨lw_p40, List.forall_mem_cons.mpr ⟨lw_p41, List.forall_mem_cons.mpr ⟨lw_p42, List.forall_mem_cons.mpr ⟨lw_p43, List.forall_mem_cons.mpr ⟨lw_p44, List.forall_mem_cons.mpr ⟨lw_p45, List.forall_mem_cons.mpr ⟨lw_p46, List.forall_mem_cons.mpr ⟨lw_p47, fun _ h => absurd h List.not_mem_nil⟩⟩⟩⟩⟩⟩⟩⟩⟩⟩⟩⟩⟩⟩⟩⟩
theorem lw_p48 : lw_okq (⟨"EightPartsModel", "powers", "(III)Z"⟩, 38) := ⟨⟨by decide +kernel, by decide +kernel⟩, List.mem_of_getElem? (i := 1282) (by decide +kernel), List.mem_of_getElem? (i := 1558) (by decide +kernel), List.mem_of_getElem? (i := 1559) (by decide +kernel)⟩
theorem lw_p49 : lw_okq (⟨"EightPartsModel", "nears", "(J)V"⟩, 38) := ⟨⟨by decide +kernel, by decide +kernel⟩, List.mem_of_getElem? (i := 1282) (by decide +kernel), List.mem_of_getElem? (i := 1574) (by decide +kernel), List.mem_of_getElem? (i := 1575) (by decide +kernel)⟩
theorem lw_p50 : lw_okq (⟨"EightPartsModel", "isAhead", "()Z"⟩, 38) := ⟨⟨by decide +kernel, by decide +kernel⟩, List.mem_of_getElem? (i := 1282) (by decide +kernel), List.mem_of_getElem? (i := 1582) (by decide +kernel), List.mem_of_getElem? (i := 1583) (by decide +kernel)⟩
theorem lw_p51 : lw_okq (⟨"EightPartsModel", "divides", "(II)Z"⟩, 38) := ⟨⟨by decide +kernel, by decide +kernel⟩, List.mem_of_getElem? (i := 1282) (by decide +kernel), List.mem_of_getElem? (i := 1590) (by decide +kernel), List.mem_of_getElem? (i := 1591) (by decide +kernel)⟩
theorem lw_p52 : lw_okq (⟨"EightPartsModel", "normOf", "(I)J"⟩, 38) := ⟨⟨by decide +kernel, by decide +kernel⟩, List.mem_of_getElem? (i := 1282) (by decide +kernel), List.mem_of_getElem? (i := 1594) (by decide +kernel), List.mem_of_getElem? (i := 1595) (by decide +kernel)⟩
theorem lw_p53 : lw_okq (⟨"EightPartsModel", "goesOn", "(II)V"⟩, 38) := ⟨⟨by decide +kernel, by decide +kernel⟩, List.mem_of_getElem? (i := 1282) (by decide +kernel), List.mem_of_getElem? (i := 1603) (by decide +kernel), List.mem_of_getElem? (i := 1604) (by decide +kernel)⟩
theorem lw_p54 : lw_okq (⟨"EightPartsModel", "isNought", "(I)Z"⟩, 38) := ⟨⟨by decide +kernel, by decide +kernel⟩, List.mem_of_getElem? (i := 1282) (by decide +kernel), List.mem_of_getElem? (i := 1607) (by decide +kernel), List.mem_of_getElem? (i := 1608) (by decide +kernel)⟩
theorem lw_p55 : lw_okq (⟨"EightPartsModel", "laysWays", "(II)V"⟩, 38) := ⟨⟨by decide +kernel, by decide +kernel⟩, List.mem_of_getElem? (i := 1282) (by decide +kernel), List.mem_of_getElem? (i := 1625) (by decide +kernel), List.mem_of_getElem? (i := 1626) (by decide +kernel)⟩
theorem lw_p56 : lw_okq (⟨"EightPartsModel", "joins", "(III)I"⟩, 38) := ⟨⟨by decide +kernel, by decide +kernel⟩, List.mem_of_getElem? (i := 1282) (by decide +kernel), List.mem_of_getElem? (i := 1629) (by decide +kernel), List.mem_of_getElem? (i := 1630) (by decide +kernel)⟩
theorem lw_p57 : lw_okq (⟨"EightPartsModel", "areSame", "(II)Z"⟩, 38) := ⟨⟨by decide +kernel, by decide +kernel⟩, List.mem_of_getElem? (i := 1282) (by decide +kernel), List.mem_of_getElem? (i := 1637) (by decide +kernel), List.mem_of_getElem? (i := 1638) (by decide +kernel)⟩
theorem lw_p58 : lw_okq (⟨"EightPartsModel", "works", "()I"⟩, 38) := ⟨⟨by decide +kernel, by decide +kernel⟩, List.mem_of_getElem? (i := 1282) (by decide +kernel), List.mem_of_getElem? (i := 1653) (by decide +kernel), List.mem_of_getElem? (i := 1654) (by decide +kernel)⟩
theorem lw_p59 : lw_okq (⟨"EightPartsModel", "begins", "(I)Z"⟩, 38) := ⟨⟨by decide +kernel, by decide +kernel⟩, List.mem_of_getElem? (i := 1282) (by decide +kernel), List.mem_of_getElem? (i := 1657) (by decide +kernel), List.mem_of_getElem? (i := 1658) (by decide +kernel)⟩
theorem lw_p60 : lw_okq (⟨"EightPartsModel", "opens", "(I)V"⟩, 38) := ⟨⟨by decide +kernel, by decide +kernel⟩, List.mem_of_getElem? (i := 1282) (by decide +kernel), List.mem_of_getElem? (i := 1661) (by decide +kernel), List.mem_of_getElem? (i := 1662) (by decide +kernel)⟩
theorem lw_p61 : lw_okq (⟨"EightPartsModel", "factors", "(I)V"⟩, 38) := ⟨⟨by decide +kernel, by decide +kernel⟩, List.mem_of_getElem? (i := 1282) (by decide +kernel), List.mem_of_getElem? (i := 1667) (by decide +kernel), List.mem_of_getElem? (i := 1668) (by decide +kernel)⟩
theorem lw_p62 : lw_okq (⟨"EightPartsModel", "follows", "(I)Z"⟩, 38) := ⟨⟨by decide +kernel, by decide +kernel⟩, List.mem_of_getElem? (i := 1282) (by decide +kernel), List.mem_of_getElem? (i := 1673) (by decide +kernel), List.mem_of_getElem? (i := 1674) (by decide +kernel)⟩
theorem lw_p63 : lw_okq (⟨"EightPartsModel", "sums", "()V"⟩, 38) := ⟨⟨by decide +kernel, by decide +kernel⟩, List.mem_of_getElem? (i := 1282) (by decide +kernel), List.mem_of_getElem? (i := 1677) (by decide +kernel), List.mem_of_getElem? (i := 1678) (by decide +kernel)⟩
def lw_privs_4 : List (MethodName × Nat) := [(⟨"EightPartsModel", "powers", "(III)Z"⟩, 38), (⟨"EightPartsModel", "nears", "(J)V"⟩, 38), (⟨"EightPartsModel", "isAhead", "()Z"⟩, 38), (⟨"EightPartsModel", "divides", "(II)Z"⟩, 38), (⟨"EightPartsModel", "normOf", "(I)J"⟩, 38), (⟨"EightPartsModel", "goesOn", "(II)V"⟩, 38), (⟨"EightPartsModel", "isNought", "(I)Z"⟩, 38), (⟨"EightPartsModel", "laysWays", "(II)V"⟩, 38), (⟨"EightPartsModel", "joins", "(III)I"⟩, 38), (⟨"EightPartsModel", "areSame", "(II)Z"⟩, 38), (⟨"EightPartsModel", "works", "()I"⟩, 38), (⟨"EightPartsModel", "begins", "(I)Z"⟩, 38), (⟨"EightPartsModel", "opens", "(I)V"⟩, 38), (⟨"EightPartsModel", "factors", "(I)V"⟩, 38), (⟨"EightPartsModel", "follows", "(I)Z"⟩, 38), (⟨"EightPartsModel", "sums", "()V"⟩, 38)]
theorem lw_r4 : ∀ q ∈ lw_privs_4, lw_okq q := List.forall_mem_cons.mpr ⟨lw_p48, List.forall_mem_cons.mpr ⟨lw_p49, List.forall_mem_cons.mpr ⟨lw_p50, List.forall_mem_cons.mpr ⟨lw_p51, List.forall_mem_cons.mpr ⟨lw_p52, List.forall_mem_cons.mpr ⟨lw_p53, List.forall_mem_cons.mpr ⟨lw_p54, List.forall_mem_cons.mpr ⟨lw_p55, List.forall_mem_cons.mpr ⟨lw_p56, List.forall_mem_cons.mpr ⟨lw_p57, List.forall_mem_cons.mpr ⟨lw_p58, List.forall_mem_cons.mpr ⟨lw_p59, List.forall_mem_cons.mpr ⟨lw_p60, List.forall_mem_cons.mpr ⟨lw_p61, List.forall_mem_cons.mpr ⟨lw_p62, List.forall_mem_cons.mpr ⟨lw_p63, fun _ h => absurd h List.not_mem_nil⟩⟩⟩⟩⟩⟩⟩⟩⟩⟩⟩⟩⟩⟩⟩⟩
theorem lw_p64 : lw_okq (⟨"EightPartsModel", "writesAll", "(I)V"⟩, 38) := ⟨⟨by decide +kernel, by decide +kernel⟩, List.mem_of_getElem? (i := 1282) (by decide +kernel), List.mem_of_getElem? (i := 1693) (by decide +kernel), List.mem_of_getElem? (i := 1694) (by decide +kernel)⟩
theorem lw_p65 : lw_okq (⟨"EightPartsModel", "writes", "(I)V"⟩, 38) := ⟨⟨by decide +kernel, by decide +kernel⟩, List.mem_of_getElem? (i := 1282) (by decide +kernel), List.mem_of_getElem? (i := 1697) (by decide +kernel), List.mem_of_getElem? (i := 1698) (by decide +kernel)⟩
theorem lw_p66 : lw_okq (⟨"EightPartsModel", "writesNumber", "(I)V"⟩, 38) := ⟨⟨by decide +kernel, by decide +kernel⟩, List.mem_of_getElem? (i := 1282) (by decide +kernel), List.mem_of_getElem? (i := 1701) (by decide +kernel), List.mem_of_getElem? (i := 1702) (by decide +kernel)⟩
theorem lw_p67 : lw_okq (⟨"EightPartsModel", "oddOf", "(I)I"⟩, 38) := ⟨⟨by decide +kernel, by decide +kernel⟩, List.mem_of_getElem? (i := 1282) (by decide +kernel), List.mem_of_getElem? (i := 1713) (by decide +kernel), List.mem_of_getElem? (i := 1714) (by decide +kernel)⟩
theorem lw_p68 : lw_okq (⟨"EightPartsModel", "isWhole", "(I)Z"⟩, 38) := ⟨⟨by decide +kernel, by decide +kernel⟩, List.mem_of_getElem? (i := 1282) (by decide +kernel), List.mem_of_getElem? (i := 1721) (by decide +kernel), List.mem_of_getElem? (i := 1722) (by decide +kernel)⟩
theorem lw_p69 : lw_okq (⟨"EightPartsModel", "numberOf", "(I)I"⟩, 38) := ⟨⟨by decide +kernel, by decide +kernel⟩, List.mem_of_getElem? (i := 1282) (by decide +kernel), List.mem_of_getElem? (i := 1745) (by decide +kernel), List.mem_of_getElem? (i := 1746) (by decide +kernel)⟩
theorem lw_p70 : lw_okq (⟨"EightPartsModel", "against", "(III)I"⟩, 38) := ⟨⟨by decide +kernel, by decide +kernel⟩, List.mem_of_getElem? (i := 1282) (by decide +kernel), List.mem_of_getElem? (i := 1750) (by decide +kernel), List.mem_of_getElem? (i := 1751) (by decide +kernel)⟩
theorem lw_p71 : lw_okq (⟨"EightPartsModel", "divisorsOf", "(IIZI)I"⟩, 38) := ⟨⟨by decide +kernel, by decide +kernel⟩, List.mem_of_getElem? (i := 1282) (by decide +kernel), List.mem_of_getElem? (i := 1758) (by decide +kernel), List.mem_of_getElem? (i := 1759) (by decide +kernel)⟩
theorem lw_p72 : lw_okq (⟨"EightPartsModel", "isDivisor", "(IIIZ)Z"⟩, 38) := ⟨⟨by decide +kernel, by decide +kernel⟩, List.mem_of_getElem? (i := 1282) (by decide +kernel), List.mem_of_getElem? (i := 1762) (by decide +kernel), List.mem_of_getElem? (i := 1763) (by decide +kernel)⟩
theorem lw_p73 : lw_okq (⟨"EightPartsModel", "isWholeBy", "(J)Z"⟩, 38) := ⟨⟨by decide +kernel, by decide +kernel⟩, List.mem_of_getElem? (i := 1282) (by decide +kernel), List.mem_of_getElem? (i := 1766) (by decide +kernel), List.mem_of_getElem? (i := 1767) (by decide +kernel)⟩
theorem lw_p74 : lw_okq (⟨"EightPartsModel", "innerOf", "(II)I"⟩, 38) := ⟨⟨by decide +kernel, by decide +kernel⟩, List.mem_of_getElem? (i := 1282) (by decide +kernel), List.mem_of_getElem? (i := 1778) (by decide +kernel), List.mem_of_getElem? (i := 1779) (by decide +kernel)⟩
theorem lw_p75 : lw_okq (⟨"EightPartsModel", "areAlike", "(III)Z"⟩, 38) := ⟨⟨by decide +kernel, by decide +kernel⟩, List.mem_of_getElem? (i := 1282) (by decide +kernel), List.mem_of_getElem? (i := 1790) (by decide +kernel), List.mem_of_getElem? (i := 1791) (by decide +kernel)⟩
theorem lw_p76 : lw_okq (⟨"EightPartsModel", "doCommute", "(II)Z"⟩, 38) := ⟨⟨by decide +kernel, by decide +kernel⟩, List.mem_of_getElem? (i := 1282) (by decide +kernel), List.mem_of_getElem? (i := 1802) (by decide +kernel), List.mem_of_getElem? (i := 1803) (by decide +kernel)⟩
theorem lw_p77 : lw_okq (⟨"EightPartsModel", "cycleOf", "(I)I"⟩, 38) := ⟨⟨by decide +kernel, by decide +kernel⟩, List.mem_of_getElem? (i := 1282) (by decide +kernel), List.mem_of_getElem? (i := 1814) (by decide +kernel), List.mem_of_getElem? (i := 1815) (by decide +kernel)⟩
theorem lw_p78 : lw_okq (⟨"EightPartsModel", "laysTable", "()V"⟩, 38) := ⟨⟨by decide +kernel, by decide +kernel⟩, List.mem_of_getElem? (i := 1282) (by decide +kernel), List.mem_of_getElem? (i := 1826) (by decide +kernel), List.mem_of_getElem? (i := 1827) (by decide +kernel)⟩
theorem lw_p79 : lw_okq (⟨"EightPartsModel", "laysMade", "(I)Z"⟩, 38) := ⟨⟨by decide +kernel, by decide +kernel⟩, List.mem_of_getElem? (i := 1282) (by decide +kernel), List.mem_of_getElem? (i := 1835) (by decide +kernel), List.mem_of_getElem? (i := 1836) (by decide +kernel)⟩
def lw_privs_5 : List (MethodName × Nat) := [(⟨"EightPartsModel", "writesAll", "(I)V"⟩, 38), (⟨"EightPartsModel", "writes", "(I)V"⟩, 38), (⟨"EightPartsModel", "writesNumber", "(I)V"⟩, 38), (⟨"EightPartsModel", "oddOf", "(I)I"⟩, 38), (⟨"EightPartsModel", "isWhole", "(I)Z"⟩, 38), (⟨"EightPartsModel", "numberOf", "(I)I"⟩, 38), (⟨"EightPartsModel", "against", "(III)I"⟩, 38), (⟨"EightPartsModel", "divisorsOf", "(IIZI)I"⟩, 38), (⟨"EightPartsModel", "isDivisor", "(IIIZ)Z"⟩, 38), (⟨"EightPartsModel", "isWholeBy", "(J)Z"⟩, 38), (⟨"EightPartsModel", "innerOf", "(II)I"⟩, 38), (⟨"EightPartsModel", "areAlike", "(III)Z"⟩, 38), (⟨"EightPartsModel", "doCommute", "(II)Z"⟩, 38), (⟨"EightPartsModel", "cycleOf", "(I)I"⟩, 38), (⟨"EightPartsModel", "laysTable", "()V"⟩, 38), (⟨"EightPartsModel", "laysMade", "(I)Z"⟩, 38)]
theorem lw_r5 : ∀ q ∈ lw_privs_5, lw_okq q := List.forall_mem_cons.mpr ⟨lw_p64, List.forall_mem_cons.mpr ⟨lw_p65, List.forall_mem_cons.mpr ⟨lw_p66, List.forall_mem_cons.mpr ⟨lw_p67, List.forall_mem_cons.mpr ⟨lw_p68, List.forall_mem_cons.mpr ⟨lw_p69, List.forall_mem_cons.mpr ⟨lw_p70, List.forall_mem_cons.mpr ⟨lw_p71, List.forall_mem_cons.mpr ⟨lw_p72, List.forall_mem_cons.mpr ⟨lw_p73, List.forall_mem_cons.mpr ⟨lw_p74, List.forall_mem_cons.mpr ⟨lw_p75, List.forall_mem_cons.mpr ⟨lw_p76, List.forall_mem_cons.mpr ⟨lw_p77, List.forall_mem_cons.mpr ⟨lw_p78, List.forall_mem_cons.mpr ⟨lw_p79, fun _ h => absurd h List.not_mem_nil⟩⟩⟩⟩⟩⟩⟩⟩⟩⟩⟩⟩⟩⟩⟩⟩
theorem lw_p80 : lw_okq (⟨"EightPartsModel", "isUnit", "(I)Z"⟩, 38) := ⟨⟨by decide +kernel, by decide +kernel⟩, List.mem_of_getElem? (i := 1282) (by decide +kernel), List.mem_of_getElem? (i := 1839) (by decide +kernel), List.mem_of_getElem? (i := 1840) (by decide +kernel)⟩
theorem lw_p81 : lw_okq (⟨"EightPartsModel", "adds", "(I)V"⟩, 38) := ⟨⟨by decide +kernel, by decide +kernel⟩, List.mem_of_getElem? (i := 1282) (by decide +kernel), List.mem_of_getElem? (i := 1843) (by decide +kernel), List.mem_of_getElem? (i := 1844) (by decide +kernel)⟩
theorem lw_p82 : lw_okq (⟨"EightPartsModel", "areAssociative", "()Z"⟩, 38) := ⟨⟨by decide +kernel, by decide +kernel⟩, List.mem_of_getElem? (i := 1282) (by decide +kernel), List.mem_of_getElem? (i := 1847) (by decide +kernel), List.mem_of_getElem? (i := 1848) (by decide +kernel)⟩
theorem lw_p83 : lw_okq (⟨"EightPartsModel", "madeProduct", "(II)I"⟩, 38) := ⟨⟨by decide +kernel, by decide +kernel⟩, List.mem_of_getElem? (i := 1282) (by decide +kernel), List.mem_of_getElem? (i := 1851) (by decide +kernel), List.mem_of_getElem? (i := 1852) (by decide +kernel)⟩
theorem lw_p84 : lw_okq (⟨"EightPartsModel", "center", "()I"⟩, 38) := ⟨⟨by decide +kernel, by decide +kernel⟩, List.mem_of_getElem? (i := 1282) (by decide +kernel), List.mem_of_getElem? (i := 1855) (by decide +kernel), List.mem_of_getElem? (i := 1856) (by decide +kernel)⟩
theorem lw_p85 : lw_okq (⟨"EightPartsModel", "squares", "()I"⟩, 38) := ⟨⟨by decide +kernel, by decide +kernel⟩, List.mem_of_getElem? (i := 1282) (by decide +kernel), List.mem_of_getElem? (i := 1859) (by decide +kernel), List.mem_of_getElem? (i := 1860) (by decide +kernel)⟩
theorem lw_p86 : lw_okq (⟨"EightPartsModel", "both", "(IIII)Z"⟩, 38) := ⟨⟨by decide +kernel, by decide +kernel⟩, List.mem_of_getElem? (i := 1282) (by decide +kernel), List.mem_of_getElem? (i := 1883) (by decide +kernel), List.mem_of_getElem? (i := 1884) (by decide +kernel)⟩
theorem lw_p87 : lw_okq (⟨"EightPartsModel", "wholes", "()I"⟩, 38) := ⟨⟨by decide +kernel, by decide +kernel⟩, List.mem_of_getElem? (i := 1282) (by decide +kernel), List.mem_of_getElem? (i := 1899) (by decide +kernel), List.mem_of_getElem? (i := 1900) (by decide +kernel)⟩
theorem lw_p88 : lw_okq (⟨"EightPartsModel", "noughts", "()I"⟩, 38) := ⟨⟨by decide +kernel, by decide +kernel⟩, List.mem_of_getElem? (i := 1282) (by decide +kernel), List.mem_of_getElem? (i := 1903) (by decide +kernel), List.mem_of_getElem? (i := 1904) (by decide +kernel)⟩
def lw_privs_6 : List (MethodName × Nat) := [(⟨"EightPartsModel", "isUnit", "(I)Z"⟩, 38), (⟨"EightPartsModel", "adds", "(I)V"⟩, 38), (⟨"EightPartsModel", "areAssociative", "()Z"⟩, 38), (⟨"EightPartsModel", "madeProduct", "(II)I"⟩, 38), (⟨"EightPartsModel", "center", "()I"⟩, 38), (⟨"EightPartsModel", "squares", "()I"⟩, 38), (⟨"EightPartsModel", "both", "(IIII)Z"⟩, 38), (⟨"EightPartsModel", "wholes", "()I"⟩, 38), (⟨"EightPartsModel", "noughts", "()I"⟩, 38)]
theorem lw_r6 : ∀ q ∈ lw_privs_6, lw_okq q := List.forall_mem_cons.mpr ⟨lw_p80, List.forall_mem_cons.mpr ⟨lw_p81, List.forall_mem_cons.mpr ⟨lw_p82, List.forall_mem_cons.mpr ⟨lw_p83, List.forall_mem_cons.mpr ⟨lw_p84, List.forall_mem_cons.mpr ⟨lw_p85, List.forall_mem_cons.mpr ⟨lw_p86, List.forall_mem_cons.mpr ⟨lw_p87, List.forall_mem_cons.mpr ⟨lw_p88, fun _ h => absurd h List.not_mem_nil⟩⟩⟩⟩⟩⟩⟩⟩⟩
def lw_privs : List (MethodName × Nat) := lw_privs_1 ++ (lw_privs_2 ++ (lw_privs_3 ++ (lw_privs_4 ++ (lw_privs_5 ++ (lw_privs_6)))))
def lw_tbl : List Cond := k2_sels lw_privs ++ tables_1
theorem lw_privs_ok : ∀ q ∈ lw_privs, lw_okq q := by
  show ∀ q ∈ lw_privs_1 ++ (lw_privs_2 ++ (lw_privs_3 ++ (lw_privs_4 ++ (lw_privs_5 ++ (lw_privs_6))))), lw_okq q
  exact List.forall_mem_append.mpr ⟨lw_r1, List.forall_mem_append.mpr ⟨lw_r2, List.forall_mem_append.mpr ⟨lw_r3, List.forall_mem_append.mpr ⟨lw_r4, List.forall_mem_append.mpr ⟨lw_r5, lw_r6⟩⟩⟩⟩⟩
def RX0 : String := "EightParts$Divider"
def TX0 : u_T := fun k => match k with
  | 0 => ("EightParts$Divider", "lattice", "LEightParts$Lattice;", true)
  | 1 => ("EightParts$Divider", "reckoner", "LEightParts$Reckoner;", true)
  | 2 => ("EightParts$Divider", "quotient", "[I", true)
  | 3 => ("EightParts$Divider", "rest", "[I", true)
  | 4 => ("EightParts$Divider", "mirrored", "[I", true)
  | 5 => ("EightParts$Divider", "dividend", "[I", true)
  | 6 => ("EightParts$Divider", "divided", "[I", true)
  | 7 => ("EightParts$Divider", "wide", "[J", true)
  | 8 => ("EightParts$Divider", "steps", "I", false)
  | _ => ("EightParts$Divider", "greatestShare", "J", false)
def tyX0 : Nat → FieldType := fun k => match k with
  | 0 => .object "EightParts$Lattice"
  | 1 => .object "EightParts$Reckoner"
  | 2 => .array .int
  | 3 => .array .int
  | 4 => .array .int
  | 5 => .array .int
  | 6 => .array .int
  | 7 => .array .long
  | 8 => .int
  | _ => .long
theorem nmX0 : ∀ a, a < 10 → ∀ b, b < 10 → a ≠ b → (TX0 a).2.1 ≠ (TX0 b).2.1 := by decide +kernel
theorem tyX0_ok : ∀ k, k < 10 → parseFieldDescriptor (TX0 k).2.2.1 = some (tyX0 k) := by decide +kernel
abbrev cX0_init : ByteArray := prog_2_method_1_code
def yX0_init : MethodName := ⟨RX0, "<init>", "(LEightParts$Lattice;LEightParts$Reckoner;)V"⟩
abbrev cX0_split : ByteArray := prog_2_method_2_code
def yX0_split : MethodName := ⟨RX0, "split", "([I[I)Z"⟩
abbrev cX0_walk : ByteArray := prog_2_method_3_code
def yX0_walk : MethodName := ⟨RX0, "walk", "([I[I)V"⟩
abbrev cX0_lastOfWalk : ByteArray := prog_2_method_4_code
def yX0_lastOfWalk : MethodName := ⟨RX0, "lastOfWalk", "()[I"⟩
abbrev cX0_lastNormBy4 : ByteArray := prog_2_method_5_code
def yX0_lastNormBy4 : MethodName := ⟨RX0, "lastNormBy4", "()J"⟩
abbrev cX0_divides : ByteArray := prog_2_method_6_code
def yX0_divides : MethodName := ⟨RX0, "divides", "([II[IZ)Z"⟩
abbrev cX0_noteShare : ByteArray := prog_2_method_7_code
def yX0_noteShare : MethodName := ⟨RX0, "noteShare", "()V"⟩
def RX1 : String := "EightParts$Keeper"
def TX1 : u_T := fun k => match k with
  | 0 => ("EightParts$Keeper", "heldOrders", "[I", true)
  | 1 => ("EightParts$Keeper", "numbers", "[I", true)
  | _ => ("EightParts$Keeper", "kept", "I", false)
def tyX1 : Nat → FieldType := fun k => match k with
  | 0 => .array .int
  | 1 => .array .int
  | _ => .int
theorem nmX1 : ∀ a, a < 3 → ∀ b, b < 3 → a ≠ b → (TX1 a).2.1 ≠ (TX1 b).2.1 := by decide +kernel
theorem tyX1_ok : ∀ k, k < 3 → parseFieldDescriptor (TX1 k).2.2.1 = some (tyX1 k) := by decide +kernel
abbrev cX1_init : ByteArray := prog_3_method_1_code
def yX1_init : MethodName := ⟨RX1, "<init>", "()V"⟩
abbrev cX1_push : ByteArray := prog_3_method_2_code
def yX1_push : MethodName := ⟨RX1, "push", "([[II)Z"⟩
abbrev cX1_pop : ByteArray := prog_3_method_3_code
def yX1_pop : MethodName := ⟨RX1, "pop", "([[I)I"⟩
def RX2 : String := "EightParts$Lattice"
def TX2 : u_T := fun k => match k with
  | 0 => ("EightParts$Lattice", "held", "I", false)
  | 1 => ("EightParts$Lattice", "near", "[[J", true)
  | 2 => ("EightParts$Lattice", "misses", "[[J", true)
  | _ => ("EightParts$Lattice", "chosen", "[J", true)
def tyX2 : Nat → FieldType := fun k => match k with
  | 0 => .int
  | 1 => .array (.array .long)
  | 2 => .array (.array .long)
  | _ => .array .long
theorem nmX2 : ∀ a, a < 4 → ∀ b, b < 4 → a ≠ b → (TX2 a).2.1 ≠ (TX2 b).2.1 := by decide +kernel
theorem tyX2_ok : ∀ k, k < 4 → parseFieldDescriptor (TX2 k).2.2.1 = some (tyX2 k) := by decide +kernel
abbrev cX2_init : ByteArray := prog_4_method_1_code
def yX2_init : MethodName := ⟨RX2, "<init>", "()V"⟩
abbrev cX2_manyWords : ByteArray := prog_4_method_2_code
def yX2_manyWords : MethodName := ⟨RX2, "manyWords", "(I)I"⟩
abbrev cX2_exchange : ByteArray := prog_4_method_3_code
def yX2_exchange : MethodName := ⟨RX2, "exchange", "(II)I"⟩
abbrev cX2_mayBeOdd : ByteArray := prog_4_method_4_code
def yX2_mayBeOdd : MethodName := ⟨RX2, "mayBeOdd", "(II)Z"⟩
abbrev cX2_manyUnitsOfBoth : ByteArray := prog_4_method_5_code
def yX2_manyUnitsOfBoth : MethodName := ⟨RX2, "manyUnitsOfBoth", "(II)I"⟩
abbrev cX2_isWhole : ByteArray := prog_4_method_6_code
def yX2_isWhole : MethodName := ⟨RX2, "isWhole", "([I)Z"⟩
abbrev cX2_isWholeBy : ByteArray := prog_4_method_7_code
def yX2_isWholeBy : MethodName := ⟨RX2, "isWholeBy", "([JJ)Z"⟩
abbrev cX2_layNearest : ByteArray := prog_4_method_8_code
def yX2_layNearest : MethodName := ⟨RX2, "layNearest", "([I[JJ)Z"⟩
abbrev cX2_findNear : ByteArray := prog_4_method_9_code
def yX2_findNear : MethodName := ⟨RX2, "findNear", "(IIJJ)V"⟩
abbrev cX2_bestWord : ByteArray := prog_4_method_10_code
def yX2_bestWord : MethodName := ⟨RX2, "bestWord", "()I"⟩
abbrev cX2_missOf : ByteArray := prog_4_method_11_code
def yX2_missOf : MethodName := ⟨RX2, "missOf", "(I)J"⟩
abbrev cX2_isListedAhead : ByteArray := prog_4_method_12_code
def yX2_isListedAhead : MethodName := ⟨RX2, "isListedAhead", "(II)Z"⟩
def RX3 : String := "EightParts$Laws"
def TX3 : u_T := fun k => match k with
  | 0 => ("EightParts$Laws", "reckoner", "LEightParts$Reckoner;", true)
  | 1 => ("EightParts$Laws", "xx", "[I", true)
  | 2 => ("EightParts$Laws", "xy", "[I", true)
  | 3 => ("EightParts$Laws", "yx", "[I", true)
  | 4 => ("EightParts$Laws", "yz", "[I", true)
  | 5 => ("EightParts$Laws", "zx", "[I", true)
  | 6 => ("EightParts$Laws", "zy", "[I", true)
  | 7 => ("EightParts$Laws", "left", "[I", true)
  | _ => ("EightParts$Laws", "right", "[I", true)
def tyX3 : Nat → FieldType := fun k => match k with
  | 0 => .object "EightParts$Reckoner"
  | 1 => .array .int
  | 2 => .array .int
  | 3 => .array .int
  | 4 => .array .int
  | 5 => .array .int
  | 6 => .array .int
  | 7 => .array .int
  | _ => .array .int
theorem nmX3 : ∀ a, a < 9 → ∀ b, b < 9 → a ≠ b → (TX3 a).2.1 ≠ (TX3 b).2.1 := by decide +kernel
theorem tyX3_ok : ∀ k, k < 9 → parseFieldDescriptor (TX3 k).2.2.1 = some (tyX3 k) := by decide +kernel
abbrev cX3_init : ByteArray := prog_5_method_1_code
def yX3_init : MethodName := ⟨RX3, "<init>", "(LEightParts$Reckoner;)V"⟩
abbrev cX3_whichHold : ByteArray := prog_5_method_2_code
def yX3_whichHold : MethodName := ⟨RX3, "whichHold", "([I[I[I)I"⟩
abbrev cX3_multiplyPairs : ByteArray := prog_5_method_3_code
def yX3_multiplyPairs : MethodName := ⟨RX3, "multiplyPairs", "([I[I[I)Z"⟩
abbrev cX3_layBothSides : ByteArray := prog_5_method_4_code
def yX3_layBothSides : MethodName := ⟨RX3, "layBothSides", "(I[I[I[I)Z"⟩
abbrev cX3_doNormsMultiply : ByteArray := prog_5_method_5_code
def yX3_doNormsMultiply : MethodName := ⟨RX3, "doNormsMultiply", "([I[I)Z"⟩
def RX4 : String := "EightParts$Lists"
def TX4 : u_T := fun k => match k with
  | 0 => ("EightParts$Lists", "lattice", "LEightParts$Lattice;", true)
  | 1 => ("EightParts$Lists", "rows", "[[I", true)
  | 2 => ("EightParts$Lists", "sizes", "[I", true)
  | 3 => ("EightParts$Lists", "madeFor", "[I", true)
  | _ => ("EightParts$Lists", "oddWords", "[I", true)
def tyX4 : Nat → FieldType := fun k => match k with
  | 0 => .object "EightParts$Lattice"
  | 1 => .array (.array .int)
  | 2 => .array .int
  | 3 => .array .int
  | _ => .array .int
theorem nmX4 : ∀ a, a < 5 → ∀ b, b < 5 → a ≠ b → (TX4 a).2.1 ≠ (TX4 b).2.1 := by decide +kernel
theorem tyX4_ok : ∀ k, k < 5 → parseFieldDescriptor (TX4 k).2.2.1 = some (tyX4 k) := by decide +kernel
abbrev cX4_init : ByteArray := prog_6_method_1_code
def yX4_init : MethodName := ⟨RX4, "<init>", "(LEightParts$Lattice;)V"⟩
abbrev cX4_manyOf : ByteArray := prog_6_method_2_code
def yX4_manyOf : MethodName := ⟨RX4, "manyOf", "(I)I"⟩
abbrev cX4_take : ByteArray := prog_6_method_3_code
def yX4_take : MethodName := ⟨RX4, "take", "([III)Z"⟩
abbrev cX4_find : ByteArray := prog_6_method_4_code
def yX4_find : MethodName := ⟨RX4, "find", "([I)I"⟩
abbrev cX4_takeUnit : ByteArray := prog_6_method_5_code
def yX4_takeUnit : MethodName := ⟨RX4, "takeUnit", "([II)Z"⟩
abbrev cX4_search : ByteArray := prog_6_method_6_code
def yX4_search : MethodName := ⟨RX4, "search", "(I[I)I"⟩
abbrev cX4_unpack : ByteArray := prog_6_method_7_code
def yX4_unpack : MethodName := ⟨RX4, "unpack", "([II)V"⟩
abbrev cX4_pack : ByteArray := prog_6_method_8_code
def yX4_pack : MethodName := ⟨RX4, "pack", "([I)I"⟩
abbrev cX4_fill : ByteArray := prog_6_method_9_code
def yX4_fill : MethodName := ⟨RX4, "fill", "(I)V"⟩
abbrev cX4_sortWords : ByteArray := prog_6_method_10_code
def yX4_sortWords : MethodName := ⟨RX4, "sortWords", "()V"⟩
abbrev cX4_grow : ByteArray := prog_6_method_11_code
def yX4_grow : MethodName := ⟨RX4, "grow", "(IIIII)V"⟩
def RX5 : String := "EightParts$Parts"
def TX5 : u_T := fun k => match k with
  | _ => ("", "", "", false)
def tyX5 : Nat → FieldType := fun k => match k with
  | _ => .int
theorem nmX5 : ∀ a, a < 0 → ∀ b, b < 0 → a ≠ b → (TX5 a).2.1 ≠ (TX5 b).2.1 := by decide +kernel
theorem tyX5_ok : ∀ k, k < 0 → parseFieldDescriptor (TX5 k).2.2.1 = some (tyX5 k) := by decide +kernel
abbrev cX5_lay : ByteArray := prog_7_method_2_code
def yX5_lay : MethodName := ⟨RX5, "lay", "([I[I)V"⟩
abbrev cX5_layOne : ByteArray := prog_7_method_3_code
def yX5_layOne : MethodName := ⟨RX5, "layOne", "([II)V"⟩
abbrev cX5_layMirrored : ByteArray := prog_7_method_4_code
def yX5_layMirrored : MethodName := ⟨RX5, "layMirrored", "([I[I)V"⟩
abbrev cX5_areEqual : ByteArray := prog_7_method_5_code
def yX5_areEqual : MethodName := ⟨RX5, "areEqual", "([I[I)Z"⟩
abbrev cX5_isZero : ByteArray := prog_7_method_6_code
def yX5_isZero : MethodName := ⟨RX5, "isZero", "([I)Z"⟩
abbrev cX5_isOne : ByteArray := prog_7_method_7_code
def yX5_isOne : MethodName := ⟨RX5, "isOne", "([I)Z"⟩
abbrev cX5_oddSet : ByteArray := prog_7_method_8_code
def yX5_oddSet : MethodName := ⟨RX5, "oddSet", "([I)I"⟩
abbrev cX5_normBy4 : ByteArray := prog_7_method_9_code
def yX5_normBy4 : MethodName := ⟨RX5, "normBy4", "([I)J"⟩
abbrev cX5_innerBy4 : ByteArray := prog_7_method_10_code
def yX5_innerBy4 : MethodName := ⟨RX5, "innerBy4", "([I[I)J"⟩
abbrev cX5_multiplyBy4 : ByteArray := prog_7_method_11_code
def yX5_multiplyBy4 : MethodName := ⟨RX5, "multiplyBy4", "([J[I[I)V"⟩
abbrev cX5_halve : ByteArray := prog_7_method_12_code
def yX5_halve : MethodName := ⟨RX5, "halve", "([J)Z"⟩
abbrev cX5_layIfWithin : ByteArray := prog_7_method_13_code
def yX5_layIfWithin : MethodName := ⟨RX5, "layIfWithin", "([I[J)Z"⟩
def RX6 : String := "EightParts$Reader"
def TX6 : u_T := fun k => match k with
  | 0 => ("EightParts$Reader", "tape", "LEightParts$Tape;", true)
  | 1 => ("EightParts$Reader", "slots", "[[I", true)
  | 2 => ("EightParts$Reader", "reckoner", "LEightParts$Reckoner;", true)
  | 3 => ("EightParts$Reader", "sums", "[[I", true)
  | 4 => ("EightParts$Reader", "terms", "[[I", true)
  | 5 => ("EightParts$Reader", "factors", "[[I", true)
  | 6 => ("EightParts$Reader", "at", "I", false)
  | 7 => ("EightParts$Reader", "fault", "I", false)
  | _ => ("EightParts$Reader", "can", "Z", false)
def tyX6 : Nat → FieldType := fun k => match k with
  | 0 => .object "EightParts$Tape"
  | 1 => .array (.array .int)
  | 2 => .object "EightParts$Reckoner"
  | 3 => .array (.array .int)
  | 4 => .array (.array .int)
  | 5 => .array (.array .int)
  | 6 => .int
  | 7 => .int
  | _ => .boolean
theorem nmX6 : ∀ a, a < 9 → ∀ b, b < 9 → a ≠ b → (TX6 a).2.1 ≠ (TX6 b).2.1 := by decide +kernel
theorem tyX6_ok : ∀ k, k < 9 → parseFieldDescriptor (TX6 k).2.2.1 = some (tyX6 k) := by decide +kernel
abbrev cX6_init : ByteArray := prog_8_method_1_code
def yX6_init : MethodName := ⟨RX6, "<init>", "(LEightParts$Tape;[[ILEightParts$Reckoner;)V"⟩
abbrev cX6_read : ByteArray := prog_8_method_2_code
def yX6_read : MethodName := ⟨RX6, "read", "()I"⟩
abbrev cX6_layResult : ByteArray := prog_8_method_3_code
def yX6_layResult : MethodName := ⟨RX6, "layResult", "([I)Z"⟩
abbrev cX6_ahead : ByteArray := prog_8_method_4_code
def yX6_ahead : MethodName := ⟨RX6, "ahead", "()I"⟩
abbrev cX6_readSum : ByteArray := prog_8_method_5_code
def yX6_readSum : MethodName := ⟨RX6, "readSum", "(I)V"⟩
abbrev cX6_readTerm : ByteArray := prog_8_method_6_code
def yX6_readTerm : MethodName := ⟨RX6, "readTerm", "(I)V"⟩
abbrev cX6_note : ByteArray := prog_8_method_7_code
def yX6_note : MethodName := ⟨RX6, "note", "(Z)V"⟩
abbrev cX6_readFactor : ByteArray := prog_8_method_8_code
def yX6_readFactor : MethodName := ⟨RX6, "readFactor", "(I)V"⟩
abbrev cX6_readNested : ByteArray := prog_8_method_9_code
def yX6_readNested : MethodName := ⟨RX6, "readNested", "(II)V"⟩
abbrev cX6_readInt : ByteArray := prog_8_method_10_code
def yX6_readInt : MethodName := ⟨RX6, "readInt", "(I)V"⟩
abbrev cX6_isDigit : ByteArray := prog_8_method_11_code
def yX6_isDigit : MethodName := ⟨RX6, "isDigit", "(I)Z"⟩
def RX7 : String := "EightParts$Reckoner"
def TX7 : u_T := fun k => match k with
  | 0 => ("EightParts$Reckoner", "result", "[J", true)
  | 1 => ("EightParts$Reckoner", "middle", "[I", true)
  | _ => ("EightParts$Reckoner", "mirrored", "[I", true)
def tyX7 : Nat → FieldType := fun k => match k with
  | 0 => .array .long
  | 1 => .array .int
  | _ => .array .int
theorem nmX7 : ∀ a, a < 3 → ∀ b, b < 3 → a ≠ b → (TX7 a).2.1 ≠ (TX7 b).2.1 := by decide +kernel
theorem tyX7_ok : ∀ k, k < 3 → parseFieldDescriptor (TX7 k).2.2.1 = some (tyX7 k) := by decide +kernel
abbrev cX7_init : ByteArray := prog_9_method_1_code
def yX7_init : MethodName := ⟨RX7, "<init>", "()V"⟩
abbrev cX7_add : ByteArray := prog_9_method_2_code
def yX7_add : MethodName := ⟨RX7, "add", "([I[I[II)Z"⟩
abbrev cX7_scale : ByteArray := prog_9_method_3_code
def yX7_scale : MethodName := ⟨RX7, "scale", "([I[II)Z"⟩
abbrev cX7_multiply : ByteArray := prog_9_method_4_code
def yX7_multiply : MethodName := ⟨RX7, "multiply", "([I[I[I)Z"⟩
abbrev cX7_turnBy : ByteArray := prog_9_method_5_code
def yX7_turnBy : MethodName := ⟨RX7, "turnBy", "([I[I[II)Z"⟩
def RX8 : String := "EightParts$Tape"
def TX8 : u_T := fun k => match k with
  | 0 => ("EightParts$Tape", "bytes", "[B", true)
  | _ => ("EightParts$Tape", "length", "I", false)
def tyX8 : Nat → FieldType := fun k => match k with
  | 0 => .array .byte
  | _ => .int
theorem nmX8 : ∀ a, a < 2 → ∀ b, b < 2 → a ≠ b → (TX8 a).2.1 ≠ (TX8 b).2.1 := by decide +kernel
theorem tyX8_ok : ∀ k, k < 2 → parseFieldDescriptor (TX8 k).2.2.1 = some (tyX8 k) := by decide +kernel
abbrev cX8_init : ByteArray := prog_10_method_1_code
def yX8_init : MethodName := ⟨RX8, "<init>", "()V"⟩
abbrev cX8_hasRoom : ByteArray := prog_10_method_2_code
def yX8_hasRoom : MethodName := ⟨RX8, "hasRoom", "()Z"⟩
abbrev cX8_append : ByteArray := prog_10_method_3_code
def yX8_append : MethodName := ⟨RX8, "append", "(I)V"⟩
abbrev cX8_byteAt : ByteArray := prog_10_method_4_code
def yX8_byteAt : MethodName := ⟨RX8, "byteAt", "(I)I"⟩
def RX9 : String := "EightParts$Units"
def TX9 : u_T := fun k => match k with
  | 0 => ("EightParts$Units", "lists", "LEightParts$Lists;", true)
  | 1 => ("EightParts$Units", "reckoner", "LEightParts$Reckoner;", true)
  | 2 => ("EightParts$Units", "x", "[I", true)
  | 3 => ("EightParts$Units", "y", "[I", true)
  | 4 => ("EightParts$Units", "products", "[I", false)
  | 5 => ("EightParts$Units", "productsFor", "I", false)
  | 6 => ("EightParts$Units", "members", "[I", true)
  | 7 => ("EightParts$Units", "isMember", "[Z", true)
  | _ => ("EightParts$Units", "gathered", "I", false)
def tyX9 : Nat → FieldType := fun k => match k with
  | 0 => .object "EightParts$Lists"
  | 1 => .object "EightParts$Reckoner"
  | 2 => .array .int
  | 3 => .array .int
  | 4 => .array .int
  | 5 => .int
  | 6 => .array .int
  | 7 => .array .boolean
  | _ => .int
theorem nmX9 : ∀ a, a < 9 → ∀ b, b < 9 → a ≠ b → (TX9 a).2.1 ≠ (TX9 b).2.1 := by decide +kernel
theorem tyX9_ok : ∀ k, k < 9 → parseFieldDescriptor (TX9 k).2.2.1 = some (tyX9 k) := by decide +kernel
abbrev cX9_init : ByteArray := prog_11_method_1_code
def yX9_init : MethodName := ⟨RX9, "<init>", "(LEightParts$Lists;LEightParts$Reckoner;)V"⟩
abbrev cX9_multiplyAt : ByteArray := prog_11_method_2_code
def yX9_multiplyAt : MethodName := ⟨RX9, "multiplyAt", "(II)I"⟩
abbrev cX9_cycleOf : ByteArray := prog_11_method_3_code
def yX9_cycleOf : MethodName := ⟨RX9, "cycleOf", "(I)I"⟩
abbrev cX9_gather : ByteArray := prog_11_method_4_code
def yX9_gather : MethodName := ⟨RX9, "gather", "([[II)Z"⟩
abbrev cX9_gatheredAt : ByteArray := prog_11_method_5_code
def yX9_gatheredAt : MethodName := ⟨RX9, "gatheredAt", "(I)I"⟩
abbrev cX9_areAssociative : ByteArray := prog_11_method_6_code
def yX9_areAssociative : MethodName := ⟨RX9, "areAssociative", "()Z"⟩
abbrev cX9_manyCentral : ByteArray := prog_11_method_7_code
def yX9_manyCentral : MethodName := ⟨RX9, "manyCentral", "()I"⟩
abbrev cX9_manyOwnInverse : ByteArray := prog_11_method_8_code
def yX9_manyOwnInverse : MethodName := ⟨RX9, "manyOwnInverse", "()I"⟩
abbrev cX9_forgetMembers : ByteArray := prog_11_method_9_code
def yX9_forgetMembers : MethodName := ⟨RX9, "forgetMembers", "()V"⟩
abbrev cX9_admit : ByteArray := prog_11_method_10_code
def yX9_admit : MethodName := lw_takes
abbrev cX9_close : ByteArray := prog_11_method_11_code
def yX9_close : MethodName := ⟨RX9, "close", "()V"⟩
abbrev cX9_isReal : ByteArray := prog_11_method_12_code
def yX9_isReal : MethodName := ⟨RX9, "isReal", "(I)Z"⟩
abbrev cX9_associatesWithAll : ByteArray := prog_11_method_13_code
def yX9_associatesWithAll : MethodName := ⟨RX9, "associatesWithAll", "(I)Z"⟩
abbrev cX9_commutesWithAll : ByteArray := prog_11_method_14_code
def yX9_commutesWithAll : MethodName := ⟨RX9, "commutesWithAll", "(I)Z"⟩
abbrev cX9_multiplyNegative : ByteArray := prog_11_method_15_code
def yX9_multiplyNegative : MethodName := ⟨RX9, "multiplyNegative", "(II)I"⟩
abbrev cX9_makeRoom : ByteArray := prog_11_method_16_code
def yX9_makeRoom : MethodName := ⟨RX9, "makeRoom", "()V"⟩
def RX10 : String := "EightParts$Ways"
def TX10 : u_T := fun k => match k with
  | 0 => ("EightParts$Ways", "reckoner", "LEightParts$Reckoner;", true)
  | 1 => ("EightParts$Ways", "products", "[[I", false)
  | _ => ("EightParts$Ways", "can", "[Z", true)
def tyX10 : Nat → FieldType := fun k => match k with
  | 0 => .object "EightParts$Reckoner"
  | 1 => .array (.array .int)
  | _ => .array .boolean
theorem nmX10 : ∀ a, a < 3 → ∀ b, b < 3 → a ≠ b → (TX10 a).2.1 ≠ (TX10 b).2.1 := by decide +kernel
theorem tyX10_ok : ∀ k, k < 3 → parseFieldDescriptor (TX10 k).2.2.1 = some (tyX10 k) := by decide +kernel
abbrev cX10_init : ByteArray := prog_12_method_1_code
def yX10_init : MethodName := ⟨RX10, "<init>", "(LEightParts$Reckoner;)V"⟩
abbrev cX10_manyOf : ByteArray := prog_12_method_2_code
def yX10_manyOf : MethodName := ⟨RX10, "manyOf", "(I)I"⟩
abbrev cX10_fill : ByteArray := prog_12_method_3_code
def yX10_fill : MethodName := ⟨RX10, "fill", "([[III)V"⟩
abbrev cX10_layWay : ByteArray := prog_12_method_4_code
def yX10_layWay : MethodName := ⟨RX10, "layWay", "([III)Z"⟩
abbrev cX10_manyUnlike : ByteArray := prog_12_method_5_code
def yX10_manyUnlike : MethodName := ⟨RX10, "manyUnlike", "(I)I"⟩
abbrev cX10_isNew : ByteArray := prog_12_method_6_code
def yX10_isNew : MethodName := ⟨RX10, "isNew", "(II)Z"⟩
abbrev cX10_fillStretch : ByteArray := prog_12_method_7_code
def yX10_fillStretch : MethodName := ⟨RX10, "fillStretch", "(II)V"⟩
abbrev cX10_startOf : ByteArray := prog_12_method_8_code
def yX10_startOf : MethodName := ⟨RX10, "startOf", "(II)I"⟩
abbrev cX10_join : ByteArray := prog_12_method_9_code
def yX10_join : MethodName := ⟨RX10, "join", "(III)V"⟩
def RX11 : String := "EightParts"
def TX11 : u_T := fun k => match k with
  | 0 => ("EightParts", "slots", "[[I", true)
  | 1 => ("EightParts", "reckoner", "LEightParts$Reckoner;", true)
  | 2 => ("EightParts", "lattice", "LEightParts$Lattice;", true)
  | 3 => ("EightParts", "lists", "LEightParts$Lists;", true)
  | 4 => ("EightParts", "units", "LEightParts$Units;", true)
  | 5 => ("EightParts", "divider", "LEightParts$Divider;", true)
  | 6 => ("EightParts", "lawBook", "LEightParts$Laws;", true)
  | 7 => ("EightParts", "ways", "LEightParts$Ways;", true)
  | 8 => ("EightParts", "tape", "LEightParts$Tape;", true)
  | 9 => ("EightParts", "reader", "LEightParts$Reader;", true)
  | 10 => ("EightParts", "keeper", "LEightParts$Keeper;", true)
  | 11 => ("EightParts", "spelled", "Ljava/lang/StringBuilder;", true)
  | 12 => ("EightParts", "current", "[I", true)
  | 13 => ("EightParts", "left", "[I", true)
  | 14 => ("EightParts", "right", "[I", true)
  | _ => ("EightParts", "wide", "[J", true)
def tyX11 : Nat → FieldType := fun k => match k with
  | 0 => .array (.array .int)
  | 1 => .object "EightParts$Reckoner"
  | 2 => .object "EightParts$Lattice"
  | 3 => .object "EightParts$Lists"
  | 4 => .object "EightParts$Units"
  | 5 => .object "EightParts$Divider"
  | 6 => .object "EightParts$Laws"
  | 7 => .object "EightParts$Ways"
  | 8 => .object "EightParts$Tape"
  | 9 => .object "EightParts$Reader"
  | 10 => .object "EightParts$Keeper"
  | 11 => .object "java/lang/StringBuilder"
  | 12 => .array .int
  | 13 => .array .int
  | 14 => .array .int
  | _ => .array .long
theorem nmX11 : ∀ a, a < 16 → ∀ b, b < 16 → a ≠ b → (TX11 a).2.1 ≠ (TX11 b).2.1 := by decide +kernel
theorem tyX11_ok : ∀ k, k < 16 → parseFieldDescriptor (TX11 k).2.2.1 = some (tyX11 k) := by decide +kernel
abbrev cX11_init : ByteArray := prog_1_method_1_code
def yX11_init : MethodName := ⟨RX11, "<init>", "()V"⟩
abbrev cX11_put : ByteArray := prog_1_method_2_code
def yX11_put : MethodName := ⟨RX11, "put", "(III)Z"⟩
abbrev cX11_one : ByteArray := prog_1_method_3_code
def yX11_one : MethodName := ⟨RX11, "one", "(II)Z"⟩
abbrev cX11_listed : ByteArray := prog_1_method_4_code
def yX11_listed : MethodName := ⟨RX11, "listed", "(III)Z"⟩
abbrev cX11_copy : ByteArray := prog_1_method_5_code
def yX11_copy : MethodName := ⟨RX11, "copy", "(II)Z"⟩
abbrev cX11_order : ByteArray := prog_1_method_6_code
def yX11_order : MethodName := ⟨RX11, "order", "(I)I"⟩
abbrev cX11_sum : ByteArray := prog_1_method_7_code
def yX11_sum : MethodName := ⟨RX11, "sum", "(III)I"⟩
abbrev cX11_less : ByteArray := prog_1_method_8_code
def yX11_less : MethodName := ⟨RX11, "less", "(III)I"⟩
abbrev cX11_product : ByteArray := prog_1_method_9_code
def yX11_product : MethodName := ⟨RX11, "product", "(III)I"⟩
abbrev cX11_mirror : ByteArray := prog_1_method_10_code
def yX11_mirror : MethodName := ⟨RX11, "mirror", "(II)I"⟩
abbrev cX11_times : ByteArray := prog_1_method_11_code
def yX11_times : MethodName := ⟨RX11, "times", "(III)I"⟩
abbrev cX11_turn : ByteArray := prog_1_method_12_code
def yX11_turn : MethodName := ⟨RX11, "turn", "(IIII)I"⟩
abbrev cX11_chain : ByteArray := prog_1_method_13_code
def yX11_chain : MethodName := ⟨RX11, "chain", "(IIIII)I"⟩
abbrev cX11_last : ByteArray := prog_1_method_14_code
def yX11_last : MethodName := ⟨RX11, "last", "(III)I"⟩
abbrev cX11_power : ByteArray := prog_1_method_15_code
def yX11_power : MethodName := ⟨RX11, "power", "(III)I"⟩
abbrev cX11_associator : ByteArray := prog_1_method_16_code
def yX11_associator : MethodName := ⟨RX11, "associator", "(IIII)I"⟩
abbrev cX11_commutator : ByteArray := prog_1_method_17_code
def yX11_commutator : MethodName := ⟨RX11, "commutator", "(III)I"⟩
abbrev cX11_nearest : ByteArray := prog_1_method_18_code
def yX11_nearest : MethodName := ⟨RX11, "nearest", "(III)I"⟩
abbrev cX11_divide : ByteArray := prog_1_method_19_code
def yX11_divide : MethodName := ⟨RX11, "divide", "(IIII)I"⟩
abbrev cX11_bracket : ByteArray := prog_1_method_20_code
def yX11_bracket : MethodName := ⟨RX11, "bracket", "(IIII)I"⟩
abbrev cX11_feed : ByteArray := prog_1_method_21_code
def yX11_feed : MethodName := ⟨RX11, "feed", "(IIIII)I"⟩
abbrev cX11_back : ByteArray := prog_1_method_22_code
def yX11_back : MethodName := ⟨RX11, "back", "(I)I"⟩
abbrev cX11_work : ByteArray := prog_1_method_23_code
def yX11_work : MethodName := ⟨RX11, "work", "(I)I"⟩
abbrev cX11_part : ByteArray := prog_1_method_24_code
def yX11_part : MethodName := ⟨RX11, "part", "(II)I"⟩
abbrev cX11_norm : ByteArray := prog_1_method_25_code
def yX11_norm : MethodName := ⟨RX11, "norm", "(I)I"⟩
abbrev cX11_spell : ByteArray := prog_1_method_26_code
def yX11_spell : MethodName := ⟨RX11, "spell", "(II)I"⟩
abbrev cX11_turned : ByteArray := prog_1_method_27_code
def yX11_turned : MethodName := ⟨RX11, "turned", "(IIII)I"⟩
abbrev cX11_odd : ByteArray := prog_1_method_28_code
def yX11_odd : MethodName := ⟨RX11, "odd", "(I)I"⟩
abbrev cX11_whole : ByteArray := prog_1_method_29_code
def yX11_whole : MethodName := ⟨RX11, "whole", "(I)I"⟩
abbrev cX11_orders : ByteArray := prog_1_method_30_code
def yX11_orders : MethodName := ⟨RX11, "orders", "(I)I"⟩
abbrev cX11_same : ByteArray := prog_1_method_31_code
def yX11_same : MethodName := ⟨RX11, "same", "(II)I"⟩
abbrev cX11_many : ByteArray := prog_1_method_32_code
def yX11_many : MethodName := ⟨RX11, "many", "(I)I"⟩
abbrev cX11_listedPart : ByteArray := prog_1_method_33_code
def yX11_listedPart : MethodName := ⟨RX11, "listedPart", "(III)I"⟩
abbrev cX11_place : ByteArray := prog_1_method_34_code
def yX11_place : MethodName := ⟨RX11, "place", "(I)I"⟩
abbrev cX11_divisors : ByteArray := prog_1_method_35_code
def yX11_divisors : MethodName := ⟨RX11, "divisors", "(IIZ)I"⟩
abbrev cX11_divisor : ByteArray := prog_1_method_36_code
def yX11_divisor : MethodName := ⟨RX11, "divisor", "(IIZI)I"⟩
abbrev cX11_inner : ByteArray := prog_1_method_37_code
def yX11_inner : MethodName := ⟨RX11, "inner", "(II)I"⟩
abbrev cX11_angles : ByteArray := prog_1_method_38_code
def yX11_angles : MethodName := ⟨RX11, "angles", "(III)I"⟩
abbrev cX11_alike : ByteArray := prog_1_method_39_code
def yX11_alike : MethodName := ⟨RX11, "alike", "(III)I"⟩
abbrev cX11_alikeMany : ByteArray := prog_1_method_40_code
def yX11_alikeMany : MethodName := ⟨RX11, "alikeMany", "(III)I"⟩
abbrev cX11_commuting : ByteArray := prog_1_method_41_code
def yX11_commuting : MethodName := ⟨RX11, "commuting", "(II)I"⟩
abbrev cX11_sides : ByteArray := prog_1_method_42_code
def yX11_sides : MethodName := ⟨RX11, "sides", "(IIZ)I"⟩
abbrev cX11_cycle : ByteArray := prog_1_method_43_code
def yX11_cycle : MethodName := ⟨RX11, "cycle", "(I)I"⟩
abbrev cX11_made : ByteArray := prog_1_method_44_code
def yX11_made : MethodName := ⟨RX11, "made", "(II)I"⟩
abbrev cX11_madeAt : ByteArray := prog_1_method_45_code
def yX11_madeAt : MethodName := ⟨RX11, "madeAt", "(II)I"⟩
abbrev cX11_table : ByteArray := prog_1_method_46_code
def yX11_table : MethodName := ⟨RX11, "table", "(II)I"⟩
abbrev cX11_turnCycle : ByteArray := prog_1_method_47_code
def yX11_turnCycle : MethodName := ⟨RX11, "turnCycle", "(III)I"⟩
abbrev cX11_shared : ByteArray := prog_1_method_48_code
def yX11_shared : MethodName := ⟨RX11, "shared", "(II)I"⟩
abbrev cX11_cycles : ByteArray := prog_1_method_49_code
def yX11_cycles : MethodName := ⟨RX11, "cycles", "(I)I"⟩
abbrev cX11_nucleus : ByteArray := prog_1_method_50_code
def yX11_nucleus : MethodName := ⟨RX11, "nucleus", "(II)I"⟩
abbrev cX11_laws : ByteArray := prog_1_method_51_code
def yX11_laws : MethodName := ⟨RX11, "laws", "(III)I"⟩
abbrev cX11_bracketed : ByteArray := prog_1_method_52_code
def yX11_bracketed : MethodName := ⟨RX11, "bracketed", "(II)I"⟩
abbrev cX11_rests : ByteArray := prog_1_method_53_code
def yX11_rests : MethodName := ⟨RX11, "rests", "(III)I"⟩
abbrev cX11_keep : ByteArray := prog_1_method_54_code
def yX11_keep : MethodName := ⟨RX11, "keep", "()I"⟩
abbrev cX11_restore : ByteArray := prog_1_method_55_code
def yX11_restore : MethodName := ⟨RX11, "restore", "()I"⟩
abbrev cX11_count : ByteArray := prog_1_method_56_code
def yX11_count : MethodName := ⟨RX11, "count", "(I)I"⟩
abbrev cX11_isEighth : ByteArray := prog_1_method_57_code
def yX11_isEighth : MethodName := ⟨RX11, "isEighth", "(I)Z"⟩
abbrev cX11_areSlots : ByteArray := prog_1_method_58_code
def yX11_areSlots : MethodName := ⟨RX11, "areSlots", "(II)Z"⟩
abbrev cX11_areSlots_ : ByteArray := prog_1_method_59_code
def yX11_areSlots_ : MethodName := ⟨RX11, "areSlots", "(III)Z"⟩
abbrev cX11_isSlotSet : ByteArray := prog_1_method_60_code
def yX11_isSlotSet : MethodName := ⟨RX11, "isSlotSet", "(I)Z"⟩
abbrev cX11_isTurn : ByteArray := prog_1_method_61_code
def yX11_isTurn : MethodName := ⟨RX11, "isTurn", "(I)Z"⟩
abbrev cX11_isListedNorm : ByteArray := prog_1_method_62_code
def yX11_isListedNorm : MethodName := ⟨RX11, "isListedNorm", "(I)Z"⟩
abbrev cX11_isDivisor : ByteArray := prog_1_method_63_code
def yX11_isDivisor : MethodName := ⟨RX11, "isDivisor", "(I)Z"⟩
abbrev cX11_isRow : ByteArray := prog_1_method_64_code
def yX11_isRow : MethodName := ⟨RX11, "isRow", "(III)Z"⟩
abbrev cX11_slotOfRow : ByteArray := prog_1_method_65_code
def yX11_slotOfRow : MethodName := ⟨RX11, "slotOfRow", "(II)I"⟩
abbrev cX11_told : ByteArray := prog_1_method_66_code
def yX11_told : MethodName := ⟨RX11, "told", "(Z)I"⟩
abbrev cX11_asked : ByteArray := prog_1_method_67_code
def yX11_asked : MethodName := ⟨RX11, "asked", "(Z)I"⟩
abbrev cX11_capped : ByteArray := prog_1_method_68_code
def yX11_capped : MethodName := ⟨RX11, "capped", "(J)I"⟩
abbrev cX11_spellPart : ByteArray := prog_1_method_69_code
def yX11_spellPart : MethodName := ⟨RX11, "spellPart", "(II)V"⟩
abbrev cX11_isDivisorAt : ByteArray := prog_1_method_70_code
def yX11_isDivisorAt : MethodName := ⟨RX11, "isDivisorAt", "(IIZI)Z"⟩
abbrev cX11_areAlike : ByteArray := prog_1_method_71_code
def yX11_areAlike : MethodName := ⟨RX11, "areAlike", "([I[II)Z"⟩
abbrev cX11_doCommute : ByteArray := prog_1_method_72_code
def yX11_doCommute : MethodName := ⟨RX11, "doCommute", "([I[I)Z"⟩
abbrev cX11_doAssociate : ByteArray := prog_1_method_73_code
def yX11_doAssociate : MethodName := ⟨RX11, "doAssociate", "([I[I[I)Z"⟩
abbrev cX11_wholeSlots : ByteArray := prog_1_method_74_code
def yX11_wholeSlots : MethodName := ⟨RX11, "wholeSlots", "()I"⟩
abbrev cX11_emptySlots : ByteArray := prog_1_method_75_code
def yX11_emptySlots : MethodName := ⟨RX11, "emptySlots", "()I"⟩
def RX12 : String := "EightPartsModel"
def TX12 : u_T := fun k => match k with
  | 0 => ("EightPartsModel", "thrown", "I", false)
  | 1 => ("EightPartsModel", "signs", "[I", true)
  | 2 => ("EightPartsModel", "row", "[I", true)
  | 3 => ("EightPartsModel", "wide", "[J", true)
  | 4 => ("EightPartsModel", "ruling", "I", false)
  | 5 => ("EightPartsModel", "lists", "[I", true)
  | 6 => ("EightPartsModel", "listMany", "[I", true)
  | 7 => ("EightPartsModel", "listOrder", "[I", true)
  | 8 => ("EightPartsModel", "now", "[I", true)
  | 9 => ("EightPartsModel", "left", "[I", true)
  | 10 => ("EightPartsModel", "best", "[J", true)
  | 11 => ("EightPartsModel", "trial", "[J", true)
  | 12 => ("EightPartsModel", "restMany", "I", false)
  | 13 => ("EightPartsModel", "restNorm", "J", false)
  | 14 => ("EightPartsModel", "restShare", "J", false)
  | 15 => ("EightPartsModel", "hasLast", "Z", false)
  | 16 => ("EightPartsModel", "wayFrom", "[I", true)
  | 17 => ("EightPartsModel", "wayMany", "[I", true)
  | 18 => ("EightPartsModel", "wayIs", "[Z", true)
  | 19 => ("EightPartsModel", "tape", "[I", true)
  | 20 => ("EightPartsModel", "taped", "I", false)
  | 21 => ("EightPartsModel", "opened", "[I", true)
  | 22 => ("EightPartsModel", "hasSum", "[Z", true)
  | 23 => ("EightPartsModel", "hasTerm", "[Z", true)
  | 24 => ("EightPartsModel", "comesBy", "[I", true)
  | 25 => ("EightPartsModel", "open", "I", false)
  | 26 => ("EightPartsModel", "level", "I", false)
  | 27 => ("EightPartsModel", "couldBe", "Z", false)
  | 28 => ("EightPartsModel", "at", "I", false)
  | 29 => ("EightPartsModel", "text", "[I", true)
  | 30 => ("EightPartsModel", "textMany", "I", false)
  | 31 => ("EightPartsModel", "joined", "[I", true)
  | 32 => ("EightPartsModel", "joinedOrder", "I", false)
  | 33 => ("EightPartsModel", "isMade", "[Z", true)
  | 34 => ("EightPartsModel", "makes", "[I", true)
  | 35 => ("EightPartsModel", "makesMany", "I", false)
  | 36 => ("EightPartsModel", "kept", "[I", true)
  | _ => ("EightPartsModel", "keptMany", "I", false)
def tyX12 : Nat → FieldType := fun k => match k with
  | 0 => .int
  | 1 => .array .int
  | 2 => .array .int
  | 3 => .array .long
  | 4 => .int
  | 5 => .array .int
  | 6 => .array .int
  | 7 => .array .int
  | 8 => .array .int
  | 9 => .array .int
  | 10 => .array .long
  | 11 => .array .long
  | 12 => .int
  | 13 => .long
  | 14 => .long
  | 15 => .boolean
  | 16 => .array .int
  | 17 => .array .int
  | 18 => .array .boolean
  | 19 => .array .int
  | 20 => .int
  | 21 => .array .int
  | 22 => .array .boolean
  | 23 => .array .boolean
  | 24 => .array .int
  | 25 => .int
  | 26 => .int
  | 27 => .boolean
  | 28 => .int
  | 29 => .array .int
  | 30 => .int
  | 31 => .array .int
  | 32 => .int
  | 33 => .array .boolean
  | 34 => .array .int
  | 35 => .int
  | 36 => .array .int
  | _ => .int
theorem nmX12 : ∀ a, a < 38 → ∀ b, b < 38 → a ≠ b → (TX12 a).2.1 ≠ (TX12 b).2.1 := by decide +kernel
theorem tyX12_ok : ∀ k, k < 38 → parseFieldDescriptor (TX12 k).2.2.1 = some (tyX12 k) := by decide +kernel
abbrev cX12_in : ByteArray := prog_14_method_2_code
def yX12_in : MethodName := ⟨RX12, "in", "(JJJ)Z"⟩
abbrev cX12_has : ByteArray := prog_14_method_3_code
def yX12_has : MethodName := ⟨RX12, "has", "(II)Z"⟩
abbrev cX12_bitsOf : ByteArray := prog_14_method_4_code
def yX12_bitsOf : MethodName := ⟨RX12, "bitsOf", "(I)I"⟩
abbrev cX12_init : ByteArray := prog_14_method_6_code
def yX12_init : MethodName := ⟨RX12, "<init>", "()V"⟩
abbrev cX12_isSlot : ByteArray := prog_14_method_7_code
def yX12_isSlot : MethodName := ⟨RX12, "isSlot", "(I)Z"⟩
abbrev cX12_isPart : ByteArray := prog_14_method_8_code
def yX12_isPart : MethodName := ⟨RX12, "isPart", "(I)Z"⟩
abbrev cX12_becomes : ByteArray := prog_14_method_9_code
def yX12_becomes : MethodName := ⟨RX12, "becomes", "(II)V"⟩
abbrev cX12_nought : ByteArray := prog_14_method_10_code
def yX12_nought : MethodName := ⟨RX12, "nought", "(I)V"⟩
abbrev cX12_areSame : ByteArray := prog_14_method_11_code
def yX12_areSame : MethodName := ⟨RX12, "areSame", "(II)Z"⟩
abbrev cX12_isNought : ByteArray := prog_14_method_12_code
def yX12_isNought : MethodName := ⟨RX12, "isNought", "(I)Z"⟩
abbrev cX12_comes : ByteArray := prog_14_method_13_code
def yX12_comes : MethodName := ⟨RX12, "comes", "(I)Z"⟩
abbrev cX12_isProduct : ByteArray := prog_14_method_14_code
def yX12_isProduct : MethodName := ⟨RX12, "isProduct", "(IIZZ)Z"⟩
abbrev cX12_multiplies : ByteArray := prog_14_method_15_code
def yX12_multiplies : MethodName := ⟨RX12, "multiplies", "(III)Z"⟩
abbrev cX12_adds : ByteArray := prog_14_method_16_code
def yX12_adds : MethodName := ⟨RX12, "adds", "(IIII)Z"⟩
abbrev cX12_mirrors : ByteArray := prog_14_method_17_code
def yX12_mirrors : MethodName := ⟨RX12, "mirrors", "(II)V"⟩
abbrev cX12_normOf : ByteArray := prog_14_method_18_code
def yX12_normOf : MethodName := ⟨RX12, "normOf", "(I)J"⟩
abbrev cX12_held : ByteArray := prog_14_method_19_code
def yX12_held : MethodName := ⟨RX12, "held", "(J)I"⟩
abbrev cX12_oddOf : ByteArray := prog_14_method_20_code
def yX12_oddOf : MethodName := ⟨RX12, "oddOf", "(I)I"⟩
abbrev cX12_isCode : ByteArray := prog_14_method_21_code
def yX12_isCode : MethodName := ⟨RX12, "isCode", "(I)Z"⟩
abbrev cX12_isOf : ByteArray := prog_14_method_22_code
def yX12_isOf : MethodName := ⟨RX12, "isOf", "(II)Z"⟩
abbrev cX12_isWhole : ByteArray := prog_14_method_23_code
def yX12_isWhole : MethodName := ⟨RX12, "isWhole", "(I)Z"⟩
abbrev cX12_isUnit : ByteArray := prog_14_method_24_code
def yX12_isUnit : MethodName := ⟨RX12, "isUnit", "(I)Z"⟩
abbrev cX12_listFrom : ByteArray := prog_14_method_25_code
def yX12_listFrom : MethodName := ⟨RX12, "listFrom", "(I)I"⟩
abbrev cX12_oddIn : ByteArray := prog_14_method_26_code
def yX12_oddIn : MethodName := ⟨RX12, "oddIn", "([I)I"⟩
abbrev cX12_laysList : ByteArray := prog_14_method_27_code
def yX12_laysList : MethodName := ⟨RX12, "laysList", "(II)V"⟩
abbrev cX12_isNorm : ByteArray := prog_14_method_28_code
def yX12_isNorm : MethodName := ⟨RX12, "isNorm", "(I)Z"⟩
abbrev cX12_listSize : ByteArray := prog_14_method_29_code
def yX12_listSize : MethodName := ⟨RX12, "listSize", "(I)I"⟩
abbrev cX12_brings : ByteArray := prog_14_method_30_code
def yX12_brings : MethodName := ⟨RX12, "brings", "(III)V"⟩
abbrev cX12_against : ByteArray := prog_14_method_31_code
def yX12_against : MethodName := ⟨RX12, "against", "(III)I"⟩
abbrev cX12_numberOf : ByteArray := prog_14_method_32_code
def yX12_numberOf : MethodName := ⟨RX12, "numberOf", "(I)I"⟩
abbrev cX12_put : ByteArray := prog_14_method_33_code
def yX12_put : MethodName := ⟨RX12, "put", "(III)Z"⟩
abbrev cX12_one : ByteArray := prog_14_method_34_code
def yX12_one : MethodName := ⟨RX12, "one", "(II)Z"⟩
abbrev cX12_listed : ByteArray := prog_14_method_35_code
def yX12_listed : MethodName := ⟨RX12, "listed", "(III)Z"⟩
abbrev cX12_copy : ByteArray := prog_14_method_36_code
def yX12_copy : MethodName := ⟨RX12, "copy", "(II)Z"⟩
abbrev cX12_order : ByteArray := prog_14_method_37_code
def yX12_order : MethodName := ⟨RX12, "order", "(I)I"⟩
abbrev cX12_can : ByteArray := prog_14_method_38_code
def yX12_can : MethodName := ⟨RX12, "can", "(Z)I"⟩
abbrev cX12_ends : ByteArray := prog_14_method_39_code
def yX12_ends : MethodName := ⟨RX12, "ends", "(ZII)I"⟩
abbrev cX12_areSlots : ByteArray := prog_14_method_40_code
def yX12_areSlots : MethodName := ⟨RX12, "areSlots", "(III)Z"⟩
abbrev cX12_sum : ByteArray := prog_14_method_41_code
def yX12_sum : MethodName := ⟨RX12, "sum", "(III)I"⟩
abbrev cX12_less : ByteArray := prog_14_method_42_code
def yX12_less : MethodName := ⟨RX12, "less", "(III)I"⟩
abbrev cX12_product : ByteArray := prog_14_method_43_code
def yX12_product : MethodName := ⟨RX12, "product", "(III)I"⟩
abbrev cX12_mirror : ByteArray := prog_14_method_44_code
def yX12_mirror : MethodName := ⟨RX12, "mirror", "(II)I"⟩
abbrev cX12_times : ByteArray := prog_14_method_45_code
def yX12_times : MethodName := ⟨RX12, "times", "(III)I"⟩
abbrev cX12_isTurn : ByteArray := prog_14_method_46_code
def yX12_isTurn : MethodName := ⟨RX12, "isTurn", "(I)Z"⟩
abbrev cX12_turns : ByteArray := prog_14_method_47_code
def yX12_turns : MethodName := ⟨RX12, "turns", "(IIII)Z"⟩
abbrev cX12_turn : ByteArray := prog_14_method_48_code
def yX12_turn : MethodName := ⟨RX12, "turn", "(IIII)I"⟩
abbrev cX12_isRow : ByteArray := prog_14_method_49_code
def yX12_isRow : MethodName := ⟨RX12, "isRow", "(III)Z"⟩
abbrev cX12_slotIn : ByteArray := prog_14_method_50_code
def yX12_slotIn : MethodName := ⟨RX12, "slotIn", "(II)I"⟩
abbrev cX12_chain : ByteArray := prog_14_method_51_code
def yX12_chain : MethodName := ⟨RX12, "chain", "(IIIII)I"⟩
abbrev cX12_powers : ByteArray := prog_14_method_52_code
def yX12_powers : MethodName := ⟨RX12, "powers", "(III)Z"⟩
abbrev cX12_power : ByteArray := prog_14_method_53_code
def yX12_power : MethodName := ⟨RX12, "power", "(III)I"⟩
abbrev cX12_associator : ByteArray := prog_14_method_54_code
def yX12_associator : MethodName := ⟨RX12, "associator", "(IIII)I"⟩
abbrev cX12_commutator : ByteArray := prog_14_method_55_code
def yX12_commutator : MethodName := ⟨RX12, "commutator", "(III)I"⟩
abbrev cX12_near : ByteArray := prog_14_method_56_code
def yX12_near : MethodName := ⟨RX12, "near", "(JJI)J"⟩
abbrev cX12_isAhead : ByteArray := prog_14_method_57_code
def yX12_isAhead : MethodName := ⟨RX12, "isAhead", "()Z"⟩
abbrev cX12_nears : ByteArray := prog_14_method_58_code
def yX12_nears : MethodName := ⟨RX12, "nears", "(J)V"⟩
abbrev cX12_nearest : ByteArray := prog_14_method_59_code
def yX12_nearest : MethodName := ⟨RX12, "nearest", "(III)I"⟩
abbrev cX12_divides : ByteArray := prog_14_method_60_code
def yX12_divides : MethodName := ⟨RX12, "divides", "(II)Z"⟩
abbrev cX12_divide : ByteArray := prog_14_method_61_code
def yX12_divide : MethodName := ⟨RX12, "divide", "(IIII)I"⟩
abbrev cX12_goesOn : ByteArray := prog_14_method_62_code
def yX12_goesOn : MethodName := ⟨RX12, "goesOn", "(II)V"⟩
abbrev cX12_last : ByteArray := prog_14_method_63_code
def yX12_last : MethodName := ⟨RX12, "last", "(III)I"⟩
abbrev cX12_rests : ByteArray := prog_14_method_64_code
def yX12_rests : MethodName := ⟨RX12, "rests", "(III)I"⟩
abbrev cX12_laysWays : ByteArray := prog_14_method_65_code
def yX12_laysWays : MethodName := ⟨RX12, "laysWays", "(II)V"⟩
abbrev cX12_joins : ByteArray := prog_14_method_66_code
def yX12_joins : MethodName := ⟨RX12, "joins", "(III)I"⟩
abbrev cX12_bracket : ByteArray := prog_14_method_67_code
def yX12_bracket : MethodName := ⟨RX12, "bracket", "(IIII)I"⟩
abbrev cX12_bracketed : ByteArray := prog_14_method_68_code
def yX12_bracketed : MethodName := ⟨RX12, "bracketed", "(II)I"⟩
abbrev cX12_feed : ByteArray := prog_14_method_69_code
def yX12_feed : MethodName := ⟨RX12, "feed", "(IIIII)I"⟩
abbrev cX12_back : ByteArray := prog_14_method_70_code
def yX12_back : MethodName := ⟨RX12, "back", "(I)I"⟩
abbrev cX12_opens : ByteArray := prog_14_method_71_code
def yX12_opens : MethodName := ⟨RX12, "opens", "(I)V"⟩
abbrev cX12_factors : ByteArray := prog_14_method_72_code
def yX12_factors : MethodName := ⟨RX12, "factors", "(I)V"⟩
abbrev cX12_sums : ByteArray := prog_14_method_73_code
def yX12_sums : MethodName := ⟨RX12, "sums", "()V"⟩
abbrev cX12_begins : ByteArray := prog_14_method_74_code
def yX12_begins : MethodName := ⟨RX12, "begins", "(I)Z"⟩
abbrev cX12_follows : ByteArray := prog_14_method_75_code
def yX12_follows : MethodName := ⟨RX12, "follows", "(I)Z"⟩
abbrev cX12_works : ByteArray := prog_14_method_76_code
def yX12_works : MethodName := ⟨RX12, "works", "()I"⟩
abbrev cX12_work : ByteArray := prog_14_method_77_code
def yX12_work : MethodName := ⟨RX12, "work", "(I)I"⟩
abbrev cX12_part : ByteArray := prog_14_method_78_code
def yX12_part : MethodName := ⟨RX12, "part", "(II)I"⟩
abbrev cX12_norm : ByteArray := prog_14_method_79_code
def yX12_norm : MethodName := ⟨RX12, "norm", "(I)I"⟩
abbrev cX12_writes : ByteArray := prog_14_method_80_code
def yX12_writes : MethodName := ⟨RX12, "writes", "(I)V"⟩
abbrev cX12_writesNumber : ByteArray := prog_14_method_81_code
def yX12_writesNumber : MethodName := ⟨RX12, "writesNumber", "(I)V"⟩
abbrev cX12_writesAll : ByteArray := prog_14_method_82_code
def yX12_writesAll : MethodName := ⟨RX12, "writesAll", "(I)V"⟩
abbrev cX12_spell : ByteArray := prog_14_method_83_code
def yX12_spell : MethodName := ⟨RX12, "spell", "(II)I"⟩
abbrev cX12_turned : ByteArray := prog_14_method_84_code
def yX12_turned : MethodName := ⟨RX12, "turned", "(IIII)I"⟩
abbrev cX12_odd : ByteArray := prog_14_method_85_code
def yX12_odd : MethodName := ⟨RX12, "odd", "(I)I"⟩
abbrev cX12_whole : ByteArray := prog_14_method_86_code
def yX12_whole : MethodName := ⟨RX12, "whole", "(I)I"⟩
abbrev cX12_orders : ByteArray := prog_14_method_87_code
def yX12_orders : MethodName := ⟨RX12, "orders", "(I)I"⟩
abbrev cX12_same : ByteArray := prog_14_method_88_code
def yX12_same : MethodName := ⟨RX12, "same", "(II)I"⟩
abbrev cX12_many : ByteArray := prog_14_method_89_code
def yX12_many : MethodName := ⟨RX12, "many", "(I)I"⟩
abbrev cX12_listedPart : ByteArray := prog_14_method_90_code
def yX12_listedPart : MethodName := ⟨RX12, "listedPart", "(III)I"⟩
abbrev cX12_place : ByteArray := prog_14_method_91_code
def yX12_place : MethodName := ⟨RX12, "place", "(I)I"⟩
abbrev cX12_isWholeBy : ByteArray := prog_14_method_92_code
def yX12_isWholeBy : MethodName := ⟨RX12, "isWholeBy", "(J)Z"⟩
abbrev cX12_isDivisor : ByteArray := prog_14_method_93_code
def yX12_isDivisor : MethodName := ⟨RX12, "isDivisor", "(IIIZ)Z"⟩
abbrev cX12_divisorsOf : ByteArray := prog_14_method_94_code
def yX12_divisorsOf : MethodName := ⟨RX12, "divisorsOf", "(IIZI)I"⟩
abbrev cX12_divisors : ByteArray := prog_14_method_95_code
def yX12_divisors : MethodName := ⟨RX12, "divisors", "(IIZ)I"⟩
abbrev cX12_divisor : ByteArray := prog_14_method_96_code
def yX12_divisor : MethodName := ⟨RX12, "divisor", "(IIZI)I"⟩
abbrev cX12_innerOf : ByteArray := prog_14_method_97_code
def yX12_innerOf : MethodName := ⟨RX12, "innerOf", "(II)I"⟩
abbrev cX12_inner : ByteArray := prog_14_method_98_code
def yX12_inner : MethodName := ⟨RX12, "inner", "(II)I"⟩
abbrev cX12_angles : ByteArray := prog_14_method_99_code
def yX12_angles : MethodName := ⟨RX12, "angles", "(III)I"⟩
abbrev cX12_areAlike : ByteArray := prog_14_method_100_code
def yX12_areAlike : MethodName := ⟨RX12, "areAlike", "(III)Z"⟩
abbrev cX12_alike : ByteArray := prog_14_method_101_code
def yX12_alike : MethodName := ⟨RX12, "alike", "(III)I"⟩
abbrev cX12_alikeMany : ByteArray := prog_14_method_102_code
def yX12_alikeMany : MethodName := ⟨RX12, "alikeMany", "(III)I"⟩
abbrev cX12_doCommute : ByteArray := prog_14_method_103_code
def yX12_doCommute : MethodName := ⟨RX12, "doCommute", "(II)Z"⟩
abbrev cX12_commuting : ByteArray := prog_14_method_104_code
def yX12_commuting : MethodName := ⟨RX12, "commuting", "(II)I"⟩
abbrev cX12_sides : ByteArray := prog_14_method_105_code
def yX12_sides : MethodName := ⟨RX12, "sides", "(IIZ)I"⟩
abbrev cX12_cycleOf : ByteArray := prog_14_method_106_code
def yX12_cycleOf : MethodName := ⟨RX12, "cycleOf", "(I)I"⟩
abbrev cX12_cycle : ByteArray := prog_14_method_107_code
def yX12_cycle : MethodName := ⟨RX12, "cycle", "(I)I"⟩
abbrev cX12_cycles : ByteArray := prog_14_method_108_code
def yX12_cycles : MethodName := ⟨RX12, "cycles", "(I)I"⟩
abbrev cX12_laysTable : ByteArray := prog_14_method_109_code
def yX12_laysTable : MethodName := ⟨RX12, "laysTable", "()V"⟩
abbrev cX12_table : ByteArray := prog_14_method_110_code
def yX12_table : MethodName := ⟨RX12, "table", "(II)I"⟩
abbrev cX12_adds_ : ByteArray := prog_14_method_111_code
def yX12_adds_ : MethodName := ⟨RX12, "adds", "(I)V"⟩
abbrev cX12_laysMade : ByteArray := prog_14_method_112_code
def yX12_laysMade : MethodName := ⟨RX12, "laysMade", "(I)Z"⟩
abbrev cX12_madeProduct : ByteArray := prog_14_method_113_code
def yX12_madeProduct : MethodName := ⟨RX12, "madeProduct", "(II)I"⟩
abbrev cX12_areAssociative : ByteArray := prog_14_method_114_code
def yX12_areAssociative : MethodName := ⟨RX12, "areAssociative", "()Z"⟩
abbrev cX12_center : ByteArray := prog_14_method_115_code
def yX12_center : MethodName := ⟨RX12, "center", "()I"⟩
abbrev cX12_squares : ByteArray := prog_14_method_116_code
def yX12_squares : MethodName := ⟨RX12, "squares", "()I"⟩
abbrev cX12_made : ByteArray := prog_14_method_117_code
def yX12_made : MethodName := ⟨RX12, "made", "(II)I"⟩
abbrev cX12_madeAt : ByteArray := prog_14_method_118_code
def yX12_madeAt : MethodName := ⟨RX12, "madeAt", "(II)I"⟩
abbrev cX12_turnCycle : ByteArray := prog_14_method_119_code
def yX12_turnCycle : MethodName := ⟨RX12, "turnCycle", "(III)I"⟩
abbrev cX12_shared : ByteArray := prog_14_method_120_code
def yX12_shared : MethodName := ⟨RX12, "shared", "(II)I"⟩
abbrev cX12_nucleus : ByteArray := prog_14_method_121_code
def yX12_nucleus : MethodName := ⟨RX12, "nucleus", "(II)I"⟩
abbrev cX12_both : ByteArray := prog_14_method_122_code
def yX12_both : MethodName := ⟨RX12, "both", "(IIII)Z"⟩
abbrev cX12_laws : ByteArray := prog_14_method_123_code
def yX12_laws : MethodName := ⟨RX12, "laws", "(III)I"⟩
abbrev cX12_keep : ByteArray := prog_14_method_124_code
def yX12_keep : MethodName := ⟨RX12, "keep", "()I"⟩
abbrev cX12_restore : ByteArray := prog_14_method_125_code
def yX12_restore : MethodName := ⟨RX12, "restore", "()I"⟩
abbrev cX12_wholes : ByteArray := prog_14_method_126_code
def yX12_wholes : MethodName := ⟨RX12, "wholes", "()I"⟩
abbrev cX12_noughts : ByteArray := prog_14_method_127_code
def yX12_noughts : MethodName := ⟨RX12, "noughts", "()I"⟩
abbrev cX12_count : ByteArray := prog_14_method_128_code
def yX12_count : MethodName := ⟨RX12, "count", "(I)I"⟩
def RJx145de : String := "java/io/Serializable"
def TJx145de : u_T := fun k => match k with
  | _ => ("", "", "", false)
def tyJx145de : Nat → FieldType := fun k => match k with
  | _ => .int
theorem nmJx145de : ∀ a, a < 0 → ∀ b, b < 0 → a ≠ b → (TJx145de a).2.1 ≠ (TJx145de b).2.1 := by decide +kernel
theorem tyJx145de_ok : ∀ k, k < 0 → parseFieldDescriptor (TJx145de k).2.2.1 = some (tyJx145de k) := by decide +kernel
def RJ5 : String := "java/lang/AbstractStringBuilder"
def TJ5 : u_T := fun k => match k with
  | _ => ("", "", "", false)
def tyJ5 : Nat → FieldType := fun k => match k with
  | _ => .int
theorem nmJ5 : ∀ a, a < 0 → ∀ b, b < 0 → a ≠ b → (TJ5 a).2.1 ≠ (TJ5 b).2.1 := by decide +kernel
theorem tyJ5_ok : ∀ k, k < 0 → parseFieldDescriptor (TJ5 k).2.2.1 = some (tyJ5 k) := by decide +kernel
abbrev cJ5_init_d00df : ByteArray := prog_15_method_2_code
def yJ5_init_d00df : MethodName := ⟨RJ5, "<init>", "(I)V"⟩
abbrev cJ5_length_8abf5 : ByteArray := prog_15_method_6_code
def yJ5_length_8abf5 : MethodName := ⟨RJ5, "length", "()I"⟩
abbrev cJ5_ensureCapacityInternal_d00df : ByteArray := prog_15_method_9_code
def yJ5_ensureCapacityInternal_d00df : MethodName := ⟨RJ5, "ensureCapacityInternal", "(I)V"⟩
abbrev cJ5_newCapacity_0f7a4 : ByteArray := prog_15_method_10_code
def yJ5_newCapacity_0f7a4 : MethodName := ⟨RJ5, "newCapacity", "(I)I"⟩
abbrev cJ5_inflate_da8c8 : ByteArray := prog_15_method_11_code
def yJ5_inflate_da8c8 : MethodName := ⟨RJ5, "inflate", "()V"⟩
abbrev cJ5_setLength_d00df : ByteArray := prog_15_method_13_code
def yJ5_setLength_d00df : MethodName := ⟨RJ5, "setLength", "(I)V"⟩
abbrev cJ5_charAt_5068e : ByteArray := prog_15_method_14_code
def yJ5_charAt_5068e : MethodName := ⟨RJ5, "charAt", "(I)C"⟩
abbrev cJ5_append_cf1ce : ByteArray := prog_15_method_22_code
def yJ5_append_cf1ce : MethodName := ⟨RJ5, "append", "(Ljava/lang/String;)Ljava/lang/AbstractStringBuilder;"⟩
abbrev cJ5_appendNull_278bc : ByteArray := prog_15_method_26_code
def yJ5_appendNull_278bc : MethodName := ⟨RJ5, "appendNull", "()Ljava/lang/AbstractStringBuilder;"⟩
abbrev cJ5_append_3fe6f : ByteArray := prog_15_method_31_code
def yJ5_append_3fe6f : MethodName := ⟨RJ5, "append", "(C)Ljava/lang/AbstractStringBuilder;"⟩
abbrev cJ5_append_c97b9 : ByteArray := prog_15_method_32_code
def yJ5_append_c97b9 : MethodName := ⟨RJ5, "append", "(I)Ljava/lang/AbstractStringBuilder;"⟩
abbrev cJ5_isLatin1_aae02 : ByteArray := prog_15_method_68_code
def yJ5_isLatin1_aae02 : MethodName := ⟨RJ5, "isLatin1", "()Z"⟩
abbrev cJ5_inflateIfNeededFor_a7421 : ByteArray := prog_15_method_71_code
def yJ5_inflateIfNeededFor_a7421 : MethodName := ⟨RJ5, "inflateIfNeededFor", "(Ljava/lang/String;)V"⟩
abbrev cJ5_putStringAt_47b60 : ByteArray := prog_15_method_73_code
def yJ5_putStringAt_47b60 : MethodName := ⟨RJ5, "putStringAt", "(ILjava/lang/String;)V"⟩
def RJx2cfe8 : String := "java/lang/Appendable"
def TJx2cfe8 : u_T := fun k => match k with
  | _ => ("", "", "", false)
def tyJx2cfe8 : Nat → FieldType := fun k => match k with
  | _ => .int
theorem nmJx2cfe8 : ∀ a, a < 0 → ∀ b, b < 0 → a ≠ b → (TJx2cfe8 a).2.1 ≠ (TJx2cfe8 b).2.1 := by decide +kernel
theorem tyJx2cfe8_ok : ∀ k, k < 0 → parseFieldDescriptor (TJx2cfe8 k).2.2.1 = some (tyJx2cfe8 k) := by decide +kernel
def RJx9f9b0 : String := "java/lang/CharSequence"
def TJx9f9b0 : u_T := fun k => match k with
  | _ => ("", "", "", false)
def tyJx9f9b0 : Nat → FieldType := fun k => match k with
  | _ => .int
theorem nmJx9f9b0 : ∀ a, a < 0 → ∀ b, b < 0 → a ≠ b → (TJx9f9b0 a).2.1 ≠ (TJx9f9b0 b).2.1 := by decide +kernel
theorem tyJx9f9b0_ok : ∀ k, k < 0 → parseFieldDescriptor (TJx9f9b0 k).2.2.1 = some (tyJx9f9b0 k) := by decide +kernel
def RJx8e188 : String := "java/lang/Cloneable"
def TJx8e188 : u_T := fun k => match k with
  | _ => ("", "", "", false)
def tyJx8e188 : Nat → FieldType := fun k => match k with
  | _ => .int
theorem nmJx8e188 : ∀ a, a < 0 → ∀ b, b < 0 → a ≠ b → (TJx8e188 a).2.1 ≠ (TJx8e188 b).2.1 := by decide +kernel
theorem tyJx8e188_ok : ∀ k, k < 0 → parseFieldDescriptor (TJx8e188 k).2.2.1 = some (tyJx8e188 k) := by decide +kernel
def RJxb160c : String := "java/lang/Comparable"
def TJxb160c : u_T := fun k => match k with
  | _ => ("", "", "", false)
def tyJxb160c : Nat → FieldType := fun k => match k with
  | _ => .int
theorem nmJxb160c : ∀ a, a < 0 → ∀ b, b < 0 → a ≠ b → (TJxb160c a).2.1 ≠ (TJxb160c b).2.1 := by decide +kernel
theorem tyJxb160c_ok : ∀ k, k < 0 → parseFieldDescriptor (TJxb160c k).2.2.1 = some (tyJxb160c k) := by decide +kernel
def RJ6 : String := "java/lang/Integer"
def TJ6 : u_T := fun k => match k with
  | _ => ("", "", "", false)
def tyJ6 : Nat → FieldType := fun k => match k with
  | _ => .int
theorem nmJ6 : ∀ a, a < 0 → ∀ b, b < 0 → a ≠ b → (TJ6 a).2.1 ≠ (TJ6 b).2.1 := by decide +kernel
theorem tyJ6_ok : ∀ k, k < 0 → parseFieldDescriptor (TJ6 k).2.2.1 = some (tyJ6 k) := by decide +kernel
abbrev cJ6_getChars_ba4f3 : ByteArray := prog_17_method_12_code
def yJ6_getChars_ba4f3 : MethodName := ⟨RJ6, "getChars", "(II[B)I"⟩
abbrev cJ6_stringSize_0f7a4 : ByteArray := prog_17_method_13_code
def yJ6_stringSize_0f7a4 : MethodName := ⟨RJ6, "stringSize", "(I)I"⟩
abbrev cJ6_bitCount_0f7a4 : ByteArray := prog_17_method_49_code
def yJ6_bitCount_0f7a4 : MethodName := ⟨RJ6, "bitCount", "(I)I"⟩
def RJ9 : String := "java/lang/Math"
def TJ9 : u_T := fun k => match k with
  | _ => ("", "", "", false)
def tyJ9 : Nat → FieldType := fun k => match k with
  | _ => .int
theorem nmJ9 : ∀ a, a < 0 → ∀ b, b < 0 → a ≠ b → (TJ9 a).2.1 ≠ (TJ9 b).2.1 := by decide +kernel
theorem tyJ9_ok : ∀ k, k < 0 → parseFieldDescriptor (TJ9 k).2.2.1 = some (tyJ9 k) := by decide +kernel
abbrev cJ9_floorDiv_f86c9 : ByteArray := prog_18_method_49_code
def yJ9_floorDiv_f86c9 : MethodName := ⟨RJ9, "floorDiv", "(JJ)J"⟩
abbrev cJ9_abs_0f7a4 : ByteArray := prog_18_method_59_code
def yJ9_abs_0f7a4 : MethodName := ⟨RJ9, "abs", "(I)I"⟩
abbrev cJ9_max_7cf53 : ByteArray := prog_18_method_65_code
def yJ9_max_7cf53 : MethodName := ⟨RJ9, "max", "(II)I"⟩
abbrev cJ9_max_f86c9 : ByteArray := prog_18_method_66_code
def yJ9_max_f86c9 : MethodName := ⟨RJ9, "max", "(JJ)J"⟩
abbrev cJ9_min_7cf53 : ByteArray := prog_18_method_69_code
def yJ9_min_7cf53 : MethodName := ⟨RJ9, "min", "(II)I"⟩
abbrev cJ9_min_f86c9 : ByteArray := prog_18_method_70_code
def yJ9_min_f86c9 : MethodName := ⟨RJ9, "min", "(JJ)J"⟩
def RJxd2413 : String := "java/lang/Number"
def TJxd2413 : u_T := fun k => match k with
  | _ => ("", "", "", false)
def tyJxd2413 : Nat → FieldType := fun k => match k with
  | _ => .int
theorem nmJxd2413 : ∀ a, a < 0 → ∀ b, b < 0 → a ≠ b → (TJxd2413 a).2.1 ≠ (TJxd2413 b).2.1 := by decide +kernel
theorem tyJxd2413_ok : ∀ k, k < 0 → parseFieldDescriptor (TJxd2413 k).2.2.1 = some (tyJxd2413 k) := by decide +kernel
def RJ0 : String := "java/lang/String"
def TJ0 : u_T := fun k => match k with
  | _ => ("", "", "", false)
def tyJ0 : Nat → FieldType := fun k => match k with
  | _ => .int
theorem nmJ0 : ∀ a, a < 0 → ∀ b, b < 0 → a ≠ b → (TJ0 a).2.1 ≠ (TJ0 b).2.1 := by decide +kernel
theorem tyJ0_ok : ∀ k, k < 0 → parseFieldDescriptor (TJ0 k).2.2.1 = some (tyJ0 k) := by decide +kernel
abbrev cJ0_length_8abf5 : ByteArray := prog_20_method_54_code
def yJ0_length_8abf5 : MethodName := ⟨RJ0, "length", "()I"⟩
abbrev cJ0_getBytes_840e7 : ByteArray := prog_20_method_147_code
def yJ0_getBytes_840e7 : MethodName := ⟨RJ0, "getBytes", "([BIB)V"⟩
abbrev cJ0_coder_7d493 : ByteArray := prog_20_method_152_code
def yJ0_coder_7d493 : MethodName := ⟨RJ0, "coder", "()B"⟩
abbrev cJ0_checkIndex_df160 : ByteArray := prog_20_method_155_code
def yJ0_checkIndex_df160 : MethodName := ⟨RJ0, "checkIndex", "(II)V"⟩
abbrev cJ0_checkBoundsOffCount_cabcc : ByteArray := prog_20_method_157_code
def yJ0_checkBoundsOffCount_cabcc : MethodName := ⟨RJ0, "checkBoundsOffCount", "(III)I"⟩
abbrev cJ0_checkBoundsBeginEnd_23922 : ByteArray := prog_20_method_158_code
def yJ0_checkBoundsBeginEnd_23922 : MethodName := ⟨RJ0, "checkBoundsBeginEnd", "(III)V"⟩
def RJ4 : String := "java/lang/StringBuilder"
def TJ4 : u_T := fun k => match k with
  | 0 => ("java/lang/AbstractStringBuilder", "value", "[B", false)
  | 1 => ("java/lang/AbstractStringBuilder", "coder", "B", false)
  | 2 => ("java/lang/AbstractStringBuilder", "maybeLatin1", "Z", false)
  | _ => ("java/lang/AbstractStringBuilder", "count", "I", false)
def tyJ4 : Nat → FieldType := fun k => match k with
  | 0 => .array .byte
  | 1 => .byte
  | 2 => .boolean
  | _ => .int
theorem nmJ4 : ∀ a, a < 4 → ∀ b, b < 4 → a ≠ b → (TJ4 a).2.1 ≠ (TJ4 b).2.1 := by decide +kernel
theorem tyJ4_ok : ∀ k, k < 4 → parseFieldDescriptor (TJ4 k).2.2.1 = some (tyJ4 k) := by decide +kernel
abbrev cJ4_init_da8c8 : ByteArray := prog_21_method_1_code
def yJ4_init_da8c8 : MethodName := ⟨RJ4, "<init>", "()V"⟩
abbrev cJ4_append_15ec4 : ByteArray := prog_21_method_7_code
def yJ4_append_15ec4 : MethodName := ⟨RJ4, "append", "(Ljava/lang/String;)Ljava/lang/StringBuilder;"⟩
abbrev cJ4_append_cf468 : ByteArray := prog_21_method_14_code
def yJ4_append_cf468 : MethodName := ⟨RJ4, "append", "(C)Ljava/lang/StringBuilder;"⟩
abbrev cJ4_append_bf812 : ByteArray := prog_21_method_15_code
def yJ4_append_bf812 : MethodName := ⟨RJ4, "append", "(I)Ljava/lang/StringBuilder;"⟩
abbrev cJ4_charAt_5068e : ByteArray := prog_21_method_88_code
def yJ4_charAt_5068e : MethodName := ⟨RJ4, "charAt", "(I)C"⟩
abbrev cJ4_setLength_d00df : ByteArray := prog_21_method_89_code
def yJ4_setLength_d00df : MethodName := ⟨RJ4, "setLength", "(I)V"⟩
abbrev cJ4_length_8abf5 : ByteArray := prog_21_method_93_code
def yJ4_length_8abf5 : MethodName := ⟨RJ4, "length", "()I"⟩
def RJ1 : String := "java/lang/StringLatin1"
def TJ1 : u_T := fun k => match k with
  | _ => ("", "", "", false)
def tyJ1 : Nat → FieldType := fun k => match k with
  | _ => .int
theorem nmJ1 : ∀ a, a < 0 → ∀ b, b < 0 → a ≠ b → (TJ1 a).2.1 ≠ (TJ1 b).2.1 := by decide +kernel
theorem tyJ1_ok : ∀ k, k < 0 → parseFieldDescriptor (TJ1 k).2.2.1 = some (tyJ1 k) := by decide +kernel
abbrev cJ1_canEncode_fc78d : ByteArray := prog_22_method_3_code
def yJ1_canEncode_fc78d : MethodName := ⟨RJ1, "canEncode", "(C)Z"⟩
abbrev cJ1_fillNull_b72d1 : ByteArray := prog_22_method_48_code
def yJ1_fillNull_b72d1 : MethodName := ⟨RJ1, "fillNull", "([BII)V"⟩
abbrev cJ1_inflate_0e8fd : ByteArray := prog_22_method_50_code
def yJ1_inflate_0e8fd : MethodName := ⟨RJ1, "inflate", "([BI[BII)V"⟩
def RJ2 : String := "java/lang/StringUTF16"
def TJ2 : u_T := fun k => match k with
  | _ => ("", "", "", false)
def tyJ2 : Nat → FieldType := fun k => match k with
  | _ => .int
theorem nmJ2 : ∀ a, a < 0 → ∀ b, b < 0 → a ≠ b → (TJ2 a).2.1 ≠ (TJ2 b).2.1 := by decide +kernel
theorem tyJ2_ok : ∀ k, k < 0 → parseFieldDescriptor (TJ2 k).2.2.1 = some (tyJ2 k) := by decide +kernel
abbrev cJ2_newBytesFor_77867 : ByteArray := prog_23_method_2_code
def yJ2_newBytesFor_77867 : MethodName := ⟨RJ2, "newBytesFor", "(I)[B"⟩
abbrev cJ2_newBytesLength_0f7a4 : ByteArray := prog_23_method_3_code
def yJ2_newBytesLength_0f7a4 : MethodName := ⟨RJ2, "newBytesLength", "(I)I"⟩
abbrev cJ2_putChar_b72d1 : ByteArray := prog_23_method_4_code
def yJ2_putChar_b72d1 : MethodName := ⟨RJ2, "putChar", "([BII)V"⟩
abbrev cJ2_getChar_3b067 : ByteArray := prog_23_method_5_code
def yJ2_getChar_3b067 : MethodName := ⟨RJ2, "getChar", "([BI)C"⟩
abbrev cJ2_length_9d52b : ByteArray := prog_23_method_6_code
def yJ2_length_9d52b : MethodName := ⟨RJ2, "length", "([B)I"⟩
abbrev cJ2_fillNull_b72d1 : ByteArray := prog_23_method_70_code
def yJ2_fillNull_b72d1 : MethodName := ⟨RJ2, "fillNull", "([BII)V"⟩
abbrev cJ2_putCharSB_b72d1 : ByteArray := prog_23_method_71_code
def yJ2_putCharSB_b72d1 : MethodName := ⟨RJ2, "putCharSB", "([BII)V"⟩
abbrev cJ2_getChars_46870 : ByteArray := prog_23_method_77_code
def yJ2_getChars_46870 : MethodName := ⟨RJ2, "getChars", "(III[B)I"⟩
abbrev cJ2_putCharsAt_cd4e5 : ByteArray := prog_23_method_81_code
def yJ2_putCharsAt_cd4e5 : MethodName := ⟨RJ2, "putCharsAt", "([BICCCC)I"⟩
abbrev cJ2_inflate_0e8fd : ByteArray := prog_23_method_86_code
def yJ2_inflate_0e8fd : MethodName := ⟨RJ2, "inflate", "([BI[BII)V"⟩
abbrev cJ2_getChars_ba4f3 : ByteArray := prog_23_method_89_code
def yJ2_getChars_ba4f3 : MethodName := ⟨RJ2, "getChars", "(II[B)I"⟩
abbrev cJ2_checkIndex_2214a : ByteArray := prog_23_method_91_code
def yJ2_checkIndex_2214a : MethodName := ⟨RJ2, "checkIndex", "(I[B)V"⟩
abbrev cJ2_checkBoundsBeginEnd_d044e : ByteArray := prog_23_method_93_code
def yJ2_checkBoundsBeginEnd_d044e : MethodName := ⟨RJ2, "checkBoundsBeginEnd", "(II[B)V"⟩
abbrev cJ2_checkBoundsOffCount_d044e : ByteArray := prog_23_method_94_code
def yJ2_checkBoundsOffCount_d044e : MethodName := ⟨RJ2, "checkBoundsOffCount", "(II[B)V"⟩
def RJ10 : String := "java/lang/System"
def TJ10 : u_T := fun k => match k with
  | _ => ("", "", "", false)
def tyJ10 : Nat → FieldType := fun k => match k with
  | _ => .int
theorem nmJ10 : ∀ a, a < 0 → ∀ b, b < 0 → a ≠ b → (TJ10 a).2.1 ≠ (TJ10 b).2.1 := by decide +kernel
theorem tyJ10_ok : ∀ k, k < 0 → parseFieldDescriptor (TJ10 k).2.2.1 = some (tyJ10 k) := by decide +kernel
def RJxfd54e : String := "java/lang/constant/Constable"
def TJxfd54e : u_T := fun k => match k with
  | _ => ("", "", "", false)
def tyJxfd54e : Nat → FieldType := fun k => match k with
  | _ => .int
theorem nmJxfd54e : ∀ a, a < 0 → ∀ b, b < 0 → a ≠ b → (TJxfd54e a).2.1 ≠ (TJxfd54e b).2.1 := by decide +kernel
theorem tyJxfd54e_ok : ∀ k, k < 0 → parseFieldDescriptor (TJxfd54e k).2.2.1 = some (tyJxfd54e k) := by decide +kernel
def RJx3cf43 : String := "java/lang/constant/ConstantDesc"
def TJx3cf43 : u_T := fun k => match k with
  | _ => ("", "", "", false)
def tyJx3cf43 : Nat → FieldType := fun k => match k with
  | _ => .int
theorem nmJx3cf43 : ∀ a, a < 0 → ∀ b, b < 0 → a ≠ b → (TJx3cf43 a).2.1 ≠ (TJx3cf43 b).2.1 := by decide +kernel
theorem tyJx3cf43_ok : ∀ k, k < 0 → parseFieldDescriptor (TJx3cf43 k).2.2.1 = some (tyJx3cf43 k) := by decide +kernel
def RJ7 : String := "java/util/Arrays"
def TJ7 : u_T := fun k => match k with
  | _ => ("", "", "", false)
def tyJ7 : Nat → FieldType := fun k => match k with
  | _ => .int
theorem nmJ7 : ∀ a, a < 0 → ∀ b, b < 0 → a ≠ b → (TJ7 a).2.1 ≠ (TJ7 b).2.1 := by decide +kernel
theorem tyJ7_ok : ∀ k, k < 0 → parseFieldDescriptor (TJ7 k).2.2.1 = some (tyJ7 k) := by decide +kernel
abbrev cJ7_rangeCheck_23922 : ByteArray := prog_25_method_30_code
def yJ7_rangeCheck_23922 : MethodName := ⟨RJ7, "rangeCheck", "(III)V"⟩
abbrev cJ7_fill_53178 : ByteArray := prog_25_method_103_code
def yJ7_fill_53178 : MethodName := ⟨RJ7, "fill", "([II)V"⟩
abbrev cJ7_fill_eb02e : ByteArray := prog_25_method_110_code
def yJ7_fill_eb02e : MethodName := ⟨RJ7, "fill", "([BIIB)V"⟩
abbrev cJ7_copyOf_9075b : ByteArray := prog_25_method_121_code
def yJ7_copyOf_9075b : MethodName := ⟨RJ7, "copyOf", "([BI)[B"⟩
def RJ8 : String := "jdk/internal/util/ArraysSupport"
def TJ8 : u_T := fun k => match k with
  | _ => ("", "", "", false)
def tyJ8 : Nat → FieldType := fun k => match k with
  | _ => .int
theorem nmJ8 : ∀ a, a < 0 → ∀ b, b < 0 → a ≠ b → (TJ8 a).2.1 ≠ (TJ8 b).2.1 := by decide +kernel
theorem tyJ8_ok : ∀ k, k < 0 → parseFieldDescriptor (TJ8 k).2.2.1 = some (tyJ8 k) := by decide +kernel
abbrev cJ8_newLength_cabcc : ByteArray := prog_26_method_27_code
def yJ8_newLength_cabcc : MethodName := ⟨RJ8, "newLength", "(III)I"⟩
abbrev cJ8_hugeLength_7cf53 : ByteArray := prog_26_method_28_code
def yJ8_hugeLength_7cf53 : MethodName := ⟨RJ8, "hugeLength", "(II)I"⟩
def RJ3 : String := "jdk/internal/util/Preconditions"
def TJ3 : u_T := fun k => match k with
  | _ => ("", "", "", false)
def tyJ3 : Nat → FieldType := fun k => match k with
  | _ => .int
theorem nmJ3 : ∀ a, a < 0 → ∀ b, b < 0 → a ≠ b → (TJ3 a).2.1 ≠ (TJ3 b).2.1 := by decide +kernel
theorem tyJ3_ok : ∀ k, k < 0 → parseFieldDescriptor (TJ3 k).2.2.1 = some (tyJ3 k) := by decide +kernel
abbrev cJ3_checkIndex_8e157 : ByteArray := prog_27_method_11_code
def yJ3_checkIndex_8e157 : MethodName := ⟨RJ3, "checkIndex", "(IILjava/util/function/BiFunction;)I"⟩
abbrev cJ3_checkFromToIndex_8c36e : ByteArray := prog_27_method_12_code
def yJ3_checkFromToIndex_8c36e : MethodName := ⟨RJ3, "checkFromToIndex", "(IIILjava/util/function/BiFunction;)I"⟩
abbrev cJ3_checkFromIndexSize_8c36e : ByteArray := prog_27_method_13_code
def yJ3_checkFromIndexSize_8c36e : MethodName := ⟨RJ3, "checkFromIndexSize", "(IIILjava/util/function/BiFunction;)I"⟩
def RL : String := "EightPartsLaw"
abbrev cL_law : ByteArray := code
def yL_law : MethodName := ⟨RL, "law", "([I)Z"⟩
/-- a method: name, bytes, locals, what it returns -/
abbrev xM : Type := MethodName × ByteArray × Nat × Option FieldType
abbrev mX0_init : xM := (yX0_init, cX0_init, 3, none)
abbrev mX0_split : xM := (yX0_split, cX0_split, 5, (some .boolean))
abbrev mX0_walk : xM := (yX0_walk, cX0_walk, 3, none)
abbrev mX0_lastOfWalk : xM := (yX0_lastOfWalk, cX0_lastOfWalk, 1, (some (.array .int)))
abbrev mX0_lastNormBy4 : xM := (yX0_lastNormBy4, cX0_lastNormBy4, 1, (some .long))
abbrev mX0_divides : xM := (yX0_divides, cX0_divides, 5, (some .boolean))
abbrev mX0_noteShare : xM := (yX0_noteShare, cX0_noteShare, 3, none)
abbrev mX1_init : xM := (yX1_init, cX1_init, 1, none)
abbrev mX1_push : xM := (yX1_push, cX1_push, 4, (some .boolean))
abbrev mX1_pop : xM := (yX1_pop, cX1_pop, 3, (some .int))
abbrev mX2_init : xM := (yX2_init, cX2_init, 1, none)
abbrev mX2_manyWords : xM := (yX2_manyWords, cX2_manyWords, 1, (some .int))
abbrev mX2_exchange : xM := (yX2_exchange, cX2_exchange, 3, (some .int))
abbrev mX2_mayBeOdd : xM := (yX2_mayBeOdd, cX2_mayBeOdd, 4, (some .boolean))
abbrev mX2_manyUnitsOfBoth : xM := (yX2_manyUnitsOfBoth, cX2_manyUnitsOfBoth, 6, (some .int))
abbrev mX2_isWhole : xM := (yX2_isWhole, cX2_isWhole, 2, (some .boolean))
abbrev mX2_isWholeBy : xM := (yX2_isWholeBy, cX2_isWholeBy, 6, (some .boolean))
abbrev mX2_layNearest : xM := (yX2_layNearest, cX2_layNearest, 7, (some .boolean))
abbrev mX2_findNear : xM := (yX2_findNear, cX2_findNear, 11, none)
abbrev mX2_bestWord : xM := (yX2_bestWord, cX2_bestWord, 9, (some .int))
abbrev mX2_missOf : xM := (yX2_missOf, cX2_missOf, 5, (some .long))
abbrev mX2_isListedAhead : xM := (yX2_isListedAhead, cX2_isListedAhead, 6, (some .boolean))
abbrev mX3_init : xM := (yX3_init, cX3_init, 2, none)
abbrev mX3_whichHold : xM := (yX3_whichHold, cX3_whichHold, 6, (some .int))
abbrev mX3_multiplyPairs : xM := (yX3_multiplyPairs, cX3_multiplyPairs, 4, (some .boolean))
abbrev mX3_layBothSides : xM := (yX3_layBothSides, cX3_layBothSides, 5, (some .boolean))
abbrev mX3_doNormsMultiply : xM := (yX3_doNormsMultiply, cX3_doNormsMultiply, 3, (some .boolean))
abbrev mX4_init : xM := (yX4_init, cX4_init, 2, none)
abbrev mX4_manyOf : xM := (yX4_manyOf, cX4_manyOf, 2, (some .int))
abbrev mX4_take : xM := (yX4_take, cX4_take, 4, (some .boolean))
abbrev mX4_find : xM := (yX4_find, cX4_find, 5, (some .int))
abbrev mX4_takeUnit : xM := (yX4_takeUnit, cX4_takeUnit, 3, (some .boolean))
abbrev mX4_search : xM := (yX4_search, cX4_search, 8, (some .int))
abbrev mX4_unpack : xM := (yX4_unpack, cX4_unpack, 3, none)
abbrev mX4_pack : xM := (yX4_pack, cX4_pack, 3, (some .int))
abbrev mX4_fill : xM := (yX4_fill, cX4_fill, 3, none)
abbrev mX4_sortWords : xM := (yX4_sortWords, cX4_sortWords, 5, none)
abbrev mX4_grow : xM := (yX4_grow, cX4_grow, 8, none)
abbrev mX5_lay : xM := (yX5_lay, cX5_lay, 2, none)
abbrev mX5_layOne : xM := (yX5_layOne, cX5_layOne, 2, none)
abbrev mX5_layMirrored : xM := (yX5_layMirrored, cX5_layMirrored, 3, none)
abbrev mX5_areEqual : xM := (yX5_areEqual, cX5_areEqual, 3, (some .boolean))
abbrev mX5_isZero : xM := (yX5_isZero, cX5_isZero, 2, (some .boolean))
abbrev mX5_isOne : xM := (yX5_isOne, cX5_isOne, 1, (some .boolean))
abbrev mX5_oddSet : xM := (yX5_oddSet, cX5_oddSet, 3, (some .int))
abbrev mX5_normBy4 : xM := (yX5_normBy4, cX5_normBy4, 1, (some .long))
abbrev mX5_innerBy4 : xM := (yX5_innerBy4, cX5_innerBy4, 5, (some .long))
abbrev mX5_multiplyBy4 : xM := (yX5_multiplyBy4, cX5_multiplyBy4, 35, none)
abbrev mX5_halve : xM := (yX5_halve, cX5_halve, 2, (some .boolean))
abbrev mX5_layIfWithin : xM := (yX5_layIfWithin, cX5_layIfWithin, 3, (some .boolean))
abbrev mX6_init : xM := (yX6_init, cX6_init, 4, none)
abbrev mX6_read : xM := (yX6_read, cX6_read, 1, (some .int))
abbrev mX6_layResult : xM := (yX6_layResult, cX6_layResult, 2, (some .boolean))
abbrev mX6_ahead : xM := (yX6_ahead, cX6_ahead, 1, (some .int))
abbrev mX6_readSum : xM := (yX6_readSum, cX6_readSum, 4, none)
abbrev mX6_readTerm : xM := (yX6_readTerm, cX6_readTerm, 3, none)
abbrev mX6_note : xM := (yX6_note, cX6_note, 2, none)
abbrev mX6_readFactor : xM := (yX6_readFactor, cX6_readFactor, 3, none)
abbrev mX6_readNested : xM := (yX6_readNested, cX6_readNested, 3, none)
abbrev mX6_readInt : xM := (yX6_readInt, cX6_readInt, 4, none)
abbrev mX6_isDigit : xM := (yX6_isDigit, cX6_isDigit, 1, (some .boolean))
abbrev mX7_init : xM := (yX7_init, cX7_init, 1, none)
abbrev mX7_add : xM := (yX7_add, cX7_add, 6, (some .boolean))
abbrev mX7_scale : xM := (yX7_scale, cX7_scale, 5, (some .boolean))
abbrev mX7_multiply : xM := (yX7_multiply, cX7_multiply, 4, (some .boolean))
abbrev mX7_turnBy : xM := (yX7_turnBy, cX7_turnBy, 5, (some .boolean))
abbrev mX8_init : xM := (yX8_init, cX8_init, 1, none)
abbrev mX8_hasRoom : xM := (yX8_hasRoom, cX8_hasRoom, 1, (some .boolean))
abbrev mX8_append : xM := (yX8_append, cX8_append, 3, none)
abbrev mX8_byteAt : xM := (yX8_byteAt, cX8_byteAt, 2, (some .int))
abbrev mX9_init : xM := (yX9_init, cX9_init, 3, none)
abbrev mX9_multiplyAt : xM := (yX9_multiplyAt, cX9_multiplyAt, 7, (some .int))
abbrev mX9_cycleOf : xM := (yX9_cycleOf, cX9_cycleOf, 5, (some .int))
abbrev mX9_gather : xM := (yX9_gather, cX9_gather, 5, (some .boolean))
abbrev mX9_gatheredAt : xM := (yX9_gatheredAt, cX9_gatheredAt, 4, (some .int))
abbrev mX9_areAssociative : xM := (yX9_areAssociative, cX9_areAssociative, 2, (some .boolean))
abbrev mX9_manyCentral : xM := (yX9_manyCentral, cX9_manyCentral, 3, (some .int))
abbrev mX9_manyOwnInverse : xM := (yX9_manyOwnInverse, cX9_manyOwnInverse, 4, (some .int))
abbrev mX9_forgetMembers : xM := (yX9_forgetMembers, cX9_forgetMembers, 2, none)
abbrev mX9_admit : xM := (yX9_admit, cX9_admit, 2, none)
abbrev mX9_close : xM := (yX9_close, cX9_close, 4, none)
abbrev mX9_isReal : xM := (yX9_isReal, cX9_isReal, 2, (some .boolean))
abbrev mX9_associatesWithAll : xM := (yX9_associatesWithAll, cX9_associatesWithAll, 6, (some .boolean))
abbrev mX9_commutesWithAll : xM := (yX9_commutesWithAll, cX9_commutesWithAll, 3, (some .boolean))
abbrev mX9_multiplyNegative : xM := (yX9_multiplyNegative, cX9_multiplyNegative, 5, (some .int))
abbrev mX9_makeRoom : xM := (yX9_makeRoom, cX9_makeRoom, 1, none)
abbrev mX10_init : xM := (yX10_init, cX10_init, 2, none)
abbrev mX10_manyOf : xM := (yX10_manyOf, cX10_manyOf, 2, (some .int))
abbrev mX10_fill : xM := (yX10_fill, cX10_fill, 6, none)
abbrev mX10_layWay : xM := (yX10_layWay, cX10_layWay, 5, (some .boolean))
abbrev mX10_manyUnlike : xM := (yX10_manyUnlike, cX10_manyUnlike, 5, (some .int))
abbrev mX10_isNew : xM := (yX10_isNew, cX10_isNew, 4, (some .boolean))
abbrev mX10_fillStretch : xM := (yX10_fillStretch, cX10_fillStretch, 9, none)
abbrev mX10_startOf : xM := (yX10_startOf, cX10_startOf, 2, (some .int))
abbrev mX10_join : xM := (yX10_join, cX10_join, 4, none)
abbrev mX11_init : xM := (yX11_init, cX11_init, 1, none)
abbrev mX11_put : xM := (yX11_put, cX11_put, 4, (some .boolean))
abbrev mX11_one : xM := (yX11_one, cX11_one, 3, (some .boolean))
abbrev mX11_listed : xM := (yX11_listed, cX11_listed, 4, (some .boolean))
abbrev mX11_copy : xM := (yX11_copy, cX11_copy, 3, (some .boolean))
abbrev mX11_order : xM := (yX11_order, cX11_order, 3, (some .int))
abbrev mX11_sum : xM := (yX11_sum, cX11_sum, 4, (some .int))
abbrev mX11_less : xM := (yX11_less, cX11_less, 4, (some .int))
abbrev mX11_product : xM := (yX11_product, cX11_product, 4, (some .int))
abbrev mX11_mirror : xM := (yX11_mirror, cX11_mirror, 3, (some .int))
abbrev mX11_times : xM := (yX11_times, cX11_times, 4, (some .int))
abbrev mX11_turn : xM := (yX11_turn, cX11_turn, 5, (some .int))
abbrev mX11_chain : xM := (yX11_chain, cX11_chain, 7, (some .int))
abbrev mX11_last : xM := (yX11_last, cX11_last, 5, (some .int))
abbrev mX11_power : xM := (yX11_power, cX11_power, 5, (some .int))
abbrev mX11_associator : xM := (yX11_associator, cX11_associator, 6, (some .int))
abbrev mX11_commutator : xM := (yX11_commutator, cX11_commutator, 5, (some .int))
abbrev mX11_nearest : xM := (yX11_nearest, cX11_nearest, 5, (some .int))
abbrev mX11_divide : xM := (yX11_divide, cX11_divide, 5, (some .int))
abbrev mX11_bracket : xM := (yX11_bracket, cX11_bracket, 5, (some .int))
abbrev mX11_feed : xM := (yX11_feed, cX11_feed, 6, (some .int))
abbrev mX11_back : xM := (yX11_back, cX11_back, 2, (some .int))
abbrev mX11_work : xM := (yX11_work, cX11_work, 3, (some .int))
abbrev mX11_part : xM := (yX11_part, cX11_part, 3, (some .int))
abbrev mX11_norm : xM := (yX11_norm, cX11_norm, 2, (some .int))
abbrev mX11_spell : xM := (yX11_spell, cX11_spell, 4, (some .int))
abbrev mX11_turned : xM := (yX11_turned, cX11_turned, 5, (some .int))
abbrev mX11_odd : xM := (yX11_odd, cX11_odd, 2, (some .int))
abbrev mX11_whole : xM := (yX11_whole, cX11_whole, 2, (some .int))
abbrev mX11_orders : xM := (yX11_orders, cX11_orders, 5, (some .int))
abbrev mX11_same : xM := (yX11_same, cX11_same, 3, (some .int))
abbrev mX11_many : xM := (yX11_many, cX11_many, 2, (some .int))
abbrev mX11_listedPart : xM := (yX11_listedPart, cX11_listedPart, 4, (some .int))
abbrev mX11_place : xM := (yX11_place, cX11_place, 3, (some .int))
abbrev mX11_divisors : xM := (yX11_divisors, cX11_divisors, 7, (some .int))
abbrev mX11_divisor : xM := (yX11_divisor, cX11_divisor, 8, (some .int))
abbrev mX11_inner : xM := (yX11_inner, cX11_inner, 3, (some .int))
abbrev mX11_angles : xM := (yX11_angles, cX11_angles, 7, (some .int))
abbrev mX11_alike : xM := (yX11_alike, cX11_alike, 4, (some .int))
abbrev mX11_alikeMany : xM := (yX11_alikeMany, cX11_alikeMany, 7, (some .int))
abbrev mX11_commuting : xM := (yX11_commuting, cX11_commuting, 6, (some .int))
abbrev mX11_sides : xM := (yX11_sides, cX11_sides, 8, (some .int))
abbrev mX11_cycle : xM := (yX11_cycle, cX11_cycle, 3, (some .int))
abbrev mX11_made : xM := (yX11_made, cX11_made, 3, (some .int))
abbrev mX11_madeAt : xM := (yX11_madeAt, cX11_madeAt, 3, (some .int))
abbrev mX11_table : xM := (yX11_table, cX11_table, 3, (some .int))
abbrev mX11_turnCycle : xM := (yX11_turnCycle, cX11_turnCycle, 5, (some .int))
abbrev mX11_shared : xM := (yX11_shared, cX11_shared, 3, (some .int))
abbrev mX11_cycles : xM := (yX11_cycles, cX11_cycles, 5, (some .int))
abbrev mX11_nucleus : xM := (yX11_nucleus, cX11_nucleus, 6, (some .int))
abbrev mX11_laws : xM := (yX11_laws, cX11_laws, 4, (some .int))
abbrev mX11_bracketed : xM := (yX11_bracketed, cX11_bracketed, 3, (some .int))
abbrev mX11_rests : xM := (yX11_rests, cX11_rests, 4, (some .int))
abbrev mX11_keep : xM := (yX11_keep, cX11_keep, 1, (some .int))
abbrev mX11_restore : xM := (yX11_restore, cX11_restore, 2, (some .int))
abbrev mX11_count : xM := (yX11_count, cX11_count, 2, (some .int))
abbrev mX11_isEighth : xM := (yX11_isEighth, cX11_isEighth, 1, (some .boolean))
abbrev mX11_areSlots : xM := (yX11_areSlots, cX11_areSlots, 2, (some .boolean))
abbrev mX11_areSlots_ : xM := (yX11_areSlots_, cX11_areSlots_, 3, (some .boolean))
abbrev mX11_isSlotSet : xM := (yX11_isSlotSet, cX11_isSlotSet, 1, (some .boolean))
abbrev mX11_isTurn : xM := (yX11_isTurn, cX11_isTurn, 1, (some .boolean))
abbrev mX11_isListedNorm : xM := (yX11_isListedNorm, cX11_isListedNorm, 1, (some .boolean))
abbrev mX11_isDivisor : xM := (yX11_isDivisor, cX11_isDivisor, 1, (some .boolean))
abbrev mX11_isRow : xM := (yX11_isRow, cX11_isRow, 3, (some .boolean))
abbrev mX11_slotOfRow : xM := (yX11_slotOfRow, cX11_slotOfRow, 2, (some .int))
abbrev mX11_told : xM := (yX11_told, cX11_told, 1, (some .int))
abbrev mX11_asked : xM := (yX11_asked, cX11_asked, 1, (some .int))
abbrev mX11_capped : xM := (yX11_capped, cX11_capped, 2, (some .int))
abbrev mX11_spellPart : xM := (yX11_spellPart, cX11_spellPart, 4, none)
abbrev mX11_isDivisorAt : xM := (yX11_isDivisorAt, cX11_isDivisorAt, 5, (some .boolean))
abbrev mX11_areAlike : xM := (yX11_areAlike, cX11_areAlike, 5, (some .boolean))
abbrev mX11_doCommute : xM := (yX11_doCommute, cX11_doCommute, 3, (some .boolean))
abbrev mX11_doAssociate : xM := (yX11_doAssociate, cX11_doAssociate, 4, (some .boolean))
abbrev mX11_wholeSlots : xM := (yX11_wholeSlots, cX11_wholeSlots, 3, (some .int))
abbrev mX11_emptySlots : xM := (yX11_emptySlots, cX11_emptySlots, 3, (some .int))
abbrev mX12_in : xM := (yX12_in, cX12_in, 6, (some .boolean))
abbrev mX12_has : xM := (yX12_has, cX12_has, 2, (some .boolean))
abbrev mX12_bitsOf : xM := (yX12_bitsOf, cX12_bitsOf, 3, (some .int))
abbrev mX12_init : xM := (yX12_init, cX12_init, 5, none)
abbrev mX12_isSlot : xM := (yX12_isSlot, cX12_isSlot, 1, (some .boolean))
abbrev mX12_isPart : xM := (yX12_isPart, cX12_isPart, 1, (some .boolean))
abbrev mX12_becomes : xM := (yX12_becomes, cX12_becomes, 4, none)
abbrev mX12_nought : xM := (yX12_nought, cX12_nought, 3, none)
abbrev mX12_areSame : xM := (yX12_areSame, cX12_areSame, 4, (some .boolean))
abbrev mX12_isNought : xM := (yX12_isNought, cX12_isNought, 3, (some .boolean))
abbrev mX12_comes : xM := (yX12_comes, cX12_comes, 3, (some .boolean))
abbrev mX12_isProduct : xM := (yX12_isProduct, cX12_isProduct, 9, (some .boolean))
abbrev mX12_multiplies : xM := (yX12_multiplies, cX12_multiplies, 4, (some .boolean))
abbrev mX12_adds : xM := (yX12_adds, cX12_adds, 6, (some .boolean))
abbrev mX12_mirrors : xM := (yX12_mirrors, cX12_mirrors, 4, none)
abbrev mX12_normOf : xM := (yX12_normOf, cX12_normOf, 5, (some .long))
abbrev mX12_held : xM := (yX12_held, cX12_held, 2, (some .int))
abbrev mX12_oddOf : xM := (yX12_oddOf, cX12_oddOf, 4, (some .int))
abbrev mX12_isCode : xM := (yX12_isCode, cX12_isCode, 4, (some .boolean))
abbrev mX12_isOf : xM := (yX12_isOf, cX12_isOf, 3, (some .boolean))
abbrev mX12_isWhole : xM := (yX12_isWhole, cX12_isWhole, 2, (some .boolean))
abbrev mX12_isUnit : xM := (yX12_isUnit, cX12_isUnit, 2, (some .boolean))
abbrev mX12_listFrom : xM := (yX12_listFrom, cX12_listFrom, 1, (some .int))
abbrev mX12_oddIn : xM := (yX12_oddIn, cX12_oddIn, 3, (some .int))
abbrev mX12_laysList : xM := (yX12_laysList, cX12_laysList, 8, none)
abbrev mX12_isNorm : xM := (yX12_isNorm, cX12_isNorm, 1, (some .boolean))
abbrev mX12_listSize : xM := (yX12_listSize, cX12_listSize, 2, (some .int))
abbrev mX12_brings : xM := (yX12_brings, cX12_brings, 5, none)
abbrev mX12_against : xM := (yX12_against, cX12_against, 6, (some .int))
abbrev mX12_numberOf : xM := (yX12_numberOf, cX12_numberOf, 9, (some .int))
abbrev mX12_put : xM := (yX12_put, cX12_put, 4, (some .boolean))
abbrev mX12_one : xM := (yX12_one, cX12_one, 3, (some .boolean))
abbrev mX12_listed : xM := (yX12_listed, cX12_listed, 4, (some .boolean))
abbrev mX12_copy : xM := (yX12_copy, cX12_copy, 3, (some .boolean))
abbrev mX12_order : xM := (yX12_order, cX12_order, 3, (some .int))
abbrev mX12_can : xM := (yX12_can, cX12_can, 1, (some .int))
abbrev mX12_ends : xM := (yX12_ends, cX12_ends, 4, (some .int))
abbrev mX12_areSlots : xM := (yX12_areSlots, cX12_areSlots, 3, (some .boolean))
abbrev mX12_sum : xM := (yX12_sum, cX12_sum, 4, (some .int))
abbrev mX12_less : xM := (yX12_less, cX12_less, 4, (some .int))
abbrev mX12_product : xM := (yX12_product, cX12_product, 4, (some .int))
abbrev mX12_mirror : xM := (yX12_mirror, cX12_mirror, 3, (some .int))
abbrev mX12_times : xM := (yX12_times, cX12_times, 5, (some .int))
abbrev mX12_isTurn : xM := (yX12_isTurn, cX12_isTurn, 1, (some .boolean))
abbrev mX12_turns : xM := (yX12_turns, cX12_turns, 5, (some .boolean))
abbrev mX12_turn : xM := (yX12_turn, cX12_turn, 5, (some .int))
abbrev mX12_isRow : xM := (yX12_isRow, cX12_isRow, 3, (some .boolean))
abbrev mX12_slotIn : xM := (yX12_slotIn, cX12_slotIn, 2, (some .int))
abbrev mX12_chain : xM := (yX12_chain, cX12_chain, 8, (some .int))
abbrev mX12_powers : xM := (yX12_powers, cX12_powers, 5, (some .boolean))
abbrev mX12_power : xM := (yX12_power, cX12_power, 4, (some .int))
abbrev mX12_associator : xM := (yX12_associator, cX12_associator, 6, (some .int))
abbrev mX12_commutator : xM := (yX12_commutator, cX12_commutator, 4, (some .int))
abbrev mX12_near : xM := (yX12_near, cX12_near, 13, (some .long))
abbrev mX12_isAhead : xM := (yX12_isAhead, cX12_isAhead, 2, (some .boolean))
abbrev mX12_nears : xM := (yX12_nears, cX12_nears, 11, none)
abbrev mX12_nearest : xM := (yX12_nearest, cX12_nearest, 5, (some .int))
abbrev mX12_divides : xM := (yX12_divides, cX12_divides, 5, (some .boolean))
abbrev mX12_divide : xM := (yX12_divide, cX12_divide, 5, (some .int))
abbrev mX12_goesOn : xM := (yX12_goesOn, cX12_goesOn, 6, none)
abbrev mX12_last : xM := (yX12_last, cX12_last, 4, (some .int))
abbrev mX12_rests : xM := (yX12_rests, cX12_rests, 4, (some .int))
abbrev mX12_laysWays : xM := (yX12_laysWays, cX12_laysWays, 8, none)
abbrev mX12_joins : xM := (yX12_joins, cX12_joins, 7, (some .int))
abbrev mX12_bracket : xM := (yX12_bracket, cX12_bracket, 6, (some .int))
abbrev mX12_bracketed : xM := (yX12_bracketed, cX12_bracketed, 9, (some .int))
abbrev mX12_feed : xM := (yX12_feed, cX12_feed, 8, (some .int))
abbrev mX12_back : xM := (yX12_back, cX12_back, 2, (some .int))
abbrev mX12_opens : xM := (yX12_opens, cX12_opens, 2, none)
abbrev mX12_factors : xM := (yX12_factors, cX12_factors, 3, none)
abbrev mX12_sums : xM := (yX12_sums, cX12_sums, 2, none)
abbrev mX12_begins : xM := (yX12_begins, cX12_begins, 4, (some .boolean))
abbrev mX12_follows : xM := (yX12_follows, cX12_follows, 2, (some .boolean))
abbrev mX12_works : xM := (yX12_works, cX12_works, 3, (some .int))
abbrev mX12_work : xM := (yX12_work, cX12_work, 3, (some .int))
abbrev mX12_part : xM := (yX12_part, cX12_part, 3, (some .int))
abbrev mX12_norm : xM := (yX12_norm, cX12_norm, 2, (some .int))
abbrev mX12_writes : xM := (yX12_writes, cX12_writes, 2, none)
abbrev mX12_writesNumber : xM := (yX12_writesNumber, cX12_writesNumber, 3, none)
abbrev mX12_writesAll : xM := (yX12_writesAll, cX12_writesAll, 5, none)
abbrev mX12_spell : xM := (yX12_spell, cX12_spell, 3, (some .int))
abbrev mX12_turned : xM := (yX12_turned, cX12_turned, 5, (some .int))
abbrev mX12_odd : xM := (yX12_odd, cX12_odd, 2, (some .int))
abbrev mX12_whole : xM := (yX12_whole, cX12_whole, 2, (some .int))
abbrev mX12_orders : xM := (yX12_orders, cX12_orders, 4, (some .int))
abbrev mX12_same : xM := (yX12_same, cX12_same, 3, (some .int))
abbrev mX12_many : xM := (yX12_many, cX12_many, 2, (some .int))
abbrev mX12_listedPart : xM := (yX12_listedPart, cX12_listedPart, 4, (some .int))
abbrev mX12_place : xM := (yX12_place, cX12_place, 3, (some .int))
abbrev mX12_isWholeBy : xM := (yX12_isWholeBy, cX12_isWholeBy, 5, (some .boolean))
abbrev mX12_isDivisor : xM := (yX12_isDivisor, cX12_isDivisor, 6, (some .boolean))
abbrev mX12_divisorsOf : xM := (yX12_divisorsOf, cX12_divisorsOf, 8, (some .int))
abbrev mX12_divisors : xM := (yX12_divisors, cX12_divisors, 4, (some .int))
abbrev mX12_divisor : xM := (yX12_divisor, cX12_divisor, 5, (some .int))
abbrev mX12_innerOf : xM := (yX12_innerOf, cX12_innerOf, 6, (some .int))
abbrev mX12_inner : xM := (yX12_inner, cX12_inner, 3, (some .int))
abbrev mX12_angles : xM := (yX12_angles, cX12_angles, 7, (some .int))
abbrev mX12_areAlike : xM := (yX12_areAlike, cX12_areAlike, 5, (some .boolean))
abbrev mX12_alike : xM := (yX12_alike, cX12_alike, 4, (some .int))
abbrev mX12_alikeMany : xM := (yX12_alikeMany, cX12_alikeMany, 7, (some .int))
abbrev mX12_doCommute : xM := (yX12_doCommute, cX12_doCommute, 3, (some .boolean))
abbrev mX12_commuting : xM := (yX12_commuting, cX12_commuting, 6, (some .int))
abbrev mX12_sides : xM := (yX12_sides, cX12_sides, 8, (some .int))
abbrev mX12_cycleOf : xM := (yX12_cycleOf, cX12_cycleOf, 3, (some .int))
abbrev mX12_cycle : xM := (yX12_cycle, cX12_cycle, 2, (some .int))
abbrev mX12_cycles : xM := (yX12_cycles, cX12_cycles, 5, (some .int))
abbrev mX12_laysTable : xM := (yX12_laysTable, cX12_laysTable, 4, none)
abbrev mX12_table : xM := (yX12_table, cX12_table, 4, (some .int))
abbrev mX12_adds_ : xM := (yX12_adds_, cX12_adds_, 2, none)
abbrev mX12_laysMade : xM := (yX12_laysMade, cX12_laysMade, 4, (some .boolean))
abbrev mX12_madeProduct : xM := (yX12_madeProduct, cX12_madeProduct, 3, (some .int))
abbrev mX12_areAssociative : xM := (yX12_areAssociative, cX12_areAssociative, 5, (some .boolean))
abbrev mX12_center : xM := (yX12_center, cX12_center, 5, (some .int))
abbrev mX12_squares : xM := (yX12_squares, cX12_squares, 4, (some .int))
abbrev mX12_made : xM := (yX12_made, cX12_made, 3, (some .int))
abbrev mX12_madeAt : xM := (yX12_madeAt, cX12_madeAt, 3, (some .int))
abbrev mX12_turnCycle : xM := (yX12_turnCycle, cX12_turnCycle, 5, (some .int))
abbrev mX12_shared : xM := (yX12_shared, cX12_shared, 5, (some .int))
abbrev mX12_nucleus : xM := (yX12_nucleus, cX12_nucleus, 7, (some .int))
abbrev mX12_both : xM := (yX12_both, cX12_both, 5, (some .boolean))
abbrev mX12_laws : xM := (yX12_laws, cX12_laws, 5, (some .int))
abbrev mX12_keep : xM := (yX12_keep, cX12_keep, 2, (some .int))
abbrev mX12_restore : xM := (yX12_restore, cX12_restore, 2, (some .int))
abbrev mX12_wholes : xM := (yX12_wholes, cX12_wholes, 3, (some .int))
abbrev mX12_noughts : xM := (yX12_noughts, cX12_noughts, 3, (some .int))
abbrev mX12_count : xM := (yX12_count, cX12_count, 2, (some .int))
abbrev mJ5_init_d00df : xM := (yJ5_init_d00df, cJ5_init_d00df, 2, none)
abbrev mJ5_length_8abf5 : xM := (yJ5_length_8abf5, cJ5_length_8abf5, 1, (some .int))
abbrev mJ5_ensureCapacityInternal_d00df : xM := (yJ5_ensureCapacityInternal_d00df, cJ5_ensureCapacityInternal_d00df, 3, none)
abbrev mJ5_newCapacity_0f7a4 : xM := (yJ5_newCapacity_0f7a4, cJ5_newCapacity_0f7a4, 6, (some .int))
abbrev mJ5_inflate_da8c8 : xM := (yJ5_inflate_da8c8, cJ5_inflate_da8c8, 2, none)
abbrev mJ5_setLength_d00df : xM := (yJ5_setLength_d00df, cJ5_setLength_d00df, 2, none)
abbrev mJ5_charAt_5068e : xM := (yJ5_charAt_5068e, cJ5_charAt_5068e, 5, (some .char))
abbrev mJ5_append_cf1ce : xM := (yJ5_append_cf1ce, cJ5_append_cf1ce, 3, (some (.object "java/lang/AbstractStringBuilder")))
abbrev mJ5_appendNull_278bc : xM := (yJ5_appendNull_278bc, cJ5_appendNull_278bc, 3, (some (.object "java/lang/AbstractStringBuilder")))
abbrev mJ5_append_3fe6f : xM := (yJ5_append_3fe6f, cJ5_append_3fe6f, 2, (some (.object "java/lang/AbstractStringBuilder")))
abbrev mJ5_append_c97b9 : xM := (yJ5_append_c97b9, cJ5_append_c97b9, 4, (some (.object "java/lang/AbstractStringBuilder")))
abbrev mJ5_isLatin1_aae02 : xM := (yJ5_isLatin1_aae02, cJ5_isLatin1_aae02, 1, (some .boolean))
abbrev mJ5_inflateIfNeededFor_a7421 : xM := (yJ5_inflateIfNeededFor_a7421, cJ5_inflateIfNeededFor_a7421, 2, none)
abbrev mJ5_putStringAt_47b60 : xM := (yJ5_putStringAt_47b60, cJ5_putStringAt_47b60, 3, none)
abbrev mJ6_getChars_ba4f3 : xM := (yJ6_getChars_ba4f3, cJ6_getChars_ba4f3, 7, (some .int))
abbrev mJ6_stringSize_0f7a4 : xM := (yJ6_stringSize_0f7a4, cJ6_stringSize_0f7a4, 4, (some .int))
abbrev mJ6_bitCount_0f7a4 : xM := (yJ6_bitCount_0f7a4, cJ6_bitCount_0f7a4, 1, (some .int))
abbrev mJ9_floorDiv_f86c9 : xM := (yJ9_floorDiv_f86c9, cJ9_floorDiv_f86c9, 6, (some .long))
abbrev mJ9_abs_0f7a4 : xM := (yJ9_abs_0f7a4, cJ9_abs_0f7a4, 1, (some .int))
abbrev mJ9_max_7cf53 : xM := (yJ9_max_7cf53, cJ9_max_7cf53, 2, (some .int))
abbrev mJ9_max_f86c9 : xM := (yJ9_max_f86c9, cJ9_max_f86c9, 4, (some .long))
abbrev mJ9_min_7cf53 : xM := (yJ9_min_7cf53, cJ9_min_7cf53, 2, (some .int))
abbrev mJ9_min_f86c9 : xM := (yJ9_min_f86c9, cJ9_min_f86c9, 4, (some .long))
abbrev mJ0_length_8abf5 : xM := (yJ0_length_8abf5, cJ0_length_8abf5, 1, (some .int))
abbrev mJ0_getBytes_840e7 : xM := (yJ0_getBytes_840e7, cJ0_getBytes_840e7, 4, none)
abbrev mJ0_coder_7d493 : xM := (yJ0_coder_7d493, cJ0_coder_7d493, 1, (some .byte))
abbrev mJ0_checkIndex_df160 : xM := (yJ0_checkIndex_df160, cJ0_checkIndex_df160, 2, none)
abbrev mJ0_checkBoundsOffCount_cabcc : xM := (yJ0_checkBoundsOffCount_cabcc, cJ0_checkBoundsOffCount_cabcc, 3, (some .int))
abbrev mJ0_checkBoundsBeginEnd_23922 : xM := (yJ0_checkBoundsBeginEnd_23922, cJ0_checkBoundsBeginEnd_23922, 3, none)
abbrev mJ4_init_da8c8 : xM := (yJ4_init_da8c8, cJ4_init_da8c8, 1, none)
abbrev mJ4_append_15ec4 : xM := (yJ4_append_15ec4, cJ4_append_15ec4, 2, (some (.object "java/lang/StringBuilder")))
abbrev mJ4_append_cf468 : xM := (yJ4_append_cf468, cJ4_append_cf468, 2, (some (.object "java/lang/StringBuilder")))
abbrev mJ4_append_bf812 : xM := (yJ4_append_bf812, cJ4_append_bf812, 2, (some (.object "java/lang/StringBuilder")))
abbrev mJ4_charAt_5068e : xM := (yJ4_charAt_5068e, cJ4_charAt_5068e, 2, (some .char))
abbrev mJ4_setLength_d00df : xM := (yJ4_setLength_d00df, cJ4_setLength_d00df, 2, none)
abbrev mJ4_length_8abf5 : xM := (yJ4_length_8abf5, cJ4_length_8abf5, 1, (some .int))
abbrev mJ1_canEncode_fc78d : xM := (yJ1_canEncode_fc78d, cJ1_canEncode_fc78d, 1, (some .boolean))
abbrev mJ1_fillNull_b72d1 : xM := (yJ1_fillNull_b72d1, cJ1_fillNull_b72d1, 3, none)
abbrev mJ1_inflate_0e8fd : xM := (yJ1_inflate_0e8fd, cJ1_inflate_0e8fd, 5, none)
abbrev mJ2_newBytesFor_77867 : xM := (yJ2_newBytesFor_77867, cJ2_newBytesFor_77867, 1, (some (.array .byte)))
abbrev mJ2_newBytesLength_0f7a4 : xM := (yJ2_newBytesLength_0f7a4, cJ2_newBytesLength_0f7a4, 1, (some .int))
abbrev mJ2_putChar_b72d1 : xM := (yJ2_putChar_b72d1, cJ2_putChar_b72d1, 3, none)
abbrev mJ2_getChar_3b067 : xM := (yJ2_getChar_3b067, cJ2_getChar_3b067, 2, (some .char))
abbrev mJ2_length_9d52b : xM := (yJ2_length_9d52b, cJ2_length_9d52b, 1, (some .int))
abbrev mJ2_fillNull_b72d1 : xM := (yJ2_fillNull_b72d1, cJ2_fillNull_b72d1, 3, none)
abbrev mJ2_putCharSB_b72d1 : xM := (yJ2_putCharSB_b72d1, cJ2_putCharSB_b72d1, 3, none)
abbrev mJ2_getChars_46870 : xM := (yJ2_getChars_46870, cJ2_getChars_46870, 5, (some .int))
abbrev mJ2_putCharsAt_cd4e5 : xM := (yJ2_putCharsAt_cd4e5, cJ2_putCharsAt_cd4e5, 7, (some .int))
abbrev mJ2_inflate_0e8fd : xM := (yJ2_inflate_0e8fd, cJ2_inflate_0e8fd, 6, none)
abbrev mJ2_getChars_ba4f3 : xM := (yJ2_getChars_ba4f3, cJ2_getChars_ba4f3, 7, (some .int))
abbrev mJ2_checkIndex_2214a : xM := (yJ2_checkIndex_2214a, cJ2_checkIndex_2214a, 2, none)
abbrev mJ2_checkBoundsBeginEnd_d044e : xM := (yJ2_checkBoundsBeginEnd_d044e, cJ2_checkBoundsBeginEnd_d044e, 3, none)
abbrev mJ2_checkBoundsOffCount_d044e : xM := (yJ2_checkBoundsOffCount_d044e, cJ2_checkBoundsOffCount_d044e, 3, none)
abbrev mJ7_rangeCheck_23922 : xM := (yJ7_rangeCheck_23922, cJ7_rangeCheck_23922, 3, none)
abbrev mJ7_fill_53178 : xM := (yJ7_fill_53178, cJ7_fill_53178, 4, none)
abbrev mJ7_fill_eb02e : xM := (yJ7_fill_eb02e, cJ7_fill_eb02e, 5, none)
abbrev mJ7_copyOf_9075b : xM := (yJ7_copyOf_9075b, cJ7_copyOf_9075b, 3, (some (.array .byte)))
abbrev mJ8_newLength_cabcc : xM := (yJ8_newLength_cabcc, cJ8_newLength_cabcc, 4, (some .int))
abbrev mJ8_hugeLength_7cf53 : xM := (yJ8_hugeLength_7cf53, cJ8_hugeLength_7cf53, 3, (some .int))
abbrev mJ3_checkIndex_8e157 : xM := (yJ3_checkIndex_8e157, cJ3_checkIndex_8e157, 3, (some .int))
abbrev mJ3_checkFromToIndex_8c36e : xM := (yJ3_checkFromToIndex_8c36e, cJ3_checkFromToIndex_8c36e, 4, (some .int))
abbrev mJ3_checkFromIndexSize_8c36e : xM := (yJ3_checkFromIndexSize_8c36e, cJ3_checkFromIndexSize_8c36e, 4, (some .int))
abbrev mL_law : xM := (x, code, maxLocals, ret)
/-- the words that every contract asks for -/
def xTT : List Cond := lw_tbl.filter goodWord
theorem xT1 {w : Cond} (m : w ∈ tables_1_1) : w ∈ tables_1 := List.mem_append_left _ m
theorem xIn1 {w : Cond} (i : Nat) (h : tables_1_1[i]? = some w) (hg : goodWord w = true) : w ∈ xTT := List.mem_filter.mpr ⟨List.mem_append_right _ (xT1 (List.mem_of_getElem? h)), hg⟩
theorem xT2 {w : Cond} (m : w ∈ tables_1_2) : w ∈ tables_1 := List.mem_append_right _ (List.mem_append_left _ m)
theorem xIn2 {w : Cond} (i : Nat) (h : tables_1_2[i]? = some w) (hg : goodWord w = true) : w ∈ xTT := List.mem_filter.mpr ⟨List.mem_append_right _ (xT2 (List.mem_of_getElem? h)), hg⟩
theorem xT3 {w : Cond} (m : w ∈ tables_1_3) : w ∈ tables_1 := List.mem_append_right _ (List.mem_append_right _ (List.mem_append_left _ m))
theorem xIn3 {w : Cond} (i : Nat) (h : tables_1_3[i]? = some w) (hg : goodWord w = true) : w ∈ xTT := List.mem_filter.mpr ⟨List.mem_append_right _ (xT3 (List.mem_of_getElem? h)), hg⟩
theorem xT4 {w : Cond} (m : w ∈ tables_1_4) : w ∈ tables_1 := List.mem_append_right _ (List.mem_append_right _ (List.mem_append_right _ (List.mem_append_left _ m)))
theorem xIn4 {w : Cond} (i : Nat) (h : tables_1_4[i]? = some w) (hg : goodWord w = true) : w ∈ xTT := List.mem_filter.mpr ⟨List.mem_append_right _ (xT4 (List.mem_of_getElem? h)), hg⟩
theorem xT5 {w : Cond} (m : w ∈ tables_1_5) : w ∈ tables_1 := List.mem_append_right _ (List.mem_append_right _ (List.mem_append_right _ (List.mem_append_right _ (List.mem_append_left _ m))))
theorem xIn5 {w : Cond} (i : Nat) (h : tables_1_5[i]? = some w) (hg : goodWord w = true) : w ∈ xTT := List.mem_filter.mpr ⟨List.mem_append_right _ (xT5 (List.mem_of_getElem? h)), hg⟩
theorem xT6 {w : Cond} (m : w ∈ tables_1_6) : w ∈ tables_1 := List.mem_append_right _ (List.mem_append_right _ (List.mem_append_right _ (List.mem_append_right _ (List.mem_append_right _ (List.mem_append_left _ m)))))
theorem xIn6 {w : Cond} (i : Nat) (h : tables_1_6[i]? = some w) (hg : goodWord w = true) : w ∈ xTT := List.mem_filter.mpr ⟨List.mem_append_right _ (xT6 (List.mem_of_getElem? h)), hg⟩
theorem xT7 {w : Cond} (m : w ∈ tables_1_7) : w ∈ tables_1 := List.mem_append_right _ (List.mem_append_right _ (List.mem_append_right _ (List.mem_append_right _ (List.mem_append_right _ (List.mem_append_right _ (List.mem_append_left _ m))))))
theorem xIn7 {w : Cond} (i : Nat) (h : tables_1_7[i]? = some w) (hg : goodWord w = true) : w ∈ xTT := List.mem_filter.mpr ⟨List.mem_append_right _ (xT7 (List.mem_of_getElem? h)), hg⟩
theorem xT8 {w : Cond} (m : w ∈ tables_1_8) : w ∈ tables_1 := List.mem_append_right _ (List.mem_append_right _ (List.mem_append_right _ (List.mem_append_right _ (List.mem_append_right _ (List.mem_append_right _ (List.mem_append_right _ (m)))))))
theorem xIn8 {w : Cond} (i : Nat) (h : tables_1_8[i]? = some w) (hg : goodWord w = true) : w ∈ xTT := List.mem_filter.mpr ⟨List.mem_append_right _ (xT8 (List.mem_of_getElem? h)), hg⟩
theorem xInP1 {q : MethodName × Nat} (i : Nat) (h : lw_privs_1[i]? = some q) : Cond.selects q.1.cls q.1 q.1 ∈ xTT := List.mem_filter.mpr ⟨List.mem_append_left _ (List.mem_map.mpr ⟨q, List.mem_append_left _ (List.mem_of_getElem? h), rfl⟩), rfl⟩
theorem xInP2 {q : MethodName × Nat} (i : Nat) (h : lw_privs_2[i]? = some q) : Cond.selects q.1.cls q.1 q.1 ∈ xTT := List.mem_filter.mpr ⟨List.mem_append_left _ (List.mem_map.mpr ⟨q, List.mem_append_right _ (List.mem_append_left _ (List.mem_of_getElem? h)), rfl⟩), rfl⟩
theorem xInP3 {q : MethodName × Nat} (i : Nat) (h : lw_privs_3[i]? = some q) : Cond.selects q.1.cls q.1 q.1 ∈ xTT := List.mem_filter.mpr ⟨List.mem_append_left _ (List.mem_map.mpr ⟨q, List.mem_append_right _ (List.mem_append_right _ (List.mem_append_left _ (List.mem_of_getElem? h))), rfl⟩), rfl⟩
theorem xInP4 {q : MethodName × Nat} (i : Nat) (h : lw_privs_4[i]? = some q) : Cond.selects q.1.cls q.1 q.1 ∈ xTT := List.mem_filter.mpr ⟨List.mem_append_left _ (List.mem_map.mpr ⟨q, List.mem_append_right _ (List.mem_append_right _ (List.mem_append_right _ (List.mem_append_left _ (List.mem_of_getElem? h)))), rfl⟩), rfl⟩
theorem xInP5 {q : MethodName × Nat} (i : Nat) (h : lw_privs_5[i]? = some q) : Cond.selects q.1.cls q.1 q.1 ∈ xTT := List.mem_filter.mpr ⟨List.mem_append_left _ (List.mem_map.mpr ⟨q, List.mem_append_right _ (List.mem_append_right _ (List.mem_append_right _ (List.mem_append_right _ (List.mem_append_left _ (List.mem_of_getElem? h))))), rfl⟩), rfl⟩
theorem xInP6 {q : MethodName × Nat} (i : Nat) (h : lw_privs_6[i]? = some q) : Cond.selects q.1.cls q.1 q.1 ∈ xTT := List.mem_filter.mpr ⟨List.mem_append_left _ (List.mem_map.mpr ⟨q, List.mem_append_right _ (List.mem_append_right _ (List.mem_append_right _ (List.mem_append_right _ (List.mem_append_right _ (List.mem_of_getElem? h))))), rfl⟩), rfl⟩
theorem xIn {w : Cond} (i : Nat) (h : lw_tbl[i]? = some w) (hg : goodWord w = true) : w ∈ xTT := List.mem_filter.mpr ⟨List.mem_of_getElem? h, hg⟩
