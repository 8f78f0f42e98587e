-- ===== PART A: goes FIRST, ahead of the names: the tables' words, and 'selects' of the private methods out of them =====
/-- a private method of a class that the tables say can be made, by its rows of tables_1 -/
def lw_okq (q : MethodName × Nat) : Prop := (q.1.cls ≠ "java/lang/invoke/MethodHandle" ∧ q.1.cls ≠ "java/lang/invoke/VarHandle") ∧ Cond.instantiable q.1.cls q.2 ∈ tables_1 ∧ Cond.privateMethod q.1 ∈ tables_1 ∧ Cond.instanceMethod q.1 ∈ tables_1
theorem lw_p0 : lw_okq (⟨"AsWithTheLast$Reader", "readItem", "(I)I"⟩, 3) := ⟨⟨by decide +kernel, by decide +kernel⟩, List.mem_of_getElem? (i := 97) (by decide +kernel), List.mem_of_getElem? (i := 297) (by decide +kernel), List.mem_of_getElem? (i := 298) (by decide +kernel)⟩
theorem lw_p1 : lw_okq (⟨"AsWithTheLast$Reader", "readNumber", "(I)I"⟩, 3) := ⟨⟨by decide +kernel, by decide +kernel⟩, List.mem_of_getElem? (i := 97) (by decide +kernel), List.mem_of_getElem? (i := 309) (by decide +kernel), List.mem_of_getElem? (i := 310) (by decide +kernel)⟩
theorem lw_p2 : lw_okq (⟨"AsWithTheLast$Reader", "takeItem", "(I)Z"⟩, 3) := ⟨⟨by decide +kernel, by decide +kernel⟩, List.mem_of_getElem? (i := 97) (by decide +kernel), List.mem_of_getElem? (i := 317) (by decide +kernel), List.mem_of_getElem? (i := 318) (by decide +kernel)⟩
theorem lw_p3 : lw_okq (⟨"AsWithTheLast$Reader", "takeKind", "()Z"⟩, 3) := ⟨⟨by decide +kernel, by decide +kernel⟩, List.mem_of_getElem? (i := 97) (by decide +kernel), List.mem_of_getElem? (i := 321) (by decide +kernel), List.mem_of_getElem? (i := 322) (by decide +kernel)⟩
theorem lw_p4 : lw_okq (⟨"AsWithTheLast$Reader", "takeErrand", "(I)Z"⟩, 3) := ⟨⟨by decide +kernel, by decide +kernel⟩, List.mem_of_getElem? (i := 97) (by decide +kernel), List.mem_of_getElem? (i := 339) (by decide +kernel), List.mem_of_getElem? (i := 340) (by decide +kernel)⟩
theorem lw_p5 : lw_okq (⟨"AsWithTheLast", "learnerNow", "(I)LAsWithTheLast$Learner;"⟩, 12) := ⟨⟨by decide +kernel, by decide +kernel⟩, List.mem_of_getElem? (i := 18) (by decide +kernel), List.mem_of_getElem? (i := 464) (by decide +kernel), List.mem_of_getElem? (i := 465) (by decide +kernel)⟩
theorem lw_p6 : lw_okq (⟨"AsWithTheLast$Learner", "likestDoing", "(I)I"⟩, 9) := ⟨⟨by decide +kernel, by decide +kernel⟩, List.mem_of_getElem? (i := 169) (by decide +kernel), List.mem_of_getElem? (i := 491) (by decide +kernel), List.mem_of_getElem? (i := 492) (by decide +kernel)⟩
theorem lw_p7 : lw_okq (⟨"AsWithTheLast$Learner", "keeps", "(I)Z"⟩, 9) := ⟨⟨by decide +kernel, by decide +kernel⟩, List.mem_of_getElem? (i := 169) (by decide +kernel), List.mem_of_getElem? (i := 497) (by decide +kernel), List.mem_of_getElem? (i := 498) (by decide +kernel)⟩
theorem lw_p8 : lw_okq (⟨"AsWithTheLast$Shelf", "dropOldest", "()V"⟩, 2) := ⟨⟨by decide +kernel, by decide +kernel⟩, List.mem_of_getElem? (i := 152) (by decide +kernel), List.mem_of_getElem? (i := 514) (by decide +kernel), List.mem_of_getElem? (i := 515) (by decide +kernel)⟩
theorem lw_p9 : lw_okq (⟨"AsWithTheLast$Shelf", "placeAt", "(I)LAsWithTheLast$Memory;"⟩, 2) := ⟨⟨by decide +kernel, by decide +kernel⟩, List.mem_of_getElem? (i := 152) (by decide +kernel), List.mem_of_getElem? (i := 518) (by decide +kernel), List.mem_of_getElem? (i := 519) (by decide +kernel)⟩
theorem lw_p10 : lw_okq (⟨"AsWithTheLast", "fillTimes", "(LAsWithTheLast$Learner;)V"⟩, 12) := ⟨⟨by decide +kernel, by decide +kernel⟩, List.mem_of_getElem? (i := 18) (by decide +kernel), List.mem_of_getElem? (i := 609) (by decide +kernel), List.mem_of_getElem? (i := 610) (by decide +kernel)⟩
theorem lw_p11 : lw_okq (⟨"AsWithTheLast", "comesRoundAfter", "(I)Z"⟩, 12) := ⟨⟨by decide +kernel, by decide +kernel⟩, List.mem_of_getElem? (i := 18) (by decide +kernel), List.mem_of_getElem? (i := 617) (by decide +kernel), List.mem_of_getElem? (i := 618) (by decide +kernel)⟩
theorem lw_p12 : lw_okq (⟨"AsWithTheLast$Orders", "addLeft", "(II)V"⟩, 5) := ⟨⟨by decide +kernel, by decide +kernel⟩, List.mem_of_getElem? (i := 205) (by decide +kernel), List.mem_of_getElem? (i := 632) (by decide +kernel), List.mem_of_getElem? (i := 633) (by decide +kernel)⟩
theorem lw_p13 : lw_okq (⟨"AsWithTheLast$Learner", "copyFrom", "(LAsWithTheLast$Learner;)V"⟩, 9) := ⟨⟨by decide +kernel, by decide +kernel⟩, List.mem_of_getElem? (i := 169) (by decide +kernel), List.mem_of_getElem? (i := 647) (by decide +kernel), List.mem_of_getElem? (i := 648) (by decide +kernel)⟩
theorem lw_p14 : lw_okq (⟨"AsWithTheLast", "canBe", "(II)Z"⟩, 12) := ⟨⟨by decide +kernel, by decide +kernel⟩, List.mem_of_getElem? (i := 18) (by decide +kernel), List.mem_of_getElem? (i := 672) (by decide +kernel), List.mem_of_getElem? (i := 673) (by decide +kernel)⟩
theorem lw_p15 : lw_okq (⟨"AsWithTheLast", "speaksAgainst", "(II)Z"⟩, 12) := ⟨⟨by decide +kernel, by decide +kernel⟩, List.mem_of_getElem? (i := 18) (by decide +kernel), List.mem_of_getElem? (i := 676) (by decide +kernel), List.mem_of_getElem? (i := 677) (by decide +kernel)⟩
def lw_privs_1 : List (MethodName × Nat) := [(⟨"AsWithTheLast$Reader", "readItem", "(I)I"⟩, 3), (⟨"AsWithTheLast$Reader", "readNumber", "(I)I"⟩, 3), (⟨"AsWithTheLast$Reader", "takeItem", "(I)Z"⟩, 3), (⟨"AsWithTheLast$Reader", "takeKind", "()Z"⟩, 3), (⟨"AsWithTheLast$Reader", "takeErrand", "(I)Z"⟩, 3), (⟨"AsWithTheLast", "learnerNow", "(I)LAsWithTheLast$Learner;"⟩, 12), (⟨"AsWithTheLast$Learner", "likestDoing", "(I)I"⟩, 9), (⟨"AsWithTheLast$Learner", "keeps", "(I)Z"⟩, 9), (⟨"AsWithTheLast$Shelf", "dropOldest", "()V"⟩, 2), (⟨"AsWithTheLast$Shelf", "placeAt", "(I)LAsWithTheLast$Memory;"⟩, 2), (⟨"AsWithTheLast", "fillTimes", "(LAsWithTheLast$Learner;)V"⟩, 12), (⟨"AsWithTheLast", "comesRoundAfter", "(I)Z"⟩, 12), (⟨"AsWithTheLast$Orders", "addLeft", "(II)V"⟩, 5), (⟨"AsWithTheLast$Learner", "copyFrom", "(LAsWithTheLast$Learner;)V"⟩, 9), (⟨"AsWithTheLast", "canBe", "(II)Z"⟩, 12), (⟨"AsWithTheLast", "speaksAgainst", "(II)Z"⟩, 12)]
theorem lw_r1 : ∀ q ∈ lw_privs_1, lw_okq q := List.forall_mem_cons.mpr ⟨lw_p0, List.forall_mem_cons.mpr ⟨lw_p1, List.forall_mem_cons.mpr ⟨lw_p2, List.forall_mem_cons.mpr ⟨lw_p3, List.forall_mem_cons.mpr ⟨lw_p4, List.forall_mem_cons.mpr ⟨lw_p5, List.forall_mem_cons.mpr ⟨lw_p6, List.forall_mem_cons.mpr ⟨lw_p7, List.forall_mem_cons.mpr ⟨lw_p8, List.forall_mem_cons.mpr ⟨lw_p9, List.forall_mem_cons.mpr ⟨lw_p10, List.forall_mem_cons.mpr ⟨lw_p11, List.forall_mem_cons.mpr ⟨lw_p12, List.forall_mem_cons.mpr ⟨lw_p13, List.forall_mem_cons.mpr ⟨lw_p14, List.forall_mem_cons.mpr ⟨lw_p15, fun _ h => absurd h List.not_mem_nil⟩⟩⟩⟩⟩⟩⟩⟩⟩⟩⟩⟩⟩⟩⟩⟩
theorem lw_p16 : lw_okq (⟨"AsWithTheLast", "mostAlike", "(II)I"⟩, 12) := ⟨⟨by decide +kernel, by decide +kernel⟩, List.mem_of_getElem? (i := 18) (by decide +kernel), List.mem_of_getElem? (i := 689) (by decide +kernel), List.mem_of_getElem? (i := 690) (by decide +kernel)⟩
theorem lw_p17 : lw_okq (⟨"AsWithTheLast", "firstWrong", "(IIZ)I"⟩, 12) := ⟨⟨by decide +kernel, by decide +kernel⟩, List.mem_of_getElem? (i := 18) (by decide +kernel), List.mem_of_getElem? (i := 701) (by decide +kernel), List.mem_of_getElem? (i := 702) (by decide +kernel)⟩
theorem lw_p18 : lw_okq (⟨"AsWithTheLast", "drawnKind", "(II)I"⟩, 12) := ⟨⟨by decide +kernel, by decide +kernel⟩, List.mem_of_getElem? (i := 18) (by decide +kernel), List.mem_of_getElem? (i := 743) (by decide +kernel), List.mem_of_getElem? (i := 744) (by decide +kernel)⟩
theorem lw_p19 : lw_okq (⟨"AsWithTheLastModel", "tellKind", "(IIIII)V"⟩, 33) := ⟨⟨by decide +kernel, by decide +kernel⟩, List.mem_of_getElem? (i := 764) (by decide +kernel), List.mem_of_getElem? (i := 770) (by decide +kernel), List.mem_of_getElem? (i := 771) (by decide +kernel)⟩
theorem lw_p20 : lw_okq (⟨"AsWithTheLastModel", "readItem", "()Z"⟩, 33) := ⟨⟨by decide +kernel, by decide +kernel⟩, List.mem_of_getElem? (i := 764) (by decide +kernel), List.mem_of_getElem? (i := 891) (by decide +kernel), List.mem_of_getElem? (i := 892) (by decide +kernel)⟩
theorem lw_p21 : lw_okq (⟨"AsWithTheLastModel", "readNumbers", "(I)Z"⟩, 33) := ⟨⟨by decide +kernel, by decide +kernel⟩, List.mem_of_getElem? (i := 764) (by decide +kernel), List.mem_of_getElem? (i := 895) (by decide +kernel), List.mem_of_getElem? (i := 896) (by decide +kernel)⟩
theorem lw_p22 : lw_okq (⟨"AsWithTheLastModel", "readKind", "()Z"⟩, 33) := ⟨⟨by decide +kernel, by decide +kernel⟩, List.mem_of_getElem? (i := 764) (by decide +kernel), List.mem_of_getElem? (i := 901) (by decide +kernel), List.mem_of_getElem? (i := 902) (by decide +kernel)⟩
theorem lw_p23 : lw_okq (⟨"AsWithTheLastModel", "isKind", "(I)Z"⟩, 33) := ⟨⟨by decide +kernel, by decide +kernel⟩, List.mem_of_getElem? (i := 764) (by decide +kernel), List.mem_of_getElem? (i := 922) (by decide +kernel), List.mem_of_getElem? (i := 923) (by decide +kernel)⟩
theorem lw_p24 : lw_okq (⟨"AsWithTheLastModel", "unlikeOf", "(II)I"⟩, 33) := ⟨⟨by decide +kernel, by decide +kernel⟩, List.mem_of_getElem? (i := 764) (by decide +kernel), List.mem_of_getElem? (i := 938) (by decide +kernel), List.mem_of_getElem? (i := 939) (by decide +kernel)⟩
theorem lw_p25 : lw_okq (⟨"AsWithTheLastModel", "doesBy", "(III)I"⟩, 33) := ⟨⟨by decide +kernel, by decide +kernel⟩, List.mem_of_getElem? (i := 764) (by decide +kernel), List.mem_of_getElem? (i := 950) (by decide +kernel), List.mem_of_getElem? (i := 951) (by decide +kernel)⟩
theorem lw_p26 : lw_okq (⟨"AsWithTheLastModel", "note", "()V"⟩, 33) := ⟨⟨by decide +kernel, by decide +kernel⟩, List.mem_of_getElem? (i := 764) (by decide +kernel), List.mem_of_getElem? (i := 958) (by decide +kernel), List.mem_of_getElem? (i := 959) (by decide +kernel)⟩
theorem lw_p27 : lw_okq (⟨"AsWithTheLastModel", "day", "(III)I"⟩, 33) := ⟨⟨by decide +kernel, by decide +kernel⟩, List.mem_of_getElem? (i := 764) (by decide +kernel), List.mem_of_getElem? (i := 962) (by decide +kernel), List.mem_of_getElem? (i := 963) (by decide +kernel)⟩
theorem lw_p28 : lw_okq (⟨"AsWithTheLastModel", "goes", "(II)I"⟩, 33) := ⟨⟨by decide +kernel, by decide +kernel⟩, List.mem_of_getElem? (i := 764) (by decide +kernel), List.mem_of_getElem? (i := 966) (by decide +kernel), List.mem_of_getElem? (i := 967) (by decide +kernel)⟩
theorem lw_p29 : lw_okq (⟨"AsWithTheLastModel", "hear", "(II)V"⟩, 33) := ⟨⟨by decide +kernel, by decide +kernel⟩, List.mem_of_getElem? (i := 764) (by decide +kernel), List.mem_of_getElem? (i := 973) (by decide +kernel), List.mem_of_getElem? (i := 974) (by decide +kernel)⟩
theorem lw_p30 : lw_okq (⟨"AsWithTheLastModel", "tryRow", "(I)I"⟩, 33) := ⟨⟨by decide +kernel, by decide +kernel⟩, List.mem_of_getElem? (i := 764) (by decide +kernel), List.mem_of_getElem? (i := 998) (by decide +kernel), List.mem_of_getElem? (i := 999) (by decide +kernel)⟩
theorem lw_p31 : lw_okq (⟨"AsWithTheLastModel", "putAside", "()V"⟩, 33) := ⟨⟨by decide +kernel, by decide +kernel⟩, List.mem_of_getElem? (i := 764) (by decide +kernel), List.mem_of_getElem? (i := 1002) (by decide +kernel), List.mem_of_getElem? (i := 1003) (by decide +kernel)⟩
def lw_privs_2 : List (MethodName × Nat) := [(⟨"AsWithTheLast", "mostAlike", "(II)I"⟩, 12), (⟨"AsWithTheLast", "firstWrong", "(IIZ)I"⟩, 12), (⟨"AsWithTheLast", "drawnKind", "(II)I"⟩, 12), (⟨"AsWithTheLastModel", "tellKind", "(IIIII)V"⟩, 33), (⟨"AsWithTheLastModel", "readItem", "()Z"⟩, 33), (⟨"AsWithTheLastModel", "readNumbers", "(I)Z"⟩, 33), (⟨"AsWithTheLastModel", "readKind", "()Z"⟩, 33), (⟨"AsWithTheLastModel", "isKind", "(I)Z"⟩, 33), (⟨"AsWithTheLastModel", "unlikeOf", "(II)I"⟩, 33), (⟨"AsWithTheLastModel", "doesBy", "(III)I"⟩, 33), (⟨"AsWithTheLastModel", "note", "()V"⟩, 33), (⟨"AsWithTheLastModel", "day", "(III)I"⟩, 33), (⟨"AsWithTheLastModel", "goes", "(II)I"⟩, 33), (⟨"AsWithTheLastModel", "hear", "(II)V"⟩, 33), (⟨"AsWithTheLastModel", "tryRow", "(I)I"⟩, 33), (⟨"AsWithTheLastModel", "putAside", "()V"⟩, 33)]
theorem lw_r2 : ∀ q ∈ lw_privs_2, lw_okq q := List.forall_mem_cons.mpr ⟨lw_p16, List.forall_mem_cons.mpr ⟨lw_p17, List.forall_mem_cons.mpr ⟨lw_p18, List.forall_mem_cons.mpr ⟨lw_p19, List.forall_mem_cons.mpr ⟨lw_p20, List.forall_mem_cons.mpr ⟨lw_p21, List.forall_mem_cons.mpr ⟨lw_p22, List.forall_mem_cons.mpr ⟨lw_p23, List.forall_mem_cons.mpr ⟨lw_p24, List.forall_mem_cons.mpr ⟨lw_p25, List.forall_mem_cons.mpr ⟨lw_p26, List.forall_mem_cons.mpr ⟨lw_p27, List.forall_mem_cons.mpr ⟨lw_p28, List.forall_mem_cons.mpr ⟨lw_p29, List.forall_mem_cons.mpr ⟨lw_p30, List.forall_mem_cons.mpr ⟨lw_p31, fun _ h => absurd h List.not_mem_nil⟩⟩⟩⟩⟩⟩⟩⟩⟩⟩⟩⟩⟩⟩⟩⟩
theorem lw_p32 : lw_okq (⟨"AsWithTheLastModel", "runRow", "(II)I"⟩, 33) := ⟨⟨by decide +kernel, by decide +kernel⟩, List.mem_of_getElem? (i := 764) (by decide +kernel), List.mem_of_getElem? (i := 1006) (by decide +kernel), List.mem_of_getElem? (i := 1007) (by decide +kernel)⟩
theorem lw_p33 : lw_okq (⟨"AsWithTheLastModel", "takeBack", "()V"⟩, 33) := ⟨⟨by decide +kernel, by decide +kernel⟩, List.mem_of_getElem? (i := 764) (by decide +kernel), List.mem_of_getElem? (i := 1010) (by decide +kernel), List.mem_of_getElem? (i := 1011) (by decide +kernel)⟩
theorem lw_p34 : lw_okq (⟨"AsWithTheLastModel", "isRound", "(I)Z"⟩, 33) := ⟨⟨by decide +kernel, by decide +kernel⟩, List.mem_of_getElem? (i := 764) (by decide +kernel), List.mem_of_getElem? (i := 1018) (by decide +kernel), List.mem_of_getElem? (i := 1019) (by decide +kernel)⟩
theorem lw_p35 : lw_okq (⟨"AsWithTheLastModel", "exchange", "(II)V"⟩, 33) := ⟨⟨by decide +kernel, by decide +kernel⟩, List.mem_of_getElem? (i := 764) (by decide +kernel), List.mem_of_getElem? (i := 1026) (by decide +kernel), List.mem_of_getElem? (i := 1027) (by decide +kernel)⟩
theorem lw_p36 : lw_okq (⟨"AsWithTheLastModel", "nextRow", "()Z"⟩, 33) := ⟨⟨by decide +kernel, by decide +kernel⟩, List.mem_of_getElem? (i := 764) (by decide +kernel), List.mem_of_getElem? (i := 1030) (by decide +kernel), List.mem_of_getElem? (i := 1031) (by decide +kernel)⟩
theorem lw_p37 : lw_okq (⟨"AsWithTheLastModel", "tryTaught", "(II)I"⟩, 33) := ⟨⟨by decide +kernel, by decide +kernel⟩, List.mem_of_getElem? (i := 764) (by decide +kernel), List.mem_of_getElem? (i := 1038) (by decide +kernel), List.mem_of_getElem? (i := 1039) (by decide +kernel)⟩
theorem lw_p38 : lw_okq (⟨"AsWithTheLastModel", "isFit", "(II)Z"⟩, 33) := ⟨⟨by decide +kernel, by decide +kernel⟩, List.mem_of_getElem? (i := 764) (by decide +kernel), List.mem_of_getElem? (i := 1054) (by decide +kernel), List.mem_of_getElem? (i := 1055) (by decide +kernel)⟩
theorem lw_p39 : lw_okq (⟨"AsWithTheLastModel", "holds", "(II)Z"⟩, 33) := ⟨⟨by decide +kernel, by decide +kernel⟩, List.mem_of_getElem? (i := 764) (by decide +kernel), List.mem_of_getElem? (i := 1071) (by decide +kernel), List.mem_of_getElem? (i := 1072) (by decide +kernel)⟩
theorem lw_p40 : lw_okq (⟨"AsWithTheLastModel", "oneRound", "()I"⟩, 33) := ⟨⟨by decide +kernel, by decide +kernel⟩, List.mem_of_getElem? (i := 764) (by decide +kernel), List.mem_of_getElem? (i := 1084) (by decide +kernel), List.mem_of_getElem? (i := 1085) (by decide +kernel)⟩
theorem lw_p41 : lw_okq (⟨"AsWithTheLastModel", "copyTo", "([I[I)V"⟩, 33) := ⟨⟨by decide +kernel, by decide +kernel⟩, List.mem_of_getElem? (i := 764) (by decide +kernel), List.mem_of_getElem? (i := 1088) (by decide +kernel), List.mem_of_getElem? (i := 1089) (by decide +kernel)⟩
theorem lw_p42 : lw_okq (⟨"AsWithTheLastModel", "worstDay", "()I"⟩, 33) := ⟨⟨by decide +kernel, by decide +kernel⟩, List.mem_of_getElem? (i := 764) (by decide +kernel), List.mem_of_getElem? (i := 1092) (by decide +kernel), List.mem_of_getElem? (i := 1093) (by decide +kernel)⟩
theorem lw_p43 : lw_okq (⟨"AsWithTheLastModel", "twoRounds", "()I"⟩, 33) := ⟨⟨by decide +kernel, by decide +kernel⟩, List.mem_of_getElem? (i := 764) (by decide +kernel), List.mem_of_getElem? (i := 1096) (by decide +kernel), List.mem_of_getElem? (i := 1097) (by decide +kernel)⟩
theorem lw_p44 : lw_okq (⟨"AsWithTheLastModel", "worstTwo", "()I"⟩, 33) := ⟨⟨by decide +kernel, by decide +kernel⟩, List.mem_of_getElem? (i := 764) (by decide +kernel), List.mem_of_getElem? (i := 1100) (by decide +kernel), List.mem_of_getElem? (i := 1101) (by decide +kernel)⟩
def lw_privs_3 : List (MethodName × Nat) := [(⟨"AsWithTheLastModel", "runRow", "(II)I"⟩, 33), (⟨"AsWithTheLastModel", "takeBack", "()V"⟩, 33), (⟨"AsWithTheLastModel", "isRound", "(I)Z"⟩, 33), (⟨"AsWithTheLastModel", "exchange", "(II)V"⟩, 33), (⟨"AsWithTheLastModel", "nextRow", "()Z"⟩, 33), (⟨"AsWithTheLastModel", "tryTaught", "(II)I"⟩, 33), (⟨"AsWithTheLastModel", "isFit", "(II)Z"⟩, 33), (⟨"AsWithTheLastModel", "holds", "(II)Z"⟩, 33), (⟨"AsWithTheLastModel", "oneRound", "()I"⟩, 33), (⟨"AsWithTheLastModel", "copyTo", "([I[I)V"⟩, 33), (⟨"AsWithTheLastModel", "worstDay", "()I"⟩, 33), (⟨"AsWithTheLastModel", "twoRounds", "()I"⟩, 33), (⟨"AsWithTheLastModel", "worstTwo", "()I"⟩, 33)]
theorem lw_r3 : ∀ q ∈ lw_privs_3, lw_okq q := List.forall_mem_cons.mpr ⟨lw_p32, List.forall_mem_cons.mpr ⟨lw_p33, List.forall_mem_cons.mpr ⟨lw_p34, List.forall_mem_cons.mpr ⟨lw_p35, List.forall_mem_cons.mpr ⟨lw_p36, List.forall_mem_cons.mpr ⟨lw_p37, List.forall_mem_cons.mpr ⟨lw_p38, List.forall_mem_cons.mpr ⟨lw_p39, List.forall_mem_cons.mpr ⟨lw_p40, List.forall_mem_cons.mpr ⟨lw_p41, List.forall_mem_cons.mpr ⟨lw_p42, List.forall_mem_cons.mpr ⟨lw_p43, List.forall_mem_cons.mpr ⟨lw_p44, fun _ h => absurd h List.not_mem_nil⟩⟩⟩⟩⟩⟩⟩⟩⟩⟩⟩⟩⟩
def lw_privs : List (MethodName × Nat) := lw_privs_1 ++ (lw_privs_2 ++ (lw_privs_3))
def lw_tbl : List Cond := k2_sels lw_privs ++ tables_1
theorem lw_privs_ok : ∀ q ∈ lw_privs, lw_okq q := by
  show ∀ q ∈ lw_privs_1 ++ (lw_privs_2 ++ (lw_privs_3)), lw_okq q
  exact List.forall_mem_append.mpr ⟨lw_r1, List.forall_mem_append.mpr ⟨lw_r2, lw_r3⟩⟩
-- ===== end of PART A; then your names; then what follows =====
def RX0 : String := "AsWithTheLast$Learner"
def TX0 : u_T := fun k => match k with
  | 0 => ("AsWithTheLast$Learner", "lesson", "LAsWithTheLast$Lesson;", true)
  | 1 => ("AsWithTheLast$Learner", "below", "LAsWithTheLast$Learner;", true)
  | 2 => ("AsWithTheLast$Learner", "latest", "LAsWithTheLast$Numbers;", true)
  | 3 => ("AsWithTheLast$Learner", "latestDoing", "LAsWithTheLast$Numbers;", true)
  | 4 => ("AsWithTheLast$Learner", "sort", "I", false)
  | 5 => ("AsWithTheLast$Learner", "first", "I", false)
  | 6 => ("AsWithTheLast$Learner", "heard", "I", false)
  | 7 => ("AsWithTheLast$Learner", "last", "I", false)
  | _ => ("AsWithTheLast$Learner", "before", "I", false)
def tyX0 : Nat → FieldType := fun k => match k with
  | 0 => .object "AsWithTheLast$Lesson"
  | 1 => .object "AsWithTheLast$Learner"
  | 2 => .object "AsWithTheLast$Numbers"
  | 3 => .object "AsWithTheLast$Numbers"
  | 4 => .int
  | 5 => .int
  | 6 => .int
  | 7 => .int
  | _ => .int
abbrev wsX00 : List Cond := u_ws RX0 TX0 9
theorem nmX0 : ∀ a, a < 9 → ∀ b, b < 9 → a ≠ b → (TX0 a).2.1 ≠ (TX0 b).2.1 := by decide +kernel
theorem tyX0_ok : ∀ k, k < 9 → parseFieldDescriptor (TX0 k).2.2.1 = some (tyX0 k) := by decide +kernel
abbrev cX0_init : ByteArray := prog_2_method_1_code
def yX0_init : MethodName := ⟨RX0, "<init>", "(LAsWithTheLast$Lesson;LAsWithTheLast$Learner;)V"⟩
abbrev cX0_begin : ByteArray := prog_2_method_2_code
def yX0_begin : MethodName := ⟨RX0, "begin", "(II)V"⟩
abbrev cX0_hear : ByteArray := prog_2_method_3_code
def yX0_hear : MethodName := ⟨RX0, "hear", "(II)V"⟩
abbrev cX0_hearAll : ByteArray := prog_2_method_4_code
def yX0_hearAll : MethodName := ⟨RX0, "hearAll", "(LAsWithTheLast$Numbers;)V"⟩
abbrev cX0_willDo : ByteArray := prog_2_method_5_code
def yX0_willDo : MethodName := ⟨RX0, "willDo", "(I)I"⟩
abbrev cX0_keeps : ByteArray := prog_2_method_6_code
def yX0_keeps : MethodName := ⟨RX0, "keeps", "(I)Z"⟩
abbrev cX0_likestDoing : ByteArray := prog_2_method_7_code
def yX0_likestDoing : MethodName := ⟨RX0, "likestDoing", "(I)I"⟩
abbrev cX0_day : ByteArray := prog_2_method_8_code
def yX0_day : MethodName := ⟨RX0, "day", "(I)I"⟩
abbrev cX0_lossOfRow : ByteArray := prog_2_method_9_code
def yX0_lossOfRow : MethodName := ⟨RX0, "lossOfRow", "()I"⟩
abbrev cX0_firstGoodOfRow : ByteArray := prog_2_method_10_code
def yX0_firstGoodOfRow : MethodName := ⟨RX0, "firstGoodOfRow", "()I"⟩
abbrev cX0_doingsOfRow : ByteArray := prog_2_method_11_code
def yX0_doingsOfRow : MethodName := ⟨RX0, "doingsOfRow", "()I"⟩
abbrev cX0_stepDown : ByteArray := prog_2_method_12_code
def yX0_stepDown : MethodName := ⟨RX0, "stepDown", "()LAsWithTheLast$Learner;"⟩
abbrev cX0_copyFrom : ByteArray := prog_2_method_13_code
def yX0_copyFrom : MethodName := ⟨RX0, "copyFrom", "(LAsWithTheLast$Learner;)V"⟩
def RX1 : String := "AsWithTheLast$Lesson"
def TX1 : u_T := fun k => match k with
  | 0 => ("AsWithTheLast$Lesson", "marks", "LAsWithTheLast$Numbers;", true)
  | 1 => ("AsWithTheLast$Lesson", "right", "LAsWithTheLast$Numbers;", true)
  | 2 => ("AsWithTheLast$Lesson", "spoilers", "LAsWithTheLast$Numbers;", true)
  | 3 => ("AsWithTheLast$Lesson", "worth", "LAsWithTheLast$Numbers;", true)
  | 4 => ("AsWithTheLast$Lesson", "chance", "LAsWithTheLast$Numbers;", true)
  | 5 => ("AsWithTheLast$Lesson", "errands", "LAsWithTheLast$Numbers;", true)
  | 6 => ("AsWithTheLast$Lesson", "sort", "I", false)
  | _ => ("AsWithTheLast$Lesson", "first", "I", false)
def tyX1 : Nat → FieldType := fun k => match k with
  | 0 => .object "AsWithTheLast$Numbers"
  | 1 => .object "AsWithTheLast$Numbers"
  | 2 => .object "AsWithTheLast$Numbers"
  | 3 => .object "AsWithTheLast$Numbers"
  | 4 => .object "AsWithTheLast$Numbers"
  | 5 => .object "AsWithTheLast$Numbers"
  | 6 => .int
  | _ => .int
abbrev wsX10 : List Cond := u_ws RX1 TX1 8
theorem nmX1 : ∀ a, a < 8 → ∀ b, b < 8 → a ≠ b → (TX1 a).2.1 ≠ (TX1 b).2.1 := by decide +kernel
theorem tyX1_ok : ∀ k, k < 8 → parseFieldDescriptor (TX1 k).2.2.1 = some (tyX1 k) := by decide +kernel
abbrev cX1_init : ByteArray := prog_3_method_1_code
def yX1_init : MethodName := ⟨RX1, "<init>", "()V"⟩
abbrev cX1_kinds : ByteArray := prog_3_method_2_code
def yX1_kinds : MethodName := ⟨RX1, "kinds", "()I"⟩
abbrev cX1_isKind : ByteArray := prog_3_method_3_code
def yX1_isKind : MethodName := ⟨RX1, "isKind", "(I)Z"⟩
abbrev cX1_allChances : ByteArray := prog_3_method_4_code
def yX1_allChances : MethodName := ⟨RX1, "allChances", "()I"⟩
abbrev cX1_outcome : ByteArray := prog_3_method_5_code
def yX1_outcome : MethodName := ⟨RX1, "outcome", "(II)I"⟩
abbrev cX1_lost : ByteArray := prog_3_method_6_code
def yX1_lost : MethodName := ⟨RX1, "lost", "(II)I"⟩
abbrev cX1_clear : ByteArray := prog_3_method_7_code
def yX1_clear : MethodName := ⟨RX1, "clear", "()V"⟩
abbrev cX1_copyFrom : ByteArray := prog_3_method_8_code
def yX1_copyFrom : MethodName := ⟨RX1, "copyFrom", "(LAsWithTheLast$Lesson;)V"⟩
def RX2 : String := "AsWithTheLast$Memory"
def TX2 : u_T := fun k => match k with
  | 0 => ("AsWithTheLast$Memory", "words", "LAsWithTheLast$Numbers;", true)
  | 1 => ("AsWithTheLast$Memory", "handed", "LAsWithTheLast$Numbers;", true)
  | 2 => ("AsWithTheLast$Memory", "days", "I", false)
  | 3 => ("AsWithTheLast$Memory", "lost", "I", false)
  | _ => ("AsWithTheLast$Memory", "good", "I", false)
def tyX2 : Nat → FieldType := fun k => match k with
  | 0 => .object "AsWithTheLast$Numbers"
  | 1 => .object "AsWithTheLast$Numbers"
  | 2 => .int
  | 3 => .int
  | _ => .int
abbrev wsX20 : List Cond := u_ws RX2 TX2 5
theorem nmX2 : ∀ a, a < 5 → ∀ b, b < 5 → a ≠ b → (TX2 a).2.1 ≠ (TX2 b).2.1 := by decide +kernel
theorem tyX2_ok : ∀ k, k < 5 → parseFieldDescriptor (TX2 k).2.2.1 = some (tyX2 k) := by decide +kernel
abbrev cX2_init : ByteArray := prog_4_method_1_code
def yX2_init : MethodName := ⟨RX2, "<init>", "()V"⟩
abbrev cX2_clear : ByteArray := prog_4_method_2_code
def yX2_clear : MethodName := ⟨RX2, "clear", "()V"⟩
abbrev cX2_addWord : ByteArray := prog_4_method_3_code
def yX2_addWord : MethodName := ⟨RX2, "addWord", "(II)V"⟩
abbrev cX2_addDay : ByteArray := prog_4_method_4_code
def yX2_addDay : MethodName := ⟨RX2, "addDay", "(LAsWithTheLast$Lesson;II)V"⟩
abbrev cX2_copyFrom : ByteArray := prog_4_method_5_code
def yX2_copyFrom : MethodName := ⟨RX2, "copyFrom", "(LAsWithTheLast$Memory;)V"⟩
def RX3 : String := "AsWithTheLast$Numbers"
def TX3 : u_T := fun k => match k with
  | 0 => ("AsWithTheLast$Numbers", "items", "[I", true)
  | _ => ("AsWithTheLast$Numbers", "size", "I", false)
def tyX3 : Nat → FieldType := fun k => match k with
  | 0 => .array .int
  | _ => .int
abbrev wsX30 : List Cond := u_ws RX3 TX3 2
theorem nmX3 : ∀ a, a < 2 → ∀ b, b < 2 → a ≠ b → (TX3 a).2.1 ≠ (TX3 b).2.1 := by decide +kernel
theorem tyX3_ok : ∀ k, k < 2 → parseFieldDescriptor (TX3 k).2.2.1 = some (tyX3 k) := by decide +kernel
abbrev cX3_init : ByteArray := prog_5_method_1_code
def yX3_init : MethodName := ⟨RX3, "<init>", "(I)V"⟩
abbrev cX3_size : ByteArray := prog_5_method_2_code
def yX3_size : MethodName := ⟨RX3, "size", "()I"⟩
abbrev cX3_isFull : ByteArray := prog_5_method_3_code
def yX3_isFull : MethodName := ⟨RX3, "isFull", "()Z"⟩
abbrev cX3_at : ByteArray := prog_5_method_4_code
def yX3_at : MethodName := ⟨RX3, "at", "(I)I"⟩
abbrev cX3_put : ByteArray := prog_5_method_5_code
def yX3_put : MethodName := ⟨RX3, "put", "(II)V"⟩
abbrev cX3_add : ByteArray := prog_5_method_6_code
def yX3_add : MethodName := ⟨RX3, "add", "(I)V"⟩
abbrev cX3_clear : ByteArray := prog_5_method_7_code
def yX3_clear : MethodName := ⟨RX3, "clear", "()V"⟩
abbrev cX3_fill : ByteArray := prog_5_method_8_code
def yX3_fill : MethodName := ⟨RX3, "fill", "(II)V"⟩
abbrev cX3_dropFirst : ByteArray := prog_5_method_9_code
def yX3_dropFirst : MethodName := ⟨RX3, "dropFirst", "()V"⟩
abbrev cX3_copyFrom : ByteArray := prog_5_method_10_code
def yX3_copyFrom : MethodName := ⟨RX3, "copyFrom", "(LAsWithTheLast$Numbers;)V"⟩
def RX4 : String := "AsWithTheLast$Orders"
def TX4 : u_T := fun k => match k with
  | 0 => ("AsWithTheLast$Orders", "lesson", "LAsWithTheLast$Lesson;", true)
  | 1 => ("AsWithTheLast$Orders", "left", "LAsWithTheLast$Numbers;", true)
  | 2 => ("AsWithTheLast$Orders", "tried", "LAsWithTheLast$Numbers;", true)
  | 3 => ("AsWithTheLast$Orders", "best", "LAsWithTheLast$Numbers;", true)
  | _ => ("AsWithTheLast$Orders", "least", "I", false)
def tyX4 : Nat → FieldType := fun k => match k with
  | 0 => .object "AsWithTheLast$Lesson"
  | 1 => .object "AsWithTheLast$Numbers"
  | 2 => .object "AsWithTheLast$Numbers"
  | 3 => .object "AsWithTheLast$Numbers"
  | _ => .int
abbrev wsX40 : List Cond := u_ws RX4 TX4 5
theorem nmX4 : ∀ a, a < 5 → ∀ b, b < 5 → a ≠ b → (TX4 a).2.1 ≠ (TX4 b).2.1 := by decide +kernel
theorem tyX4_ok : ∀ k, k < 5 → parseFieldDescriptor (TX4 k).2.2.1 = some (tyX4 k) := by decide +kernel
abbrev cX4_init : ByteArray := prog_6_method_1_code
def yX4_init : MethodName := ⟨RX4, "<init>", "(LAsWithTheLast$Lesson;)V"⟩
abbrev cX4_seek : ByteArray := prog_6_method_2_code
def yX4_seek : MethodName := ⟨RX4, "seek", "(LAsWithTheLast$Learner;)V"⟩
abbrev cX4_addLeft : ByteArray := prog_6_method_3_code
def yX4_addLeft : MethodName := ⟨RX4, "addLeft", "(II)V"⟩
abbrev cX4_tryFrom : ByteArray := prog_6_method_4_code
def yX4_tryFrom : MethodName := ⟨RX4, "tryFrom", "(LAsWithTheLast$Orders;LAsWithTheLast$Learner;II)V"⟩
def RX5 : String := "AsWithTheLast$Reader"
def TX5 : u_T := fun k => match k with
  | 0 => ("AsWithTheLast$Reader", "text", "LAsWithTheLast$Numbers;", true)
  | 1 => ("AsWithTheLast$Reader", "lesson", "LAsWithTheLast$Lesson;", true)
  | _ => ("AsWithTheLast$Reader", "numbers", "LAsWithTheLast$Numbers;", true)
def tyX5 : Nat → FieldType := fun k => match k with
  | 0 => .object "AsWithTheLast$Numbers"
  | 1 => .object "AsWithTheLast$Lesson"
  | _ => .object "AsWithTheLast$Numbers"
abbrev wsX50 : List Cond := u_ws RX5 TX5 3
theorem nmX5 : ∀ a, a < 3 → ∀ b, b < 3 → a ≠ b → (TX5 a).2.1 ≠ (TX5 b).2.1 := by decide +kernel
theorem tyX5_ok : ∀ k, k < 3 → parseFieldDescriptor (TX5 k).2.2.1 = some (tyX5 k) := by decide +kernel
abbrev cX5_init : ByteArray := prog_7_method_1_code
def yX5_init : MethodName := ⟨RX5, "<init>", "(LAsWithTheLast$Numbers;LAsWithTheLast$Lesson;)V"⟩
abbrev cX5_readAll : ByteArray := prog_7_method_2_code
def yX5_readAll : MethodName := ⟨RX5, "readAll", "()I"⟩
abbrev cX5_readItem : ByteArray := prog_7_method_3_code
def yX5_readItem : MethodName := ⟨RX5, "readItem", "(I)I"⟩
abbrev cX5_numbersBehind : ByteArray := prog_7_method_4_code
def yX5_numbersBehind : MethodName := ⟨RX5, "numbersBehind", "(I)I"⟩
abbrev cX5_readNumber : ByteArray := prog_7_method_5_code
def yX5_readNumber : MethodName := ⟨RX5, "readNumber", "(I)I"⟩
abbrev cX5_isFigure : ByteArray := prog_7_method_6_code
def yX5_isFigure : MethodName := ⟨RX5, "isFigure", "(I)Z"⟩
abbrev cX5_takeItem : ByteArray := prog_7_method_7_code
def yX5_takeItem : MethodName := ⟨RX5, "takeItem", "(I)Z"⟩
abbrev cX5_takeKind : ByteArray := prog_7_method_8_code
def yX5_takeKind : MethodName := ⟨RX5, "takeKind", "()Z"⟩
abbrev cX5_takeErrand : ByteArray := prog_7_method_9_code
def yX5_takeErrand : MethodName := ⟨RX5, "takeErrand", "(I)Z"⟩
def RX6 : String := "AsWithTheLast$Shelf"
def TX6 : u_T := fun k => match k with
  | 0 => ("AsWithTheLast$Shelf", "places", "[LAsWithTheLast$Memory;", true)
  | _ => ("AsWithTheLast$Shelf", "size", "I", false)
def tyX6 : Nat → FieldType := fun k => match k with
  | 0 => .array (.object "AsWithTheLast$Memory")
  | _ => .int
abbrev wsX60 : List Cond := u_ws RX6 TX6 2
theorem nmX6 : ∀ a, a < 2 → ∀ b, b < 2 → a ≠ b → (TX6 a).2.1 ≠ (TX6 b).2.1 := by decide +kernel
theorem tyX6_ok : ∀ k, k < 2 → parseFieldDescriptor (TX6 k).2.2.1 = some (tyX6 k) := by decide +kernel
abbrev cX6_init : ByteArray := prog_8_method_1_code
def yX6_init : MethodName := ⟨RX6, "<init>", "(I)V"⟩
abbrev cX6_size : ByteArray := prog_8_method_2_code
def yX6_size : MethodName := ⟨RX6, "size", "()I"⟩
abbrev cX6_isFull : ByteArray := prog_8_method_3_code
def yX6_isFull : MethodName := ⟨RX6, "isFull", "()Z"⟩
abbrev cX6_clear : ByteArray := prog_8_method_4_code
def yX6_clear : MethodName := ⟨RX6, "clear", "()V"⟩
abbrev cX6_add : ByteArray := prog_8_method_5_code
def yX6_add : MethodName := ⟨RX6, "add", "(LAsWithTheLast$Memory;)V"⟩
abbrev cX6_takeLast : ByteArray := prog_8_method_6_code
def yX6_takeLast : MethodName := ⟨RX6, "takeLast", "(LAsWithTheLast$Memory;)V"⟩
abbrev cX6_placeAt : ByteArray := prog_8_method_7_code
def yX6_placeAt : MethodName := ⟨RX6, "placeAt", "(I)LAsWithTheLast$Memory;"⟩
abbrev cX6_dropOldest : ByteArray := prog_8_method_8_code
def yX6_dropOldest : MethodName := ⟨RX6, "dropOldest", "()V"⟩
def RX7 : String := "AsWithTheLast"
def TX7 : u_T := fun k => match k with
  | 0 => ("AsWithTheLast", "text", "LAsWithTheLast$Numbers;", true)
  | 1 => ("AsWithTheLast", "told", "LAsWithTheLast$Lesson;", true)
  | 2 => ("AsWithTheLast", "reader", "LAsWithTheLast$Reader;", true)
  | 3 => ("AsWithTheLast", "laid", "LAsWithTheLast$Lesson;", true)
  | 4 => ("AsWithTheLast", "memory", "LAsWithTheLast$Memory;", true)
  | 5 => ("AsWithTheLast", "past", "LAsWithTheLast$Shelf;", true)
  | 6 => ("AsWithTheLast", "kept", "LAsWithTheLast$Shelf;", true)
  | 7 => ("AsWithTheLast", "seenThings", "LAsWithTheLast$Numbers;", true)
  | 8 => ("AsWithTheLast", "times", "LAsWithTheLast$Numbers;", true)
  | 9 => ("AsWithTheLast", "alike", "LAsWithTheLast$Numbers;", true)
  | 10 => ("AsWithTheLast", "learner", "LAsWithTheLast$Learner;", true)
  | _ => ("AsWithTheLast", "orders", "LAsWithTheLast$Orders;", true)
def tyX7 : Nat → FieldType := fun k => match k with
  | 0 => .object "AsWithTheLast$Numbers"
  | 1 => .object "AsWithTheLast$Lesson"
  | 2 => .object "AsWithTheLast$Reader"
  | 3 => .object "AsWithTheLast$Lesson"
  | 4 => .object "AsWithTheLast$Memory"
  | 5 => .object "AsWithTheLast$Shelf"
  | 6 => .object "AsWithTheLast$Shelf"
  | 7 => .object "AsWithTheLast$Numbers"
  | 8 => .object "AsWithTheLast$Numbers"
  | 9 => .object "AsWithTheLast$Numbers"
  | 10 => .object "AsWithTheLast$Learner"
  | _ => .object "AsWithTheLast$Orders"
abbrev wsX70 : List Cond := u_ws RX7 TX7 12
theorem nmX7 : ∀ a, a < 12 → ∀ b, b < 12 → a ≠ b → (TX7 a).2.1 ≠ (TX7 b).2.1 := by decide +kernel
theorem tyX7_ok : ∀ k, k < 12 → parseFieldDescriptor (TX7 k).2.2.1 = some (tyX7 k) := by decide +kernel
abbrev cX7_init : ByteArray := prog_1_method_1_code
def yX7_init : MethodName := ⟨RX7, "<init>", "()V"⟩
abbrev cX7_write : ByteArray := prog_1_method_2_code
def yX7_write : MethodName := ⟨RX7, "write", "(I)I"⟩
abbrev cX7_wipe : ByteArray := prog_1_method_3_code
def yX7_wipe : MethodName := ⟨RX7, "wipe", "()I"⟩
abbrev cX7_fault : ByteArray := prog_1_method_4_code
def yX7_fault : MethodName := ⟨RX7, "fault", "()I"⟩
abbrev cX7_lay : ByteArray := prog_1_method_5_code
def yX7_lay : MethodName := ⟨RX7, "lay", "()I"⟩
abbrev cX7_kind : ByteArray := prog_1_method_6_code
def yX7_kind : MethodName := ⟨RX7, "kind", "(II)I"⟩
abbrev cX7_errand : ByteArray := prog_1_method_7_code
def yX7_errand : MethodName := ⟨RX7, "errand", "(I)I"⟩
abbrev cX7_word : ByteArray := prog_1_method_8_code
def yX7_word : MethodName := ⟨RX7, "word", "(I)I"⟩
abbrev cX7_unlike : ByteArray := prog_1_method_9_code
def yX7_unlike : MethodName := ⟨RX7, "unlike", "(II)I"⟩
abbrev cX7_does : ByteArray := prog_1_method_10_code
def yX7_does : MethodName := ⟨RX7, "does", "(II)I"⟩
abbrev cX7_hand : ByteArray := prog_1_method_11_code
def yX7_hand : MethodName := ⟨RX7, "hand", "(I)I"⟩
abbrev cX7_teach : ByteArray := prog_1_method_12_code
def yX7_teach : MethodName := ⟨RX7, "teach", "(II)I"⟩
abbrev cX7_undo : ByteArray := prog_1_method_13_code
def yX7_undo : MethodName := ⟨RX7, "undo", "()I"⟩
abbrev cX7_tell : ByteArray := prog_1_method_14_code
def yX7_tell : MethodName := ⟨RX7, "tell", "(I)I"⟩
abbrev cX7_noRow : ByteArray := prog_1_method_15_code
def yX7_noRow : MethodName := ⟨RX7, "noRow", "()I"⟩
abbrev cX7_run : ByteArray := prog_1_method_16_code
def yX7_run : MethodName := ⟨RX7, "run", "(III)I"⟩
abbrev cX7_round : ByteArray := prog_1_method_17_code
def yX7_round : MethodName := ⟨RX7, "round", "()I"⟩
abbrev cX7_order : ByteArray := prog_1_method_18_code
def yX7_order : MethodName := ⟨RX7, "order", "(I)I"⟩
abbrev cX7_best : ByteArray := prog_1_method_19_code
def yX7_best : MethodName := ⟨RX7, "best", "(I)I"⟩
abbrev cX7_seen : ByteArray := prog_1_method_20_code
def yX7_seen : MethodName := ⟨RX7, "seen", "(II)I"⟩
abbrev cX7_forget : ByteArray := prog_1_method_21_code
def yX7_forget : MethodName := ⟨RX7, "forget", "()I"⟩
abbrev cX7_fits : ByteArray := prog_1_method_22_code
def yX7_fits : MethodName := ⟨RX7, "fits", "()I"⟩
abbrev cX7_firsts : ByteArray := prog_1_method_23_code
def yX7_firsts : MethodName := ⟨RX7, "firsts", "(I)I"⟩
abbrev cX7_ask : ByteArray := prog_1_method_24_code
def yX7_ask : MethodName := ⟨RX7, "ask", "(I)I"⟩
abbrev cX7_rule : ByteArray := prog_1_method_25_code
def yX7_rule : MethodName := ⟨RX7, "rule", "(I)I"⟩
abbrev cX7_wrong : ByteArray := prog_1_method_26_code
def yX7_wrong : MethodName := ⟨RX7, "wrong", "(IIZ)I"⟩
abbrev cX7_byTurns : ByteArray := prog_1_method_27_code
def yX7_byTurns : MethodName := ⟨RX7, "byTurns", "(I)I"⟩
abbrev cX7_mean : ByteArray := prog_1_method_28_code
def yX7_mean : MethodName := ⟨RX7, "mean", "(II)I"⟩
abbrev cX7_year : ByteArray := prog_1_method_29_code
def yX7_year : MethodName := ⟨RX7, "year", "(III)I"⟩
abbrev cX7_keep : ByteArray := prog_1_method_30_code
def yX7_keep : MethodName := ⟨RX7, "keep", "()I"⟩
abbrev cX7_back : ByteArray := prog_1_method_31_code
def yX7_back : MethodName := ⟨RX7, "back", "()I"⟩
abbrev cX7_count : ByteArray := prog_1_method_32_code
def yX7_count : MethodName := ⟨RX7, "count", "(I)I"⟩
abbrev cX7_isWithin : ByteArray := prog_1_method_33_code
def yX7_isWithin : MethodName := ⟨RX7, "isWithin", "(III)Z"⟩
abbrev cX7_isSort : ByteArray := prog_1_method_34_code
def yX7_isSort : MethodName := ⟨RX7, "isSort", "(I)Z"⟩
abbrev cX7_isDoing : ByteArray := prog_1_method_35_code
def yX7_isDoing : MethodName := ⟨RX7, "isDoing", "(I)Z"⟩
abbrev cX7_wordOf : ByteArray := prog_1_method_36_code
def yX7_wordOf : MethodName := ⟨RX7, "wordOf", "(II)I"⟩
abbrev cX7_marksApart : ByteArray := prog_1_method_37_code
def yX7_marksApart : MethodName := ⟨RX7, "marksApart", "(II)I"⟩
abbrev cX7_learnerNow : ByteArray := prog_1_method_38_code
def yX7_learnerNow : MethodName := ⟨RX7, "learnerNow", "(I)LAsWithTheLast$Learner;"⟩
abbrev cX7_fillTimes : ByteArray := prog_1_method_39_code
def yX7_fillTimes : MethodName := ⟨RX7, "fillTimes", "(LAsWithTheLast$Learner;)V"⟩
abbrev cX7_comesRoundAfter : ByteArray := prog_1_method_40_code
def yX7_comesRoundAfter : MethodName := ⟨RX7, "comesRoundAfter", "(I)Z"⟩
abbrev cX7_canBe : ByteArray := prog_1_method_41_code
def yX7_canBe : MethodName := ⟨RX7, "canBe", "(II)Z"⟩
abbrev cX7_speaksAgainst : ByteArray := prog_1_method_42_code
def yX7_speaksAgainst : MethodName := ⟨RX7, "speaksAgainst", "(II)Z"⟩
abbrev cX7_mostAlike : ByteArray := prog_1_method_43_code
def yX7_mostAlike : MethodName := ⟨RX7, "mostAlike", "(II)I"⟩
abbrev cX7_firstWrong : ByteArray := prog_1_method_44_code
def yX7_firstWrong : MethodName := ⟨RX7, "firstWrong", "(IIZ)I"⟩
abbrev cX7_drawnKind : ByteArray := prog_1_method_45_code
def yX7_drawnKind : MethodName := ⟨RX7, "drawnKind", "(II)I"⟩
abbrev cX7_lossAtMothersTurn : ByteArray := prog_1_method_46_code
def yX7_lossAtMothersTurn : MethodName := ⟨RX7, "lossAtMothersTurn", "(LAsWithTheLast$Lesson;LAsWithTheLast$Learner;II)I"⟩
abbrev cX7_lossAtOthersTurn : ByteArray := prog_1_method_47_code
def yX7_lossAtOthersTurn : MethodName := ⟨RX7, "lossAtOthersTurn", "(LAsWithTheLast$Lesson;LAsWithTheLast$Learner;II)I"⟩
abbrev cX7_lossByChances : ByteArray := prog_1_method_48_code
def yX7_lossByChances : MethodName := ⟨RX7, "lossByChances", "(LAsWithTheLast$Lesson;LAsWithTheLast$Learner;II)I"⟩
abbrev cX7_power : ByteArray := prog_1_method_49_code
def yX7_power : MethodName := ⟨RX7, "power", "(II)I"⟩
abbrev cX7_greatestDivisor : ByteArray := prog_1_method_50_code
def yX7_greatestDivisor : MethodName := ⟨RX7, "greatestDivisor", "(II)I"⟩
def RX8 : String := "AsWithTheLastModel"
def TX8 : u_T := fun k => match k with
  | 0 => ("AsWithTheLastModel", "told", "[I", true)
  | 1 => ("AsWithTheLastModel", "kinds", "I", false)
  | 2 => ("AsWithTheLastModel", "sort", "I", false)
  | 3 => ("AsWithTheLastModel", "firstDoing", "I", false)
  | 4 => ("AsWithTheLastModel", "errands", "[I", true)
  | 5 => ("AsWithTheLastModel", "rowLong", "I", false)
  | 6 => ("AsWithTheLastModel", "st", "[I", true)
  | 7 => ("AsWithTheLastModel", "text", "[I", true)
  | 8 => ("AsWithTheLastModel", "letters", "I", false)
  | 9 => ("AsWithTheLastModel", "place", "I", false)
  | 10 => ("AsWithTheLastModel", "number", "[I", true)
  | 11 => ("AsWithTheLastModel", "readTold", "[I", true)
  | 12 => ("AsWithTheLastModel", "readKinds", "I", false)
  | 13 => ("AsWithTheLastModel", "readSort", "I", false)
  | 14 => ("AsWithTheLastModel", "readFirst", "I", false)
  | 15 => ("AsWithTheLastModel", "readErrands", "[I", true)
  | 16 => ("AsWithTheLastModel", "readLong", "I", false)
  | 17 => ("AsWithTheLastModel", "did", "I", false)
  | 18 => ("AsWithTheLastModel", "ahead", "[I", true)
  | 19 => ("AsWithTheLastModel", "undoMany", "I", false)
  | 20 => ("AsWithTheLastModel", "aside", "[I", true)
  | 21 => ("AsWithTheLastModel", "done", "[I", true)
  | 22 => ("AsWithTheLastModel", "went", "[I", true)
  | 23 => ("AsWithTheLastModel", "passes", "[I", true)
  | 24 => ("AsWithTheLastModel", "had", "[I", true)
  | 25 => ("AsWithTheLastModel", "bestRow", "[I", true)
  | 26 => ("AsWithTheLastModel", "seenAt", "[I", true)
  | 27 => ("AsWithTheLastModel", "seenDid", "[I", true)
  | 28 => ("AsWithTheLastModel", "seenMany", "I", false)
  | 29 => ("AsWithTheLastModel", "ahead1", "[I", true)
  | 30 => ("AsWithTheLastModel", "ahead2", "[I", true)
  | 31 => ("AsWithTheLastModel", "kept", "[I", true)
  | _ => ("AsWithTheLastModel", "keptMany", "I", false)
def tyX8 : Nat → FieldType := fun k => match k with
  | 0 => .array .int
  | 1 => .int
  | 2 => .int
  | 3 => .int
  | 4 => .array .int
  | 5 => .int
  | 6 => .array .int
  | 7 => .array .int
  | 8 => .int
  | 9 => .int
  | 10 => .array .int
  | 11 => .array .int
  | 12 => .int
  | 13 => .int
  | 14 => .int
  | 15 => .array .int
  | 16 => .int
  | 17 => .int
  | 18 => .array .int
  | 19 => .int
  | 20 => .array .int
  | 21 => .array .int
  | 22 => .array .int
  | 23 => .array .int
  | 24 => .array .int
  | 25 => .array .int
  | 26 => .array .int
  | 27 => .array .int
  | 28 => .int
  | 29 => .array .int
  | 30 => .array .int
  | 31 => .array .int
  | _ => .int
abbrev wsX80 : List Cond := u_ws RX8 TX8 33
theorem nmX8 : ∀ a, a < 33 → ∀ b, b < 33 → a ≠ b → (TX8 a).2.1 ≠ (TX8 b).2.1 := by decide +kernel
theorem tyX8_ok : ∀ k, k < 33 → parseFieldDescriptor (TX8 k).2.2.1 = some (tyX8 k) := by decide +kernel
abbrev cX8_init : ByteArray := prog_10_method_1_code
def yX8_init : MethodName := ⟨RX8, "<init>", "()V"⟩
abbrev cX8_tellKind : ByteArray := prog_10_method_2_code
def yX8_tellKind : MethodName := ⟨RX8, "tellKind", "(IIIII)V"⟩
abbrev cX8_in : ByteArray := prog_10_method_3_code
def yX8_in : MethodName := ⟨RX8, "in", "(JJJ)Z"⟩
abbrev cX8_has : ByteArray := prog_10_method_4_code
def yX8_has : MethodName := ⟨RX8, "has", "(II)Z"⟩
abbrev cX8_ones : ByteArray := prog_10_method_5_code
def yX8_ones : MethodName := ⟨RX8, "ones", "(I)I"⟩
abbrev cX8_isKind : ByteArray := prog_10_method_6_code
def yX8_isKind : MethodName := ⟨RX8, "isKind", "(I)Z"⟩
abbrev cX8_isDoing : ByteArray := prog_10_method_7_code
def yX8_isDoing : MethodName := ⟨RX8, "isDoing", "(I)Z"⟩
abbrev cX8_write : ByteArray := prog_10_method_8_code
def yX8_write : MethodName := ⟨RX8, "write", "(I)I"⟩
abbrev cX8_wipe : ByteArray := prog_10_method_9_code
def yX8_wipe : MethodName := ⟨RX8, "wipe", "()I"⟩
abbrev cX8_readNumbers : ByteArray := prog_10_method_10_code
def yX8_readNumbers : MethodName := ⟨RX8, "readNumbers", "(I)Z"⟩
abbrev cX8_readKind : ByteArray := prog_10_method_11_code
def yX8_readKind : MethodName := ⟨RX8, "readKind", "()Z"⟩
abbrev cX8_readItem : ByteArray := prog_10_method_12_code
def yX8_readItem : MethodName := ⟨RX8, "readItem", "()Z"⟩
abbrev cX8_fault : ByteArray := prog_10_method_13_code
def yX8_fault : MethodName := ⟨RX8, "fault", "()I"⟩
abbrev cX8_lay : ByteArray := prog_10_method_14_code
def yX8_lay : MethodName := ⟨RX8, "lay", "()I"⟩
abbrev cX8_kind : ByteArray := prog_10_method_15_code
def yX8_kind : MethodName := ⟨RX8, "kind", "(II)I"⟩
abbrev cX8_errand : ByteArray := prog_10_method_16_code
def yX8_errand : MethodName := ⟨RX8, "errand", "(I)I"⟩
abbrev cX8_word : ByteArray := prog_10_method_17_code
def yX8_word : MethodName := ⟨RX8, "word", "(I)I"⟩
abbrev cX8_unlikeOf : ByteArray := prog_10_method_18_code
def yX8_unlikeOf : MethodName := ⟨RX8, "unlikeOf", "(II)I"⟩
abbrev cX8_unlike : ByteArray := prog_10_method_19_code
def yX8_unlike : MethodName := ⟨RX8, "unlike", "(II)I"⟩
abbrev cX8_doesBy : ByteArray := prog_10_method_20_code
def yX8_doesBy : MethodName := ⟨RX8, "doesBy", "(III)I"⟩
abbrev cX8_goes : ByteArray := prog_10_method_21_code
def yX8_goes : MethodName := ⟨RX8, "goes", "(II)I"⟩
abbrev cX8_hear : ByteArray := prog_10_method_22_code
def yX8_hear : MethodName := ⟨RX8, "hear", "(II)V"⟩
abbrev cX8_day : ByteArray := prog_10_method_23_code
def yX8_day : MethodName := ⟨RX8, "day", "(III)I"⟩
abbrev cX8_does : ByteArray := prog_10_method_24_code
def yX8_does : MethodName := ⟨RX8, "does", "(II)I"⟩
abbrev cX8_note : ByteArray := prog_10_method_25_code
def yX8_note : MethodName := ⟨RX8, "note", "()V"⟩
abbrev cX8_hand : ByteArray := prog_10_method_26_code
def yX8_hand : MethodName := ⟨RX8, "hand", "(I)I"⟩
abbrev cX8_teach : ByteArray := prog_10_method_27_code
def yX8_teach : MethodName := ⟨RX8, "teach", "(II)I"⟩
abbrev cX8_undo : ByteArray := prog_10_method_28_code
def yX8_undo : MethodName := ⟨RX8, "undo", "()I"⟩
abbrev cX8_tell : ByteArray := prog_10_method_29_code
def yX8_tell : MethodName := ⟨RX8, "tell", "(I)I"⟩
abbrev cX8_noRow : ByteArray := prog_10_method_30_code
def yX8_noRow : MethodName := ⟨RX8, "noRow", "()I"⟩
abbrev cX8_putAside : ByteArray := prog_10_method_31_code
def yX8_putAside : MethodName := ⟨RX8, "putAside", "()V"⟩
abbrev cX8_takeBack : ByteArray := prog_10_method_32_code
def yX8_takeBack : MethodName := ⟨RX8, "takeBack", "()V"⟩
abbrev cX8_runRow : ByteArray := prog_10_method_33_code
def yX8_runRow : MethodName := ⟨RX8, "runRow", "(II)I"⟩
abbrev cX8_tryRow : ByteArray := prog_10_method_34_code
def yX8_tryRow : MethodName := ⟨RX8, "tryRow", "(I)I"⟩
abbrev cX8_run : ByteArray := prog_10_method_35_code
def yX8_run : MethodName := ⟨RX8, "run", "(III)I"⟩
abbrev cX8_isRound : ByteArray := prog_10_method_36_code
def yX8_isRound : MethodName := ⟨RX8, "isRound", "(I)Z"⟩
abbrev cX8_round : ByteArray := prog_10_method_37_code
def yX8_round : MethodName := ⟨RX8, "round", "()I"⟩
abbrev cX8_nextRow : ByteArray := prog_10_method_38_code
def yX8_nextRow : MethodName := ⟨RX8, "nextRow", "()Z"⟩
abbrev cX8_exchange : ByteArray := prog_10_method_39_code
def yX8_exchange : MethodName := ⟨RX8, "exchange", "(II)V"⟩
abbrev cX8_order : ByteArray := prog_10_method_40_code
def yX8_order : MethodName := ⟨RX8, "order", "(I)I"⟩
abbrev cX8_tryTaught : ByteArray := prog_10_method_41_code
def yX8_tryTaught : MethodName := ⟨RX8, "tryTaught", "(II)I"⟩
abbrev cX8_best : ByteArray := prog_10_method_42_code
def yX8_best : MethodName := ⟨RX8, "best", "(I)I"⟩
abbrev cX8_seen : ByteArray := prog_10_method_43_code
def yX8_seen : MethodName := ⟨RX8, "seen", "(II)I"⟩
abbrev cX8_forget : ByteArray := prog_10_method_44_code
def yX8_forget : MethodName := ⟨RX8, "forget", "()I"⟩
abbrev cX8_isFit : ByteArray := prog_10_method_45_code
def yX8_isFit : MethodName := ⟨RX8, "isFit", "(II)Z"⟩
abbrev cX8_fits : ByteArray := prog_10_method_46_code
def yX8_fits : MethodName := ⟨RX8, "fits", "()I"⟩
abbrev cX8_firsts : ByteArray := prog_10_method_47_code
def yX8_firsts : MethodName := ⟨RX8, "firsts", "(I)I"⟩
abbrev cX8_ask : ByteArray := prog_10_method_48_code
def yX8_ask : MethodName := ⟨RX8, "ask", "(I)I"⟩
abbrev cX8_holds : ByteArray := prog_10_method_49_code
def yX8_holds : MethodName := ⟨RX8, "holds", "(II)Z"⟩
abbrev cX8_rule : ByteArray := prog_10_method_50_code
def yX8_rule : MethodName := ⟨RX8, "rule", "(I)I"⟩
abbrev cX8_wrong : ByteArray := prog_10_method_51_code
def yX8_wrong : MethodName := ⟨RX8, "wrong", "(IIZ)I"⟩
abbrev cX8_copyTo : ByteArray := prog_10_method_52_code
def yX8_copyTo : MethodName := ⟨RX8, "copyTo", "([I[I)V"⟩
abbrev cX8_worstDay : ByteArray := prog_10_method_53_code
def yX8_worstDay : MethodName := ⟨RX8, "worstDay", "()I"⟩
abbrev cX8_oneRound : ByteArray := prog_10_method_54_code
def yX8_oneRound : MethodName := ⟨RX8, "oneRound", "()I"⟩
abbrev cX8_worstTwo : ByteArray := prog_10_method_55_code
def yX8_worstTwo : MethodName := ⟨RX8, "worstTwo", "()I"⟩
abbrev cX8_twoRounds : ByteArray := prog_10_method_56_code
def yX8_twoRounds : MethodName := ⟨RX8, "twoRounds", "()I"⟩
abbrev cX8_byTurns : ByteArray := prog_10_method_57_code
def yX8_byTurns : MethodName := ⟨RX8, "byTurns", "(I)I"⟩
abbrev cX8_common : ByteArray := prog_10_method_58_code
def yX8_common : MethodName := ⟨RX8, "common", "(JJ)J"⟩
abbrev cX8_mean : ByteArray := prog_10_method_59_code
def yX8_mean : MethodName := ⟨RX8, "mean", "(II)I"⟩
abbrev cX8_year : ByteArray := prog_10_method_60_code
def yX8_year : MethodName := ⟨RX8, "year", "(III)I"⟩
abbrev cX8_keep : ByteArray := prog_10_method_61_code
def yX8_keep : MethodName := ⟨RX8, "keep", "()I"⟩
abbrev cX8_back : ByteArray := prog_10_method_62_code
def yX8_back : MethodName := ⟨RX8, "back", "()I"⟩
abbrev cX8_count : ByteArray := prog_10_method_63_code
def yX8_count : MethodName := ⟨RX8, "count", "(I)I"⟩
def RJ6 : String := "java/lang/Integer"
def TJ6 : u_T := fun k => match k with
  | _ => ("", "", "", false)
def tyJ6 : Nat → FieldType := fun k => match k with
  | _ => .int
abbrev wsJ60 : List Cond := u_ws RJ6 TJ6 0
theorem nmJ6 : ∀ a, a < 0 → ∀ b, b < 0 → a ≠ b → (TJ6 a).2.1 ≠ (TJ6 b).2.1 := by decide +kernel
theorem tyJ6_ok : ∀ k, k < 0 → parseFieldDescriptor (TJ6 k).2.2.1 = some (tyJ6 k) := by decide +kernel
abbrev cJ6_bitCount_0f7a4 : ByteArray := prog_11_method_49_code
def yJ6_bitCount_0f7a4 : MethodName := ⟨RJ6, "bitCount", "(I)I"⟩
def RJ9 : String := "java/lang/Math"
def TJ9 : u_T := fun k => match k with
  | _ => ("", "", "", false)
def tyJ9 : Nat → FieldType := fun k => match k with
  | _ => .int
abbrev wsJ90 : List Cond := u_ws RJ9 TJ9 0
theorem nmJ9 : ∀ a, a < 0 → ∀ b, b < 0 → a ≠ b → (TJ9 a).2.1 ≠ (TJ9 b).2.1 := by decide +kernel
theorem tyJ9_ok : ∀ k, k < 0 → parseFieldDescriptor (TJ9 k).2.2.1 = some (tyJ9 k) := by decide +kernel
abbrev cJ9_max_7cf53 : ByteArray := prog_12_method_65_code
def yJ9_max_7cf53 : MethodName := ⟨RJ9, "max", "(II)I"⟩
abbrev cJ9_min_7cf53 : ByteArray := prog_12_method_69_code
def yJ9_min_7cf53 : MethodName := ⟨RJ9, "min", "(II)I"⟩
def RJ0 : String := "java/lang/String"
def TJ0 : u_T := fun k => match k with
  | _ => ("", "", "", false)
def tyJ0 : Nat → FieldType := fun k => match k with
  | _ => .int
abbrev wsJ00 : List Cond := u_ws RJ0 TJ0 0
theorem nmJ0 : ∀ a, a < 0 → ∀ b, b < 0 → a ≠ b → (TJ0 a).2.1 ≠ (TJ0 b).2.1 := by decide +kernel
theorem tyJ0_ok : ∀ k, k < 0 → parseFieldDescriptor (TJ0 k).2.2.1 = some (tyJ0 k) := by decide +kernel
abbrev cJ0_length_8abf5 : ByteArray := prog_13_method_54_code
def yJ0_length_8abf5 : MethodName := ⟨RJ0, "length", "()I"⟩
abbrev cJ0_charAt_5068e : ByteArray := prog_13_method_56_code
def yJ0_charAt_5068e : MethodName := ⟨RJ0, "charAt", "(I)C"⟩
abbrev cJ0_coder_7d493 : ByteArray := prog_13_method_152_code
def yJ0_coder_7d493 : MethodName := ⟨RJ0, "coder", "()B"⟩
abbrev cJ0_isLatin1_aae02 : ByteArray := prog_13_method_154_code
def yJ0_isLatin1_aae02 : MethodName := ⟨RJ0, "isLatin1", "()Z"⟩
abbrev cJ0_checkIndex_df160 : ByteArray := prog_13_method_155_code
def yJ0_checkIndex_df160 : MethodName := ⟨RJ0, "checkIndex", "(II)V"⟩
def RJ1 : String := "java/lang/StringLatin1"
def TJ1 : u_T := fun k => match k with
  | _ => ("", "", "", false)
def tyJ1 : Nat → FieldType := fun k => match k with
  | _ => .int
abbrev wsJ10 : List Cond := u_ws RJ1 TJ1 0
theorem nmJ1 : ∀ a, a < 0 → ∀ b, b < 0 → a ≠ b → (TJ1 a).2.1 ≠ (TJ1 b).2.1 := by decide +kernel
theorem tyJ1_ok : ∀ k, k < 0 → parseFieldDescriptor (TJ1 k).2.2.1 = some (tyJ1 k) := by decide +kernel
abbrev cJ1_charAt_3b067 : ByteArray := prog_14_method_2_code
def yJ1_charAt_3b067 : MethodName := ⟨RJ1, "charAt", "([BI)C"⟩
def RJ2 : String := "java/lang/StringUTF16"
def TJ2 : u_T := fun k => match k with
  | _ => ("", "", "", false)
def tyJ2 : Nat → FieldType := fun k => match k with
  | _ => .int
abbrev wsJ20 : List Cond := u_ws RJ2 TJ2 0
theorem nmJ2 : ∀ a, a < 0 → ∀ b, b < 0 → a ≠ b → (TJ2 a).2.1 ≠ (TJ2 b).2.1 := by decide +kernel
theorem tyJ2_ok : ∀ k, k < 0 → parseFieldDescriptor (TJ2 k).2.2.1 = some (tyJ2 k) := by decide +kernel
abbrev cJ2_getChar_3b067 : ByteArray := prog_15_method_5_code
def yJ2_getChar_3b067 : MethodName := ⟨RJ2, "getChar", "([BI)C"⟩
abbrev cJ2_length_9d52b : ByteArray := prog_15_method_6_code
def yJ2_length_9d52b : MethodName := ⟨RJ2, "length", "([B)I"⟩
abbrev cJ2_charAt_3b067 : ByteArray := prog_15_method_83_code
def yJ2_charAt_3b067 : MethodName := ⟨RJ2, "charAt", "([BI)C"⟩
abbrev cJ2_checkIndex_2214a : ByteArray := prog_15_method_91_code
def yJ2_checkIndex_2214a : MethodName := ⟨RJ2, "checkIndex", "(I[B)V"⟩
def RJ10 : String := "java/lang/System"
def TJ10 : u_T := fun k => match k with
  | _ => ("", "", "", false)
def tyJ10 : Nat → FieldType := fun k => match k with
  | _ => .int
abbrev wsJ100 : List Cond := u_ws RJ10 TJ10 0
theorem nmJ10 : ∀ a, a < 0 → ∀ b, b < 0 → a ≠ b → (TJ10 a).2.1 ≠ (TJ10 b).2.1 := by decide +kernel
theorem tyJ10_ok : ∀ k, k < 0 → parseFieldDescriptor (TJ10 k).2.2.1 = some (tyJ10 k) := by decide +kernel
def RJ3 : String := "jdk/internal/util/Preconditions"
def TJ3 : u_T := fun k => match k with
  | _ => ("", "", "", false)
def tyJ3 : Nat → FieldType := fun k => match k with
  | _ => .int
abbrev wsJ30 : List Cond := u_ws RJ3 TJ3 0
theorem nmJ3 : ∀ a, a < 0 → ∀ b, b < 0 → a ≠ b → (TJ3 a).2.1 ≠ (TJ3 b).2.1 := by decide +kernel
theorem tyJ3_ok : ∀ k, k < 0 → parseFieldDescriptor (TJ3 k).2.2.1 = some (tyJ3 k) := by decide +kernel
abbrev cJ3_checkIndex_8e157 : ByteArray := prog_17_method_11_code
def yJ3_checkIndex_8e157 : MethodName := ⟨RJ3, "checkIndex", "(IILjava/util/function/BiFunction;)I"⟩
def RL : String := "AsWithTheLastLaw"
abbrev cL_law : ByteArray := code
def yL_law : MethodName := ⟨RL, "law", "([I)Z"⟩
abbrev vwCl : List vw_C := [(RX0, TX0, 9), (RX1, TX1, 8), (RX2, TX2, 5), (RX3, TX3, 2), (RX4, TX4, 5), (RX5, TX5, 3), (RX6, TX6, 2), (RX7, TX7, 12), (RX8, TX8, 33)]
